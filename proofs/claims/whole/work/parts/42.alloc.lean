section ZAL
variable {Γ : zG} {l0 : Launch} {X : zX} {R : Room} {nL : Nat} {cc : ByteArray} {own : String} {ω : zWd} {cells slots pc : Nat} {lv : List (Option Value)} {st : List Value}
theorem zS_push {A : Nat → Prop} {H0 H H1 : Heap} {locs : List Loc} (h : va_S A H0 H locs) (z : H.size ≤ H1.size) (o : ∀ q : Nat, q < H.size → H1[q]? = H[q]?) : va_S A H0 H1 locs := ⟨Nat.le_trans h.1 z, fun q h1 h2 => (o q (Nat.lt_of_lt_of_le h1 h.1)).trans (h.2.1 q h1 h2), h.2.2⟩
theorem z_new (C : Zc Γ l0 X R nL cc own) {idx ci N : Nat} {Cn : String} {T : u_T} (ty0 : Nat → FieldType) (hin : ∀ w ∈ u_ws Cn T N, w ∈ zTb) (hty : ∀ k, k < N → parseFieldDescriptor (T k).2.2.1 = some (ty0 k)) (hw : Cond.classLink own idx Cn ∈ zTb) (hi : Cond.instantiable Cn N ∈ zTb) (hini : Cond.initialized Cn ∈ zTb) (hc : vwCl[ci]? = some (Cn, T, N)) {fs : List Value} (hfs : ∀ j, j < N → defaultValue (ty0 j) = vp_V fs j) (hcells : cells + 1 ≤ R.cells) (hslots : slots + N ≤ R.slots) (hd : decode cc pc = .ok (.new idx, 3)) (kk : Zw Γ (zN ω (zOb ci fs)) (cells + 1) (slots + N) (pc + 3) lv (.ref ω.2 :: st)) : Zw Γ ω cells slots pc lv st := by
  obtain ⟨p, l, e, R, s, m, args, below, meth, c, Q, X, A, nL⟩ := Γ
  obtain ⟨hx, hb, hml, hown, hts, hK, hA, rfl, rfl, rfl, rfl⟩ := C
  intro H locs ls hP hG hS hl
  have hKn := hK.1.1 ci _ hc
  refine W.newcK hx hb hown (hts _ hw) (hts _ hi) (hts _ hini) rfl hd hcells hslots hKn.2.1 hP.1 fun H1 kC hkC e1 z1 o1 => ?_
  rw [← hP.1] at z1 o1 e1
  refine kk H1 locs ls (hP.push ⟨_, hc, (u_born ty0 hts hin hKn hkC e1 hty).to hfs⟩ z1 o1) (zG_push hG (hA _ (by rw [← hP.1]; exact hS.1))) (zS_push hS (by omega) o1) hl
theorem zI_n0 {n : Int} (h : 0 ≤ n ∧ n < 2147483648) : ¬ zI n < 0 := by
  rw [zI_0, zI_lt (by omega) (by omega)]; omega
theorem z_newI (C : Zc Γ l0 X R nL cc own) {n : Int} {N : Nat} (hn : n = N) (hn2 : N ≤ 100000) (hw : Cond.arrayClass .int ∈ zTb) (hcells : cells + 1 ≤ R.cells) (hslots : slots + N ≤ R.slots) (hd : decode cc pc = .ok (.newarray .int, 2)) (kk : Zw Γ (zN ω (zAI X N (fun _ => 0))) (cells + 1) (slots + N) (pc + 2) lv (.ref ω.2 :: st)) : Zw Γ ω cells slots pc lv (.int (zI n) :: st) := by
  obtain ⟨p, l, e, R, s, m, args, below, meth, c, Q, X, A, nL⟩ := Γ
  obtain ⟨hx, hb, hml, hown, hts, hK, hA, rfl, rfl, rfl, rfl⟩ := C
  intro H locs ls hP hG hS hl
  refine va_newaK (atype := .int) (N := N) hx hb (hts _ hw) rfl hd rfl (zI_n0 (by omega)) (by rw [zI_clamp (by omega) (by omega)]; omega) (by show N * 4 ≤ _; omega) hcells hslots hP.1 fun H1 cA e1 z1 o1 hAr hNm => ?_
  rw [← hP.1] at z1 o1 e1
  have hc : cA = X.2.1.1 := Option.some.inj (hNm.symm.trans (hK.1.2 0 _ rfl).2)
  subst hc
  refine kk H1 locs ls (hP.push (by show H1[H.size]? = some (vp_cell _ _); rw [e1, vp_cell_i]; rfl) z1 o1) (zG_push hG (hA _ (by rw [← hP.1]; exact hS.1))) (zS_push hS (by omega) o1) hl
theorem z_newJ (C : Zc Γ l0 X R nL cc own) {n : Int} {N : Nat} (hn : n = N) (hn2 : N ≤ 100000) (hw : Cond.arrayClass .long ∈ zTb) (hcells : cells + 1 ≤ R.cells) (hslots : slots + N ≤ R.slots) (hd : decode cc pc = .ok (.newarray .long, 2)) (kk : Zw Γ (zN ω (zAJ X N (fun _ => 0))) (cells + 1) (slots + N) (pc + 2) lv (.ref ω.2 :: st)) : Zw Γ ω cells slots pc lv (.int (zI n) :: st) := by
  obtain ⟨p, l, e, R, s, m, args, below, meth, c, Q, X, A, nL⟩ := Γ
  obtain ⟨hx, hb, hml, hown, hts, hK, hA, rfl, rfl, rfl, rfl⟩ := C
  intro H locs ls hP hG hS hl
  refine va_newaK (atype := .long) (N := N) hx hb (hts _ hw) rfl hd rfl (zI_n0 (by omega)) (by rw [zI_clamp (by omega) (by omega)]; omega) (by show N * 8 ≤ _; omega) hcells hslots hP.1 fun H1 cA e1 z1 o1 hAr hNm => ?_
  rw [← hP.1] at z1 o1 e1
  have hc : cA = X.2.1.2 := Option.some.inj (hNm.symm.trans (hK.1.2 1 _ rfl).2)
  subst hc
  refine kk H1 locs ls (hP.push (by show H1[H.size]? = some (vp_cell _ _); rw [e1, vp_cell_l]; rfl) z1 o1) (zG_push hG (hA _ (by rw [← hP.1]; exact hS.1))) (zS_push hS (by omega) o1) hl
theorem z_anewB (C : Zc Γ l0 X R nL cc own) {idx : Nat} {n : Int} {N : Nat} (hn : n = N) (hn2 : N ≤ 100000) (hw : Cond.classLink own idx RX0 ∈ zTb) (hcells : cells + 1 ≤ R.cells) (hslots : slots + N ≤ R.slots) (hd : decode cc pc = .ok (.anewarray idx, 3)) (kk : Zw Γ (zN ω (zAB X N (fun _ => none))) (cells + 1) (slots + N) (pc + 3) lv (.ref ω.2 :: st)) : Zw Γ ω cells slots pc lv (.int (zI n) :: st) := by
  obtain ⟨p, l, e, R, s, m, args, below, meth, c, Q, X, A, nL⟩ := Γ
  obtain ⟨hx, hb, hml, hown, hts, hK, hA, rfl, rfl, rfl, rfl⟩ := C
  intro H locs ls hP hG hS hl
  have hcl : (zI n).toNatClampNeg = N := by rw [zI_clamp (by omega) (by omega)]; omega
  refine W.anew hx hb hown (hts _ hw) (va_AO.use hK.2.2.1) rfl hd rfl (zI_n0 (by omega)) (by rw [hcl]; omega) hcells (by rw [hcl]; exact hslots) fun cA kA comp f1 f2 f3 f4 => ?_
  rw [hcl]
  obtain ⟨-, kA2, comp2, -, -, -, h4⟩ := hK.1.2 2 _ rfl
  have hc : cA = X.2.2.1 := Option.some.inj (f1.symm.trans h4)
  subst hc
  have h := kk (H.push ({ cls := X.2.2.1, slots := Array.replicate N .null, vm := .none } : Cell)) locs ls (hP.push (by show (H.push _)[H.size]? = some (vp_cell _ _); rw [Array.getElem?_push_size, vp_cell_q, arrV_new]; rfl) (by simp) (fun q hq => by rw [Array.getElem?_push, if_neg (Nat.ne_of_lt hq)])) (zG_push hG (hA _ (by rw [← hP.1]; exact hS.1))) (zS_push hS (by simp) (fun q hq => by rw [Array.getElem?_push, if_neg (Nat.ne_of_lt hq)])) hl
  rw [← hP.1] at h
  exact h
theorem z_anewR (C : Zc Γ l0 X R nL cc own) {idx : Nat} {n : Int} {N : Nat} (hn : n = N) (hn2 : N ≤ 100000) (hw : Cond.classLink own idx (FieldType.array .int).toString ∈ zTb) (hcells : cells + 1 ≤ R.cells) (hslots : slots + N ≤ R.slots) (hd : decode cc pc = .ok (.anewarray idx, 3)) (kk : Zw Γ (zN ω (zAR X N (fun _ => none))) (cells + 1) (slots + N) (pc + 3) lv (.ref ω.2 :: st)) : Zw Γ ω cells slots pc lv (.int (zI n) :: st) := by
  obtain ⟨p, l, e, R, s, m, args, below, meth, c, Q, X, A, nL⟩ := Γ
  obtain ⟨hx, hb, hml, hown, hts, hK, hA, rfl, rfl, rfl, rfl⟩ := C
  intro H locs ls hP hG hS hl
  have hcl : (zI n).toNatClampNeg = N := by rw [zI_clamp (by omega) (by omega)]; omega
  refine W.anewA (t := .int) hx hb hown (hts _ hw) hK.2.2.2.1 rfl hd rfl (zI_n0 (by omega)) (by rw [hcl]; omega) hcells (by rw [hcl]; exact hslots) fun cA kA comp f1 f2 f3 f4 => ?_
  rw [hcl]
  have h4 := (hK.1.2 3 _ rfl).2
  have hc : cA = X.2.2.2 := Option.some.inj (f1.symm.trans h4)
  subst hc
  have h := kk (H.push ({ cls := X.2.2.2, slots := Array.replicate N .null, vm := .none } : Cell)) locs ls (hP.push (by show (H.push _)[H.size]? = some (vp_cell _ _); rw [Array.getElem?_push_size, vp_cell_q, arrV_new]; rfl) (by simp) (fun q hq => by rw [Array.getElem?_push, if_neg (Nat.ne_of_lt hq)])) (zG_push hG (hA _ (by rw [← hP.1]; exact hS.1))) (zS_push hS (by simp) (fun q hq => by rw [Array.getElem?_push, if_neg (Nat.ne_of_lt hq)])) hl
  rw [← hP.1] at h
  exact h
theorem zarr_c {c : ClassId} {N : Nat} {f g : Nat → Value} (h : ∀ j, j < N → f j = g j) : arrV c N f = arrV c N g := by
  unfold arrV
  congr 2
  funext j
  exact h j.val j.isLt
theorem zouter (c : ClassId) (N h0 : Nat) : ∀ i, Jvm.Free.Multi.outerC c N h0 i = arrV c N (fun j => va_rf (if j < i then some (h0 + 1 + j) else none))
  | 0 => by
    show ({ cls := c, slots := Array.replicate N .null, vm := .none } : Cell) = _
    rw [arrV_new]
    exact zarr_c (fun j _ => by rw [if_neg (by omega)]; rfl)
  | i + 1 => by
    show (Jvm.Free.Multi.outerC c N h0 i).setSlot i (.ref (h0 + 1 + i)) = _
    rw [zouter c N h0 i, arrV_store]
    refine zarr_c (fun j _ => ?_)
    unfold updV
    by_cases e : j = i
    · rw [if_pos e, if_pos (by omega), e]; rfl
    · rw [if_neg e]
      (try dsimp only)
      by_cases e2 : j < i
      · rw [if_pos e2, if_pos (by omega)]
      · rw [if_neg e2, if_neg (by omega)]
/-- an array of N arrays of K ints, at the heap's end, they behind it -/
def zM (X : zX) (ω : zWd) (N K : Nat) : zWd := (fun b => if b = ω.2 then some (zAR X N (fun i => some (ω.2 + 1 + i.toNat))) else if ω.2 < b ∧ b < ω.2 + 1 + N then some (zAI X K (fun _ => 0)) else ω.1 b, ω.2 + 1 + N)
theorem z_multi (C : Zc Γ l0 X R nL cc own) {idx : Nat} {n k : Int} {N K : Nat} (hn : n = N) (hn2 : N ≤ 100000) (hk : k = K) (hk2 : K ≤ 100000) (hw : Cond.classLink own idx ("[" ++ (FieldType.array .int).toString) ∈ zTb) (hw2 : Cond.arrayClass .int ∈ zTb) (hcells : cells + (1 + N) ≤ R.cells) (hslots : slots + (N + N * K) ≤ R.slots) (hd : decode cc pc = .ok (.multianewarray idx 2, 4)) (kk : Zw Γ (zM X ω N K) (cells + (1 + N)) (slots + (N + N * K)) (pc + 4) lv (.ref ω.2 :: st)) : Zw Γ ω cells slots pc lv (.int (zI k) :: .int (zI n) :: st) := by
  obtain ⟨p, l, e, R, s, m, args, below, meth, c, Q, X, A, nL⟩ := Γ
  obtain ⟨hx, hb, hml, hown, hts, hK, hA, rfl, rfl, rfl, rfl⟩ := C
  intro H locs ls hP hG hS hl
  have hcl : (zI n).toNatClampNeg = N := by rw [zI_clamp (by omega) (by omega)]; omega
  have hck : (zI k).toNatClampNeg = K := by rw [zI_clamp (by omega) (by omega)]; omega
  intro T hT Xs
  obtain ⟨vm₁, cA, comp, -, fA, fC, hO, -, X', step⟩ := Xs.multianewarray2F (ty := .int) hx hown (hts _ hw) hK.2.2.2.1 (hts _ hw2) (g := F0 m pc ls (.int (zI k) :: .int (zI n) :: st)) rfl (by rw [hb]; exact hd) rfl (zI_n0 (by omega)) (zI_n0 (by omega)) (by rw [hcl]; omega) (by rw [hck]; show K * 4 ≤ _; omega) (by rw [hck]; omega) rfl rfl (by rw [hcl]; exact hcells) (by rw [hcl, hck]; exact hslots)
  rw [hcl, hck] at X' step
  have hcA : cA = X.2.2.2 := Option.some.inj (fA.symm.trans (hK.1.2 3 _ rfl).2)
  have hco : comp = X.2.1.1 := Option.some.inj (fC.symm.trans (hK.1.2 0 _ rfl).2)
  subst hcA
  subst hco
  have hTh : (T.setVm vm₁).heap = H := hT
  have hold : ∀ x : Nat, x < H.size → (Jvm.Free.Multi.fill (T.setVm vm₁) X.2.2.2 X.2.1.1 N K (defaultValue .int) N).heap[x]? = H[x]? := fun x hx => by
    rw [Jvm.Free.Multi.fill_old (T.setVm vm₁) _ _ _ _ _ (by rw [hTh]; exact hx), hTh]
  have hinn : ∀ j : Nat, j < N → (Jvm.Free.Multi.fill (T.setVm vm₁) X.2.2.2 X.2.1.1 N K (defaultValue .int) N).heap[H.size + 1 + j]? = some (Jvm.Free.Multi.innerC X.2.1.1 K (defaultValue .int)) := fun j hj => by
    have := Jvm.Free.Multi.fill_inner (T.setVm vm₁) X.2.2.2 X.2.1.1 N K (defaultValue .int) N j hj
    rw [hTh] at this
    exact this
  obtain ⟨f1, f2, -, -⟩ := Jvm.Free.Multi.fill_facts (T.setVm vm₁) X.2.2.2 X.2.1.1 N K (defaultValue .int) N
  rw [hTh] at f1 f2
  have hout : Jvm.Free.Multi.outerC X.2.2.2 N H.size N = arrV X.2.2.2 N (fun j => va_rf (some (H.size + 1 + j))) := by
    rw [zouter]
    exact zarr_c (fun j hj => by rw [if_pos hj])
  rw [hout] at f2
  generalize hF : Jvm.Free.Multi.fill (T.setVm vm₁) X.2.2.2 X.2.1.1 N K (defaultValue .int) N = F at *
  have hP1 : zP X (zM X ω N K) F.heap := by
    refine ⟨by rw [f1, hP.1]; rfl, ?_⟩
    intro b y hy
    by_cases e1 : b = ω.2
    · subst e1
      simp [zM] at hy
      subst hy
      show F.heap[ω.2]? = some (vp_cell _ _)
      rw [← hP.1, f2, vp_cell_q]
      congr 2
    · by_cases e2 : ω.2 < b ∧ b < ω.2 + 1 + N
      · simp only [zM, if_neg e1, if_pos e2, Option.some.injEq] at hy
        subst hy
        show F.heap[b]? = some (vp_cell _ _)
        have h := hinn (b - (H.size + 1)) (by rw [hP.1]; omega)
        rw [show H.size + 1 + (b - (H.size + 1)) = b by rw [hP.1]; omega] at h
        rw [h, vp_cell_i]
        show some ({ cls := X.2.1.1, slots := Array.replicate K _, vm := .none } : Cell) = _
        rw [arrV_new]
        rfl
      · simp only [zM, if_neg e1, if_neg e2] at hy
        exact (hP.2 b y hy).kept (hold b (hP.2 b y hy).lt)
  have hz : ω.2 = H.size := hP.1.symm
  obtain ⟨t2, a1, b1⟩ := kk F.heap locs ls hP1 (fun b y hy => by
    by_cases e1 : b = ω.2
    · exact hA _ (by rw [e1, hz]; exact hS.1)
    · by_cases e2 : ω.2 < b ∧ b < ω.2 + 1 + N
      · exact hA _ (Nat.le_trans hS.1 (by rw [← hz]; omega))
      · simp only [zM, if_neg e1, if_neg e2] at hy
        exact hG b y hy) (zS_push hS (by rw [f1]; omega) hold) hl F rfl (by
    have e3 : cells + (1 + N) = cells + 1 + N := by omega
    have e4 : slots + (N + N * K) = slots + N + N * K := by omega
    rw [e3, e4]
    exact X')
  refine ⟨t2, step t2 ?_, b1⟩
  have hTs : T.heap.size = ω.2 := by rw [hT]; exact hP.1
  rw [hTs]
  exact a1
theorem zup_cl {α : Type} {f : Int → α} {i : Int} {v : α} {n : Nat} (hi : 0 ≤ i ∧ i < n) (hc : (zI i).toNatClampNeg = i.toNat) (j : Nat) : zup f i v (j : Int) = (fun q => if q = (zI i).toNatClampNeg then v else f (q : Int)) j := by
  show (if (j : Int) = i then v else f j) = if j = (zI i).toNatClampNeg then v else f j
  rw [hc]
  by_cases e : (j : Int) = i
  · rw [if_pos e, if_pos (by omega)]
  · rw [if_neg e, if_neg (by omega)]
theorem z_aastB (C : Zc Γ l0 X R nL cc own) {a n v : Nat} {f : Int → Option Nat} {i : Int} {fs : List Value} (he : ω.1 a = some (zAB X n f)) (hv : ω.1 v = some (zOb 0 fs)) (hd : decode cc pc = .ok (.aastore, 1)) (kk : Zw Γ (zU ω a (zAB X n (zup f i (some v)))) cells slots (pc + 1) lv st) (hi : 0 ≤ i ∧ i < n ∧ i < 2147483648 := by omega) : Zw Γ ω cells slots pc lv (.ref v :: .int (zI i) :: .ref a :: st) := by
  obtain ⟨p, l, e, R, s, m, args, below, meth, c, Q, X, A, nL⟩ := Γ
  obtain ⟨hx, hb, hml, hown, hts, hK, hA, rfl, rfl, rfl, rfl⟩ := C
  intro H locs ls hP hG hS hl
  have hin := zI_in hi.1 hi.2.1 hi.2.2
  have hc := zI_clamp hi.1 hi.2.2
  have hlt : (zI i).toNatClampNeg < n := by rw [hc]; omega
  obtain ⟨r', hr', cellV, g1, g2, g3, -⟩ := hP.2 v _ hv
  have hcls := (hK.1.1 0 _ rfl).2
  obtain ⟨-, kA, comp, k1, k2, k3, -⟩ := hK.1.2 2 _ rfl
  have hcomp : comp = X.1.1 0 := Option.some.inj (k3.symm.trans hcls.1)
  subst hcomp
  obtain ⟨kC, hkC, -⟩ := hcls.2
  refine W.aast hx hb (hP.2 a _ he) (fun q h => by cases h) (fun h => by cases h) k1 k2 rfl hkC ⟨fun q => hin (Or.inl q), by show _ < (arrV _ _ _).slots.size; rw [arrV_size]; exact hlt⟩ g1 (fun q h => by rw [g3] at h; cases h) (by rw [g2]; exact hkC) (by rw [g2]; exact va_assign hcls) rfl rfl hd fun H1 e z oq => ?_
  refine kk H1 _ ls (hP.set ?_ z oq) (zG_set hG (hG a _ he)) (hS.put z oq (hG a _ he)) hl
  show H1[a]? = some (vp_cell _ _)
  rw [e]
  show some ((vp_cell X.2.2.1 _).setSlot _ _) = _
  rw [vp_cell_q, vp_cell_q, arrV_store]
  congr 2
  funext q
  rw [zup_cl ⟨hi.1, hi.2.1⟩ hc]
  show updV _ _ _ q = va_rf (if q = _ then _ else _)
  unfold updV
  split <;> rfl
theorem z_aastR (C : Zc Γ l0 X R nL cc own) {a n v k : Nat} {f : Int → Option Nat} {g : Int → Int} {i : Int} (he : ω.1 a = some (zAR X n f)) (hv : ω.1 v = some (zAI X k g)) (hd : decode cc pc = .ok (.aastore, 1)) (kk : Zw Γ (zU ω a (zAR X n (zup f i (some v)))) cells slots (pc + 1) lv st) (hi : 0 ≤ i ∧ i < n ∧ i < 2147483648 := by omega) : Zw Γ ω cells slots pc lv (.ref v :: .int (zI i) :: .ref a :: st) := by
  obtain ⟨p, l, e, R, s, m, args, below, meth, c, Q, X, A, nL⟩ := Γ
  obtain ⟨hx, hb, hml, hown, hts, hK, hA, rfl, rfl, rfl, rfl⟩ := C
  intro H locs ls hP hG hS hl
  have hin := zI_in hi.1 hi.2.1 hi.2.2
  have hc := zI_clamp hi.1 hi.2.2
  have hlt : (zI i).toNatClampNeg < n := by rw [hc]; omega
  have g1 : H[v]? = some (vp_cell X.2.1.1 _) := hP.2 v _ hv
  rw [vp_cell_i] at g1
  obtain ⟨kA, k1, k2⟩ := hK.2.1
  obtain ⟨-, kI, hkI, -⟩ := (hK.1.2 0 _ rfl).1 0 (fun _ => .null)
  refine W.aast hx hb (hP.2 a _ he) (fun q h => by cases h) (fun h => by cases h) k1 k2 rfl hkI ⟨fun q => hin (Or.inl q), by show _ < (arrV _ _ _).slots.size; rw [arrV_size]; exact hlt⟩ g1 (fun q h => by cases h) hkI (by show Vm.assignableAux s.vm (255 + 1) X.2.1.1 X.2.1.1 = true; rw [Vm.assignableAux, Bool.or_eq_true]; exact Or.inl (beq_self_eq_true _)) rfl rfl hd fun H1 e z oq => ?_
  refine kk H1 _ ls (hP.set ?_ z oq) (zG_set hG (hG a _ he)) (hS.put z oq (hG a _ he)) hl
  show H1[a]? = some (vp_cell _ _)
  rw [e]
  show some ((vp_cell X.2.2.2 _).setSlot _ _) = _
  rw [vp_cell_q, vp_cell_q, arrV_store]
  congr 2
  funext q
  rw [zup_cl ⟨hi.1, hi.2.1⟩ hc]
  show updV _ _ _ q = va_rf (if q = _ then _ else _)
  unfold updV
  split <;> rfl
theorem z_aaloadRN (C : Zc Γ l0 X R nL cc own) {a n : Nat} {f : Int → Option Nat} {i : Int} (he : ω.1 a = some (zAR X n f)) (hf0 : f i = none) (hd : decode cc pc = .ok (.aaload, 1)) (kk : Zw Γ ω cells slots (pc + 1) lv (.null :: st)) (hi : 0 ≤ i ∧ i < n ∧ i < 2147483648 := by omega) : Zw Γ ω cells slots pc lv (.int (zI i) :: .ref a :: st) := by
  obtain ⟨p, l, e, R, s, m, args, below, meth, c, Q, X, A, nL⟩ := Γ
  obtain ⟨hx, hb, hml, hown, hts, hK, hA, rfl, rfl, rfl, rfl⟩ := C
  have kk : Zw (p, l, e, R, s, m, args, below, meth, c, Q, X, A, nL) ω cells slots (pc + 1) lv (va_rf (f i) :: st) := by rw [hf0]; exact kk
  intro H locs ls hP hG hS hl
  have hin := zI_in hi.1 hi.2.1 hi.2.2
  have hc := zI_clamp hi.1 hi.2.2
  have hlt : (zI i).toNatClampNeg < n := by rw [hc]; omega
  have hf : f (((zI i).toNatClampNeg : Nat) : Int) = f i := by rw [hc, Int.toNat_of_nonneg hi.1]
  refine W.aald (v := va_rf (f i)) (ty := .array .int) hx hb (hP.2 a _ he) ((hK.1.2 3 _ rfl).1 n (fun j => va_rf (f (j : Int)))) rfl (fun q => by cases q) (by show ¬ (zI i < 0 ∨ (arrV _ _ _).slots.size ≤ _); rw [arrV_size]; exact hin) (by show (arrV _ _ _).slots[_]? = _; rw [arrV_read _ _ hlt]; show some (va_rf (f (((zI i).toNatClampNeg : Nat) : Int))) = _; rw [hf]) rfl rfl hd (kk H locs ls hP hG hS hl)
theorem z_objInit (C : Zc Γ l0 X R nL cc own) {idx a : Nat} (hw : Cond.methodLink own idx objectInit ∈ zTb) (hw1 : Cond.instanceMethod objectInit ∈ zTb) (hw2 : Cond.code objectInit ⟨#[0xb1]⟩ 1 none ∈ zTb) (hr : 1 ≤ R.frames ∧ 24 ≤ R.locals) (hst : (st.map fun v => v.category).sum ≤ 8) (hd : decode cc pc = .ok (.invokespecial idx, 3)) (kk : Zw Γ ω cells slots (pc + 3) lv st) : Zw Γ ω cells slots pc lv (.ref a :: st) := by
  obtain ⟨p, l, e, R, s, m, args, below, meth, c, Q, X, A, nL⟩ := Γ
  obtain ⟨hx, hb, hml, hown, hts, hK, hA, rfl, rfl, rfl, rfl⟩ := C
  intro H locs ls hP hG hS hl
  exact W.objInit hx hb hown (hts _ hw) (hts _ hw1) (hts _ hw2) rfl (hl.1.trans hml.symm) rfl hd hr.1 (by simp only [JFrame.monitorRoom]; have := hr.2; simp; omega) (kk H locs ls hP hG hS hl)
theorem z_callI (C : Zc Γ l0 X R nL cc own) {idx b n nL' : Nat} {y : MethodName} {cc' : ByteArray} {rm : Room} {As rest : List Value} {post : Option Value → zWd → Prop}
    (M : zMet l0 y cc' nL' none rm X (.ref b :: As) ω post) (hy1 : y.name = "<init>") (hw : Cond.methodLink own idx y ∈ zTb) (hwc : Cond.code y cc' nL' none ∈ zTb ∧ Cond.instanceMethod y ∈ zTb ∧ Cond.initialized y.cls ∈ zTb) (hy : zYn y n) (hst : st = As.reverse ++ .ref b :: rest) (hn : As.length = n) (hrm : zRm R rm nL') (hrest : (rest.map fun v => v.category).sum ≤ 8) (hd : decode cc pc = .ok (.invokespecial idx, 3)) (hf : cells + rm.cells ≤ R.cells ∧ slots + rm.slots ≤ R.slots)
    (k : ∀ (v : Option Value) (ω' : zWd), post v ω' → Zw Γ ω' (cells + rm.cells) (slots + rm.slots) (pc + 3) lv (v.toList ++ rest)) : Zw Γ ω cells slots pc lv st := by
  obtain ⟨p, l, e, R, s, m, args, below, meth, c, Q, X, A, nL⟩ := Γ
  obtain ⟨hx, hb, hml, hown, hts, hK, hA, rfl, rfl, rfl, rfl⟩ := C
  intro H locs ls hP hG hS hl
  have hr := va_runI (H := H) (locs := locs) (cells := cells) (slots := slots) (below := below) (e := e) (meth := meth) (As := As) (rest := rest) (b := b) (g := F0 m pc ls st) ⟨hx, hb, hml, hown, hts⟩ M (cwI (R := R) n hts (z_goodC hwc.1) rfl rfl rfl (hts _ hwc.2.2) (hts _ hw) (hts _ hwc.2.1) hy1 ⟨hy.1, hy.2.1, hy.2.2⟩ hrm) ⟨z_blind, fun U hU hW => ⟨rfl, by rw [hU]; exact hP, hK.moved hW⟩⟩ rfl hn hl.1 hst (by simp only [JFrame.monitorRoom]; simpa using hrest) hd hf
  exact z_run hr hP hG hS hA hl k
theorem z_callIN (C : Zc Γ l0 X R nL cc own) {idx b n nL' : Nat} {y : MethodName} {cc' : ByteArray} {rm : Room} {As rest : List Value} {post : Option Value → zWd → Prop}
    (M : zMet l0 y cc' nL' none rm X (.ref b :: As) ω post) (hy1 : y.name = "<init>") (hw : Cond.methodLinkNest own idx y RX6 ∈ zNest) (hwc : Cond.code y cc' nL' none ∈ zTb ∧ Cond.instanceMethod y ∈ zTb ∧ Cond.initialized y.cls ∈ zTb) (hy : zYn y n) (hst : st = As.reverse ++ .ref b :: rest) (hn : As.length = n) (hrm : zRm R rm nL') (hrest : (rest.map fun v => v.category).sum ≤ 8) (hd : decode cc pc = .ok (.invokespecial idx, 3)) (hf : cells + rm.cells ≤ R.cells ∧ slots + rm.slots ≤ R.slots)
    (k : ∀ (v : Option Value) (ω' : zWd), post v ω' → Zw Γ ω' (cells + rm.cells) (slots + rm.slots) (pc + 3) lv (v.toList ++ rest)) : Zw Γ ω cells slots pc lv st := by
  obtain ⟨p, l, e, R, s, m, args, below, meth, c, Q, X, A, nL⟩ := Γ
  obtain ⟨hx, hb, hml, hown, hts, hK, hA, rfl, rfl, rfl, rfl⟩ := C
  intro H locs ls hP hG hS hl
  have hr := va_runIN (H := H) (locs := locs) (cells := cells) (slots := slots) (below := below) (e := e) (meth := meth) (As := As) (rest := rest) (b := b) (g := F0 m pc ls st) ⟨hx, hb, hml, hown, hts⟩ M ⟨va_cnB (R := R) n hts (z_goodC hwc.1) rfl rfl rfl (hK.2.2.2.2 _ hw) (hts _ hwc.2.2) ⟨hy.1, hy.2.1, hy.2.2⟩ hrm, hy1, hts _ hwc.2.1⟩ ⟨z_blind, fun U hU hW => ⟨rfl, by rw [hU]; exact hP, hK.moved hW⟩⟩ rfl hn hl.1 hst (by simp only [JFrame.monitorRoom]; simpa using hrest) hd hf
  exact z_run hr hP hG hS hA hl k
end ZAL
