section ZHP
variable {Γ : zG} {l0 : Launch} {X : zX} {R : Room} {nL : Nat} {cc : ByteArray} {own : String} {ω : zWd} {cells slots pc : Nat} {lv : List (Option Value)} {st : List Value}
theorem z_sing {X : zX} {ω : zWd} {H : Heap} {a : Nat} {x : va_E} (hP : zP X ω H) (he : ω.1 a = some x) : va_P X.1 vwCl [(a, x)] H := by
  intro k q hk
  have hz : k < 1 := (List.getElem?_eq_some_iff.mp hk).1
  rw [show k = 0 by omega] at hk
  cases hk
  exact hP.2 a x he
theorem z_get (C : Zc Γ l0 X R nL cc own) {ref Cn : String} {T : u_T} {N ci idx : Nat} {fs : List Value} {v : Value} {a : Nat} (hin : ∀ w ∈ u_ws Cn T N, w ∈ zTb) (hc : vwCl[ci]? = some (Cn, T, N)) (k : Nat) (hk : k < N) (hw : Cond.fieldLink own idx ref (T k).2.1 (T k).2.2.1 ∈ zTb) (hr : (T k).1 = ref)
    (he : ω.1 a = some (zOb ci fs)) (hv : fs[k]? = some v) (hd : decode cc pc = .ok (.getfield idx, 3)) (kk : Zw Γ ω cells slots (pc + 3) lv (v :: st)) : Zw Γ ω cells slots pc lv (.ref a :: st) := by
  obtain ⟨p, l, e, R, s, m, args, below, meth, c, Q, X, A, nL⟩ := Γ
  obtain ⟨hx, hb, hml, hown, hts, hK, hA, rfl, rfl, rfl, rfl⟩ := C
  intro H locs ls hP hG hS hl
  subst hr
  exact va_get hx hb hts hin hown hK.1 (z_sing hP he) 0 rfl hc k hk (hts _ hw) (fun _ h9 => h9) hv hd (kk H locs ls hP hG hS hl)
theorem z_put (C : Zc Γ l0 X R nL cc own) {ref Cn : String} {T : u_T} {N ci idx : Nat} {fs : List Value} {v : Value} {a : Nat} {ty : FieldType} (ty0 : Nat → FieldType) (hin : ∀ w ∈ u_ws Cn T N, w ∈ zTb) (hty : ∀ k, k < N → parseFieldDescriptor (T k).2.2.1 = some (ty0 k)) (hnm : ∀ a, a < N → ∀ b, b < N → a ≠ b → (T a).2.1 ≠ (T b).2.1) (hc : vwCl[ci]? = some (Cn, T, N)) (k : Nat) (hk : k < N) (hw : Cond.fieldLink own idx ref (T k).2.1 (T k).2.2.1 ∈ zTb) (hr : (T k).1 = ref) (hfin : (T k).2.2.2 = false) (hd0 : parseFieldDescriptor (T k).2.2.1 = some ty)
    (he : ω.1 a = some (zOb ci fs)) (hl0 : k < fs.length) (hn : narrow ty v = v) (hfit : fits ty v = true) (hd : decode cc pc = .ok (.putfield idx, 3)) (kk : Zw Γ (zU ω a (zOb ci (fs.set k v))) cells slots (pc + 3) lv st) : Zw Γ ω cells slots pc lv (v :: .ref a :: st) := by
  obtain ⟨p, l, e, R, s, m, args, below, meth, c, Q, X, A, nL⟩ := Γ
  obtain ⟨hx, hb, hml, hown, hts, hK, hA, rfl, rfl, rfl, rfl⟩ := C
  intro H locs ls hP hG hS hl
  subst hr
  have hap := va_apart (own := own) hts hin ty0 hty hnm hK.1 hc
  obtain ⟨r, h1, cell, q1, q2, q3, q4⟩ := hP.2 a _ he
  have hr : r = (Cn, T, N) := Option.some.inj (h1.symm.trans hc)
  subst hr
  obtain ⟨hSl, hfc, kC, hkC, hkind⟩ := hK.1.1 ci _ hc
  obtain ⟨cf, kf, fi, f, hi, hsl⟩ := hSl k hk
  have hlay := hts _ (hin _ (u_in_lay hk))
  unfold u_lay at hlay
  rw [if_neg (by rw [hfin]; decide)] at hlay
  have hst := (u_facts hfc hkC (u_lays hts hin hk) hi).1
  have h6 := u_store hfc hkC hkind hlay hi hd0 hn hfit
  refine W.putK hx hb (f := f) ⟨hown, hts _ hw, ⟨_, _, _, hi⟩, hst⟩ (by rw [q2]; exact h6) q1 q3 (by rw [hsl]; exact k2_hasslot (q4 k hk)) rfl rfl hd fun H' e1 e2 e3 => ?_
  rw [hsl] at e1 ⊢
  exact kk H' _ ls (hP.set ⟨_, hc, t_OB.to (V := updV (vp_V fs) k v) ⟨_, e1, q2, q3, t_set q4 hap hk v⟩ (fun j _ => vp_updV_set hl0 v j)⟩ e2 e3) (zG_set hG (hG a _ he)) (hS.put e2 e3 (hG a _ he)) hl
theorem z_putF (C : Zc Γ l0 X R nL cc own) (hin2 : Γ.2.2.2.2.2.2.2.2.1.name = "<init>") {ref Cn : String} {T : u_T} {N ci idx : Nat} {fs : List Value} {v : Value} {a : Nat} {ty : FieldType} (ty0 : Nat → FieldType) (hin : ∀ w ∈ u_ws Cn T N, w ∈ zTb) (hty : ∀ k, k < N → parseFieldDescriptor (T k).2.2.1 = some (ty0 k)) (hnm : ∀ a, a < N → ∀ b, b < N → a ≠ b → (T a).2.1 ≠ (T b).2.1) (hc : vwCl[ci]? = some (Cn, T, N)) (k : Nat) (hk : k < N) (hw : Cond.fieldLink own idx ref (T k).2.1 (T k).2.2.1 ∈ zTb) (hr : (T k).1 = ref) (hfin : (T k).2.2.2 = true) (hdecl : (T k).1 = own) (hd0 : parseFieldDescriptor (T k).2.2.1 = some ty)
    (he : ω.1 a = some (zOb ci fs)) (hl0 : k < fs.length) (hn : narrow ty v = v) (hfit : fits ty v = true) (hd : decode cc pc = .ok (.putfield idx, 3)) (kk : Zw Γ (zU ω a (zOb ci (fs.set k v))) cells slots (pc + 3) lv st) : Zw Γ ω cells slots pc lv (v :: .ref a :: st) := by
  obtain ⟨p, l, e, R, s, m, args, below, meth, c, Q, X, A, nL⟩ := Γ
  obtain ⟨hx, hb, hml, hown, hts, hK, hA, rfl, rfl, rfl, rfl⟩ := C
  intro H locs ls hP hG hS hl
  subst hr
  have hap := va_apart (own := own) hts hin ty0 hty hnm hK.1 hc
  obtain ⟨r, h1, cell, q1, q2, q3, q4⟩ := hP.2 a _ he
  have hr : r = (Cn, T, N) := Option.some.inj (h1.symm.trans hc)
  subst hr
  obtain ⟨hSl, hfc, kC, hkC, hkind⟩ := hK.1.1 ci _ hc
  obtain ⟨cf, kf, fi, f, hi, hsl⟩ := hSl k hk
  have hlay := hts _ (hin _ (u_in_lay hk))
  unfold u_lay at hlay
  rw [if_pos hfin] at hlay
  have hst := (u_facts hfc hkC (u_lays hts hin hk) hi).1
  have hcf : m.cls = cf := by
    obtain ⟨_, _, c', _, _, _, -, -, hf', -, -, -, hown2, -⟩ := Cond.laysFinal_spec hlay
    have e1 : c' = cf := by have := hi.symm.trans hf'; simp at this; exact this.1.symm
    rw [hdecl] at hown2
    rw [← e1]; exact Option.some.inj (hown.symm.trans hown2)
  have h6 := u_fits hfc hkC hkind (Or.inr hlay) hi hd0 hn hfit
  refine W.putFinK hx hb hown (hts _ hw) hi hst hcf hin2 (by rw [q2]; exact h6) q1 q3 (by rw [hsl]; exact k2_hasslot (q4 k hk)) rfl rfl hd fun H' e1 e2 e3 => ?_
  rw [hsl] at e1 ⊢
  exact kk H' _ ls (hP.set ⟨_, hc, t_OB.to (V := updV (vp_V fs) k v) ⟨_, e1, q2, q3, t_set q4 hap hk v⟩ (fun j _ => vp_updV_set hl0 v j)⟩ e2 e3) (zG_set hG (hG a _ he)) (hS.put e2 e3 (hG a _ he)) hl
theorem z_iaload (C : Zc Γ l0 X R nL cc own) {a n : Nat} {f : Int → Int} {i : Int} (he : ω.1 a = some (zAI X n f)) (hd : decode cc pc = .ok (.iaload, 1)) (kk : Zw Γ ω cells slots (pc + 1) lv (.int (zI (f i)) :: st)) (hi : 0 ≤ i ∧ i < n ∧ i < 2147483648 := by omega) : Zw Γ ω cells slots pc lv (.int (zI i) :: .ref a :: st) := by
  obtain ⟨p, l, e, R, s, m, args, below, meth, c, Q, X, A, nL⟩ := Γ
  obtain ⟨hx, hb, hml, hown, hts, hK, hA, rfl, rfl, rfl, rfl⟩ := C
  intro H locs ls hP hG hS hl
  have hin := zI_in hi.1 hi.2.1 hi.2.2
  have hc := zI_clamp hi.1 hi.2.2
  have hlt : (zI i).toNatClampNeg < n := by rw [hc]; omega
  have hf : f (((zI i).toNatClampNeg : Nat) : Int) = f i := by rw [hc, Int.toNat_of_nonneg hi.1]
  refine W.iald (v := .int (zI (f i))) hx hb (hP.2 a _ he) ((hK.1.2 0 _ rfl).1 n (fun j => .int (zI (f (j : Int))))) (fun q => by cases q) (by show ¬ (zI i < 0 ∨ (arrV _ _ _).slots.size ≤ _); rw [arrV_size]; exact hin) (by show (arrV _ _ _).slots[_]? = _; rw [arrV_read _ _ hlt]; show some (Value.int (zI (f (((zI i).toNatClampNeg : Nat) : Int)))) = _; rw [hf]) rfl rfl hd (kk H locs ls hP hG hS hl)
theorem z_laload (C : Zc Γ l0 X R nL cc own) {a n : Nat} {f : Int → Int} {i : Int} (he : ω.1 a = some (zAJ X n f)) (hd : decode cc pc = .ok (.laload, 1)) (kk : Zw Γ ω cells slots (pc + 1) lv (.long (zJ (f i)) :: st)) (hi : 0 ≤ i ∧ i < n ∧ i < 2147483648 := by omega) : Zw Γ ω cells slots pc lv (.int (zI i) :: .ref a :: st) := by
  obtain ⟨p, l, e, R, s, m, args, below, meth, c, Q, X, A, nL⟩ := Γ
  obtain ⟨hx, hb, hml, hown, hts, hK, hA, rfl, rfl, rfl, rfl⟩ := C
  intro H locs ls hP hG hS hl
  have hin := zI_in hi.1 hi.2.1 hi.2.2
  have hc := zI_clamp hi.1 hi.2.2
  have hlt : (zI i).toNatClampNeg < n := by rw [hc]; omega
  have hf : f (((zI i).toNatClampNeg : Nat) : Int) = f i := by rw [hc, Int.toNat_of_nonneg hi.1]
  refine W.lald (v := .long (zJ (f i))) hx hb (hP.2 a _ he) ((hK.1.2 1 _ rfl).1 n (fun j => .long (zJ (f (j : Int))))) (fun q => by cases q) (by show ¬ (zI i < 0 ∨ (arrV _ _ _).slots.size ≤ _); rw [arrV_size]; exact hin) (by show (arrV _ _ _).slots[_]? = _; rw [arrV_read _ _ hlt]; show some (Value.long (zJ (f (((zI i).toNatClampNeg : Nat) : Int)))) = _; rw [hf]) rfl rfl hd (kk H locs ls hP hG hS hl)
theorem z_aaloadB (C : Zc Γ l0 X R nL cc own) {a n : Nat} {f : Int → Option Nat} {i : Int} (he : ω.1 a = some (zAB X n f)) {r : Nat} (hf0 : f i = some r) (hd : decode cc pc = .ok (.aaload, 1)) (kk : Zw Γ ω cells slots (pc + 1) lv (.ref r :: st)) (hi : 0 ≤ i ∧ i < n ∧ i < 2147483648 := by omega) : Zw Γ ω cells slots pc lv (.int (zI i) :: .ref a :: st) := by
  obtain ⟨p, l, e, R, s, m, args, below, meth, c, Q, X, A, nL⟩ := Γ
  obtain ⟨hx, hb, hml, hown, hts, hK, hA, rfl, rfl, rfl, rfl⟩ := C
  have kk : Zw (p, l, e, R, s, m, args, below, meth, c, Q, X, A, nL) ω cells slots (pc + 1) lv (va_rf (f i) :: st) := by rw [hf0]; exact kk
  intro H locs ls hP hG hS hl
  have hin := zI_in hi.1 hi.2.1 hi.2.2
  have hc := zI_clamp hi.1 hi.2.2
  have hlt : (zI i).toNatClampNeg < n := by rw [hc]; omega
  have hf : f (((zI i).toNatClampNeg : Nat) : Int) = f i := by rw [hc, Int.toNat_of_nonneg hi.1]
  refine W.aald (v := va_rf (f i)) (ty := .object RX0) hx hb (hP.2 a _ he) ((hK.1.2 2 _ rfl).1 n (fun j => va_rf (f (j : Int)))) rfl (fun q => by cases q) (by show ¬ (zI i < 0 ∨ (arrV _ _ _).slots.size ≤ _); rw [arrV_size]; exact hin) (by show (arrV _ _ _).slots[_]? = _; rw [arrV_read _ _ hlt]; show some (va_rf (f (((zI i).toNatClampNeg : Nat) : Int))) = _; rw [hf]) rfl rfl hd (kk H locs ls hP hG hS hl)
theorem z_aaload (C : Zc Γ l0 X R nL cc own) {a n : Nat} {f : Int → Option Nat} {i : Int} (he : ω.1 a = some (zAR X n f)) {r : Nat} (hf0 : f i = some r) (hd : decode cc pc = .ok (.aaload, 1)) (kk : Zw Γ ω cells slots (pc + 1) lv (.ref r :: st)) (hi : 0 ≤ i ∧ i < n ∧ i < 2147483648 := by omega) : Zw Γ ω cells slots pc lv (.int (zI i) :: .ref a :: st) := by
  obtain ⟨p, l, e, R, s, m, args, below, meth, c, Q, X, A, nL⟩ := Γ
  obtain ⟨hx, hb, hml, hown, hts, hK, hA, rfl, rfl, rfl, rfl⟩ := C
  have kk : Zw (p, l, e, R, s, m, args, below, meth, c, Q, X, A, nL) ω cells slots (pc + 1) lv (va_rf (f i) :: st) := by rw [hf0]; exact kk
  intro H locs ls hP hG hS hl
  have hin := zI_in hi.1 hi.2.1 hi.2.2
  have hc := zI_clamp hi.1 hi.2.2
  have hlt : (zI i).toNatClampNeg < n := by rw [hc]; omega
  have hf : f (((zI i).toNatClampNeg : Nat) : Int) = f i := by rw [hc, Int.toNat_of_nonneg hi.1]
  refine W.aald (v := va_rf (f i)) (ty := .array .int) hx hb (hP.2 a _ he) ((hK.1.2 3 _ rfl).1 n (fun j => va_rf (f (j : Int)))) rfl (fun q => by cases q) (by show ¬ (zI i < 0 ∨ (arrV _ _ _).slots.size ≤ _); rw [arrV_size]; exact hin) (by show (arrV _ _ _).slots[_]? = _; rw [arrV_read _ _ hlt]; show some (va_rf (f (((zI i).toNatClampNeg : Nat) : Int))) = _; rw [hf]) rfl rfl hd (kk H locs ls hP hG hS hl)
theorem z_iastore (C : Zc Γ l0 X R nL cc own) {a n : Nat} {f : Int → Int} {i v : Int} (he : ω.1 a = some (zAI X n f)) (hd : decode cc pc = .ok (.iastore, 1)) (kk : Zw Γ (zU ω a (zAI X n (zup f i v))) cells slots (pc + 1) lv st) (hi : 0 ≤ i ∧ i < n ∧ i < 2147483648 := by omega) : Zw Γ ω cells slots pc lv (.int (zI v) :: .int (zI i) :: .ref a :: st) := by
  obtain ⟨p, l, e, R, s, m, args, below, meth, c, Q, X, A, nL⟩ := Γ
  obtain ⟨hx, hb, hml, hown, hts, hK, hA, rfl, rfl, rfl, rfl⟩ := C
  intro H locs ls hP hG hS hl
  refine W.iast hx hb (hP.2 a _ he) ((hK.1.2 0 _ rfl).1 n (fun j => .int (zI (f (j : Int))))) (fun q => by cases q) (by show ¬ (zI i < 0 ∨ (arrV _ _ _).slots.size ≤ _); rw [arrV_size]; exact zI_in hi.1 hi.2.1 hi.2.2) rfl rfl hd fun H1 e z oq => ?_
  refine kk H1 _ ls (hP.set ?_ z oq) (zG_set hG (hG a _ he)) (hS.put z oq (hG a _ he)) hl
  show H1[a]? = some (vp_cell _ _)
  rw [e, vp_cell_i]
  show some ((arrV _ _ _).setSlot _ _) = some (arrV X.2.1.1 n (fun j => .int (zI (zup f i v (j : Int)))))
  rw [arrV_store, zI_clamp hi.1 hi.2.2]
  refine congrArg (fun z => some (arrV X.2.1.1 n z)) ?_
  funext q
  by_cases hq : q = i.toNat
  · subst hq
    simp [updV, zup, Int.toNat_of_nonneg hi.1]
  · have : ¬ ((q : Int) = i) := by omega
    simp [updV, zup, hq, this]
theorem z_lastore (C : Zc Γ l0 X R nL cc own) {a n : Nat} {f : Int → Int} {i v : Int} (he : ω.1 a = some (zAJ X n f)) (hd : decode cc pc = .ok (.lastore, 1)) (kk : Zw Γ (zU ω a (zAJ X n (zup f i v))) cells slots (pc + 1) lv st) (hi : 0 ≤ i ∧ i < n ∧ i < 2147483648 := by omega) : Zw Γ ω cells slots pc lv (.long (zJ v) :: .int (zI i) :: .ref a :: st) := by
  obtain ⟨p, l, e, R, s, m, args, below, meth, c, Q, X, A, nL⟩ := Γ
  obtain ⟨hx, hb, hml, hown, hts, hK, hA, rfl, rfl, rfl, rfl⟩ := C
  intro H locs ls hP hG hS hl
  refine W.last hx hb (hP.2 a _ he) ((hK.1.2 1 _ rfl).1 n (fun j => .long (zJ (f (j : Int))))) (fun q => by cases q) (by show ¬ (zI i < 0 ∨ (arrV _ _ _).slots.size ≤ _); rw [arrV_size]; exact zI_in hi.1 hi.2.1 hi.2.2) rfl rfl hd fun H1 e z oq => ?_
  refine kk H1 _ ls (hP.set ?_ z oq) (zG_set hG (hG a _ he)) (hS.put z oq (hG a _ he)) hl
  show H1[a]? = some (vp_cell _ _)
  rw [e, vp_cell_l]
  show some ((arrV _ _ _).setSlot _ _) = some (arrV X.2.1.2 n (fun j => .long (zJ (zup f i v (j : Int)))))
  rw [arrV_store, zI_clamp hi.1 hi.2.2]
  refine congrArg (fun z => some (arrV X.2.1.2 n z)) ?_
  funext q
  by_cases hq : q = i.toNat
  · subst hq
    simp [updV, zup, Int.toNat_of_nonneg hi.1]
  · have : ¬ ((q : Int) = i) := by omega
    simp [updV, zup, hq, this]
theorem z_alenI (C : Zc Γ l0 X R nL cc own) {a n : Nat} {f : Int → Int} (he : ω.1 a = some (zAI X n f)) (hd : decode cc pc = .ok (.arraylength, 1)) (kk : Zw Γ ω cells slots (pc + 1) lv (.int (zI n) :: st)) : Zw Γ ω cells slots pc lv (.ref a :: st) := by
  obtain ⟨p, l, e, R, s, m, args, below, meth, c, Q, X, A, nL⟩ := Γ
  obtain ⟨hx, hb, hml, hown, hts, hK, hA, rfl, rfl, rfl, rfl⟩ := C
  intro H locs ls hP hG hS hl
  exact va_alen hx hb hK.1 (z_sing hP he) 0 0 rfl rfl (zI_n n) hd (kk H locs ls hP hG hS hl)
theorem z_alenJ (C : Zc Γ l0 X R nL cc own) {a n : Nat} {f : Int → Int} (he : ω.1 a = some (zAJ X n f)) (hd : decode cc pc = .ok (.arraylength, 1)) (kk : Zw Γ ω cells slots (pc + 1) lv (.int (zI n) :: st)) : Zw Γ ω cells slots pc lv (.ref a :: st) := by
  obtain ⟨p, l, e, R, s, m, args, below, meth, c, Q, X, A, nL⟩ := Γ
  obtain ⟨hx, hb, hml, hown, hts, hK, hA, rfl, rfl, rfl, rfl⟩ := C
  intro H locs ls hP hG hS hl
  exact va_alen hx hb hK.1 (z_sing hP he) 0 1 rfl rfl (zI_n n) hd (kk H locs ls hP hG hS hl)
theorem z_alenB (C : Zc Γ l0 X R nL cc own) {a n : Nat} {f : Int → Option Nat} (he : ω.1 a = some (zAB X n f)) (hd : decode cc pc = .ok (.arraylength, 1)) (kk : Zw Γ ω cells slots (pc + 1) lv (.int (zI n) :: st)) : Zw Γ ω cells slots pc lv (.ref a :: st) := by
  obtain ⟨p, l, e, R, s, m, args, below, meth, c, Q, X, A, nL⟩ := Γ
  obtain ⟨hx, hb, hml, hown, hts, hK, hA, rfl, rfl, rfl, rfl⟩ := C
  intro H locs ls hP hG hS hl
  exact va_alen hx hb hK.1 (z_sing hP he) 0 2 rfl rfl (zI_n n) hd (kk H locs ls hP hG hS hl)
theorem z_widen {c' s' : Nat} (h1 : cells ≤ c') (h2 : slots ≤ s') (k : Zw Γ ω c' s' pc lv st) : Zw Γ ω cells slots pc lv st := by
  obtain ⟨p, l, e, R, s, m, args, below, meth, c, Q, X, A, nL⟩ := Γ
  intro H locs ls hP hG hS hl
  exact W.widen h1 h2 (k H locs ls hP hG hS hl)
end ZHP
