/-! THE CLAIM OUT OF ONE WALK OF THE LAW'S BODY. Your part is whole_start (and what it stands on); all else here is the same for every law, but numbers. -/
def R_law : String := "RuinHouseLaw"
def lw_P (b : Addr) (xs : List Int32) (args : Array Value) (s : State) : Prop := args = #[.ref b] ∧ s.IntsAt b xs ∧ xs.length ≤ 3072 ∧ (Jvm.Cond.and given_1 narrow_1).before args s = true
def lw_Q (_ : Array Value) (s : State) (o : Outcome) (t : State) : Prop := o = .returned (some (.int 1)) ∧ Framed s o t [] 600000 7302250
def lw_Z (below : List Frame) (a : Array Value) (s : State) : State → Prop := fun t => ∃ o, t.status = .running ∧ Ended t below o ∧ lw_Q a s o t
/-- the law's own end, with 1 on the stack, nothing written that was there before, its room as the claim has it -/
theorem lw_ret {p : Program} {l : Launch} {e : Env} {s : State} {m : MethodId} {below : List Frame} {meth : Method} {c : Code} {b : Nat} (hx : p.tables.exec = Jvm.exec) (hb : c.code = code) (hr : meth.sig.returnType = ret) (hlocks : meth.locks = false) {pc : Nat} {H : Heap} {ls : Array Slot} (hdg : decode code pc = .ok (.ireturn, 1)) : W p l e room_1 s m #[Value.ref b] below meth c H [] 600000 7302250 (lw_Z below #[Value.ref b] s) (F0 m pc ls [.int 1]) := by
  intro T hT X
  obtain ⟨fs, hret, hrun, hended, hW, hframe⟩ := X.leave (v := some (.int 1)) (hlocks := hlocks) (fun h => by rw [hr] at h; cases h)
  have hmeth' : T.vm.method? m = some meth := X.method'
  refine ⟨T.setFrames fs, ?_, .returned (some (.int 1)), hrun, hended, rfl, ⟨_, rfl⟩, hW, hframe⟩
  jvm_step X.here [X.here.top, hx, hb, hdg, hmeth', hr, ret, narrow_b1]
  (try refine ⟨rfl, ?_⟩); (try refine ⟨rfl, ?_⟩)
  first | (intro acts; rw [hret _ acts rfl rfl rfl]) | rw [hret _ _ rfl rfl rfl]
  exact Steps.refl _
/-- what holds at the law's entry: the machine, the code, the tables' words (any of lw_tbl by 'hts w (by decide +kernel)'), the script of L ints xs at the cell b, what the Statement gives of the start (any of its parts by flat_of_before) -/
def lw_At (p : Program) (s : State) (m : MethodId) (meth : Method) (c : Code) (b L : Nat) (xs : Nat → Int32) : Prop :=
  p.tables.exec = Jvm.exec ∧ c.code = code ∧ meth.sig.returnType = ret ∧ c.maxLocals = 4 ∧ s.vm.findClass R_law = some m.cls ∧ (∀ w ∈ lw_tbl, w.before #[Value.ref b] s = true) ∧ va_X b L xs s s.heap ∧ b < s.heap.size ∧ meth.locks = false ∧ (Jvm.Cond.and given_1 narrow_1).before #[Value.ref b] s = true
set_option maxRecDepth 100000 in
set_option maxHeartbeats 4000000 in
/-- the classes and arrays, out of the tables' words -/
theorem z_known {args : Array Value} {s : State} (hts : ∀ w ∈ lw_tbl, w.before args s = true) : ∃ X : zX, zK X s := by
  have htz : ∀ w ∈ zTb, w.before args s = true := fun w hw => hts w (List.mem_filter.mp hw).1
  obtain ⟨c0, i0, k0⟩ := u_known (C := RX0) (T := TX0) (N := 1) (n := 1) htz iX0 (htz _ in_X0)
  obtain ⟨c1, i1, k1⟩ := u_known (C := RX1) (T := TX1) (N := 4) (n := 4) htz iX1 (htz _ in_X1)
  obtain ⟨c2, i2, k2⟩ := u_known (C := RX2) (T := TX2) (N := 4) (n := 4) htz iX2 (htz _ in_X2)
  obtain ⟨c3, i3, k3⟩ := u_known (C := RX3) (T := TX3) (N := 5) (n := 5) htz iX3 (htz _ in_X3)
  obtain ⟨c4, i4, k4⟩ := u_known (C := RX4) (T := TX4) (N := 4) (n := 4) htz iX4 (htz _ in_X4)
  obtain ⟨c5, i5, k5⟩ := u_known (C := RX5) (T := TX5) (N := 9) (n := 9) htz iX5 (htz _ in_X5)
  obtain ⟨c6, i6, k6⟩ := u_known (C := RX6) (T := TX6) (N := 11) (n := 11) htz iX6 (htz _ in_X6)
  obtain ⟨c7, i7, k7⟩ := u_known (C := RX7) (T := TX7) (N := 24) (n := 24) htz iX7 (htz _ in_X7)
  obtain ⟨cI, kI, pI, fI, gI, eI⟩ := Cond.arrayClass_spec (htz _ ac_int)
  obtain ⟨cJ, kJ, pJ, fJ, gJ, eJ⟩ := Cond.arrayClass_spec (htz _ ac_long)
  have hB : (Cond.arrayOver (.object RX0)).before args s = true := hts _ (List.mem_append_right _ (List.mem_of_getElem? (i := 21) (by decide +kernel)))
  have hA : (Cond.arrayOver (.array .int)).before args s = true := hts _ (List.mem_append_right _ (List.mem_of_getElem? (i := 520) (by decide +kernel)))
  obtain ⟨pB, cB, kB, b1, -, b3, b4, b5⟩ := Cond.arrayOver_spec hB
  obtain ⟨pA, cR, kA, a1, -, a3, a4, a5⟩ := arrayOverA_spec hA
  have epa : pA = cI := Option.some.inj (a1.symm.trans fI)
  refine ⟨((fun k => [c0, c1, c2, c3, c4, c5, c6, c7].getD k c0, fun k => [i0, i1, i2, i3, i4, i5, i6, i7].getD k i0), (cI, cJ), (cB, cR)), ⟨?_, ?_⟩, ⟨kA, a3, by rw [a4, epa]⟩, hB, hA, ?_⟩
  · intro k q hq
    match k, hq with
    | 0, hq => cases hq; exact k0
    | 1, hq => cases hq; exact k1
    | 2, hq => cases hq; exact k2
    | 3, hq => cases hq; exact k3
    | 4, hq => cases hq; exact k4
    | 5, hq => cases hq; exact k5
    | 6, hq => cases hq; exact k6
    | 7, hq => cases hq; exact k7
    | k + 8, hq => simp [vwCl] at hq
  · intro k q hq
    match k, hq with
    | 0, hq => cases hq; exact ⟨fun N z => ⟨(fun k h => by cases h), kI, gI, pI, eI⟩, fI⟩
    | 1, hq => cases hq; exact ⟨fun N z => ⟨(fun k h => by cases h), kJ, gJ, pJ, eJ⟩, fJ⟩
    | 2, hq => cases hq; exact ⟨fun N z => ⟨(fun k h => by cases h), kB, b3, pB, b4⟩, kB, pB, b3, b4, b1, b5⟩
    | 3, hq => cases hq; exact ⟨fun N z => ⟨(fun k h => by cases h), kA, a3, pA, a4⟩, a5⟩
    | k + 4, hq => simp [zTys] at hq
  · intro w hw
    simp only [zNest, List.mem_cons, List.not_mem_nil, or_false] at hw
    rcases hw with rfl | rfl | rfl | rfl | rfl | rfl
    · exact va_Nw.of rfl (hts _ (List.mem_append_right _ (List.mem_of_getElem? (i := 24) (by decide +kernel))))
    · exact va_Nw.of rfl (hts _ (List.mem_append_right _ (List.mem_of_getElem? (i := 30) (by decide +kernel))))
    · exact va_Nw.of rfl (hts _ (List.mem_append_right _ (List.mem_of_getElem? (i := 113) (by decide +kernel))))
    · exact va_Nw.of rfl (hts _ (List.mem_append_right _ (List.mem_of_getElem? (i := 118) (by decide +kernel))))
    · exact va_Nw.of rfl (hts _ (List.mem_append_right _ (List.mem_of_getElem? (i := 141) (by decide +kernel))))
    · exact va_Nw.of rfl (hts _ (List.mem_append_right _ (List.mem_of_getElem? (i := 163) (by decide +kernel))))
/-- the law's script -/
def zSc (Γ : zG) (b L : Nat) (xs : Nat → Int32) : Prop := match Γ with
  | (p, l, e, R, s, m, args, below, meth, c, Q, X, A, nL) => va_X b L xs s s.heap ∧ b < s.heap.size ∧ ¬ A b ∧ L ≤ 3072
theorem zSc.l {Γ : zG} {b L : Nat} {xs : Nat → Int32} (S : zSc Γ b L xs) : L ≤ 3072 := by
  obtain ⟨p, l, e, R, s, m, args, below, meth, c, Q, X, A, nL⟩ := Γ
  exact S.2.2.2
section ZLW
variable {Γ : zG} {l0 : Launch} {X : zX} {R : Room} {nL : Nat} {cc : ByteArray} {own : String} {ω : zWd} {cells slots pc : Nat} {lv : List (Option Value)} {st : List Value}
theorem z_sld (C : Zc Γ l0 X R nL cc own) {b L : Nat} {xs : Nat → Int32} (S : zSc Γ b L xs) {i : Int} (k : Nat) {y : Int} (hk : i = (k : Int)) (hkL : k < L) (hy : xs k = zI y) (hd : decode cc pc = .ok (.iaload, 1)) (kk : Zw Γ ω cells slots (pc + 1) lv (.int (zI y) :: st)) : Zw Γ ω cells slots pc lv (.int (zI i) :: .ref b :: st) := by
  obtain ⟨p, l, e, R, s, m, args, below, meth, c, Q, X, A, nL⟩ := Γ
  obtain ⟨hx, hb, hml, hown, hts, hK, hA, rfl, rfl, rfl, rfl⟩ := C
  obtain ⟨s1, s2, s3, s4⟩ := S
  intro H locs ls hP hG hS hl
  subst hk
  have hin : vp_in (zI (k : Int)) L := zI_in (by omega) (by omega) (by omega)
  refine va_sld hx hb s1 s2 s3 hS hin hd ?_
  rw [zI_clamp (by omega) (by omega), show ((k : Int)).toNat = k by omega, hy]
  exact kk H locs ls hP hG hS hl
theorem z_slen (C : Zc Γ l0 X R nL cc own) {b L : Nat} {xs : Nat → Int32} (S : zSc Γ b L xs) (hd : decode cc pc = .ok (.arraylength, 1)) (kk : Zw Γ ω cells slots (pc + 1) lv (.int (zI (L : Int)) :: st)) : Zw Γ ω cells slots pc lv (.ref b :: st) := by
  obtain ⟨p, l, e, R, s, m, args, below, meth, c, Q, X, A, nL⟩ := Γ
  obtain ⟨hx, hb, hml, hown, hts, hK, hA, rfl, rfl, rfl, rfl⟩ := C
  obtain ⟨s1, s2, s3, s4⟩ := S
  intro H locs ls hP hG hS hl
  refine va_slen hx hb s1 s2 s3 hS hd ?_
  rw [zI_n]
  exact kk H locs ls hP hG hS hl
theorem z_tab (C : Zc Γ l0 X R nL cc own) {dflt lo hi : Int} {offs : Array Int} {len : Nat} {v off : Int} {tgt : Nat} (hd : decode cc pc = .ok (.tableswitch dflt lo hi offs, len)) (hv : -2147483648 ≤ v ∧ v < 2147483648) (h1 : lo ≤ v ∧ v ≤ hi) (ho : offs[(v - lo).toNat]? = some off) (ht : (pc : Int) + off = (tgt : Int)) (kk : Zw Γ ω cells slots tgt lv st) : Zw Γ ω cells slots pc lv (.int (zI v) :: st) := by
  obtain ⟨p, l, e, R, s, m, args, below, meth, c, Q, X, A, nL⟩ := Γ
  obtain ⟨hx, hb, hml, hown, hts, hK, hA, rfl, rfl, rfl, rfl⟩ := C
  intro H locs ls hP hG hS hl
  exact lv_tableIn hx hb hd (by rw [zI_t hv]; omega) (by rw [zI_t hv]; omega) (by rw [zI_t hv]; exact ho) ht (kk H locs ls hP hG hS hl)
theorem z_icmp_same (C : Zc Γ l0 X R nL cc own) {a : Int} {off : Int} {tgt : Nat} (hd : decode cc pc = .ok (.if_icmp .eq off, 3)) (ht : (pc : Int) + off = (tgt : Int)) (kt : Zw Γ ω cells slots tgt lv st) : Zw Γ ω cells slots pc lv (.int (zI a) :: .int (zI a) :: st) := by
  obtain ⟨p, l, e, R, s, m, args, below, meth, c, Q, X, A, nL⟩ := Γ
  obtain ⟨hx, hb, hml, hown, hts, hK, hA, rfl, rfl, rfl, rfl⟩ := C
  intro H locs ls hP hG hS hl
  exact lv_icmp_eq hx hb hd ht (fun _ => kt H locs ls hP hG hS hl) (fun h => absurd rfl h)
theorem z_congI (C : Zc Γ l0 X R nL cc own) {a n : Nat} {f g : Int → Int} (he : ω.1 a = some (zAI X n f)) (h : ∀ k : Int, 0 ≤ k → k < n → f k = g k) (kk : Zw Γ (zU ω a (zAI X n g)) cells slots pc lv st) : Zw Γ ω cells slots pc lv st := by
  obtain ⟨p, l, e, R, s, m, args, below, meth, c, Q, X, A, nL⟩ := Γ
  obtain ⟨hx, hb, hml, hown, hts, hK, hA, rfl, rfl, rfl, rfl⟩ := C
  intro H locs ls hP hG hS hl
  refine kk H locs ls (hP.set ?_ rfl (fun q _ => rfl)) (zG_set hG (hG a _ he)) hS hl
  have h1 : H[a]? = some (vp_cell X.2.1.1 _) := hP.2 a _ he
  show H[a]? = some (vp_cell _ _)
  rw [h1, vp_cell_i, vp_cell_i]
  congr 1
  exact zarr_c (fun j hj => by rw [h (j : Int) (by omega) (by omega)])
end ZLW
theorem zRH.fr {X : zX} {ω ω2 : zWd} {x : Nat} {bk : Nat → Int → Int} {nv : Int} {np : Nat} {tv dv : Int → Int} {rt : Nat} (hR : zRH X ω x bk nv np tv dv rt) (hkk : ∀ b, x ≤ b → b < x + 58 → ω2.1 b = ω.1 b) : zRH X ω2 x bk nv np tv dv rt := by
  obtain ⟨gm, gN, gB, gT, gD, hX, hBs, hMv, hWk, hPk, hFv, hNu, hNc, hBo, hBc, hTk, hTc, hDp, hDc, hBk, hbk, hVN, hVT, hVD⟩ := hR
  exact ⟨gm, gN, gB, gT, gD, (by rw [hkk _ (by omega) (by omega)]; exact hX), (by rw [hkk _ (by omega) (by omega)]; exact hBs), (by rw [hkk _ (by omega) (by omega)]; exact hMv), hWk.imp fun T h => h.imp fun Wh h => h.imp fun cp h => h.imp fun wt h => h.fr (fun b h1 h2 => hkk b (by omega) (by omega)), (by obtain ⟨T, Wh, cp, wt, gu, gn, un, rn, h⟩ := hPk; exact ⟨T, Wh, cp, wt, gu, gn, un, rn, h.fr (fun b h1 h2 => hkk b (by omega) (by omega))⟩), (by obtain ⟨gst, gsm, gpw, grs, h⟩ := hFv; exact ⟨gst, gsm, gpw, grs, h.fr (fun b h1 h2 => hkk b (by omega) (by omega))⟩), (by rw [hkk _ (by omega) (by omega)]; exact hNu), (by rw [hkk _ (by omega) (by omega)]; exact hNc), (by rw [hkk _ (by omega) (by omega)]; exact hBo), (by rw [hkk _ (by omega) (by omega)]; exact hBc), (by rw [hkk _ (by omega) (by omega)]; exact hTk), (by rw [hkk _ (by omega) (by omega)]; exact hTc), (by rw [hkk _ (by omega) (by omega)]; exact hDp), (by rw [hkk _ (by omega) (by omega)]; exact hDc), (fun k hk => ⟨(by rw [hkk _ (by omega) (by omega)]; exact (hBk k hk).1), (by rw [hkk _ (by omega) (by omega)]; exact (hBk k hk).2)⟩), hbk, hVN, hVT, hVD⟩
theorem zRH.x {X : zX} {ω : zWd} {x : Nat} {bk : Nat → Int → Int} {nv : Int} {np : Nat} {tv dv : Int → Int} {rt : Nat} (hR : zRH X ω x bk nv np tv dv rt) : ∃ fs, ω.1 x = some (zOb 6 fs) := by
  obtain ⟨gm, gN, gB, gT, gD, hX, hBs, hMv, hWk, hPk, hFv, hNu, hNc, hBo, hBc, hTk, hTc, hDp, hDc, hBk, hbk, hVN, hVT, hVD⟩ := hR
  exact ⟨_, hX⟩
theorem zMD.x {X : zX} {ω : zWd} {m : Nat} {bk : Nat → Int → Int} {nv : Int} {bh : Nat} {tv dv : Nat → Int} {rt c : Nat} (hR : zMD X ω m bk nv bh tv dv rt c) : ∃ fs, ω.1 m = some (zOb 7 fs) := by
  obtain ⟨gN, gm, g1, g2, g3, g4, g5, g6, g7, hM, hPt, hNu, hTk, hDp, hMd, hOn, hAl, hNx, hRa, hRb, hSu, hBn, hDd, hPw, hPr, hRe, hWo, hLa, hBe, hOt, hBt, hbk, hVn⟩ := hR
  exact ⟨_, hM⟩
theorem zMD.pt {X : zX} {ω : zWd} {m : Nat} {bk : Nat → Int → Int} {nv : Int} {bh : Nat} {tv dv : Nat → Int} {rt c : Nat} (hR : zMD X ω m bk nv bh tv dv rt c) : zMx X ω (m + 1) 8 21 bk ∧ ∀ k : Nat, k < 8 → zBk (bk k) := by
  obtain ⟨gN, gm, g1, g2, g3, g4, g5, g6, g7, hM, hPt, hNu, hTk, hDp, hMd, hOn, hAl, hNx, hRa, hRb, hSu, hBn, hDd, hPw, hPr, hRe, hWo, hLa, hBe, hOt, hBt, hbk, hVn⟩ := hR
  exact ⟨hPt, hbk⟩
/-- a book's row may be written otherwise outside of its sizes -/
theorem zMD.bk2 {X : zX} {ω : zWd} {m : Nat} {bk : Nat → Int → Int} {nv : Int} {bh : Nat} {tv dv : Nat → Int} {rt c : Nat} {f f2 : Int → Int} {k0 : Nat} (hR : zMD X ω m (va_up bk k0 f) nv bh tv dv rt c) (hk0 : k0 < 8) (hf : zBk f2) : zMD X (zU ω (m + 1 + 1 + k0) (zAI X 21 f2)) m (va_up bk k0 f2) nv bh tv dv rt c := by
  obtain ⟨gN, gm, g1, g2, g3, g4, g5, g6, g7, hM, hPt, hNu, hTk, hDp, hMd, hOn, hAl, hNx, hRa, hRb, hSu, hBn, hDd, hPw, hPr, hRe, hWo, hLa, hBe, hOt, hBt, hbk, hVn⟩ := hR
  have e : va_up (va_up bk k0 f) k0 f2 = va_up bk k0 f2 := by
    funext k
    by_cases q : k = k0
    · rw [q, va_up_self, va_up_self]
    · rw [va_up_ne _ _ q, va_up_ne _ _ q, va_up_ne _ _ q]
  have hPt2 := hPt.u (g := f2) hk0
  rw [e] at hPt2
  exact ⟨gN, gm, g1, g2, g3, g4, g5, g6, g7, (by rw [zU_n (by omega)]; exact hM), hPt2, (by rw [zU_n (by omega)]; exact hNu), (hTk.kp (fun b h1 h2 => zU_n (by omega))), (hDp.kp (fun b h1 h2 => zU_n (by omega))), (by rw [zU_n (by omega)]; exact hMd), (by rw [zU_n (by omega)]; exact hOn), (hAl.kp (fun b h1 h2 => zU_n (by omega))), (hNx.kp (fun b h1 h2 => zU_n (by omega))), (hRa.kp (fun b h1 h2 => zU_n (by omega))), (hRb.kp (fun b h1 h2 => zU_n (by omega))), (by rw [zU_n (by omega)]; exact hSu), (by rw [zU_n (by omega)]; exact hBn), (hDd.kp (fun b h1 h2 => zU_n (by omega))), (hPw.kp (fun b h1 h2 => zU_n (by omega))), (by rw [zU_n (by omega)]; exact hPr), (by rw [zU_n (by omega)]; exact hRe), (hWo.kp (fun b h1 h2 => zU_n (by omega))), (hLa.kp (fun b h1 h2 => zU_n (by omega))), (by rw [zU_n (by omega)]; exact hBe), (by rw [zU_n (by omega)]; exact hOt), (hBt.kp (fun b h1 h2 => zU_n (by omega)) rfl), (fun k hk => by by_cases q : k = k0; (· rw [q, va_up_self]; exact hf); (· rw [va_up_ne _ _ q]; have := hbk k hk; rw [va_up_ne _ _ q] at this; exact this)), hVn⟩
/-! BOTH TOGETHER: the class at x, the model at x + 58, with the same books and number -/
def zJn (X : zX) (ω : zWd) (x c : Nat) : Prop := ∃ (bk : Nat → Int → Int) (nv : Int) (bh rt : Nat) (tc dc : Int → Int) (tm dm : Nat → Int), zRH X ω x bk nv (3 * bh) tc dc rt ∧ zMD X ω (x + 58) bk nv bh tm dm rt c ∧ (c = 0 ∨ c = 3698) ∧ bh ≤ 40 ∧ rt ≤ 40 ∧ (0 ≤ nv ∧ nv < 1000 ^ (bh + 1)) ∧ (∀ t : Nat, 1 ≤ t → t ≤ rt → tm t = tc t * 1000 ^ (rt - t)) ∧ ∀ k : Nat, 1 ≤ k → k ≤ 20 → dm k = dc k
theorem zat_eq {T : Int} {t rt : Nat} {i : Int} (ht : 1 ≤ t ∧ t ≤ rt) (hi : 1 ≤ i ∧ i ≤ 3 * rt) : (if 3 * (t : Int) < i then 0 else T / 10 ^ (3 * (t : Int) - i).toNat % 10) = T * 1000 ^ (rt - t) / 10 ^ (3 * (rt : Int) - i).toNat % 10 := by
  rw [zk_pow]
  by_cases h : 3 * (t : Int) < i
  · rw [if_pos h]
    obtain ⟨d, hd⟩ : ∃ d, 3 * (rt - t) = (3 * (rt : Int) - i).toNat + (d + 1) := ⟨(i - 3 * t).toNat - 1, by omega⟩
    have hp : (10 : Int) ^ (3 * (rt : Int) - i).toNat ≠ 0 := by
      have : (0 : Int) < 10 ^ (3 * (rt : Int) - i).toNat := zpw (by decide) _
      omega
    rw [hd, Int.pow_add, Int.mul_left_comm, Int.mul_ediv_cancel_left _ hp, Int.pow_succ, ← Int.mul_assoc]
    exact (Int.mul_emod_left _ _).symm
  · rw [if_neg h]
    have hd : (3 * (rt : Int) - i).toNat = 3 * (rt - t) + (3 * (t : Int) - i).toNat := by omega
    have hp : (0 : Int) < 10 ^ (3 * (rt - t)) := zpw (by decide) _
    rw [hd, Int.pow_add, Int.mul_comm (10 ^ (3 * (rt - t))), Int.mul_ediv_mul_of_pos_left _ _ hp]
theorem zdig0 {nv : Int} {bh : Nat} (h : 0 ≤ nv ∧ nv < 1000 ^ (bh + 1)) : nv / 10 ^ (3 * bh) % 1000 = nv / 1000 ^ bh % 1000 + 1000 * (nv / 1000 ^ (bh + 1) % 1000) := by
  rw [Int.ediv_eq_zero_of_lt h.1 h.2, zk_pow]
  omega
theorem zp_lt {n : Nat} {a : Int} (h : a ≤ 1000 ^ n) : a < 1000 ^ (n + 1) := by
  have h1 : (0 : Int) < 1000 ^ n := zpw (by decide) _
  rw [Int.pow_succ]
  omega
theorem zruin_b {f : Int → Int} (hf : zBk f) (hs : zs f 21 = 1000) {p : Int} (hp : 0 ≤ p) {pu n : Nat} : 0 ≤ zSm (zwt f) p 1000 (zdl (pu : Int) 1) n ∧ zSm (zwt f) p 1000 (zdl (pu : Int) 1) n < 1000 ^ (n + 1) := by
  have s1 : zs (zwt f) 41 = 10 ^ 3 := by rw [zwt_s, hs]; rfl
  have hw : ∀ s : Int, 0 ≤ s → s < 41 → 0 ≤ zwt f s := fun s a b => by
    unfold zwt
    split
    · rename_i q; exact (hf s q.1 (by omega)).1
    · omega
  have h1 := (zSm_b (n := 0) (p := p) hw s1 (Av := zdl (pu : Int) 1) (fun v => by unfold zdl; split <;> decide) n).1
  have h2 := zSm_le (pu := pu) (n := n) hp hw s1 (w0 := 1) (by decide) n
  rw [Int.mul_one] at h2
  exact ⟨h1, zp_lt h2⟩
theorem zevr_b {F : Int → Int} (hF : zBk F) (hs : zs F 21 = 1000) (pu : Nat) : 0 ≤ zEvr F pu ∧ zEvr F pu < 1000 ^ (10 + 1) := by
  unfold zEvr
  split
  · split <;> decide
  · rename_i q
    have hD := zD_b hF hs (by omega) pu
    have hP : 0 < F 0 ^ (pu + 1) := by omega
    have h1 : 0 ≤ (F 0 ^ (pu + 1) - zD F pu) * 10 ^ 30 := Int.mul_nonneg (by omega) (by decide)
    refine ⟨Int.ediv_nonneg h1 (by omega), ?_⟩
    have h2 : (F 0 ^ (pu + 1) - zD F pu) * 10 ^ 30 < 10 ^ 30 * F 0 ^ (pu + 1) := by
      rw [Int.mul_comm (10 ^ 30)]
      exact Int.mul_lt_mul_of_pos_right (by omega) (by decide)
    have h3 := Int.ediv_lt_of_lt_mul hP h2
    exact Int.lt_trans h3 (by decide)
theorem zworth_b {f : Int → Int} (hf : zBk f) (hs : zs f 21 = 1000) {c p pu : Int} {n : Nat} (hc : 0 ≤ c ∧ c ≤ 1000) (hp : 0 ≤ p ∧ p ≤ 20) (hpu : 0 ≤ pu ∧ pu ≤ 60) (hn : n ≤ 6) : 0 ≤ zWv (zwk f c) p n pu ∧ zWv (zwk f c) p n pu < 1000 ^ (2 * n + 1) := by
  have hw : ∀ s : Int, 0 ≤ s → s < 41 → 0 ≤ zwk f c s := fun s a b => by
    unfold zwk
    split
    · rename_i q; exact Int.mul_nonneg hc.1 (hf s q.1 (by omega)).1
    · omega
  have hsum : zs (zwk f c) 41 ≤ 1000000 := by rw [zwk_s, hs]; omega
  have h1 := zWv_b (p := p) hw hsum hp.1 n pu
  have h2 := h1.2.1 hpu.1
  have h3 : (n : Int) * p ≤ 6 * 20 := Int.mul_le_mul (by omega) hp.2 hp.1 (by decide)
  have h6 : (0 : Int) < 10 ^ (6 * n) := zpw (by decide) _
  have h4 : (pu + n * p) * 10 ^ (6 * n) ≤ 180 * 10 ^ (6 * n) := Int.mul_le_mul_of_nonneg_right (by omega) (by omega)
  have h5 : (1000 : Int) ^ (2 * n + 1) = 10 ^ (6 * n) * 1000 := by
    rw [Int.pow_succ, zk_pow, show 3 * (2 * n) = 6 * n by omega]
  rw [h5]
  exact ⟨h1.1, by omega⟩
theorem ztwo_b {f h : Int → Int} (hf : zBk f) (hh : zBk h) (sf : zs f 21 = 1000) (sh : zs h 21 = 1000) {a b p q gv : Int} {n : Nat} (hp : 0 ≤ p) (hq : 0 ≤ q) : 0 ≤ zTw f h a b p q n gv ∧ zTw f h a b p q n gv < 1000 ^ (2 * n + 1) := by
  have s1 : zs (zwt f) 41 = 10 ^ 3 := by rw [zwt_s, sf]; rfl
  have s2 : zs (zwt h) 41 = 10 ^ 3 := by rw [zwt_s, sh]; rfl
  have s3 : zs (zcv f h) 41 = 10 ^ 6 := by rw [zcv_s, sf, sh]; rfl
  have w1 : ∀ s : Int, 0 ≤ s → s < 41 → 0 ≤ zwt f s := fun s a b => by
    unfold zwt
    split
    · rename_i q; exact (hf s q.1 (by omega)).1
    · omega
  have w2 : ∀ s : Int, 0 ≤ s → s < 41 → 0 ≤ zwt h s := fun s a b => by
    unfold zwt
    split
    · rename_i q; exact (hh s q.1 (by omega)).1
    · omega
  have w3 : ∀ s : Int, 0 ≤ s → s < 41 → 0 ≤ zcv f h s := fun s a b => by
    unfold zcv
    refine zs_nn (fun k k0 k1 => ?_)
    unfold zc1
    split
    · rename_i q; exact Int.mul_nonneg (hf k k0 (by omega)).1 (hh _ q.1 (by omega)).1
    · omega
  unfold zTw
  split
  · have h1 := zSt_b (pu := a.toNat) (n := n) (np := 0) hp w1 s1 (w := 1) (by decide)
    have h2 := zSt_b (pu := b.toNat) (n := n) (np := 0 + n * 3) hq w2 s2 h1
    refine ⟨h2.1, zp_lt ?_⟩
    rw [zk_pow, show 3 * (2 * n) = 0 + n * 3 + n * 3 by omega]
    exact h2.2
  · have h1 := zSt_b (pu := (a + b).toNat) (n := n) (np := 0) (p := p + q) (by omega) w3 s3 (w := 1) (by decide)
    refine ⟨h1.1, zp_lt ?_⟩
    rw [zk_pow, show 3 * (2 * n) = 0 + n * 6 by omega]
    exact h1.2
