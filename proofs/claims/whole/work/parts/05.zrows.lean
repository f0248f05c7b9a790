theorem zdm (a b : Int) : a - a / b * b = a % b := by
  have := Int.emod_add_mul_ediv a b
  rw [Int.mul_comm] at this
  omega
theorem zI_nz {b : Int} (h : 0 < b ∧ b < 2147483648) : ¬ zI b = 0 := by
  rw [zI_0, zI_eq (by omega) (by omega)]
  omega
theorem zJ_0 : (0 : Int64) = zJ 0 := by decide +kernel
theorem zJ_nz {b : Int} (h : 0 < b ∧ b < 9223372036854775808) : ¬ zJ b = 0 := by
  rw [zJ_0, zJ_eq (by omega) (by omega)]
  omega
theorem z_tb {a b : Int} {M : Int} (ha : -M < a ∧ a < M) (hb : 0 < b) : -M < a.tdiv b ∧ a.tdiv b < M := by
  rcases Int.lt_or_le a 0 with h | h
  · have e : a.tdiv b = -((-a) / b) := by
      rw [← Int.tdiv_eq_ediv_of_nonneg (by omega), Int.neg_tdiv, Int.neg_neg]
    have h1 : (-a) / b ≤ -a := Int.ediv_le_self _ (by omega)
    have h2 : 0 ≤ (-a) / b := Int.ediv_nonneg (by omega) (by omega)
    rw [e]
    omega
  · rw [Int.tdiv_eq_ediv_of_nonneg h]
    have h1 : a / b ≤ a := Int.ediv_le_self _ h
    have h2 : 0 ≤ a / b := Int.ediv_nonneg h (by omega)
    omega
theorem zI_div {a b : Int} (ha : 0 ≤ a ∧ a < 2147483648) (hb : 0 < b ∧ b < 2147483648) : zI a / zI b = zI (a / b) := by
  have h1 : a / b ≤ a := Int.ediv_le_self _ ha.1
  have h2 : 0 ≤ a / b := Int.ediv_nonneg ha.1 (by omega)
  rw [← Int32.toInt_inj, Int32.toInt_div, zI_t (by omega), zI_t (by omega), zI_t (by omega), Int.tdiv_eq_ediv_of_nonneg ha.1]
  show (a / b).bmod 4294967296 = a / b
  exact Int.bmod_eq_of_le (by omega) (by omega)
theorem zJ_tdiv {a b : Int} (ha : -9223372036854775808 < a ∧ a < 9223372036854775808) (hb : 0 < b ∧ b < 9223372036854775808) : zJ a / zJ b = zJ (a.tdiv b) := by
  have h1 := z_tb ha hb.1
  rw [← Int64.toInt_inj, Int64.toInt_div, zJ_t (by omega), zJ_t (by omega), zJ_t (by omega)]
  show (a.tdiv b).bmod 18446744073709551616 = a.tdiv b
  exact Int.bmod_eq_of_le (by omega) (by omega)
theorem zJ_div {a b : Int} (ha : 0 ≤ a ∧ a < 9223372036854775808) (hb : 0 < b ∧ b < 9223372036854775808) : zJ a / zJ b = zJ (a / b) := by
  rw [zJ_tdiv (by omega) hb, Int.tdiv_eq_ediv_of_nonneg ha.1]
theorem zI_l {a : Int} (ha : -2147483648 ≤ a ∧ a < 2147483648) : (zI a).toInt64 = zJ a := by
  rw [← Int64.toInt_inj, Int32.toInt_toInt64, zI_t ha, zJ_t (by omega)]
theorem zJ_i (a : Int) : (zJ a).toInt32 = zI a := by
  rw [← Int32.toInt_inj, Int64.toInt_toInt32]
  unfold zJ zI
  rw [Int64.toInt_ofInt, Int32.toInt_ofInt]
  show (a.bmod 18446744073709551616).bmod 4294967296 = a.bmod 4294967296
  exact Int.bmod_bmod_of_dvd (by decide)
def zc (a b : Int) : Int := if b < a then 1 else if a = b then 0 else -1
theorem zc_r (a b : Int) : -2147483648 ≤ zc a b ∧ zc a b < 2147483648 := by
  unfold zc
  split
  · omega
  · split <;> omega
theorem z_cmp {a b : Int} (ha : -9223372036854775808 ≤ a ∧ a < 9223372036854775808) (hb : -9223372036854775808 ≤ b ∧ b < 9223372036854775808) : lg_cmp (zJ a) (zJ b) = zI (zc a b) := by
  unfold lg_cmp zc
  simp only [gt_iff_lt, zJ_lt hb ha, zJ_eq ha hb]
  split
  · decide +kernel
  · split <;> decide +kernel
section ZR
variable {Γ : zG} {l0 : Launch} {X : zX} {R : Room} {nL : Nat} {cc : ByteArray} {own : String} {ω : zWd} {cells slots pc : Nat} {lv : List (Option Value)} {st : List Value}
theorem z_iconst (C : Zc Γ l0 X R nL cc own) {n : Int} (hd : decode cc pc = .ok (.iconst n, 1)) (k : Zw Γ ω cells slots (pc + 1) lv (.int (zI n) :: st)) : Zw Γ ω cells slots pc lv (st) := by
  obtain ⟨p, l, e, R, s, m, args, below, meth, c, Q, X, A, nL⟩ := Γ
  obtain ⟨hx, hb, hml, hown, hts, hK, hA, rfl, rfl, rfl, rfl⟩ := C
  intro H locs ls hP hG hS hl
  exact lv_iconst hx hb hd rfl (k H locs ls hP hG hS hl)
theorem z_bipush (C : Zc Γ l0 X R nL cc own) {n : Int} (hv : (Int8.ofInt n).toInt32 = zI n) (hd : decode cc pc = .ok (.bipush n, 2)) (k : Zw Γ ω cells slots (pc + 2) lv (.int (zI n) :: st)) : Zw Γ ω cells slots pc lv (st) := by
  obtain ⟨p, l, e, R, s, m, args, below, meth, c, Q, X, A, nL⟩ := Γ
  obtain ⟨hx, hb, hml, hown, hts, hK, hA, rfl, rfl, rfl, rfl⟩ := C
  intro H locs ls hP hG hS hl
  exact lv_bipush hx hb hd hv (k H locs ls hP hG hS hl)
theorem z_sipush (C : Zc Γ l0 X R nL cc own) {n : Int} (hv : (Int16.ofInt n).toInt32 = zI n) (hd : decode cc pc = .ok (.sipush n, 3)) (k : Zw Γ ω cells slots (pc + 3) lv (.int (zI n) :: st)) : Zw Γ ω cells slots pc lv (st) := by
  obtain ⟨p, l, e, R, s, m, args, below, meth, c, Q, X, A, nL⟩ := Γ
  obtain ⟨hx, hb, hml, hown, hts, hK, hA, rfl, rfl, rfl, rfl⟩ := C
  intro H locs ls hP hG hS hl
  exact lv_sipush hx hb hd hv (k H locs ls hP hG hS hl)
theorem z_lconst (C : Zc Γ l0 X R nL cc own) {n : Fin 2} {v : Int} (hv : Int64.ofNat (n : Nat) = zJ v) (hd : decode cc pc = .ok (.lconst n, 1)) (k : Zw Γ ω cells slots (pc + 1) lv (.long (zJ v) :: st)) : Zw Γ ω cells slots pc lv (st) := by
  obtain ⟨p, l, e, R, s, m, args, below, meth, c, Q, X, A, nL⟩ := Γ
  obtain ⟨hx, hb, hml, hown, hts, hK, hA, rfl, rfl, rfl, rfl⟩ := C
  intro H locs ls hP hG hS hl
  exact lv_lconst hx hb hd hv (k H locs ls hP hG hS hl)
theorem z_ldc (C : Zc Γ l0 X R nL cc own) {idx : Nat} {v : Int32} {a : Int} (hv : v = zI a) (hw : Cond.constant own idx v ∈ zTb) (hd : decode cc pc = .ok (.ldc idx, 2)) (k : Zw Γ ω cells slots (pc + 2) lv (.int (zI a) :: st)) : Zw Γ ω cells slots pc lv (st) := by
  obtain ⟨p, l, e, R, s, m, args, below, meth, c, Q, X, A, nL⟩ := Γ
  obtain ⟨hx, hb, hml, hown, hts, hK, hA, rfl, rfl, rfl, rfl⟩ := C
  intro H locs ls hP hG hS hl
  subst hv; exact lv_ldc hx hb hown (hts _ hw) hd (k H locs ls hP hG hS hl)
theorem z_ldc2 (C : Zc Γ l0 X R nL cc own) {idx : Nat} {v : Int64} {a : Int} (hv : v = zJ a) (hw : Cond.constantLong own idx v ∈ zTb) (hd : decode cc pc = .ok (.ldc2_w idx, 3)) (k : Zw Γ ω cells slots (pc + 3) lv (.long (zJ a) :: st)) : Zw Γ ω cells slots pc lv (st) := by
  obtain ⟨p, l, e, R, s, m, args, below, meth, c, Q, X, A, nL⟩ := Γ
  obtain ⟨hx, hb, hml, hown, hts, hK, hA, rfl, rfl, rfl, rfl⟩ := C
  intro H locs ls hP hG hS hl
  subst hv; exact lv_ldc2 hx hb hown (hts _ hw) hd (k H locs ls hP hG hS hl)
theorem z_iload_n (C : Zc Γ l0 X R nL cc own) {k4 : Fin 4} {i : Nat} {x : Int32} (hi : (k4 : Nat) = i) (hv : lv[i]? = some (some (.int x))) (hd : decode cc pc = .ok (.iload_n k4, 1)) (k : Zw Γ ω cells slots (pc + 1) lv (.int x :: st)) : Zw Γ ω cells slots pc lv (st) := by
  obtain ⟨p, l, e, R, s, m, args, below, meth, c, Q, X, A, nL⟩ := Γ
  obtain ⟨hx, hb, hml, hown, hts, hK, hA, rfl, rfl, rfl, rfl⟩ := C
  intro H locs ls hP hG hS hl
  exact lv_iload_n hx hb hd hi (hl.2.2 _ _ hv) (k H locs ls hP hG hS hl)
theorem z_iload (C : Zc Γ l0 X R nL cc own) {i : Nat} {x : Int32} (hv : lv[i]? = some (some (.int x))) (hd : decode cc pc = .ok (.iload i, 2)) (k : Zw Γ ω cells slots (pc + 2) lv (.int x :: st)) : Zw Γ ω cells slots pc lv (st) := by
  obtain ⟨p, l, e, R, s, m, args, below, meth, c, Q, X, A, nL⟩ := Γ
  obtain ⟨hx, hb, hml, hown, hts, hK, hA, rfl, rfl, rfl, rfl⟩ := C
  intro H locs ls hP hG hS hl
  exact lv_iload hx hb hd (hl.2.2 _ _ hv) (k H locs ls hP hG hS hl)
theorem z_lload_n (C : Zc Γ l0 X R nL cc own) {k4 : Fin 4} {i : Nat} {x : Int64} (hi : (k4 : Nat) = i) (hv : lv[i]? = some (some (.long x))) (hd : decode cc pc = .ok (.lload_n k4, 1)) (k : Zw Γ ω cells slots (pc + 1) lv (.long x :: st)) : Zw Γ ω cells slots pc lv (st) := by
  obtain ⟨p, l, e, R, s, m, args, below, meth, c, Q, X, A, nL⟩ := Γ
  obtain ⟨hx, hb, hml, hown, hts, hK, hA, rfl, rfl, rfl, rfl⟩ := C
  intro H locs ls hP hG hS hl
  exact lv_lload_n hx hb hd hi (hl.2.2 _ _ hv) (k H locs ls hP hG hS hl)
theorem z_lload (C : Zc Γ l0 X R nL cc own) {i : Nat} {x : Int64} (hv : lv[i]? = some (some (.long x))) (hd : decode cc pc = .ok (.lload i, 2)) (k : Zw Γ ω cells slots (pc + 2) lv (.long x :: st)) : Zw Γ ω cells slots pc lv (st) := by
  obtain ⟨p, l, e, R, s, m, args, below, meth, c, Q, X, A, nL⟩ := Γ
  obtain ⟨hx, hb, hml, hown, hts, hK, hA, rfl, rfl, rfl, rfl⟩ := C
  intro H locs ls hP hG hS hl
  exact lv_lload hx hb hd (hl.2.2 _ _ hv) (k H locs ls hP hG hS hl)
theorem z_aload_n (C : Zc Γ l0 X R nL cc own) {k4 : Fin 4} {i : Nat} {x : Nat} (hi : (k4 : Nat) = i) (hv : lv[i]? = some (some (.ref x))) (hd : decode cc pc = .ok (.aload_n k4, 1)) (k : Zw Γ ω cells slots (pc + 1) lv (.ref x :: st)) : Zw Γ ω cells slots pc lv (st) := by
  obtain ⟨p, l, e, R, s, m, args, below, meth, c, Q, X, A, nL⟩ := Γ
  obtain ⟨hx, hb, hml, hown, hts, hK, hA, rfl, rfl, rfl, rfl⟩ := C
  intro H locs ls hP hG hS hl
  exact lv_aload_n hx hb hd hi (hl.2.2 _ _ hv) (k H locs ls hP hG hS hl)
theorem z_aload (C : Zc Γ l0 X R nL cc own) {i : Nat} {x : Nat} (hv : lv[i]? = some (some (.ref x))) (hd : decode cc pc = .ok (.aload i, 2)) (k : Zw Γ ω cells slots (pc + 2) lv (.ref x :: st)) : Zw Γ ω cells slots pc lv (st) := by
  obtain ⟨p, l, e, R, s, m, args, below, meth, c, Q, X, A, nL⟩ := Γ
  obtain ⟨hx, hb, hml, hown, hts, hK, hA, rfl, rfl, rfl, rfl⟩ := C
  intro H locs ls hP hG hS hl
  exact lv_aload hx hb hd (hl.2.2 _ _ hv) (k H locs ls hP hG hS hl)
theorem z_istore_n (C : Zc Γ l0 X R nL cc own) {k4 : Fin 4} {i : Nat} {x : Int32} (hi : (k4 : Nat) = i) (hn : i < nL) (hok : z_ok1 lv i = true) {lv' : List (Option Value)} (hs' : lv.set i (some (.int x)) = lv') (hd : decode cc pc = .ok (.istore_n k4, 1)) (k : Zw Γ ω cells slots (pc + 1) lv' (st)) : Zw Γ ω cells slots pc lv (.int x :: st) := by
  obtain ⟨p, l, e, R, s, m, args, below, meth, c, Q, X, A, nL⟩ := Γ
  obtain ⟨hx, hb, hml, hown, hts, hK, hA, rfl, rfl, rfl, rfl⟩ := C
  subst hs'
  intro H locs ls hP hG hS hl
  exact lv_istore_n hx hb hd hi hl.has hn rfl (fun ls' hs => k H locs ls' hP hG hS (zH.of hs (z_set1 hok)))
theorem z_istore (C : Zc Γ l0 X R nL cc own) {i : Nat} {x : Int32} (hn : i < nL) (hok : z_ok1 lv i = true) {lv' : List (Option Value)} (hs' : lv.set i (some (.int x)) = lv') (hd : decode cc pc = .ok (.istore i, 2)) (k : Zw Γ ω cells slots (pc + 2) lv' (st)) : Zw Γ ω cells slots pc lv (.int x :: st) := by
  obtain ⟨p, l, e, R, s, m, args, below, meth, c, Q, X, A, nL⟩ := Γ
  obtain ⟨hx, hb, hml, hown, hts, hK, hA, rfl, rfl, rfl, rfl⟩ := C
  subst hs'
  intro H locs ls hP hG hS hl
  exact lv_istore hx hb hd hl.has hn rfl (fun ls' hs => k H locs ls' hP hG hS (zH.of hs (z_set1 hok)))
theorem z_astore_n (C : Zc Γ l0 X R nL cc own) {k4 : Fin 4} {i : Nat} {x : Nat} (hi : (k4 : Nat) = i) (hn : i < nL) (hok : z_ok1 lv i = true) {lv' : List (Option Value)} (hs' : lv.set i (some (.ref x)) = lv') (hd : decode cc pc = .ok (.astore_n k4, 1)) (k : Zw Γ ω cells slots (pc + 1) lv' (st)) : Zw Γ ω cells slots pc lv (.ref x :: st) := by
  obtain ⟨p, l, e, R, s, m, args, below, meth, c, Q, X, A, nL⟩ := Γ
  obtain ⟨hx, hb, hml, hown, hts, hK, hA, rfl, rfl, rfl, rfl⟩ := C
  subst hs'
  intro H locs ls hP hG hS hl
  exact lv_astore_n hx hb hd hi hl.has hn rfl (fun ls' hs => k H locs ls' hP hG hS (zH.of hs (z_set1 hok)))
theorem z_astore (C : Zc Γ l0 X R nL cc own) {i : Nat} {x : Nat} (hn : i < nL) (hok : z_ok1 lv i = true) {lv' : List (Option Value)} (hs' : lv.set i (some (.ref x)) = lv') (hd : decode cc pc = .ok (.astore i, 2)) (k : Zw Γ ω cells slots (pc + 2) lv' (st)) : Zw Γ ω cells slots pc lv (.ref x :: st) := by
  obtain ⟨p, l, e, R, s, m, args, below, meth, c, Q, X, A, nL⟩ := Γ
  obtain ⟨hx, hb, hml, hown, hts, hK, hA, rfl, rfl, rfl, rfl⟩ := C
  subst hs'
  intro H locs ls hP hG hS hl
  exact lv_astore hx hb hd hl.has hn rfl (fun ls' hs => k H locs ls' hP hG hS (zH.of hs (z_set1 hok)))
theorem z_lstore_n (C : Zc Γ l0 X R nL cc own) {k4 : Fin 4} {i : Nat} {x : Int64} (hi : (k4 : Nat) = i) (hn : i + 1 < nL) (hok : z_ok1 lv i = true) {lv' : List (Option Value)} (hs' : (lv.set i (some (.long x))).set (i + 1) none = lv') (hd : decode cc pc = .ok (.lstore_n k4, 1)) (k : Zw Γ ω cells slots (pc + 1) lv' (st)) : Zw Γ ω cells slots pc lv (.long x :: st) := by
  obtain ⟨p, l, e, R, s, m, args, below, meth, c, Q, X, A, nL⟩ := Γ
  obtain ⟨hx, hb, hml, hown, hts, hK, hA, rfl, rfl, rfl, rfl⟩ := C
  subst hs'
  intro H locs ls hP hG hS hl
  exact lv_lstore_n hx hb hd hi hl.has hn rfl (fun ls' hs => k H locs ls' hP hG hS (zH.of hs (z_set2 hok)))
theorem z_lstore (C : Zc Γ l0 X R nL cc own) {i : Nat} {x : Int64} (hn : i + 1 < nL) (hok : z_ok1 lv i = true) {lv' : List (Option Value)} (hs' : (lv.set i (some (.long x))).set (i + 1) none = lv') (hd : decode cc pc = .ok (.lstore i, 2)) (k : Zw Γ ω cells slots (pc + 2) lv' (st)) : Zw Γ ω cells slots pc lv (.long x :: st) := by
  obtain ⟨p, l, e, R, s, m, args, below, meth, c, Q, X, A, nL⟩ := Γ
  obtain ⟨hx, hb, hml, hown, hts, hK, hA, rfl, rfl, rfl, rfl⟩ := C
  subst hs'
  intro H locs ls hP hG hS hl
  exact lv_lstore hx hb hd hl.has hn rfl (fun ls' hs => k H locs ls' hP hG hS (zH.of hs (z_set2 hok)))
theorem z_iinc (C : Zc Γ l0 X R nL cc own) {i : Nat} {n a : Int} (hv : lv[i]? = some (some (.int (zI a)))) (hn : i < nL) (hok : z_ok1 lv i = true) {lv' : List (Option Value)} (hs' : lv.set i (some (.int (zI (a + n)))) = lv') (hd : decode cc pc = .ok (.iinc i n, 3)) (k : Zw Γ ω cells slots (pc + 3) lv' st) : Zw Γ ω cells slots pc lv st := by
  obtain ⟨p, l, e, R, s, m, args, below, meth, c, Q, X, A, nL⟩ := Γ
  obtain ⟨hx, hb, hml, hown, hts, hK, hA, rfl, rfl, rfl, rfl⟩ := C
  subst hs'
  intro H locs ls hP hG hS hl
  have hm : (i, Value.int (zI a)) ∈ (List.range lv.length).filterMap (fun i => (lv[i]?.join).map (fun v => (i, v))) := List.mem_filterMap.mpr ⟨i, List.mem_range.mpr (List.getElem?_eq_some_iff.mp hv).1, by rw [hv]; rfl⟩
  obtain ⟨kk, hkk⟩ := List.getElem?_of_mem hm
  exact lv_iinc (v := zI (a + n)) hx hb hd hl.has hkk (zI_add a n) hn rfl (fun ls' hs => k H locs ls' hP hG hS (zH.of hs (z_set1 hok)))
theorem z_iadd (C : Zc Γ l0 X R nL cc own) {a b : Int} (hd : decode cc pc = .ok (.iadd, 1)) (k : Zw Γ ω cells slots (pc + 1) lv (.int (zI (a + b)) :: st)) : Zw Γ ω cells slots pc lv (.int (zI b) :: .int (zI a) :: st) := by
  obtain ⟨p, l, e, R, s, m, args, below, meth, c, Q, X, A, nL⟩ := Γ
  obtain ⟨hx, hb, hml, hown, hts, hK, hA, rfl, rfl, rfl, rfl⟩ := C
  intro H locs ls hP hG hS hl
  exact lv_iadd hx hb hd (by rw [zI_add]; exact k H locs ls hP hG hS hl)
theorem z_isub (C : Zc Γ l0 X R nL cc own) {a b : Int} (hd : decode cc pc = .ok (.isub, 1)) (k : Zw Γ ω cells slots (pc + 1) lv (.int (zI (a - b)) :: st)) : Zw Γ ω cells slots pc lv (.int (zI b) :: .int (zI a) :: st) := by
  obtain ⟨p, l, e, R, s, m, args, below, meth, c, Q, X, A, nL⟩ := Γ
  obtain ⟨hx, hb, hml, hown, hts, hK, hA, rfl, rfl, rfl, rfl⟩ := C
  intro H locs ls hP hG hS hl
  exact lv_isub hx hb hd (by rw [zI_sub]; exact k H locs ls hP hG hS hl)
theorem z_imul (C : Zc Γ l0 X R nL cc own) {a b : Int} (hd : decode cc pc = .ok (.imul, 1)) (k : Zw Γ ω cells slots (pc + 1) lv (.int (zI (a * b)) :: st)) : Zw Γ ω cells slots pc lv (.int (zI b) :: .int (zI a) :: st) := by
  obtain ⟨p, l, e, R, s, m, args, below, meth, c, Q, X, A, nL⟩ := Γ
  obtain ⟨hx, hb, hml, hown, hts, hK, hA, rfl, rfl, rfl, rfl⟩ := C
  intro H locs ls hP hG hS hl
  exact lv_imul hx hb hd (by rw [zI_mul]; exact k H locs ls hP hG hS hl)
theorem z_ladd (C : Zc Γ l0 X R nL cc own) {a b : Int} (hd : decode cc pc = .ok (.ladd, 1)) (k : Zw Γ ω cells slots (pc + 1) lv (.long (zJ (a + b)) :: st)) : Zw Γ ω cells slots pc lv (.long (zJ b) :: .long (zJ a) :: st) := by
  obtain ⟨p, l, e, R, s, m, args, below, meth, c, Q, X, A, nL⟩ := Γ
  obtain ⟨hx, hb, hml, hown, hts, hK, hA, rfl, rfl, rfl, rfl⟩ := C
  intro H locs ls hP hG hS hl
  exact lv_ladd hx hb hd (by rw [zJ_add]; exact k H locs ls hP hG hS hl)
theorem z_lsub (C : Zc Γ l0 X R nL cc own) {a b : Int} (hd : decode cc pc = .ok (.lsub, 1)) (k : Zw Γ ω cells slots (pc + 1) lv (.long (zJ (a - b)) :: st)) : Zw Γ ω cells slots pc lv (.long (zJ b) :: .long (zJ a) :: st) := by
  obtain ⟨p, l, e, R, s, m, args, below, meth, c, Q, X, A, nL⟩ := Γ
  obtain ⟨hx, hb, hml, hown, hts, hK, hA, rfl, rfl, rfl, rfl⟩ := C
  intro H locs ls hP hG hS hl
  exact lv_lsub hx hb hd (by rw [zJ_sub]; exact k H locs ls hP hG hS hl)
theorem z_lmul (C : Zc Γ l0 X R nL cc own) {a b : Int} (hd : decode cc pc = .ok (.lmul, 1)) (k : Zw Γ ω cells slots (pc + 1) lv (.long (zJ (a * b)) :: st)) : Zw Γ ω cells slots pc lv (.long (zJ b) :: .long (zJ a) :: st) := by
  obtain ⟨p, l, e, R, s, m, args, below, meth, c, Q, X, A, nL⟩ := Γ
  obtain ⟨hx, hb, hml, hown, hts, hK, hA, rfl, rfl, rfl, rfl⟩ := C
  intro H locs ls hP hG hS hl
  exact lv_lmul hx hb hd (by rw [zJ_mul]; exact k H locs ls hP hG hS hl)
theorem z_ineg (C : Zc Γ l0 X R nL cc own) {a : Int} (hd : decode cc pc = .ok (.ineg, 1)) (k : Zw Γ ω cells slots (pc + 1) lv (.int (zI (-a)) :: st)) : Zw Γ ω cells slots pc lv (.int (zI a) :: st) := by
  obtain ⟨p, l, e, R, s, m, args, below, meth, c, Q, X, A, nL⟩ := Γ
  obtain ⟨hx, hb, hml, hown, hts, hK, hA, rfl, rfl, rfl, rfl⟩ := C
  intro H locs ls hP hG hS hl
  exact lv_ineg hx hb hd (by rw [zI_neg]; exact k H locs ls hP hG hS hl)
theorem z_idiv (C : Zc Γ l0 X R nL cc own) {a b : Int} (ha : 0 ≤ a ∧ a < 2147483648 := by omega) (hb0 : 0 < b ∧ b < 2147483648 := by omega) (hd : decode cc pc = .ok (.idiv, 1)) (k : Zw Γ ω cells slots (pc + 1) lv (.int (zI (a / b)) :: st)) : Zw Γ ω cells slots pc lv (.int (zI b) :: .int (zI a) :: st) := by
  obtain ⟨p, l, e, R, s, m, args, below, meth, c, Q, X, A, nL⟩ := Γ
  obtain ⟨hx, hb, hml, hown, hts, hK, hA, rfl, rfl, rfl, rfl⟩ := C
  intro H locs ls hP hG hS hl
  exact lv_idiv hx hb hd (zI_nz hb0) (by rw [zI_div ha hb0]; exact k H locs ls hP hG hS hl)
theorem z_irem (C : Zc Γ l0 X R nL cc own) {a b : Int} (ha : 0 ≤ a ∧ a < 2147483648 := by omega) (hb0 : 0 < b ∧ b < 2147483648 := by omega) (hd : decode cc pc = .ok (.irem, 1)) (k : Zw Γ ω cells slots (pc + 1) lv (.int (zI (a % b)) :: st)) : Zw Γ ω cells slots pc lv (.int (zI b) :: .int (zI a) :: st) := by
  obtain ⟨p, l, e, R, s, m, args, below, meth, c, Q, X, A, nL⟩ := Γ
  obtain ⟨hx, hb, hml, hown, hts, hK, hA, rfl, rfl, rfl, rfl⟩ := C
  intro H locs ls hP hG hS hl
  exact lv_irem hx hb hd (zI_nz hb0) (by rw [zI_div ha hb0, zI_mul, zI_sub, zdm]; exact k H locs ls hP hG hS hl)
theorem z_ldiv (C : Zc Γ l0 X R nL cc own) {a b : Int} (ha : 0 ≤ a ∧ a < 9223372036854775808 := by omega) (hb0 : 0 < b ∧ b < 9223372036854775808 := by omega) (hd : decode cc pc = .ok (.ldiv, 1)) (k : Zw Γ ω cells slots (pc + 1) lv (.long (zJ (a / b)) :: st)) : Zw Γ ω cells slots pc lv (.long (zJ b) :: .long (zJ a) :: st) := by
  obtain ⟨p, l, e, R, s, m, args, below, meth, c, Q, X, A, nL⟩ := Γ
  obtain ⟨hx, hb, hml, hown, hts, hK, hA, rfl, rfl, rfl, rfl⟩ := C
  intro H locs ls hP hG hS hl
  exact lv_ldiv hx hb hd (zJ_nz hb0) (by rw [zJ_div ha hb0]; exact k H locs ls hP hG hS hl)
theorem z_lrem (C : Zc Γ l0 X R nL cc own) {a b : Int} (ha : 0 ≤ a ∧ a < 9223372036854775808 := by omega) (hb0 : 0 < b ∧ b < 9223372036854775808 := by omega) (hd : decode cc pc = .ok (.lrem, 1)) (k : Zw Γ ω cells slots (pc + 1) lv (.long (zJ (a % b)) :: st)) : Zw Γ ω cells slots pc lv (.long (zJ b) :: .long (zJ a) :: st) := by
  obtain ⟨p, l, e, R, s, m, args, below, meth, c, Q, X, A, nL⟩ := Γ
  obtain ⟨hx, hb, hml, hown, hts, hK, hA, rfl, rfl, rfl, rfl⟩ := C
  intro H locs ls hP hG hS hl
  exact lv_lrem hx hb hd (zJ_nz hb0) (by rw [zJ_div ha hb0, zJ_mul, zJ_sub, zdm]; exact k H locs ls hP hG hS hl)
theorem z_ldivT (C : Zc Γ l0 X R nL cc own) {a b : Int} (ha : -9223372036854775808 < a ∧ a < 9223372036854775808 := by omega) (hb0 : 0 < b ∧ b < 9223372036854775808 := by omega) (hd : decode cc pc = .ok (.ldiv, 1)) (k : Zw Γ ω cells slots (pc + 1) lv (.long (zJ (a.tdiv b)) :: st)) : Zw Γ ω cells slots pc lv (.long (zJ b) :: .long (zJ a) :: st) := by
  obtain ⟨p, l, e, R, s, m, args, below, meth, c, Q, X, A, nL⟩ := Γ
  obtain ⟨hx, hb, hml, hown, hts, hK, hA, rfl, rfl, rfl, rfl⟩ := C
  intro H locs ls hP hG hS hl
  exact lv_ldiv hx hb hd (zJ_nz hb0) (by rw [zJ_tdiv ha hb0]; exact k H locs ls hP hG hS hl)
theorem z_lremT (C : Zc Γ l0 X R nL cc own) {a b : Int} (ha : -9223372036854775808 < a ∧ a < 9223372036854775808 := by omega) (hb0 : 0 < b ∧ b < 9223372036854775808 := by omega) (hd : decode cc pc = .ok (.lrem, 1)) (k : Zw Γ ω cells slots (pc + 1) lv (.long (zJ (a - a.tdiv b * b)) :: st)) : Zw Γ ω cells slots pc lv (.long (zJ b) :: .long (zJ a) :: st) := by
  obtain ⟨p, l, e, R, s, m, args, below, meth, c, Q, X, A, nL⟩ := Γ
  obtain ⟨hx, hb, hml, hown, hts, hK, hA, rfl, rfl, rfl, rfl⟩ := C
  intro H locs ls hP hG hS hl
  exact lv_lrem hx hb hd (zJ_nz hb0) (by rw [zJ_tdiv ha hb0, zJ_mul, zJ_sub]; exact k H locs ls hP hG hS hl)
theorem z_i2l (C : Zc Γ l0 X R nL cc own) {a : Int} (ha : -2147483648 ≤ a ∧ a < 2147483648 := by omega) (hd : decode cc pc = .ok (.i2l, 1)) (k : Zw Γ ω cells slots (pc + 1) lv (.long (zJ a) :: st)) : Zw Γ ω cells slots pc lv (.int (zI a) :: st) := by
  obtain ⟨p, l, e, R, s, m, args, below, meth, c, Q, X, A, nL⟩ := Γ
  obtain ⟨hx, hb, hml, hown, hts, hK, hA, rfl, rfl, rfl, rfl⟩ := C
  intro H locs ls hP hG hS hl
  exact lv_i2l hx hb hd (zI_l ha) (k H locs ls hP hG hS hl)
theorem z_l2i (C : Zc Γ l0 X R nL cc own) {a : Int} (hd : decode cc pc = .ok (.l2i, 1)) (k : Zw Γ ω cells slots (pc + 1) lv (.int (zI a) :: st)) : Zw Γ ω cells slots pc lv (.long (zJ a) :: st) := by
  obtain ⟨p, l, e, R, s, m, args, below, meth, c, Q, X, A, nL⟩ := Γ
  obtain ⟨hx, hb, hml, hown, hts, hK, hA, rfl, rfl, rfl, rfl⟩ := C
  intro H locs ls hP hG hS hl
  exact lv_l2i hx hb hd (zJ_i a) (k H locs ls hP hG hS hl)
theorem z_dup (C : Zc Γ l0 X R nL cc own) {v : Value} (hc : v.category = 1) (hd : decode cc pc = .ok (.dup, 1)) (k : Zw Γ ω cells slots (pc + 1) lv (v :: v :: st)) : Zw Γ ω cells slots pc lv (v :: st) := by
  obtain ⟨p, l, e, R, s, m, args, below, meth, c, Q, X, A, nL⟩ := Γ
  obtain ⟨hx, hb, hml, hown, hts, hK, hA, rfl, rfl, rfl, rfl⟩ := C
  intro H locs ls hP hG hS hl
  exact lv_dup hx hb hd hc (k H locs ls hP hG hS hl)
theorem z_dup2 (C : Zc Γ l0 X R nL cc own) {v w : Value} (hc : v.category = 1) (hc2 : w.category = 1) (hd : decode cc pc = .ok (.dup2, 1)) (k : Zw Γ ω cells slots (pc + 1) lv (v :: w :: v :: w :: st)) : Zw Γ ω cells slots pc lv (v :: w :: st) := by
  obtain ⟨p, l, e, R, s, m, args, below, meth, c, Q, X, A, nL⟩ := Γ
  obtain ⟨hx, hb, hml, hown, hts, hK, hA, rfl, rfl, rfl, rfl⟩ := C
  intro H locs ls hP hG hS hl
  exact lv_dup2_11 hx hb hd hc hc2 (k H locs ls hP hG hS hl)
theorem z_null (C : Zc Γ l0 X R nL cc own)  (hd : decode cc pc = .ok (.aconst_null, 1)) (k : Zw Γ ω cells slots (pc + 1) lv (.null :: st)) : Zw Γ ω cells slots pc lv (st) := by
  obtain ⟨p, l, e, R, s, m, args, below, meth, c, Q, X, A, nL⟩ := Γ
  obtain ⟨hx, hb, hml, hown, hts, hK, hA, rfl, rfl, rfl, rfl⟩ := C
  intro H locs ls hP hG hS hl
  exact lv_null hx hb hd (k H locs ls hP hG hS hl)
theorem z_iand (C : Zc Γ l0 X R nL cc own) {x y : Int32} (hd : decode cc pc = .ok (.iand, 1)) (k : Zw Γ ω cells slots (pc + 1) lv (.int (x &&& y) :: st)) : Zw Γ ω cells slots pc lv (.int y :: .int x :: st) := by
  obtain ⟨p, l, e, R, s, m, args, below, meth, c, Q, X, A, nL⟩ := Γ
  obtain ⟨hx, hb, hml, hown, hts, hK, hA, rfl, rfl, rfl, rfl⟩ := C
  intro H locs ls hP hG hS hl
  exact lv_iand hx hb hd (k H locs ls hP hG hS hl)
theorem z_ishr (C : Zc Γ l0 X R nL cc own) {x y : Int32} (hd : decode cc pc = .ok (.ishr, 1)) (k : Zw Γ ω cells slots (pc + 1) lv (.int (x >>> (y &&& 31)) :: st)) : Zw Γ ω cells slots pc lv (.int y :: .int x :: st) := by
  obtain ⟨p, l, e, R, s, m, args, below, meth, c, Q, X, A, nL⟩ := Γ
  obtain ⟨hx, hb, hml, hown, hts, hK, hA, rfl, rfl, rfl, rfl⟩ := C
  intro H locs ls hP hG hS hl
  exact lv_ishr hx hb hd (k H locs ls hP hG hS hl)
theorem z_lxor (C : Zc Γ l0 X R nL cc own) {x y : Int64} (hd : decode cc pc = .ok (.lxor, 1)) (k : Zw Γ ω cells slots (pc + 1) lv (.long (x ^^^ y) :: st)) : Zw Γ ω cells slots pc lv (.long y :: .long x :: st) := by
  obtain ⟨p, l, e, R, s, m, args, below, meth, c, Q, X, A, nL⟩ := Γ
  obtain ⟨hx, hb, hml, hown, hts, hK, hA, rfl, rfl, rfl, rfl⟩ := C
  intro H locs ls hP hG hS hl
  exact lv_lxor hx hb hd (k H locs ls hP hG hS hl)
theorem z_goto (C : Zc Γ l0 X R nL cc own) {off : Int} {tgt : Nat} (hd : decode cc pc = .ok (.goto off, 3)) (ht : (pc : Int) + off = (tgt : Int)) (k : Zw Γ ω cells slots tgt lv st) : Zw Γ ω cells slots pc lv st := by
  obtain ⟨p, l, e, R, s, m, args, below, meth, c, Q, X, A, nL⟩ := Γ
  obtain ⟨hx, hb, hml, hown, hts, hK, hA, rfl, rfl, rfl, rfl⟩ := C
  intro H locs ls hP hG hS hl
  exact lv_goto hx hb hd ht (k H locs ls hP hG hS hl)
theorem z_icmp_eq (C : Zc Γ l0 X R nL cc own) {a b : Int} {off : Int} {tgt : Nat} (hd : decode cc pc = .ok (.if_icmp .eq off, 3)) (ht : (pc : Int) + off = (tgt : Int)) (kt : a = b → Zw Γ ω cells slots tgt lv st) (kf : ¬ a = b → Zw Γ ω cells slots (pc + 3) lv st) (ha : -2147483648 ≤ a ∧ a < 2147483648 := by omega) (hbb : -2147483648 ≤ b ∧ b < 2147483648 := by omega) : Zw Γ ω cells slots pc lv (.int (zI b) :: .int (zI a) :: st) := by
  obtain ⟨p, l, e, R, s, m, args, below, meth, c, Q, X, A, nL⟩ := Γ
  obtain ⟨hx, hb, hml, hown, hts, hK, hA, rfl, rfl, rfl, rfl⟩ := C
  intro H locs ls hP hG hS hl
  exact lv_icmp_eq hx hb hd ht (fun h => by exact kt ((zI_eq ha hbb).mp h) H locs ls hP hG hS hl) (fun h => by exact kf ((fun q => h ((zI_eq ha hbb).mpr q))) H locs ls hP hG hS hl)
theorem z_if_eq (C : Zc Γ l0 X R nL cc own) {a : Int} {off : Int} {tgt : Nat} (hd : decode cc pc = .ok (.ifCond .eq off, 3)) (ht : (pc : Int) + off = (tgt : Int)) (kt : a = 0 → Zw Γ ω cells slots tgt lv st) (kf : ¬ a = 0 → Zw Γ ω cells slots (pc + 3) lv st) (ha : -2147483648 ≤ a ∧ a < 2147483648 := by omega) : Zw Γ ω cells slots pc lv (.int (zI a) :: st) := by
  obtain ⟨p, l, e, R, s, m, args, below, meth, c, Q, X, A, nL⟩ := Γ
  obtain ⟨hx, hb, hml, hown, hts, hK, hA, rfl, rfl, rfl, rfl⟩ := C
  intro H locs ls hP hG hS hl
  exact lv_if_eq hx hb hd ht (fun h => by rw [zI_0] at h; exact kt ((zI_eq ha (by omega)).mp h) H locs ls hP hG hS hl) (fun h => by rw [zI_0] at h; exact kf ((fun q => h ((zI_eq ha (by omega)).mpr q))) H locs ls hP hG hS hl)
theorem z_icmp_ne (C : Zc Γ l0 X R nL cc own) {a b : Int} {off : Int} {tgt : Nat} (hd : decode cc pc = .ok (.if_icmp .ne off, 3)) (ht : (pc : Int) + off = (tgt : Int)) (kt : ¬ a = b → Zw Γ ω cells slots tgt lv st) (kf : a = b → Zw Γ ω cells slots (pc + 3) lv st) (ha : -2147483648 ≤ a ∧ a < 2147483648 := by omega) (hbb : -2147483648 ≤ b ∧ b < 2147483648 := by omega) : Zw Γ ω cells slots pc lv (.int (zI b) :: .int (zI a) :: st) := by
  obtain ⟨p, l, e, R, s, m, args, below, meth, c, Q, X, A, nL⟩ := Γ
  obtain ⟨hx, hb, hml, hown, hts, hK, hA, rfl, rfl, rfl, rfl⟩ := C
  intro H locs ls hP hG hS hl
  exact lv_icmp_ne hx hb hd ht (fun h => by exact kt ((fun q => h ((zI_eq ha hbb).mpr q))) H locs ls hP hG hS hl) (fun h => by exact kf (((zI_eq ha hbb).mp h)) H locs ls hP hG hS hl)
theorem z_if_ne (C : Zc Γ l0 X R nL cc own) {a : Int} {off : Int} {tgt : Nat} (hd : decode cc pc = .ok (.ifCond .ne off, 3)) (ht : (pc : Int) + off = (tgt : Int)) (kt : ¬ a = 0 → Zw Γ ω cells slots tgt lv st) (kf : a = 0 → Zw Γ ω cells slots (pc + 3) lv st) (ha : -2147483648 ≤ a ∧ a < 2147483648 := by omega) : Zw Γ ω cells slots pc lv (.int (zI a) :: st) := by
  obtain ⟨p, l, e, R, s, m, args, below, meth, c, Q, X, A, nL⟩ := Γ
  obtain ⟨hx, hb, hml, hown, hts, hK, hA, rfl, rfl, rfl, rfl⟩ := C
  intro H locs ls hP hG hS hl
  exact lv_if_ne hx hb hd ht (fun h => by rw [zI_0] at h; exact kt ((fun q => h ((zI_eq ha (by omega)).mpr q))) H locs ls hP hG hS hl) (fun h => by rw [zI_0] at h; exact kf (((zI_eq ha (by omega)).mp h)) H locs ls hP hG hS hl)
theorem z_icmp_lt (C : Zc Γ l0 X R nL cc own) {a b : Int} {off : Int} {tgt : Nat} (hd : decode cc pc = .ok (.if_icmp .lt off, 3)) (ht : (pc : Int) + off = (tgt : Int)) (kt : a < b → Zw Γ ω cells slots tgt lv st) (kf : b ≤ a → Zw Γ ω cells slots (pc + 3) lv st) (ha : -2147483648 ≤ a ∧ a < 2147483648 := by omega) (hbb : -2147483648 ≤ b ∧ b < 2147483648 := by omega) : Zw Γ ω cells slots pc lv (.int (zI b) :: .int (zI a) :: st) := by
  obtain ⟨p, l, e, R, s, m, args, below, meth, c, Q, X, A, nL⟩ := Γ
  obtain ⟨hx, hb, hml, hown, hts, hK, hA, rfl, rfl, rfl, rfl⟩ := C
  intro H locs ls hP hG hS hl
  exact lv_icmp_lt hx hb hd ht (fun h => by exact kt ((zI_lt ha hbb).mp h) H locs ls hP hG hS hl) (fun h => by exact kf ((Int.not_lt.mp (fun q => h ((zI_lt ha hbb).mpr q)))) H locs ls hP hG hS hl)
theorem z_if_lt (C : Zc Γ l0 X R nL cc own) {a : Int} {off : Int} {tgt : Nat} (hd : decode cc pc = .ok (.ifCond .lt off, 3)) (ht : (pc : Int) + off = (tgt : Int)) (kt : a < 0 → Zw Γ ω cells slots tgt lv st) (kf : 0 ≤ a → Zw Γ ω cells slots (pc + 3) lv st) (ha : -2147483648 ≤ a ∧ a < 2147483648 := by omega) : Zw Γ ω cells slots pc lv (.int (zI a) :: st) := by
  obtain ⟨p, l, e, R, s, m, args, below, meth, c, Q, X, A, nL⟩ := Γ
  obtain ⟨hx, hb, hml, hown, hts, hK, hA, rfl, rfl, rfl, rfl⟩ := C
  intro H locs ls hP hG hS hl
  exact lv_if_lt hx hb hd ht (fun h => by rw [zI_0] at h; exact kt ((zI_lt ha (by omega)).mp h) H locs ls hP hG hS hl) (fun h => by rw [zI_0] at h; exact kf ((Int.not_lt.mp (fun q => h ((zI_lt ha (by omega)).mpr q)))) H locs ls hP hG hS hl)
theorem z_icmp_ge (C : Zc Γ l0 X R nL cc own) {a b : Int} {off : Int} {tgt : Nat} (hd : decode cc pc = .ok (.if_icmp .ge off, 3)) (ht : (pc : Int) + off = (tgt : Int)) (kt : b ≤ a → Zw Γ ω cells slots tgt lv st) (kf : a < b → Zw Γ ω cells slots (pc + 3) lv st) (ha : -2147483648 ≤ a ∧ a < 2147483648 := by omega) (hbb : -2147483648 ≤ b ∧ b < 2147483648 := by omega) : Zw Γ ω cells slots pc lv (.int (zI b) :: .int (zI a) :: st) := by
  obtain ⟨p, l, e, R, s, m, args, below, meth, c, Q, X, A, nL⟩ := Γ
  obtain ⟨hx, hb, hml, hown, hts, hK, hA, rfl, rfl, rfl, rfl⟩ := C
  intro H locs ls hP hG hS hl
  exact lv_icmp_ge hx hb hd ht (fun h => by exact kt ((zI_le hbb ha).mp h) H locs ls hP hG hS hl) (fun h => by exact kf ((Int.not_le.mp (fun q => h ((zI_le hbb ha).mpr q)))) H locs ls hP hG hS hl)
theorem z_if_ge (C : Zc Γ l0 X R nL cc own) {a : Int} {off : Int} {tgt : Nat} (hd : decode cc pc = .ok (.ifCond .ge off, 3)) (ht : (pc : Int) + off = (tgt : Int)) (kt : 0 ≤ a → Zw Γ ω cells slots tgt lv st) (kf : a < 0 → Zw Γ ω cells slots (pc + 3) lv st) (ha : -2147483648 ≤ a ∧ a < 2147483648 := by omega) : Zw Γ ω cells slots pc lv (.int (zI a) :: st) := by
  obtain ⟨p, l, e, R, s, m, args, below, meth, c, Q, X, A, nL⟩ := Γ
  obtain ⟨hx, hb, hml, hown, hts, hK, hA, rfl, rfl, rfl, rfl⟩ := C
  intro H locs ls hP hG hS hl
  exact lv_if_ge hx hb hd ht (fun h => by rw [zI_0] at h; exact kt ((zI_le (by omega) ha).mp h) H locs ls hP hG hS hl) (fun h => by rw [zI_0] at h; exact kf ((Int.not_le.mp (fun q => h ((zI_le (by omega) ha).mpr q)))) H locs ls hP hG hS hl)
theorem z_icmp_gt (C : Zc Γ l0 X R nL cc own) {a b : Int} {off : Int} {tgt : Nat} (hd : decode cc pc = .ok (.if_icmp .gt off, 3)) (ht : (pc : Int) + off = (tgt : Int)) (kt : b < a → Zw Γ ω cells slots tgt lv st) (kf : a ≤ b → Zw Γ ω cells slots (pc + 3) lv st) (ha : -2147483648 ≤ a ∧ a < 2147483648 := by omega) (hbb : -2147483648 ≤ b ∧ b < 2147483648 := by omega) : Zw Γ ω cells slots pc lv (.int (zI b) :: .int (zI a) :: st) := by
  obtain ⟨p, l, e, R, s, m, args, below, meth, c, Q, X, A, nL⟩ := Γ
  obtain ⟨hx, hb, hml, hown, hts, hK, hA, rfl, rfl, rfl, rfl⟩ := C
  intro H locs ls hP hG hS hl
  exact lv_icmp_gt hx hb hd ht (fun h => by exact kt ((zI_lt hbb ha).mp h) H locs ls hP hG hS hl) (fun h => by exact kf ((Int.not_lt.mp (fun q => h ((zI_lt hbb ha).mpr q)))) H locs ls hP hG hS hl)
theorem z_if_gt (C : Zc Γ l0 X R nL cc own) {a : Int} {off : Int} {tgt : Nat} (hd : decode cc pc = .ok (.ifCond .gt off, 3)) (ht : (pc : Int) + off = (tgt : Int)) (kt : 0 < a → Zw Γ ω cells slots tgt lv st) (kf : a ≤ 0 → Zw Γ ω cells slots (pc + 3) lv st) (ha : -2147483648 ≤ a ∧ a < 2147483648 := by omega) : Zw Γ ω cells slots pc lv (.int (zI a) :: st) := by
  obtain ⟨p, l, e, R, s, m, args, below, meth, c, Q, X, A, nL⟩ := Γ
  obtain ⟨hx, hb, hml, hown, hts, hK, hA, rfl, rfl, rfl, rfl⟩ := C
  intro H locs ls hP hG hS hl
  exact lv_if_gt hx hb hd ht (fun h => by rw [zI_0] at h; exact kt ((zI_lt (by omega) ha).mp h) H locs ls hP hG hS hl) (fun h => by rw [zI_0] at h; exact kf ((Int.not_lt.mp (fun q => h ((zI_lt (by omega) ha).mpr q)))) H locs ls hP hG hS hl)
theorem z_icmp_le (C : Zc Γ l0 X R nL cc own) {a b : Int} {off : Int} {tgt : Nat} (hd : decode cc pc = .ok (.if_icmp .le off, 3)) (ht : (pc : Int) + off = (tgt : Int)) (kt : a ≤ b → Zw Γ ω cells slots tgt lv st) (kf : b < a → Zw Γ ω cells slots (pc + 3) lv st) (ha : -2147483648 ≤ a ∧ a < 2147483648 := by omega) (hbb : -2147483648 ≤ b ∧ b < 2147483648 := by omega) : Zw Γ ω cells slots pc lv (.int (zI b) :: .int (zI a) :: st) := by
  obtain ⟨p, l, e, R, s, m, args, below, meth, c, Q, X, A, nL⟩ := Γ
  obtain ⟨hx, hb, hml, hown, hts, hK, hA, rfl, rfl, rfl, rfl⟩ := C
  intro H locs ls hP hG hS hl
  exact lv_icmp_le hx hb hd ht (fun h => by exact kt ((zI_le ha hbb).mp h) H locs ls hP hG hS hl) (fun h => by exact kf ((Int.not_le.mp (fun q => h ((zI_le ha hbb).mpr q)))) H locs ls hP hG hS hl)
theorem z_if_le (C : Zc Γ l0 X R nL cc own) {a : Int} {off : Int} {tgt : Nat} (hd : decode cc pc = .ok (.ifCond .le off, 3)) (ht : (pc : Int) + off = (tgt : Int)) (kt : a ≤ 0 → Zw Γ ω cells slots tgt lv st) (kf : 0 < a → Zw Γ ω cells slots (pc + 3) lv st) (ha : -2147483648 ≤ a ∧ a < 2147483648 := by omega) : Zw Γ ω cells slots pc lv (.int (zI a) :: st) := by
  obtain ⟨p, l, e, R, s, m, args, below, meth, c, Q, X, A, nL⟩ := Γ
  obtain ⟨hx, hb, hml, hown, hts, hK, hA, rfl, rfl, rfl, rfl⟩ := C
  intro H locs ls hP hG hS hl
  exact lv_if_le hx hb hd ht (fun h => by rw [zI_0] at h; exact kt ((zI_le ha (by omega)).mp h) H locs ls hP hG hS hl) (fun h => by rw [zI_0] at h; exact kf ((Int.not_le.mp (fun q => h ((zI_le ha (by omega)).mpr q)))) H locs ls hP hG hS hl)
theorem z_lcmp_ge (C : Zc Γ l0 X R nL cc own) {a b : Int} {off : Int} {tgt : Nat} (hd0 : decode cc pc = .ok (.lcmp, 1)) (hd : decode cc (pc + 1) = .ok (.ifCond .ge off, 3)) (ht : ((pc + 1 : Nat) : Int) + off = (tgt : Int)) (kt : b ≤ a → Zw Γ ω cells slots tgt lv st) (kf : a < b → Zw Γ ω cells slots (pc + 1 + 3) lv st) (ha : -9223372036854775808 ≤ a ∧ a < 9223372036854775808 := by omega) (hbb : -9223372036854775808 ≤ b ∧ b < 9223372036854775808 := by omega) : Zw Γ ω cells slots pc lv (.long (zJ b) :: .long (zJ a) :: st) := by
  obtain ⟨p, l, e, R, s, m, args, below, meth, c, Q, X, A, nL⟩ := Γ
  obtain ⟨hx, hb, hml, hown, hts, hK, hA, rfl, rfl, rfl, rfl⟩ := C
  intro H locs ls hP hG hS hl
  refine W.lcmp hx hb hd0 ?_
  rw [z_cmp ha hbb]
  have hr := zc_r a b
  exact (z_if_ge (Γ := (p, l, e, R, s, m, args, below, meth, c, Q, X, A, nL)) ⟨hx, hb, hml, hown, hts, hK, hA, rfl, rfl, rfl, rfl⟩ hd ht (fun h => kt (by unfold zc at h; split at h <;> (try split at h) <;> omega)) (fun h => kf (by unfold zc at h; split at h <;> (try split at h) <;> omega)) hr) H locs ls hP hG hS hl
theorem z_lcmp_ne (C : Zc Γ l0 X R nL cc own) {a b : Int} {off : Int} {tgt : Nat} (hd0 : decode cc pc = .ok (.lcmp, 1)) (hd : decode cc (pc + 1) = .ok (.ifCond .ne off, 3)) (ht : ((pc + 1 : Nat) : Int) + off = (tgt : Int)) (kt : ¬ a = b → Zw Γ ω cells slots tgt lv st) (kf : a = b → Zw Γ ω cells slots (pc + 1 + 3) lv st) (ha : -9223372036854775808 ≤ a ∧ a < 9223372036854775808 := by omega) (hbb : -9223372036854775808 ≤ b ∧ b < 9223372036854775808 := by omega) : Zw Γ ω cells slots pc lv (.long (zJ b) :: .long (zJ a) :: st) := by
  obtain ⟨p, l, e, R, s, m, args, below, meth, c, Q, X, A, nL⟩ := Γ
  obtain ⟨hx, hb, hml, hown, hts, hK, hA, rfl, rfl, rfl, rfl⟩ := C
  intro H locs ls hP hG hS hl
  refine W.lcmp hx hb hd0 ?_
  rw [z_cmp ha hbb]
  have hr := zc_r a b
  exact (z_if_ne (Γ := (p, l, e, R, s, m, args, below, meth, c, Q, X, A, nL)) ⟨hx, hb, hml, hown, hts, hK, hA, rfl, rfl, rfl, rfl⟩ hd ht (fun h => kt (by unfold zc at h; split at h <;> (try split at h) <;> omega)) (fun h => kf (by unfold zc at h; split at h <;> (try split at h) <;> omega)) hr) H locs ls hP hG hS hl
theorem z_lcmp_eq (C : Zc Γ l0 X R nL cc own) {a b : Int} {off : Int} {tgt : Nat} (hd0 : decode cc pc = .ok (.lcmp, 1)) (hd : decode cc (pc + 1) = .ok (.ifCond .eq off, 3)) (ht : ((pc + 1 : Nat) : Int) + off = (tgt : Int)) (kt : a = b → Zw Γ ω cells slots tgt lv st) (kf : ¬ a = b → Zw Γ ω cells slots (pc + 1 + 3) lv st) (ha : -9223372036854775808 ≤ a ∧ a < 9223372036854775808 := by omega) (hbb : -9223372036854775808 ≤ b ∧ b < 9223372036854775808 := by omega) : Zw Γ ω cells slots pc lv (.long (zJ b) :: .long (zJ a) :: st) := by
  obtain ⟨p, l, e, R, s, m, args, below, meth, c, Q, X, A, nL⟩ := Γ
  obtain ⟨hx, hb, hml, hown, hts, hK, hA, rfl, rfl, rfl, rfl⟩ := C
  intro H locs ls hP hG hS hl
  refine W.lcmp hx hb hd0 ?_
  rw [z_cmp ha hbb]
  have hr := zc_r a b
  exact (z_if_eq (Γ := (p, l, e, R, s, m, args, below, meth, c, Q, X, A, nL)) ⟨hx, hb, hml, hown, hts, hK, hA, rfl, rfl, rfl, rfl⟩ hd ht (fun h => kt (by unfold zc at h; split at h <;> (try split at h) <;> omega)) (fun h => kf (by unfold zc at h; split at h <;> (try split at h) <;> omega)) hr) H locs ls hP hG hS hl
theorem z_lcmp_le (C : Zc Γ l0 X R nL cc own) {a b : Int} {off : Int} {tgt : Nat} (hd0 : decode cc pc = .ok (.lcmp, 1)) (hd : decode cc (pc + 1) = .ok (.ifCond .le off, 3)) (ht : ((pc + 1 : Nat) : Int) + off = (tgt : Int)) (kt : a ≤ b → Zw Γ ω cells slots tgt lv st) (kf : b < a → Zw Γ ω cells slots (pc + 1 + 3) lv st) (ha : -9223372036854775808 ≤ a ∧ a < 9223372036854775808 := by omega) (hbb : -9223372036854775808 ≤ b ∧ b < 9223372036854775808 := by omega) : Zw Γ ω cells slots pc lv (.long (zJ b) :: .long (zJ a) :: st) := by
  obtain ⟨p, l, e, R, s, m, args, below, meth, c, Q, X, A, nL⟩ := Γ
  obtain ⟨hx, hb, hml, hown, hts, hK, hA, rfl, rfl, rfl, rfl⟩ := C
  intro H locs ls hP hG hS hl
  refine W.lcmp hx hb hd0 ?_
  rw [z_cmp ha hbb]
  have hr := zc_r a b
  exact (z_if_le (Γ := (p, l, e, R, s, m, args, below, meth, c, Q, X, A, nL)) ⟨hx, hb, hml, hown, hts, hK, hA, rfl, rfl, rfl, rfl⟩ hd ht (fun h => kt (by unfold zc at h; split at h <;> (try split at h) <;> omega)) (fun h => kf (by unfold zc at h; split at h <;> (try split at h) <;> omega)) hr) H locs ls hP hG hS hl
theorem z_lcmp_gt (C : Zc Γ l0 X R nL cc own) {a b : Int} {off : Int} {tgt : Nat} (hd0 : decode cc pc = .ok (.lcmp, 1)) (hd : decode cc (pc + 1) = .ok (.ifCond .gt off, 3)) (ht : ((pc + 1 : Nat) : Int) + off = (tgt : Int)) (kt : b < a → Zw Γ ω cells slots tgt lv st) (kf : a ≤ b → Zw Γ ω cells slots (pc + 1 + 3) lv st) (ha : -9223372036854775808 ≤ a ∧ a < 9223372036854775808 := by omega) (hbb : -9223372036854775808 ≤ b ∧ b < 9223372036854775808 := by omega) : Zw Γ ω cells slots pc lv (.long (zJ b) :: .long (zJ a) :: st) := by
  obtain ⟨p, l, e, R, s, m, args, below, meth, c, Q, X, A, nL⟩ := Γ
  obtain ⟨hx, hb, hml, hown, hts, hK, hA, rfl, rfl, rfl, rfl⟩ := C
  intro H locs ls hP hG hS hl
  refine W.lcmp hx hb hd0 ?_
  rw [z_cmp ha hbb]
  have hr := zc_r a b
  exact (z_if_gt (Γ := (p, l, e, R, s, m, args, below, meth, c, Q, X, A, nL)) ⟨hx, hb, hml, hown, hts, hK, hA, rfl, rfl, rfl, rfl⟩ hd ht (fun h => kt (by unfold zc at h; split at h <;> (try split at h) <;> omega)) (fun h => kf (by unfold zc at h; split at h <;> (try split at h) <;> omega)) hr) H locs ls hP hG hS hl
theorem z_lcmp_lt (C : Zc Γ l0 X R nL cc own) {a b : Int} {off : Int} {tgt : Nat} (hd0 : decode cc pc = .ok (.lcmp, 1)) (hd : decode cc (pc + 1) = .ok (.ifCond .lt off, 3)) (ht : ((pc + 1 : Nat) : Int) + off = (tgt : Int)) (kt : a < b → Zw Γ ω cells slots tgt lv st) (kf : b ≤ a → Zw Γ ω cells slots (pc + 1 + 3) lv st) (ha : -9223372036854775808 ≤ a ∧ a < 9223372036854775808 := by omega) (hbb : -9223372036854775808 ≤ b ∧ b < 9223372036854775808 := by omega) : Zw Γ ω cells slots pc lv (.long (zJ b) :: .long (zJ a) :: st) := by
  obtain ⟨p, l, e, R, s, m, args, below, meth, c, Q, X, A, nL⟩ := Γ
  obtain ⟨hx, hb, hml, hown, hts, hK, hA, rfl, rfl, rfl, rfl⟩ := C
  intro H locs ls hP hG hS hl
  refine W.lcmp hx hb hd0 ?_
  rw [z_cmp ha hbb]
  have hr := zc_r a b
  exact (z_if_lt (Γ := (p, l, e, R, s, m, args, below, meth, c, Q, X, A, nL)) ⟨hx, hb, hml, hown, hts, hK, hA, rfl, rfl, rfl, rfl⟩ hd ht (fun h => kt (by unfold zc at h; split at h <;> (try split at h) <;> omega)) (fun h => kf (by unfold zc at h; split at h <;> (try split at h) <;> omega)) hr) H locs ls hP hG hS hl
end ZR
