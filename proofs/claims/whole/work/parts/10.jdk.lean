theorem Met.ofWF {l : Launch} {y : MethodName} {ws ws' : List Cond} {rm : Room} {Pc : Array Value → State → Prop} {Qc : Array Value → State → Outcome → State → Prop} {mc ms : Nat} {free : Addr → Prop} {cc : ByteArray} {maxL : Nat} {ret : Option FieldType}
    (hy : plainFor y = true) (hw : ws = Cond.code y cc maxL ret :: ws')
    (body : ∀ p e s m args below meth c s₁, BodyLoose p l y (headSpec ws rm) cc maxL ret e s m args below meth c s₁ → c.maxLocals = maxL → Pc args s →
      W p l e (headSpec ws rm).room s m args below meth c s.heap [] 0 0 (MQ below Qc args s mc ms free) (entryFrame m args maxL)) : Met l y ws rm Pc Qc mc ms free := by
  refine MetFree.of_bodySF (code := cc) (maxLocals := maxL) (ret := ret) hy ?_ ?_
  · intro args s m h hn
    obtain ⟨meth, c, h1, h2, h3, h4, h5, h6, -, -⟩ := Cond.code_spec hn (atoms_spec (ws := ws) h _ (by rw [hw]; exact List.mem_cons_self))
    exact ⟨meth, c, h1, h2, h3, h4, h5, h6⟩
  · intro p e s m args below meth c s₁ B hml hP _
    have hh0 : s₁.heap = s.heap := by rw [B.state]; rfl
    obtain ⟨t, a1, o, b1, b2, b3⟩ := body p e s m args below meth c s₁ B hml hP s₁ hh0 (Stand.of_body B)
    exact ⟨t, o, a1, b1, b2, ⟨b3.1, b3.2⟩⟩
theorem zMet.introF {l0 : Launch} {X : zX} {nL : Nat} {cc : ByteArray} {ω : zWd} {y : MethodName} {ret : Option FieldType} {rm : Room} {av : List Value} {post : Option Value → zWd → Prop} (hy : plainFor y = true) (hlen : (lg_sl av).length ≤ nL)
    (h : ∀ Γ : zG, Zc Γ l0 X rm nL cc y.cls → Ze Γ post rm.cells rm.slots ret → Γ.2.2.2.2.2.2.2.2.1.name = y.name → Zw Γ ω 0 0 0 (zEnt av nL) []) : zMet l0 y cc nL ret rm X av ω post := by
  refine Met.ofWF (cc := cc) (maxL := nL) (ret := ret) hy rfl ?_
  intro p e s m args below meth c s₁ B hml hv
  obtain ⟨rfl, hP, hK⟩ := hv
  have hts := atoms_spec (ws := .code y cc nL ret :: zTb) B.pre
  have hown : s.vm.findClass y.cls = some m.cls := findClass_of_methodNamed B.named
  have hin : meth.name = y.name := (name_of_methodNamed B.named B.method).1
  have hA : ∀ q : Nat, s.heap.size ≤ q → zA ω q := fun q h => Or.inr (by rw [← hP.1]; exact h)
  have h1 := h (p, l0, e, rm, s, m, av.toArray, below, meth, c, MQ below (zQc X ω post) av.toArray s rm.cells rm.slots (zA ω), X, zA ω, nL) ⟨B.exec, B.bytes, hml, hown, fun w hw => hts w (List.mem_cons_of_mem _ hw), hK, hA, rfl, rfl, rfl, rfl⟩ ⟨ω, rfl, rfl, B.returns, B.notSynchronized⟩ hin
  rw [lg_entry_eq]
  exact h1 s.heap [] _ hP (fun a x hx => Or.inl ⟨x, hx⟩) va_S.rf (zEnt_ok av hlen)
set_option maxRecDepth 100000 in
set_option maxHeartbeats 4000000 in
theorem c_J9_max_7cf53 {l0 : Launch} {X : zX} {ω : zWd} {a b : Int} (ha : -2147483648 ≤ a ∧ a < 2147483648 := by omega) (hb : -2147483648 ≤ b ∧ b < 2147483648 := by omega) : zMet l0 yJ9_max_7cf53 cJ9_max_7cf53 2 (some .int) rmJ9_max_7cf53 X [.int (zI a), .int (zI b)] ω (zpi (fun r w => w = ω ∧ r = max a b)) := by
  refine zMet.introF (by decide +kernel) (Nat.le_of_ble_eq_true rfl) ?_
  intro Γ C E N
  show Zw Γ ω 0 0 0 [_, _] []
  refine z_iload_n (i := 0) (pc := 0) C rfl rfl dJ9_max_7cf53_0 ?_
  refine z_iload_n (i := 1) (pc := 1) C rfl rfl dJ9_max_7cf53_1 ?_
  refine z_icmp_lt (tgt := 9) (pc := 2) C dJ9_max_7cf53_2 (by decide) (fun h2 => ?_) (fun h2 => ?_)
  · refine z_iload_n (i := 1) (pc := 9) C rfl rfl dJ9_max_7cf53_9 ?_
    exact z_iret (pc := 10) C E dJ9_max_7cf53_10 ⟨_, rfl, ⟨rfl, by omega⟩⟩
  · refine z_iload_n (i := 0) (pc := 5) C rfl rfl dJ9_max_7cf53_5 ?_
    refine z_goto (tgt := 10) (pc := 6) C dJ9_max_7cf53_6 (by decide) ?_
    exact z_iret (pc := 10) C E dJ9_max_7cf53_10 ⟨_, rfl, ⟨rfl, by omega⟩⟩
set_option maxRecDepth 100000 in
set_option maxHeartbeats 4000000 in
theorem c_J9_min_7cf53 {l0 : Launch} {X : zX} {ω : zWd} {a b : Int} (ha : -2147483648 ≤ a ∧ a < 2147483648 := by omega) (hb : -2147483648 ≤ b ∧ b < 2147483648 := by omega) : zMet l0 yJ9_min_7cf53 cJ9_min_7cf53 2 (some .int) rmJ9_min_7cf53 X [.int (zI a), .int (zI b)] ω (zpi (fun r w => w = ω ∧ r = min a b)) := by
  refine zMet.introF (by decide +kernel) (Nat.le_of_ble_eq_true rfl) ?_
  intro Γ C E N
  show Zw Γ ω 0 0 0 [_, _] []
  refine z_iload_n (i := 0) (pc := 0) C rfl rfl dJ9_min_7cf53_0 ?_
  refine z_iload_n (i := 1) (pc := 1) C rfl rfl dJ9_min_7cf53_1 ?_
  refine z_icmp_gt (tgt := 9) (pc := 2) C dJ9_min_7cf53_2 (by decide) (fun h2 => ?_) (fun h2 => ?_)
  · refine z_iload_n (i := 1) (pc := 9) C rfl rfl dJ9_min_7cf53_9 ?_
    exact z_iret (pc := 10) C E dJ9_min_7cf53_10 ⟨_, rfl, ⟨rfl, by omega⟩⟩
  · refine z_iload_n (i := 0) (pc := 5) C rfl rfl dJ9_min_7cf53_5 ?_
    refine z_goto (tgt := 10) (pc := 6) C dJ9_min_7cf53_6 (by decide) ?_
    exact z_iret (pc := 10) C E dJ9_min_7cf53_10 ⟨_, rfl, ⟨rfl, by omega⟩⟩
set_option maxRecDepth 100000 in
set_option maxHeartbeats 4000000 in
theorem c_J13_compare_74951 {l0 : Launch} {X : zX} {ω : zWd} {a b : Int} (ha : -9223372036854775808 ≤ a ∧ a < 9223372036854775808 := by omega) (hb : -9223372036854775808 ≤ b ∧ b < 9223372036854775808 := by omega) : zMet l0 yJ13_compare_74951 cJ13_compare_74951 4 (some .int) rmJ13_compare_74951 X [.long (zJ a), .long (zJ b)] ω (zpi (fun r w => w = ω ∧ ((a < b ∧ r = -1) ∨ (a = b ∧ r = 0) ∨ (b < a ∧ r = 1)))) := by
  refine zMet.intro (by decide) (Nat.le_of_ble_eq_true rfl) ?_
  intro Γ C E N
  show Zw Γ ω 0 0 0 [_, _, _, _] []
  refine z_lload_n (i := 0) (pc := 0) C rfl rfl dJ13_compare_74951_0 ?_
  refine z_lload_n (i := 2) (pc := 1) C rfl rfl dJ13_compare_74951_1 ?_
  refine z_lcmp_ge (tgt := 10) (pc := 2) C dJ13_compare_74951_2 dJ13_compare_74951_3 (by decide) (fun h2 => ?_) (fun h2 => ?_)
  · refine z_lload_n (i := 0) (pc := 10) C rfl rfl dJ13_compare_74951_10 ?_
    refine z_lload_n (i := 2) (pc := 11) C rfl rfl dJ13_compare_74951_11 ?_
    refine z_lcmp_ne (tgt := 20) (pc := 12) C dJ13_compare_74951_12 dJ13_compare_74951_13 (by decide) (fun h12 => ?_) (fun h12 => ?_)
    · refine z_iconst (pc := 20) C dJ13_compare_74951_20 ?_
      exact z_iret (pc := 21) C E dJ13_compare_74951_21 ⟨_, rfl, ⟨rfl, by omega⟩⟩
    · refine z_iconst (pc := 16) C dJ13_compare_74951_16 ?_
      refine z_goto (tgt := 21) (pc := 17) C dJ13_compare_74951_17 (by decide) ?_
      exact z_iret (pc := 21) C E dJ13_compare_74951_21 ⟨_, rfl, ⟨rfl, by omega⟩⟩
  · refine z_iconst (pc := 6) C dJ13_compare_74951_6 ?_
    refine z_goto (tgt := 21) (pc := 7) C dJ13_compare_74951_7 (by decide) ?_
    exact z_iret (pc := 21) C E dJ13_compare_74951_21 ⟨_, rfl, ⟨rfl, by omega⟩⟩
theorem z_xor {a b : Int} (ha : -9223372036854775808 ≤ a ∧ a < 9223372036854775808) (hb : 0 ≤ b ∧ b < 9223372036854775808) : ((zJ a ^^^ zJ b).toInt < 0 ↔ a < 0) := by
  have h1 : (zJ a ^^^ zJ b).toBitVec.msb = ((zJ a).toBitVec.msb ^^ (zJ b).toBitVec.msb) := by rw [Int64.toBitVec_xor, BitVec.msb_xor]
  rw [BitVec.msb_eq_toInt, BitVec.msb_eq_toInt, BitVec.msb_eq_toInt] at h1
  change decide ((zJ a ^^^ zJ b).toInt < 0) = (decide ((zJ a).toInt < 0) ^^ decide ((zJ b).toInt < 0)) at h1
  rw [zJ_t ha, zJ_t (by omega)] at h1
  have hb2 : ¬ b < 0 := by omega
  simp only [hb2, decide_false, Bool.xor_false, decide_eq_decide] at h1
  exact h1
theorem z_tm {a b M : Int} (ha : -M < a ∧ a < M) (hb : 0 < b) : -M ≤ a.tdiv b * b ∧ a.tdiv b * b < M := by
  rcases Int.lt_or_le a 0 with h | h
  · have e : a.tdiv b = -((-a) / b) := by
      rw [← Int.tdiv_eq_ediv_of_nonneg (by omega), Int.neg_tdiv, Int.neg_neg]
    have h1 := Int.ediv_mul_le (-a) (show b ≠ 0 by omega)
    have h2 : 0 ≤ (-a) / b * b := Int.mul_nonneg (Int.ediv_nonneg (by omega) (by omega)) (by omega)
    rw [e, Int.neg_mul]
    omega
  · rw [Int.tdiv_eq_ediv_of_nonneg h]
    have h1 := Int.ediv_mul_le a (show b ≠ 0 by omega)
    have h2 : 0 ≤ a / b * b := Int.mul_nonneg (Int.ediv_nonneg h (by omega)) (by omega)
    omega
theorem z_tr {a b M : Int} (ha : -M < a ∧ a < M) (hb : 0 < b) : -M ≤ a - a.tdiv b * b ∧ a - a.tdiv b * b < M := by
  rcases Int.lt_or_le a 0 with h | h
  · have e : a.tdiv b = -((-a) / b) := by
      rw [← Int.tdiv_eq_ediv_of_nonneg (by omega), Int.neg_tdiv, Int.neg_neg]
    have h1 := Int.ediv_mul_le (-a) (show b ≠ 0 by omega)
    have h2 : 0 ≤ (-a) / b * b := Int.mul_nonneg (Int.ediv_nonneg (by omega) (by omega)) (by omega)
    rw [e, Int.neg_mul]
    omega
  · rw [Int.tdiv_eq_ediv_of_nonneg h]
    have h1 := Int.ediv_mul_le a (show b ≠ 0 by omega)
    have h2 : 0 ≤ a / b * b := Int.mul_nonneg (Int.ediv_nonneg h (by omega)) (by omega)
    omega
theorem zJ_r (x : Int64) : -9223372036854775808 ≤ x.toInt ∧ x.toInt < 9223372036854775808 := by
  have h1 := Int64.le_toInt x
  have h2 := Int64.toInt_lt x
  omega
/-- cut towards nought, and floored -/
theorem z_td (a : Int) {b : Int} (hb : 0 < b) : (0 ≤ a ∧ a.tdiv b = a / b) ∨ (a < 0 ∧ a.tdiv b * b = a ∧ a.tdiv b = a / b) ∨ (a < 0 ∧ a.tdiv b * b ≠ a ∧ a.tdiv b - 1 = a / b) := by
  rcases Int.lt_or_le a 0 with h | h
  · have e : a.tdiv b = -((-a) / b) := by
      rw [← Int.tdiv_eq_ediv_of_nonneg (by omega), Int.neg_tdiv, Int.neg_neg]
    have h1 := Int.emod_add_mul_ediv (-a) b
    have h2 := Int.emod_nonneg (-a) (show b ≠ 0 by omega)
    have h3 := Int.emod_lt_of_pos (-a) hb
    generalize hq : (-a) / b = q at *
    generalize hr : (-a) % b = r at *
    have hm : b * q = q * b := Int.mul_comm b q
    rw [e]
    have hn : -q * b = -(q * b) := Int.neg_mul q b
    by_cases hz : r = 0
    · refine Or.inr (Or.inl ⟨h, by omega, ?_⟩)
      symm
      exact (Int.ediv_eq_iff_of_pos hb).mpr ⟨by rw [hn]; omega, by rw [hn]; omega⟩
    · refine Or.inr (Or.inr ⟨h, by omega, ?_⟩)
      symm
      have hn2 : (-q - 1) * b = -(q * b) - b := by rw [Int.sub_mul, hn, Int.one_mul]
      exact (Int.ediv_eq_iff_of_pos hb).mpr ⟨by rw [hn2]; omega, by rw [hn2]; omega⟩
  · exact Or.inl ⟨h, Int.tdiv_eq_ediv_of_nonneg h⟩
set_option maxRecDepth 100000 in
set_option maxHeartbeats 4000000 in
theorem c_J9_floorDiv_f86c9 {l0 : Launch} {X : zX} {ω : zWd} {a b : Int} (ha : -9223372036854775808 < a ∧ a < 9223372036854775808 := by omega) (hb : 0 < b ∧ b < 9223372036854775808 := by omega) : zMet l0 yJ9_floorDiv_f86c9 cJ9_floorDiv_f86c9 6 (some .long) rmJ9_floorDiv_f86c9 X [.long (zJ a), .long (zJ b)] ω (zpl (fun r w => w = ω ∧ r = a / b)) := by
  refine zMet.introF (by decide +kernel) (Nat.le_of_ble_eq_true rfl) ?_
  intro Γ C E N
  show Zw Γ ω 0 0 0 [_, _, _, _, _, _] []
  have hq := z_td a hb.1
  have hq3 := z_tb ha hb.1
  have hd := zdm a b
  have hxr := zJ_r (zJ a ^^^ zJ b)
  have hx := z_xor (a := a) (b := b) (by omega) (by omega)
  refine z_lload_n (i := 0) (pc := 0) C rfl rfl dJ9_floorDiv_f86c9_0 ?_
  refine z_lload_n (i := 2) (pc := 1) C rfl rfl dJ9_floorDiv_f86c9_1 ?_
  refine z_ldivT (pc := 2) C (hd := dJ9_floorDiv_f86c9_2) (k := ?_)
  refine z_lstore (i := 4) (lv' := [_, _, _, _, _, _]) (pc := 3) C (by decide) rfl rfl dJ9_floorDiv_f86c9_3 ?_
  refine z_lload_n (i := 0) (pc := 5) C rfl rfl dJ9_floorDiv_f86c9_5 ?_
  refine z_lload_n (i := 2) (pc := 6) C rfl rfl dJ9_floorDiv_f86c9_6 ?_
  refine z_lxor (pc := 7) C dJ9_floorDiv_f86c9_7 ?_
  rw [← zJ_of (zJ a ^^^ zJ b)]
  refine z_lconst (v := 0) (pc := 8) C (by decide +kernel) dJ9_floorDiv_f86c9_8 ?_
  refine z_lcmp_ge (tgt := 27) (pc := 9) C dJ9_floorDiv_f86c9_9 dJ9_floorDiv_f86c9_10 (by decide) (fun h9 => ?_) (fun h9 => ?_)
  · refine z_lload (i := 4) (pc := 27) C rfl dJ9_floorDiv_f86c9_27 ?_
    exact z_lret (pc := 29) C E dJ9_floorDiv_f86c9_29 ⟨_, rfl, ⟨rfl, by omega⟩⟩
  · refine z_lload (i := 4) (pc := 13) C rfl dJ9_floorDiv_f86c9_13 ?_
    refine z_lload_n (i := 2) (pc := 15) C rfl rfl dJ9_floorDiv_f86c9_15 ?_
    refine z_lmul (pc := 16) C dJ9_floorDiv_f86c9_16 ?_
    refine z_lload_n (i := 0) (pc := 17) C rfl rfl dJ9_floorDiv_f86c9_17 ?_
    have hpr := z_tm ha hb.1
    refine z_lcmp_eq (tgt := 27) (pc := 18) C dJ9_floorDiv_f86c9_18 dJ9_floorDiv_f86c9_19 (by decide) (fun h18 => ?_) (fun h18 => ?_) (ha := hpr)
    · refine z_lload (i := 4) (pc := 27) C rfl dJ9_floorDiv_f86c9_27 ?_
      exact z_lret (pc := 29) C E dJ9_floorDiv_f86c9_29 ⟨_, rfl, ⟨rfl, by omega⟩⟩
    · refine z_lload (i := 4) (pc := 22) C rfl dJ9_floorDiv_f86c9_22 ?_
      refine z_lconst (v := 1) (pc := 24) C (by decide +kernel) dJ9_floorDiv_f86c9_24 ?_
      refine z_lsub (pc := 25) C dJ9_floorDiv_f86c9_25 ?_
      exact z_lret (pc := 26) C E dJ9_floorDiv_f86c9_26 ⟨_, rfl, ⟨rfl, by omega⟩⟩
set_option maxRecDepth 100000 in
set_option maxHeartbeats 4000000 in
theorem c_J9_floorMod_f86c9 {l0 : Launch} {X : zX} {ω : zWd} {a b : Int} (ha : -9223372036854775808 < a ∧ a < 9223372036854775808 := by omega) (hb : 0 < b ∧ b < 9223372036854775808 := by omega) : zMet l0 yJ9_floorMod_f86c9 cJ9_floorMod_f86c9 6 (some .long) rmJ9_floorMod_f86c9 X [.long (zJ a), .long (zJ b)] ω (zpl (fun r w => w = ω ∧ r = a % b)) := by
  refine zMet.introF (by decide +kernel) (Nat.le_of_ble_eq_true rfl) ?_
  intro Γ C E N
  show Zw Γ ω 0 0 0 [_, _, _, _, _, _] []
  have hq := z_td a hb.1
  have hq3 := z_tb ha hb.1
  have hd := zdm a b
  have hxr := zJ_r (zJ a ^^^ zJ b)
  have hx := z_xor (a := a) (b := b) (by omega) (by omega)
  have hpr := z_tr ha hb.1
  refine z_lload_n (i := 0) (pc := 0) C rfl rfl dJ9_floorMod_f86c9_0 ?_
  refine z_lload_n (i := 2) (pc := 1) C rfl rfl dJ9_floorMod_f86c9_1 ?_
  refine z_lremT (pc := 2) C (hd := dJ9_floorMod_f86c9_2) (k := ?_)
  refine z_lstore (i := 4) (lv' := [_, _, _, _, _, _]) (pc := 3) C (by decide) rfl rfl dJ9_floorMod_f86c9_3 ?_
  refine z_lload_n (i := 0) (pc := 5) C rfl rfl dJ9_floorMod_f86c9_5 ?_
  refine z_lload_n (i := 2) (pc := 6) C rfl rfl dJ9_floorMod_f86c9_6 ?_
  refine z_lxor (pc := 7) C dJ9_floorMod_f86c9_7 ?_
  rw [← zJ_of (zJ a ^^^ zJ b)]
  refine z_lconst (v := 0) (pc := 8) C (by decide +kernel) dJ9_floorMod_f86c9_8 ?_
  refine z_lcmp_ge (tgt := 25) (pc := 9) C dJ9_floorMod_f86c9_9 dJ9_floorMod_f86c9_10 (by decide) (fun h9 => ?_) (fun h9 => ?_)
  · refine z_lload (i := 4) (pc := 25) C rfl dJ9_floorMod_f86c9_25 ?_
    exact z_lret (pc := 27) C E dJ9_floorMod_f86c9_27 ⟨_, rfl, ⟨rfl, by rw [← hd]; first | (rcases hq with q | q | q <;> first | (rw [q.2]; done) | (rw [q.2.2]; done) | (exfalso; omega)) | (rcases hq with q | q | q <;> first | (exfalso; omega) | (rw [← q.2.2, Int.sub_mul, Int.one_mul]; omega))⟩⟩
  · refine z_lload (i := 4) (pc := 13) C rfl dJ9_floorMod_f86c9_13 ?_
    refine z_lconst (v := 0) (pc := 15) C (by decide +kernel) dJ9_floorMod_f86c9_15 ?_
    refine z_lcmp_eq (tgt := 25) (pc := 16) C dJ9_floorMod_f86c9_16 dJ9_floorMod_f86c9_17 (by decide) (fun h16 => ?_) (fun h16 => ?_) (ha := hpr)
    · refine z_lload (i := 4) (pc := 25) C rfl dJ9_floorMod_f86c9_25 ?_
      exact z_lret (pc := 27) C E dJ9_floorMod_f86c9_27 ⟨_, rfl, ⟨rfl, by rw [← hd]; first | (rcases hq with q | q | q <;> first | (rw [q.2]; done) | (rw [q.2.2]; done) | (exfalso; omega)) | (rcases hq with q | q | q <;> first | (exfalso; omega) | (rw [← q.2.2, Int.sub_mul, Int.one_mul]; omega))⟩⟩
    · refine z_lload (i := 4) (pc := 20) C rfl dJ9_floorMod_f86c9_20 ?_
      refine z_lload_n (i := 2) (pc := 22) C rfl rfl dJ9_floorMod_f86c9_22 ?_
      refine z_ladd (pc := 23) C dJ9_floorMod_f86c9_23 ?_
      exact z_lret (pc := 24) C E dJ9_floorMod_f86c9_24 ⟨_, rfl, ⟨rfl, by rw [← hd]; first | (rcases hq with q | q | q <;> first | (rw [q.2]; done) | (rw [q.2.2]; done) | (exfalso; omega)) | (rcases hq with q | q | q <;> first | (exfalso; omega) | (rw [← q.2.2, Int.sub_mul, Int.one_mul]; omega))⟩⟩
def zfill (g : Int → Int) (v i : Int) : Int → Int := fun k => if 0 ≤ k ∧ k < i then v else g k
theorem zfill_0 (g : Int → Int) (v : Int) : zfill g v 0 = g := by
  funext k
  have : ¬ (0 ≤ k ∧ k < 0) := by omega
  simp [zfill, this]
theorem zfill_s {g : Int → Int} {v i : Int} (h : 0 ≤ i) : zup (zfill g v i) i v = zfill g v (i + 1) := by
  funext k
  unfold zup zfill
  by_cases h1 : k = i
  · subst h1
    have : 0 ≤ k ∧ k < k + 1 := by omega
    simp [this]
  · by_cases h2 : 0 ≤ k ∧ k < i
    · have : 0 ≤ k ∧ k < i + 1 := by omega
      simp [h1, h2, this]
    · have : ¬ (0 ≤ k ∧ k < i + 1) := by omega
      simp [h1, h2, this]
set_option maxRecDepth 100000 in
set_option maxHeartbeats 4000000 in
theorem lp_J7_fill_d0a16 {Γ : zG} {l0 : Launch} {X : zX} {ω : zWd} {a n : Nat} {g : Int → Int} {v : Int} (C : Zc Γ l0 X rmJ7_fill_d0a16 5 cJ7_fill_d0a16 RJ7) (E : Ze Γ (zpv (fun w => w = zU ω a (zAJ X n (zfill g v n)))) 0 0 none) (hn : n < 1000000) : ∀ (j : Nat) (i : Int), 0 ≤ i → i + j = n → Zw Γ (zU ω a (zAJ X n (zfill g v i))) 0 0 6 [some (.ref a), some (.long (zJ v)), none, some (.int (zI i)), some (.int (zI n))] [] := by
  intro j
  induction j with
  | zero =>
    intro i h0 hj
    refine z_iload_n (i := 3) (pc := 6) C rfl rfl dJ7_fill_d0a16_6 ?_
    refine z_iload (i := 4) (pc := 7) C rfl dJ7_fill_d0a16_7 ?_
    refine z_icmp_ge (tgt := 22) (pc := 9) C dJ7_fill_d0a16_9 (by decide) (fun h9 => ?_) (fun h9 => absurd h9 (by omega))
    exact z_vret (pc := 22) C E dJ7_fill_d0a16_22 ⟨rfl, by rw [show i = (n : Int) by omega]⟩
  | succ j ih =>
    intro i h0 hj
    refine z_iload_n (i := 3) (pc := 6) C rfl rfl dJ7_fill_d0a16_6 ?_
    refine z_iload (i := 4) (pc := 7) C rfl dJ7_fill_d0a16_7 ?_
    refine z_icmp_ge (tgt := 22) (pc := 9) C dJ7_fill_d0a16_9 (by decide) (fun h9 => absurd h9 (by omega)) (fun h9 => ?_)
    refine z_aload_n (i := 0) (pc := 12) C rfl rfl dJ7_fill_d0a16_12 ?_
    refine z_iload_n (i := 3) (pc := 13) C rfl rfl dJ7_fill_d0a16_13 ?_
    refine z_lload_n (i := 1) (pc := 14) C rfl rfl dJ7_fill_d0a16_14 ?_
    refine z_lastore (pc := 15) C (zU_s _ _ _) dJ7_fill_d0a16_15 ?_
    refine z_iinc (i := 3) (lv' := [_, _, _, _, _]) (pc := 16) C rfl (by decide) rfl rfl dJ7_fill_d0a16_16 ?_
    refine z_goto (tgt := 6) (pc := 19) C dJ7_fill_d0a16_19 (by decide) ?_
    rw [zU_u, zfill_s h0]
    exact ih (i + 1) (by omega) (by omega)
set_option maxRecDepth 100000 in
set_option maxHeartbeats 4000000 in
theorem c_J7_fill_d0a16 {l0 : Launch} {X : zX} {ω : zWd} {a n : Nat} {g : Int → Int} {v : Int} (ha : ω.1 a = some (zAJ X n g)) (hn : n < 1000000) : zMet l0 yJ7_fill_d0a16 cJ7_fill_d0a16 5 none rmJ7_fill_d0a16 X [.ref a, .long (zJ v)] ω (zpv (fun w => w = zU ω a (zAJ X n (zfill g v n)))) := by
  refine zMet.intro (by decide) (Nat.le_of_ble_eq_true rfl) ?_
  intro Γ C E N
  show Zw Γ ω 0 0 0 [_, _, _, _, _] []
  refine z_iconst (pc := 0) C dJ7_fill_d0a16_0 ?_
  refine z_istore_n (i := 3) (lv' := [_, _, _, _, _]) (pc := 1) C rfl (by decide) rfl rfl dJ7_fill_d0a16_1 ?_
  refine z_aload_n (i := 0) (pc := 2) C rfl rfl dJ7_fill_d0a16_2 ?_
  refine z_alenJ (pc := 3) C ha dJ7_fill_d0a16_3 ?_
  refine z_istore (i := 4) (lv' := [_, _, _, _, _]) (pc := 4) C (by decide) rfl rfl dJ7_fill_d0a16_4 ?_
  have hw : ω = zU ω a (zAJ X n (zfill g v 0)) := by rw [zfill_0, zU_id ha]
  rw [hw]
  exact lp_J7_fill_d0a16 (ω := ω) C E hn n 0 (by omega) (by omega)
set_option maxRecDepth 100000 in
set_option maxHeartbeats 4000000 in
theorem lp_J7_fill_53178 {Γ : zG} {l0 : Launch} {X : zX} {ω : zWd} {a n : Nat} {g : Int → Int} {v : Int} (C : Zc Γ l0 X rmJ7_fill_53178 4 cJ7_fill_53178 RJ7) (E : Ze Γ (zpv (fun w => w = zU ω a (zAI X n (zfill g v n)))) 0 0 none) (hn : n < 1000000) : ∀ (j : Nat) (i : Int), 0 ≤ i → i + j = n → Zw Γ (zU ω a (zAI X n (zfill g v i))) 0 0 5 [some (.ref a), some (.int (zI v)), some (.int (zI i)), some (.int (zI n))] [] := by
  intro j
  induction j with
  | zero =>
    intro i h0 hj
    refine z_iload_n (i := 2) (pc := 5) C rfl rfl dJ7_fill_53178_5 ?_
    refine z_iload_n (i := 3) (pc := 6) C rfl rfl dJ7_fill_53178_6 ?_
    refine z_icmp_ge (tgt := 20) (pc := 7) C dJ7_fill_53178_7 (by decide) (fun h7 => ?_) (fun h7 => absurd h7 (by omega))
    exact z_vret (pc := 20) C E dJ7_fill_53178_20 ⟨rfl, by rw [show i = (n : Int) by omega]⟩
  | succ j ih =>
    intro i h0 hj
    refine z_iload_n (i := 2) (pc := 5) C rfl rfl dJ7_fill_53178_5 ?_
    refine z_iload_n (i := 3) (pc := 6) C rfl rfl dJ7_fill_53178_6 ?_
    refine z_icmp_ge (tgt := 20) (pc := 7) C dJ7_fill_53178_7 (by decide) (fun h7 => absurd h7 (by omega)) (fun h7 => ?_)
    refine z_aload_n (i := 0) (pc := 10) C rfl rfl dJ7_fill_53178_10 ?_
    refine z_iload_n (i := 2) (pc := 11) C rfl rfl dJ7_fill_53178_11 ?_
    refine z_iload_n (i := 1) (pc := 12) C rfl rfl dJ7_fill_53178_12 ?_
    refine z_iastore (pc := 13) C (zU_s _ _ _) dJ7_fill_53178_13 ?_
    refine z_iinc (i := 2) (lv' := [_, _, _, _]) (pc := 14) C rfl (by decide) rfl rfl dJ7_fill_53178_14 ?_
    refine z_goto (tgt := 5) (pc := 17) C dJ7_fill_53178_17 (by decide) ?_
    rw [zU_u, zfill_s h0]
    exact ih (i + 1) (by omega) (by omega)
set_option maxRecDepth 100000 in
set_option maxHeartbeats 4000000 in
theorem c_J7_fill_53178 {l0 : Launch} {X : zX} {ω : zWd} {a n : Nat} {g : Int → Int} {v : Int} (ha : ω.1 a = some (zAI X n g)) (hn : n < 1000000) : zMet l0 yJ7_fill_53178 cJ7_fill_53178 4 none rmJ7_fill_53178 X [.ref a, .int (zI v)] ω (zpv (fun w => w = zU ω a (zAI X n (zfill g v n)))) := by
  refine zMet.intro (by decide) (Nat.le_of_ble_eq_true rfl) ?_
  intro Γ C E N
  show Zw Γ ω 0 0 0 [_, _, _, _] []
  refine z_iconst (pc := 0) C dJ7_fill_53178_0 ?_
  refine z_istore_n (i := 2) (lv' := [_, _, _, _]) (pc := 1) C rfl (by decide) rfl rfl dJ7_fill_53178_1 ?_
  refine z_aload_n (i := 0) (pc := 2) C rfl rfl dJ7_fill_53178_2 ?_
  refine z_alenI (pc := 3) C ha dJ7_fill_53178_3 ?_
  refine z_istore_n (i := 3) (lv' := [_, _, _, _]) (pc := 4) C rfl (by decide) rfl rfl dJ7_fill_53178_4 ?_
  have hw : ω = zU ω a (zAI X n (zfill g v 0)) := by rw [zfill_0, zU_id ha]
  rw [hw]
  exact lp_J7_fill_53178 (ω := ω) C E hn n 0 (by omega) (by omega)
