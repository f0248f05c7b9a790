theorem ac_int : Cond.arrayClass .int ∈ zTb := z_in 86 (by decide +kernel) rfl
theorem ac_long : Cond.arrayClass .long ∈ zTb := z_in 87 (by decide +kernel) rfl
theorem cl_L_7 : Cond.classLink RL 7 RX6 ∈ zTb := z_in 44 (by decide +kernel) rfl
theorem in_X6 : Cond.instantiable RX6 11 ∈ zTb := z_in 45 (by decide +kernel) rfl
theorem oi_1 : Cond.instanceMethod objectInit ∈ zTb := z_in 50 (by decide +kernel) rfl
theorem oi_2 : Cond.code objectInit ⟨#[0xb1]⟩ 1 none ∈ zTb := z_in 51 (by decide +kernel) rfl
theorem cl_X6_9 : Cond.classLink RX6 9 RX0 ∈ zTb := z_in 52 (by decide +kernel) rfl
theorem cl_X6_19 : Cond.classLink RX6 19 RX5 ∈ zTb := z_in 54 (by decide +kernel) rfl
theorem in_X5 : Cond.instantiable RX5 9 ∈ zTb := z_in 55 (by decide +kernel) rfl
theorem cl_X5_9 : Cond.classLink RX5 9 RX1 ∈ zTb := z_in 60 (by decide +kernel) rfl
theorem in_X1 : Cond.instantiable RX1 4 ∈ zTb := z_in 61 (by decide +kernel) rfl
theorem cl_X5_18 : Cond.classLink RX5 18 RX4 ∈ zTb := z_in 88 (by decide +kernel) rfl
theorem in_X4 : Cond.instantiable RX4 4 ∈ zTb := z_in 89 (by decide +kernel) rfl
theorem cl_X6_26 : Cond.classLink RX6 26 RX3 ∈ zTb := z_in 143 (by decide +kernel) rfl
theorem in_X3 : Cond.instantiable RX3 5 ∈ zTb := z_in 144 (by decide +kernel) rfl
theorem cl_X3_9 : Cond.classLink RX3 9 RX1 ∈ zTb := z_in 149 (by decide +kernel) rfl
theorem cl_X3_18 : Cond.classLink RX3 18 RX4 ∈ zTb := z_in 151 (by decide +kernel) rfl
theorem cl_X6_33 : Cond.classLink RX6 33 RX2 ∈ zTb := z_in 171 (by decide +kernel) rfl
theorem in_X2 : Cond.instantiable RX2 4 ∈ zTb := z_in 172 (by decide +kernel) rfl
theorem cl_X2_9 : Cond.classLink RX2 9 RX4 ∈ zTb := z_in 177 (by decide +kernel) rfl
theorem cl_X6_40 : Cond.classLink RX6 40 RX4 ∈ zTb := z_in 192 (by decide +kernel) rfl
theorem in_X0 : Cond.instantiable RX0 1 ∈ zTb := z_in 194 (by decide +kernel) rfl
theorem cl_L_10 : Cond.classLink RL 10 RX7 ∈ zTb := z_in 545 (by decide +kernel) rfl
theorem in_X7 : Cond.instantiable RX7 24 ∈ zTb := z_in 546 (by decide +kernel) rfl
theorem cl_X7_9 : Cond.classLink RX7 9 ("[" ++ (FieldType.array .int).toString) ∈ zTb := z_in 551 (by decide +kernel) rfl
theorem cl_X7_76 : Cond.classLink RX7 76 (FieldType.array .int).toString ∈ zTb := z_in 553 (by decide +kernel) rfl
def fsX0 : List Value := [.null]
theorem hfsX0 : ∀ j, j < 1 → defaultValue (tyX0 j) = vp_V fsX0 j := by decide +kernel
def fsX1 : List Value := [.null, .int 0, .long 0, .int 0]
theorem hfsX1 : ∀ j, j < 4 → defaultValue (tyX1 j) = vp_V fsX1 j := by decide +kernel
def fsX2 : List Value := [.null, .null, .null, .null]
theorem hfsX2 : ∀ j, j < 4 → defaultValue (tyX2 j) = vp_V fsX2 j := by decide +kernel
def fsX3 : List Value := [.null, .null, .null, .null, .null]
theorem hfsX3 : ∀ j, j < 5 → defaultValue (tyX3 j) = vp_V fsX3 j := by decide +kernel
def fsX4 : List Value := [.int 0, .int 0, .null, .int 0]
theorem hfsX4 : ∀ j, j < 4 → defaultValue (tyX4 j) = vp_V fsX4 j := by decide +kernel
def fsX5 : List Value := [.null, .null, .null, .null, .null, .int 0, .int 0, .int 0, .int 0]
theorem hfsX5 : ∀ j, j < 9 → defaultValue (tyX5 j) = vp_V fsX5 j := by decide +kernel
def fsX6 : List Value := [.null, .null, .null, .null, .null, .null, .null, .null, .null, .int 0, .int 0]
theorem hfsX6 : ∀ j, j < 11 → defaultValue (tyX6 j) = vp_V fsX6 j := by decide +kernel
def fsX7 : List Value := [.null, .null, .int 0, .null, .null, .int 0, .null, .int 0, .null, .null, .null, .null, .null, .null, .null, .null, .null, .null, .null, .null, .null, .null, .null, .null]
theorem hfsX7 : ∀ j, j < 24 → defaultValue (tyX7 j) = vp_V fsX7 j := by decide +kernel
theorem zN_n' {ω : zWd} {b : Nat} {x : va_E} {y : Option va_E} (h : b ≠ ω.2) (t : ω.1 b = y) : (zN ω x).1 b = y := by rw [zN_n h]; exact t
theorem zM_n {X : zX} {ω : zWd} {b N K : Nat} (h : b < ω.2) : (zM X ω N K).1 b = ω.1 b := by
  show (if b = ω.2 then _ else if ω.2 < b ∧ b < ω.2 + 1 + N then _ else ω.1 b) = _
  rw [if_neg (by omega), if_neg (by omega)]
theorem zM_n' {X : zX} {ω : zWd} {b N K : Nat} {y : Option va_E} (h : b < ω.2) (t : ω.1 b = y) : (zM X ω N K).1 b = y := by rw [zM_n h]; exact t
/-- N rows of K ints, behind an array of them at a -/
def zMx (X : zX) (ω : zWd) (a N K : Nat) (f : Nat → Int → Int) : Prop := ω.1 a = some (zAR X N (fun i => some (a + 1 + i.toNat))) ∧ ∀ j : Nat, j < N → ω.1 (a + 1 + j) = some (zAI X K (f j))
theorem zMx.kp {X : zX} {ω ω2 : zWd} {a N K : Nat} {f : Nat → Int → Int} (h : zMx X ω a N K f) (hk : ∀ b, a ≤ b → b < a + 1 + N → ω2.1 b = ω.1 b) : zMx X ω2 a N K f := ⟨by rw [hk a (by omega) (by omega)]; exact h.1, fun j hj => by rw [hk _ (by omega) (by omega)]; exact h.2 j hj⟩
theorem zMx.of {X : zX} {ω ω2 : zWd} {a N K : Nat} (h : ω2 = zM X ω N K) (hs : ω.2 = a) : zMx X ω2 a N K (fun _ _ => 0) := by
  subst h
  subst hs
  refine ⟨?_, fun j hj => ?_⟩
  · show (if ω.2 = ω.2 then _ else _) = _
    rw [if_pos rfl]
  · show (if ω.2 + 1 + j = ω.2 then _ else if ω.2 < ω.2 + 1 + j ∧ ω.2 + 1 + j < ω.2 + 1 + N then _ else _) = _
    rw [if_neg (by omega), if_pos (by omega)]
def rnX0_init : Room := { frames := 1, cells := 1, slots := 21, locals := 24 }
def rnX1_init : Room := { frames := 1, cells := 1, slots := 41, locals := 24 }
def rnX4_init (k : Nat) : Room := { frames := 1, cells := 1, slots := k, locals := 24 }
def rnX5_init : Room := { frames := 2, cells := 10, slots := 5715, locals := 46 }
def rnX3_init : Room := { frames := 2, cells := 10, slots := 1517, locals := 46 }
def rnX2_init : Room := { frames := 2, cells := 8, slots := 1040, locals := 46 }
def rnX6_init : Room := { frames := 3, cells := 57, slots := 9215, locals := 66 }
set_option maxRecDepth 100000 in
set_option maxHeartbeats 4000000 in
theorem c_X0_init {l0 : Launch} {X : zX} {ω : zWd} {a : Nat} (ha : ω.1 a = some (zOb 0 fsX0)) (hz : ω.2 = a + 1) : zMet l0 yX0_init cX0_init 1 none rnX0_init X [.ref a] ω (zpv (fun w => (∀ b : Nat, b < a → w.1 b = ω.1 b) ∧ w.2 = a + 2 ∧ w.1 a = some (zOb 0 [.ref (a + 1)]) ∧ w.1 (a + 1) = some (zAI X 21 (fun _ => 0)))) := by
  refine zMet.intro (by decide) (Nat.le_of_ble_eq_true rfl) ?_
  intro Γ C E N
  show Zw Γ ω 0 0 0 [some _] []
  have k0 : ∀ b : Nat, b < a → ω.1 b = ω.1 b := fun b hb => rfl
  refine z_aload_n (i := 0) (pc := 0) C rfl rfl dX0_init_0 ?_
  refine z_objInit (pc := 1) C ol_X0_3 oi_1 oi_2 ⟨(Nat.le_of_ble_eq_true rfl), (Nat.le_of_ble_eq_true rfl)⟩ (Nat.le_of_ble_eq_true rfl) dX0_init_1 ?_
  refine z_aload_n (i := 0) (pc := 4) C rfl rfl dX0_init_4 ?_
  refine z_bipush (pc := 5) C (by decide +kernel) dX0_init_5 ?_
  refine z_newI (pc := 7) C (N := 21) rfl (Nat.le_of_ble_eq_true rfl) ac_int (Nat.le_of_ble_eq_true rfl) (Nat.le_of_ble_eq_true rfl) dX0_init_7 ?_
  rw [hz]
  refine z_nm (fun ω2 hω2 => ?_)
  have sω2 : ω2.2 = a + 2 := by rw [hω2]; show _ + 1 = _; omega
  have a_ω2 := z_at hω2 (zN_n' (by omega) ha)
  have kω2 : ∀ b : Nat, b < a → ω2.1 b = ω.1 b := fun b hb => by rw [hω2]; exact (zN_n (by omega)).trans (k0 b hb)
  have n1_ω2 : ω2.1 (a + 1) = some (zAI X (21) (fun _ => 0)) := by rw [hω2, ← hz]; exact zN_s _ _
  refine p_X0_9 (pc := 9) C N a_ω2 (Nat.le_of_ble_eq_true rfl) dX0_init_9 ?_
  refine z_nm (fun ω3 hω3 => ?_)
  have sω3 : ω3.2 = a + 2 := by rw [hω3]; exact sω2
  have n1_ω3 := z_at hω3 (zU_n' (by omega) n1_ω2)
  have a_ω3 := z_at hω3 (zU_s _ _ _)
  have kω3 : ∀ b : Nat, b < a → ω3.1 b = ω.1 b := fun b hb => by rw [hω3]; exact (zU_n (by omega)).trans (kω2 b hb)
  exact z_vret (pc := 12) C E dX0_init_12 ⟨rfl, ⟨kω3, sω3, a_ω3, n1_ω3⟩⟩ (Nat.le_of_ble_eq_true rfl) (Nat.le_of_ble_eq_true rfl)
set_option maxRecDepth 100000 in
set_option maxHeartbeats 4000000 in
theorem c_X1_init {l0 : Launch} {X : zX} {ω : zWd} {a : Nat} (ha : ω.1 a = some (zOb 1 fsX1)) (hz : ω.2 = a + 1) : zMet l0 yX1_init cX1_init 1 none rnX1_init X [.ref a] ω (zpv (fun w => (∀ b : Nat, b < a → w.1 b = ω.1 b) ∧ w.2 = a + 2 ∧ w.1 a = some (zOb 1 [.ref (a + 1), .int (zI 0), .long (zJ 1000), .int (zI 3)]) ∧ w.1 (a + 1) = some (zAJ X 41 (fun _ => 0)))) := by
  refine zMet.intro (by decide) (Nat.le_of_ble_eq_true rfl) ?_
  intro Γ C E N
  show Zw Γ ω 0 0 0 [some _] []
  have k0 : ∀ b : Nat, b < a → ω.1 b = ω.1 b := fun b hb => rfl
  refine z_aload_n (i := 0) (pc := 0) C rfl rfl dX1_init_0 ?_
  refine z_objInit (pc := 1) C ol_X1_3 oi_1 oi_2 ⟨(Nat.le_of_ble_eq_true rfl), (Nat.le_of_ble_eq_true rfl)⟩ (Nat.le_of_ble_eq_true rfl) dX1_init_1 ?_
  refine z_aload_n (i := 0) (pc := 4) C rfl rfl dX1_init_4 ?_
  refine z_bipush (pc := 5) C (by decide +kernel) dX1_init_5 ?_
  refine z_newJ (pc := 7) C (N := 41) rfl (Nat.le_of_ble_eq_true rfl) ac_long (Nat.le_of_ble_eq_true rfl) (Nat.le_of_ble_eq_true rfl) dX1_init_7 ?_
  rw [hz]
  refine z_nm (fun ω2 hω2 => ?_)
  have sω2 : ω2.2 = a + 2 := by rw [hω2]; show _ + 1 = _; omega
  have a_ω2 := z_at hω2 (zN_n' (by omega) ha)
  have kω2 : ∀ b : Nat, b < a → ω2.1 b = ω.1 b := fun b hb => by rw [hω2]; exact (zN_n (by omega)).trans (k0 b hb)
  have n1_ω2 : ω2.1 (a + 1) = some (zAJ X (41) (fun _ => 0)) := by rw [hω2, ← hz]; exact zN_s _ _
  refine p_X1_9 (pc := 9) C N a_ω2 (Nat.le_of_ble_eq_true rfl) dX1_init_9 ?_
  refine z_nm (fun ω3 hω3 => ?_)
  have sω3 : ω3.2 = a + 2 := by rw [hω3]; exact sω2
  have n1_ω3 := z_at hω3 (zU_n' (by omega) n1_ω2)
  have a_ω3 := z_at hω3 (zU_s _ _ _)
  have kω3 : ∀ b : Nat, b < a → ω3.1 b = ω.1 b := fun b hb => by rw [hω3]; exact (zU_n (by omega)).trans (kω2 b hb)
  refine z_aload_n (i := 0) (pc := 12) C rfl rfl dX1_init_12 ?_
  refine z_iconst (pc := 13) C dX1_init_13 ?_
  refine p_X1_15 (pc := 14) C a_ω3 (Nat.le_of_ble_eq_true rfl) dX1_init_14 ?_
  refine z_nm (fun ω4 hω4 => ?_)
  have sω4 : ω4.2 = a + 2 := by rw [hω4]; exact sω3
  have n1_ω4 := z_at hω4 (zU_n' (by omega) n1_ω3)
  have a_ω4 := z_at hω4 (zU_s _ _ _)
  have kω4 : ∀ b : Nat, b < a → ω4.1 b = ω.1 b := fun b hb => by rw [hω4]; exact (zU_n (by omega)).trans (kω3 b hb)
  refine z_aload_n (i := 0) (pc := 17) C rfl rfl dX1_init_17 ?_
  refine z_ldc2 (a := 1000) (pc := 18) C (by decide +kernel) q_X1_19 dX1_init_18 ?_
  refine p_X1_21 (pc := 21) C a_ω4 (Nat.le_of_ble_eq_true rfl) dX1_init_21 ?_
  refine z_nm (fun ω5 hω5 => ?_)
  have sω5 : ω5.2 = a + 2 := by rw [hω5]; exact sω4
  have n1_ω5 := z_at hω5 (zU_n' (by omega) n1_ω4)
  have a_ω5 := z_at hω5 (zU_s _ _ _)
  have kω5 : ∀ b : Nat, b < a → ω5.1 b = ω.1 b := fun b hb => by rw [hω5]; exact (zU_n (by omega)).trans (kω4 b hb)
  refine z_aload_n (i := 0) (pc := 24) C rfl rfl dX1_init_24 ?_
  refine z_iconst (pc := 25) C dX1_init_25 ?_
  refine p_X1_25 (pc := 26) C a_ω5 (Nat.le_of_ble_eq_true rfl) dX1_init_26 ?_
  refine z_nm (fun ω6 hω6 => ?_)
  have sω6 : ω6.2 = a + 2 := by rw [hω6]; exact sω5
  have n1_ω6 := z_at hω6 (zU_n' (by omega) n1_ω5)
  have a_ω6 := z_at hω6 (zU_s _ _ _)
  have kω6 : ∀ b : Nat, b < a → ω6.1 b = ω.1 b := fun b hb => by rw [hω6]; exact (zU_n (by omega)).trans (kω5 b hb)
  exact z_vret (pc := 29) C E dX1_init_29 ⟨rfl, ⟨kω6, sω6, a_ω6, n1_ω6⟩⟩ (Nat.le_of_ble_eq_true rfl) (Nat.le_of_ble_eq_true rfl)
set_option maxRecDepth 100000 in
set_option maxHeartbeats 4000000 in
theorem c_X4_init {l0 : Launch} {X : zX} {ω : zWd} {a : Nat} {h wd : Nat} (ha : ω.1 a = some (zOb 4 fsX4)) (hz : ω.2 = a + 1) (hh : 1 ≤ h ∧ h ≤ 256) (hwd : 1 ≤ wd ∧ wd ≤ 16) : zMet l0 yX4_init cX4_init 3 none (rnX4_init (h * wd)) X [.ref a, .int (zI h), .int (zI wd)] ω (zpv (fun w => (∀ b : Nat, b < a → w.1 b = ω.1 b) ∧ w.2 = a + 2 ∧ w.1 a = some (zOb 4 [.int (zI (h : Int)), .int (zI (wd : Int)), .ref (a + 1), .int (zI (h : Int))]) ∧ w.1 (a + 1) = some (zAJ X (h * wd) (fun _ => 0)))) := by
  refine zMet.intro (by decide) (Nat.le_of_ble_eq_true rfl) ?_
  intro Γ C E N
  show Zw Γ ω 0 0 0 [some _, some _, some _] []
  have hhw : h * wd ≤ 256 * 16 := Nat.mul_le_mul hh.2 hwd.2
  have k0 : ∀ b : Nat, b < a → ω.1 b = ω.1 b := fun b hb => rfl
  refine z_aload_n (i := 0) (pc := 0) C rfl rfl dX4_init_0 ?_
  refine z_objInit (pc := 1) C ol_X4_3 oi_1 oi_2 ⟨(Nat.le_of_ble_eq_true rfl), (Nat.le_of_ble_eq_true rfl)⟩ (Nat.le_of_ble_eq_true rfl) dX4_init_1 ?_
  refine z_aload_n (i := 0) (pc := 4) C rfl rfl dX4_init_4 ?_
  refine z_iload_n (i := 1) (pc := 5) C rfl rfl dX4_init_5 ?_
  refine z_iconst (pc := 6) C dX4_init_6 ?_
  refine z_callSi (pc := 7) C (c_J9_max_7cf53) k_X4_9 zy_J9_max_7cf53.2 rfl rfl ⟨(Nat.le_of_ble_eq_true rfl), (Nat.le_of_ble_eq_true rfl)⟩ (Nat.le_of_ble_eq_true rfl) dX4_init_7 ⟨rfl, rfl⟩ ⟨(Nat.le_of_ble_eq_true rfl), (Nat.le_of_ble_eq_true rfl)⟩ (fun rv ω' hp => ?_)
  obtain ⟨hw', rfl⟩ := hp
  rw [hw']
  rw [show max (h : Int) 1 = (h : Int) by omega]
  refine p_X4_15 (pc := 10) C N ha (Nat.le_of_ble_eq_true rfl) dX4_init_10 ?_
  refine z_nm (fun ω2 hω2 => ?_)
  have sω2 : ω2.2 = a + 1 := by rw [hω2]; exact hz
  have a_ω2 := z_at hω2 (zU_s _ _ _)
  have kω2 : ∀ b : Nat, b < a → ω2.1 b = ω.1 b := fun b hb => by rw [hω2]; exact (zU_n (by omega)).trans (k0 b hb)
  refine z_aload_n (i := 0) (pc := 13) C rfl rfl dX4_init_13 ?_
  refine z_iload_n (i := 2) (pc := 14) C rfl rfl dX4_init_14 ?_
  refine z_iconst (pc := 15) C dX4_init_15 ?_
  refine z_callSi (pc := 16) C (c_J9_max_7cf53) k_X4_9 zy_J9_max_7cf53.2 rfl rfl ⟨(Nat.le_of_ble_eq_true rfl), (Nat.le_of_ble_eq_true rfl)⟩ (Nat.le_of_ble_eq_true rfl) dX4_init_16 ⟨rfl, rfl⟩ ⟨(Nat.le_of_ble_eq_true rfl), (Nat.le_of_ble_eq_true rfl)⟩ (fun rv ω' hp => ?_)
  obtain ⟨hw', rfl⟩ := hp
  rw [hw']
  rw [show max (wd : Int) 1 = (wd : Int) by omega]
  refine p_X4_21 (pc := 19) C N a_ω2 (Nat.le_of_ble_eq_true rfl) dX4_init_19 ?_
  refine z_nm (fun ω3 hω3 => ?_)
  have sω3 : ω3.2 = a + 1 := by rw [hω3]; exact sω2
  have a_ω3 := z_at hω3 (zU_s _ _ _)
  have kω3 : ∀ b : Nat, b < a → ω3.1 b = ω.1 b := fun b hb => by rw [hω3]; exact (zU_n (by omega)).trans (kω2 b hb)
  refine z_aload_n (i := 0) (pc := 22) C rfl rfl dX4_init_22 ?_
  refine z_aload_n (i := 0) (pc := 23) C rfl rfl dX4_init_23 ?_
  refine g_X4_15 (pc := 24) C a_ω3 rfl dX4_init_24 ?_
  refine z_aload_n (i := 0) (pc := 27) C rfl rfl dX4_init_27 ?_
  refine g_X4_21 (pc := 28) C a_ω3 rfl dX4_init_28 ?_
  refine z_imul (pc := 31) C dX4_init_31 ?_
  refine z_newJ (pc := 32) C (N := h * wd) (by rw [Int.natCast_mul]) (by omega) ac_long (by simp only [rnX4_init]; omega) (by simp only [rnX4_init]; omega) dX4_init_32 ?_
  rw [sω3]
  refine z_nm (fun ω4 hω4 => ?_)
  have sω4 : ω4.2 = a + 2 := by rw [hω4]; show _ + 1 = _; omega
  have a_ω4 := z_at hω4 (zN_n' (by omega) a_ω3)
  have kω4 : ∀ b : Nat, b < a → ω4.1 b = ω.1 b := fun b hb => by rw [hω4]; exact (zN_n (by omega)).trans (kω3 b hb)
  have n1_ω4 : ω4.1 (a + 1) = some (zAJ X (h * wd) (fun _ => 0)) := by rw [hω4, ← sω3]; exact zN_s _ _
  refine p_X4_24 (pc := 34) C N a_ω4 (Nat.le_of_ble_eq_true rfl) dX4_init_34 ?_
  refine z_nm (fun ω5 hω5 => ?_)
  have sω5 : ω5.2 = a + 2 := by rw [hω5]; exact sω4
  have n1_ω5 := z_at hω5 (zU_n' (by omega) n1_ω4)
  have a_ω5 := z_at hω5 (zU_s _ _ _)
  have kω5 : ∀ b : Nat, b < a → ω5.1 b = ω.1 b := fun b hb => by rw [hω5]; exact (zU_n (by omega)).trans (kω4 b hb)
  refine z_aload_n (i := 0) (pc := 37) C rfl rfl dX4_init_37 ?_
  refine z_aload_n (i := 0) (pc := 38) C rfl rfl dX4_init_38 ?_
  refine g_X4_15 (pc := 39) C a_ω5 rfl dX4_init_39 ?_
  refine p_X4_28 (pc := 42) C a_ω5 (Nat.le_of_ble_eq_true rfl) dX4_init_42 ?_
  refine z_nm (fun ω6 hω6 => ?_)
  have sω6 : ω6.2 = a + 2 := by rw [hω6]; exact sω5
  have n1_ω6 := z_at hω6 (zU_n' (by omega) n1_ω5)
  have a_ω6 := z_at hω6 (zU_s _ _ _)
  have kω6 : ∀ b : Nat, b < a → ω6.1 b = ω.1 b := fun b hb => by rw [hω6]; exact (zU_n (by omega)).trans (kω5 b hb)
  exact z_vret (pc := 45) C E dX4_init_45 ⟨rfl, ⟨kω6, sω6, a_ω6, n1_ω6⟩⟩ (by simp only [rnX4_init]; omega) (by simp only [rnX4_init]; omega)
