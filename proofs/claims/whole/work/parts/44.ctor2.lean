theorem zn_X6_21 : Cond.methodLinkNest RX6 21 yX5_init RX6 ∈ zNest := by simp [zNest]
theorem zn_X5_11 : Cond.methodLinkNest RX5 11 yX1_init RX6 ∈ zNest := by simp [zNest]
theorem zn_X6_28 : Cond.methodLinkNest RX6 28 yX3_init RX6 ∈ zNest := by simp [zNest]
theorem zn_X3_11 : Cond.methodLinkNest RX3 11 yX1_init RX6 ∈ zNest := by simp [zNest]
theorem zn_X6_35 : Cond.methodLinkNest RX6 35 yX2_init RX6 ∈ zNest := by simp [zNest]
theorem zn_X6_65 : Cond.methodLinkNest RX6 65 yX0_init RX6 ∈ zNest := by simp [zNest]
set_option maxRecDepth 100000 in
set_option maxHeartbeats 4000000 in
theorem c_X5_init {l0 : Launch} {X : zX} {ω : zWd} {a : Nat} (ha : ω.1 a = some (zOb 5 fsX5)) (hz : ω.2 = a + 1) : zMet l0 yX5_init cX5_init 1 none rnX5_init X [.ref a] ω (zpv (fun w => (∀ b : Nat, b < a → w.1 b = ω.1 b) ∧ w.2 = a + 11 ∧ zWq X w a 0 1000 3 (fun _ => 0))) := by
  refine zMet.intro (by decide) (Nat.le_of_ble_eq_true rfl) ?_
  intro Γ C E N
  show Zw Γ ω 0 0 0 [some _] []
  have k0 : ∀ b : Nat, b < a → ω.1 b = ω.1 b := fun b hb => rfl
  refine z_aload_n (i := 0) (pc := 0) C rfl rfl dX5_init_0 ?_
  refine z_objInit (pc := 1) C ol_X5_3 oi_1 oi_2 ⟨(Nat.le_of_ble_eq_true rfl), (Nat.le_of_ble_eq_true rfl)⟩ (Nat.le_of_ble_eq_true rfl) dX5_init_1 ?_
  refine z_aload_n (i := 0) (pc := 4) C rfl rfl dX5_init_4 ?_
  refine z_new (pc := 5) (ci := 1) C tyX1 iX1 tyX1_ok cl_X5_9 in_X1 (kc_X1_init).2.2 rfl (fs := fsX1) hfsX1 (by decide +kernel) (by decide +kernel) dX5_init_5 ?_
  rw [hz]
  refine z_nm (fun ω2 hω2 => ?_)
  have sω2 : ω2.2 = a + 2 := by rw [hω2]; show _ + 1 = _; omega
  have a_ω2 := z_at hω2 (zN_n' (by omega) ha)
  have kω2 : ∀ b : Nat, b < a → ω2.1 b = ω.1 b := fun b hb => by rw [hω2]; exact (zN_n (by omega)).trans (k0 b hb)
  have n1_ω2 : ω2.1 (a + 1) = some (zOb 1 fsX1) := by rw [hω2, ← hz]; exact zN_s _ _
  refine z_dup (pc := 8) C rfl dX5_init_8 ?_
  refine z_callIN (pc := 9) C (c_X1_init n1_ω2 (by omega)) rfl zn_X5_11 kc_X1_init zy_X1_init.2 rfl rfl ⟨(Nat.le_of_ble_eq_true rfl), (Nat.le_of_ble_eq_true rfl)⟩ (Nat.le_of_ble_eq_true rfl) dX5_init_9 ⟨(by decide +kernel), (by decide +kernel)⟩ (fun rv wn1 hp => ?_)
  obtain ⟨rfl, hp⟩ := hp
  obtain ⟨hE, hsz, n1_wn1, n2_wn1⟩ := hp
  have swn1 : wn1.2 = a + 3 := by omega
  have a_wn1 := (hE _ (by omega)).trans a_ω2
  have kwn1 : ∀ b : Nat, b < a → wn1.1 b = ω.1 b := fun b hb => (hE b (by omega)).trans (kω2 b hb)
  clear hE hsz
  refine p_X5_12 (pc := 12) C N a_wn1 (Nat.le_of_ble_eq_true rfl) dX5_init_12 ?_
  refine z_nm (fun ω3 hω3 => ?_)
  have sω3 : ω3.2 = a + 3 := by rw [hω3]; exact swn1
  have n1_ω3 := z_at hω3 (zU_n' (by omega) n1_wn1)
  have n2_ω3 := z_at hω3 (zU_n' (by omega) n2_wn1)
  have a_ω3 := z_at hω3 (zU_s _ _ _)
  have kω3 : ∀ b : Nat, b < a → ω3.1 b = ω.1 b := fun b hb => by rw [hω3]; exact (zU_n (by omega)).trans (kwn1 b hb)
  clear a_ω2 sω2 hω2 kω2 n1_ω2
  refine z_aload_n (i := 0) (pc := 15) C rfl rfl dX5_init_15 ?_
  refine z_new (pc := 16) (ci := 4) C tyX4 iX4 tyX4_ok cl_X5_18 in_X4 (kc_X4_init).2.2 rfl (fs := fsX4) hfsX4 (by decide +kernel) (by decide +kernel) dX5_init_16 ?_
  rw [sω3]
  refine z_nm (fun ω4 hω4 => ?_)
  have sω4 : ω4.2 = a + 4 := by rw [hω4]; show _ + 1 = _; omega
  have n1_ω4 := z_at hω4 (zN_n' (by omega) n1_ω3)
  have n2_ω4 := z_at hω4 (zN_n' (by omega) n2_ω3)
  have a_ω4 := z_at hω4 (zN_n' (by omega) a_ω3)
  have kω4 : ∀ b : Nat, b < a → ω4.1 b = ω.1 b := fun b hb => by rw [hω4]; exact (zN_n (by omega)).trans (kω3 b hb)
  clear a_wn1 n1_wn1 n2_wn1 swn1 kwn1
  have n3_ω4 : ω4.1 (a + 3) = some (zOb 4 fsX4) := by rw [hω4, ← sω3]; exact zN_s _ _
  refine z_dup (pc := 19) C rfl dX5_init_19 ?_
  refine z_iconst (pc := 20) C dX5_init_20 ?_
  refine z_bipush (pc := 21) C (by decide +kernel) dX5_init_21 ?_
  refine z_callI (pc := 23) C (c_X4_init (h := 1) (wd := 11) n3_ω4 (by omega) ⟨by decide, by decide⟩ ⟨by decide, by decide⟩) rfl k_X5_20 kc_X4_init zy_X4_init.2 rfl rfl ⟨(Nat.le_of_ble_eq_true rfl), (Nat.le_of_ble_eq_true rfl)⟩ (Nat.le_of_ble_eq_true rfl) dX5_init_23 ⟨(by decide +kernel), (by decide +kernel)⟩ (fun rv wn3 hp => ?_)
  obtain ⟨rfl, hp⟩ := hp
  obtain ⟨hE, hsz, n3_wn3, n4_wn3⟩ := hp
  have swn3 : wn3.2 = a + 5 := by omega
  have n1_wn3 := (hE _ (by omega)).trans n1_ω4
  have n2_wn3 := (hE _ (by omega)).trans n2_ω4
  have a_wn3 := (hE _ (by omega)).trans a_ω4
  have kwn3 : ∀ b : Nat, b < a → wn3.1 b = ω.1 b := fun b hb => (hE b (by omega)).trans (kω4 b hb)
  clear hE hsz
  clear n1_ω3 n2_ω3 a_ω3 sω3 hω3 kω3
  refine p_X5_23 (pc := 26) C N a_wn3 (Nat.le_of_ble_eq_true rfl) dX5_init_26 ?_
  refine z_nm (fun ω5 hω5 => ?_)
  have sω5 : ω5.2 = a + 5 := by rw [hω5]; exact swn3
  have n1_ω5 := z_at hω5 (zU_n' (by omega) n1_wn3)
  have n2_ω5 := z_at hω5 (zU_n' (by omega) n2_wn3)
  have n3_ω5 := z_at hω5 (zU_n' (by omega) n3_wn3)
  have n4_ω5 := z_at hω5 (zU_n' (by omega) n4_wn3)
  have a_ω5 := z_at hω5 (zU_s _ _ _)
  have kω5 : ∀ b : Nat, b < a → ω5.1 b = ω.1 b := fun b hb => by rw [hω5]; exact (zU_n (by omega)).trans (kwn3 b hb)
  clear n1_ω4 n2_ω4 a_ω4 sω4 hω4 kω4 n3_ω4
  refine z_aload_n (i := 0) (pc := 29) C rfl rfl dX5_init_29 ?_
  refine z_new (pc := 30) (ci := 4) C tyX4 iX4 tyX4_ok cl_X5_18 in_X4 (kc_X4_init).2.2 rfl (fs := fsX4) hfsX4 (by decide +kernel) (by decide +kernel) dX5_init_30 ?_
  rw [sω5]
  refine z_nm (fun ω6 hω6 => ?_)
  have sω6 : ω6.2 = a + 6 := by rw [hω6]; show _ + 1 = _; omega
  have n1_ω6 := z_at hω6 (zN_n' (by omega) n1_ω5)
  have n2_ω6 := z_at hω6 (zN_n' (by omega) n2_ω5)
  have n3_ω6 := z_at hω6 (zN_n' (by omega) n3_ω5)
  have n4_ω6 := z_at hω6 (zN_n' (by omega) n4_ω5)
  have a_ω6 := z_at hω6 (zN_n' (by omega) a_ω5)
  have kω6 : ∀ b : Nat, b < a → ω6.1 b = ω.1 b := fun b hb => by rw [hω6]; exact (zN_n (by omega)).trans (kω5 b hb)
  clear n1_wn3 n2_wn3 a_wn3 n3_wn3 n4_wn3 swn3 kwn3
  have n5_ω6 : ω6.1 (a + 5) = some (zOb 4 fsX4) := by rw [hω6, ← sω5]; exact zN_s _ _
  refine z_dup (pc := 33) C rfl dX5_init_33 ?_
  refine z_iconst (pc := 34) C dX5_init_34 ?_
  refine z_bipush (pc := 35) C (by decide +kernel) dX5_init_35 ?_
  refine z_callI (pc := 37) C (c_X4_init (h := 1) (wd := 11) n5_ω6 (by omega) ⟨by decide, by decide⟩ ⟨by decide, by decide⟩) rfl k_X5_20 kc_X4_init zy_X4_init.2 rfl rfl ⟨(Nat.le_of_ble_eq_true rfl), (Nat.le_of_ble_eq_true rfl)⟩ (Nat.le_of_ble_eq_true rfl) dX5_init_37 ⟨(by decide +kernel), (by decide +kernel)⟩ (fun rv wn5 hp => ?_)
  obtain ⟨rfl, hp⟩ := hp
  obtain ⟨hE, hsz, n5_wn5, n6_wn5⟩ := hp
  have swn5 : wn5.2 = a + 7 := by omega
  have n1_wn5 := (hE _ (by omega)).trans n1_ω6
  have n2_wn5 := (hE _ (by omega)).trans n2_ω6
  have n3_wn5 := (hE _ (by omega)).trans n3_ω6
  have n4_wn5 := (hE _ (by omega)).trans n4_ω6
  have a_wn5 := (hE _ (by omega)).trans a_ω6
  have kwn5 : ∀ b : Nat, b < a → wn5.1 b = ω.1 b := fun b hb => (hE b (by omega)).trans (kω6 b hb)
  clear hE hsz
  clear n1_ω5 n2_ω5 n3_ω5 n4_ω5 a_ω5 sω5 hω5 kω5
  refine p_X5_27 (pc := 40) C N a_wn5 (Nat.le_of_ble_eq_true rfl) dX5_init_40 ?_
  refine z_nm (fun ω7 hω7 => ?_)
  have sω7 : ω7.2 = a + 7 := by rw [hω7]; exact swn5
  have n1_ω7 := z_at hω7 (zU_n' (by omega) n1_wn5)
  have n2_ω7 := z_at hω7 (zU_n' (by omega) n2_wn5)
  have n3_ω7 := z_at hω7 (zU_n' (by omega) n3_wn5)
  have n4_ω7 := z_at hω7 (zU_n' (by omega) n4_wn5)
  have n5_ω7 := z_at hω7 (zU_n' (by omega) n5_wn5)
  have n6_ω7 := z_at hω7 (zU_n' (by omega) n6_wn5)
  have a_ω7 := z_at hω7 (zU_s _ _ _)
  have kω7 : ∀ b : Nat, b < a → ω7.1 b = ω.1 b := fun b hb => by rw [hω7]; exact (zU_n (by omega)).trans (kwn5 b hb)
  clear n1_ω6 n2_ω6 n3_ω6 n4_ω6 a_ω6 sω6 hω6 kω6 n5_ω6
  refine z_aload_n (i := 0) (pc := 43) C rfl rfl dX5_init_43 ?_
  refine z_new (pc := 44) (ci := 4) C tyX4 iX4 tyX4_ok cl_X5_18 in_X4 (kc_X4_init).2.2 rfl (fs := fsX4) hfsX4 (by decide +kernel) (by decide +kernel) dX5_init_44 ?_
  rw [sω7]
  refine z_nm (fun ω8 hω8 => ?_)
  have sω8 : ω8.2 = a + 8 := by rw [hω8]; show _ + 1 = _; omega
  have n1_ω8 := z_at hω8 (zN_n' (by omega) n1_ω7)
  have n2_ω8 := z_at hω8 (zN_n' (by omega) n2_ω7)
  have n3_ω8 := z_at hω8 (zN_n' (by omega) n3_ω7)
  have n4_ω8 := z_at hω8 (zN_n' (by omega) n4_ω7)
  have n5_ω8 := z_at hω8 (zN_n' (by omega) n5_ω7)
  have n6_ω8 := z_at hω8 (zN_n' (by omega) n6_ω7)
  have a_ω8 := z_at hω8 (zN_n' (by omega) a_ω7)
  have kω8 : ∀ b : Nat, b < a → ω8.1 b = ω.1 b := fun b hb => by rw [hω8]; exact (zN_n (by omega)).trans (kω7 b hb)
  clear n1_wn5 n2_wn5 n3_wn5 n4_wn5 a_wn5 n5_wn5 n6_wn5 swn5 kwn5
  have n7_ω8 : ω8.1 (a + 7) = some (zOb 4 fsX4) := by rw [hω8, ← sω7]; exact zN_s _ _
  refine z_dup (pc := 47) C rfl dX5_init_47 ?_
  refine z_sipush (pc := 48) C (by decide +kernel) dX5_init_48 ?_
  refine z_bipush (pc := 51) C (by decide +kernel) dX5_init_51 ?_
  refine z_callI (pc := 53) C (c_X4_init (h := 256) (wd := 11) n7_ω8 (by omega) ⟨by decide, by decide⟩ ⟨by decide, by decide⟩) rfl k_X5_20 kc_X4_init zy_X4_init.2 rfl rfl ⟨(Nat.le_of_ble_eq_true rfl), (Nat.le_of_ble_eq_true rfl)⟩ (Nat.le_of_ble_eq_true rfl) dX5_init_53 ⟨(by decide +kernel), (by decide +kernel)⟩ (fun rv wn7 hp => ?_)
  obtain ⟨rfl, hp⟩ := hp
  obtain ⟨hE, hsz, n7_wn7, n8_wn7⟩ := hp
  have swn7 : wn7.2 = a + 9 := by omega
  have n1_wn7 := (hE _ (by omega)).trans n1_ω8
  have n2_wn7 := (hE _ (by omega)).trans n2_ω8
  have n3_wn7 := (hE _ (by omega)).trans n3_ω8
  have n4_wn7 := (hE _ (by omega)).trans n4_ω8
  have n5_wn7 := (hE _ (by omega)).trans n5_ω8
  have n6_wn7 := (hE _ (by omega)).trans n6_ω8
  have a_wn7 := (hE _ (by omega)).trans a_ω8
  have kwn7 : ∀ b : Nat, b < a → wn7.1 b = ω.1 b := fun b hb => (hE b (by omega)).trans (kω8 b hb)
  clear hE hsz
  clear n1_ω7 n2_ω7 n3_ω7 n4_ω7 n5_ω7 n6_ω7 a_ω7 sω7 hω7 kω7
  refine p_X5_30 (pc := 56) C a_wn7 (Nat.le_of_ble_eq_true rfl) dX5_init_56 ?_
  refine z_nm (fun ω9 hω9 => ?_)
  have sω9 : ω9.2 = a + 9 := by rw [hω9]; exact swn7
  have n1_ω9 := z_at hω9 (zU_n' (by omega) n1_wn7)
  have n2_ω9 := z_at hω9 (zU_n' (by omega) n2_wn7)
  have n3_ω9 := z_at hω9 (zU_n' (by omega) n3_wn7)
  have n4_ω9 := z_at hω9 (zU_n' (by omega) n4_wn7)
  have n5_ω9 := z_at hω9 (zU_n' (by omega) n5_wn7)
  have n6_ω9 := z_at hω9 (zU_n' (by omega) n6_wn7)
  have n7_ω9 := z_at hω9 (zU_n' (by omega) n7_wn7)
  have n8_ω9 := z_at hω9 (zU_n' (by omega) n8_wn7)
  have a_ω9 := z_at hω9 (zU_s _ _ _)
  have kω9 : ∀ b : Nat, b < a → ω9.1 b = ω.1 b := fun b hb => by rw [hω9]; exact (zU_n (by omega)).trans (kwn7 b hb)
  clear n1_ω8 n2_ω8 n3_ω8 n4_ω8 n5_ω8 n6_ω8 a_ω8 sω8 hω8 kω8 n7_ω8
  refine z_aload_n (i := 0) (pc := 59) C rfl rfl dX5_init_59 ?_
  refine z_new (pc := 60) (ci := 4) C tyX4 iX4 tyX4_ok cl_X5_18 in_X4 (kc_X4_init).2.2 rfl (fs := fsX4) hfsX4 (by decide +kernel) (by decide +kernel) dX5_init_60 ?_
  rw [sω9]
  refine z_nm (fun ω10 hω10 => ?_)
  have sω10 : ω10.2 = a + 10 := by rw [hω10]; show _ + 1 = _; omega
  have n1_ω10 := z_at hω10 (zN_n' (by omega) n1_ω9)
  have n2_ω10 := z_at hω10 (zN_n' (by omega) n2_ω9)
  have n3_ω10 := z_at hω10 (zN_n' (by omega) n3_ω9)
  have n4_ω10 := z_at hω10 (zN_n' (by omega) n4_ω9)
  have n5_ω10 := z_at hω10 (zN_n' (by omega) n5_ω9)
  have n6_ω10 := z_at hω10 (zN_n' (by omega) n6_ω9)
  have n7_ω10 := z_at hω10 (zN_n' (by omega) n7_ω9)
  have n8_ω10 := z_at hω10 (zN_n' (by omega) n8_ω9)
  have a_ω10 := z_at hω10 (zN_n' (by omega) a_ω9)
  have kω10 : ∀ b : Nat, b < a → ω10.1 b = ω.1 b := fun b hb => by rw [hω10]; exact (zN_n (by omega)).trans (kω9 b hb)
  clear n1_wn7 n2_wn7 n3_wn7 n4_wn7 n5_wn7 n6_wn7 a_wn7 n7_wn7 n8_wn7 swn7 kwn7
  have n9_ω10 : ω10.1 (a + 9) = some (zOb 4 fsX4) := by rw [hω10, ← sω9]; exact zN_s _ _
  refine z_dup (pc := 63) C rfl dX5_init_63 ?_
  refine z_sipush (pc := 64) C (by decide +kernel) dX5_init_64 ?_
  refine z_bipush (pc := 67) C (by decide +kernel) dX5_init_67 ?_
  refine z_callI (pc := 69) C (c_X4_init (h := 256) (wd := 11) n9_ω10 (by omega) ⟨by decide, by decide⟩ ⟨by decide, by decide⟩) rfl k_X5_20 kc_X4_init zy_X4_init.2 rfl rfl ⟨(Nat.le_of_ble_eq_true rfl), (Nat.le_of_ble_eq_true rfl)⟩ (Nat.le_of_ble_eq_true rfl) dX5_init_69 ⟨(by decide +kernel), (by decide +kernel)⟩ (fun rv wn9 hp => ?_)
  obtain ⟨rfl, hp⟩ := hp
  obtain ⟨hE, hsz, n9_wn9, n10_wn9⟩ := hp
  have swn9 : wn9.2 = a + 11 := by omega
  have n1_wn9 := (hE _ (by omega)).trans n1_ω10
  have n2_wn9 := (hE _ (by omega)).trans n2_ω10
  have n3_wn9 := (hE _ (by omega)).trans n3_ω10
  have n4_wn9 := (hE _ (by omega)).trans n4_ω10
  have n5_wn9 := (hE _ (by omega)).trans n5_ω10
  have n6_wn9 := (hE _ (by omega)).trans n6_ω10
  have n7_wn9 := (hE _ (by omega)).trans n7_ω10
  have n8_wn9 := (hE _ (by omega)).trans n8_ω10
  have a_wn9 := (hE _ (by omega)).trans a_ω10
  have kwn9 : ∀ b : Nat, b < a → wn9.1 b = ω.1 b := fun b hb => (hE b (by omega)).trans (kω10 b hb)
  clear hE hsz
  clear n1_ω9 n2_ω9 n3_ω9 n4_ω9 n5_ω9 n6_ω9 n7_ω9 n8_ω9 a_ω9 sω9 hω9 kω9
  refine p_X5_33 (pc := 72) C a_wn9 (Nat.le_of_ble_eq_true rfl) dX5_init_72 ?_
  refine z_nm (fun ω11 hω11 => ?_)
  have sω11 : ω11.2 = a + 11 := by rw [hω11]; exact swn9
  have n1_ω11 := z_at hω11 (zU_n' (by omega) n1_wn9)
  have n2_ω11 := z_at hω11 (zU_n' (by omega) n2_wn9)
  have n3_ω11 := z_at hω11 (zU_n' (by omega) n3_wn9)
  have n4_ω11 := z_at hω11 (zU_n' (by omega) n4_wn9)
  have n5_ω11 := z_at hω11 (zU_n' (by omega) n5_wn9)
  have n6_ω11 := z_at hω11 (zU_n' (by omega) n6_wn9)
  have n7_ω11 := z_at hω11 (zU_n' (by omega) n7_wn9)
  have n8_ω11 := z_at hω11 (zU_n' (by omega) n8_wn9)
  have n9_ω11 := z_at hω11 (zU_n' (by omega) n9_wn9)
  have n10_ω11 := z_at hω11 (zU_n' (by omega) n10_wn9)
  have a_ω11 := z_at hω11 (zU_s _ _ _)
  have kω11 : ∀ b : Nat, b < a → ω11.1 b = ω.1 b := fun b hb => by rw [hω11]; exact (zU_n (by omega)).trans (kwn9 b hb)
  clear n1_ω10 n2_ω10 n3_ω10 n4_ω10 n5_ω10 n6_ω10 n7_ω10 n8_ω10 a_ω10 sω10 hω10 kω10 n9_ω10
  refine z_aload_n (i := 0) (pc := 75) C rfl rfl dX5_init_75 ?_
  refine z_iconst (pc := 76) C dX5_init_76 ?_
  refine p_X5_36 (pc := 77) C a_ω11 (Nat.le_of_ble_eq_true rfl) dX5_init_77 ?_
  refine z_nm (fun ω12 hω12 => ?_)
  have sω12 : ω12.2 = a + 11 := by rw [hω12]; exact sω11
  have n1_ω12 := z_at hω12 (zU_n' (by omega) n1_ω11)
  have n2_ω12 := z_at hω12 (zU_n' (by omega) n2_ω11)
  have n3_ω12 := z_at hω12 (zU_n' (by omega) n3_ω11)
  have n4_ω12 := z_at hω12 (zU_n' (by omega) n4_ω11)
  have n5_ω12 := z_at hω12 (zU_n' (by omega) n5_ω11)
  have n6_ω12 := z_at hω12 (zU_n' (by omega) n6_ω11)
  have n7_ω12 := z_at hω12 (zU_n' (by omega) n7_ω11)
  have n8_ω12 := z_at hω12 (zU_n' (by omega) n8_ω11)
  have n9_ω12 := z_at hω12 (zU_n' (by omega) n9_ω11)
  have n10_ω12 := z_at hω12 (zU_n' (by omega) n10_ω11)
  have a_ω12 := z_at hω12 (zU_s _ _ _)
  have kω12 : ∀ b : Nat, b < a → ω12.1 b = ω.1 b := fun b hb => by rw [hω12]; exact (zU_n (by omega)).trans (kω11 b hb)
  clear n1_wn9 n2_wn9 n3_wn9 n4_wn9 n5_wn9 n6_wn9 n7_wn9 n8_wn9 a_wn9 n9_wn9 n10_wn9 swn9 kwn9
  refine z_aload_n (i := 0) (pc := 80) C rfl rfl dX5_init_80 ?_
  refine z_iconst (pc := 81) C dX5_init_81 ?_
  refine p_X5_40 (pc := 82) C a_ω12 (Nat.le_of_ble_eq_true rfl) dX5_init_82 ?_
  refine z_nm (fun ω13 hω13 => ?_)
  have sω13 : ω13.2 = a + 11 := by rw [hω13]; exact sω12
  have n1_ω13 := z_at hω13 (zU_n' (by omega) n1_ω12)
  have n2_ω13 := z_at hω13 (zU_n' (by omega) n2_ω12)
  have n3_ω13 := z_at hω13 (zU_n' (by omega) n3_ω12)
  have n4_ω13 := z_at hω13 (zU_n' (by omega) n4_ω12)
  have n5_ω13 := z_at hω13 (zU_n' (by omega) n5_ω12)
  have n6_ω13 := z_at hω13 (zU_n' (by omega) n6_ω12)
  have n7_ω13 := z_at hω13 (zU_n' (by omega) n7_ω12)
  have n8_ω13 := z_at hω13 (zU_n' (by omega) n8_ω12)
  have n9_ω13 := z_at hω13 (zU_n' (by omega) n9_ω12)
  have n10_ω13 := z_at hω13 (zU_n' (by omega) n10_ω12)
  have a_ω13 := z_at hω13 (zU_s _ _ _)
  have kω13 : ∀ b : Nat, b < a → ω13.1 b = ω.1 b := fun b hb => by rw [hω13]; exact (zU_n (by omega)).trans (kω12 b hb)
  clear n1_ω11 n2_ω11 n3_ω11 n4_ω11 n5_ω11 n6_ω11 n7_ω11 n8_ω11 n9_ω11 n10_ω11 a_ω11 sω11 hω11 kω11
  refine z_aload_n (i := 0) (pc := 85) C rfl rfl dX5_init_85 ?_
  refine z_iconst (pc := 86) C dX5_init_86 ?_
  refine p_X5_43 (pc := 87) C a_ω13 (Nat.le_of_ble_eq_true rfl) dX5_init_87 ?_
  refine z_nm (fun ω14 hω14 => ?_)
  have sω14 : ω14.2 = a + 11 := by rw [hω14]; exact sω13
  have n1_ω14 := z_at hω14 (zU_n' (by omega) n1_ω13)
  have n2_ω14 := z_at hω14 (zU_n' (by omega) n2_ω13)
  have n3_ω14 := z_at hω14 (zU_n' (by omega) n3_ω13)
  have n4_ω14 := z_at hω14 (zU_n' (by omega) n4_ω13)
  have n5_ω14 := z_at hω14 (zU_n' (by omega) n5_ω13)
  have n6_ω14 := z_at hω14 (zU_n' (by omega) n6_ω13)
  have n7_ω14 := z_at hω14 (zU_n' (by omega) n7_ω13)
  have n8_ω14 := z_at hω14 (zU_n' (by omega) n8_ω13)
  have n9_ω14 := z_at hω14 (zU_n' (by omega) n9_ω13)
  have n10_ω14 := z_at hω14 (zU_n' (by omega) n10_ω13)
  have a_ω14 := z_at hω14 (zU_s _ _ _)
  have kω14 : ∀ b : Nat, b < a → ω14.1 b = ω.1 b := fun b hb => by rw [hω14]; exact (zU_n (by omega)).trans (kω13 b hb)
  clear n1_ω12 n2_ω12 n3_ω12 n4_ω12 n5_ω12 n6_ω12 n7_ω12 n8_ω12 n9_ω12 n10_ω12 a_ω12 sω12 hω12 kω12
  refine z_aload_n (i := 0) (pc := 90) C rfl rfl dX5_init_90 ?_
  refine z_iconst (pc := 91) C dX5_init_91 ?_
  refine p_X5_46 (pc := 92) C a_ω14 (Nat.le_of_ble_eq_true rfl) dX5_init_92 ?_
  refine z_nm (fun ω15 hω15 => ?_)
  have sω15 : ω15.2 = a + 11 := by rw [hω15]; exact sω14
  have n1_ω15 := z_at hω15 (zU_n' (by omega) n1_ω14)
  have n2_ω15 := z_at hω15 (zU_n' (by omega) n2_ω14)
  have n3_ω15 := z_at hω15 (zU_n' (by omega) n3_ω14)
  have n4_ω15 := z_at hω15 (zU_n' (by omega) n4_ω14)
  have n5_ω15 := z_at hω15 (zU_n' (by omega) n5_ω14)
  have n6_ω15 := z_at hω15 (zU_n' (by omega) n6_ω14)
  have n7_ω15 := z_at hω15 (zU_n' (by omega) n7_ω14)
  have n8_ω15 := z_at hω15 (zU_n' (by omega) n8_ω14)
  have n9_ω15 := z_at hω15 (zU_n' (by omega) n9_ω14)
  have n10_ω15 := z_at hω15 (zU_n' (by omega) n10_ω14)
  have a_ω15 := z_at hω15 (zU_s _ _ _)
  have kω15 : ∀ b : Nat, b < a → ω15.1 b = ω.1 b := fun b hb => by rw [hω15]; exact (zU_n (by omega)).trans (kω14 b hb)
  clear n1_ω13 n2_ω13 n3_ω13 n4_ω13 n5_ω13 n6_ω13 n7_ω13 n8_ω13 n9_ω13 n10_ω13 a_ω13 sω13 hω13 kω13
  exact z_vret (pc := 95) C E dX5_init_95 ⟨rfl, ⟨kω15, sω15, a + 7, a + 9, 0, 0, 0, 0, 256, 256, (fun _ => 0), (fun _ => 0), (fun _ => 0), (fun _ => 0), a_ω15, Or.inl ⟨rfl, rfl⟩, n1_ω15, n2_ω15, n3_ω15, n4_ω15, n5_ω15, n6_ω15, n7_ω15, n8_ω15, n9_ω15, n10_ω15, by decide, by decide⟩⟩ (by decide +kernel) (by decide +kernel)
set_option maxRecDepth 100000 in
set_option maxHeartbeats 4000000 in
theorem c_X3_init {l0 : Launch} {X : zX} {ω : zWd} {a : Nat} (ha : ω.1 a = some (zOb 3 fsX3)) (hz : ω.2 = a + 1) : zMet l0 yX3_init cX3_init 1 none rnX3_init X [.ref a] ω (zpv (fun w => (∀ b : Nat, b < a → w.1 b = ω.1 b) ∧ w.2 = a + 11 ∧ zPw X w a 0 1000 3 (fun _ => 0) (fun _ => 0) (fun _ => 0) 181 (a + 7))) := by
  refine zMet.intro (by decide) (Nat.le_of_ble_eq_true rfl) ?_
  intro Γ C E N
  show Zw Γ ω 0 0 0 [some _] []
  have k0 : ∀ b : Nat, b < a → ω.1 b = ω.1 b := fun b hb => rfl
  refine z_aload_n (i := 0) (pc := 0) C rfl rfl dX3_init_0 ?_
  refine z_objInit (pc := 1) C ol_X3_3 oi_1 oi_2 ⟨(Nat.le_of_ble_eq_true rfl), (Nat.le_of_ble_eq_true rfl)⟩ (Nat.le_of_ble_eq_true rfl) dX3_init_1 ?_
  refine z_aload_n (i := 0) (pc := 4) C rfl rfl dX3_init_4 ?_
  refine z_new (pc := 5) (ci := 1) C tyX1 iX1 tyX1_ok cl_X3_9 in_X1 (kc_X1_init).2.2 rfl (fs := fsX1) hfsX1 (by decide +kernel) (by decide +kernel) dX3_init_5 ?_
  rw [hz]
  refine z_nm (fun ω2 hω2 => ?_)
  have sω2 : ω2.2 = a + 2 := by rw [hω2]; show _ + 1 = _; omega
  have a_ω2 := z_at hω2 (zN_n' (by omega) ha)
  have kω2 : ∀ b : Nat, b < a → ω2.1 b = ω.1 b := fun b hb => by rw [hω2]; exact (zN_n (by omega)).trans (k0 b hb)
  have n1_ω2 : ω2.1 (a + 1) = some (zOb 1 fsX1) := by rw [hω2, ← hz]; exact zN_s _ _
  refine z_dup (pc := 8) C rfl dX3_init_8 ?_
  refine z_callIN (pc := 9) C (c_X1_init n1_ω2 (by omega)) rfl zn_X3_11 kc_X1_init zy_X1_init.2 rfl rfl ⟨(Nat.le_of_ble_eq_true rfl), (Nat.le_of_ble_eq_true rfl)⟩ (Nat.le_of_ble_eq_true rfl) dX3_init_9 ⟨(by decide +kernel), (by decide +kernel)⟩ (fun rv wn1 hp => ?_)
  obtain ⟨rfl, hp⟩ := hp
  obtain ⟨hE, hsz, n1_wn1, n2_wn1⟩ := hp
  have swn1 : wn1.2 = a + 3 := by omega
  have a_wn1 := (hE _ (by omega)).trans a_ω2
  have kwn1 : ∀ b : Nat, b < a → wn1.1 b = ω.1 b := fun b hb => (hE b (by omega)).trans (kω2 b hb)
  clear hE hsz
  refine p_X3_12 (pc := 12) C N a_wn1 (Nat.le_of_ble_eq_true rfl) dX3_init_12 ?_
  refine z_nm (fun ω3 hω3 => ?_)
  have sω3 : ω3.2 = a + 3 := by rw [hω3]; exact swn1
  have n1_ω3 := z_at hω3 (zU_n' (by omega) n1_wn1)
  have n2_ω3 := z_at hω3 (zU_n' (by omega) n2_wn1)
  have a_ω3 := z_at hω3 (zU_s _ _ _)
  have kω3 : ∀ b : Nat, b < a → ω3.1 b = ω.1 b := fun b hb => by rw [hω3]; exact (zU_n (by omega)).trans (kwn1 b hb)
  clear a_ω2 sω2 hω2 kω2 n1_ω2
  refine z_aload_n (i := 0) (pc := 15) C rfl rfl dX3_init_15 ?_
  refine z_new (pc := 16) (ci := 4) C tyX4 iX4 tyX4_ok cl_X3_18 in_X4 (kc_X4_init).2.2 rfl (fs := fsX4) hfsX4 (by decide +kernel) (by decide +kernel) dX3_init_16 ?_
  rw [sω3]
  refine z_nm (fun ω4 hω4 => ?_)
  have sω4 : ω4.2 = a + 4 := by rw [hω4]; show _ + 1 = _; omega
  have n1_ω4 := z_at hω4 (zN_n' (by omega) n1_ω3)
  have n2_ω4 := z_at hω4 (zN_n' (by omega) n2_ω3)
  have a_ω4 := z_at hω4 (zN_n' (by omega) a_ω3)
  have kω4 : ∀ b : Nat, b < a → ω4.1 b = ω.1 b := fun b hb => by rw [hω4]; exact (zN_n (by omega)).trans (kω3 b hb)
  clear a_wn1 n1_wn1 n2_wn1 swn1 kwn1
  have n3_ω4 : ω4.1 (a + 3) = some (zOb 4 fsX4) := by rw [hω4, ← sω3]; exact zN_s _ _
  refine z_dup (pc := 19) C rfl dX3_init_19 ?_
  refine z_iconst (pc := 20) C dX3_init_20 ?_
  refine z_iconst (pc := 21) C dX3_init_21 ?_
  refine z_callI (pc := 22) C (c_X4_init (h := 1) (wd := 4) n3_ω4 (by omega) ⟨by decide, by decide⟩ ⟨by decide, by decide⟩) rfl k_X3_20 kc_X4_init zy_X4_init.2 rfl rfl ⟨(Nat.le_of_ble_eq_true rfl), (Nat.le_of_ble_eq_true rfl)⟩ (Nat.le_of_ble_eq_true rfl) dX3_init_22 ⟨(by decide +kernel), (by decide +kernel)⟩ (fun rv wn3 hp => ?_)
  obtain ⟨rfl, hp⟩ := hp
  obtain ⟨hE, hsz, n3_wn3, n4_wn3⟩ := hp
  have swn3 : wn3.2 = a + 5 := by omega
  have n1_wn3 := (hE _ (by omega)).trans n1_ω4
  have n2_wn3 := (hE _ (by omega)).trans n2_ω4
  have a_wn3 := (hE _ (by omega)).trans a_ω4
  have kwn3 : ∀ b : Nat, b < a → wn3.1 b = ω.1 b := fun b hb => (hE b (by omega)).trans (kω4 b hb)
  clear hE hsz
  clear n1_ω3 n2_ω3 a_ω3 sω3 hω3 kω3
  refine p_X3_23 (pc := 25) C N a_wn3 (Nat.le_of_ble_eq_true rfl) dX3_init_25 ?_
  refine z_nm (fun ω5 hω5 => ?_)
  have sω5 : ω5.2 = a + 5 := by rw [hω5]; exact swn3
  have n1_ω5 := z_at hω5 (zU_n' (by omega) n1_wn3)
  have n2_ω5 := z_at hω5 (zU_n' (by omega) n2_wn3)
  have n3_ω5 := z_at hω5 (zU_n' (by omega) n3_wn3)
  have n4_ω5 := z_at hω5 (zU_n' (by omega) n4_wn3)
  have a_ω5 := z_at hω5 (zU_s _ _ _)
  have kω5 : ∀ b : Nat, b < a → ω5.1 b = ω.1 b := fun b hb => by rw [hω5]; exact (zU_n (by omega)).trans (kwn3 b hb)
  clear n1_ω4 n2_ω4 a_ω4 sω4 hω4 kω4 n3_ω4
  refine z_aload_n (i := 0) (pc := 28) C rfl rfl dX3_init_28 ?_
  refine z_new (pc := 29) (ci := 4) C tyX4 iX4 tyX4_ok cl_X3_18 in_X4 (kc_X4_init).2.2 rfl (fs := fsX4) hfsX4 (by decide +kernel) (by decide +kernel) dX3_init_29 ?_
  rw [sω5]
  refine z_nm (fun ω6 hω6 => ?_)
  have sω6 : ω6.2 = a + 6 := by rw [hω6]; show _ + 1 = _; omega
  have n1_ω6 := z_at hω6 (zN_n' (by omega) n1_ω5)
  have n2_ω6 := z_at hω6 (zN_n' (by omega) n2_ω5)
  have n3_ω6 := z_at hω6 (zN_n' (by omega) n3_ω5)
  have n4_ω6 := z_at hω6 (zN_n' (by omega) n4_ω5)
  have a_ω6 := z_at hω6 (zN_n' (by omega) a_ω5)
  have kω6 : ∀ b : Nat, b < a → ω6.1 b = ω.1 b := fun b hb => by rw [hω6]; exact (zN_n (by omega)).trans (kω5 b hb)
  clear n1_wn3 n2_wn3 a_wn3 n3_wn3 n4_wn3 swn3 kwn3
  have n5_ω6 : ω6.1 (a + 5) = some (zOb 4 fsX4) := by rw [hω6, ← sω5]; exact zN_s _ _
  refine z_dup (pc := 32) C rfl dX3_init_32 ?_
  refine z_iconst (pc := 33) C dX3_init_33 ?_
  refine z_iconst (pc := 34) C dX3_init_34 ?_
  refine z_callI (pc := 35) C (c_X4_init (h := 1) (wd := 4) n5_ω6 (by omega) ⟨by decide, by decide⟩ ⟨by decide, by decide⟩) rfl k_X3_20 kc_X4_init zy_X4_init.2 rfl rfl ⟨(Nat.le_of_ble_eq_true rfl), (Nat.le_of_ble_eq_true rfl)⟩ (Nat.le_of_ble_eq_true rfl) dX3_init_35 ⟨(by decide +kernel), (by decide +kernel)⟩ (fun rv wn5 hp => ?_)
  obtain ⟨rfl, hp⟩ := hp
  obtain ⟨hE, hsz, n5_wn5, n6_wn5⟩ := hp
  have swn5 : wn5.2 = a + 7 := by omega
  have n1_wn5 := (hE _ (by omega)).trans n1_ω6
  have n2_wn5 := (hE _ (by omega)).trans n2_ω6
  have n3_wn5 := (hE _ (by omega)).trans n3_ω6
  have n4_wn5 := (hE _ (by omega)).trans n4_ω6
  have a_wn5 := (hE _ (by omega)).trans a_ω6
  have kwn5 : ∀ b : Nat, b < a → wn5.1 b = ω.1 b := fun b hb => (hE b (by omega)).trans (kω6 b hb)
  clear hE hsz
  clear n1_ω5 n2_ω5 n3_ω5 n4_ω5 a_ω5 sω5 hω5 kω5
  refine p_X3_27 (pc := 38) C N a_wn5 (Nat.le_of_ble_eq_true rfl) dX3_init_38 ?_
  refine z_nm (fun ω7 hω7 => ?_)
  have sω7 : ω7.2 = a + 7 := by rw [hω7]; exact swn5
  have n1_ω7 := z_at hω7 (zU_n' (by omega) n1_wn5)
  have n2_ω7 := z_at hω7 (zU_n' (by omega) n2_wn5)
  have n3_ω7 := z_at hω7 (zU_n' (by omega) n3_wn5)
  have n4_ω7 := z_at hω7 (zU_n' (by omega) n4_wn5)
  have n5_ω7 := z_at hω7 (zU_n' (by omega) n5_wn5)
  have n6_ω7 := z_at hω7 (zU_n' (by omega) n6_wn5)
  have a_ω7 := z_at hω7 (zU_s _ _ _)
  have kω7 : ∀ b : Nat, b < a → ω7.1 b = ω.1 b := fun b hb => by rw [hω7]; exact (zU_n (by omega)).trans (kwn5 b hb)
  clear n1_ω6 n2_ω6 n3_ω6 n4_ω6 a_ω6 sω6 hω6 kω6 n5_ω6
  refine z_aload_n (i := 0) (pc := 41) C rfl rfl dX3_init_41 ?_
  refine z_new (pc := 42) (ci := 4) C tyX4 iX4 tyX4_ok cl_X3_18 in_X4 (kc_X4_init).2.2 rfl (fs := fsX4) hfsX4 (by decide +kernel) (by decide +kernel) dX3_init_42 ?_
  rw [sω7]
  refine z_nm (fun ω8 hω8 => ?_)
  have sω8 : ω8.2 = a + 8 := by rw [hω8]; show _ + 1 = _; omega
  have n1_ω8 := z_at hω8 (zN_n' (by omega) n1_ω7)
  have n2_ω8 := z_at hω8 (zN_n' (by omega) n2_ω7)
  have n3_ω8 := z_at hω8 (zN_n' (by omega) n3_ω7)
  have n4_ω8 := z_at hω8 (zN_n' (by omega) n4_ω7)
  have n5_ω8 := z_at hω8 (zN_n' (by omega) n5_ω7)
  have n6_ω8 := z_at hω8 (zN_n' (by omega) n6_ω7)
  have a_ω8 := z_at hω8 (zN_n' (by omega) a_ω7)
  have kω8 : ∀ b : Nat, b < a → ω8.1 b = ω.1 b := fun b hb => by rw [hω8]; exact (zN_n (by omega)).trans (kω7 b hb)
  clear n1_wn5 n2_wn5 n3_wn5 n4_wn5 a_wn5 n5_wn5 n6_wn5 swn5 kwn5
  have n7_ω8 : ω8.1 (a + 7) = some (zOb 4 fsX4) := by rw [hω8, ← sω7]; exact zN_s _ _
  refine z_dup (pc := 45) C rfl dX3_init_45 ?_
  refine z_sipush (pc := 46) C (by decide +kernel) dX3_init_46 ?_
  refine z_iconst (pc := 49) C dX3_init_49 ?_
  refine z_callI (pc := 50) C (c_X4_init (h := 181) (wd := 4) n7_ω8 (by omega) ⟨by decide, by decide⟩ ⟨by decide, by decide⟩) rfl k_X3_20 kc_X4_init zy_X4_init.2 rfl rfl ⟨(Nat.le_of_ble_eq_true rfl), (Nat.le_of_ble_eq_true rfl)⟩ (Nat.le_of_ble_eq_true rfl) dX3_init_50 ⟨(by decide +kernel), (by decide +kernel)⟩ (fun rv wn7 hp => ?_)
  obtain ⟨rfl, hp⟩ := hp
  obtain ⟨hE, hsz, n7_wn7, n8_wn7⟩ := hp
  have swn7 : wn7.2 = a + 9 := by omega
  have n1_wn7 := (hE _ (by omega)).trans n1_ω8
  have n2_wn7 := (hE _ (by omega)).trans n2_ω8
  have n3_wn7 := (hE _ (by omega)).trans n3_ω8
  have n4_wn7 := (hE _ (by omega)).trans n4_ω8
  have n5_wn7 := (hE _ (by omega)).trans n5_ω8
  have n6_wn7 := (hE _ (by omega)).trans n6_ω8
  have a_wn7 := (hE _ (by omega)).trans a_ω8
  have kwn7 : ∀ b : Nat, b < a → wn7.1 b = ω.1 b := fun b hb => (hE b (by omega)).trans (kω8 b hb)
  clear hE hsz
  clear n1_ω7 n2_ω7 n3_ω7 n4_ω7 n5_ω7 n6_ω7 a_ω7 sω7 hω7 kω7
  refine p_X3_30 (pc := 53) C a_wn7 (Nat.le_of_ble_eq_true rfl) dX3_init_53 ?_
  refine z_nm (fun ω9 hω9 => ?_)
  have sω9 : ω9.2 = a + 9 := by rw [hω9]; exact swn7
  have n1_ω9 := z_at hω9 (zU_n' (by omega) n1_wn7)
  have n2_ω9 := z_at hω9 (zU_n' (by omega) n2_wn7)
  have n3_ω9 := z_at hω9 (zU_n' (by omega) n3_wn7)
  have n4_ω9 := z_at hω9 (zU_n' (by omega) n4_wn7)
  have n5_ω9 := z_at hω9 (zU_n' (by omega) n5_wn7)
  have n6_ω9 := z_at hω9 (zU_n' (by omega) n6_wn7)
  have n7_ω9 := z_at hω9 (zU_n' (by omega) n7_wn7)
  have n8_ω9 := z_at hω9 (zU_n' (by omega) n8_wn7)
  have a_ω9 := z_at hω9 (zU_s _ _ _)
  have kω9 : ∀ b : Nat, b < a → ω9.1 b = ω.1 b := fun b hb => by rw [hω9]; exact (zU_n (by omega)).trans (kwn7 b hb)
  clear n1_ω8 n2_ω8 n3_ω8 n4_ω8 n5_ω8 n6_ω8 a_ω8 sω8 hω8 kω8 n7_ω8
  refine z_aload_n (i := 0) (pc := 56) C rfl rfl dX3_init_56 ?_
  refine z_new (pc := 57) (ci := 4) C tyX4 iX4 tyX4_ok cl_X3_18 in_X4 (kc_X4_init).2.2 rfl (fs := fsX4) hfsX4 (by decide +kernel) (by decide +kernel) dX3_init_57 ?_
  rw [sω9]
  refine z_nm (fun ω10 hω10 => ?_)
  have sω10 : ω10.2 = a + 10 := by rw [hω10]; show _ + 1 = _; omega
  have n1_ω10 := z_at hω10 (zN_n' (by omega) n1_ω9)
  have n2_ω10 := z_at hω10 (zN_n' (by omega) n2_ω9)
  have n3_ω10 := z_at hω10 (zN_n' (by omega) n3_ω9)
  have n4_ω10 := z_at hω10 (zN_n' (by omega) n4_ω9)
  have n5_ω10 := z_at hω10 (zN_n' (by omega) n5_ω9)
  have n6_ω10 := z_at hω10 (zN_n' (by omega) n6_ω9)
  have n7_ω10 := z_at hω10 (zN_n' (by omega) n7_ω9)
  have n8_ω10 := z_at hω10 (zN_n' (by omega) n8_ω9)
  have a_ω10 := z_at hω10 (zN_n' (by omega) a_ω9)
  have kω10 : ∀ b : Nat, b < a → ω10.1 b = ω.1 b := fun b hb => by rw [hω10]; exact (zN_n (by omega)).trans (kω9 b hb)
  clear n1_wn7 n2_wn7 n3_wn7 n4_wn7 n5_wn7 n6_wn7 a_wn7 n7_wn7 n8_wn7 swn7 kwn7
  have n9_ω10 : ω10.1 (a + 9) = some (zOb 4 fsX4) := by rw [hω10, ← sω9]; exact zN_s _ _
  refine z_dup (pc := 60) C rfl dX3_init_60 ?_
  refine z_sipush (pc := 61) C (by decide +kernel) dX3_init_61 ?_
  refine z_iconst (pc := 64) C dX3_init_64 ?_
  refine z_callI (pc := 65) C (c_X4_init (h := 181) (wd := 4) n9_ω10 (by omega) ⟨by decide, by decide⟩ ⟨by decide, by decide⟩) rfl k_X3_20 kc_X4_init zy_X4_init.2 rfl rfl ⟨(Nat.le_of_ble_eq_true rfl), (Nat.le_of_ble_eq_true rfl)⟩ (Nat.le_of_ble_eq_true rfl) dX3_init_65 ⟨(by decide +kernel), (by decide +kernel)⟩ (fun rv wn9 hp => ?_)
  obtain ⟨rfl, hp⟩ := hp
  obtain ⟨hE, hsz, n9_wn9, n10_wn9⟩ := hp
  have swn9 : wn9.2 = a + 11 := by omega
  have n1_wn9 := (hE _ (by omega)).trans n1_ω10
  have n2_wn9 := (hE _ (by omega)).trans n2_ω10
  have n3_wn9 := (hE _ (by omega)).trans n3_ω10
  have n4_wn9 := (hE _ (by omega)).trans n4_ω10
  have n5_wn9 := (hE _ (by omega)).trans n5_ω10
  have n6_wn9 := (hE _ (by omega)).trans n6_ω10
  have n7_wn9 := (hE _ (by omega)).trans n7_ω10
  have n8_wn9 := (hE _ (by omega)).trans n8_ω10
  have a_wn9 := (hE _ (by omega)).trans a_ω10
  have kwn9 : ∀ b : Nat, b < a → wn9.1 b = ω.1 b := fun b hb => (hE b (by omega)).trans (kω10 b hb)
  clear hE hsz
  clear n1_ω9 n2_ω9 n3_ω9 n4_ω9 n5_ω9 n6_ω9 n7_ω9 n8_ω9 a_ω9 sω9 hω9 kω9
  refine p_X3_33 (pc := 68) C a_wn9 (Nat.le_of_ble_eq_true rfl) dX3_init_68 ?_
  refine z_nm (fun ω11 hω11 => ?_)
  have sω11 : ω11.2 = a + 11 := by rw [hω11]; exact swn9
  have n1_ω11 := z_at hω11 (zU_n' (by omega) n1_wn9)
  have n2_ω11 := z_at hω11 (zU_n' (by omega) n2_wn9)
  have n3_ω11 := z_at hω11 (zU_n' (by omega) n3_wn9)
  have n4_ω11 := z_at hω11 (zU_n' (by omega) n4_wn9)
  have n5_ω11 := z_at hω11 (zU_n' (by omega) n5_wn9)
  have n6_ω11 := z_at hω11 (zU_n' (by omega) n6_wn9)
  have n7_ω11 := z_at hω11 (zU_n' (by omega) n7_wn9)
  have n8_ω11 := z_at hω11 (zU_n' (by omega) n8_wn9)
  have n9_ω11 := z_at hω11 (zU_n' (by omega) n9_wn9)
  have n10_ω11 := z_at hω11 (zU_n' (by omega) n10_wn9)
  have a_ω11 := z_at hω11 (zU_s _ _ _)
  have kω11 : ∀ b : Nat, b < a → ω11.1 b = ω.1 b := fun b hb => by rw [hω11]; exact (zU_n (by omega)).trans (kwn9 b hb)
  clear n1_ω10 n2_ω10 n3_ω10 n4_ω10 n5_ω10 n6_ω10 n7_ω10 n8_ω10 a_ω10 sω10 hω10 kω10 n9_ω10
  exact z_vret (pc := 71) C E dX3_init_71 ⟨rfl, ⟨kω11, sω11, a + 9, 181, (fun _ => 0), (fun _ => 0), a_ω11, Or.inl ⟨rfl, rfl⟩, n1_ω11, n2_ω11, n3_ω11, n4_ω11, n5_ω11, n6_ω11, n7_ω11, n8_ω11, n9_ω11, n10_ω11, by decide, by decide⟩⟩ (by decide +kernel) (by decide +kernel)
set_option maxRecDepth 100000 in
set_option maxHeartbeats 4000000 in
theorem c_X2_init {l0 : Launch} {X : zX} {ω : zWd} {a : Nat} (ha : ω.1 a = some (zOb 2 fsX2)) (hz : ω.2 = a + 1) : zMet l0 yX2_init cX2_init 1 none rnX2_init X [.ref a] ω (zpv (fun w => (∀ b : Nat, b < a → w.1 b = ω.1 b) ∧ w.2 = a + 9 ∧ zFv X w a (fun _ => 0) (fun _ => 0) (fun _ => 0) (fun _ => 0))) := by
  refine zMet.intro (by decide) (Nat.le_of_ble_eq_true rfl) ?_
  intro Γ C E N
  show Zw Γ ω 0 0 0 [some _] []
  have k0 : ∀ b : Nat, b < a → ω.1 b = ω.1 b := fun b hb => rfl
  refine z_aload_n (i := 0) (pc := 0) C rfl rfl dX2_init_0 ?_
  refine z_objInit (pc := 1) C ol_X2_3 oi_1 oi_2 ⟨(Nat.le_of_ble_eq_true rfl), (Nat.le_of_ble_eq_true rfl)⟩ (Nat.le_of_ble_eq_true rfl) dX2_init_1 ?_
  refine z_aload_n (i := 0) (pc := 4) C rfl rfl dX2_init_4 ?_
  refine z_new (pc := 5) (ci := 4) C tyX4 iX4 tyX4_ok cl_X2_9 in_X4 (kc_X4_init).2.2 rfl (fs := fsX4) hfsX4 (by decide +kernel) (by decide +kernel) dX2_init_5 ?_
  rw [hz]
  refine z_nm (fun ω2 hω2 => ?_)
  have sω2 : ω2.2 = a + 2 := by rw [hω2]; show _ + 1 = _; omega
  have a_ω2 := z_at hω2 (zN_n' (by omega) ha)
  have kω2 : ∀ b : Nat, b < a → ω2.1 b = ω.1 b := fun b hb => by rw [hω2]; exact (zN_n (by omega)).trans (k0 b hb)
  have n1_ω2 : ω2.1 (a + 1) = some (zOb 4 fsX4) := by rw [hω2, ← hz]; exact zN_s _ _
  refine z_dup (pc := 8) C rfl dX2_init_8 ?_
  refine z_bipush (pc := 9) C (by decide +kernel) dX2_init_9 ?_
  refine z_bipush (pc := 11) C (by decide +kernel) dX2_init_11 ?_
  refine z_callI (pc := 13) C (c_X4_init (h := 61) (wd := 16) n1_ω2 (by omega) ⟨by decide, by decide⟩ ⟨by decide, by decide⟩) rfl k_X2_11 kc_X4_init zy_X4_init.2 rfl rfl ⟨(Nat.le_of_ble_eq_true rfl), (Nat.le_of_ble_eq_true rfl)⟩ (Nat.le_of_ble_eq_true rfl) dX2_init_13 ⟨(by decide +kernel), (by decide +kernel)⟩ (fun rv wn1 hp => ?_)
  obtain ⟨rfl, hp⟩ := hp
  obtain ⟨hE, hsz, n1_wn1, n2_wn1⟩ := hp
  have swn1 : wn1.2 = a + 3 := by omega
  have a_wn1 := (hE _ (by omega)).trans a_ω2
  have kwn1 : ∀ b : Nat, b < a → wn1.1 b = ω.1 b := fun b hb => (hE b (by omega)).trans (kω2 b hb)
  clear hE hsz
  refine p_X2_14 (pc := 16) C N a_wn1 (Nat.le_of_ble_eq_true rfl) dX2_init_16 ?_
  refine z_nm (fun ω3 hω3 => ?_)
  have sω3 : ω3.2 = a + 3 := by rw [hω3]; exact swn1
  have n1_ω3 := z_at hω3 (zU_n' (by omega) n1_wn1)
  have n2_ω3 := z_at hω3 (zU_n' (by omega) n2_wn1)
  have a_ω3 := z_at hω3 (zU_s _ _ _)
  have kω3 : ∀ b : Nat, b < a → ω3.1 b = ω.1 b := fun b hb => by rw [hω3]; exact (zU_n (by omega)).trans (kwn1 b hb)
  clear a_ω2 sω2 hω2 kω2 n1_ω2
  refine z_aload_n (i := 0) (pc := 19) C rfl rfl dX2_init_19 ?_
  refine z_new (pc := 20) (ci := 4) C tyX4 iX4 tyX4_ok cl_X2_9 in_X4 (kc_X4_init).2.2 rfl (fs := fsX4) hfsX4 (by decide +kernel) (by decide +kernel) dX2_init_20 ?_
  rw [sω3]
  refine z_nm (fun ω4 hω4 => ?_)
  have sω4 : ω4.2 = a + 4 := by rw [hω4]; show _ + 1 = _; omega
  have n1_ω4 := z_at hω4 (zN_n' (by omega) n1_ω3)
  have n2_ω4 := z_at hω4 (zN_n' (by omega) n2_ω3)
  have a_ω4 := z_at hω4 (zN_n' (by omega) a_ω3)
  have kω4 : ∀ b : Nat, b < a → ω4.1 b = ω.1 b := fun b hb => by rw [hω4]; exact (zN_n (by omega)).trans (kω3 b hb)
  clear a_wn1 n1_wn1 n2_wn1 swn1 kwn1
  have n3_ω4 : ω4.1 (a + 3) = some (zOb 4 fsX4) := by rw [hω4, ← sω3]; exact zN_s _ _
  refine z_dup (pc := 23) C rfl dX2_init_23 ?_
  refine z_iconst (pc := 24) C dX2_init_24 ?_
  refine z_bipush (pc := 25) C (by decide +kernel) dX2_init_25 ?_
  refine z_callI (pc := 27) C (c_X4_init (h := 1) (wd := 16) n3_ω4 (by omega) ⟨by decide, by decide⟩ ⟨by decide, by decide⟩) rfl k_X2_11 kc_X4_init zy_X4_init.2 rfl rfl ⟨(Nat.le_of_ble_eq_true rfl), (Nat.le_of_ble_eq_true rfl)⟩ (Nat.le_of_ble_eq_true rfl) dX2_init_27 ⟨(by decide +kernel), (by decide +kernel)⟩ (fun rv wn3 hp => ?_)
  obtain ⟨rfl, hp⟩ := hp
  obtain ⟨hE, hsz, n3_wn3, n4_wn3⟩ := hp
  have swn3 : wn3.2 = a + 5 := by omega
  have n1_wn3 := (hE _ (by omega)).trans n1_ω4
  have n2_wn3 := (hE _ (by omega)).trans n2_ω4
  have a_wn3 := (hE _ (by omega)).trans a_ω4
  have kwn3 : ∀ b : Nat, b < a → wn3.1 b = ω.1 b := fun b hb => (hE b (by omega)).trans (kω4 b hb)
  clear hE hsz
  clear n1_ω3 n2_ω3 a_ω3 sω3 hω3 kω3
  refine p_X2_20 (pc := 30) C N a_wn3 (Nat.le_of_ble_eq_true rfl) dX2_init_30 ?_
  refine z_nm (fun ω5 hω5 => ?_)
  have sω5 : ω5.2 = a + 5 := by rw [hω5]; exact swn3
  have n1_ω5 := z_at hω5 (zU_n' (by omega) n1_wn3)
  have n2_ω5 := z_at hω5 (zU_n' (by omega) n2_wn3)
  have n3_ω5 := z_at hω5 (zU_n' (by omega) n3_wn3)
  have n4_ω5 := z_at hω5 (zU_n' (by omega) n4_wn3)
  have a_ω5 := z_at hω5 (zU_s _ _ _)
  have kω5 : ∀ b : Nat, b < a → ω5.1 b = ω.1 b := fun b hb => by rw [hω5]; exact (zU_n (by omega)).trans (kwn3 b hb)
  clear n1_ω4 n2_ω4 a_ω4 sω4 hω4 kω4 n3_ω4
  refine z_aload_n (i := 0) (pc := 33) C rfl rfl dX2_init_33 ?_
  refine z_new (pc := 34) (ci := 4) C tyX4 iX4 tyX4_ok cl_X2_9 in_X4 (kc_X4_init).2.2 rfl (fs := fsX4) hfsX4 (by decide +kernel) (by decide +kernel) dX2_init_34 ?_
  rw [sω5]
  refine z_nm (fun ω6 hω6 => ?_)
  have sω6 : ω6.2 = a + 6 := by rw [hω6]; show _ + 1 = _; omega
  have n1_ω6 := z_at hω6 (zN_n' (by omega) n1_ω5)
  have n2_ω6 := z_at hω6 (zN_n' (by omega) n2_ω5)
  have n3_ω6 := z_at hω6 (zN_n' (by omega) n3_ω5)
  have n4_ω6 := z_at hω6 (zN_n' (by omega) n4_ω5)
  have a_ω6 := z_at hω6 (zN_n' (by omega) a_ω5)
  have kω6 : ∀ b : Nat, b < a → ω6.1 b = ω.1 b := fun b hb => by rw [hω6]; exact (zN_n (by omega)).trans (kω5 b hb)
  clear n1_wn3 n2_wn3 a_wn3 n3_wn3 n4_wn3 swn3 kwn3
  have n5_ω6 : ω6.1 (a + 5) = some (zOb 4 fsX4) := by rw [hω6, ← sω5]; exact zN_s _ _
  refine z_dup (pc := 37) C rfl dX2_init_37 ?_
  refine z_iconst (pc := 38) C dX2_init_38 ?_
  refine z_bipush (pc := 39) C (by decide +kernel) dX2_init_39 ?_
  refine z_callI (pc := 41) C (c_X4_init (h := 1) (wd := 16) n5_ω6 (by omega) ⟨by decide, by decide⟩ ⟨by decide, by decide⟩) rfl k_X2_11 kc_X4_init zy_X4_init.2 rfl rfl ⟨(Nat.le_of_ble_eq_true rfl), (Nat.le_of_ble_eq_true rfl)⟩ (Nat.le_of_ble_eq_true rfl) dX2_init_41 ⟨(by decide +kernel), (by decide +kernel)⟩ (fun rv wn5 hp => ?_)
  obtain ⟨rfl, hp⟩ := hp
  obtain ⟨hE, hsz, n5_wn5, n6_wn5⟩ := hp
  have swn5 : wn5.2 = a + 7 := by omega
  have n1_wn5 := (hE _ (by omega)).trans n1_ω6
  have n2_wn5 := (hE _ (by omega)).trans n2_ω6
  have n3_wn5 := (hE _ (by omega)).trans n3_ω6
  have n4_wn5 := (hE _ (by omega)).trans n4_ω6
  have a_wn5 := (hE _ (by omega)).trans a_ω6
  have kwn5 : ∀ b : Nat, b < a → wn5.1 b = ω.1 b := fun b hb => (hE b (by omega)).trans (kω6 b hb)
  clear hE hsz
  clear n1_ω5 n2_ω5 n3_ω5 n4_ω5 a_ω5 sω5 hω5 kω5
  refine p_X2_23 (pc := 44) C N a_wn5 (Nat.le_of_ble_eq_true rfl) dX2_init_44 ?_
  refine z_nm (fun ω7 hω7 => ?_)
  have sω7 : ω7.2 = a + 7 := by rw [hω7]; exact swn5
  have n1_ω7 := z_at hω7 (zU_n' (by omega) n1_wn5)
  have n2_ω7 := z_at hω7 (zU_n' (by omega) n2_wn5)
  have n3_ω7 := z_at hω7 (zU_n' (by omega) n3_wn5)
  have n4_ω7 := z_at hω7 (zU_n' (by omega) n4_wn5)
  have n5_ω7 := z_at hω7 (zU_n' (by omega) n5_wn5)
  have n6_ω7 := z_at hω7 (zU_n' (by omega) n6_wn5)
  have a_ω7 := z_at hω7 (zU_s _ _ _)
  have kω7 : ∀ b : Nat, b < a → ω7.1 b = ω.1 b := fun b hb => by rw [hω7]; exact (zU_n (by omega)).trans (kwn5 b hb)
  clear n1_ω6 n2_ω6 n3_ω6 n4_ω6 a_ω6 sω6 hω6 kω6 n5_ω6
  refine z_aload_n (i := 0) (pc := 47) C rfl rfl dX2_init_47 ?_
  refine z_new (pc := 48) (ci := 4) C tyX4 iX4 tyX4_ok cl_X2_9 in_X4 (kc_X4_init).2.2 rfl (fs := fsX4) hfsX4 (by decide +kernel) (by decide +kernel) dX2_init_48 ?_
  rw [sω7]
  refine z_nm (fun ω8 hω8 => ?_)
  have sω8 : ω8.2 = a + 8 := by rw [hω8]; show _ + 1 = _; omega
  have n1_ω8 := z_at hω8 (zN_n' (by omega) n1_ω7)
  have n2_ω8 := z_at hω8 (zN_n' (by omega) n2_ω7)
  have n3_ω8 := z_at hω8 (zN_n' (by omega) n3_ω7)
  have n4_ω8 := z_at hω8 (zN_n' (by omega) n4_ω7)
  have n5_ω8 := z_at hω8 (zN_n' (by omega) n5_ω7)
  have n6_ω8 := z_at hω8 (zN_n' (by omega) n6_ω7)
  have a_ω8 := z_at hω8 (zN_n' (by omega) a_ω7)
  have kω8 : ∀ b : Nat, b < a → ω8.1 b = ω.1 b := fun b hb => by rw [hω8]; exact (zN_n (by omega)).trans (kω7 b hb)
  clear n1_wn5 n2_wn5 n3_wn5 n4_wn5 a_wn5 n5_wn5 n6_wn5 swn5 kwn5
  have n7_ω8 : ω8.1 (a + 7) = some (zOb 4 fsX4) := by rw [hω8, ← sω7]; exact zN_s _ _
  refine z_dup (pc := 51) C rfl dX2_init_51 ?_
  refine z_iconst (pc := 52) C dX2_init_52 ?_
  refine z_bipush (pc := 53) C (by decide +kernel) dX2_init_53 ?_
  refine z_callI (pc := 55) C (c_X4_init (h := 1) (wd := 16) n7_ω8 (by omega) ⟨by decide, by decide⟩ ⟨by decide, by decide⟩) rfl k_X2_11 kc_X4_init zy_X4_init.2 rfl rfl ⟨(Nat.le_of_ble_eq_true rfl), (Nat.le_of_ble_eq_true rfl)⟩ (Nat.le_of_ble_eq_true rfl) dX2_init_55 ⟨(by decide +kernel), (by decide +kernel)⟩ (fun rv wn7 hp => ?_)
  obtain ⟨rfl, hp⟩ := hp
  obtain ⟨hE, hsz, n7_wn7, n8_wn7⟩ := hp
  have swn7 : wn7.2 = a + 9 := by omega
  have n1_wn7 := (hE _ (by omega)).trans n1_ω8
  have n2_wn7 := (hE _ (by omega)).trans n2_ω8
  have n3_wn7 := (hE _ (by omega)).trans n3_ω8
  have n4_wn7 := (hE _ (by omega)).trans n4_ω8
  have n5_wn7 := (hE _ (by omega)).trans n5_ω8
  have n6_wn7 := (hE _ (by omega)).trans n6_ω8
  have a_wn7 := (hE _ (by omega)).trans a_ω8
  have kwn7 : ∀ b : Nat, b < a → wn7.1 b = ω.1 b := fun b hb => (hE b (by omega)).trans (kω8 b hb)
  clear hE hsz
  clear n1_ω7 n2_ω7 n3_ω7 n4_ω7 n5_ω7 n6_ω7 a_ω7 sω7 hω7 kω7
  refine p_X2_26 (pc := 58) C N a_wn7 (Nat.le_of_ble_eq_true rfl) dX2_init_58 ?_
  refine z_nm (fun ω9 hω9 => ?_)
  have sω9 : ω9.2 = a + 9 := by rw [hω9]; exact swn7
  have n1_ω9 := z_at hω9 (zU_n' (by omega) n1_wn7)
  have n2_ω9 := z_at hω9 (zU_n' (by omega) n2_wn7)
  have n3_ω9 := z_at hω9 (zU_n' (by omega) n3_wn7)
  have n4_ω9 := z_at hω9 (zU_n' (by omega) n4_wn7)
  have n5_ω9 := z_at hω9 (zU_n' (by omega) n5_wn7)
  have n6_ω9 := z_at hω9 (zU_n' (by omega) n6_wn7)
  have n7_ω9 := z_at hω9 (zU_n' (by omega) n7_wn7)
  have n8_ω9 := z_at hω9 (zU_n' (by omega) n8_wn7)
  have a_ω9 := z_at hω9 (zU_s _ _ _)
  have kω9 : ∀ b : Nat, b < a → ω9.1 b = ω.1 b := fun b hb => by rw [hω9]; exact (zU_n (by omega)).trans (kwn7 b hb)
  clear n1_ω8 n2_ω8 n3_ω8 n4_ω8 n5_ω8 n6_ω8 a_ω8 sω8 hω8 kω8 n7_ω8
  exact z_vret (pc := 61) C E dX2_init_61 ⟨rfl, ⟨kω9, sω9, a_ω9, n1_ω9, n2_ω9, n3_ω9, n4_ω9, n5_ω9, n6_ω9, n7_ω9, n8_ω9⟩⟩ (by decide +kernel) (by decide +kernel)
