/-! THE MODEL'S CONSTRUCTOR -/
def rnX7_init : Room := { frames := 1, cells := 2445, slots := 180839, locals := 24 }
set_option maxRecDepth 100000 in
set_option maxHeartbeats 4000000 in
theorem c_X7_init {l0 : Launch} {X : zX} {ω : zWd} {m : Nat} (ha : ω.1 m = some (zOb 7 fsX7)) (hz : ω.2 = m + 1) : zMet l0 yX7_init cX7_init 1 none rnX7_init X [.ref m] ω (zpv (fun w => (∀ b : Nat, b < m → w.1 b = ω.1 b) ∧ zMD X w m (fun _ _ => 0) 0 0 (fun _ => 0) (fun _ => 0) 0 0)) := by
  refine zMet.intro (by decide) (Nat.le_of_ble_eq_true rfl) ?_
  intro Γ C E N
  show Zw Γ ω 0 0 0 [some _] []
  have k0 : ∀ b : Nat, b < m → ω.1 b = ω.1 b := fun b hb => rfl
  refine z_aload_n (i := 0) (pc := 0) C rfl rfl dX7_init_0 ?_
  refine z_objInit (pc := 1) C ol_X7_3 oi_1 oi_2 ⟨(Nat.le_of_ble_eq_true rfl), (Nat.le_of_ble_eq_true rfl)⟩ (Nat.le_of_ble_eq_true rfl) dX7_init_1 ?_
  refine z_aload_n (i := 0) (pc := 4) C rfl rfl dX7_init_4 ?_
  refine z_bipush (pc := 5) C (by decide +kernel) dX7_init_5 ?_
  refine z_bipush (pc := 7) C (by decide +kernel) dX7_init_7 ?_
  refine z_multi (pc := 9) C (N := 8) (K := 21) rfl (Nat.le_of_ble_eq_true rfl) rfl (Nat.le_of_ble_eq_true rfl) cl_X7_9 ac_int (by decide +kernel) (by decide +kernel) dX7_init_9 ?_
  rw [hz]
  refine z_nm (fun ω2 hω2 => ?_)
  have sω2 : ω2.2 = m + 10 := by rw [hω2]; show _ + 1 + _ = _; omega
  have m_ω2 := z_at hω2 (zM_n' (by omega) ha)
  have kω2 : ∀ b : Nat, b < m → ω2.1 b = ω.1 b := fun b hb => by rw [hω2]; exact (zM_n (by omega)).trans (k0 b hb)
  have n1_ω2 : zMx X ω2 (m + 1) 8 21 (fun _ _ => 0) := zMx.of hω2 hz
  refine p_X7_11 (pc := 13) C N m_ω2 (Nat.le_of_ble_eq_true rfl) dX7_init_13 ?_
  refine z_nm (fun ω3 hω3 => ?_)
  have sω3 : ω3.2 = m + 10 := by rw [hω3]; exact sω2
  have n1_ω3 := n1_ω2.kp (ω2 := ω3) (fun b h1 h2 => by rw [hω3]; exact zU_n (by omega))
  have m_ω3 := z_at hω3 (zU_s _ _ _)
  have kω3 : ∀ b : Nat, b < m → ω3.1 b = ω.1 b := fun b hb => by rw [hω3]; exact (zU_n (by omega)).trans (kω2 b hb)
  refine z_aload_n (i := 0) (pc := 16) C rfl rfl dX7_init_16 ?_
  refine z_bipush (pc := 17) C (by decide +kernel) dX7_init_17 ?_
  refine z_newI (pc := 19) C (N := 72) rfl (Nat.le_of_ble_eq_true rfl) ac_int (by decide +kernel) (by decide +kernel) dX7_init_19 ?_
  rw [sω3]
  refine z_nm (fun ω4 hω4 => ?_)
  have sω4 : ω4.2 = m + 11 := by rw [hω4]; show _ + 1 = _; omega
  have n1_ω4 := n1_ω3.kp (ω2 := ω4) (fun b h1 h2 => by rw [hω4]; exact zN_n (by omega))
  have m_ω4 := z_at hω4 (zN_n' (by omega) m_ω3)
  have kω4 : ∀ b : Nat, b < m → ω4.1 b = ω.1 b := fun b hb => by rw [hω4]; exact (zN_n (by omega)).trans (kω3 b hb)
  clear m_ω2 sω2 hω2 kω2 n1_ω2
  have n10_ω4 : ω4.1 (m + 10) = some (zAI X (72) (fun _ => 0)) := by rw [hω4, ← sω3]; exact zN_s _ _
  refine p_X7_14 (pc := 21) C N m_ω4 (Nat.le_of_ble_eq_true rfl) dX7_init_21 ?_
  refine z_nm (fun ω5 hω5 => ?_)
  have sω5 : ω5.2 = m + 11 := by rw [hω5]; exact sω4
  have n1_ω5 := n1_ω4.kp (ω2 := ω5) (fun b h1 h2 => by rw [hω5]; exact zU_n (by omega))
  have n10_ω5 := z_at hω5 (zU_n' (by omega) n10_ω4)
  have m_ω5 := z_at hω5 (zU_s _ _ _)
  have kω5 : ∀ b : Nat, b < m → ω5.1 b = ω.1 b := fun b hb => by rw [hω5]; exact (zU_n (by omega)).trans (kω4 b hb)
  clear n1_ω3 m_ω3 sω3 hω3 kω3
  refine z_aload_n (i := 0) (pc := 24) C rfl rfl dX7_init_24 ?_
  refine z_bipush (pc := 25) C (by decide +kernel) dX7_init_25 ?_
  refine z_bipush (pc := 27) C (by decide +kernel) dX7_init_27 ?_
  refine z_multi (pc := 29) C (N := 41) (K := 72) rfl (Nat.le_of_ble_eq_true rfl) rfl (Nat.le_of_ble_eq_true rfl) cl_X7_9 ac_int (by decide +kernel) (by decide +kernel) dX7_init_29 ?_
  rw [sω5]
  refine z_nm (fun ω6 hω6 => ?_)
  have sω6 : ω6.2 = m + 53 := by rw [hω6]; show _ + 1 + _ = _; omega
  have n1_ω6 := n1_ω5.kp (ω2 := ω6) (fun b h1 h2 => by rw [hω6]; exact zM_n (by omega))
  have n10_ω6 := z_at hω6 (zM_n' (by omega) n10_ω5)
  have m_ω6 := z_at hω6 (zM_n' (by omega) m_ω5)
  have kω6 : ∀ b : Nat, b < m → ω6.1 b = ω.1 b := fun b hb => by rw [hω6]; exact (zM_n (by omega)).trans (kω5 b hb)
  clear n1_ω4 m_ω4 sω4 hω4 kω4 n10_ω4
  have n11_ω6 : zMx X ω6 (m + 11) 41 72 (fun _ _ => 0) := zMx.of hω6 sω5
  refine p_X7_18 (pc := 33) C N m_ω6 (Nat.le_of_ble_eq_true rfl) dX7_init_33 ?_
  refine z_nm (fun ω7 hω7 => ?_)
  have sω7 : ω7.2 = m + 53 := by rw [hω7]; exact sω6
  have n1_ω7 := n1_ω6.kp (ω2 := ω7) (fun b h1 h2 => by rw [hω7]; exact zU_n (by omega))
  have n10_ω7 := z_at hω7 (zU_n' (by omega) n10_ω6)
  have n11_ω7 := n11_ω6.kp (ω2 := ω7) (fun b h1 h2 => by rw [hω7]; exact zU_n (by omega))
  have m_ω7 := z_at hω7 (zU_s _ _ _)
  have kω7 : ∀ b : Nat, b < m → ω7.1 b = ω.1 b := fun b hb => by rw [hω7]; exact (zU_n (by omega)).trans (kω6 b hb)
  clear n1_ω5 n10_ω5 m_ω5 sω5 hω5 kω5
  refine z_aload_n (i := 0) (pc := 36) C rfl rfl dX7_init_36 ?_
  refine z_bipush (pc := 37) C (by decide +kernel) dX7_init_37 ?_
  refine z_bipush (pc := 39) C (by decide +kernel) dX7_init_39 ?_
  refine z_multi (pc := 41) C (N := 21) (K := 72) rfl (Nat.le_of_ble_eq_true rfl) rfl (Nat.le_of_ble_eq_true rfl) cl_X7_9 ac_int (by decide +kernel) (by decide +kernel) dX7_init_41 ?_
  rw [sω7]
  refine z_nm (fun ω8 hω8 => ?_)
  have sω8 : ω8.2 = m + 75 := by rw [hω8]; show _ + 1 + _ = _; omega
  have n1_ω8 := n1_ω7.kp (ω2 := ω8) (fun b h1 h2 => by rw [hω8]; exact zM_n (by omega))
  have n10_ω8 := z_at hω8 (zM_n' (by omega) n10_ω7)
  have n11_ω8 := n11_ω7.kp (ω2 := ω8) (fun b h1 h2 => by rw [hω8]; exact zM_n (by omega))
  have m_ω8 := z_at hω8 (zM_n' (by omega) m_ω7)
  have kω8 : ∀ b : Nat, b < m → ω8.1 b = ω.1 b := fun b hb => by rw [hω8]; exact (zM_n (by omega)).trans (kω7 b hb)
  clear n1_ω6 n10_ω6 m_ω6 sω6 hω6 kω6 n11_ω6
  have n53_ω8 : zMx X ω8 (m + 53) 21 72 (fun _ _ => 0) := zMx.of hω8 sω7
  refine p_X7_21 (pc := 45) C N m_ω8 (Nat.le_of_ble_eq_true rfl) dX7_init_45 ?_
  refine z_nm (fun ω9 hω9 => ?_)
  have sω9 : ω9.2 = m + 75 := by rw [hω9]; exact sω8
  have n1_ω9 := n1_ω8.kp (ω2 := ω9) (fun b h1 h2 => by rw [hω9]; exact zU_n (by omega))
  have n10_ω9 := z_at hω9 (zU_n' (by omega) n10_ω8)
  have n11_ω9 := n11_ω8.kp (ω2 := ω9) (fun b h1 h2 => by rw [hω9]; exact zU_n (by omega))
  have n53_ω9 := n53_ω8.kp (ω2 := ω9) (fun b h1 h2 => by rw [hω9]; exact zU_n (by omega))
  have m_ω9 := z_at hω9 (zU_s _ _ _)
  have kω9 : ∀ b : Nat, b < m → ω9.1 b = ω.1 b := fun b hb => by rw [hω9]; exact (zU_n (by omega)).trans (kω8 b hb)
  clear n1_ω7 n10_ω7 n11_ω7 m_ω7 sω7 hω7 kω7
  refine z_aload_n (i := 0) (pc := 48) C rfl rfl dX7_init_48 ?_
  refine z_bipush (pc := 49) C (by decide +kernel) dX7_init_49 ?_
  refine z_newI (pc := 51) C (N := 21) rfl (Nat.le_of_ble_eq_true rfl) ac_int (by decide +kernel) (by decide +kernel) dX7_init_51 ?_
  rw [sω9]
  refine z_nm (fun ω10 hω10 => ?_)
  have sω10 : ω10.2 = m + 76 := by rw [hω10]; show _ + 1 = _; omega
  have n1_ω10 := n1_ω9.kp (ω2 := ω10) (fun b h1 h2 => by rw [hω10]; exact zN_n (by omega))
  have n10_ω10 := z_at hω10 (zN_n' (by omega) n10_ω9)
  have n11_ω10 := n11_ω9.kp (ω2 := ω10) (fun b h1 h2 => by rw [hω10]; exact zN_n (by omega))
  have n53_ω10 := n53_ω9.kp (ω2 := ω10) (fun b h1 h2 => by rw [hω10]; exact zN_n (by omega))
  have m_ω10 := z_at hω10 (zN_n' (by omega) m_ω9)
  have kω10 : ∀ b : Nat, b < m → ω10.1 b = ω.1 b := fun b hb => by rw [hω10]; exact (zN_n (by omega)).trans (kω9 b hb)
  clear n1_ω8 n10_ω8 n11_ω8 m_ω8 sω8 hω8 kω8 n53_ω8
  have n75_ω10 : ω10.1 (m + 75) = some (zAI X (21) (fun _ => 0)) := by rw [hω10, ← sω9]; exact zN_s _ _
  refine p_X7_24 (pc := 53) C N m_ω10 (Nat.le_of_ble_eq_true rfl) dX7_init_53 ?_
  refine z_nm (fun ω11 hω11 => ?_)
  have sω11 : ω11.2 = m + 76 := by rw [hω11]; exact sω10
  have n1_ω11 := n1_ω10.kp (ω2 := ω11) (fun b h1 h2 => by rw [hω11]; exact zU_n (by omega))
  have n10_ω11 := z_at hω11 (zU_n' (by omega) n10_ω10)
  have n11_ω11 := n11_ω10.kp (ω2 := ω11) (fun b h1 h2 => by rw [hω11]; exact zU_n (by omega))
  have n53_ω11 := n53_ω10.kp (ω2 := ω11) (fun b h1 h2 => by rw [hω11]; exact zU_n (by omega))
  have n75_ω11 := z_at hω11 (zU_n' (by omega) n75_ω10)
  have m_ω11 := z_at hω11 (zU_s _ _ _)
  have kω11 : ∀ b : Nat, b < m → ω11.1 b = ω.1 b := fun b hb => by rw [hω11]; exact (zU_n (by omega)).trans (kω10 b hb)
  clear n1_ω9 n10_ω9 n11_ω9 n53_ω9 m_ω9 sω9 hω9 kω9
  refine z_aload_n (i := 0) (pc := 56) C rfl rfl dX7_init_56 ?_
  refine z_bipush (pc := 57) C (by decide +kernel) dX7_init_57 ?_
  refine p_X7_27 (pc := 59) C m_ω11 (Nat.le_of_ble_eq_true rfl) dX7_init_59 ?_
  refine z_nm (fun ω12 hω12 => ?_)
  have sω12 : ω12.2 = m + 76 := by rw [hω12]; exact sω11
  have n1_ω12 := n1_ω11.kp (ω2 := ω12) (fun b h1 h2 => by rw [hω12]; exact zU_n (by omega))
  have n10_ω12 := z_at hω12 (zU_n' (by omega) n10_ω11)
  have n11_ω12 := n11_ω11.kp (ω2 := ω12) (fun b h1 h2 => by rw [hω12]; exact zU_n (by omega))
  have n53_ω12 := n53_ω11.kp (ω2 := ω12) (fun b h1 h2 => by rw [hω12]; exact zU_n (by omega))
  have n75_ω12 := z_at hω12 (zU_n' (by omega) n75_ω11)
  have m_ω12 := z_at hω12 (zU_s _ _ _)
  have kω12 : ∀ b : Nat, b < m → ω12.1 b = ω.1 b := fun b hb => by rw [hω12]; exact (zU_n (by omega)).trans (kω11 b hb)
  clear n1_ω10 n10_ω10 n11_ω10 n53_ω10 m_ω10 sω10 hω10 kω10 n75_ω10
  refine z_aload_n (i := 0) (pc := 62) C rfl rfl dX7_init_62 ?_
  refine z_bipush (pc := 63) C (by decide +kernel) dX7_init_63 ?_
  refine z_newI (pc := 65) C (N := 72) rfl (Nat.le_of_ble_eq_true rfl) ac_int (by decide +kernel) (by decide +kernel) dX7_init_65 ?_
  rw [sω12]
  refine z_nm (fun ω13 hω13 => ?_)
  have sω13 : ω13.2 = m + 77 := by rw [hω13]; show _ + 1 = _; omega
  have n1_ω13 := n1_ω12.kp (ω2 := ω13) (fun b h1 h2 => by rw [hω13]; exact zN_n (by omega))
  have n10_ω13 := z_at hω13 (zN_n' (by omega) n10_ω12)
  have n11_ω13 := n11_ω12.kp (ω2 := ω13) (fun b h1 h2 => by rw [hω13]; exact zN_n (by omega))
  have n53_ω13 := n53_ω12.kp (ω2 := ω13) (fun b h1 h2 => by rw [hω13]; exact zN_n (by omega))
  have n75_ω13 := z_at hω13 (zN_n' (by omega) n75_ω12)
  have m_ω13 := z_at hω13 (zN_n' (by omega) m_ω12)
  have kω13 : ∀ b : Nat, b < m → ω13.1 b = ω.1 b := fun b hb => by rw [hω13]; exact (zN_n (by omega)).trans (kω12 b hb)
  clear n1_ω11 n10_ω11 n11_ω11 n53_ω11 n75_ω11 m_ω11 sω11 hω11 kω11
  have n76_ω13 : ω13.1 (m + 76) = some (zAI X (72) (fun _ => 0)) := by rw [hω13, ← sω12]; exact zN_s _ _
  refine p_X7_31 (pc := 67) C N m_ω13 (Nat.le_of_ble_eq_true rfl) dX7_init_67 ?_
  refine z_nm (fun ω14 hω14 => ?_)
  have sω14 : ω14.2 = m + 77 := by rw [hω14]; exact sω13
  have n1_ω14 := n1_ω13.kp (ω2 := ω14) (fun b h1 h2 => by rw [hω14]; exact zU_n (by omega))
  have n10_ω14 := z_at hω14 (zU_n' (by omega) n10_ω13)
  have n11_ω14 := n11_ω13.kp (ω2 := ω14) (fun b h1 h2 => by rw [hω14]; exact zU_n (by omega))
  have n53_ω14 := n53_ω13.kp (ω2 := ω14) (fun b h1 h2 => by rw [hω14]; exact zU_n (by omega))
  have n75_ω14 := z_at hω14 (zU_n' (by omega) n75_ω13)
  have n76_ω14 := z_at hω14 (zU_n' (by omega) n76_ω13)
  have m_ω14 := z_at hω14 (zU_s _ _ _)
  have kω14 : ∀ b : Nat, b < m → ω14.1 b = ω.1 b := fun b hb => by rw [hω14]; exact (zU_n (by omega)).trans (kω13 b hb)
  clear n1_ω12 n10_ω12 n11_ω12 n53_ω12 n75_ω12 m_ω12 sω12 hω12 kω12
  refine z_aload_n (i := 0) (pc := 70) C rfl rfl dX7_init_70 ?_
  refine z_sipush (pc := 71) C (by decide +kernel) dX7_init_71 ?_
  refine z_bipush (pc := 74) C (by decide +kernel) dX7_init_74 ?_
  refine z_multi (pc := 76) C (N := 901) (K := 72) rfl (Nat.le_of_ble_eq_true rfl) rfl (Nat.le_of_ble_eq_true rfl) cl_X7_9 ac_int (by decide +kernel) (by decide +kernel) dX7_init_76 ?_
  rw [sω14]
  refine z_nm (fun ω15 hω15 => ?_)
  have sω15 : ω15.2 = m + 979 := by rw [hω15]; show _ + 1 + _ = _; omega
  have n1_ω15 := n1_ω14.kp (ω2 := ω15) (fun b h1 h2 => by rw [hω15]; exact zM_n (by omega))
  have n10_ω15 := z_at hω15 (zM_n' (by omega) n10_ω14)
  have n11_ω15 := n11_ω14.kp (ω2 := ω15) (fun b h1 h2 => by rw [hω15]; exact zM_n (by omega))
  have n53_ω15 := n53_ω14.kp (ω2 := ω15) (fun b h1 h2 => by rw [hω15]; exact zM_n (by omega))
  have n75_ω15 := z_at hω15 (zM_n' (by omega) n75_ω14)
  have n76_ω15 := z_at hω15 (zM_n' (by omega) n76_ω14)
  have m_ω15 := z_at hω15 (zM_n' (by omega) m_ω14)
  have kω15 : ∀ b : Nat, b < m → ω15.1 b = ω.1 b := fun b hb => by rw [hω15]; exact (zM_n (by omega)).trans (kω14 b hb)
  clear n1_ω13 n10_ω13 n11_ω13 n53_ω13 n75_ω13 m_ω13 sω13 hω13 kω13 n76_ω13
  have n77_ω15 : zMx X ω15 (m + 77) 901 72 (fun _ _ => 0) := zMx.of hω15 sω14
  refine p_X7_34 (pc := 80) C N m_ω15 (Nat.le_of_ble_eq_true rfl) dX7_init_80 ?_
  refine z_nm (fun ω16 hω16 => ?_)
  have sω16 : ω16.2 = m + 979 := by rw [hω16]; exact sω15
  have n1_ω16 := n1_ω15.kp (ω2 := ω16) (fun b h1 h2 => by rw [hω16]; exact zU_n (by omega))
  have n10_ω16 := z_at hω16 (zU_n' (by omega) n10_ω15)
  have n11_ω16 := n11_ω15.kp (ω2 := ω16) (fun b h1 h2 => by rw [hω16]; exact zU_n (by omega))
  have n53_ω16 := n53_ω15.kp (ω2 := ω16) (fun b h1 h2 => by rw [hω16]; exact zU_n (by omega))
  have n75_ω16 := z_at hω16 (zU_n' (by omega) n75_ω15)
  have n76_ω16 := z_at hω16 (zU_n' (by omega) n76_ω15)
  have n77_ω16 := n77_ω15.kp (ω2 := ω16) (fun b h1 h2 => by rw [hω16]; exact zU_n (by omega))
  have m_ω16 := z_at hω16 (zU_s _ _ _)
  have kω16 : ∀ b : Nat, b < m → ω16.1 b = ω.1 b := fun b hb => by rw [hω16]; exact (zU_n (by omega)).trans (kω15 b hb)
  clear n1_ω14 n10_ω14 n11_ω14 n53_ω14 n75_ω14 n76_ω14 m_ω14 sω14 hω14 kω14
  refine z_aload_n (i := 0) (pc := 83) C rfl rfl dX7_init_83 ?_
  refine z_sipush (pc := 84) C (by decide +kernel) dX7_init_84 ?_
  refine z_bipush (pc := 87) C (by decide +kernel) dX7_init_87 ?_
  refine z_multi (pc := 89) C (N := 901) (K := 72) rfl (Nat.le_of_ble_eq_true rfl) rfl (Nat.le_of_ble_eq_true rfl) cl_X7_9 ac_int (by decide +kernel) (by decide +kernel) dX7_init_89 ?_
  rw [sω16]
  refine z_nm (fun ω17 hω17 => ?_)
  have sω17 : ω17.2 = m + 1881 := by rw [hω17]; show _ + 1 + _ = _; omega
  have n1_ω17 := n1_ω16.kp (ω2 := ω17) (fun b h1 h2 => by rw [hω17]; exact zM_n (by omega))
  have n10_ω17 := z_at hω17 (zM_n' (by omega) n10_ω16)
  have n11_ω17 := n11_ω16.kp (ω2 := ω17) (fun b h1 h2 => by rw [hω17]; exact zM_n (by omega))
  have n53_ω17 := n53_ω16.kp (ω2 := ω17) (fun b h1 h2 => by rw [hω17]; exact zM_n (by omega))
  have n75_ω17 := z_at hω17 (zM_n' (by omega) n75_ω16)
  have n76_ω17 := z_at hω17 (zM_n' (by omega) n76_ω16)
  have n77_ω17 := n77_ω16.kp (ω2 := ω17) (fun b h1 h2 => by rw [hω17]; exact zM_n (by omega))
  have m_ω17 := z_at hω17 (zM_n' (by omega) m_ω16)
  have kω17 : ∀ b : Nat, b < m → ω17.1 b = ω.1 b := fun b hb => by rw [hω17]; exact (zM_n (by omega)).trans (kω16 b hb)
  clear n1_ω15 n10_ω15 n11_ω15 n53_ω15 n75_ω15 n76_ω15 m_ω15 sω15 hω15 kω15 n77_ω15
  have n979_ω17 : zMx X ω17 (m + 979) 901 72 (fun _ _ => 0) := zMx.of hω17 sω16
  refine p_X7_37 (pc := 93) C N m_ω17 (Nat.le_of_ble_eq_true rfl) dX7_init_93 ?_
  refine z_nm (fun ω18 hω18 => ?_)
  have sω18 : ω18.2 = m + 1881 := by rw [hω18]; exact sω17
  have n1_ω18 := n1_ω17.kp (ω2 := ω18) (fun b h1 h2 => by rw [hω18]; exact zU_n (by omega))
  have n10_ω18 := z_at hω18 (zU_n' (by omega) n10_ω17)
  have n11_ω18 := n11_ω17.kp (ω2 := ω18) (fun b h1 h2 => by rw [hω18]; exact zU_n (by omega))
  have n53_ω18 := n53_ω17.kp (ω2 := ω18) (fun b h1 h2 => by rw [hω18]; exact zU_n (by omega))
  have n75_ω18 := z_at hω18 (zU_n' (by omega) n75_ω17)
  have n76_ω18 := z_at hω18 (zU_n' (by omega) n76_ω17)
  have n77_ω18 := n77_ω17.kp (ω2 := ω18) (fun b h1 h2 => by rw [hω18]; exact zU_n (by omega))
  have n979_ω18 := n979_ω17.kp (ω2 := ω18) (fun b h1 h2 => by rw [hω18]; exact zU_n (by omega))
  have m_ω18 := z_at hω18 (zU_s _ _ _)
  have kω18 : ∀ b : Nat, b < m → ω18.1 b = ω.1 b := fun b hb => by rw [hω18]; exact (zU_n (by omega)).trans (kω17 b hb)
  clear n1_ω16 n10_ω16 n11_ω16 n53_ω16 n75_ω16 n76_ω16 n77_ω16 m_ω16 sω16 hω16 kω16
  refine z_aload_n (i := 0) (pc := 96) C rfl rfl dX7_init_96 ?_
  refine z_bipush (pc := 97) C (by decide +kernel) dX7_init_97 ?_
  refine z_bipush (pc := 99) C (by decide +kernel) dX7_init_99 ?_
  refine z_multi (pc := 101) C (N := 41) (K := 72) rfl (Nat.le_of_ble_eq_true rfl) rfl (Nat.le_of_ble_eq_true rfl) cl_X7_9 ac_int (by decide +kernel) (by decide +kernel) dX7_init_101 ?_
  rw [sω18]
  refine z_nm (fun ω19 hω19 => ?_)
  have sω19 : ω19.2 = m + 1923 := by rw [hω19]; show _ + 1 + _ = _; omega
  have n1_ω19 := n1_ω18.kp (ω2 := ω19) (fun b h1 h2 => by rw [hω19]; exact zM_n (by omega))
  have n10_ω19 := z_at hω19 (zM_n' (by omega) n10_ω18)
  have n11_ω19 := n11_ω18.kp (ω2 := ω19) (fun b h1 h2 => by rw [hω19]; exact zM_n (by omega))
  have n53_ω19 := n53_ω18.kp (ω2 := ω19) (fun b h1 h2 => by rw [hω19]; exact zM_n (by omega))
  have n75_ω19 := z_at hω19 (zM_n' (by omega) n75_ω18)
  have n76_ω19 := z_at hω19 (zM_n' (by omega) n76_ω18)
  have n77_ω19 := n77_ω18.kp (ω2 := ω19) (fun b h1 h2 => by rw [hω19]; exact zM_n (by omega))
  have n979_ω19 := n979_ω18.kp (ω2 := ω19) (fun b h1 h2 => by rw [hω19]; exact zM_n (by omega))
  have m_ω19 := z_at hω19 (zM_n' (by omega) m_ω18)
  have kω19 : ∀ b : Nat, b < m → ω19.1 b = ω.1 b := fun b hb => by rw [hω19]; exact (zM_n (by omega)).trans (kω18 b hb)
  clear n1_ω17 n10_ω17 n11_ω17 n53_ω17 n75_ω17 n76_ω17 n77_ω17 m_ω17 sω17 hω17 kω17 n979_ω17
  have n1881_ω19 : zMx X ω19 (m + 1881) 41 72 (fun _ _ => 0) := zMx.of hω19 sω18
  refine p_X7_40 (pc := 105) C N m_ω19 (Nat.le_of_ble_eq_true rfl) dX7_init_105 ?_
  refine z_nm (fun ω20 hω20 => ?_)
  have sω20 : ω20.2 = m + 1923 := by rw [hω20]; exact sω19
  have n1_ω20 := n1_ω19.kp (ω2 := ω20) (fun b h1 h2 => by rw [hω20]; exact zU_n (by omega))
  have n10_ω20 := z_at hω20 (zU_n' (by omega) n10_ω19)
  have n11_ω20 := n11_ω19.kp (ω2 := ω20) (fun b h1 h2 => by rw [hω20]; exact zU_n (by omega))
  have n53_ω20 := n53_ω19.kp (ω2 := ω20) (fun b h1 h2 => by rw [hω20]; exact zU_n (by omega))
  have n75_ω20 := z_at hω20 (zU_n' (by omega) n75_ω19)
  have n76_ω20 := z_at hω20 (zU_n' (by omega) n76_ω19)
  have n77_ω20 := n77_ω19.kp (ω2 := ω20) (fun b h1 h2 => by rw [hω20]; exact zU_n (by omega))
  have n979_ω20 := n979_ω19.kp (ω2 := ω20) (fun b h1 h2 => by rw [hω20]; exact zU_n (by omega))
  have n1881_ω20 := n1881_ω19.kp (ω2 := ω20) (fun b h1 h2 => by rw [hω20]; exact zU_n (by omega))
  have m_ω20 := z_at hω20 (zU_s _ _ _)
  have kω20 : ∀ b : Nat, b < m → ω20.1 b = ω.1 b := fun b hb => by rw [hω20]; exact (zU_n (by omega)).trans (kω19 b hb)
  clear n1_ω18 n10_ω18 n11_ω18 n53_ω18 n75_ω18 n76_ω18 n77_ω18 n979_ω18 m_ω18 sω18 hω18 kω18
  refine z_aload_n (i := 0) (pc := 108) C rfl rfl dX7_init_108 ?_
  refine z_bipush (pc := 109) C (by decide +kernel) dX7_init_109 ?_
  refine z_bipush (pc := 111) C (by decide +kernel) dX7_init_111 ?_
  refine z_multi (pc := 113) C (N := 21) (K := 72) rfl (Nat.le_of_ble_eq_true rfl) rfl (Nat.le_of_ble_eq_true rfl) cl_X7_9 ac_int (by decide +kernel) (by decide +kernel) dX7_init_113 ?_
  rw [sω20]
  refine z_nm (fun ω21 hω21 => ?_)
  have sω21 : ω21.2 = m + 1945 := by rw [hω21]; show _ + 1 + _ = _; omega
  have n1_ω21 := n1_ω20.kp (ω2 := ω21) (fun b h1 h2 => by rw [hω21]; exact zM_n (by omega))
  have n10_ω21 := z_at hω21 (zM_n' (by omega) n10_ω20)
  have n11_ω21 := n11_ω20.kp (ω2 := ω21) (fun b h1 h2 => by rw [hω21]; exact zM_n (by omega))
  have n53_ω21 := n53_ω20.kp (ω2 := ω21) (fun b h1 h2 => by rw [hω21]; exact zM_n (by omega))
  have n75_ω21 := z_at hω21 (zM_n' (by omega) n75_ω20)
  have n76_ω21 := z_at hω21 (zM_n' (by omega) n76_ω20)
  have n77_ω21 := n77_ω20.kp (ω2 := ω21) (fun b h1 h2 => by rw [hω21]; exact zM_n (by omega))
  have n979_ω21 := n979_ω20.kp (ω2 := ω21) (fun b h1 h2 => by rw [hω21]; exact zM_n (by omega))
  have n1881_ω21 := n1881_ω20.kp (ω2 := ω21) (fun b h1 h2 => by rw [hω21]; exact zM_n (by omega))
  have m_ω21 := z_at hω21 (zM_n' (by omega) m_ω20)
  have kω21 : ∀ b : Nat, b < m → ω21.1 b = ω.1 b := fun b hb => by rw [hω21]; exact (zM_n (by omega)).trans (kω20 b hb)
  clear n1_ω19 n10_ω19 n11_ω19 n53_ω19 n75_ω19 n76_ω19 n77_ω19 n979_ω19 m_ω19 sω19 hω19 kω19 n1881_ω19
  have n1923_ω21 : zMx X ω21 (m + 1923) 21 72 (fun _ _ => 0) := zMx.of hω21 sω20
  refine p_X7_43 (pc := 117) C N m_ω21 (Nat.le_of_ble_eq_true rfl) dX7_init_117 ?_
  refine z_nm (fun ω22 hω22 => ?_)
  have sω22 : ω22.2 = m + 1945 := by rw [hω22]; exact sω21
  have n1_ω22 := n1_ω21.kp (ω2 := ω22) (fun b h1 h2 => by rw [hω22]; exact zU_n (by omega))
  have n10_ω22 := z_at hω22 (zU_n' (by omega) n10_ω21)
  have n11_ω22 := n11_ω21.kp (ω2 := ω22) (fun b h1 h2 => by rw [hω22]; exact zU_n (by omega))
  have n53_ω22 := n53_ω21.kp (ω2 := ω22) (fun b h1 h2 => by rw [hω22]; exact zU_n (by omega))
  have n75_ω22 := z_at hω22 (zU_n' (by omega) n75_ω21)
  have n76_ω22 := z_at hω22 (zU_n' (by omega) n76_ω21)
  have n77_ω22 := n77_ω21.kp (ω2 := ω22) (fun b h1 h2 => by rw [hω22]; exact zU_n (by omega))
  have n979_ω22 := n979_ω21.kp (ω2 := ω22) (fun b h1 h2 => by rw [hω22]; exact zU_n (by omega))
  have n1881_ω22 := n1881_ω21.kp (ω2 := ω22) (fun b h1 h2 => by rw [hω22]; exact zU_n (by omega))
  have n1923_ω22 := n1923_ω21.kp (ω2 := ω22) (fun b h1 h2 => by rw [hω22]; exact zU_n (by omega))
  have m_ω22 := z_at hω22 (zU_s _ _ _)
  have kω22 : ∀ b : Nat, b < m → ω22.1 b = ω.1 b := fun b hb => by rw [hω22]; exact (zU_n (by omega)).trans (kω21 b hb)
  clear n1_ω20 n10_ω20 n11_ω20 n53_ω20 n75_ω20 n76_ω20 n77_ω20 n979_ω20 n1881_ω20 m_ω20 sω20 hω20 kω20
  refine z_aload_n (i := 0) (pc := 120) C rfl rfl dX7_init_120 ?_
  refine z_bipush (pc := 121) C (by decide +kernel) dX7_init_121 ?_
  refine z_newI (pc := 123) C (N := 72) rfl (Nat.le_of_ble_eq_true rfl) ac_int (by decide +kernel) (by decide +kernel) dX7_init_123 ?_
  rw [sω22]
  refine z_nm (fun ω23 hω23 => ?_)
  have sω23 : ω23.2 = m + 1946 := by rw [hω23]; show _ + 1 = _; omega
  have n1_ω23 := n1_ω22.kp (ω2 := ω23) (fun b h1 h2 => by rw [hω23]; exact zN_n (by omega))
  have n10_ω23 := z_at hω23 (zN_n' (by omega) n10_ω22)
  have n11_ω23 := n11_ω22.kp (ω2 := ω23) (fun b h1 h2 => by rw [hω23]; exact zN_n (by omega))
  have n53_ω23 := n53_ω22.kp (ω2 := ω23) (fun b h1 h2 => by rw [hω23]; exact zN_n (by omega))
  have n75_ω23 := z_at hω23 (zN_n' (by omega) n75_ω22)
  have n76_ω23 := z_at hω23 (zN_n' (by omega) n76_ω22)
  have n77_ω23 := n77_ω22.kp (ω2 := ω23) (fun b h1 h2 => by rw [hω23]; exact zN_n (by omega))
  have n979_ω23 := n979_ω22.kp (ω2 := ω23) (fun b h1 h2 => by rw [hω23]; exact zN_n (by omega))
  have n1881_ω23 := n1881_ω22.kp (ω2 := ω23) (fun b h1 h2 => by rw [hω23]; exact zN_n (by omega))
  have n1923_ω23 := n1923_ω22.kp (ω2 := ω23) (fun b h1 h2 => by rw [hω23]; exact zN_n (by omega))
  have m_ω23 := z_at hω23 (zN_n' (by omega) m_ω22)
  have kω23 : ∀ b : Nat, b < m → ω23.1 b = ω.1 b := fun b hb => by rw [hω23]; exact (zN_n (by omega)).trans (kω22 b hb)
  clear n1_ω21 n10_ω21 n11_ω21 n53_ω21 n75_ω21 n76_ω21 n77_ω21 n979_ω21 n1881_ω21 m_ω21 sω21 hω21 kω21 n1923_ω21
  have n1945_ω23 : ω23.1 (m + 1945) = some (zAI X (72) (fun _ => 0)) := by rw [hω23, ← sω22]; exact zN_s _ _
  refine p_X7_46 (pc := 125) C N m_ω23 (Nat.le_of_ble_eq_true rfl) dX7_init_125 ?_
  refine z_nm (fun ω24 hω24 => ?_)
  have sω24 : ω24.2 = m + 1946 := by rw [hω24]; exact sω23
  have n1_ω24 := n1_ω23.kp (ω2 := ω24) (fun b h1 h2 => by rw [hω24]; exact zU_n (by omega))
  have n10_ω24 := z_at hω24 (zU_n' (by omega) n10_ω23)
  have n11_ω24 := n11_ω23.kp (ω2 := ω24) (fun b h1 h2 => by rw [hω24]; exact zU_n (by omega))
  have n53_ω24 := n53_ω23.kp (ω2 := ω24) (fun b h1 h2 => by rw [hω24]; exact zU_n (by omega))
  have n75_ω24 := z_at hω24 (zU_n' (by omega) n75_ω23)
  have n76_ω24 := z_at hω24 (zU_n' (by omega) n76_ω23)
  have n77_ω24 := n77_ω23.kp (ω2 := ω24) (fun b h1 h2 => by rw [hω24]; exact zU_n (by omega))
  have n979_ω24 := n979_ω23.kp (ω2 := ω24) (fun b h1 h2 => by rw [hω24]; exact zU_n (by omega))
  have n1881_ω24 := n1881_ω23.kp (ω2 := ω24) (fun b h1 h2 => by rw [hω24]; exact zU_n (by omega))
  have n1923_ω24 := n1923_ω23.kp (ω2 := ω24) (fun b h1 h2 => by rw [hω24]; exact zU_n (by omega))
  have n1945_ω24 := z_at hω24 (zU_n' (by omega) n1945_ω23)
  have m_ω24 := z_at hω24 (zU_s _ _ _)
  have kω24 : ∀ b : Nat, b < m → ω24.1 b = ω.1 b := fun b hb => by rw [hω24]; exact (zU_n (by omega)).trans (kω23 b hb)
  clear n1_ω22 n10_ω22 n11_ω22 n53_ω22 n75_ω22 n76_ω22 n77_ω22 n979_ω22 n1881_ω22 n1923_ω22 m_ω22 sω22 hω22 kω22
  refine z_aload_n (i := 0) (pc := 128) C rfl rfl dX7_init_128 ?_
  refine z_bipush (pc := 129) C (by decide +kernel) dX7_init_129 ?_
  refine z_newI (pc := 131) C (N := 72) rfl (Nat.le_of_ble_eq_true rfl) ac_int (by decide +kernel) (by decide +kernel) dX7_init_131 ?_
  rw [sω24]
  refine z_nm (fun ω25 hω25 => ?_)
  have sω25 : ω25.2 = m + 1947 := by rw [hω25]; show _ + 1 = _; omega
  have n1_ω25 := n1_ω24.kp (ω2 := ω25) (fun b h1 h2 => by rw [hω25]; exact zN_n (by omega))
  have n10_ω25 := z_at hω25 (zN_n' (by omega) n10_ω24)
  have n11_ω25 := n11_ω24.kp (ω2 := ω25) (fun b h1 h2 => by rw [hω25]; exact zN_n (by omega))
  have n53_ω25 := n53_ω24.kp (ω2 := ω25) (fun b h1 h2 => by rw [hω25]; exact zN_n (by omega))
  have n75_ω25 := z_at hω25 (zN_n' (by omega) n75_ω24)
  have n76_ω25 := z_at hω25 (zN_n' (by omega) n76_ω24)
  have n77_ω25 := n77_ω24.kp (ω2 := ω25) (fun b h1 h2 => by rw [hω25]; exact zN_n (by omega))
  have n979_ω25 := n979_ω24.kp (ω2 := ω25) (fun b h1 h2 => by rw [hω25]; exact zN_n (by omega))
  have n1881_ω25 := n1881_ω24.kp (ω2 := ω25) (fun b h1 h2 => by rw [hω25]; exact zN_n (by omega))
  have n1923_ω25 := n1923_ω24.kp (ω2 := ω25) (fun b h1 h2 => by rw [hω25]; exact zN_n (by omega))
  have n1945_ω25 := z_at hω25 (zN_n' (by omega) n1945_ω24)
  have m_ω25 := z_at hω25 (zN_n' (by omega) m_ω24)
  have kω25 : ∀ b : Nat, b < m → ω25.1 b = ω.1 b := fun b hb => by rw [hω25]; exact (zN_n (by omega)).trans (kω24 b hb)
  clear n1_ω23 n10_ω23 n11_ω23 n53_ω23 n75_ω23 n76_ω23 n77_ω23 n979_ω23 n1881_ω23 n1923_ω23 m_ω23 sω23 hω23 kω23 n1945_ω23
  have n1946_ω25 : ω25.1 (m + 1946) = some (zAI X (72) (fun _ => 0)) := by rw [hω25, ← sω24]; exact zN_s _ _
  refine p_X7_49 (pc := 133) C N m_ω25 (Nat.le_of_ble_eq_true rfl) dX7_init_133 ?_
  refine z_nm (fun ω26 hω26 => ?_)
  have sω26 : ω26.2 = m + 1947 := by rw [hω26]; exact sω25
  have n1_ω26 := n1_ω25.kp (ω2 := ω26) (fun b h1 h2 => by rw [hω26]; exact zU_n (by omega))
  have n10_ω26 := z_at hω26 (zU_n' (by omega) n10_ω25)
  have n11_ω26 := n11_ω25.kp (ω2 := ω26) (fun b h1 h2 => by rw [hω26]; exact zU_n (by omega))
  have n53_ω26 := n53_ω25.kp (ω2 := ω26) (fun b h1 h2 => by rw [hω26]; exact zU_n (by omega))
  have n75_ω26 := z_at hω26 (zU_n' (by omega) n75_ω25)
  have n76_ω26 := z_at hω26 (zU_n' (by omega) n76_ω25)
  have n77_ω26 := n77_ω25.kp (ω2 := ω26) (fun b h1 h2 => by rw [hω26]; exact zU_n (by omega))
  have n979_ω26 := n979_ω25.kp (ω2 := ω26) (fun b h1 h2 => by rw [hω26]; exact zU_n (by omega))
  have n1881_ω26 := n1881_ω25.kp (ω2 := ω26) (fun b h1 h2 => by rw [hω26]; exact zU_n (by omega))
  have n1923_ω26 := n1923_ω25.kp (ω2 := ω26) (fun b h1 h2 => by rw [hω26]; exact zU_n (by omega))
  have n1945_ω26 := z_at hω26 (zU_n' (by omega) n1945_ω25)
  have n1946_ω26 := z_at hω26 (zU_n' (by omega) n1946_ω25)
  have m_ω26 := z_at hω26 (zU_s _ _ _)
  have kω26 : ∀ b : Nat, b < m → ω26.1 b = ω.1 b := fun b hb => by rw [hω26]; exact (zU_n (by omega)).trans (kω25 b hb)
  clear n1_ω24 n10_ω24 n11_ω24 n53_ω24 n75_ω24 n76_ω24 n77_ω24 n979_ω24 n1881_ω24 n1923_ω24 n1945_ω24 m_ω24 sω24 hω24 kω24
  refine z_aload_n (i := 0) (pc := 136) C rfl rfl dX7_init_136 ?_
  refine z_bipush (pc := 137) C (by decide +kernel) dX7_init_137 ?_
  refine z_bipush (pc := 139) C (by decide +kernel) dX7_init_139 ?_
  refine z_multi (pc := 141) C (N := 64) (K := 72) rfl (Nat.le_of_ble_eq_true rfl) rfl (Nat.le_of_ble_eq_true rfl) cl_X7_9 ac_int (by decide +kernel) (by decide +kernel) dX7_init_141 ?_
  rw [sω26]
  refine z_nm (fun ω27 hω27 => ?_)
  have sω27 : ω27.2 = m + 2012 := by rw [hω27]; show _ + 1 + _ = _; omega
  have n1_ω27 := n1_ω26.kp (ω2 := ω27) (fun b h1 h2 => by rw [hω27]; exact zM_n (by omega))
  have n10_ω27 := z_at hω27 (zM_n' (by omega) n10_ω26)
  have n11_ω27 := n11_ω26.kp (ω2 := ω27) (fun b h1 h2 => by rw [hω27]; exact zM_n (by omega))
  have n53_ω27 := n53_ω26.kp (ω2 := ω27) (fun b h1 h2 => by rw [hω27]; exact zM_n (by omega))
  have n75_ω27 := z_at hω27 (zM_n' (by omega) n75_ω26)
  have n76_ω27 := z_at hω27 (zM_n' (by omega) n76_ω26)
  have n77_ω27 := n77_ω26.kp (ω2 := ω27) (fun b h1 h2 => by rw [hω27]; exact zM_n (by omega))
  have n979_ω27 := n979_ω26.kp (ω2 := ω27) (fun b h1 h2 => by rw [hω27]; exact zM_n (by omega))
  have n1881_ω27 := n1881_ω26.kp (ω2 := ω27) (fun b h1 h2 => by rw [hω27]; exact zM_n (by omega))
  have n1923_ω27 := n1923_ω26.kp (ω2 := ω27) (fun b h1 h2 => by rw [hω27]; exact zM_n (by omega))
  have n1945_ω27 := z_at hω27 (zM_n' (by omega) n1945_ω26)
  have n1946_ω27 := z_at hω27 (zM_n' (by omega) n1946_ω26)
  have m_ω27 := z_at hω27 (zM_n' (by omega) m_ω26)
  have kω27 : ∀ b : Nat, b < m → ω27.1 b = ω.1 b := fun b hb => by rw [hω27]; exact (zM_n (by omega)).trans (kω26 b hb)
  clear n1_ω25 n10_ω25 n11_ω25 n53_ω25 n75_ω25 n76_ω25 n77_ω25 n979_ω25 n1881_ω25 n1923_ω25 n1945_ω25 m_ω25 sω25 hω25 kω25 n1946_ω25
  have n1947_ω27 : zMx X ω27 (m + 1947) 64 72 (fun _ _ => 0) := zMx.of hω27 sω26
  refine p_X7_52 (pc := 145) C N m_ω27 (Nat.le_of_ble_eq_true rfl) dX7_init_145 ?_
  refine z_nm (fun ω28 hω28 => ?_)
  have sω28 : ω28.2 = m + 2012 := by rw [hω28]; exact sω27
  have n1_ω28 := n1_ω27.kp (ω2 := ω28) (fun b h1 h2 => by rw [hω28]; exact zU_n (by omega))
  have n10_ω28 := z_at hω28 (zU_n' (by omega) n10_ω27)
  have n11_ω28 := n11_ω27.kp (ω2 := ω28) (fun b h1 h2 => by rw [hω28]; exact zU_n (by omega))
  have n53_ω28 := n53_ω27.kp (ω2 := ω28) (fun b h1 h2 => by rw [hω28]; exact zU_n (by omega))
  have n75_ω28 := z_at hω28 (zU_n' (by omega) n75_ω27)
  have n76_ω28 := z_at hω28 (zU_n' (by omega) n76_ω27)
  have n77_ω28 := n77_ω27.kp (ω2 := ω28) (fun b h1 h2 => by rw [hω28]; exact zU_n (by omega))
  have n979_ω28 := n979_ω27.kp (ω2 := ω28) (fun b h1 h2 => by rw [hω28]; exact zU_n (by omega))
  have n1881_ω28 := n1881_ω27.kp (ω2 := ω28) (fun b h1 h2 => by rw [hω28]; exact zU_n (by omega))
  have n1923_ω28 := n1923_ω27.kp (ω2 := ω28) (fun b h1 h2 => by rw [hω28]; exact zU_n (by omega))
  have n1945_ω28 := z_at hω28 (zU_n' (by omega) n1945_ω27)
  have n1946_ω28 := z_at hω28 (zU_n' (by omega) n1946_ω27)
  have n1947_ω28 := n1947_ω27.kp (ω2 := ω28) (fun b h1 h2 => by rw [hω28]; exact zU_n (by omega))
  have m_ω28 := z_at hω28 (zU_s _ _ _)
  have kω28 : ∀ b : Nat, b < m → ω28.1 b = ω.1 b := fun b hb => by rw [hω28]; exact (zU_n (by omega)).trans (kω27 b hb)
  clear n1_ω26 n10_ω26 n11_ω26 n53_ω26 n75_ω26 n76_ω26 n77_ω26 n979_ω26 n1881_ω26 n1923_ω26 n1945_ω26 n1946_ω26 m_ω26 sω26 hω26 kω26
  refine z_aload_n (i := 0) (pc := 148) C rfl rfl dX7_init_148 ?_
  refine z_bipush (pc := 149) C (by decide +kernel) dX7_init_149 ?_
  refine z_bipush (pc := 151) C (by decide +kernel) dX7_init_151 ?_
  refine z_multi (pc := 153) C (N := 64) (K := 72) rfl (Nat.le_of_ble_eq_true rfl) rfl (Nat.le_of_ble_eq_true rfl) cl_X7_9 ac_int (by decide +kernel) (by decide +kernel) dX7_init_153 ?_
  rw [sω28]
  refine z_nm (fun ω29 hω29 => ?_)
  have sω29 : ω29.2 = m + 2077 := by rw [hω29]; show _ + 1 + _ = _; omega
  have n1_ω29 := n1_ω28.kp (ω2 := ω29) (fun b h1 h2 => by rw [hω29]; exact zM_n (by omega))
  have n10_ω29 := z_at hω29 (zM_n' (by omega) n10_ω28)
  have n11_ω29 := n11_ω28.kp (ω2 := ω29) (fun b h1 h2 => by rw [hω29]; exact zM_n (by omega))
  have n53_ω29 := n53_ω28.kp (ω2 := ω29) (fun b h1 h2 => by rw [hω29]; exact zM_n (by omega))
  have n75_ω29 := z_at hω29 (zM_n' (by omega) n75_ω28)
  have n76_ω29 := z_at hω29 (zM_n' (by omega) n76_ω28)
  have n77_ω29 := n77_ω28.kp (ω2 := ω29) (fun b h1 h2 => by rw [hω29]; exact zM_n (by omega))
  have n979_ω29 := n979_ω28.kp (ω2 := ω29) (fun b h1 h2 => by rw [hω29]; exact zM_n (by omega))
  have n1881_ω29 := n1881_ω28.kp (ω2 := ω29) (fun b h1 h2 => by rw [hω29]; exact zM_n (by omega))
  have n1923_ω29 := n1923_ω28.kp (ω2 := ω29) (fun b h1 h2 => by rw [hω29]; exact zM_n (by omega))
  have n1945_ω29 := z_at hω29 (zM_n' (by omega) n1945_ω28)
  have n1946_ω29 := z_at hω29 (zM_n' (by omega) n1946_ω28)
  have n1947_ω29 := n1947_ω28.kp (ω2 := ω29) (fun b h1 h2 => by rw [hω29]; exact zM_n (by omega))
  have m_ω29 := z_at hω29 (zM_n' (by omega) m_ω28)
  have kω29 : ∀ b : Nat, b < m → ω29.1 b = ω.1 b := fun b hb => by rw [hω29]; exact (zM_n (by omega)).trans (kω28 b hb)
  clear n1_ω27 n10_ω27 n11_ω27 n53_ω27 n75_ω27 n76_ω27 n77_ω27 n979_ω27 n1881_ω27 n1923_ω27 n1945_ω27 n1946_ω27 m_ω27 sω27 hω27 kω27 n1947_ω27
  have n2012_ω29 : zMx X ω29 (m + 2012) 64 72 (fun _ _ => 0) := zMx.of hω29 sω28
  refine p_X7_55 (pc := 157) C N m_ω29 (Nat.le_of_ble_eq_true rfl) dX7_init_157 ?_
  refine z_nm (fun ω30 hω30 => ?_)
  have sω30 : ω30.2 = m + 2077 := by rw [hω30]; exact sω29
  have n1_ω30 := n1_ω29.kp (ω2 := ω30) (fun b h1 h2 => by rw [hω30]; exact zU_n (by omega))
  have n10_ω30 := z_at hω30 (zU_n' (by omega) n10_ω29)
  have n11_ω30 := n11_ω29.kp (ω2 := ω30) (fun b h1 h2 => by rw [hω30]; exact zU_n (by omega))
  have n53_ω30 := n53_ω29.kp (ω2 := ω30) (fun b h1 h2 => by rw [hω30]; exact zU_n (by omega))
  have n75_ω30 := z_at hω30 (zU_n' (by omega) n75_ω29)
  have n76_ω30 := z_at hω30 (zU_n' (by omega) n76_ω29)
  have n77_ω30 := n77_ω29.kp (ω2 := ω30) (fun b h1 h2 => by rw [hω30]; exact zU_n (by omega))
  have n979_ω30 := n979_ω29.kp (ω2 := ω30) (fun b h1 h2 => by rw [hω30]; exact zU_n (by omega))
  have n1881_ω30 := n1881_ω29.kp (ω2 := ω30) (fun b h1 h2 => by rw [hω30]; exact zU_n (by omega))
  have n1923_ω30 := n1923_ω29.kp (ω2 := ω30) (fun b h1 h2 => by rw [hω30]; exact zU_n (by omega))
  have n1945_ω30 := z_at hω30 (zU_n' (by omega) n1945_ω29)
  have n1946_ω30 := z_at hω30 (zU_n' (by omega) n1946_ω29)
  have n1947_ω30 := n1947_ω29.kp (ω2 := ω30) (fun b h1 h2 => by rw [hω30]; exact zU_n (by omega))
  have n2012_ω30 := n2012_ω29.kp (ω2 := ω30) (fun b h1 h2 => by rw [hω30]; exact zU_n (by omega))
  have m_ω30 := z_at hω30 (zU_s _ _ _)
  have kω30 : ∀ b : Nat, b < m → ω30.1 b = ω.1 b := fun b hb => by rw [hω30]; exact (zU_n (by omega)).trans (kω29 b hb)
  clear n1_ω28 n10_ω28 n11_ω28 n53_ω28 n75_ω28 n76_ω28 n77_ω28 n979_ω28 n1881_ω28 n1923_ω28 n1945_ω28 n1946_ω28 n1947_ω28 m_ω28 sω28 hω28 kω28
  refine z_aload_n (i := 0) (pc := 160) C rfl rfl dX7_init_160 ?_
  refine z_bipush (pc := 161) C (by decide +kernel) dX7_init_161 ?_
  refine z_newI (pc := 163) C (N := 72) rfl (Nat.le_of_ble_eq_true rfl) ac_int (by decide +kernel) (by decide +kernel) dX7_init_163 ?_
  rw [sω30]
  refine z_nm (fun ω31 hω31 => ?_)
  have sω31 : ω31.2 = m + 2078 := by rw [hω31]; show _ + 1 = _; omega
  have n1_ω31 := n1_ω30.kp (ω2 := ω31) (fun b h1 h2 => by rw [hω31]; exact zN_n (by omega))
  have n10_ω31 := z_at hω31 (zN_n' (by omega) n10_ω30)
  have n11_ω31 := n11_ω30.kp (ω2 := ω31) (fun b h1 h2 => by rw [hω31]; exact zN_n (by omega))
  have n53_ω31 := n53_ω30.kp (ω2 := ω31) (fun b h1 h2 => by rw [hω31]; exact zN_n (by omega))
  have n75_ω31 := z_at hω31 (zN_n' (by omega) n75_ω30)
  have n76_ω31 := z_at hω31 (zN_n' (by omega) n76_ω30)
  have n77_ω31 := n77_ω30.kp (ω2 := ω31) (fun b h1 h2 => by rw [hω31]; exact zN_n (by omega))
  have n979_ω31 := n979_ω30.kp (ω2 := ω31) (fun b h1 h2 => by rw [hω31]; exact zN_n (by omega))
  have n1881_ω31 := n1881_ω30.kp (ω2 := ω31) (fun b h1 h2 => by rw [hω31]; exact zN_n (by omega))
  have n1923_ω31 := n1923_ω30.kp (ω2 := ω31) (fun b h1 h2 => by rw [hω31]; exact zN_n (by omega))
  have n1945_ω31 := z_at hω31 (zN_n' (by omega) n1945_ω30)
  have n1946_ω31 := z_at hω31 (zN_n' (by omega) n1946_ω30)
  have n1947_ω31 := n1947_ω30.kp (ω2 := ω31) (fun b h1 h2 => by rw [hω31]; exact zN_n (by omega))
  have n2012_ω31 := n2012_ω30.kp (ω2 := ω31) (fun b h1 h2 => by rw [hω31]; exact zN_n (by omega))
  have m_ω31 := z_at hω31 (zN_n' (by omega) m_ω30)
  have kω31 : ∀ b : Nat, b < m → ω31.1 b = ω.1 b := fun b hb => by rw [hω31]; exact (zN_n (by omega)).trans (kω30 b hb)
  clear n1_ω29 n10_ω29 n11_ω29 n53_ω29 n75_ω29 n76_ω29 n77_ω29 n979_ω29 n1881_ω29 n1923_ω29 n1945_ω29 n1946_ω29 n1947_ω29 m_ω29 sω29 hω29 kω29 n2012_ω29
  have n2077_ω31 : ω31.1 (m + 2077) = some (zAI X (72) (fun _ => 0)) := by rw [hω31, ← sω30]; exact zN_s _ _
  refine p_X7_58 (pc := 165) C N m_ω31 (Nat.le_of_ble_eq_true rfl) dX7_init_165 ?_
  refine z_nm (fun ω32 hω32 => ?_)
  have sω32 : ω32.2 = m + 2078 := by rw [hω32]; exact sω31
  have n1_ω32 := n1_ω31.kp (ω2 := ω32) (fun b h1 h2 => by rw [hω32]; exact zU_n (by omega))
  have n10_ω32 := z_at hω32 (zU_n' (by omega) n10_ω31)
  have n11_ω32 := n11_ω31.kp (ω2 := ω32) (fun b h1 h2 => by rw [hω32]; exact zU_n (by omega))
  have n53_ω32 := n53_ω31.kp (ω2 := ω32) (fun b h1 h2 => by rw [hω32]; exact zU_n (by omega))
  have n75_ω32 := z_at hω32 (zU_n' (by omega) n75_ω31)
  have n76_ω32 := z_at hω32 (zU_n' (by omega) n76_ω31)
  have n77_ω32 := n77_ω31.kp (ω2 := ω32) (fun b h1 h2 => by rw [hω32]; exact zU_n (by omega))
  have n979_ω32 := n979_ω31.kp (ω2 := ω32) (fun b h1 h2 => by rw [hω32]; exact zU_n (by omega))
  have n1881_ω32 := n1881_ω31.kp (ω2 := ω32) (fun b h1 h2 => by rw [hω32]; exact zU_n (by omega))
  have n1923_ω32 := n1923_ω31.kp (ω2 := ω32) (fun b h1 h2 => by rw [hω32]; exact zU_n (by omega))
  have n1945_ω32 := z_at hω32 (zU_n' (by omega) n1945_ω31)
  have n1946_ω32 := z_at hω32 (zU_n' (by omega) n1946_ω31)
  have n1947_ω32 := n1947_ω31.kp (ω2 := ω32) (fun b h1 h2 => by rw [hω32]; exact zU_n (by omega))
  have n2012_ω32 := n2012_ω31.kp (ω2 := ω32) (fun b h1 h2 => by rw [hω32]; exact zU_n (by omega))
  have n2077_ω32 := z_at hω32 (zU_n' (by omega) n2077_ω31)
  have m_ω32 := z_at hω32 (zU_s _ _ _)
  have kω32 : ∀ b : Nat, b < m → ω32.1 b = ω.1 b := fun b hb => by rw [hω32]; exact (zU_n (by omega)).trans (kω31 b hb)
  clear n1_ω30 n10_ω30 n11_ω30 n53_ω30 n75_ω30 n76_ω30 n77_ω30 n979_ω30 n1881_ω30 n1923_ω30 n1945_ω30 n1946_ω30 n1947_ω30 n2012_ω30 m_ω30 sω30 hω30 kω30
  refine z_aload_n (i := 0) (pc := 168) C rfl rfl dX7_init_168 ?_
  refine z_bipush (pc := 169) C (by decide +kernel) dX7_init_169 ?_
  refine z_newI (pc := 171) C (N := 72) rfl (Nat.le_of_ble_eq_true rfl) ac_int (by decide +kernel) (by decide +kernel) dX7_init_171 ?_
  rw [sω32]
  refine z_nm (fun ω33 hω33 => ?_)
  have sω33 : ω33.2 = m + 2079 := by rw [hω33]; show _ + 1 = _; omega
  have n1_ω33 := n1_ω32.kp (ω2 := ω33) (fun b h1 h2 => by rw [hω33]; exact zN_n (by omega))
  have n10_ω33 := z_at hω33 (zN_n' (by omega) n10_ω32)
  have n11_ω33 := n11_ω32.kp (ω2 := ω33) (fun b h1 h2 => by rw [hω33]; exact zN_n (by omega))
  have n53_ω33 := n53_ω32.kp (ω2 := ω33) (fun b h1 h2 => by rw [hω33]; exact zN_n (by omega))
  have n75_ω33 := z_at hω33 (zN_n' (by omega) n75_ω32)
  have n76_ω33 := z_at hω33 (zN_n' (by omega) n76_ω32)
  have n77_ω33 := n77_ω32.kp (ω2 := ω33) (fun b h1 h2 => by rw [hω33]; exact zN_n (by omega))
  have n979_ω33 := n979_ω32.kp (ω2 := ω33) (fun b h1 h2 => by rw [hω33]; exact zN_n (by omega))
  have n1881_ω33 := n1881_ω32.kp (ω2 := ω33) (fun b h1 h2 => by rw [hω33]; exact zN_n (by omega))
  have n1923_ω33 := n1923_ω32.kp (ω2 := ω33) (fun b h1 h2 => by rw [hω33]; exact zN_n (by omega))
  have n1945_ω33 := z_at hω33 (zN_n' (by omega) n1945_ω32)
  have n1946_ω33 := z_at hω33 (zN_n' (by omega) n1946_ω32)
  have n1947_ω33 := n1947_ω32.kp (ω2 := ω33) (fun b h1 h2 => by rw [hω33]; exact zN_n (by omega))
  have n2012_ω33 := n2012_ω32.kp (ω2 := ω33) (fun b h1 h2 => by rw [hω33]; exact zN_n (by omega))
  have n2077_ω33 := z_at hω33 (zN_n' (by omega) n2077_ω32)
  have m_ω33 := z_at hω33 (zN_n' (by omega) m_ω32)
  have kω33 : ∀ b : Nat, b < m → ω33.1 b = ω.1 b := fun b hb => by rw [hω33]; exact (zN_n (by omega)).trans (kω32 b hb)
  clear n1_ω31 n10_ω31 n11_ω31 n53_ω31 n75_ω31 n76_ω31 n77_ω31 n979_ω31 n1881_ω31 n1923_ω31 n1945_ω31 n1946_ω31 n1947_ω31 n2012_ω31 m_ω31 sω31 hω31 kω31 n2077_ω31
  have n2078_ω33 : ω33.1 (m + 2078) = some (zAI X (72) (fun _ => 0)) := by rw [hω33, ← sω32]; exact zN_s _ _
  refine p_X7_61 (pc := 173) C N m_ω33 (Nat.le_of_ble_eq_true rfl) dX7_init_173 ?_
  refine z_nm (fun ω34 hω34 => ?_)
  have sω34 : ω34.2 = m + 2079 := by rw [hω34]; exact sω33
  have n1_ω34 := n1_ω33.kp (ω2 := ω34) (fun b h1 h2 => by rw [hω34]; exact zU_n (by omega))
  have n10_ω34 := z_at hω34 (zU_n' (by omega) n10_ω33)
  have n11_ω34 := n11_ω33.kp (ω2 := ω34) (fun b h1 h2 => by rw [hω34]; exact zU_n (by omega))
  have n53_ω34 := n53_ω33.kp (ω2 := ω34) (fun b h1 h2 => by rw [hω34]; exact zU_n (by omega))
  have n75_ω34 := z_at hω34 (zU_n' (by omega) n75_ω33)
  have n76_ω34 := z_at hω34 (zU_n' (by omega) n76_ω33)
  have n77_ω34 := n77_ω33.kp (ω2 := ω34) (fun b h1 h2 => by rw [hω34]; exact zU_n (by omega))
  have n979_ω34 := n979_ω33.kp (ω2 := ω34) (fun b h1 h2 => by rw [hω34]; exact zU_n (by omega))
  have n1881_ω34 := n1881_ω33.kp (ω2 := ω34) (fun b h1 h2 => by rw [hω34]; exact zU_n (by omega))
  have n1923_ω34 := n1923_ω33.kp (ω2 := ω34) (fun b h1 h2 => by rw [hω34]; exact zU_n (by omega))
  have n1945_ω34 := z_at hω34 (zU_n' (by omega) n1945_ω33)
  have n1946_ω34 := z_at hω34 (zU_n' (by omega) n1946_ω33)
  have n1947_ω34 := n1947_ω33.kp (ω2 := ω34) (fun b h1 h2 => by rw [hω34]; exact zU_n (by omega))
  have n2012_ω34 := n2012_ω33.kp (ω2 := ω34) (fun b h1 h2 => by rw [hω34]; exact zU_n (by omega))
  have n2077_ω34 := z_at hω34 (zU_n' (by omega) n2077_ω33)
  have n2078_ω34 := z_at hω34 (zU_n' (by omega) n2078_ω33)
  have m_ω34 := z_at hω34 (zU_s _ _ _)
  have kω34 : ∀ b : Nat, b < m → ω34.1 b = ω.1 b := fun b hb => by rw [hω34]; exact (zU_n (by omega)).trans (kω33 b hb)
  clear n1_ω32 n10_ω32 n11_ω32 n53_ω32 n75_ω32 n76_ω32 n77_ω32 n979_ω32 n1881_ω32 n1923_ω32 n1945_ω32 n1946_ω32 n1947_ω32 n2012_ω32 n2077_ω32 m_ω32 sω32 hω32 kω32
  refine z_aload_n (i := 0) (pc := 176) C rfl rfl dX7_init_176 ?_
  refine z_sipush (pc := 177) C (by decide +kernel) dX7_init_177 ?_
  refine z_bipush (pc := 180) C (by decide +kernel) dX7_init_180 ?_
  refine z_multi (pc := 182) C (N := 181) (K := 72) rfl (Nat.le_of_ble_eq_true rfl) rfl (Nat.le_of_ble_eq_true rfl) cl_X7_9 ac_int (by decide +kernel) (by decide +kernel) dX7_init_182 ?_
  rw [sω34]
  refine z_nm (fun ω35 hω35 => ?_)
  have sω35 : ω35.2 = m + 2261 := by rw [hω35]; show _ + 1 + _ = _; omega
  have n1_ω35 := n1_ω34.kp (ω2 := ω35) (fun b h1 h2 => by rw [hω35]; exact zM_n (by omega))
  have n10_ω35 := z_at hω35 (zM_n' (by omega) n10_ω34)
  have n11_ω35 := n11_ω34.kp (ω2 := ω35) (fun b h1 h2 => by rw [hω35]; exact zM_n (by omega))
  have n53_ω35 := n53_ω34.kp (ω2 := ω35) (fun b h1 h2 => by rw [hω35]; exact zM_n (by omega))
  have n75_ω35 := z_at hω35 (zM_n' (by omega) n75_ω34)
  have n76_ω35 := z_at hω35 (zM_n' (by omega) n76_ω34)
  have n77_ω35 := n77_ω34.kp (ω2 := ω35) (fun b h1 h2 => by rw [hω35]; exact zM_n (by omega))
  have n979_ω35 := n979_ω34.kp (ω2 := ω35) (fun b h1 h2 => by rw [hω35]; exact zM_n (by omega))
  have n1881_ω35 := n1881_ω34.kp (ω2 := ω35) (fun b h1 h2 => by rw [hω35]; exact zM_n (by omega))
  have n1923_ω35 := n1923_ω34.kp (ω2 := ω35) (fun b h1 h2 => by rw [hω35]; exact zM_n (by omega))
  have n1945_ω35 := z_at hω35 (zM_n' (by omega) n1945_ω34)
  have n1946_ω35 := z_at hω35 (zM_n' (by omega) n1946_ω34)
  have n1947_ω35 := n1947_ω34.kp (ω2 := ω35) (fun b h1 h2 => by rw [hω35]; exact zM_n (by omega))
  have n2012_ω35 := n2012_ω34.kp (ω2 := ω35) (fun b h1 h2 => by rw [hω35]; exact zM_n (by omega))
  have n2077_ω35 := z_at hω35 (zM_n' (by omega) n2077_ω34)
  have n2078_ω35 := z_at hω35 (zM_n' (by omega) n2078_ω34)
  have m_ω35 := z_at hω35 (zM_n' (by omega) m_ω34)
  have kω35 : ∀ b : Nat, b < m → ω35.1 b = ω.1 b := fun b hb => by rw [hω35]; exact (zM_n (by omega)).trans (kω34 b hb)
  clear n1_ω33 n10_ω33 n11_ω33 n53_ω33 n75_ω33 n76_ω33 n77_ω33 n979_ω33 n1881_ω33 n1923_ω33 n1945_ω33 n1946_ω33 n1947_ω33 n2012_ω33 n2077_ω33 m_ω33 sω33 hω33 kω33 n2078_ω33
  have n2079_ω35 : zMx X ω35 (m + 2079) 181 72 (fun _ _ => 0) := zMx.of hω35 sω34
  refine p_X7_64 (pc := 186) C N m_ω35 (Nat.le_of_ble_eq_true rfl) dX7_init_186 ?_
  refine z_nm (fun ω36 hω36 => ?_)
  have sω36 : ω36.2 = m + 2261 := by rw [hω36]; exact sω35
  have n1_ω36 := n1_ω35.kp (ω2 := ω36) (fun b h1 h2 => by rw [hω36]; exact zU_n (by omega))
  have n10_ω36 := z_at hω36 (zU_n' (by omega) n10_ω35)
  have n11_ω36 := n11_ω35.kp (ω2 := ω36) (fun b h1 h2 => by rw [hω36]; exact zU_n (by omega))
  have n53_ω36 := n53_ω35.kp (ω2 := ω36) (fun b h1 h2 => by rw [hω36]; exact zU_n (by omega))
  have n75_ω36 := z_at hω36 (zU_n' (by omega) n75_ω35)
  have n76_ω36 := z_at hω36 (zU_n' (by omega) n76_ω35)
  have n77_ω36 := n77_ω35.kp (ω2 := ω36) (fun b h1 h2 => by rw [hω36]; exact zU_n (by omega))
  have n979_ω36 := n979_ω35.kp (ω2 := ω36) (fun b h1 h2 => by rw [hω36]; exact zU_n (by omega))
  have n1881_ω36 := n1881_ω35.kp (ω2 := ω36) (fun b h1 h2 => by rw [hω36]; exact zU_n (by omega))
  have n1923_ω36 := n1923_ω35.kp (ω2 := ω36) (fun b h1 h2 => by rw [hω36]; exact zU_n (by omega))
  have n1945_ω36 := z_at hω36 (zU_n' (by omega) n1945_ω35)
  have n1946_ω36 := z_at hω36 (zU_n' (by omega) n1946_ω35)
  have n1947_ω36 := n1947_ω35.kp (ω2 := ω36) (fun b h1 h2 => by rw [hω36]; exact zU_n (by omega))
  have n2012_ω36 := n2012_ω35.kp (ω2 := ω36) (fun b h1 h2 => by rw [hω36]; exact zU_n (by omega))
  have n2077_ω36 := z_at hω36 (zU_n' (by omega) n2077_ω35)
  have n2078_ω36 := z_at hω36 (zU_n' (by omega) n2078_ω35)
  have n2079_ω36 := n2079_ω35.kp (ω2 := ω36) (fun b h1 h2 => by rw [hω36]; exact zU_n (by omega))
  have m_ω36 := z_at hω36 (zU_s _ _ _)
  have kω36 : ∀ b : Nat, b < m → ω36.1 b = ω.1 b := fun b hb => by rw [hω36]; exact (zU_n (by omega)).trans (kω35 b hb)
  clear n1_ω34 n10_ω34 n11_ω34 n53_ω34 n75_ω34 n76_ω34 n77_ω34 n979_ω34 n1881_ω34 n1923_ω34 n1945_ω34 n1946_ω34 n1947_ω34 n2012_ω34 n2077_ω34 n2078_ω34 m_ω34 sω34 hω34 kω34
  refine z_aload_n (i := 0) (pc := 189) C rfl rfl dX7_init_189 ?_
  refine z_sipush (pc := 190) C (by decide +kernel) dX7_init_190 ?_
  refine z_bipush (pc := 193) C (by decide +kernel) dX7_init_193 ?_
  refine z_multi (pc := 195) C (N := 181) (K := 72) rfl (Nat.le_of_ble_eq_true rfl) rfl (Nat.le_of_ble_eq_true rfl) cl_X7_9 ac_int (by decide +kernel) (by decide +kernel) dX7_init_195 ?_
  rw [sω36]
  refine z_nm (fun ω37 hω37 => ?_)
  have sω37 : ω37.2 = m + 2443 := by rw [hω37]; show _ + 1 + _ = _; omega
  have n1_ω37 := n1_ω36.kp (ω2 := ω37) (fun b h1 h2 => by rw [hω37]; exact zM_n (by omega))
  have n10_ω37 := z_at hω37 (zM_n' (by omega) n10_ω36)
  have n11_ω37 := n11_ω36.kp (ω2 := ω37) (fun b h1 h2 => by rw [hω37]; exact zM_n (by omega))
  have n53_ω37 := n53_ω36.kp (ω2 := ω37) (fun b h1 h2 => by rw [hω37]; exact zM_n (by omega))
  have n75_ω37 := z_at hω37 (zM_n' (by omega) n75_ω36)
  have n76_ω37 := z_at hω37 (zM_n' (by omega) n76_ω36)
  have n77_ω37 := n77_ω36.kp (ω2 := ω37) (fun b h1 h2 => by rw [hω37]; exact zM_n (by omega))
  have n979_ω37 := n979_ω36.kp (ω2 := ω37) (fun b h1 h2 => by rw [hω37]; exact zM_n (by omega))
  have n1881_ω37 := n1881_ω36.kp (ω2 := ω37) (fun b h1 h2 => by rw [hω37]; exact zM_n (by omega))
  have n1923_ω37 := n1923_ω36.kp (ω2 := ω37) (fun b h1 h2 => by rw [hω37]; exact zM_n (by omega))
  have n1945_ω37 := z_at hω37 (zM_n' (by omega) n1945_ω36)
  have n1946_ω37 := z_at hω37 (zM_n' (by omega) n1946_ω36)
  have n1947_ω37 := n1947_ω36.kp (ω2 := ω37) (fun b h1 h2 => by rw [hω37]; exact zM_n (by omega))
  have n2012_ω37 := n2012_ω36.kp (ω2 := ω37) (fun b h1 h2 => by rw [hω37]; exact zM_n (by omega))
  have n2077_ω37 := z_at hω37 (zM_n' (by omega) n2077_ω36)
  have n2078_ω37 := z_at hω37 (zM_n' (by omega) n2078_ω36)
  have n2079_ω37 := n2079_ω36.kp (ω2 := ω37) (fun b h1 h2 => by rw [hω37]; exact zM_n (by omega))
  have m_ω37 := z_at hω37 (zM_n' (by omega) m_ω36)
  have kω37 : ∀ b : Nat, b < m → ω37.1 b = ω.1 b := fun b hb => by rw [hω37]; exact (zM_n (by omega)).trans (kω36 b hb)
  clear n1_ω35 n10_ω35 n11_ω35 n53_ω35 n75_ω35 n76_ω35 n77_ω35 n979_ω35 n1881_ω35 n1923_ω35 n1945_ω35 n1946_ω35 n1947_ω35 n2012_ω35 n2077_ω35 n2078_ω35 m_ω35 sω35 hω35 kω35 n2079_ω35
  have n2261_ω37 : zMx X ω37 (m + 2261) 181 72 (fun _ _ => 0) := zMx.of hω37 sω36
  refine p_X7_67 (pc := 199) C N m_ω37 (Nat.le_of_ble_eq_true rfl) dX7_init_199 ?_
  refine z_nm (fun ω38 hω38 => ?_)
  have sω38 : ω38.2 = m + 2443 := by rw [hω38]; exact sω37
  have n1_ω38 := n1_ω37.kp (ω2 := ω38) (fun b h1 h2 => by rw [hω38]; exact zU_n (by omega))
  have n10_ω38 := z_at hω38 (zU_n' (by omega) n10_ω37)
  have n11_ω38 := n11_ω37.kp (ω2 := ω38) (fun b h1 h2 => by rw [hω38]; exact zU_n (by omega))
  have n53_ω38 := n53_ω37.kp (ω2 := ω38) (fun b h1 h2 => by rw [hω38]; exact zU_n (by omega))
  have n75_ω38 := z_at hω38 (zU_n' (by omega) n75_ω37)
  have n76_ω38 := z_at hω38 (zU_n' (by omega) n76_ω37)
  have n77_ω38 := n77_ω37.kp (ω2 := ω38) (fun b h1 h2 => by rw [hω38]; exact zU_n (by omega))
  have n979_ω38 := n979_ω37.kp (ω2 := ω38) (fun b h1 h2 => by rw [hω38]; exact zU_n (by omega))
  have n1881_ω38 := n1881_ω37.kp (ω2 := ω38) (fun b h1 h2 => by rw [hω38]; exact zU_n (by omega))
  have n1923_ω38 := n1923_ω37.kp (ω2 := ω38) (fun b h1 h2 => by rw [hω38]; exact zU_n (by omega))
  have n1945_ω38 := z_at hω38 (zU_n' (by omega) n1945_ω37)
  have n1946_ω38 := z_at hω38 (zU_n' (by omega) n1946_ω37)
  have n1947_ω38 := n1947_ω37.kp (ω2 := ω38) (fun b h1 h2 => by rw [hω38]; exact zU_n (by omega))
  have n2012_ω38 := n2012_ω37.kp (ω2 := ω38) (fun b h1 h2 => by rw [hω38]; exact zU_n (by omega))
  have n2077_ω38 := z_at hω38 (zU_n' (by omega) n2077_ω37)
  have n2078_ω38 := z_at hω38 (zU_n' (by omega) n2078_ω37)
  have n2079_ω38 := n2079_ω37.kp (ω2 := ω38) (fun b h1 h2 => by rw [hω38]; exact zU_n (by omega))
  have n2261_ω38 := n2261_ω37.kp (ω2 := ω38) (fun b h1 h2 => by rw [hω38]; exact zU_n (by omega))
  have m_ω38 := z_at hω38 (zU_s _ _ _)
  have kω38 : ∀ b : Nat, b < m → ω38.1 b = ω.1 b := fun b hb => by rw [hω38]; exact (zU_n (by omega)).trans (kω37 b hb)
  clear n1_ω36 n10_ω36 n11_ω36 n53_ω36 n75_ω36 n76_ω36 n77_ω36 n979_ω36 n1881_ω36 n1923_ω36 n1945_ω36 n1946_ω36 n1947_ω36 n2012_ω36 n2077_ω36 n2078_ω36 n2079_ω36 m_ω36 sω36 hω36 kω36
  refine z_aload_n (i := 0) (pc := 202) C rfl rfl dX7_init_202 ?_
  refine z_bipush (pc := 203) C (by decide +kernel) dX7_init_203 ?_
  refine z_newI (pc := 205) C (N := 72) rfl (Nat.le_of_ble_eq_true rfl) ac_int (by decide +kernel) (by decide +kernel) dX7_init_205 ?_
  rw [sω38]
  refine z_nm (fun ω39 hω39 => ?_)
  have sω39 : ω39.2 = m + 2444 := by rw [hω39]; show _ + 1 = _; omega
  have n1_ω39 := n1_ω38.kp (ω2 := ω39) (fun b h1 h2 => by rw [hω39]; exact zN_n (by omega))
  have n10_ω39 := z_at hω39 (zN_n' (by omega) n10_ω38)
  have n11_ω39 := n11_ω38.kp (ω2 := ω39) (fun b h1 h2 => by rw [hω39]; exact zN_n (by omega))
  have n53_ω39 := n53_ω38.kp (ω2 := ω39) (fun b h1 h2 => by rw [hω39]; exact zN_n (by omega))
  have n75_ω39 := z_at hω39 (zN_n' (by omega) n75_ω38)
  have n76_ω39 := z_at hω39 (zN_n' (by omega) n76_ω38)
  have n77_ω39 := n77_ω38.kp (ω2 := ω39) (fun b h1 h2 => by rw [hω39]; exact zN_n (by omega))
  have n979_ω39 := n979_ω38.kp (ω2 := ω39) (fun b h1 h2 => by rw [hω39]; exact zN_n (by omega))
  have n1881_ω39 := n1881_ω38.kp (ω2 := ω39) (fun b h1 h2 => by rw [hω39]; exact zN_n (by omega))
  have n1923_ω39 := n1923_ω38.kp (ω2 := ω39) (fun b h1 h2 => by rw [hω39]; exact zN_n (by omega))
  have n1945_ω39 := z_at hω39 (zN_n' (by omega) n1945_ω38)
  have n1946_ω39 := z_at hω39 (zN_n' (by omega) n1946_ω38)
  have n1947_ω39 := n1947_ω38.kp (ω2 := ω39) (fun b h1 h2 => by rw [hω39]; exact zN_n (by omega))
  have n2012_ω39 := n2012_ω38.kp (ω2 := ω39) (fun b h1 h2 => by rw [hω39]; exact zN_n (by omega))
  have n2077_ω39 := z_at hω39 (zN_n' (by omega) n2077_ω38)
  have n2078_ω39 := z_at hω39 (zN_n' (by omega) n2078_ω38)
  have n2079_ω39 := n2079_ω38.kp (ω2 := ω39) (fun b h1 h2 => by rw [hω39]; exact zN_n (by omega))
  have n2261_ω39 := n2261_ω38.kp (ω2 := ω39) (fun b h1 h2 => by rw [hω39]; exact zN_n (by omega))
  have m_ω39 := z_at hω39 (zN_n' (by omega) m_ω38)
  have kω39 : ∀ b : Nat, b < m → ω39.1 b = ω.1 b := fun b hb => by rw [hω39]; exact (zN_n (by omega)).trans (kω38 b hb)
  clear n1_ω37 n10_ω37 n11_ω37 n53_ω37 n75_ω37 n76_ω37 n77_ω37 n979_ω37 n1881_ω37 n1923_ω37 n1945_ω37 n1946_ω37 n1947_ω37 n2012_ω37 n2077_ω37 n2078_ω37 n2079_ω37 m_ω37 sω37 hω37 kω37 n2261_ω37
  have n2443_ω39 : ω39.1 (m + 2443) = some (zAI X (72) (fun _ => 0)) := by rw [hω39, ← sω38]; exact zN_s _ _
  refine p_X7_70 (pc := 207) C N m_ω39 (Nat.le_of_ble_eq_true rfl) dX7_init_207 ?_
  refine z_nm (fun ω40 hω40 => ?_)
  have sω40 : ω40.2 = m + 2444 := by rw [hω40]; exact sω39
  have n1_ω40 := n1_ω39.kp (ω2 := ω40) (fun b h1 h2 => by rw [hω40]; exact zU_n (by omega))
  have n10_ω40 := z_at hω40 (zU_n' (by omega) n10_ω39)
  have n11_ω40 := n11_ω39.kp (ω2 := ω40) (fun b h1 h2 => by rw [hω40]; exact zU_n (by omega))
  have n53_ω40 := n53_ω39.kp (ω2 := ω40) (fun b h1 h2 => by rw [hω40]; exact zU_n (by omega))
  have n75_ω40 := z_at hω40 (zU_n' (by omega) n75_ω39)
  have n76_ω40 := z_at hω40 (zU_n' (by omega) n76_ω39)
  have n77_ω40 := n77_ω39.kp (ω2 := ω40) (fun b h1 h2 => by rw [hω40]; exact zU_n (by omega))
  have n979_ω40 := n979_ω39.kp (ω2 := ω40) (fun b h1 h2 => by rw [hω40]; exact zU_n (by omega))
  have n1881_ω40 := n1881_ω39.kp (ω2 := ω40) (fun b h1 h2 => by rw [hω40]; exact zU_n (by omega))
  have n1923_ω40 := n1923_ω39.kp (ω2 := ω40) (fun b h1 h2 => by rw [hω40]; exact zU_n (by omega))
  have n1945_ω40 := z_at hω40 (zU_n' (by omega) n1945_ω39)
  have n1946_ω40 := z_at hω40 (zU_n' (by omega) n1946_ω39)
  have n1947_ω40 := n1947_ω39.kp (ω2 := ω40) (fun b h1 h2 => by rw [hω40]; exact zU_n (by omega))
  have n2012_ω40 := n2012_ω39.kp (ω2 := ω40) (fun b h1 h2 => by rw [hω40]; exact zU_n (by omega))
  have n2077_ω40 := z_at hω40 (zU_n' (by omega) n2077_ω39)
  have n2078_ω40 := z_at hω40 (zU_n' (by omega) n2078_ω39)
  have n2079_ω40 := n2079_ω39.kp (ω2 := ω40) (fun b h1 h2 => by rw [hω40]; exact zU_n (by omega))
  have n2261_ω40 := n2261_ω39.kp (ω2 := ω40) (fun b h1 h2 => by rw [hω40]; exact zU_n (by omega))
  have n2443_ω40 := z_at hω40 (zU_n' (by omega) n2443_ω39)
  have m_ω40 := z_at hω40 (zU_s _ _ _)
  have kω40 : ∀ b : Nat, b < m → ω40.1 b = ω.1 b := fun b hb => by rw [hω40]; exact (zU_n (by omega)).trans (kω39 b hb)
  clear n1_ω38 n10_ω38 n11_ω38 n53_ω38 n75_ω38 n76_ω38 n77_ω38 n979_ω38 n1881_ω38 n1923_ω38 n1945_ω38 n1946_ω38 n1947_ω38 n2012_ω38 n2077_ω38 n2078_ω38 n2079_ω38 n2261_ω38 m_ω38 sω38 hω38 kω38
  refine z_aload_n (i := 0) (pc := 210) C rfl rfl dX7_init_210 ?_
  refine z_bipush (pc := 211) C (by decide +kernel) dX7_init_211 ?_
  refine z_newI (pc := 213) C (N := 72) rfl (Nat.le_of_ble_eq_true rfl) ac_int (by decide +kernel) (by decide +kernel) dX7_init_213 ?_
  rw [sω40]
  refine z_nm (fun ω41 hω41 => ?_)
  have sω41 : ω41.2 = m + 2445 := by rw [hω41]; show _ + 1 = _; omega
  have n1_ω41 := n1_ω40.kp (ω2 := ω41) (fun b h1 h2 => by rw [hω41]; exact zN_n (by omega))
  have n10_ω41 := z_at hω41 (zN_n' (by omega) n10_ω40)
  have n11_ω41 := n11_ω40.kp (ω2 := ω41) (fun b h1 h2 => by rw [hω41]; exact zN_n (by omega))
  have n53_ω41 := n53_ω40.kp (ω2 := ω41) (fun b h1 h2 => by rw [hω41]; exact zN_n (by omega))
  have n75_ω41 := z_at hω41 (zN_n' (by omega) n75_ω40)
  have n76_ω41 := z_at hω41 (zN_n' (by omega) n76_ω40)
  have n77_ω41 := n77_ω40.kp (ω2 := ω41) (fun b h1 h2 => by rw [hω41]; exact zN_n (by omega))
  have n979_ω41 := n979_ω40.kp (ω2 := ω41) (fun b h1 h2 => by rw [hω41]; exact zN_n (by omega))
  have n1881_ω41 := n1881_ω40.kp (ω2 := ω41) (fun b h1 h2 => by rw [hω41]; exact zN_n (by omega))
  have n1923_ω41 := n1923_ω40.kp (ω2 := ω41) (fun b h1 h2 => by rw [hω41]; exact zN_n (by omega))
  have n1945_ω41 := z_at hω41 (zN_n' (by omega) n1945_ω40)
  have n1946_ω41 := z_at hω41 (zN_n' (by omega) n1946_ω40)
  have n1947_ω41 := n1947_ω40.kp (ω2 := ω41) (fun b h1 h2 => by rw [hω41]; exact zN_n (by omega))
  have n2012_ω41 := n2012_ω40.kp (ω2 := ω41) (fun b h1 h2 => by rw [hω41]; exact zN_n (by omega))
  have n2077_ω41 := z_at hω41 (zN_n' (by omega) n2077_ω40)
  have n2078_ω41 := z_at hω41 (zN_n' (by omega) n2078_ω40)
  have n2079_ω41 := n2079_ω40.kp (ω2 := ω41) (fun b h1 h2 => by rw [hω41]; exact zN_n (by omega))
  have n2261_ω41 := n2261_ω40.kp (ω2 := ω41) (fun b h1 h2 => by rw [hω41]; exact zN_n (by omega))
  have n2443_ω41 := z_at hω41 (zN_n' (by omega) n2443_ω40)
  have m_ω41 := z_at hω41 (zN_n' (by omega) m_ω40)
  have kω41 : ∀ b : Nat, b < m → ω41.1 b = ω.1 b := fun b hb => by rw [hω41]; exact (zN_n (by omega)).trans (kω40 b hb)
  clear n1_ω39 n10_ω39 n11_ω39 n53_ω39 n75_ω39 n76_ω39 n77_ω39 n979_ω39 n1881_ω39 n1923_ω39 n1945_ω39 n1946_ω39 n1947_ω39 n2012_ω39 n2077_ω39 n2078_ω39 n2079_ω39 n2261_ω39 m_ω39 sω39 hω39 kω39 n2443_ω39
  have n2444_ω41 : ω41.1 (m + 2444) = some (zAI X (72) (fun _ => 0)) := by rw [hω41, ← sω40]; exact zN_s _ _
  refine p_X7_73 (pc := 215) C N m_ω41 (Nat.le_of_ble_eq_true rfl) dX7_init_215 ?_
  refine z_nm (fun ω42 hω42 => ?_)
  have sω42 : ω42.2 = m + 2445 := by rw [hω42]; exact sω41
  have n1_ω42 := n1_ω41.kp (ω2 := ω42) (fun b h1 h2 => by rw [hω42]; exact zU_n (by omega))
  have n10_ω42 := z_at hω42 (zU_n' (by omega) n10_ω41)
  have n11_ω42 := n11_ω41.kp (ω2 := ω42) (fun b h1 h2 => by rw [hω42]; exact zU_n (by omega))
  have n53_ω42 := n53_ω41.kp (ω2 := ω42) (fun b h1 h2 => by rw [hω42]; exact zU_n (by omega))
  have n75_ω42 := z_at hω42 (zU_n' (by omega) n75_ω41)
  have n76_ω42 := z_at hω42 (zU_n' (by omega) n76_ω41)
  have n77_ω42 := n77_ω41.kp (ω2 := ω42) (fun b h1 h2 => by rw [hω42]; exact zU_n (by omega))
  have n979_ω42 := n979_ω41.kp (ω2 := ω42) (fun b h1 h2 => by rw [hω42]; exact zU_n (by omega))
  have n1881_ω42 := n1881_ω41.kp (ω2 := ω42) (fun b h1 h2 => by rw [hω42]; exact zU_n (by omega))
  have n1923_ω42 := n1923_ω41.kp (ω2 := ω42) (fun b h1 h2 => by rw [hω42]; exact zU_n (by omega))
  have n1945_ω42 := z_at hω42 (zU_n' (by omega) n1945_ω41)
  have n1946_ω42 := z_at hω42 (zU_n' (by omega) n1946_ω41)
  have n1947_ω42 := n1947_ω41.kp (ω2 := ω42) (fun b h1 h2 => by rw [hω42]; exact zU_n (by omega))
  have n2012_ω42 := n2012_ω41.kp (ω2 := ω42) (fun b h1 h2 => by rw [hω42]; exact zU_n (by omega))
  have n2077_ω42 := z_at hω42 (zU_n' (by omega) n2077_ω41)
  have n2078_ω42 := z_at hω42 (zU_n' (by omega) n2078_ω41)
  have n2079_ω42 := n2079_ω41.kp (ω2 := ω42) (fun b h1 h2 => by rw [hω42]; exact zU_n (by omega))
  have n2261_ω42 := n2261_ω41.kp (ω2 := ω42) (fun b h1 h2 => by rw [hω42]; exact zU_n (by omega))
  have n2443_ω42 := z_at hω42 (zU_n' (by omega) n2443_ω41)
  have n2444_ω42 := z_at hω42 (zU_n' (by omega) n2444_ω41)
  have m_ω42 := z_at hω42 (zU_s _ _ _)
  have kω42 : ∀ b : Nat, b < m → ω42.1 b = ω.1 b := fun b hb => by rw [hω42]; exact (zU_n (by omega)).trans (kω41 b hb)
  clear n1_ω40 n10_ω40 n11_ω40 n53_ω40 n75_ω40 n76_ω40 n77_ω40 n979_ω40 n1881_ω40 n1923_ω40 n1945_ω40 n1946_ω40 n1947_ω40 n2012_ω40 n2077_ω40 n2078_ω40 n2079_ω40 n2261_ω40 n2443_ω40 m_ω40 sω40 hω40 kω40
  refine z_aload_n (i := 0) (pc := 218) C rfl rfl dX7_init_218 ?_
  refine z_sipush (pc := 219) C (by decide +kernel) dX7_init_219 ?_
  refine z_anewR (pc := 222) C (N := 3698) rfl (Nat.le_of_ble_eq_true rfl) cl_X7_76 (by decide +kernel) (by decide +kernel) dX7_init_222 ?_
  rw [sω42]
  refine z_nm (fun ω43 hω43 => ?_)
  have sω43 : ω43.2 = m + 2446 := by rw [hω43]; show _ + 1 = _; omega
  have n1_ω43 := n1_ω42.kp (ω2 := ω43) (fun b h1 h2 => by rw [hω43]; exact zN_n (by omega))
  have n10_ω43 := z_at hω43 (zN_n' (by omega) n10_ω42)
  have n11_ω43 := n11_ω42.kp (ω2 := ω43) (fun b h1 h2 => by rw [hω43]; exact zN_n (by omega))
  have n53_ω43 := n53_ω42.kp (ω2 := ω43) (fun b h1 h2 => by rw [hω43]; exact zN_n (by omega))
  have n75_ω43 := z_at hω43 (zN_n' (by omega) n75_ω42)
  have n76_ω43 := z_at hω43 (zN_n' (by omega) n76_ω42)
  have n77_ω43 := n77_ω42.kp (ω2 := ω43) (fun b h1 h2 => by rw [hω43]; exact zN_n (by omega))
  have n979_ω43 := n979_ω42.kp (ω2 := ω43) (fun b h1 h2 => by rw [hω43]; exact zN_n (by omega))
  have n1881_ω43 := n1881_ω42.kp (ω2 := ω43) (fun b h1 h2 => by rw [hω43]; exact zN_n (by omega))
  have n1923_ω43 := n1923_ω42.kp (ω2 := ω43) (fun b h1 h2 => by rw [hω43]; exact zN_n (by omega))
  have n1945_ω43 := z_at hω43 (zN_n' (by omega) n1945_ω42)
  have n1946_ω43 := z_at hω43 (zN_n' (by omega) n1946_ω42)
  have n1947_ω43 := n1947_ω42.kp (ω2 := ω43) (fun b h1 h2 => by rw [hω43]; exact zN_n (by omega))
  have n2012_ω43 := n2012_ω42.kp (ω2 := ω43) (fun b h1 h2 => by rw [hω43]; exact zN_n (by omega))
  have n2077_ω43 := z_at hω43 (zN_n' (by omega) n2077_ω42)
  have n2078_ω43 := z_at hω43 (zN_n' (by omega) n2078_ω42)
  have n2079_ω43 := n2079_ω42.kp (ω2 := ω43) (fun b h1 h2 => by rw [hω43]; exact zN_n (by omega))
  have n2261_ω43 := n2261_ω42.kp (ω2 := ω43) (fun b h1 h2 => by rw [hω43]; exact zN_n (by omega))
  have n2443_ω43 := z_at hω43 (zN_n' (by omega) n2443_ω42)
  have n2444_ω43 := z_at hω43 (zN_n' (by omega) n2444_ω42)
  have m_ω43 := z_at hω43 (zN_n' (by omega) m_ω42)
  have kω43 : ∀ b : Nat, b < m → ω43.1 b = ω.1 b := fun b hb => by rw [hω43]; exact (zN_n (by omega)).trans (kω42 b hb)
  clear n1_ω41 n10_ω41 n11_ω41 n53_ω41 n75_ω41 n76_ω41 n77_ω41 n979_ω41 n1881_ω41 n1923_ω41 n1945_ω41 n1946_ω41 n1947_ω41 n2012_ω41 n2077_ω41 n2078_ω41 n2079_ω41 n2261_ω41 n2443_ω41 m_ω41 sω41 hω41 kω41 n2444_ω41
  have n2445_ω43 : ω43.1 (m + 2445) = some (zAR X (3698) (fun _ => none)) := by rw [hω43, ← sω42]; exact zN_s _ _
  refine p_X7_77 (pc := 225) C N m_ω43 (Nat.le_of_ble_eq_true rfl) dX7_init_225 ?_
  refine z_nm (fun ω44 hω44 => ?_)
  have sω44 : ω44.2 = m + 2446 := by rw [hω44]; exact sω43
  have n1_ω44 := n1_ω43.kp (ω2 := ω44) (fun b h1 h2 => by rw [hω44]; exact zU_n (by omega))
  have n10_ω44 := z_at hω44 (zU_n' (by omega) n10_ω43)
  have n11_ω44 := n11_ω43.kp (ω2 := ω44) (fun b h1 h2 => by rw [hω44]; exact zU_n (by omega))
  have n53_ω44 := n53_ω43.kp (ω2 := ω44) (fun b h1 h2 => by rw [hω44]; exact zU_n (by omega))
  have n75_ω44 := z_at hω44 (zU_n' (by omega) n75_ω43)
  have n76_ω44 := z_at hω44 (zU_n' (by omega) n76_ω43)
  have n77_ω44 := n77_ω43.kp (ω2 := ω44) (fun b h1 h2 => by rw [hω44]; exact zU_n (by omega))
  have n979_ω44 := n979_ω43.kp (ω2 := ω44) (fun b h1 h2 => by rw [hω44]; exact zU_n (by omega))
  have n1881_ω44 := n1881_ω43.kp (ω2 := ω44) (fun b h1 h2 => by rw [hω44]; exact zU_n (by omega))
  have n1923_ω44 := n1923_ω43.kp (ω2 := ω44) (fun b h1 h2 => by rw [hω44]; exact zU_n (by omega))
  have n1945_ω44 := z_at hω44 (zU_n' (by omega) n1945_ω43)
  have n1946_ω44 := z_at hω44 (zU_n' (by omega) n1946_ω43)
  have n1947_ω44 := n1947_ω43.kp (ω2 := ω44) (fun b h1 h2 => by rw [hω44]; exact zU_n (by omega))
  have n2012_ω44 := n2012_ω43.kp (ω2 := ω44) (fun b h1 h2 => by rw [hω44]; exact zU_n (by omega))
  have n2077_ω44 := z_at hω44 (zU_n' (by omega) n2077_ω43)
  have n2078_ω44 := z_at hω44 (zU_n' (by omega) n2078_ω43)
  have n2079_ω44 := n2079_ω43.kp (ω2 := ω44) (fun b h1 h2 => by rw [hω44]; exact zU_n (by omega))
  have n2261_ω44 := n2261_ω43.kp (ω2 := ω44) (fun b h1 h2 => by rw [hω44]; exact zU_n (by omega))
  have n2443_ω44 := z_at hω44 (zU_n' (by omega) n2443_ω43)
  have n2444_ω44 := z_at hω44 (zU_n' (by omega) n2444_ω43)
  have n2445_ω44 := z_at hω44 (zU_n' (by omega) n2445_ω43)
  have m_ω44 := z_at hω44 (zU_s _ _ _)
  have kω44 : ∀ b : Nat, b < m → ω44.1 b = ω.1 b := fun b hb => by rw [hω44]; exact (zU_n (by omega)).trans (kω43 b hb)
  clear n1_ω42 n10_ω42 n11_ω42 n53_ω42 n75_ω42 n76_ω42 n77_ω42 n979_ω42 n1881_ω42 n1923_ω42 n1945_ω42 n1946_ω42 n1947_ω42 n2012_ω42 n2077_ω42 n2078_ω42 n2079_ω42 n2261_ω42 n2443_ω42 n2444_ω42 m_ω42 sω42 hω42 kω42
  exact z_vret (pc := 228) C E dX7_init_228 ⟨rfl, ⟨kω44, (fun _ => 0), (fun _ => 0), (fun _ => 0), (fun _ => 0), (fun _ => 0), (fun _ => 0), (fun _ => 0), (fun _ => 0), (fun _ => 0), m_ω44, n1_ω44, n10_ω44, ⟨_, n11_ω44, fun j hj => zNm_0 (fun _ _ _ => rfl)⟩, ⟨_, n53_ω44, fun j hj => zNm_0 (fun _ _ _ => rfl)⟩, n75_ω44, n76_ω44, ⟨_, n77_ω44⟩, ⟨_, n979_ω44⟩, ⟨_, n1881_ω44⟩, ⟨_, n1923_ω44⟩, n1945_ω44, n1946_ω44, ⟨_, n1947_ω44⟩, ⟨_, n2012_ω44⟩, n2077_ω44, n2078_ω44, ⟨_, n2079_ω44⟩, ⟨_, n2261_ω44⟩, n2443_ω44, n2444_ω44, ⟨fun _ => none, n2445_ω44, fun k hk => absurd hk (by omega), fun _ _ _ => rfl, fun k hk => absurd hk (by omega), by omega⟩, fun k hk s _ _ => by (try dsimp only); decide, zNm_0 (fun _ _ _ => rfl)⟩⟩ (by decide +kernel) (by decide +kernel)
