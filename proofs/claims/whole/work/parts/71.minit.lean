/-! THE MODEL'S CONSTRUCTOR -/
def rnX7_init : Room := { frames := 1, cells := 2445, slots := 180839, locals := 24 }
set_option maxRecDepth 100000 in
set_option maxHeartbeats 4000000 in
theorem c_X7_init {l0 : Launch} {X : zX} {ω : zWd} {m : Nat} (ha : ω.1 m = some (zOb 7 fsX7)) (hz : ω.2 = m + 1) : zMet l0 yX7_init cX7_init 1 none rnX7_init X [.ref m] ω (zpv (fun w => (∀ b : Nat, b < m → w.1 b = ω.1 b) ∧ zMD X w m (fun _ _ => 0) 0 0 (fun _ => 0) (fun _ => 0) 0 0)) := by
  refine zMet.intro (by decide) (Nat.le_of_ble_eq_true rfl) ?_
  intro Γ C E N
  show Zw Γ ω 0 0 0 [some _] []
  have sω : ω.2 = m + 1 := hz
  have mω := ha
  have kω : ∀ b : Nat, b < m → ω.1 b = ω.1 b := fun b hb => rfl
  refine z_aload_n (i := 0) (pc := 0) C rfl rfl dX7_init_0 ?_
  refine z_objInit (pc := 1) C ol_X7_3 oi_1 oi_2 ⟨(Nat.le_of_ble_eq_true rfl), (Nat.le_of_ble_eq_true rfl)⟩ (Nat.le_of_ble_eq_true rfl) dX7_init_1 ?_
  refine z_aload_n (i := 0) (pc := 4) C rfl rfl dX7_init_4 ?_
  refine z_bipush (pc := 5) C (by decide +kernel) dX7_init_5 ?_
  refine z_bipush (pc := 7) C (by decide +kernel) dX7_init_7 ?_
  refine z_multi (pc := 9) C (N := 8) (K := 21) rfl (Nat.le_of_ble_eq_true rfl) rfl (Nat.le_of_ble_eq_true rfl) cl_X7_9 ac_int (by decide +kernel) (by decide +kernel) dX7_init_9 ?_
  rw [sω]
  refine z_nm (fun ω1 hω1 => ?_)
  have sω1 : ω1.2 = m + 10 := by rw [hω1]; show _ + 1 + _ = _; omega
  have mω1 := z_at hω1 (zM_n' (by omega) mω)
  have kω1 : ∀ b : Nat, b < m → ω1.1 b = ω.1 b := fun b hb => by rw [hω1]; exact (zM_n (by omega)).trans (kω b hb)
  have Sω1 : ∀ b : Nat, m < b → b < m + 1 → ω1.1 b = ω.1 b := fun b h1 h2 => by rw [hω1]; exact zM_n (by omega)
  have n1 : zMx X ω1 (m + 1) 8 21 (fun _ _ => 0) := zMx.of hω1 sω
  clear hω1 mω kω
  refine p_X7_11 (pc := 13) C N mω1 (Nat.le_of_ble_eq_true rfl) dX7_init_13 ?_
  refine z_nm (fun ω2 hω2 => ?_)
  have sω2 : ω2.2 = m + 10 := by rw [hω2]; exact sω1
  have mω2 : ω2.1 m = some (zOb 7 [.ref (m + 1), .null, .int 0, .null, .null, .int 0, .null, .int 0, .null, .null, .null, .null, .null, .null, .null, .null, .null, .null, .null, .null, .null, .null, .null, .null]) := z_at hω2 (zU_s _ _ _)
  have kω2 : ∀ b : Nat, b < m → ω2.1 b = ω.1 b := fun b hb => by rw [hω2]; exact (zU_n (by omega)).trans (kω1 b hb)
  have Sω2 : ∀ b : Nat, m < b → b < m + 10 → ω2.1 b = ω1.1 b := fun b h1 h2 => by rw [hω2]; exact zU_n (by omega)
  clear hω2 mω1 sω1 kω1
  refine z_aload_n (i := 0) (pc := 16) C rfl rfl dX7_init_16 ?_
  refine z_bipush (pc := 17) C (by decide +kernel) dX7_init_17 ?_
  refine z_newI (pc := 19) C (N := 72) rfl (Nat.le_of_ble_eq_true rfl) ac_int (by decide +kernel) (by decide +kernel) dX7_init_19 ?_
  rw [sω2]
  refine z_nm (fun ω3 hω3 => ?_)
  have sω3 : ω3.2 = m + 11 := by rw [hω3]; show _ + 1 = _; omega
  have mω3 := z_at hω3 (zN_n' (by omega) mω2)
  have kω3 : ∀ b : Nat, b < m → ω3.1 b = ω.1 b := fun b hb => by rw [hω3]; exact (zN_n (by omega)).trans (kω2 b hb)
  have Sω3 : ∀ b : Nat, m < b → b < m + 10 → ω3.1 b = ω2.1 b := fun b h1 h2 => by rw [hω3]; exact zN_n (by omega)
  have n10 : ω3.1 (m + 10) = some (zAI X 72 (fun _ => 0)) := by rw [hω3, ← sω2]; exact zN_s _ _
  clear hω3 mω2 kω2 sω2
  refine p_X7_14 (pc := 21) C N mω3 (Nat.le_of_ble_eq_true rfl) dX7_init_21 ?_
  refine z_nm (fun ω4 hω4 => ?_)
  have sω4 : ω4.2 = m + 11 := by rw [hω4]; exact sω3
  have mω4 : ω4.1 m = some (zOb 7 [.ref (m + 1), .ref (m + 10), .int 0, .null, .null, .int 0, .null, .int 0, .null, .null, .null, .null, .null, .null, .null, .null, .null, .null, .null, .null, .null, .null, .null, .null]) := z_at hω4 (zU_s _ _ _)
  have kω4 : ∀ b : Nat, b < m → ω4.1 b = ω.1 b := fun b hb => by rw [hω4]; exact (zU_n (by omega)).trans (kω3 b hb)
  have Sω4 : ∀ b : Nat, m < b → b < m + 11 → ω4.1 b = ω3.1 b := fun b h1 h2 => by rw [hω4]; exact zU_n (by omega)
  clear hω4 mω3 sω3 kω3
  refine z_aload_n (i := 0) (pc := 24) C rfl rfl dX7_init_24 ?_
  refine z_bipush (pc := 25) C (by decide +kernel) dX7_init_25 ?_
  refine z_bipush (pc := 27) C (by decide +kernel) dX7_init_27 ?_
  refine z_multi (pc := 29) C (N := 41) (K := 72) rfl (Nat.le_of_ble_eq_true rfl) rfl (Nat.le_of_ble_eq_true rfl) cl_X7_9 ac_int (by decide +kernel) (by decide +kernel) dX7_init_29 ?_
  rw [sω4]
  refine z_nm (fun ω5 hω5 => ?_)
  have sω5 : ω5.2 = m + 53 := by rw [hω5]; show _ + 1 + _ = _; omega
  have mω5 := z_at hω5 (zM_n' (by omega) mω4)
  have kω5 : ∀ b : Nat, b < m → ω5.1 b = ω.1 b := fun b hb => by rw [hω5]; exact (zM_n (by omega)).trans (kω4 b hb)
  have Sω5 : ∀ b : Nat, m < b → b < m + 11 → ω5.1 b = ω4.1 b := fun b h1 h2 => by rw [hω5]; exact zM_n (by omega)
  have n11 : zMx X ω5 (m + 11) 41 72 (fun _ _ => 0) := zMx.of hω5 sω4
  clear hω5 mω4 kω4 sω4
  refine p_X7_18 (pc := 33) C N mω5 (Nat.le_of_ble_eq_true rfl) dX7_init_33 ?_
  refine z_nm (fun ω6 hω6 => ?_)
  have sω6 : ω6.2 = m + 53 := by rw [hω6]; exact sω5
  have mω6 : ω6.1 m = some (zOb 7 [.ref (m + 1), .ref (m + 10), .int 0, .ref (m + 11), .null, .int 0, .null, .int 0, .null, .null, .null, .null, .null, .null, .null, .null, .null, .null, .null, .null, .null, .null, .null, .null]) := z_at hω6 (zU_s _ _ _)
  have kω6 : ∀ b : Nat, b < m → ω6.1 b = ω.1 b := fun b hb => by rw [hω6]; exact (zU_n (by omega)).trans (kω5 b hb)
  have Sω6 : ∀ b : Nat, m < b → b < m + 53 → ω6.1 b = ω5.1 b := fun b h1 h2 => by rw [hω6]; exact zU_n (by omega)
  clear hω6 mω5 sω5 kω5
  refine z_aload_n (i := 0) (pc := 36) C rfl rfl dX7_init_36 ?_
  refine z_bipush (pc := 37) C (by decide +kernel) dX7_init_37 ?_
  refine z_bipush (pc := 39) C (by decide +kernel) dX7_init_39 ?_
  refine z_multi (pc := 41) C (N := 21) (K := 72) rfl (Nat.le_of_ble_eq_true rfl) rfl (Nat.le_of_ble_eq_true rfl) cl_X7_9 ac_int (by decide +kernel) (by decide +kernel) dX7_init_41 ?_
  rw [sω6]
  refine z_nm (fun ω7 hω7 => ?_)
  have sω7 : ω7.2 = m + 75 := by rw [hω7]; show _ + 1 + _ = _; omega
  have mω7 := z_at hω7 (zM_n' (by omega) mω6)
  have kω7 : ∀ b : Nat, b < m → ω7.1 b = ω.1 b := fun b hb => by rw [hω7]; exact (zM_n (by omega)).trans (kω6 b hb)
  have Sω7 : ∀ b : Nat, m < b → b < m + 53 → ω7.1 b = ω6.1 b := fun b h1 h2 => by rw [hω7]; exact zM_n (by omega)
  have n53 : zMx X ω7 (m + 53) 21 72 (fun _ _ => 0) := zMx.of hω7 sω6
  clear hω7 mω6 kω6 sω6
  refine p_X7_21 (pc := 45) C N mω7 (Nat.le_of_ble_eq_true rfl) dX7_init_45 ?_
  refine z_nm (fun ω8 hω8 => ?_)
  have sω8 : ω8.2 = m + 75 := by rw [hω8]; exact sω7
  have mω8 : ω8.1 m = some (zOb 7 [.ref (m + 1), .ref (m + 10), .int 0, .ref (m + 11), .ref (m + 53), .int 0, .null, .int 0, .null, .null, .null, .null, .null, .null, .null, .null, .null, .null, .null, .null, .null, .null, .null, .null]) := z_at hω8 (zU_s _ _ _)
  have kω8 : ∀ b : Nat, b < m → ω8.1 b = ω.1 b := fun b hb => by rw [hω8]; exact (zU_n (by omega)).trans (kω7 b hb)
  have Sω8 : ∀ b : Nat, m < b → b < m + 75 → ω8.1 b = ω7.1 b := fun b h1 h2 => by rw [hω8]; exact zU_n (by omega)
  clear hω8 mω7 sω7 kω7
  refine z_aload_n (i := 0) (pc := 48) C rfl rfl dX7_init_48 ?_
  refine z_bipush (pc := 49) C (by decide +kernel) dX7_init_49 ?_
  refine z_newI (pc := 51) C (N := 21) rfl (Nat.le_of_ble_eq_true rfl) ac_int (by decide +kernel) (by decide +kernel) dX7_init_51 ?_
  rw [sω8]
  refine z_nm (fun ω9 hω9 => ?_)
  have sω9 : ω9.2 = m + 76 := by rw [hω9]; show _ + 1 = _; omega
  have mω9 := z_at hω9 (zN_n' (by omega) mω8)
  have kω9 : ∀ b : Nat, b < m → ω9.1 b = ω.1 b := fun b hb => by rw [hω9]; exact (zN_n (by omega)).trans (kω8 b hb)
  have Sω9 : ∀ b : Nat, m < b → b < m + 75 → ω9.1 b = ω8.1 b := fun b h1 h2 => by rw [hω9]; exact zN_n (by omega)
  have n75 : ω9.1 (m + 75) = some (zAI X 21 (fun _ => 0)) := by rw [hω9, ← sω8]; exact zN_s _ _
  clear hω9 mω8 kω8 sω8
  refine p_X7_24 (pc := 53) C N mω9 (Nat.le_of_ble_eq_true rfl) dX7_init_53 ?_
  refine z_nm (fun ω10 hω10 => ?_)
  have sω10 : ω10.2 = m + 76 := by rw [hω10]; exact sω9
  have mω10 : ω10.1 m = some (zOb 7 [.ref (m + 1), .ref (m + 10), .int 0, .ref (m + 11), .ref (m + 53), .int 0, .ref (m + 75), .int 0, .null, .null, .null, .null, .null, .null, .null, .null, .null, .null, .null, .null, .null, .null, .null, .null]) := z_at hω10 (zU_s _ _ _)
  have kω10 : ∀ b : Nat, b < m → ω10.1 b = ω.1 b := fun b hb => by rw [hω10]; exact (zU_n (by omega)).trans (kω9 b hb)
  have Sω10 : ∀ b : Nat, m < b → b < m + 76 → ω10.1 b = ω9.1 b := fun b h1 h2 => by rw [hω10]; exact zU_n (by omega)
  clear hω10 mω9 sω9 kω9
  refine z_aload_n (i := 0) (pc := 56) C rfl rfl dX7_init_56 ?_
  refine z_bipush (pc := 57) C (by decide +kernel) dX7_init_57 ?_
  refine p_X7_27 (pc := 59) C mω10 (Nat.le_of_ble_eq_true rfl) dX7_init_59 ?_
  refine z_nm (fun ω11 hω11 => ?_)
  have sω11 : ω11.2 = m + 76 := by rw [hω11]; exact sω10
  have mω11 : ω11.1 m = some (zOb 7 [.ref (m + 1), .ref (m + 10), .int 0, .ref (m + 11), .ref (m + 53), .int 0, .ref (m + 75), .int (zI ((72 : Nat) : Int)), .null, .null, .null, .null, .null, .null, .null, .null, .null, .null, .null, .null, .null, .null, .null, .null]) := z_at hω11 (zU_s _ _ _)
  have kω11 : ∀ b : Nat, b < m → ω11.1 b = ω.1 b := fun b hb => by rw [hω11]; exact (zU_n (by omega)).trans (kω10 b hb)
  have Sω11 : ∀ b : Nat, m < b → b < m + 76 → ω11.1 b = ω10.1 b := fun b h1 h2 => by rw [hω11]; exact zU_n (by omega)
  clear hω11 mω10 sω10 kω10
  refine z_aload_n (i := 0) (pc := 62) C rfl rfl dX7_init_62 ?_
  refine z_bipush (pc := 63) C (by decide +kernel) dX7_init_63 ?_
  refine z_newI (pc := 65) C (N := 72) rfl (Nat.le_of_ble_eq_true rfl) ac_int (by decide +kernel) (by decide +kernel) dX7_init_65 ?_
  rw [sω11]
  refine z_nm (fun ω12 hω12 => ?_)
  have sω12 : ω12.2 = m + 77 := by rw [hω12]; show _ + 1 = _; omega
  have mω12 := z_at hω12 (zN_n' (by omega) mω11)
  have kω12 : ∀ b : Nat, b < m → ω12.1 b = ω.1 b := fun b hb => by rw [hω12]; exact (zN_n (by omega)).trans (kω11 b hb)
  have Sω12 : ∀ b : Nat, m < b → b < m + 76 → ω12.1 b = ω11.1 b := fun b h1 h2 => by rw [hω12]; exact zN_n (by omega)
  have n76 : ω12.1 (m + 76) = some (zAI X 72 (fun _ => 0)) := by rw [hω12, ← sω11]; exact zN_s _ _
  clear hω12 mω11 kω11 sω11
  refine p_X7_31 (pc := 67) C N mω12 (Nat.le_of_ble_eq_true rfl) dX7_init_67 ?_
  refine z_nm (fun ω13 hω13 => ?_)
  have sω13 : ω13.2 = m + 77 := by rw [hω13]; exact sω12
  have mω13 : ω13.1 m = some (zOb 7 [.ref (m + 1), .ref (m + 10), .int 0, .ref (m + 11), .ref (m + 53), .int 0, .ref (m + 75), .int (zI ((72 : Nat) : Int)), .ref (m + 76), .null, .null, .null, .null, .null, .null, .null, .null, .null, .null, .null, .null, .null, .null, .null]) := z_at hω13 (zU_s _ _ _)
  have kω13 : ∀ b : Nat, b < m → ω13.1 b = ω.1 b := fun b hb => by rw [hω13]; exact (zU_n (by omega)).trans (kω12 b hb)
  have Sω13 : ∀ b : Nat, m < b → b < m + 77 → ω13.1 b = ω12.1 b := fun b h1 h2 => by rw [hω13]; exact zU_n (by omega)
  clear hω13 mω12 sω12 kω12
  refine z_aload_n (i := 0) (pc := 70) C rfl rfl dX7_init_70 ?_
  refine z_sipush (pc := 71) C (by decide +kernel) dX7_init_71 ?_
  refine z_bipush (pc := 74) C (by decide +kernel) dX7_init_74 ?_
  refine z_multi (pc := 76) C (N := 901) (K := 72) rfl (Nat.le_of_ble_eq_true rfl) rfl (Nat.le_of_ble_eq_true rfl) cl_X7_9 ac_int (by decide +kernel) (by decide +kernel) dX7_init_76 ?_
  rw [sω13]
  refine z_nm (fun ω14 hω14 => ?_)
  have sω14 : ω14.2 = m + 979 := by rw [hω14]; show _ + 1 + _ = _; omega
  have mω14 := z_at hω14 (zM_n' (by omega) mω13)
  have kω14 : ∀ b : Nat, b < m → ω14.1 b = ω.1 b := fun b hb => by rw [hω14]; exact (zM_n (by omega)).trans (kω13 b hb)
  have Sω14 : ∀ b : Nat, m < b → b < m + 77 → ω14.1 b = ω13.1 b := fun b h1 h2 => by rw [hω14]; exact zM_n (by omega)
  have n77 : zMx X ω14 (m + 77) 901 72 (fun _ _ => 0) := zMx.of hω14 sω13
  clear hω14 mω13 kω13 sω13
  refine p_X7_34 (pc := 80) C N mω14 (Nat.le_of_ble_eq_true rfl) dX7_init_80 ?_
  refine z_nm (fun ω15 hω15 => ?_)
  have sω15 : ω15.2 = m + 979 := by rw [hω15]; exact sω14
  have mω15 : ω15.1 m = some (zOb 7 [.ref (m + 1), .ref (m + 10), .int 0, .ref (m + 11), .ref (m + 53), .int 0, .ref (m + 75), .int (zI ((72 : Nat) : Int)), .ref (m + 76), .ref (m + 77), .null, .null, .null, .null, .null, .null, .null, .null, .null, .null, .null, .null, .null, .null]) := z_at hω15 (zU_s _ _ _)
  have kω15 : ∀ b : Nat, b < m → ω15.1 b = ω.1 b := fun b hb => by rw [hω15]; exact (zU_n (by omega)).trans (kω14 b hb)
  have Sω15 : ∀ b : Nat, m < b → b < m + 979 → ω15.1 b = ω14.1 b := fun b h1 h2 => by rw [hω15]; exact zU_n (by omega)
  clear hω15 mω14 sω14 kω14
  refine z_aload_n (i := 0) (pc := 83) C rfl rfl dX7_init_83 ?_
  refine z_sipush (pc := 84) C (by decide +kernel) dX7_init_84 ?_
  refine z_bipush (pc := 87) C (by decide +kernel) dX7_init_87 ?_
  refine z_multi (pc := 89) C (N := 901) (K := 72) rfl (Nat.le_of_ble_eq_true rfl) rfl (Nat.le_of_ble_eq_true rfl) cl_X7_9 ac_int (by decide +kernel) (by decide +kernel) dX7_init_89 ?_
  rw [sω15]
  refine z_nm (fun ω16 hω16 => ?_)
  have sω16 : ω16.2 = m + 1881 := by rw [hω16]; show _ + 1 + _ = _; omega
  have mω16 := z_at hω16 (zM_n' (by omega) mω15)
  have kω16 : ∀ b : Nat, b < m → ω16.1 b = ω.1 b := fun b hb => by rw [hω16]; exact (zM_n (by omega)).trans (kω15 b hb)
  have Sω16 : ∀ b : Nat, m < b → b < m + 979 → ω16.1 b = ω15.1 b := fun b h1 h2 => by rw [hω16]; exact zM_n (by omega)
  have n979 : zMx X ω16 (m + 979) 901 72 (fun _ _ => 0) := zMx.of hω16 sω15
  clear hω16 mω15 kω15 sω15
  refine p_X7_37 (pc := 93) C N mω16 (Nat.le_of_ble_eq_true rfl) dX7_init_93 ?_
  refine z_nm (fun ω17 hω17 => ?_)
  have sω17 : ω17.2 = m + 1881 := by rw [hω17]; exact sω16
  have mω17 : ω17.1 m = some (zOb 7 [.ref (m + 1), .ref (m + 10), .int 0, .ref (m + 11), .ref (m + 53), .int 0, .ref (m + 75), .int (zI ((72 : Nat) : Int)), .ref (m + 76), .ref (m + 77), .ref (m + 979), .null, .null, .null, .null, .null, .null, .null, .null, .null, .null, .null, .null, .null]) := z_at hω17 (zU_s _ _ _)
  have kω17 : ∀ b : Nat, b < m → ω17.1 b = ω.1 b := fun b hb => by rw [hω17]; exact (zU_n (by omega)).trans (kω16 b hb)
  have Sω17 : ∀ b : Nat, m < b → b < m + 1881 → ω17.1 b = ω16.1 b := fun b h1 h2 => by rw [hω17]; exact zU_n (by omega)
  clear hω17 mω16 sω16 kω16
  refine z_aload_n (i := 0) (pc := 96) C rfl rfl dX7_init_96 ?_
  refine z_bipush (pc := 97) C (by decide +kernel) dX7_init_97 ?_
  refine z_bipush (pc := 99) C (by decide +kernel) dX7_init_99 ?_
  refine z_multi (pc := 101) C (N := 41) (K := 72) rfl (Nat.le_of_ble_eq_true rfl) rfl (Nat.le_of_ble_eq_true rfl) cl_X7_9 ac_int (by decide +kernel) (by decide +kernel) dX7_init_101 ?_
  rw [sω17]
  refine z_nm (fun ω18 hω18 => ?_)
  have sω18 : ω18.2 = m + 1923 := by rw [hω18]; show _ + 1 + _ = _; omega
  have mω18 := z_at hω18 (zM_n' (by omega) mω17)
  have kω18 : ∀ b : Nat, b < m → ω18.1 b = ω.1 b := fun b hb => by rw [hω18]; exact (zM_n (by omega)).trans (kω17 b hb)
  have Sω18 : ∀ b : Nat, m < b → b < m + 1881 → ω18.1 b = ω17.1 b := fun b h1 h2 => by rw [hω18]; exact zM_n (by omega)
  have n1881 : zMx X ω18 (m + 1881) 41 72 (fun _ _ => 0) := zMx.of hω18 sω17
  clear hω18 mω17 kω17 sω17
  refine p_X7_40 (pc := 105) C N mω18 (Nat.le_of_ble_eq_true rfl) dX7_init_105 ?_
  refine z_nm (fun ω19 hω19 => ?_)
  have sω19 : ω19.2 = m + 1923 := by rw [hω19]; exact sω18
  have mω19 : ω19.1 m = some (zOb 7 [.ref (m + 1), .ref (m + 10), .int 0, .ref (m + 11), .ref (m + 53), .int 0, .ref (m + 75), .int (zI ((72 : Nat) : Int)), .ref (m + 76), .ref (m + 77), .ref (m + 979), .ref (m + 1881), .null, .null, .null, .null, .null, .null, .null, .null, .null, .null, .null, .null]) := z_at hω19 (zU_s _ _ _)
  have kω19 : ∀ b : Nat, b < m → ω19.1 b = ω.1 b := fun b hb => by rw [hω19]; exact (zU_n (by omega)).trans (kω18 b hb)
  have Sω19 : ∀ b : Nat, m < b → b < m + 1923 → ω19.1 b = ω18.1 b := fun b h1 h2 => by rw [hω19]; exact zU_n (by omega)
  clear hω19 mω18 sω18 kω18
  refine z_aload_n (i := 0) (pc := 108) C rfl rfl dX7_init_108 ?_
  refine z_bipush (pc := 109) C (by decide +kernel) dX7_init_109 ?_
  refine z_bipush (pc := 111) C (by decide +kernel) dX7_init_111 ?_
  refine z_multi (pc := 113) C (N := 21) (K := 72) rfl (Nat.le_of_ble_eq_true rfl) rfl (Nat.le_of_ble_eq_true rfl) cl_X7_9 ac_int (by decide +kernel) (by decide +kernel) dX7_init_113 ?_
  rw [sω19]
  refine z_nm (fun ω20 hω20 => ?_)
  have sω20 : ω20.2 = m + 1945 := by rw [hω20]; show _ + 1 + _ = _; omega
  have mω20 := z_at hω20 (zM_n' (by omega) mω19)
  have kω20 : ∀ b : Nat, b < m → ω20.1 b = ω.1 b := fun b hb => by rw [hω20]; exact (zM_n (by omega)).trans (kω19 b hb)
  have Sω20 : ∀ b : Nat, m < b → b < m + 1923 → ω20.1 b = ω19.1 b := fun b h1 h2 => by rw [hω20]; exact zM_n (by omega)
  have n1923 : zMx X ω20 (m + 1923) 21 72 (fun _ _ => 0) := zMx.of hω20 sω19
  clear hω20 mω19 kω19 sω19
  refine p_X7_43 (pc := 117) C N mω20 (Nat.le_of_ble_eq_true rfl) dX7_init_117 ?_
  refine z_nm (fun ω21 hω21 => ?_)
  have sω21 : ω21.2 = m + 1945 := by rw [hω21]; exact sω20
  have mω21 : ω21.1 m = some (zOb 7 [.ref (m + 1), .ref (m + 10), .int 0, .ref (m + 11), .ref (m + 53), .int 0, .ref (m + 75), .int (zI ((72 : Nat) : Int)), .ref (m + 76), .ref (m + 77), .ref (m + 979), .ref (m + 1881), .ref (m + 1923), .null, .null, .null, .null, .null, .null, .null, .null, .null, .null, .null]) := z_at hω21 (zU_s _ _ _)
  have kω21 : ∀ b : Nat, b < m → ω21.1 b = ω.1 b := fun b hb => by rw [hω21]; exact (zU_n (by omega)).trans (kω20 b hb)
  have Sω21 : ∀ b : Nat, m < b → b < m + 1945 → ω21.1 b = ω20.1 b := fun b h1 h2 => by rw [hω21]; exact zU_n (by omega)
  clear hω21 mω20 sω20 kω20
  refine z_aload_n (i := 0) (pc := 120) C rfl rfl dX7_init_120 ?_
  refine z_bipush (pc := 121) C (by decide +kernel) dX7_init_121 ?_
  refine z_newI (pc := 123) C (N := 72) rfl (Nat.le_of_ble_eq_true rfl) ac_int (by decide +kernel) (by decide +kernel) dX7_init_123 ?_
  rw [sω21]
  refine z_nm (fun ω22 hω22 => ?_)
  have sω22 : ω22.2 = m + 1946 := by rw [hω22]; show _ + 1 = _; omega
  have mω22 := z_at hω22 (zN_n' (by omega) mω21)
  have kω22 : ∀ b : Nat, b < m → ω22.1 b = ω.1 b := fun b hb => by rw [hω22]; exact (zN_n (by omega)).trans (kω21 b hb)
  have Sω22 : ∀ b : Nat, m < b → b < m + 1945 → ω22.1 b = ω21.1 b := fun b h1 h2 => by rw [hω22]; exact zN_n (by omega)
  have n1945 : ω22.1 (m + 1945) = some (zAI X 72 (fun _ => 0)) := by rw [hω22, ← sω21]; exact zN_s _ _
  clear hω22 mω21 kω21 sω21
  refine p_X7_46 (pc := 125) C N mω22 (Nat.le_of_ble_eq_true rfl) dX7_init_125 ?_
  refine z_nm (fun ω23 hω23 => ?_)
  have sω23 : ω23.2 = m + 1946 := by rw [hω23]; exact sω22
  have mω23 : ω23.1 m = some (zOb 7 [.ref (m + 1), .ref (m + 10), .int 0, .ref (m + 11), .ref (m + 53), .int 0, .ref (m + 75), .int (zI ((72 : Nat) : Int)), .ref (m + 76), .ref (m + 77), .ref (m + 979), .ref (m + 1881), .ref (m + 1923), .ref (m + 1945), .null, .null, .null, .null, .null, .null, .null, .null, .null, .null]) := z_at hω23 (zU_s _ _ _)
  have kω23 : ∀ b : Nat, b < m → ω23.1 b = ω.1 b := fun b hb => by rw [hω23]; exact (zU_n (by omega)).trans (kω22 b hb)
  have Sω23 : ∀ b : Nat, m < b → b < m + 1946 → ω23.1 b = ω22.1 b := fun b h1 h2 => by rw [hω23]; exact zU_n (by omega)
  clear hω23 mω22 sω22 kω22
  refine z_aload_n (i := 0) (pc := 128) C rfl rfl dX7_init_128 ?_
  refine z_bipush (pc := 129) C (by decide +kernel) dX7_init_129 ?_
  refine z_newI (pc := 131) C (N := 72) rfl (Nat.le_of_ble_eq_true rfl) ac_int (by decide +kernel) (by decide +kernel) dX7_init_131 ?_
  rw [sω23]
  refine z_nm (fun ω24 hω24 => ?_)
  have sω24 : ω24.2 = m + 1947 := by rw [hω24]; show _ + 1 = _; omega
  have mω24 := z_at hω24 (zN_n' (by omega) mω23)
  have kω24 : ∀ b : Nat, b < m → ω24.1 b = ω.1 b := fun b hb => by rw [hω24]; exact (zN_n (by omega)).trans (kω23 b hb)
  have Sω24 : ∀ b : Nat, m < b → b < m + 1946 → ω24.1 b = ω23.1 b := fun b h1 h2 => by rw [hω24]; exact zN_n (by omega)
  have n1946 : ω24.1 (m + 1946) = some (zAI X 72 (fun _ => 0)) := by rw [hω24, ← sω23]; exact zN_s _ _
  clear hω24 mω23 kω23 sω23
  refine p_X7_49 (pc := 133) C N mω24 (Nat.le_of_ble_eq_true rfl) dX7_init_133 ?_
  refine z_nm (fun ω25 hω25 => ?_)
  have sω25 : ω25.2 = m + 1947 := by rw [hω25]; exact sω24
  have mω25 : ω25.1 m = some (zOb 7 [.ref (m + 1), .ref (m + 10), .int 0, .ref (m + 11), .ref (m + 53), .int 0, .ref (m + 75), .int (zI ((72 : Nat) : Int)), .ref (m + 76), .ref (m + 77), .ref (m + 979), .ref (m + 1881), .ref (m + 1923), .ref (m + 1945), .ref (m + 1946), .null, .null, .null, .null, .null, .null, .null, .null, .null]) := z_at hω25 (zU_s _ _ _)
  have kω25 : ∀ b : Nat, b < m → ω25.1 b = ω.1 b := fun b hb => by rw [hω25]; exact (zU_n (by omega)).trans (kω24 b hb)
  have Sω25 : ∀ b : Nat, m < b → b < m + 1947 → ω25.1 b = ω24.1 b := fun b h1 h2 => by rw [hω25]; exact zU_n (by omega)
  clear hω25 mω24 sω24 kω24
  refine z_aload_n (i := 0) (pc := 136) C rfl rfl dX7_init_136 ?_
  refine z_bipush (pc := 137) C (by decide +kernel) dX7_init_137 ?_
  refine z_bipush (pc := 139) C (by decide +kernel) dX7_init_139 ?_
  refine z_multi (pc := 141) C (N := 64) (K := 72) rfl (Nat.le_of_ble_eq_true rfl) rfl (Nat.le_of_ble_eq_true rfl) cl_X7_9 ac_int (by decide +kernel) (by decide +kernel) dX7_init_141 ?_
  rw [sω25]
  refine z_nm (fun ω26 hω26 => ?_)
  have sω26 : ω26.2 = m + 2012 := by rw [hω26]; show _ + 1 + _ = _; omega
  have mω26 := z_at hω26 (zM_n' (by omega) mω25)
  have kω26 : ∀ b : Nat, b < m → ω26.1 b = ω.1 b := fun b hb => by rw [hω26]; exact (zM_n (by omega)).trans (kω25 b hb)
  have Sω26 : ∀ b : Nat, m < b → b < m + 1947 → ω26.1 b = ω25.1 b := fun b h1 h2 => by rw [hω26]; exact zM_n (by omega)
  have n1947 : zMx X ω26 (m + 1947) 64 72 (fun _ _ => 0) := zMx.of hω26 sω25
  clear hω26 mω25 kω25 sω25
  refine p_X7_52 (pc := 145) C N mω26 (Nat.le_of_ble_eq_true rfl) dX7_init_145 ?_
  refine z_nm (fun ω27 hω27 => ?_)
  have sω27 : ω27.2 = m + 2012 := by rw [hω27]; exact sω26
  have mω27 : ω27.1 m = some (zOb 7 [.ref (m + 1), .ref (m + 10), .int 0, .ref (m + 11), .ref (m + 53), .int 0, .ref (m + 75), .int (zI ((72 : Nat) : Int)), .ref (m + 76), .ref (m + 77), .ref (m + 979), .ref (m + 1881), .ref (m + 1923), .ref (m + 1945), .ref (m + 1946), .ref (m + 1947), .null, .null, .null, .null, .null, .null, .null, .null]) := z_at hω27 (zU_s _ _ _)
  have kω27 : ∀ b : Nat, b < m → ω27.1 b = ω.1 b := fun b hb => by rw [hω27]; exact (zU_n (by omega)).trans (kω26 b hb)
  have Sω27 : ∀ b : Nat, m < b → b < m + 2012 → ω27.1 b = ω26.1 b := fun b h1 h2 => by rw [hω27]; exact zU_n (by omega)
  clear hω27 mω26 sω26 kω26
  refine z_aload_n (i := 0) (pc := 148) C rfl rfl dX7_init_148 ?_
  refine z_bipush (pc := 149) C (by decide +kernel) dX7_init_149 ?_
  refine z_bipush (pc := 151) C (by decide +kernel) dX7_init_151 ?_
  refine z_multi (pc := 153) C (N := 64) (K := 72) rfl (Nat.le_of_ble_eq_true rfl) rfl (Nat.le_of_ble_eq_true rfl) cl_X7_9 ac_int (by decide +kernel) (by decide +kernel) dX7_init_153 ?_
  rw [sω27]
  refine z_nm (fun ω28 hω28 => ?_)
  have sω28 : ω28.2 = m + 2077 := by rw [hω28]; show _ + 1 + _ = _; omega
  have mω28 := z_at hω28 (zM_n' (by omega) mω27)
  have kω28 : ∀ b : Nat, b < m → ω28.1 b = ω.1 b := fun b hb => by rw [hω28]; exact (zM_n (by omega)).trans (kω27 b hb)
  have Sω28 : ∀ b : Nat, m < b → b < m + 2012 → ω28.1 b = ω27.1 b := fun b h1 h2 => by rw [hω28]; exact zM_n (by omega)
  have n2012 : zMx X ω28 (m + 2012) 64 72 (fun _ _ => 0) := zMx.of hω28 sω27
  clear hω28 mω27 kω27 sω27
  refine p_X7_55 (pc := 157) C N mω28 (Nat.le_of_ble_eq_true rfl) dX7_init_157 ?_
  refine z_nm (fun ω29 hω29 => ?_)
  have sω29 : ω29.2 = m + 2077 := by rw [hω29]; exact sω28
  have mω29 : ω29.1 m = some (zOb 7 [.ref (m + 1), .ref (m + 10), .int 0, .ref (m + 11), .ref (m + 53), .int 0, .ref (m + 75), .int (zI ((72 : Nat) : Int)), .ref (m + 76), .ref (m + 77), .ref (m + 979), .ref (m + 1881), .ref (m + 1923), .ref (m + 1945), .ref (m + 1946), .ref (m + 1947), .ref (m + 2012), .null, .null, .null, .null, .null, .null, .null]) := z_at hω29 (zU_s _ _ _)
  have kω29 : ∀ b : Nat, b < m → ω29.1 b = ω.1 b := fun b hb => by rw [hω29]; exact (zU_n (by omega)).trans (kω28 b hb)
  have Sω29 : ∀ b : Nat, m < b → b < m + 2077 → ω29.1 b = ω28.1 b := fun b h1 h2 => by rw [hω29]; exact zU_n (by omega)
  clear hω29 mω28 sω28 kω28
  refine z_aload_n (i := 0) (pc := 160) C rfl rfl dX7_init_160 ?_
  refine z_bipush (pc := 161) C (by decide +kernel) dX7_init_161 ?_
  refine z_newI (pc := 163) C (N := 72) rfl (Nat.le_of_ble_eq_true rfl) ac_int (by decide +kernel) (by decide +kernel) dX7_init_163 ?_
  rw [sω29]
  refine z_nm (fun ω30 hω30 => ?_)
  have sω30 : ω30.2 = m + 2078 := by rw [hω30]; show _ + 1 = _; omega
  have mω30 := z_at hω30 (zN_n' (by omega) mω29)
  have kω30 : ∀ b : Nat, b < m → ω30.1 b = ω.1 b := fun b hb => by rw [hω30]; exact (zN_n (by omega)).trans (kω29 b hb)
  have Sω30 : ∀ b : Nat, m < b → b < m + 2077 → ω30.1 b = ω29.1 b := fun b h1 h2 => by rw [hω30]; exact zN_n (by omega)
  have n2077 : ω30.1 (m + 2077) = some (zAI X 72 (fun _ => 0)) := by rw [hω30, ← sω29]; exact zN_s _ _
  clear hω30 mω29 kω29 sω29
  refine p_X7_58 (pc := 165) C N mω30 (Nat.le_of_ble_eq_true rfl) dX7_init_165 ?_
  refine z_nm (fun ω31 hω31 => ?_)
  have sω31 : ω31.2 = m + 2078 := by rw [hω31]; exact sω30
  have mω31 : ω31.1 m = some (zOb 7 [.ref (m + 1), .ref (m + 10), .int 0, .ref (m + 11), .ref (m + 53), .int 0, .ref (m + 75), .int (zI ((72 : Nat) : Int)), .ref (m + 76), .ref (m + 77), .ref (m + 979), .ref (m + 1881), .ref (m + 1923), .ref (m + 1945), .ref (m + 1946), .ref (m + 1947), .ref (m + 2012), .ref (m + 2077), .null, .null, .null, .null, .null, .null]) := z_at hω31 (zU_s _ _ _)
  have kω31 : ∀ b : Nat, b < m → ω31.1 b = ω.1 b := fun b hb => by rw [hω31]; exact (zU_n (by omega)).trans (kω30 b hb)
  have Sω31 : ∀ b : Nat, m < b → b < m + 2078 → ω31.1 b = ω30.1 b := fun b h1 h2 => by rw [hω31]; exact zU_n (by omega)
  clear hω31 mω30 sω30 kω30
  refine z_aload_n (i := 0) (pc := 168) C rfl rfl dX7_init_168 ?_
  refine z_bipush (pc := 169) C (by decide +kernel) dX7_init_169 ?_
  refine z_newI (pc := 171) C (N := 72) rfl (Nat.le_of_ble_eq_true rfl) ac_int (by decide +kernel) (by decide +kernel) dX7_init_171 ?_
  rw [sω31]
  refine z_nm (fun ω32 hω32 => ?_)
  have sω32 : ω32.2 = m + 2079 := by rw [hω32]; show _ + 1 = _; omega
  have mω32 := z_at hω32 (zN_n' (by omega) mω31)
  have kω32 : ∀ b : Nat, b < m → ω32.1 b = ω.1 b := fun b hb => by rw [hω32]; exact (zN_n (by omega)).trans (kω31 b hb)
  have Sω32 : ∀ b : Nat, m < b → b < m + 2078 → ω32.1 b = ω31.1 b := fun b h1 h2 => by rw [hω32]; exact zN_n (by omega)
  have n2078 : ω32.1 (m + 2078) = some (zAI X 72 (fun _ => 0)) := by rw [hω32, ← sω31]; exact zN_s _ _
  clear hω32 mω31 kω31 sω31
  refine p_X7_61 (pc := 173) C N mω32 (Nat.le_of_ble_eq_true rfl) dX7_init_173 ?_
  refine z_nm (fun ω33 hω33 => ?_)
  have sω33 : ω33.2 = m + 2079 := by rw [hω33]; exact sω32
  have mω33 : ω33.1 m = some (zOb 7 [.ref (m + 1), .ref (m + 10), .int 0, .ref (m + 11), .ref (m + 53), .int 0, .ref (m + 75), .int (zI ((72 : Nat) : Int)), .ref (m + 76), .ref (m + 77), .ref (m + 979), .ref (m + 1881), .ref (m + 1923), .ref (m + 1945), .ref (m + 1946), .ref (m + 1947), .ref (m + 2012), .ref (m + 2077), .ref (m + 2078), .null, .null, .null, .null, .null]) := z_at hω33 (zU_s _ _ _)
  have kω33 : ∀ b : Nat, b < m → ω33.1 b = ω.1 b := fun b hb => by rw [hω33]; exact (zU_n (by omega)).trans (kω32 b hb)
  have Sω33 : ∀ b : Nat, m < b → b < m + 2079 → ω33.1 b = ω32.1 b := fun b h1 h2 => by rw [hω33]; exact zU_n (by omega)
  clear hω33 mω32 sω32 kω32
  refine z_aload_n (i := 0) (pc := 176) C rfl rfl dX7_init_176 ?_
  refine z_sipush (pc := 177) C (by decide +kernel) dX7_init_177 ?_
  refine z_bipush (pc := 180) C (by decide +kernel) dX7_init_180 ?_
  refine z_multi (pc := 182) C (N := 181) (K := 72) rfl (Nat.le_of_ble_eq_true rfl) rfl (Nat.le_of_ble_eq_true rfl) cl_X7_9 ac_int (by decide +kernel) (by decide +kernel) dX7_init_182 ?_
  rw [sω33]
  refine z_nm (fun ω34 hω34 => ?_)
  have sω34 : ω34.2 = m + 2261 := by rw [hω34]; show _ + 1 + _ = _; omega
  have mω34 := z_at hω34 (zM_n' (by omega) mω33)
  have kω34 : ∀ b : Nat, b < m → ω34.1 b = ω.1 b := fun b hb => by rw [hω34]; exact (zM_n (by omega)).trans (kω33 b hb)
  have Sω34 : ∀ b : Nat, m < b → b < m + 2079 → ω34.1 b = ω33.1 b := fun b h1 h2 => by rw [hω34]; exact zM_n (by omega)
  have n2079 : zMx X ω34 (m + 2079) 181 72 (fun _ _ => 0) := zMx.of hω34 sω33
  clear hω34 mω33 kω33 sω33
  refine p_X7_64 (pc := 186) C N mω34 (Nat.le_of_ble_eq_true rfl) dX7_init_186 ?_
  refine z_nm (fun ω35 hω35 => ?_)
  have sω35 : ω35.2 = m + 2261 := by rw [hω35]; exact sω34
  have mω35 : ω35.1 m = some (zOb 7 [.ref (m + 1), .ref (m + 10), .int 0, .ref (m + 11), .ref (m + 53), .int 0, .ref (m + 75), .int (zI ((72 : Nat) : Int)), .ref (m + 76), .ref (m + 77), .ref (m + 979), .ref (m + 1881), .ref (m + 1923), .ref (m + 1945), .ref (m + 1946), .ref (m + 1947), .ref (m + 2012), .ref (m + 2077), .ref (m + 2078), .ref (m + 2079), .null, .null, .null, .null]) := z_at hω35 (zU_s _ _ _)
  have kω35 : ∀ b : Nat, b < m → ω35.1 b = ω.1 b := fun b hb => by rw [hω35]; exact (zU_n (by omega)).trans (kω34 b hb)
  have Sω35 : ∀ b : Nat, m < b → b < m + 2261 → ω35.1 b = ω34.1 b := fun b h1 h2 => by rw [hω35]; exact zU_n (by omega)
  clear hω35 mω34 sω34 kω34
  refine z_aload_n (i := 0) (pc := 189) C rfl rfl dX7_init_189 ?_
  refine z_sipush (pc := 190) C (by decide +kernel) dX7_init_190 ?_
  refine z_bipush (pc := 193) C (by decide +kernel) dX7_init_193 ?_
  refine z_multi (pc := 195) C (N := 181) (K := 72) rfl (Nat.le_of_ble_eq_true rfl) rfl (Nat.le_of_ble_eq_true rfl) cl_X7_9 ac_int (by decide +kernel) (by decide +kernel) dX7_init_195 ?_
  rw [sω35]
  refine z_nm (fun ω36 hω36 => ?_)
  have sω36 : ω36.2 = m + 2443 := by rw [hω36]; show _ + 1 + _ = _; omega
  have mω36 := z_at hω36 (zM_n' (by omega) mω35)
  have kω36 : ∀ b : Nat, b < m → ω36.1 b = ω.1 b := fun b hb => by rw [hω36]; exact (zM_n (by omega)).trans (kω35 b hb)
  have Sω36 : ∀ b : Nat, m < b → b < m + 2261 → ω36.1 b = ω35.1 b := fun b h1 h2 => by rw [hω36]; exact zM_n (by omega)
  have n2261 : zMx X ω36 (m + 2261) 181 72 (fun _ _ => 0) := zMx.of hω36 sω35
  clear hω36 mω35 kω35 sω35
  refine p_X7_67 (pc := 199) C N mω36 (Nat.le_of_ble_eq_true rfl) dX7_init_199 ?_
  refine z_nm (fun ω37 hω37 => ?_)
  have sω37 : ω37.2 = m + 2443 := by rw [hω37]; exact sω36
  have mω37 : ω37.1 m = some (zOb 7 [.ref (m + 1), .ref (m + 10), .int 0, .ref (m + 11), .ref (m + 53), .int 0, .ref (m + 75), .int (zI ((72 : Nat) : Int)), .ref (m + 76), .ref (m + 77), .ref (m + 979), .ref (m + 1881), .ref (m + 1923), .ref (m + 1945), .ref (m + 1946), .ref (m + 1947), .ref (m + 2012), .ref (m + 2077), .ref (m + 2078), .ref (m + 2079), .ref (m + 2261), .null, .null, .null]) := z_at hω37 (zU_s _ _ _)
  have kω37 : ∀ b : Nat, b < m → ω37.1 b = ω.1 b := fun b hb => by rw [hω37]; exact (zU_n (by omega)).trans (kω36 b hb)
  have Sω37 : ∀ b : Nat, m < b → b < m + 2443 → ω37.1 b = ω36.1 b := fun b h1 h2 => by rw [hω37]; exact zU_n (by omega)
  clear hω37 mω36 sω36 kω36
  refine z_aload_n (i := 0) (pc := 202) C rfl rfl dX7_init_202 ?_
  refine z_bipush (pc := 203) C (by decide +kernel) dX7_init_203 ?_
  refine z_newI (pc := 205) C (N := 72) rfl (Nat.le_of_ble_eq_true rfl) ac_int (by decide +kernel) (by decide +kernel) dX7_init_205 ?_
  rw [sω37]
  refine z_nm (fun ω38 hω38 => ?_)
  have sω38 : ω38.2 = m + 2444 := by rw [hω38]; show _ + 1 = _; omega
  have mω38 := z_at hω38 (zN_n' (by omega) mω37)
  have kω38 : ∀ b : Nat, b < m → ω38.1 b = ω.1 b := fun b hb => by rw [hω38]; exact (zN_n (by omega)).trans (kω37 b hb)
  have Sω38 : ∀ b : Nat, m < b → b < m + 2443 → ω38.1 b = ω37.1 b := fun b h1 h2 => by rw [hω38]; exact zN_n (by omega)
  have n2443 : ω38.1 (m + 2443) = some (zAI X 72 (fun _ => 0)) := by rw [hω38, ← sω37]; exact zN_s _ _
  clear hω38 mω37 kω37 sω37
  refine p_X7_70 (pc := 207) C N mω38 (Nat.le_of_ble_eq_true rfl) dX7_init_207 ?_
  refine z_nm (fun ω39 hω39 => ?_)
  have sω39 : ω39.2 = m + 2444 := by rw [hω39]; exact sω38
  have mω39 : ω39.1 m = some (zOb 7 [.ref (m + 1), .ref (m + 10), .int 0, .ref (m + 11), .ref (m + 53), .int 0, .ref (m + 75), .int (zI ((72 : Nat) : Int)), .ref (m + 76), .ref (m + 77), .ref (m + 979), .ref (m + 1881), .ref (m + 1923), .ref (m + 1945), .ref (m + 1946), .ref (m + 1947), .ref (m + 2012), .ref (m + 2077), .ref (m + 2078), .ref (m + 2079), .ref (m + 2261), .ref (m + 2443), .null, .null]) := z_at hω39 (zU_s _ _ _)
  have kω39 : ∀ b : Nat, b < m → ω39.1 b = ω.1 b := fun b hb => by rw [hω39]; exact (zU_n (by omega)).trans (kω38 b hb)
  have Sω39 : ∀ b : Nat, m < b → b < m + 2444 → ω39.1 b = ω38.1 b := fun b h1 h2 => by rw [hω39]; exact zU_n (by omega)
  clear hω39 mω38 sω38 kω38
  refine z_aload_n (i := 0) (pc := 210) C rfl rfl dX7_init_210 ?_
  refine z_bipush (pc := 211) C (by decide +kernel) dX7_init_211 ?_
  refine z_newI (pc := 213) C (N := 72) rfl (Nat.le_of_ble_eq_true rfl) ac_int (by decide +kernel) (by decide +kernel) dX7_init_213 ?_
  rw [sω39]
  refine z_nm (fun ω40 hω40 => ?_)
  have sω40 : ω40.2 = m + 2445 := by rw [hω40]; show _ + 1 = _; omega
  have mω40 := z_at hω40 (zN_n' (by omega) mω39)
  have kω40 : ∀ b : Nat, b < m → ω40.1 b = ω.1 b := fun b hb => by rw [hω40]; exact (zN_n (by omega)).trans (kω39 b hb)
  have Sω40 : ∀ b : Nat, m < b → b < m + 2444 → ω40.1 b = ω39.1 b := fun b h1 h2 => by rw [hω40]; exact zN_n (by omega)
  have n2444 : ω40.1 (m + 2444) = some (zAI X 72 (fun _ => 0)) := by rw [hω40, ← sω39]; exact zN_s _ _
  clear hω40 mω39 kω39 sω39
  refine p_X7_73 (pc := 215) C N mω40 (Nat.le_of_ble_eq_true rfl) dX7_init_215 ?_
  refine z_nm (fun ω41 hω41 => ?_)
  have sω41 : ω41.2 = m + 2445 := by rw [hω41]; exact sω40
  have mω41 : ω41.1 m = some (zOb 7 [.ref (m + 1), .ref (m + 10), .int 0, .ref (m + 11), .ref (m + 53), .int 0, .ref (m + 75), .int (zI ((72 : Nat) : Int)), .ref (m + 76), .ref (m + 77), .ref (m + 979), .ref (m + 1881), .ref (m + 1923), .ref (m + 1945), .ref (m + 1946), .ref (m + 1947), .ref (m + 2012), .ref (m + 2077), .ref (m + 2078), .ref (m + 2079), .ref (m + 2261), .ref (m + 2443), .ref (m + 2444), .null]) := z_at hω41 (zU_s _ _ _)
  have kω41 : ∀ b : Nat, b < m → ω41.1 b = ω.1 b := fun b hb => by rw [hω41]; exact (zU_n (by omega)).trans (kω40 b hb)
  have Sω41 : ∀ b : Nat, m < b → b < m + 2445 → ω41.1 b = ω40.1 b := fun b h1 h2 => by rw [hω41]; exact zU_n (by omega)
  clear hω41 mω40 sω40 kω40
  refine z_aload_n (i := 0) (pc := 218) C rfl rfl dX7_init_218 ?_
  refine z_sipush (pc := 219) C (by decide +kernel) dX7_init_219 ?_
  refine z_anewR (pc := 222) C (N := 3698) rfl (Nat.le_of_ble_eq_true rfl) cl_X7_76 (by decide +kernel) (by decide +kernel) dX7_init_222 ?_
  rw [sω41]
  refine z_nm (fun ω42 hω42 => ?_)
  have sω42 : ω42.2 = m + 2446 := by rw [hω42]; show _ + 1 = _; omega
  have mω42 := z_at hω42 (zN_n' (by omega) mω41)
  have kω42 : ∀ b : Nat, b < m → ω42.1 b = ω.1 b := fun b hb => by rw [hω42]; exact (zN_n (by omega)).trans (kω41 b hb)
  have Sω42 : ∀ b : Nat, m < b → b < m + 2445 → ω42.1 b = ω41.1 b := fun b h1 h2 => by rw [hω42]; exact zN_n (by omega)
  have n2445 : ω42.1 (m + 2445) = some (zAR X 3698 (fun _ => none)) := by rw [hω42, ← sω41]; exact zN_s _ _
  clear hω42 mω41 kω41 sω41
  refine p_X7_77 (pc := 225) C N mω42 (Nat.le_of_ble_eq_true rfl) dX7_init_225 ?_
  refine z_nm (fun ω43 hω43 => ?_)
  have sω43 : ω43.2 = m + 2446 := by rw [hω43]; exact sω42
  have mω43 : ω43.1 m = some (zOb 7 [.ref (m + 1), .ref (m + 10), .int 0, .ref (m + 11), .ref (m + 53), .int 0, .ref (m + 75), .int (zI ((72 : Nat) : Int)), .ref (m + 76), .ref (m + 77), .ref (m + 979), .ref (m + 1881), .ref (m + 1923), .ref (m + 1945), .ref (m + 1946), .ref (m + 1947), .ref (m + 2012), .ref (m + 2077), .ref (m + 2078), .ref (m + 2079), .ref (m + 2261), .ref (m + 2443), .ref (m + 2444), .ref (m + 2445)]) := z_at hω43 (zU_s _ _ _)
  have kω43 : ∀ b : Nat, b < m → ω43.1 b = ω.1 b := fun b hb => by rw [hω43]; exact (zU_n (by omega)).trans (kω42 b hb)
  have Sω43 : ∀ b : Nat, m < b → b < m + 2446 → ω43.1 b = ω42.1 b := fun b h1 h2 => by rw [hω43]; exact zU_n (by omega)
  clear hω43 mω42 sω42 kω42
  have Eω43 : ∀ b : Nat, m < b → b < m + 2446 → ω43.1 b = ω43.1 b := fun _ _ _ => rfl
  have Eω42 : ∀ b : Nat, m < b → b < m + 2446 → ω43.1 b = ω42.1 b := fun b h1 h2 => (Eω43 b h1 (by omega)).trans (Sω43 b h1 h2)
  have Eω41 : ∀ b : Nat, m < b → b < m + 2445 → ω43.1 b = ω41.1 b := fun b h1 h2 => (Eω42 b h1 (by omega)).trans (Sω42 b h1 h2)
  have Eω40 : ∀ b : Nat, m < b → b < m + 2445 → ω43.1 b = ω40.1 b := fun b h1 h2 => (Eω41 b h1 (by omega)).trans (Sω41 b h1 h2)
  have Eω39 : ∀ b : Nat, m < b → b < m + 2444 → ω43.1 b = ω39.1 b := fun b h1 h2 => (Eω40 b h1 (by omega)).trans (Sω40 b h1 h2)
  have Eω38 : ∀ b : Nat, m < b → b < m + 2444 → ω43.1 b = ω38.1 b := fun b h1 h2 => (Eω39 b h1 (by omega)).trans (Sω39 b h1 h2)
  have Eω37 : ∀ b : Nat, m < b → b < m + 2443 → ω43.1 b = ω37.1 b := fun b h1 h2 => (Eω38 b h1 (by omega)).trans (Sω38 b h1 h2)
  have Eω36 : ∀ b : Nat, m < b → b < m + 2443 → ω43.1 b = ω36.1 b := fun b h1 h2 => (Eω37 b h1 (by omega)).trans (Sω37 b h1 h2)
  have Eω35 : ∀ b : Nat, m < b → b < m + 2261 → ω43.1 b = ω35.1 b := fun b h1 h2 => (Eω36 b h1 (by omega)).trans (Sω36 b h1 h2)
  have Eω34 : ∀ b : Nat, m < b → b < m + 2261 → ω43.1 b = ω34.1 b := fun b h1 h2 => (Eω35 b h1 (by omega)).trans (Sω35 b h1 h2)
  have Eω33 : ∀ b : Nat, m < b → b < m + 2079 → ω43.1 b = ω33.1 b := fun b h1 h2 => (Eω34 b h1 (by omega)).trans (Sω34 b h1 h2)
  have Eω32 : ∀ b : Nat, m < b → b < m + 2079 → ω43.1 b = ω32.1 b := fun b h1 h2 => (Eω33 b h1 (by omega)).trans (Sω33 b h1 h2)
  have Eω31 : ∀ b : Nat, m < b → b < m + 2078 → ω43.1 b = ω31.1 b := fun b h1 h2 => (Eω32 b h1 (by omega)).trans (Sω32 b h1 h2)
  have Eω30 : ∀ b : Nat, m < b → b < m + 2078 → ω43.1 b = ω30.1 b := fun b h1 h2 => (Eω31 b h1 (by omega)).trans (Sω31 b h1 h2)
  have Eω29 : ∀ b : Nat, m < b → b < m + 2077 → ω43.1 b = ω29.1 b := fun b h1 h2 => (Eω30 b h1 (by omega)).trans (Sω30 b h1 h2)
  have Eω28 : ∀ b : Nat, m < b → b < m + 2077 → ω43.1 b = ω28.1 b := fun b h1 h2 => (Eω29 b h1 (by omega)).trans (Sω29 b h1 h2)
  have Eω27 : ∀ b : Nat, m < b → b < m + 2012 → ω43.1 b = ω27.1 b := fun b h1 h2 => (Eω28 b h1 (by omega)).trans (Sω28 b h1 h2)
  have Eω26 : ∀ b : Nat, m < b → b < m + 2012 → ω43.1 b = ω26.1 b := fun b h1 h2 => (Eω27 b h1 (by omega)).trans (Sω27 b h1 h2)
  have Eω25 : ∀ b : Nat, m < b → b < m + 1947 → ω43.1 b = ω25.1 b := fun b h1 h2 => (Eω26 b h1 (by omega)).trans (Sω26 b h1 h2)
  have Eω24 : ∀ b : Nat, m < b → b < m + 1947 → ω43.1 b = ω24.1 b := fun b h1 h2 => (Eω25 b h1 (by omega)).trans (Sω25 b h1 h2)
  have Eω23 : ∀ b : Nat, m < b → b < m + 1946 → ω43.1 b = ω23.1 b := fun b h1 h2 => (Eω24 b h1 (by omega)).trans (Sω24 b h1 h2)
  have Eω22 : ∀ b : Nat, m < b → b < m + 1946 → ω43.1 b = ω22.1 b := fun b h1 h2 => (Eω23 b h1 (by omega)).trans (Sω23 b h1 h2)
  have Eω21 : ∀ b : Nat, m < b → b < m + 1945 → ω43.1 b = ω21.1 b := fun b h1 h2 => (Eω22 b h1 (by omega)).trans (Sω22 b h1 h2)
  have Eω20 : ∀ b : Nat, m < b → b < m + 1945 → ω43.1 b = ω20.1 b := fun b h1 h2 => (Eω21 b h1 (by omega)).trans (Sω21 b h1 h2)
  have Eω19 : ∀ b : Nat, m < b → b < m + 1923 → ω43.1 b = ω19.1 b := fun b h1 h2 => (Eω20 b h1 (by omega)).trans (Sω20 b h1 h2)
  have Eω18 : ∀ b : Nat, m < b → b < m + 1923 → ω43.1 b = ω18.1 b := fun b h1 h2 => (Eω19 b h1 (by omega)).trans (Sω19 b h1 h2)
  have Eω17 : ∀ b : Nat, m < b → b < m + 1881 → ω43.1 b = ω17.1 b := fun b h1 h2 => (Eω18 b h1 (by omega)).trans (Sω18 b h1 h2)
  have Eω16 : ∀ b : Nat, m < b → b < m + 1881 → ω43.1 b = ω16.1 b := fun b h1 h2 => (Eω17 b h1 (by omega)).trans (Sω17 b h1 h2)
  have Eω15 : ∀ b : Nat, m < b → b < m + 979 → ω43.1 b = ω15.1 b := fun b h1 h2 => (Eω16 b h1 (by omega)).trans (Sω16 b h1 h2)
  have Eω14 : ∀ b : Nat, m < b → b < m + 979 → ω43.1 b = ω14.1 b := fun b h1 h2 => (Eω15 b h1 (by omega)).trans (Sω15 b h1 h2)
  have Eω13 : ∀ b : Nat, m < b → b < m + 77 → ω43.1 b = ω13.1 b := fun b h1 h2 => (Eω14 b h1 (by omega)).trans (Sω14 b h1 h2)
  have Eω12 : ∀ b : Nat, m < b → b < m + 77 → ω43.1 b = ω12.1 b := fun b h1 h2 => (Eω13 b h1 (by omega)).trans (Sω13 b h1 h2)
  have Eω11 : ∀ b : Nat, m < b → b < m + 76 → ω43.1 b = ω11.1 b := fun b h1 h2 => (Eω12 b h1 (by omega)).trans (Sω12 b h1 h2)
  have Eω10 : ∀ b : Nat, m < b → b < m + 76 → ω43.1 b = ω10.1 b := fun b h1 h2 => (Eω11 b h1 (by omega)).trans (Sω11 b h1 h2)
  have Eω9 : ∀ b : Nat, m < b → b < m + 76 → ω43.1 b = ω9.1 b := fun b h1 h2 => (Eω10 b h1 (by omega)).trans (Sω10 b h1 h2)
  have Eω8 : ∀ b : Nat, m < b → b < m + 75 → ω43.1 b = ω8.1 b := fun b h1 h2 => (Eω9 b h1 (by omega)).trans (Sω9 b h1 h2)
  have Eω7 : ∀ b : Nat, m < b → b < m + 75 → ω43.1 b = ω7.1 b := fun b h1 h2 => (Eω8 b h1 (by omega)).trans (Sω8 b h1 h2)
  have Eω6 : ∀ b : Nat, m < b → b < m + 53 → ω43.1 b = ω6.1 b := fun b h1 h2 => (Eω7 b h1 (by omega)).trans (Sω7 b h1 h2)
  have Eω5 : ∀ b : Nat, m < b → b < m + 53 → ω43.1 b = ω5.1 b := fun b h1 h2 => (Eω6 b h1 (by omega)).trans (Sω6 b h1 h2)
  have Eω4 : ∀ b : Nat, m < b → b < m + 11 → ω43.1 b = ω4.1 b := fun b h1 h2 => (Eω5 b h1 (by omega)).trans (Sω5 b h1 h2)
  have Eω3 : ∀ b : Nat, m < b → b < m + 11 → ω43.1 b = ω3.1 b := fun b h1 h2 => (Eω4 b h1 (by omega)).trans (Sω4 b h1 h2)
  have Eω2 : ∀ b : Nat, m < b → b < m + 10 → ω43.1 b = ω2.1 b := fun b h1 h2 => (Eω3 b h1 (by omega)).trans (Sω3 b h1 h2)
  have Eω1 : ∀ b : Nat, m < b → b < m + 10 → ω43.1 b = ω1.1 b := fun b h1 h2 => (Eω2 b h1 (by omega)).trans (Sω2 b h1 h2)
  have mE : ω43.1 m = some (zOb 7 (zMf m 0 0 72)) := mω43
  have hR : zMD X ω43 m (fun _ _ => 0) 0 0 (fun _ => 0) (fun _ => 0) 0 0 := ⟨(fun _ => 0), (fun _ => 0), (fun _ => 0), (fun _ => 0), (fun _ => 0), (fun _ => 0), (fun _ => 0), (fun _ => 0), (fun _ => 0), mE, (n1.kp (fun b h1 h2 => Eω1 b (by omega) (by omega))), (by rw [Eω3 _ (by omega) (by omega)]; exact n10), ⟨_, (n11.kp (fun b h1 h2 => Eω5 b (by omega) (by omega))), fun j hj => zNm_0 (fun _ _ _ => rfl)⟩, ⟨_, (n53.kp (fun b h1 h2 => Eω7 b (by omega) (by omega))), fun j hj => zNm_0 (fun _ _ _ => rfl)⟩, (by rw [Eω9 _ (by omega) (by omega)]; exact n75), (by rw [Eω12 _ (by omega) (by omega)]; exact n76), ⟨_, (n77.kp (fun b h1 h2 => Eω14 b (by omega) (by omega)))⟩, ⟨_, (n979.kp (fun b h1 h2 => Eω16 b (by omega) (by omega)))⟩, ⟨_, (n1881.kp (fun b h1 h2 => Eω18 b (by omega) (by omega)))⟩, ⟨_, (n1923.kp (fun b h1 h2 => Eω20 b (by omega) (by omega)))⟩, (by rw [Eω22 _ (by omega) (by omega)]; exact n1945), (by rw [Eω24 _ (by omega) (by omega)]; exact n1946), ⟨_, (n1947.kp (fun b h1 h2 => Eω26 b (by omega) (by omega)))⟩, ⟨_, (n2012.kp (fun b h1 h2 => Eω28 b (by omega) (by omega)))⟩, (by rw [Eω30 _ (by omega) (by omega)]; exact n2077), (by rw [Eω32 _ (by omega) (by omega)]; exact n2078), ⟨_, (n2079.kp (fun b h1 h2 => Eω34 b (by omega) (by omega)))⟩, ⟨_, (n2261.kp (fun b h1 h2 => Eω36 b (by omega) (by omega)))⟩, (by rw [Eω38 _ (by omega) (by omega)]; exact n2443), (by rw [Eω40 _ (by omega) (by omega)]; exact n2444), ⟨fun _ => none, (by rw [Eω42 _ (by omega) (by omega)]; exact n2445), fun k hk => absurd hk (by omega), fun _ _ _ => rfl, fun k hk => absurd hk (by omega), by omega⟩, fun k hk s _ _ => by (try dsimp only); decide, zNm_0 (fun _ _ _ => rfl)⟩
  exact z_vret (pc := 228) C E dX7_init_228 ⟨rfl, kω43, hR⟩ (by decide +kernel) (by decide +kernel)
