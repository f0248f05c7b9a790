set_option maxRecDepth 100000 in
set_option maxHeartbeats 4000000 in
theorem c_X6_startNumber {l0 : Launch} {X : zX} {ω : zWd} {x : Nat} {bk : Nat → Int → Int} {nv : Int} {np : Nat} {tv dv : Int → Int} {rt : Nat} {v : Int} (hR : zRH X ω x bk nv np tv dv rt) (hv : 0 ≤ v ∧ v < zL) : zMet l0 yX6_startNumber cX6_startNumber 3 none rmX6_startNumber X [.ref x, .long (zJ v)] ω (zpv (fun w => (∃ g2, w = zU (zU ω (x + 35) (zAJ X (1 * 11) g2)) x (zOb 6 [.ref (x + 1), .ref (x + 2), .ref (x + 3), .ref (x + 14), .ref (x + 25), .ref (x + 34), .ref (x + 36), .ref (x + 38), .ref (x + 40), .int (zI (0 : Int)), .int (zI (rt : Int))])) ∧ zRH X w x bk v 0 tv dv rt)) := by
  refine zMet.intro (by decide) (Nat.le_of_ble_eq_true rfl) ?_
  intro Γ C E N
  show Zw Γ ω 0 0 0 [some _, some _, none] []
  have hR0 := hR
  obtain ⟨gm, gN, gB, gT, gD, hX, hBs, hMv, hWk, hPk, hFv, hNu, hNc, hBo, hBc, hTk, hTc, hDp, hDc, hBk, hbk, hVN, hVT, hVD⟩ := hR
  refine z_aload_n (i := 0) (pc := 0) C rfl rfl dX6_startNumber_0 ?_
  refine g_X6_45 (pc := 1) C hX rfl dX6_startNumber_1 ?_
  refine z_callVv (pc := 4) C (c_X4_wipe hNu hNc ⟨⟨by decide, by decide⟩, ⟨by decide, by decide⟩, by omega, by omega⟩) k_X6_134 zy_X4_wipe rfl rfl hNu rfl rfl ⟨(Nat.le_of_ble_eq_true rfl), (Nat.le_of_ble_eq_true rfl)⟩ (Nat.le_of_ble_eq_true rfl) dX6_startNumber_4 ⟨rfl, rfl⟩ ⟨(Nat.le_of_ble_eq_true rfl), (Nat.le_of_ble_eq_true rfl)⟩ (fun ω' hp => ?_)
  subst hp
  refine z_nm (fun ω2 hω2 => ?_)
  have x_ω2 := z_at hω2 (zU_n' (z_neOJ hX hNc) hX)
  have nu_ω2 := z_at hω2 (zU_n' (z_neOJ hNu hNc) hNu)
  have nc_ω2 := z_at hω2 (zU_s _ _ _)
  refine z_aload_n (i := 0) (pc := 7) C rfl rfl dX6_startNumber_7 ?_
  refine g_X6_45 (pc := 8) C x_ω2 rfl dX6_startNumber_8 ?_
  refine z_iconst (pc := 11) C dX6_startNumber_11 ?_
  refine z_lload_n (i := 1) (pc := 12) C rfl rfl dX6_startNumber_12 ?_
  refine z_callVv (pc := 13) C (c_X4_put nu_ω2 nc_ω2 ⟨⟨by decide, by decide⟩, ⟨by decide, by decide⟩, by omega, by omega⟩) k_X6_188 zy_X4_put rfl rfl nu_ω2 rfl rfl ⟨(Nat.le_of_ble_eq_true rfl), (Nat.le_of_ble_eq_true rfl)⟩ (Nat.le_of_ble_eq_true rfl) dX6_startNumber_13 ⟨rfl, rfl⟩ ⟨(Nat.le_of_ble_eq_true rfl), (Nat.le_of_ble_eq_true rfl)⟩ (fun ω' hp => ?_)
  obtain ⟨g2, rfl, hg2⟩ := hp
  have hpv := zput_v (by decide) hg2 hv
  rw [hω2, zU_u]
  refine z_aload_n (i := 0) (pc := 16) C rfl rfl dX6_startNumber_16 ?_
  refine z_iconst (pc := 17) C dX6_startNumber_17 ?_
  refine p_X6_58 (pc := 18) C (zU_n' (z_neOJ hX hNc) hX) (Nat.le_of_ble_eq_true rfl) dX6_startNumber_18 ?_
  exact z_vret (pc := 21) C E dX6_startNumber_21 ⟨rfl, ⟨⟨g2, rfl⟩, (hR0.nu (zRV1 hpv)).ob (np2 := 0)⟩⟩
set_option maxRecDepth 100000 in
set_option maxHeartbeats 4000000 in
theorem c_X6_at {l0 : Launch} {X : zX} {ω : zWd} {x : Nat} {bk : Nat → Int → Int} {nv : Int} {np : Nat} {tv dv : Int → Int} {rt : Nat} {t i : Int} (hR : zRH X ω x bk nv np tv dv rt) (hrt : rt ≤ 40) (htr : -2147483648 ≤ t ∧ t < 2147483648) (hir : -2147483648 ≤ i ∧ i < 2147483648) : zMet l0 yX6_at cX6_at 3 (some .int) rmX6_at X [.ref x, .int (zI t), .int (zI i)] ω (zpi (fun r w => w = ω ∧ (((1 ≤ t ∧ t ≤ rt) ∧ (1 ≤ i ∧ i ≤ 3 * rt) ∧ r = (if 3 * t < i then 0 else tv t / 10 ^ (3 * t - i).toNat % 10)) ∨ (¬ ((1 ≤ t ∧ t ≤ rt) ∧ (1 ≤ i ∧ i ≤ 3 * rt)) ∧ r = -1)))) := by
  refine zMet.intro (by decide) (Nat.le_of_ble_eq_true rfl) ?_
  intro Γ C E N
  show Zw Γ ω 0 0 0 [some _, some _, some _] []
  obtain ⟨gm, gN, gB, gT, gD, hX, hBs, hMv, hWk, hPk, hFv, hNu, hNc, hBo, hBc, hTk, hTc, hDp, hDc, hBk, hbk, hVN, hVT, hVD⟩ := hR
  refine z_iload_n (i := 1) (pc := 0) C rfl rfl dX6_at_0 ?_
  refine z_iconst (pc := 1) C dX6_at_1 ?_
  refine z_aload_n (i := 0) (pc := 2) C rfl rfl dX6_at_2 ?_
  refine g_X6_62 (pc := 3) C hX rfl dX6_at_3 ?_
  refine z_callSi (pc := 6) C (c_X6_isWithin) k_X6_70 zy_X6_isWithin.2 rfl rfl ⟨(Nat.le_of_ble_eq_true rfl), (Nat.le_of_ble_eq_true rfl)⟩ (Nat.le_of_ble_eq_true rfl) dX6_at_6 ⟨rfl, rfl⟩ ⟨(Nat.le_of_ble_eq_true rfl), (Nat.le_of_ble_eq_true rfl)⟩ (fun rv ω' hp => ?_)
  obtain ⟨hw', hi⟩ := hp
  rw [hw']
  clear hw'
  refine z_if_eq (tgt := 26) (pc := 9) C dX6_at_9 (by decide) (fun h9 => ?_) (fun h9 => ?_)
  · refine z_iconst (pc := 26) C dX6_at_26 ?_
    exact z_iret (pc := 27) C E dX6_at_27 ⟨_, rfl, ⟨rfl, Or.inr ⟨by omega, rfl⟩⟩⟩
  · refine z_iload_n (i := 2) (pc := 12) C rfl rfl dX6_at_12 ?_
    refine z_iconst (pc := 13) C dX6_at_13 ?_
    refine z_iconst (pc := 14) C dX6_at_14 ?_
    refine z_aload_n (i := 0) (pc := 15) C rfl rfl dX6_at_15 ?_
    refine g_X6_62 (pc := 16) C hX rfl dX6_at_16 ?_
    refine z_imul (pc := 19) C dX6_at_19 ?_
    refine z_callSi (pc := 20) C (c_X6_isWithin) k_X6_70 zy_X6_isWithin.2 rfl rfl ⟨(Nat.le_of_ble_eq_true rfl), (Nat.le_of_ble_eq_true rfl)⟩ (Nat.le_of_ble_eq_true rfl) dX6_at_20 ⟨rfl, rfl⟩ ⟨(Nat.le_of_ble_eq_true rfl), (Nat.le_of_ble_eq_true rfl)⟩ (fun rv ω' hp => ?_)
    obtain ⟨hw', hi2⟩ := hp
    rw [hw']
    clear hw'
    refine z_if_ne (tgt := 28) (pc := 23) C dX6_at_23 (by decide) (fun h23 => ?_) (fun h23 => ?_)
    · refine z_aload_n (i := 0) (pc := 28) C rfl rfl dX6_at_28 ?_
      refine g_X6_52 (pc := 29) C hX rfl dX6_at_29 ?_
      refine z_iload_n (i := 1) (pc := 32) C rfl rfl dX6_at_32 ?_
      refine z_iconst (pc := 33) C dX6_at_33 ?_
      refine z_iload_n (i := 1) (pc := 34) C rfl rfl dX6_at_34 ?_
      refine z_imul (pc := 35) C dX6_at_35 ?_
      refine z_iload_n (i := 2) (pc := 36) C rfl rfl dX6_at_36 ?_
      refine z_isub (pc := 37) C dX6_at_37 ?_
      by_cases hc : 3 * t < i
      · refine z_callVi (pc := 38) C (c_X4_figureN hTk hTc ⟨⟨by decide, by decide⟩, ⟨by decide, by decide⟩, by omega, by omega⟩ (by omega)) k_X6_144 zy_X4_figure rfl rfl hTk rfl rfl ⟨(Nat.le_of_ble_eq_true rfl), (Nat.le_of_ble_eq_true rfl)⟩ (Nat.le_of_ble_eq_true rfl) dX6_at_38 ⟨rfl, rfl⟩ ⟨(Nat.le_of_ble_eq_true rfl), (Nat.le_of_ble_eq_true rfl)⟩ (fun rv ω' hp => ?_)
        obtain ⟨hw', rfl⟩ := hp
        rw [hw']
        have hfin : (0 : Int) = (if 3 * t < i then 0 else tv t / 10 ^ (3 * t - i).toNat % 10) := by rw [if_pos hc]
        exact z_iret (pc := 41) C E dX6_at_41 ⟨_, rfl, ⟨rfl, Or.inl ⟨by omega, by omega, hfin⟩⟩⟩
      · have e3 : 3 * t - i = (((3 * t - i).toNat : Nat) : Int) := by omega
        rw [e3]
        refine z_callVi (pc := 38) C (c_X4_figure hTk hTc ⟨⟨by decide, by decide⟩, ⟨by decide, by decide⟩, by omega, by omega⟩ (by omega) (by omega) (hVT.at (by omega) (by omega))) k_X6_144 zy_X4_figure rfl rfl hTk rfl rfl ⟨(Nat.le_of_ble_eq_true rfl), (Nat.le_of_ble_eq_true rfl)⟩ (Nat.le_of_ble_eq_true rfl) dX6_at_38 ⟨rfl, rfl⟩ ⟨(Nat.le_of_ble_eq_true rfl), (Nat.le_of_ble_eq_true rfl)⟩ (fun rv ω' hp => ?_)
        obtain ⟨hw', hp⟩ := hp
        rw [hw']
        rw [hVT.v (by omega) (by omega)] at hp
        have hfin : rv = (if 3 * t < i then 0 else tv t / 10 ^ (3 * t - i).toNat % 10) := by rw [if_neg hc]; exact hp
        exact z_iret (pc := 41) C E dX6_at_41 ⟨_, rfl, ⟨rfl, Or.inl ⟨by omega, by omega, hfin⟩⟩⟩
    · refine z_iconst (pc := 26) C dX6_at_26 ?_
      exact z_iret (pc := 27) C E dX6_at_27 ⟨_, rfl, ⟨rfl, Or.inr ⟨by omega, rfl⟩⟩⟩
set_option maxRecDepth 100000 in
set_option maxHeartbeats 4000000 in
theorem c_X6_deep {l0 : Launch} {X : zX} {ω : zWd} {x : Nat} {bk : Nat → Int → Int} {nv : Int} {np : Nat} {tv dv : Int → Int} {rt : Nat} {t i : Int} (hR : zRH X ω x bk nv np tv dv rt) (hrt : rt ≤ 40) (htr : -2147483648 ≤ t ∧ t < 2147483648) (hir : -2147483648 ≤ i ∧ i < 2147483648) : zMet l0 yX6_deep cX6_deep 3 (some .int) rmX6_deep X [.ref x, .int (zI t), .int (zI i)] ω (zpi (fun r w => w = ω ∧ (((1 ≤ t ∧ t ≤ 20) ∧ (1 ≤ i ∧ i ≤ 3 * rt) ∧ r = dv t / 10 ^ (3 * rt - i).toNat % 10) ∨ (¬ ((1 ≤ t ∧ t ≤ 20) ∧ (1 ≤ i ∧ i ≤ 3 * rt)) ∧ r = -1)))) := by
  refine zMet.intro (by decide) (Nat.le_of_ble_eq_true rfl) ?_
  intro Γ C E N
  show Zw Γ ω 0 0 0 [some _, some _, some _] []
  obtain ⟨gm, gN, gB, gT, gD, hX, hBs, hMv, hWk, hPk, hFv, hNu, hNc, hBo, hBc, hTk, hTc, hDp, hDc, hBk, hbk, hVN, hVT, hVD⟩ := hR
  refine z_iload_n (i := 1) (pc := 0) C rfl rfl dX6_deep_0 ?_
  refine z_iconst (pc := 1) C dX6_deep_1 ?_
  refine z_bipush (pc := 2) C (by decide +kernel) dX6_deep_2 ?_
  refine z_callSi (pc := 4) C (c_X6_isWithin) k_X6_70 zy_X6_isWithin.2 rfl rfl ⟨(Nat.le_of_ble_eq_true rfl), (Nat.le_of_ble_eq_true rfl)⟩ (Nat.le_of_ble_eq_true rfl) dX6_deep_4 ⟨rfl, rfl⟩ ⟨(Nat.le_of_ble_eq_true rfl), (Nat.le_of_ble_eq_true rfl)⟩ (fun rv ω' hp => ?_)
  obtain ⟨hw', hi⟩ := hp
  rw [hw']
  clear hw'
  refine z_if_eq (tgt := 24) (pc := 7) C dX6_deep_7 (by decide) (fun h7 => ?_) (fun h7 => ?_)
  · refine z_iconst (pc := 24) C dX6_deep_24 ?_
    exact z_iret (pc := 25) C E dX6_deep_25 ⟨_, rfl, ⟨rfl, Or.inr ⟨by omega, rfl⟩⟩⟩
  · refine z_iload_n (i := 2) (pc := 10) C rfl rfl dX6_deep_10 ?_
    refine z_iconst (pc := 11) C dX6_deep_11 ?_
    refine z_iconst (pc := 12) C dX6_deep_12 ?_
    refine z_aload_n (i := 0) (pc := 13) C rfl rfl dX6_deep_13 ?_
    refine g_X6_62 (pc := 14) C hX rfl dX6_deep_14 ?_
    refine z_imul (pc := 17) C dX6_deep_17 ?_
    refine z_callSi (pc := 18) C (c_X6_isWithin) k_X6_70 zy_X6_isWithin.2 rfl rfl ⟨(Nat.le_of_ble_eq_true rfl), (Nat.le_of_ble_eq_true rfl)⟩ (Nat.le_of_ble_eq_true rfl) dX6_deep_18 ⟨rfl, rfl⟩ ⟨(Nat.le_of_ble_eq_true rfl), (Nat.le_of_ble_eq_true rfl)⟩ (fun rv ω' hp => ?_)
    obtain ⟨hw', hi2⟩ := hp
    rw [hw']
    clear hw'
    refine z_if_ne (tgt := 26) (pc := 21) C dX6_deep_21 (by decide) (fun h21 => ?_) (fun h21 => ?_)
    · refine z_aload_n (i := 0) (pc := 26) C rfl rfl dX6_deep_26 ?_
      refine g_X6_55 (pc := 27) C hX rfl dX6_deep_27 ?_
      refine z_iload_n (i := 1) (pc := 30) C rfl rfl dX6_deep_30 ?_
      refine z_iconst (pc := 31) C dX6_deep_31 ?_
      refine z_aload_n (i := 0) (pc := 32) C rfl rfl dX6_deep_32 ?_
      refine g_X6_62 (pc := 33) C hX rfl dX6_deep_33 ?_
      refine z_imul (pc := 36) C dX6_deep_36 ?_
      refine z_iload_n (i := 2) (pc := 37) C rfl rfl dX6_deep_37 ?_
      refine z_isub (pc := 38) C dX6_deep_38 ?_
      have e3 : 3 * (rt : Int) - i = (((3 * (rt : Int) - i).toNat : Nat) : Int) := by omega
      rw [e3]
      refine z_callVi (pc := 39) C (c_X4_figure hDp hDc ⟨⟨by decide, by decide⟩, ⟨by decide, by decide⟩, by omega, by omega⟩ (by omega) (by omega) (hVD.at (by omega) (by omega))) k_X6_144 zy_X4_figure rfl rfl hDp rfl rfl ⟨(Nat.le_of_ble_eq_true rfl), (Nat.le_of_ble_eq_true rfl)⟩ (Nat.le_of_ble_eq_true rfl) dX6_deep_39 ⟨rfl, rfl⟩ ⟨(Nat.le_of_ble_eq_true rfl), (Nat.le_of_ble_eq_true rfl)⟩ (fun rv ω' hp => ?_)
      obtain ⟨hw', hp⟩ := hp
      rw [hw']
      rw [hVD.v (by omega) (by omega)] at hp
      exact z_iret (pc := 42) C E dX6_deep_42 ⟨_, rfl, ⟨rfl, Or.inl ⟨by omega, by omega, hp⟩⟩⟩
    · refine z_iconst (pc := 24) C dX6_deep_24 ?_
      exact z_iret (pc := 25) C E dX6_deep_25 ⟨_, rfl, ⟨rfl, Or.inr ⟨by omega, rfl⟩⟩⟩
theorem z_dig3 (V : Int) (n : Nat) : 10 * (10 * (10 * 0 + V / 10 ^ (n + 2) % 10) + V / 10 ^ (n + 1) % 10) + V / 10 ^ n % 10 = V / 10 ^ n % 1000 := by
  have h0 : (0 : Int) < 10 ^ n := zpw (by decide) _
  have e1 : V / 10 ^ (n + 1) = V / 10 ^ n / 10 := by rw [Int.pow_succ, Int.ediv_ediv_of_nonneg (by omega)]
  have e2 : V / 10 ^ (n + 2) = V / 10 ^ n / 10 / 10 := by rw [Int.pow_succ, Int.pow_succ, Int.ediv_ediv_of_nonneg (by omega), Int.ediv_ediv_of_nonneg (by omega), Int.mul_assoc]
  rw [e1, e2]
  omega
set_option maxRecDepth 100000 in
set_option maxHeartbeats 4000000 in
theorem c_X6_digit {l0 : Launch} {X : zX} {ω : zWd} {x : Nat} {bk : Nat → Int → Int} {nv : Int} {np : Nat} {tv dv : Int → Int} {rt : Nat} {i : Int} (hR : zRH X ω x bk nv np tv dv rt) (hnp : np ≤ 120) (hir : -2147483648 ≤ i ∧ i < 2147483648) : zMet l0 yX6_digit cX6_digit 4 (some .int) rmX6_digit X [.ref x, .int (zI i)] ω (zpi (fun r w => w = ω ∧ ((i = 0 ∧ r = nv / 10 ^ np % 1000) ∨ ((1 ≤ i ∧ i ≤ np) ∧ r = nv / 10 ^ (np - i).toNat % 10) ∨ ((i < 0 ∨ np < i) ∧ r = -1)))) := by
  refine zMet.intro (by decide) (Nat.le_of_ble_eq_true rfl) ?_
  intro Γ C E N
  show Zw Γ ω 0 0 0 [some _, some _, none, none] []
  obtain ⟨gm, gN, gB, gT, gD, hX, hBs, hMv, hWk, hPk, hFv, hNu, hNc, hBo, hBc, hTk, hTc, hDp, hDc, hBk, hbk, hVN, hVT, hVD⟩ := hR
  refine z_iload_n (i := 1) (pc := 0) C rfl rfl dX6_digit_0 ?_
  refine z_iconst (pc := 1) C dX6_digit_1 ?_
  refine z_aload_n (i := 0) (pc := 2) C rfl rfl dX6_digit_2 ?_
  refine g_X6_58 (pc := 3) C hX rfl dX6_digit_3 ?_
  refine z_callSi (pc := 6) C (c_X6_isWithin) k_X6_70 zy_X6_isWithin.2 rfl rfl ⟨(Nat.le_of_ble_eq_true rfl), (Nat.le_of_ble_eq_true rfl)⟩ (Nat.le_of_ble_eq_true rfl) dX6_digit_6 ⟨rfl, rfl⟩ ⟨(Nat.le_of_ble_eq_true rfl), (Nat.le_of_ble_eq_true rfl)⟩ (fun rv ω' hp => ?_)
  obtain ⟨hw', hi⟩ := hp
  rw [hw']
  clear hw'
  refine z_if_ne (tgt := 14) (pc := 9) C dX6_digit_9 (by decide) (fun h9 => ?_) (fun h9 => ?_)
  · refine z_iload_n (i := 1) (pc := 14) C rfl rfl dX6_digit_14 ?_
    refine z_if_le (tgt := 33) (pc := 15) C dX6_digit_15 (by decide) (fun h15 => ?_) (fun h15 => ?_)
    · refine z_iconst (pc := 33) C dX6_digit_33 ?_
      refine z_istore_n (i := 2) (lv' := [_, _, _, _]) (pc := 34) C rfl (by decide) rfl rfl dX6_digit_34 ?_
      refine z_aload_n (i := 0) (pc := 35) C rfl rfl dX6_digit_35 ?_
      refine g_X6_58 (pc := 36) C hX rfl dX6_digit_36 ?_
      refine z_iconst (pc := 39) C dX6_digit_39 ?_
      refine z_iadd (pc := 40) C dX6_digit_40 ?_
      refine z_istore_n (i := 3) (lv' := [_, _, _, _]) (pc := 41) C rfl (by decide) rfl rfl dX6_digit_41 ?_
      refine z_iload_n (i := 3) (pc := 42) C rfl rfl dX6_digit_42 ?_
      refine z_aload_n (i := 0) (pc := 43) C rfl rfl dX6_digit_43 ?_
      refine g_X6_58 (pc := 44) C hX rfl dX6_digit_44 ?_
      refine z_icmp_lt (tgt := 71) (pc := 47) C dX6_digit_47 (by decide) (fun h47 => absurd h47 (by omega)) (fun h47 => ?_)
      refine z_bipush (pc := 50) C (by decide +kernel) dX6_digit_50 ?_
      refine z_iload_n (i := 2) (pc := 52) C rfl rfl dX6_digit_52 ?_
      refine z_imul (pc := 53) C dX6_digit_53 ?_
      refine z_aload_n (i := 0) (pc := 54) C rfl rfl dX6_digit_54 ?_
      refine g_X6_45 (pc := 55) C hX rfl dX6_digit_55 ?_
      refine z_iconst (pc := 58) C dX6_digit_58 ?_
      refine z_iload_n (i := 3) (pc := 59) C rfl rfl dX6_digit_59 ?_
      have e0 : (np : Int) + 2 = ((np + 2 : Nat) : Int) := by omega
      rw [e0]
      refine z_callVi (pc := 60) C (c_X4_figure hNu hNc ⟨⟨by decide, by decide⟩, ⟨by decide, by decide⟩, by omega, by omega⟩ (by omega) (by omega) (hVN.at (by omega) (by omega))) k_X6_144 zy_X4_figure rfl rfl hNu rfl rfl ⟨(Nat.le_of_ble_eq_true rfl), (Nat.le_of_ble_eq_true rfl)⟩ (Nat.le_of_ble_eq_true rfl) dX6_digit_60 ⟨rfl, rfl⟩ ⟨(Nat.le_of_ble_eq_true rfl), (Nat.le_of_ble_eq_true rfl)⟩ (fun rv ω' hp => ?_)
      obtain ⟨hw', rfl⟩ := hp
      rw [hw', hVN.v (by omega) (by omega)]
      clear hw'
      refine z_iadd (pc := 63) C dX6_digit_63 ?_
      refine z_istore_n (i := 2) (lv' := [_, _, _, _]) (pc := 64) C rfl (by decide) rfl rfl dX6_digit_64 ?_
      refine z_iinc (i := 3) (lv' := [_, _, _, _]) (pc := 65) C rfl (by decide) rfl rfl dX6_digit_65 ?_
      refine z_goto (tgt := 42) (pc := 68) C dX6_digit_68 (by decide) ?_
      refine z_iload_n (i := 3) (pc := 42) C rfl rfl dX6_digit_42 ?_
      refine z_aload_n (i := 0) (pc := 43) C rfl rfl dX6_digit_43 ?_
      refine g_X6_58 (pc := 44) C hX rfl dX6_digit_44 ?_
      refine z_icmp_lt (tgt := 71) (pc := 47) C dX6_digit_47 (by decide) (fun h47 => absurd h47 (by omega)) (fun h47 => ?_)
      refine z_bipush (pc := 50) C (by decide +kernel) dX6_digit_50 ?_
      refine z_iload_n (i := 2) (pc := 52) C rfl rfl dX6_digit_52 ?_
      refine z_imul (pc := 53) C dX6_digit_53 ?_
      refine z_aload_n (i := 0) (pc := 54) C rfl rfl dX6_digit_54 ?_
      refine g_X6_45 (pc := 55) C hX rfl dX6_digit_55 ?_
      refine z_iconst (pc := 58) C dX6_digit_58 ?_
      refine z_iload_n (i := 3) (pc := 59) C rfl rfl dX6_digit_59 ?_
      have e1 : ((np + 2 : Nat) : Int) + -1 = ((np + 1 : Nat) : Int) := by omega
      rw [e1]
      refine z_callVi (pc := 60) C (c_X4_figure hNu hNc ⟨⟨by decide, by decide⟩, ⟨by decide, by decide⟩, by omega, by omega⟩ (by omega) (by omega) (hVN.at (by omega) (by omega))) k_X6_144 zy_X4_figure rfl rfl hNu rfl rfl ⟨(Nat.le_of_ble_eq_true rfl), (Nat.le_of_ble_eq_true rfl)⟩ (Nat.le_of_ble_eq_true rfl) dX6_digit_60 ⟨rfl, rfl⟩ ⟨(Nat.le_of_ble_eq_true rfl), (Nat.le_of_ble_eq_true rfl)⟩ (fun rv ω' hp => ?_)
      obtain ⟨hw', rfl⟩ := hp
      rw [hw', hVN.v (by omega) (by omega)]
      clear hw'
      refine z_iadd (pc := 63) C dX6_digit_63 ?_
      refine z_istore_n (i := 2) (lv' := [_, _, _, _]) (pc := 64) C rfl (by decide) rfl rfl dX6_digit_64 ?_
      refine z_iinc (i := 3) (lv' := [_, _, _, _]) (pc := 65) C rfl (by decide) rfl rfl dX6_digit_65 ?_
      refine z_goto (tgt := 42) (pc := 68) C dX6_digit_68 (by decide) ?_
      refine z_iload_n (i := 3) (pc := 42) C rfl rfl dX6_digit_42 ?_
      refine z_aload_n (i := 0) (pc := 43) C rfl rfl dX6_digit_43 ?_
      refine g_X6_58 (pc := 44) C hX rfl dX6_digit_44 ?_
      refine z_icmp_lt (tgt := 71) (pc := 47) C dX6_digit_47 (by decide) (fun h47 => absurd h47 (by omega)) (fun h47 => ?_)
      refine z_bipush (pc := 50) C (by decide +kernel) dX6_digit_50 ?_
      refine z_iload_n (i := 2) (pc := 52) C rfl rfl dX6_digit_52 ?_
      refine z_imul (pc := 53) C dX6_digit_53 ?_
      refine z_aload_n (i := 0) (pc := 54) C rfl rfl dX6_digit_54 ?_
      refine g_X6_45 (pc := 55) C hX rfl dX6_digit_55 ?_
      refine z_iconst (pc := 58) C dX6_digit_58 ?_
      refine z_iload_n (i := 3) (pc := 59) C rfl rfl dX6_digit_59 ?_
      have e2 : ((np + 1 : Nat) : Int) + -1 = ((np + 0 : Nat) : Int) := by omega
      rw [e2]
      refine z_callVi (pc := 60) C (c_X4_figure hNu hNc ⟨⟨by decide, by decide⟩, ⟨by decide, by decide⟩, by omega, by omega⟩ (by omega) (by omega) (hVN.at (by omega) (by omega))) k_X6_144 zy_X4_figure rfl rfl hNu rfl rfl ⟨(Nat.le_of_ble_eq_true rfl), (Nat.le_of_ble_eq_true rfl)⟩ (Nat.le_of_ble_eq_true rfl) dX6_digit_60 ⟨rfl, rfl⟩ ⟨(Nat.le_of_ble_eq_true rfl), (Nat.le_of_ble_eq_true rfl)⟩ (fun rv ω' hp => ?_)
      obtain ⟨hw', rfl⟩ := hp
      rw [hw', hVN.v (by omega) (by omega)]
      clear hw'
      refine z_iadd (pc := 63) C dX6_digit_63 ?_
      refine z_istore_n (i := 2) (lv' := [_, _, _, _]) (pc := 64) C rfl (by decide) rfl rfl dX6_digit_64 ?_
      refine z_iinc (i := 3) (lv' := [_, _, _, _]) (pc := 65) C rfl (by decide) rfl rfl dX6_digit_65 ?_
      refine z_goto (tgt := 42) (pc := 68) C dX6_digit_68 (by decide) ?_
      refine z_iload_n (i := 3) (pc := 42) C rfl rfl dX6_digit_42 ?_
      refine z_aload_n (i := 0) (pc := 43) C rfl rfl dX6_digit_43 ?_
      refine g_X6_58 (pc := 44) C hX rfl dX6_digit_44 ?_
      refine z_icmp_lt (tgt := 71) (pc := 47) C dX6_digit_47 (by decide) (fun h47 => ?_) (fun h47 => absurd h47 (by omega))
      refine z_iload_n (i := 2) (pc := 71) C rfl rfl dX6_digit_71 ?_
      exact z_iret (pc := 72) C E dX6_digit_72 ⟨_, rfl, ⟨rfl, Or.inl ⟨by omega, z_dig3 nv np⟩⟩⟩
    · refine z_aload_n (i := 0) (pc := 18) C rfl rfl dX6_digit_18 ?_
      refine g_X6_45 (pc := 19) C hX rfl dX6_digit_19 ?_
      refine z_iconst (pc := 22) C dX6_digit_22 ?_
      refine z_aload_n (i := 0) (pc := 23) C rfl rfl dX6_digit_23 ?_
      refine g_X6_58 (pc := 24) C hX rfl dX6_digit_24 ?_
      refine z_iload_n (i := 1) (pc := 27) C rfl rfl dX6_digit_27 ?_
      refine z_isub (pc := 28) C dX6_digit_28 ?_
      have e3 : (np : Int) - i = ((((np : Int) - i).toNat : Nat) : Int) := by omega
      rw [e3]
      refine z_callVi (pc := 29) C (c_X4_figure hNu hNc ⟨⟨by decide, by decide⟩, ⟨by decide, by decide⟩, by omega, by omega⟩ (by omega) (by omega) (hVN.at (by omega) (by omega))) k_X6_144 zy_X4_figure rfl rfl hNu rfl rfl ⟨(Nat.le_of_ble_eq_true rfl), (Nat.le_of_ble_eq_true rfl)⟩ (Nat.le_of_ble_eq_true rfl) dX6_digit_29 ⟨rfl, rfl⟩ ⟨(Nat.le_of_ble_eq_true rfl), (Nat.le_of_ble_eq_true rfl)⟩ (fun rv ω' hp => ?_)
      obtain ⟨hw', hp⟩ := hp
      rw [hw']
      rw [hVN.v (by omega) (by omega)] at hp
      exact z_iret (pc := 32) C E dX6_digit_32 ⟨_, rfl, ⟨rfl, Or.inr (Or.inl ⟨by omega, hp⟩)⟩⟩
  · refine z_iconst (pc := 12) C dX6_digit_12 ?_
    exact z_iret (pc := 13) C E dX6_digit_13 ⟨_, rfl, ⟨rfl, Or.inr (Or.inr ⟨by omega, rfl⟩)⟩⟩
set_option maxRecDepth 100000 in
set_option maxHeartbeats 4000000 in
theorem c_X6_move {l0 : Launch} {X : zX} {ω : zWd} {x : Nat} {np : Nat} {rt : Nat} {s v : Int} {gm : Int → Int} (hX : ω.1 x = some (zOb 6 [.ref (x + 1), .ref (x + 2), .ref (x + 3), .ref (x + 14), .ref (x + 25), .ref (x + 34), .ref (x + 36), .ref (x + 38), .ref (x + 40), .int (zI (np : Int)), .int (zI (rt : Int))])) (hMv : ω.1 (x + 2) = some (zAI X 21 gm)) (hs : 0 ≤ s ∧ s < 21) : zMet l0 yX6_move cX6_move 3 none rmX6_move X [.ref x, .int (zI s), .int (zI v)] ω (zpv (fun w => w = zU ω (x + 2) (zAI X 21 (zup gm s (gm s + v))))) := by
  refine zMet.intro (by decide) (Nat.le_of_ble_eq_true rfl) ?_
  intro Γ C E N
  show Zw Γ ω 0 0 0 [some _, some _, some _] []
  refine z_iload_n (i := 1) (pc := 0) C rfl rfl dX6_move_0 ?_
  refine z_if_lt (tgt := 23) (pc := 1) C dX6_move_1 (by decide) (fun h1 => absurd h1 (by omega)) (fun h1 => ?_)
  refine z_iload_n (i := 1) (pc := 4) C rfl rfl dX6_move_4 ?_
  refine z_aload_n (i := 0) (pc := 5) C rfl rfl dX6_move_5 ?_
  refine g_X6_15 (pc := 6) C hX rfl dX6_move_6 ?_
  refine z_alenI (pc := 9) C hMv dX6_move_9 ?_
  refine z_icmp_ge (tgt := 23) (pc := 10) C dX6_move_10 (by decide) (fun h10 => absurd h10 (by omega)) (fun h10 => ?_)
  refine z_aload_n (i := 0) (pc := 13) C rfl rfl dX6_move_13 ?_
  refine g_X6_15 (pc := 14) C hX rfl dX6_move_14 ?_
  refine z_iload_n (i := 1) (pc := 17) C rfl rfl dX6_move_17 ?_
  refine z_dup2 (pc := 18) C rfl rfl dX6_move_18 ?_
  refine z_iaload (pc := 19) C hMv dX6_move_19 ?_
  refine z_iload_n (i := 2) (pc := 20) C rfl rfl dX6_move_20 ?_
  refine z_iadd (pc := 21) C dX6_move_21 ?_
  refine z_iastore (pc := 22) C hMv dX6_move_22 ?_
  exact z_vret (pc := 23) C E dX6_move_23 ⟨rfl, rfl⟩
set_option maxRecDepth 100000 in
set_option maxHeartbeats 4000000 in
theorem lp_X6_writeMoved {Γ : zG} {l0 : Launch} {X : zX} {ω : zWd} {x tb ts np rt : Nat} {gm f : Int → Int} (hX : ω.1 x = some (zOb 6 [.ref (x + 1), .ref (x + 2), .ref (x + 3), .ref (x + 14), .ref (x + 25), .ref (x + 34), .ref (x + 36), .ref (x + 38), .ref (x + 40), .int (zI (np : Int)), .int (zI (rt : Int))])) (hMv : ω.1 (x + 2) = some (zAI X 21 gm)) (htb : ω.1 tb = some (zOb 0 [.ref ts])) (hts : ω.1 ts = some (zAI X 21 f)) (hne : ts ≠ x + 2) (C : Zc Γ l0 X rmX6_writeMoved 3 cX6_writeMoved RX6) (E : Ze Γ (zpv (fun w => ∃ f2, w = zU ω ts (zAI X 21 f2) ∧ ∀ k : Int, 0 ≤ k → k < 21 → f2 k = gm k)) 0 0 none) : ∀ (j i : Nat) (fi : Int → Int), i + j = 21 → (∀ k : Int, 0 ≤ k → k < i → fi k = gm k) → Zw Γ (zU ω ts (zAI X 21 fi)) 0 0 2 [some (.ref x), some (.ref tb), some (.int (zI (i : Int)))] [] := by
  have hn1 : x ≠ ts := z_neOI hX hts
  have hn2 : x + 2 ≠ ts := Ne.symm hne
  have hn3 : tb ≠ ts := z_neOI htb hts
  intro j
  induction j with
  | zero =>
    intro i fi hj hg
    refine z_iload_n (i := 2) (pc := 2) C rfl rfl dX6_writeMoved_2 ?_
    refine z_aload_n (i := 0) (pc := 3) C rfl rfl dX6_writeMoved_3 ?_
    refine g_X6_15 (pc := 4) C (zU_n' hn1 hX) rfl dX6_writeMoved_4 ?_
    refine z_alenI (pc := 7) C (zU_n' hn2 hMv) dX6_writeMoved_7 ?_
    refine z_icmp_ge (tgt := 28) (pc := 8) C dX6_writeMoved_8 (by decide) (fun h8 => ?_) (fun h8 => absurd h8 (by omega))
    exact z_vret (pc := 28) C E dX6_writeMoved_28 ⟨rfl, ⟨fi, rfl, fun k a b => hg k a (by omega)⟩⟩
  | succ j ih =>
    intro i fi hj hg
    refine z_iload_n (i := 2) (pc := 2) C rfl rfl dX6_writeMoved_2 ?_
    refine z_aload_n (i := 0) (pc := 3) C rfl rfl dX6_writeMoved_3 ?_
    refine g_X6_15 (pc := 4) C (zU_n' hn1 hX) rfl dX6_writeMoved_4 ?_
    refine z_alenI (pc := 7) C (zU_n' hn2 hMv) dX6_writeMoved_7 ?_
    refine z_icmp_ge (tgt := 28) (pc := 8) C dX6_writeMoved_8 (by decide) (fun h8 => absurd h8 (by omega)) (fun h8 => ?_)
    refine z_aload_n (i := 1) (pc := 11) C rfl rfl dX6_writeMoved_11 ?_
    refine z_iload_n (i := 2) (pc := 12) C rfl rfl dX6_writeMoved_12 ?_
    refine z_aload_n (i := 0) (pc := 13) C rfl rfl dX6_writeMoved_13 ?_
    refine g_X6_15 (pc := 14) C (zU_n' hn1 hX) rfl dX6_writeMoved_14 ?_
    refine z_iload_n (i := 2) (pc := 17) C rfl rfl dX6_writeMoved_17 ?_
    refine z_iaload (pc := 18) C (zU_n' hn2 hMv) dX6_writeMoved_18 ?_
    refine z_callVv (pc := 19) C (c_X0_write (zU_n' hn3 htb) (zU_s _ _ _)) k_X6_74 zy_X0_write rfl rfl (zU_n' hn3 htb) rfl rfl ⟨(Nat.le_of_ble_eq_true rfl), (Nat.le_of_ble_eq_true rfl)⟩ (Nat.le_of_ble_eq_true rfl) dX6_writeMoved_19 ⟨rfl, rfl⟩ ⟨(Nat.le_of_ble_eq_true rfl), (Nat.le_of_ble_eq_true rfl)⟩ (fun ω' hp => ?_)
    subst hp
    rw [zU_u]
    refine z_iinc (i := 2) (lv' := [_, _, _]) (pc := 22) C rfl (by decide) rfl rfl dX6_writeMoved_22 ?_
    refine z_goto (tgt := 2) (pc := 25) C dX6_writeMoved_25 (by decide) ?_
    exact ih (i + 1) _ (by omega) (fun k a b => by
      by_cases e : k = i
      · subst e; rw [zup_s]
      · rw [zup_n e]; exact hg k a (by omega))
set_option maxRecDepth 100000 in
set_option maxHeartbeats 4000000 in
theorem c_X6_writeMoved {l0 : Launch} {X : zX} {ω : zWd} {x tb ts np rt : Nat} {gm f : Int → Int} (hX : ω.1 x = some (zOb 6 [.ref (x + 1), .ref (x + 2), .ref (x + 3), .ref (x + 14), .ref (x + 25), .ref (x + 34), .ref (x + 36), .ref (x + 38), .ref (x + 40), .int (zI (np : Int)), .int (zI (rt : Int))])) (hMv : ω.1 (x + 2) = some (zAI X 21 gm)) (htb : ω.1 tb = some (zOb 0 [.ref ts])) (hts : ω.1 ts = some (zAI X 21 f)) (hne : ts ≠ x + 2) : zMet l0 yX6_writeMoved cX6_writeMoved 3 none rmX6_writeMoved X [.ref x, .ref tb] ω (zpv (fun w => ∃ f2, w = zU ω ts (zAI X 21 f2) ∧ ∀ k : Int, 0 ≤ k → k < 21 → f2 k = gm k)) := by
  refine zMet.intro (by decide) (Nat.le_of_ble_eq_true rfl) ?_
  intro Γ C E N
  show Zw Γ ω 0 0 0 [some _, some _, none] []
  refine z_iconst (pc := 0) C dX6_writeMoved_0 ?_
  refine z_istore_n (i := 2) (lv' := [_, _, _]) (pc := 1) C rfl (by decide) rfl rfl dX6_writeMoved_1 ?_
  rw [← zU_id hts]
  exact lp_X6_writeMoved hX hMv htb hts hne C E 21 0 f rfl (fun k a b => by omega)
