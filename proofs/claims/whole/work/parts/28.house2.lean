set_option maxRecDepth 100000 in
set_option maxHeartbeats 4000000 in
theorem c_X6_isWithin {l0 : Launch} {X : zX} {ω : zWd} {v a b : Int} (hvr : -2147483648 ≤ v ∧ v < 2147483648 := by omega) (har : -2147483648 ≤ a ∧ a < 2147483648 := by omega) (hbr : -2147483648 ≤ b ∧ b < 2147483648 := by omega) : zMet l0 yX6_isWithin cX6_isWithin 3 (some .boolean) rmX6_isWithin X [.int (zI v), .int (zI a), .int (zI b)] ω (zpi (fun r w => w = ω ∧ ((a ≤ v ∧ v ≤ b ∧ r = 1) ∨ ((v < a ∨ b < v) ∧ r = 0)))) := by
  refine zMet.intro (by decide) (Nat.le_of_ble_eq_true rfl) ?_
  intro Γ C E N
  show Zw Γ ω 0 0 0 [some _, some _, some _] []
  refine z_iload_n (i := 0) (pc := 0) C rfl rfl dX6_isWithin_0 ?_
  refine z_iload_n (i := 1) (pc := 1) C rfl rfl dX6_isWithin_1 ?_
  refine z_icmp_lt (tgt := 14) (pc := 2) C dX6_isWithin_2 (by decide) (fun h2 => ?_) (fun h2 => ?_)
  · refine z_iconst (pc := 14) C dX6_isWithin_14 ?_
    exact z_zret (pc := 15) C E (by decide +kernel) dX6_isWithin_15 ⟨_, rfl, ⟨rfl, by omega⟩⟩
  · refine z_iload_n (i := 0) (pc := 5) C rfl rfl dX6_isWithin_5 ?_
    refine z_iload_n (i := 2) (pc := 6) C rfl rfl dX6_isWithin_6 ?_
    refine z_icmp_gt (tgt := 14) (pc := 7) C dX6_isWithin_7 (by decide) (fun h7 => ?_) (fun h7 => ?_)
    · refine z_iconst (pc := 14) C dX6_isWithin_14 ?_
      exact z_zret (pc := 15) C E (by decide +kernel) dX6_isWithin_15 ⟨_, rfl, ⟨rfl, by omega⟩⟩
    · refine z_iconst (pc := 10) C dX6_isWithin_10 ?_
      refine z_goto (tgt := 15) (pc := 11) C dX6_isWithin_11 (by decide) ?_
      exact z_zret (pc := 15) C E (by decide +kernel) dX6_isWithin_15 ⟨_, rfl, ⟨rfl, by omega⟩⟩
set_option maxRecDepth 100000 in
set_option maxHeartbeats 4000000 in
theorem c_X6_findBook {l0 : Launch} {X : zX} {ω : zWd} {x : Nat} {bk : Nat → Int → Int} {nv : Int} {np : Nat} {tv dv : Int → Int} {rt : Nat} {b : Int} (hR : zRH X ω x bk nv np tv dv rt) (hbr : -2147483648 ≤ b ∧ b < 2147483648) : zMet l0 yX6_findBook cX6_findBook 2 (some (.object "RuinHouse$Book")) rmX6_findBook X [.ref x, .int (zI b)] ω (zpq (fun r w => w = ω ∧ ((0 ≤ b ∧ b < 8 ∧ r = some (x + 42 + 2 * b.toNat)) ∨ ((b < 0 ∨ 8 ≤ b) ∧ r = none)))) := by
  refine zMet.intro (by decide) (Nat.le_of_ble_eq_true rfl) ?_
  intro Γ C E N
  show Zw Γ ω 0 0 0 [some _, some _] []
  obtain ⟨gm, gN, gB, gT, gD, hX, hBs, hMv, hWk, hPk, hFv, hNu, hNc, hBo, hBc, hTk, hTc, hDp, hDc, hBk, hbk, hVN, hVT, hVD⟩ := hR
  refine z_iload_n (i := 1) (pc := 0) C rfl rfl dX6_findBook_0 ?_
  refine z_if_lt (tgt := 22) (pc := 1) C dX6_findBook_1 (by decide) (fun h1 => ?_) (fun h1 => ?_)
  · refine z_null (pc := 22) C dX6_findBook_22 ?_
    exact z_aret (pc := 23) C E (Or.inl ⟨_, rfl⟩) (Or.inl rfl) dX6_findBook_23 ⟨none, rfl, rfl, Or.inr ⟨by omega, rfl⟩⟩
  · refine z_iload_n (i := 1) (pc := 4) C rfl rfl dX6_findBook_4 ?_
    refine z_aload_n (i := 0) (pc := 5) C rfl rfl dX6_findBook_5 ?_
    refine g_X6_11 (pc := 6) C hX rfl dX6_findBook_6 ?_
    refine z_alenB (pc := 9) C hBs dX6_findBook_9 ?_
    refine z_icmp_ge (tgt := 22) (pc := 10) C dX6_findBook_10 (by decide) (fun h10 => ?_) (fun h10 => ?_)
    · refine z_null (pc := 22) C dX6_findBook_22 ?_
      exact z_aret (pc := 23) C E (Or.inl ⟨_, rfl⟩) (Or.inl rfl) dX6_findBook_23 ⟨none, rfl, rfl, Or.inr ⟨by omega, rfl⟩⟩
    · refine z_aload_n (i := 0) (pc := 13) C rfl rfl dX6_findBook_13 ?_
      refine g_X6_11 (pc := 14) C hX rfl dX6_findBook_14 ?_
      refine z_iload_n (i := 1) (pc := 17) C rfl rfl dX6_findBook_17 ?_
      refine z_aaloadB (pc := 18) C hBs rfl dX6_findBook_18 ?_
      refine z_goto (tgt := 23) (pc := 19) C dX6_findBook_19 (by decide) ?_
      exact z_aret (pc := 23) C E (Or.inl ⟨_, rfl⟩) (Or.inr ⟨_, rfl⟩) dX6_findBook_23 ⟨some (x + 42 + 2 * b.toNat), rfl, rfl, Or.inl ⟨by omega, by omega, rfl⟩⟩
def zRt (bk : Nat → Int → Int) (b : Int) : Prop := 0 ≤ b ∧ b < 8 ∧ zs (bk b.toNat) 21 = 1000
set_option maxRecDepth 100000 in
set_option maxHeartbeats 4000000 in
theorem c_X6_findRight {l0 : Launch} {X : zX} {ω : zWd} {x : Nat} {bk : Nat → Int → Int} {nv : Int} {np : Nat} {tv dv : Int → Int} {rt : Nat} {b : Int} (hR : zRH X ω x bk nv np tv dv rt) (hbr : -2147483648 ≤ b ∧ b < 2147483648) : zMet l0 yX6_findRight cX6_findRight 3 (some (.object "RuinHouse$Book")) rmX6_findRight X [.ref x, .int (zI b)] ω (zpq (fun r w => w = ω ∧ ((zRt bk b ∧ r = some (x + 42 + 2 * b.toNat)) ∨ (¬ zRt bk b ∧ r = none)))) := by
  refine zMet.intro (by decide) (Nat.le_of_ble_eq_true rfl) ?_
  intro Γ C E N
  show Zw Γ ω 0 0 0 [some _, some _, none] []
  have hR0 := hR
  obtain ⟨gm, gN, gB, gT, gD, hX, hBs, hMv, hWk, hPk, hFv, hNu, hNc, hBo, hBc, hTk, hTc, hDp, hDc, hBk, hbk, hVN, hVT, hVD⟩ := hR
  refine z_aload_n (i := 0) (pc := 0) C rfl rfl dX6_findRight_0 ?_
  refine z_iload_n (i := 1) (pc := 1) C rfl rfl dX6_findRight_1 ?_
  refine z_callVq (pc := 2) C (c_X6_findBook hR0 hbr) k_X6_66 zy_X6_findBook rfl rfl hX rfl rfl ⟨(Nat.le_of_ble_eq_true rfl), (Nat.le_of_ble_eq_true rfl)⟩ (Nat.le_of_ble_eq_true rfl) dX6_findRight_2 ⟨rfl, rfl⟩ ⟨(Nat.le_of_ble_eq_true rfl), (Nat.le_of_ble_eq_true rfl)⟩ (fun rv ω' hp => ?_)
  obtain ⟨hw', hp⟩ := hp
  rw [hw']
  clear hw'
  rcases hp with ⟨b0, b1, rfl⟩ | ⟨bn, rfl⟩
  · have hf := hbk b.toNat (by omega)
    refine z_astore_n (i := 2) (lv' := [_, _, _]) (pc := 5) C rfl (by decide) rfl rfl dX6_findRight_5 ?_
    refine z_aload_n (i := 2) (pc := 6) C rfl rfl dX6_findRight_6 ?_
    refine z_ifnull (pc := 7) C dX6_findRight_7 ?_
    refine z_aload_n (i := 2) (pc := 10) C rfl rfl dX6_findRight_10 ?_
    refine z_callVi (pc := 11) C (c_X0_isWhole (hBk b.toNat (by omega)).1 (hBk b.toNat (by omega)).2 hf) k_X6_184 zy_X0_isWhole rfl rfl (hBk b.toNat (by omega)).1 rfl rfl ⟨(Nat.le_of_ble_eq_true rfl), (Nat.le_of_ble_eq_true rfl)⟩ (Nat.le_of_ble_eq_true rfl) dX6_findRight_11 ⟨rfl, rfl⟩ ⟨(Nat.le_of_ble_eq_true rfl), (Nat.le_of_ble_eq_true rfl)⟩ (fun rv ω' hp => ?_)
    obtain ⟨hw', hp⟩ := hp
    rw [hw']
    clear hw'
    have hrr : rv = 0 ∨ rv = 1 := by rw [hp]; split <;> simp
    refine z_if_eq (tgt := 21) (pc := 14) C dX6_findRight_14 (by decide) (fun h14 => ?_) (fun h14 => ?_)
    · have hno : ¬ zRt bk b := fun h => by rw [if_pos h.2.2] at hp; omega
      refine z_null (pc := 21) C dX6_findRight_21 ?_
      exact z_aret (pc := 22) C E (Or.inl ⟨_, rfl⟩) (Or.inl rfl) dX6_findRight_22 ⟨none, rfl, rfl, Or.inr ⟨by first | exact hno | exact (fun h => by have h1 := h.1; have h2 := h.2.1; omega), rfl⟩⟩
    · have hyes : zRt bk b := ⟨b0, b1, by (by_cases h : zs (bk b.toNat) 21 = 1000); (· exact h); (· rw [if_neg h] at hp; omega)⟩
      refine z_aload_n (i := 2) (pc := 17) C rfl rfl dX6_findRight_17 ?_
      refine z_goto (tgt := 22) (pc := 18) C dX6_findRight_18 (by decide) ?_
      exact z_aret (pc := 22) C E (Or.inl ⟨_, rfl⟩) (Or.inr ⟨_, rfl⟩) dX6_findRight_22 ⟨some (x + 42 + 2 * b.toNat), rfl, rfl, Or.inl ⟨hyes, rfl⟩⟩
  · refine z_astore_nN (i := 2) (lv' := [_, _, _]) (pc := 5) C rfl (by decide) rfl rfl dX6_findRight_5 ?_
    refine z_aload_nN (i := 2) (pc := 6) C rfl rfl dX6_findRight_6 ?_
    refine z_ifnullN (tgt := 21) (pc := 7) C dX6_findRight_7 (by decide) ?_
    refine z_null (pc := 21) C dX6_findRight_21 ?_
    exact z_aret (pc := 22) C E (Or.inl ⟨_, rfl⟩) (Or.inl rfl) dX6_findRight_22 ⟨none, rfl, rfl, Or.inr ⟨by first | exact hno | exact (fun h => by have h1 := h.1; have h2 := h.2.1; omega), rfl⟩⟩
set_option maxRecDepth 100000 in
set_option maxHeartbeats 4000000 in
theorem c_X6_set {l0 : Launch} {X : zX} {ω : zWd} {x : Nat} {bk : Nat → Int → Int} {nv : Int} {np : Nat} {tv dv : Int → Int} {rt : Nat} {b s v : Int} (hR : zRH X ω x bk nv np tv dv rt) (hbr : -2147483648 ≤ b ∧ b < 2147483648) (hsr : -2147483648 ≤ s ∧ s < 2147483648) (hvr : -2147483648 ≤ v ∧ v < 2147483648) : zMet l0 yX6_set cX6_set 5 (some .boolean) rmX6_set X [.ref x, .int (zI b), .int (zI s), .int (zI v)] ω (zpi (fun r w => zOut x (x + 58) ω w ∧ (((0 ≤ b ∧ b < 8) ∧ (0 ≤ s ∧ s ≤ 20) ∧ (0 ≤ v ∧ v ≤ 1000) ∧ r = 1 ∧ zRH X w x (va_up bk b.toNat (zup (bk b.toNat) s v)) nv np tv dv rt) ∨ (¬ ((0 ≤ b ∧ b < 8) ∧ (0 ≤ s ∧ s ≤ 20) ∧ (0 ≤ v ∧ v ≤ 1000)) ∧ r = 0 ∧ zRH X w x bk nv np tv dv rt)))) := by
  refine zMet.intro (by decide) (Nat.le_of_ble_eq_true rfl) ?_
  intro Γ C E N
  show Zw Γ ω 0 0 0 [some _, some _, some _, some _, none] []
  have hR0 := hR
  obtain ⟨gm, gN, gB, gT, gD, hX, hBs, hMv, hWk, hPk, hFv, hNu, hNc, hBo, hBc, hTk, hTc, hDp, hDc, hBk, hbk, hVN, hVT, hVD⟩ := hR
  refine z_aload_n (i := 0) (pc := 0) C rfl rfl dX6_set_0 ?_
  refine z_iload_n (i := 1) (pc := 1) C rfl rfl dX6_set_1 ?_
  refine z_callVq (pc := 2) C (c_X6_findBook hR0 hbr) k_X6_66 zy_X6_findBook rfl rfl hX rfl rfl ⟨(Nat.le_of_ble_eq_true rfl), (Nat.le_of_ble_eq_true rfl)⟩ (Nat.le_of_ble_eq_true rfl) dX6_set_2 ⟨rfl, rfl⟩ ⟨(Nat.le_of_ble_eq_true rfl), (Nat.le_of_ble_eq_true rfl)⟩ (fun rv ω' hp => ?_)
  obtain ⟨hw', hp⟩ := hp
  rw [hw']
  clear hw'
  rcases hp with ⟨b0, b1, rfl⟩ | ⟨bn, rfl⟩
  · have hf := hbk b.toNat (by omega)
    refine z_astore (i := 4) (lv' := [_, _, _, _, _]) (pc := 5) C (by decide) rfl rfl dX6_set_5 ?_
    refine z_aload (i := 4) (pc := 7) C rfl dX6_set_7 ?_
    refine z_ifnull (pc := 9) C dX6_set_9 ?_
    refine z_iload_n (i := 2) (pc := 12) C rfl rfl dX6_set_12 ?_
    refine z_iconst (pc := 13) C dX6_set_13 ?_
    refine z_bipush (pc := 14) C (by decide +kernel) dX6_set_14 ?_
    refine z_callSi (pc := 16) C (c_X6_isWithin) k_X6_70 zy_X6_isWithin.2 rfl rfl ⟨(Nat.le_of_ble_eq_true rfl), (Nat.le_of_ble_eq_true rfl)⟩ (Nat.le_of_ble_eq_true rfl) dX6_set_16 ⟨rfl, rfl⟩ ⟨(Nat.le_of_ble_eq_true rfl), (Nat.le_of_ble_eq_true rfl)⟩ (fun rv ω' hp => ?_)
    obtain ⟨hw', hi⟩ := hp
    rw [hw']
    clear hw'
    refine z_if_eq (tgt := 33) (pc := 19) C dX6_set_19 (by decide) (fun h19 => ?_) (fun h19 => ?_)
    · refine z_iconst (pc := 33) C dX6_set_33 ?_
      exact z_zret (pc := 34) C E (by decide +kernel) dX6_set_34 ⟨_, rfl, ⟨zOut.rf, Or.inr ⟨by omega, rfl, hR0⟩⟩⟩
    · refine z_iload_n (i := 3) (pc := 22) C rfl rfl dX6_set_22 ?_
      refine z_iconst (pc := 23) C dX6_set_23 ?_
      refine z_sipush (pc := 24) C (by decide +kernel) dX6_set_24 ?_
      refine z_callSi (pc := 27) C (c_X6_isWithin) k_X6_70 zy_X6_isWithin.2 rfl rfl ⟨(Nat.le_of_ble_eq_true rfl), (Nat.le_of_ble_eq_true rfl)⟩ (Nat.le_of_ble_eq_true rfl) dX6_set_27 ⟨rfl, rfl⟩ ⟨(Nat.le_of_ble_eq_true rfl), (Nat.le_of_ble_eq_true rfl)⟩ (fun rv ω' hp => ?_)
      obtain ⟨hw', hi2⟩ := hp
      rw [hw']
      clear hw'
      refine z_if_ne (tgt := 35) (pc := 30) C dX6_set_30 (by decide) (fun h30 => ?_) (fun h30 => ?_)
      · refine z_aload (i := 4) (pc := 35) C rfl dX6_set_35 ?_
        refine z_iload_n (i := 2) (pc := 37) C rfl rfl dX6_set_37 ?_
        refine z_iload_n (i := 3) (pc := 38) C rfl rfl dX6_set_38 ?_
        refine z_callVv (pc := 39) C (c_X0_write (hBk b.toNat (by omega)).1 (hBk b.toNat (by omega)).2) k_X6_74 zy_X0_write rfl rfl (hBk b.toNat (by omega)).1 rfl rfl ⟨(Nat.le_of_ble_eq_true rfl), (Nat.le_of_ble_eq_true rfl)⟩ (Nat.le_of_ble_eq_true rfl) dX6_set_39 ⟨rfl, rfl⟩ ⟨(Nat.le_of_ble_eq_true rfl), (Nat.le_of_ble_eq_true rfl)⟩ (fun ω' hp => ?_)
        subst hp
        refine z_iconst (pc := 42) C dX6_set_42 ?_
        exact z_zret (pc := 43) C E (by decide +kernel) dX6_set_43 ⟨_, rfl, ⟨zOut.rf.u (by omega) (by omega), Or.inl ⟨by omega, by omega, by omega, rfl, hR0.bk (by omega) (fun k k0 k1 => by by_cases e : k = s; (· subst e; rw [zup_s]; omega); (· rw [zup_n e]; exact hf k k0 k1))⟩⟩⟩
      · refine z_iconst (pc := 33) C dX6_set_33 ?_
        exact z_zret (pc := 34) C E (by decide +kernel) dX6_set_34 ⟨_, rfl, ⟨zOut.rf, Or.inr ⟨by omega, rfl, hR0⟩⟩⟩
  · refine z_astoreN (i := 4) (lv' := [_, _, _, _, _]) (pc := 5) C (by decide) rfl rfl dX6_set_5 ?_
    refine z_aloadN (i := 4) (pc := 7) C rfl dX6_set_7 ?_
    refine z_ifnullN (tgt := 33) (pc := 9) C dX6_set_9 (by decide) ?_
    refine z_iconst (pc := 33) C dX6_set_33 ?_
    exact z_zret (pc := 34) C E (by decide +kernel) dX6_set_34 ⟨_, rfl, ⟨zOut.rf, Or.inr ⟨by omega, rfl, hR0⟩⟩⟩
set_option maxRecDepth 100000 in
set_option maxHeartbeats 4000000 in
theorem c_X6_parts {l0 : Launch} {X : zX} {ω : zWd} {x : Nat} {bk : Nat → Int → Int} {nv : Int} {np : Nat} {tv dv : Int → Int} {rt : Nat} {b s : Int} (hR : zRH X ω x bk nv np tv dv rt) (hbr : -2147483648 ≤ b ∧ b < 2147483648) (hsr : -2147483648 ≤ s ∧ s < 2147483648) : zMet l0 yX6_parts cX6_parts 4 (some .int) rmX6_parts X [.ref x, .int (zI b), .int (zI s)] ω (zpi (fun r w => w = ω ∧ (((0 ≤ b ∧ b < 8) ∧ (0 ≤ s ∧ s ≤ 20) ∧ r = bk b.toNat s) ∨ (¬ ((0 ≤ b ∧ b < 8) ∧ (0 ≤ s ∧ s ≤ 20)) ∧ r = -1)))) := by
  refine zMet.intro (by decide) (Nat.le_of_ble_eq_true rfl) ?_
  intro Γ C E N
  show Zw Γ ω 0 0 0 [some _, some _, some _, none] []
  have hR0 := hR
  obtain ⟨gm, gN, gB, gT, gD, hX, hBs, hMv, hWk, hPk, hFv, hNu, hNc, hBo, hBc, hTk, hTc, hDp, hDc, hBk, hbk, hVN, hVT, hVD⟩ := hR
  refine z_aload_n (i := 0) (pc := 0) C rfl rfl dX6_parts_0 ?_
  refine z_iload_n (i := 1) (pc := 1) C rfl rfl dX6_parts_1 ?_
  refine z_callVq (pc := 2) C (c_X6_findBook hR0 hbr) k_X6_66 zy_X6_findBook rfl rfl hX rfl rfl ⟨(Nat.le_of_ble_eq_true rfl), (Nat.le_of_ble_eq_true rfl)⟩ (Nat.le_of_ble_eq_true rfl) dX6_parts_2 ⟨rfl, rfl⟩ ⟨(Nat.le_of_ble_eq_true rfl), (Nat.le_of_ble_eq_true rfl)⟩ (fun rv ω' hp => ?_)
  obtain ⟨hw', hp⟩ := hp
  rw [hw']
  clear hw'
  rcases hp with ⟨b0, b1, rfl⟩ | ⟨bn, rfl⟩
  · refine z_astore_n (i := 3) (lv' := [_, _, _, _]) (pc := 5) C rfl (by decide) rfl rfl dX6_parts_5 ?_
    refine z_aload_n (i := 3) (pc := 6) C rfl rfl dX6_parts_6 ?_
    refine z_ifnull (pc := 7) C dX6_parts_7 ?_
    refine z_iload_n (i := 2) (pc := 10) C rfl rfl dX6_parts_10 ?_
    refine z_iconst (pc := 11) C dX6_parts_11 ?_
    refine z_bipush (pc := 12) C (by decide +kernel) dX6_parts_12 ?_
    refine z_callSi (pc := 14) C (c_X6_isWithin) k_X6_70 zy_X6_isWithin.2 rfl rfl ⟨(Nat.le_of_ble_eq_true rfl), (Nat.le_of_ble_eq_true rfl)⟩ (Nat.le_of_ble_eq_true rfl) dX6_parts_14 ⟨rfl, rfl⟩ ⟨(Nat.le_of_ble_eq_true rfl), (Nat.le_of_ble_eq_true rfl)⟩ (fun rv ω' hp => ?_)
    obtain ⟨hw', hi⟩ := hp
    rw [hw']
    clear hw'
    refine z_if_ne (tgt := 22) (pc := 17) C dX6_parts_17 (by decide) (fun h17 => ?_) (fun h17 => ?_)
    · refine z_aload_n (i := 3) (pc := 22) C rfl rfl dX6_parts_22 ?_
      refine z_iload_n (i := 2) (pc := 23) C rfl rfl dX6_parts_23 ?_
      refine z_callVi (pc := 24) C (c_X0_read (hBk b.toNat (by omega)).1 (hBk b.toNat (by omega)).2) k_X6_77 zy_X0_read rfl rfl (hBk b.toNat (by omega)).1 rfl rfl ⟨(Nat.le_of_ble_eq_true rfl), (Nat.le_of_ble_eq_true rfl)⟩ (Nat.le_of_ble_eq_true rfl) dX6_parts_24 ⟨rfl, rfl⟩ ⟨(Nat.le_of_ble_eq_true rfl), (Nat.le_of_ble_eq_true rfl)⟩ (fun rv ω' hp => ?_)
      obtain ⟨hw', rfl⟩ := hp
      rw [hw']
      exact z_iret (pc := 27) C E dX6_parts_27 ⟨_, rfl, ⟨rfl, Or.inl ⟨by omega, by omega, rfl⟩⟩⟩
    · refine z_iconst (pc := 20) C dX6_parts_20 ?_
      exact z_iret (pc := 21) C E dX6_parts_21 ⟨_, rfl, ⟨rfl, Or.inr ⟨by omega, rfl⟩⟩⟩
  · refine z_astore_nN (i := 3) (lv' := [_, _, _, _]) (pc := 5) C rfl (by decide) rfl rfl dX6_parts_5 ?_
    refine z_aload_nN (i := 3) (pc := 6) C rfl rfl dX6_parts_6 ?_
    refine z_ifnullN (tgt := 20) (pc := 7) C dX6_parts_7 (by decide) ?_
    refine z_iconst (pc := 20) C dX6_parts_20 ?_
    exact z_iret (pc := 21) C E dX6_parts_21 ⟨_, rfl, ⟨rfl, Or.inr ⟨by omega, rfl⟩⟩⟩
set_option maxRecDepth 100000 in
set_option maxHeartbeats 4000000 in
theorem c_X6_right {l0 : Launch} {X : zX} {ω : zWd} {x : Nat} {bk : Nat → Int → Int} {nv : Int} {np : Nat} {tv dv : Int → Int} {rt : Nat} {b : Int} (hR : zRH X ω x bk nv np tv dv rt) (hbr : -2147483648 ≤ b ∧ b < 2147483648) : zMet l0 yX6_right cX6_right 2 (some .boolean) rmX6_right X [.ref x, .int (zI b)] ω (zpi (fun r w => w = ω ∧ ((zRt bk b ∧ r = 1) ∨ (¬ zRt bk b ∧ r = 0)))) := by
  refine zMet.intro (by decide) (Nat.le_of_ble_eq_true rfl) ?_
  intro Γ C E N
  show Zw Γ ω 0 0 0 [some _, some _] []
  have hR0 := hR
  obtain ⟨gm, gN, gB, gT, gD, hX, hBs, hMv, hWk, hPk, hFv, hNu, hNc, hBo, hBc, hTk, hTc, hDp, hDc, hBk, hbk, hVN, hVT, hVD⟩ := hR
  refine z_aload_n (i := 0) (pc := 0) C rfl rfl dX6_right_0 ?_
  refine z_iload_n (i := 1) (pc := 1) C rfl rfl dX6_right_1 ?_
  refine z_callVq (pc := 2) C (c_X6_findRight hR0 hbr) k_X6_81 zy_X6_findRight rfl rfl hX rfl rfl ⟨(Nat.le_of_ble_eq_true rfl), (Nat.le_of_ble_eq_true rfl)⟩ (Nat.le_of_ble_eq_true rfl) dX6_right_2 ⟨rfl, rfl⟩ ⟨(Nat.le_of_ble_eq_true rfl), (Nat.le_of_ble_eq_true rfl)⟩ (fun rv ω' hp => ?_)
  obtain ⟨hw', hp⟩ := hp
  rw [hw']
  clear hw'
  rcases hp with ⟨hyes, rfl⟩ | ⟨hno, rfl⟩
  · refine z_ifnull (pc := 5) C dX6_right_5 ?_
    refine z_iconst (pc := 8) C dX6_right_8 ?_
    refine z_goto (tgt := 13) (pc := 9) C dX6_right_9 (by decide) ?_
    exact z_zret (pc := 13) C E (by decide +kernel) dX6_right_13 ⟨_, rfl, ⟨rfl, by first | (left; exact ⟨hyes, rfl⟩) | (right; exact ⟨hno, rfl⟩)⟩⟩
  · refine z_ifnullN (tgt := 12) (pc := 5) C dX6_right_5 (by decide) ?_
    refine z_iconst (pc := 12) C dX6_right_12 ?_
    exact z_zret (pc := 13) C E (by decide +kernel) dX6_right_13 ⟨_, rfl, ⟨rfl, by first | (left; exact ⟨hyes, rfl⟩) | (right; exact ⟨hno, rfl⟩)⟩⟩
set_option maxRecDepth 100000 in
set_option maxHeartbeats 4000000 in
theorem c_X6_told {l0 : Launch} {X : zX} {ω : zWd} {x : Nat} {bk : Nat → Int → Int} {nv : Int} {np : Nat} {tv dv : Int → Int} {rt : Nat} {b what d : Int} (hR : zRH X ω x bk nv np tv dv rt) (hbr : -2147483648 ≤ b ∧ b < 2147483648) (hwhatr : -2147483648 ≤ what ∧ what < 2147483648) (hdr : -2147483648 ≤ d ∧ d < 2147483648) : zMet l0 yX6_told cX6_told 5 (some .int) rmX6_told X [.ref x, .int (zI b), .int (zI what), .int (zI d)] ω (zpi (fun r w => w = ω ∧ ((zRt bk b ∧ what = 0 ∧ r = zst (bk b.toNat) 0) ∨ (zRt bk b ∧ what = 1 ∧ r = 1000 * zsq (bk b.toNat) - zst (bk b.toNat) 0 * zst (bk b.toNat) 0) ∨ (zRt bk b ∧ what = 2 ∧ (0 ≤ d ∧ d ≤ 20) ∧ r = zst (bk b.toNat) d) ∨ (¬ (zRt bk b ∧ (what = 0 ∨ what = 1 ∨ (what = 2 ∧ 0 ≤ d ∧ d ≤ 20))) ∧ r = -1)))) := by
  refine zMet.intro (by decide) (Nat.le_of_ble_eq_true rfl) ?_
  intro Γ C E N
  show Zw Γ ω 0 0 0 [some _, some _, some _, some _, none] []
  have hR0 := hR
  obtain ⟨gm, gN, gB, gT, gD, hX, hBs, hMv, hWk, hPk, hFv, hNu, hNc, hBo, hBc, hTk, hTc, hDp, hDc, hBk, hbk, hVN, hVT, hVD⟩ := hR
  refine z_aload_n (i := 0) (pc := 0) C rfl rfl dX6_told_0 ?_
  refine z_iload_n (i := 1) (pc := 1) C rfl rfl dX6_told_1 ?_
  refine z_callVq (pc := 2) C (c_X6_findRight hR0 hbr) k_X6_81 zy_X6_findRight rfl rfl hX rfl rfl ⟨(Nat.le_of_ble_eq_true rfl), (Nat.le_of_ble_eq_true rfl)⟩ (Nat.le_of_ble_eq_true rfl) dX6_told_2 ⟨rfl, rfl⟩ ⟨(Nat.le_of_ble_eq_true rfl), (Nat.le_of_ble_eq_true rfl)⟩ (fun rv ω' hp => ?_)
  obtain ⟨hw', hp⟩ := hp
  rw [hw']
  clear hw'
  rcases hp with ⟨hyes, rfl⟩ | ⟨hno, rfl⟩
  · obtain ⟨b0, b1, bs⟩ := id hyes
    refine z_astore (i := 4) (lv' := [_, _, _, _, _]) (pc := 5) C (by decide) rfl rfl dX6_told_5 ?_
    refine z_aload (i := 4) (pc := 7) C rfl dX6_told_7 ?_
    refine z_ifnonnull (tgt := 14) (pc := 9) C dX6_told_9 (by decide) ?_
    refine z_iload_n (i := 2) (pc := 14) C rfl rfl dX6_told_14 ?_
    refine z_if_ne (tgt := 24) (pc := 15) C dX6_told_15 (by decide) (fun h15 => ?_) (fun h15 => ?_)
    · refine z_iload_n (i := 2) (pc := 24) C rfl rfl dX6_told_24 ?_
      refine z_iconst (pc := 25) C dX6_told_25 ?_
      refine z_icmp_ne (tgt := 35) (pc := 26) C dX6_told_26 (by decide) (fun h26 => ?_) (fun h26 => ?_)
      · refine z_iload_n (i := 2) (pc := 35) C rfl rfl dX6_told_35 ?_
        refine z_iconst (pc := 36) C dX6_told_36 ?_
        refine z_icmp_ne (tgt := 59) (pc := 37) C dX6_told_37 (by decide) (fun h37 => ?_) (fun h37 => ?_)
        · refine z_iconst (pc := 59) C dX6_told_59 ?_
          exact z_iret (pc := 60) C E dX6_told_60 ⟨_, rfl, ⟨rfl, by first | (exact Or.inr (Or.inr (Or.inl ⟨hyes, by omega, by omega, rfl⟩))) | (exact Or.inr (Or.inr (Or.inr ⟨fun h => by have := h.2; omega, rfl⟩)))⟩⟩
        · refine z_iload_n (i := 3) (pc := 40) C rfl rfl dX6_told_40 ?_
          refine z_iconst (pc := 41) C dX6_told_41 ?_
          refine z_bipush (pc := 42) C (by decide +kernel) dX6_told_42 ?_
          refine z_callSi (pc := 44) C (c_X6_isWithin) k_X6_70 zy_X6_isWithin.2 rfl rfl ⟨(Nat.le_of_ble_eq_true rfl), (Nat.le_of_ble_eq_true rfl)⟩ (Nat.le_of_ble_eq_true rfl) dX6_told_44 ⟨rfl, rfl⟩ ⟨(Nat.le_of_ble_eq_true rfl), (Nat.le_of_ble_eq_true rfl)⟩ (fun rv ω' hp => ?_)
          obtain ⟨hw', hi⟩ := hp
          rw [hw']
          clear hw'
          refine z_if_eq (tgt := 59) (pc := 47) C dX6_told_47 (by decide) (fun h47 => ?_) (fun h47 => ?_)
          · refine z_iconst (pc := 59) C dX6_told_59 ?_
            exact z_iret (pc := 60) C E dX6_told_60 ⟨_, rfl, ⟨rfl, by first | (exact Or.inr (Or.inr (Or.inl ⟨hyes, by omega, by omega, rfl⟩))) | (exact Or.inr (Or.inr (Or.inr ⟨fun h => by have := h.2; omega, rfl⟩)))⟩⟩
          · refine z_aload (i := 4) (pc := 50) C rfl dX6_told_50 ?_
            refine z_iload_n (i := 3) (pc := 52) C rfl rfl dX6_told_52 ?_
            refine z_callVi (pc := 53) C (c_X0_stopAbove (hBk b.toNat (by omega)).1 (hBk b.toNat (by omega)).2) k_X6_91 zy_X0_stopAbove rfl rfl (hBk b.toNat (by omega)).1 rfl rfl ⟨(Nat.le_of_ble_eq_true rfl), (Nat.le_of_ble_eq_true rfl)⟩ (Nat.le_of_ble_eq_true rfl) dX6_told_53 ⟨rfl, rfl⟩ ⟨(Nat.le_of_ble_eq_true rfl), (Nat.le_of_ble_eq_true rfl)⟩ (fun rv ω' hp => ?_)
            obtain ⟨hw', rfl⟩ := hp
            rw [hw']
            refine z_goto (tgt := 60) (pc := 56) C dX6_told_56 (by decide) ?_
            exact z_iret (pc := 60) C E dX6_told_60 ⟨_, rfl, ⟨rfl, by first | (exact Or.inr (Or.inr (Or.inl ⟨hyes, by omega, by omega, rfl⟩))) | (exact Or.inr (Or.inr (Or.inr ⟨fun h => by have := h.2; omega, rfl⟩)))⟩⟩
      · refine z_aload (i := 4) (pc := 29) C rfl dX6_told_29 ?_
        refine z_callVi (pc := 31) C (c_X0_spread (hBk b.toNat (by omega)).1 (hBk b.toNat (by omega)).2) k_X6_88 zy_X0_spread rfl rfl (hBk b.toNat (by omega)).1 rfl rfl ⟨(Nat.le_of_ble_eq_true rfl), (Nat.le_of_ble_eq_true rfl)⟩ (Nat.le_of_ble_eq_true rfl) dX6_told_31 ⟨rfl, rfl⟩ ⟨(Nat.le_of_ble_eq_true rfl), (Nat.le_of_ble_eq_true rfl)⟩ (fun rv ω' hp => ?_)
        obtain ⟨hw', rfl⟩ := hp
        rw [hw']
        exact z_iret (pc := 34) C E dX6_told_34 ⟨_, rfl, ⟨rfl, Or.inr (Or.inl ⟨hyes, by omega, rfl⟩)⟩⟩
    · refine z_aload (i := 4) (pc := 18) C rfl dX6_told_18 ?_
      refine z_callVi (pc := 20) C (c_X0_mean (hBk b.toNat (by omega)).1 (hBk b.toNat (by omega)).2) k_X6_84 zy_X0_mean rfl rfl (hBk b.toNat (by omega)).1 rfl rfl ⟨(Nat.le_of_ble_eq_true rfl), (Nat.le_of_ble_eq_true rfl)⟩ (Nat.le_of_ble_eq_true rfl) dX6_told_20 ⟨rfl, rfl⟩ ⟨(Nat.le_of_ble_eq_true rfl), (Nat.le_of_ble_eq_true rfl)⟩ (fun rv ω' hp => ?_)
      obtain ⟨hw', rfl⟩ := hp
      rw [hw']
      exact z_iret (pc := 23) C E dX6_told_23 ⟨_, rfl, ⟨rfl, Or.inl ⟨hyes, by omega, rfl⟩⟩⟩
  · refine z_astoreN (i := 4) (lv' := [_, _, _, _, _]) (pc := 5) C (by decide) rfl rfl dX6_told_5 ?_
    refine z_aloadN (i := 4) (pc := 7) C rfl dX6_told_7 ?_
    refine z_ifnonnullN (pc := 9) C dX6_told_9 ?_
    refine z_iconst (pc := 12) C dX6_told_12 ?_
    exact z_iret (pc := 13) C E dX6_told_13 ⟨_, rfl, ⟨rfl, Or.inr (Or.inr (Or.inr ⟨fun h => hno h.1, rfl⟩))⟩⟩
theorem zst_b {f : Int → Int} (hf : zBk f) {d : Int} (hd : 0 ≤ d) : 0 ≤ zst f d ∧ zst f d ≤ 420000 := by
  have h := zs_b (f := fun k => max (k - d) 0 * f k) (M := 20 * 1000) (n := 21) (fun k a b => ⟨Int.mul_nonneg (by omega) (hf k a (by omega)).1, Int.mul_le_mul (by omega) (hf k a (by omega)).2 (hf k a (by omega)).1 (by omega)⟩)
  unfold zst
  omega
set_option maxRecDepth 100000 in
set_option maxHeartbeats 4000000 in
theorem lp_X6_lighter {Γ : zG} {l0 : Launch} {X : zX} {ω : zWd} {x : Nat} {bk : Nat → Int → Int} {nv : Int} {np : Nat} {tv dv : Int → Int} {rt : Nat} {b b2 : Int} (C : Zc Γ l0 X rmX6_lighter 6 cX6_lighter RX6) (E : Ze Γ (zpi (fun r w => w = ω ∧ ((zRt bk b ∧ zRt bk b2 ∧ (∀ d : Int, 0 ≤ d → d ≤ 20 → zst (bk b.toNat) d ≤ zst (bk b2.toNat) d) ∧ r = 1) ∨ (¬ (zRt bk b ∧ zRt bk b2 ∧ ∀ d : Int, 0 ≤ d → d ≤ 20 → zst (bk b.toNat) d ≤ zst (bk b2.toNat) d) ∧ r = 0)))) 0 0 (some .boolean)) (hR : zRH X ω x bk nv np tv dv rt) (hy : zRt bk b) (hy2 : zRt bk b2) : ∀ (j i : Nat), i + j = 21 → (∀ d : Int, 0 ≤ d → d < i → zst (bk b.toNat) d ≤ zst (bk b2.toNat) d) → Zw Γ ω 0 0 27 [some (.ref x), some (.int (zI b)), some (.int (zI b2)), some (.ref (x + 42 + 2 * b.toNat)), some (.ref (x + 42 + 2 * b2.toNat)), some (.int (zI (i : Int)))] [] := by
  obtain ⟨b0, b1, bs⟩ := id hy
  obtain ⟨c0, c1, cs⟩ := id hy2
  obtain ⟨gm, gN, gB, gT, gD, hX, hBs, hMv, hWk, hPk, hFv, hNu, hNc, hBo, hBc, hTk, hTc, hDp, hDc, hBk, hbk, hVN, hVT, hVD⟩ := hR
  intro j
  induction j with
  | zero =>
    intro i hj hd
    refine z_iload (i := 5) (pc := 27) C rfl dX6_lighter_27 ?_
    refine z_bipush (pc := 29) C (by decide +kernel) dX6_lighter_29 ?_
    refine z_icmp_gt (tgt := 58) (pc := 31) C dX6_lighter_31 (by decide) (fun h31 => ?_) (fun h31 => absurd h31 (by omega))
    refine z_iconst (pc := 58) C dX6_lighter_58 ?_
    exact z_zret (pc := 59) C E (by decide +kernel) dX6_lighter_59 ⟨_, rfl, ⟨rfl, Or.inl ⟨hy, hy2, fun d a b => hd d a (by omega), rfl⟩⟩⟩
  | succ j ih =>
    intro i hj hd
    have q1 := zst_b (hbk b.toNat (by omega)) (d := (i : Int)) (by omega)
    have q2 := zst_b (hbk b2.toNat (by omega)) (d := (i : Int)) (by omega)
    refine z_iload (i := 5) (pc := 27) C rfl dX6_lighter_27 ?_
    refine z_bipush (pc := 29) C (by decide +kernel) dX6_lighter_29 ?_
    refine z_icmp_gt (tgt := 58) (pc := 31) C dX6_lighter_31 (by decide) (fun h31 => absurd h31 (by omega)) (fun h31 => ?_)
    refine z_aload_n (i := 3) (pc := 34) C rfl rfl dX6_lighter_34 ?_
    refine z_iload (i := 5) (pc := 35) C rfl dX6_lighter_35 ?_
    refine z_callVi (pc := 37) C (c_X0_stopAbove (hBk b.toNat (by omega)).1 (hBk b.toNat (by omega)).2) k_X6_91 zy_X0_stopAbove rfl rfl (hBk b.toNat (by omega)).1 rfl rfl ⟨(Nat.le_of_ble_eq_true rfl), (Nat.le_of_ble_eq_true rfl)⟩ (Nat.le_of_ble_eq_true rfl) dX6_lighter_37 ⟨rfl, rfl⟩ ⟨(Nat.le_of_ble_eq_true rfl), (Nat.le_of_ble_eq_true rfl)⟩ (fun rv ω' hp => ?_)
    obtain ⟨hw', rfl⟩ := hp
    rw [hw']
    refine z_aload (i := 4) (pc := 40) C rfl dX6_lighter_40 ?_
    refine z_iload (i := 5) (pc := 42) C rfl dX6_lighter_42 ?_
    refine z_callVi (pc := 44) C (c_X0_stopAbove (hBk b2.toNat (by omega)).1 (hBk b2.toNat (by omega)).2) k_X6_91 zy_X0_stopAbove rfl rfl (hBk b2.toNat (by omega)).1 rfl rfl ⟨(Nat.le_of_ble_eq_true rfl), (Nat.le_of_ble_eq_true rfl)⟩ (Nat.le_of_ble_eq_true rfl) dX6_lighter_44 ⟨rfl, rfl⟩ ⟨(Nat.le_of_ble_eq_true rfl), (Nat.le_of_ble_eq_true rfl)⟩ (fun rv ω' hp => ?_)
    obtain ⟨hw', rfl⟩ := hp
    rw [hw']
    refine z_icmp_le (tgt := 52) (pc := 47) C dX6_lighter_47 (by decide) (fun h47 => ?_) (fun h47 => ?_)
    · refine z_iinc (i := 5) (lv' := [_, _, _, _, _, _]) (pc := 52) C rfl (by decide) rfl rfl dX6_lighter_52 ?_
      refine z_goto (tgt := 27) (pc := 55) C dX6_lighter_55 (by decide) ?_
      exact ih (i + 1) (by omega) (fun d a b => by
        by_cases e : d = i
        · rw [e]; omega
        · exact hd d a (by omega))
    · refine z_iconst (pc := 50) C dX6_lighter_50 ?_
      exact z_zret (pc := 51) C E (by decide +kernel) dX6_lighter_51 ⟨_, rfl, ⟨rfl, Or.inr ⟨fun h => by have := h.2.2 i (by omega) (by omega); omega, rfl⟩⟩⟩
set_option maxRecDepth 100000 in
set_option maxHeartbeats 4000000 in
theorem c_X6_lighter {l0 : Launch} {X : zX} {ω : zWd} {x : Nat} {bk : Nat → Int → Int} {nv : Int} {np : Nat} {tv dv : Int → Int} {rt : Nat} {b b2 : Int} (hR : zRH X ω x bk nv np tv dv rt) (hbr : -2147483648 ≤ b ∧ b < 2147483648) (hb2r : -2147483648 ≤ b2 ∧ b2 < 2147483648) : zMet l0 yX6_lighter cX6_lighter 6 (some .boolean) rmX6_lighter X [.ref x, .int (zI b), .int (zI b2)] ω (zpi (fun r w => w = ω ∧ ((zRt bk b ∧ zRt bk b2 ∧ (∀ d : Int, 0 ≤ d → d ≤ 20 → zst (bk b.toNat) d ≤ zst (bk b2.toNat) d) ∧ r = 1) ∨ (¬ (zRt bk b ∧ zRt bk b2 ∧ ∀ d : Int, 0 ≤ d → d ≤ 20 → zst (bk b.toNat) d ≤ zst (bk b2.toNat) d) ∧ r = 0)))) := by
  refine zMet.intro (by decide) (Nat.le_of_ble_eq_true rfl) ?_
  intro Γ C E N
  show Zw Γ ω 0 0 0 [some _, some _, some _, none, none, none] []
  have hR0 := hR
  obtain ⟨gm, gN, gB, gT, gD, hX, hBs, hMv, hWk, hPk, hFv, hNu, hNc, hBo, hBc, hTk, hTc, hDp, hDc, hBk, hbk, hVN, hVT, hVD⟩ := hR
  refine z_aload_n (i := 0) (pc := 0) C rfl rfl dX6_lighter_0 ?_
  refine z_iload_n (i := 1) (pc := 1) C rfl rfl dX6_lighter_1 ?_
  refine z_callVq (pc := 2) C (c_X6_findRight hR0 hbr) k_X6_81 zy_X6_findRight rfl rfl hX rfl rfl ⟨(Nat.le_of_ble_eq_true rfl), (Nat.le_of_ble_eq_true rfl)⟩ (Nat.le_of_ble_eq_true rfl) dX6_lighter_2 ⟨rfl, rfl⟩ ⟨(Nat.le_of_ble_eq_true rfl), (Nat.le_of_ble_eq_true rfl)⟩ (fun rv ω' hp => ?_)
  obtain ⟨hw', hp⟩ := hp
  rw [hw']
  clear hw'
  rcases hp with ⟨hyes, rfl⟩ | ⟨hno, rfl⟩
  · refine z_astore_n (i := 3) (lv' := [_, _, _, _, _, _]) (pc := 5) C rfl (by decide) rfl rfl dX6_lighter_5 ?_
    refine z_aload_n (i := 0) (pc := 6) C rfl rfl dX6_lighter_6 ?_
    refine z_iload_n (i := 2) (pc := 7) C rfl rfl dX6_lighter_7 ?_
    refine z_callVq (pc := 8) C (c_X6_findRight hR0 hb2r) k_X6_81 zy_X6_findRight rfl rfl hX rfl rfl ⟨(Nat.le_of_ble_eq_true rfl), (Nat.le_of_ble_eq_true rfl)⟩ (Nat.le_of_ble_eq_true rfl) dX6_lighter_8 ⟨rfl, rfl⟩ ⟨(Nat.le_of_ble_eq_true rfl), (Nat.le_of_ble_eq_true rfl)⟩ (fun rv ω' hp => ?_)
    obtain ⟨hw', hp⟩ := hp
    rw [hw']
    clear hw'
    rcases hp with ⟨hyes2, rfl⟩ | ⟨hno2, rfl⟩
    · refine z_astore (i := 4) (lv' := [_, _, _, _, _, _]) (pc := 11) C (by decide) rfl rfl dX6_lighter_11 ?_
      refine z_aload_n (i := 3) (pc := 13) C rfl rfl dX6_lighter_13 ?_
      refine z_ifnull (pc := 14) C dX6_lighter_14 ?_
      refine z_aload (i := 4) (pc := 17) C rfl dX6_lighter_17 ?_
      refine z_ifnonnull (tgt := 24) (pc := 19) C dX6_lighter_19 (by decide) ?_
      refine z_iconst (pc := 24) C dX6_lighter_24 ?_
      refine z_istore (i := 5) (lv' := [_, _, _, _, _, _]) (pc := 25) C (by decide) rfl rfl dX6_lighter_25 ?_
      exact lp_X6_lighter C E hR0 hyes hyes2 21 0 rfl (fun d a b => by omega)
    · refine z_astoreN (i := 4) (lv' := [_, _, _, _, _, _]) (pc := 11) C (by decide) rfl rfl dX6_lighter_11 ?_
      refine z_aload_n (i := 3) (pc := 13) C rfl rfl dX6_lighter_13 ?_
      refine z_ifnull (pc := 14) C dX6_lighter_14 ?_
      refine z_aloadN (i := 4) (pc := 17) C rfl dX6_lighter_17 ?_
      refine z_ifnonnullN (pc := 19) C dX6_lighter_19 ?_
      refine z_iconst (pc := 22) C dX6_lighter_22 ?_
      exact z_zret (pc := 23) C E (by decide +kernel) dX6_lighter_23 ⟨_, rfl, ⟨rfl, Or.inr ⟨by first | exact (fun h => hno h.1) | exact (fun h => hno2 h.2.1), rfl⟩⟩⟩
  · refine z_astore_nN (i := 3) (lv' := [_, _, _, _, _, _]) (pc := 5) C rfl (by decide) rfl rfl dX6_lighter_5 ?_
    refine z_aload_n (i := 0) (pc := 6) C rfl rfl dX6_lighter_6 ?_
    refine z_iload_n (i := 2) (pc := 7) C rfl rfl dX6_lighter_7 ?_
    refine z_callVq (pc := 8) C (c_X6_findRight hR0 hb2r) k_X6_81 zy_X6_findRight rfl rfl hX rfl rfl ⟨(Nat.le_of_ble_eq_true rfl), (Nat.le_of_ble_eq_true rfl)⟩ (Nat.le_of_ble_eq_true rfl) dX6_lighter_8 ⟨rfl, rfl⟩ ⟨(Nat.le_of_ble_eq_true rfl), (Nat.le_of_ble_eq_true rfl)⟩ (fun rv ω' hp => ?_)
    obtain ⟨hw', hp⟩ := hp
    rw [hw']
    clear hw'
    rcases hp with ⟨hyes2, rfl⟩ | ⟨hno2, rfl⟩
    · refine z_astore (i := 4) (lv' := [_, _, _, _, _, _]) (pc := 11) C (by decide) rfl rfl dX6_lighter_11 ?_
      refine z_aload_nN (i := 3) (pc := 13) C rfl rfl dX6_lighter_13 ?_
      refine z_ifnullN (tgt := 22) (pc := 14) C dX6_lighter_14 (by decide) ?_
      refine z_iconst (pc := 22) C dX6_lighter_22 ?_
      exact z_zret (pc := 23) C E (by decide +kernel) dX6_lighter_23 ⟨_, rfl, ⟨rfl, Or.inr ⟨by first | exact (fun h => hno h.1) | exact (fun h => hno2 h.2.1), rfl⟩⟩⟩
    · refine z_astoreN (i := 4) (lv' := [_, _, _, _, _, _]) (pc := 11) C (by decide) rfl rfl dX6_lighter_11 ?_
      refine z_aload_nN (i := 3) (pc := 13) C rfl rfl dX6_lighter_13 ?_
      refine z_ifnullN (tgt := 22) (pc := 14) C dX6_lighter_14 (by decide) ?_
      refine z_iconst (pc := 22) C dX6_lighter_22 ?_
      exact z_zret (pc := 23) C E (by decide +kernel) dX6_lighter_23 ⟨_, rfl, ⟨rfl, Or.inr ⟨by first | exact (fun h => hno h.1) | exact (fun h => hno2 h.2.1), rfl⟩⟩⟩
set_option maxRecDepth 100000 in
set_option maxHeartbeats 4000000 in
theorem c_X6_decimals {l0 : Launch} {X : zX} {ω : zWd} {x : Nat} {bk : Nat → Int → Int} {nv : Int} {np : Nat} {tv dv : Int → Int} {rt : Nat} (hR : zRH X ω x bk nv np tv dv rt) : zMet l0 yX6_decimals cX6_decimals 1 (some .int) rmX6_decimals X [.ref x] ω (zpi (fun r w => w = ω ∧ r = np)) := by
  refine zMet.intro (by decide) (Nat.le_of_ble_eq_true rfl) ?_
  intro Γ C E N
  show Zw Γ ω 0 0 0 [some _] []
  obtain ⟨gm, gN, gB, gT, gD, hX, hBs, hMv, hWk, hPk, hFv, hNu, hNc, hBo, hBc, hTk, hTc, hDp, hDc, hBk, hbk, hVN, hVT, hVD⟩ := hR
  refine z_aload_n (i := 0) (pc := 0) C rfl rfl dX6_decimals_0 ?_
  refine g_X6_58 (pc := 1) C hX rfl dX6_decimals_1 ?_
  exact z_iret (pc := 4) C E dX6_decimals_4 ⟨_, rfl, ⟨rfl, rfl⟩⟩
