set_option maxRecDepth 100000 in
set_option maxHeartbeats 4000000 in
theorem lp_X7_told {Γ : zG} {l0 : Launch} {X : zX} {ω : zWd} {m bh rt sp : Nat} {bk : Nat → Int → Int} {b what d : Int} (C : Zc Γ l0 X rmX7_told 6 cX7_told RX7) (E : Ze Γ (zpi (fun r w => w = ω ∧ ((zRt bk b ∧ what = 0 ∧ r = zst (bk b.toNat) 0) ∨ (zRt bk b ∧ what = 1 ∧ r = 1000 * zsq (bk b.toNat) - zst (bk b.toNat) 0 * zst (bk b.toNat) 0) ∨ (zRt bk b ∧ what = 2 ∧ (0 ≤ d ∧ d ≤ 20) ∧ r = zst (bk b.toNat) d) ∨ (¬ (zRt bk b ∧ (what = 0 ∨ what = 1 ∨ (what = 2 ∧ 0 ≤ d ∧ d ≤ 20))) ∧ r = -1)))) 0 0 (some .int)) (hM : ω.1 m = some (zOb 7 (zMf m bh rt sp))) (hPt : zMx X ω (m + 1) 8 21 bk) (hbk : ∀ k : Nat, k < 8 → zBk (bk k)) (hy : zRt bk b) (hwh : what = 1) : ∀ (j i : Nat), i + j = 21 → Zw Γ ω 0 0 59 [some (.ref m), some (.int (zI b)), some (.int (zI what)), some (.int (zI d)), some (.int (zI (zs (fun k => k * k * bk b.toNat k) i))), some (.int (zI (i : Int)))] [] := by
  obtain ⟨b0, b1, bs⟩ := id hy
  intro j
  induction j with
  | zero =>
    intro i hj
    have e1 : i = 21 := by omega
    subst e1
    refine z_iload (i := 5) (pc := 59) C rfl dX7_told_59 ?_
    refine z_bipush (pc := 61) C (by decide +kernel) dX7_told_61 ?_
    refine z_icmp_ge (tgt := 92) (pc := 63) C dX7_told_63 (by decide) (fun h63 => ?_) (fun h63 => absurd h63 (by omega))
    refine z_sipush (pc := 92) C (by decide +kernel) dX7_told_92 ?_
    refine z_iload (i := 4) (pc := 95) C rfl dX7_told_95 ?_
    refine z_imul (pc := 97) C dX7_told_97 ?_
    refine z_aload_n (i := 0) (pc := 98) C rfl rfl dX7_told_98 ?_
    refine z_iload_n (i := 1) (pc := 99) C rfl rfl dX7_told_99 ?_
    refine z_callVi (pc := 100) C (c_X7_mean hM hPt hbk ⟨b0, b1⟩) k_X7_91 zy_X7_mean rfl rfl hM rfl rfl ⟨(Nat.le_of_ble_eq_true rfl), (Nat.le_of_ble_eq_true rfl)⟩ (Nat.le_of_ble_eq_true rfl) dX7_told_100 ⟨rfl, rfl⟩ ⟨(Nat.le_of_ble_eq_true rfl), (Nat.le_of_ble_eq_true rfl)⟩ (fun rv ω' hp => ?_)
    obtain ⟨hw', rfl⟩ := hp
    rw [hw']
    refine z_aload_n (i := 0) (pc := 103) C rfl rfl dX7_told_103 ?_
    refine z_iload_n (i := 1) (pc := 104) C rfl rfl dX7_told_104 ?_
    refine z_callVi (pc := 105) C (c_X7_mean hM hPt hbk ⟨b0, b1⟩) k_X7_91 zy_X7_mean rfl rfl hM rfl rfl ⟨(Nat.le_of_ble_eq_true rfl), (Nat.le_of_ble_eq_true rfl)⟩ (Nat.le_of_ble_eq_true rfl) dX7_told_105 ⟨rfl, rfl⟩ ⟨(Nat.le_of_ble_eq_true rfl), (Nat.le_of_ble_eq_true rfl)⟩ (fun rv ω' hp => ?_)
    obtain ⟨hw', rfl⟩ := hp
    rw [hw']
    refine z_imul (pc := 108) C dX7_told_108 ?_
    refine z_isub (pc := 109) C dX7_told_109 ?_
    exact z_iret (pc := 110) C E dX7_told_110 ⟨_, rfl, ⟨rfl, Or.inr (Or.inl ⟨hy, hwh, rfl⟩)⟩⟩
  | succ j ih =>
    intro i hj
    refine z_iload (i := 5) (pc := 59) C rfl dX7_told_59 ?_
    refine z_bipush (pc := 61) C (by decide +kernel) dX7_told_61 ?_
    refine z_icmp_ge (tgt := 92) (pc := 63) C dX7_told_63 (by decide) (fun h63 => absurd h63 (by omega)) (fun h63 => ?_)
    refine z_iload (i := 4) (pc := 66) C rfl dX7_told_66 ?_
    refine z_iload (i := 5) (pc := 68) C rfl dX7_told_68 ?_
    refine z_iload (i := 5) (pc := 70) C rfl dX7_told_70 ?_
    refine z_imul (pc := 72) C dX7_told_72 ?_
    refine z_aload_n (i := 0) (pc := 73) C rfl rfl dX7_told_73 ?_
    refine g_X7_11 (pc := 74) C hM rfl dX7_told_74 ?_
    refine z_iload_n (i := 1) (pc := 77) C rfl rfl dX7_told_77 ?_
    refine z_aaload (pc := 78) C hPt.1 rfl dX7_told_78 ?_
    refine z_iload (i := 5) (pc := 79) C rfl dX7_told_79 ?_
    refine z_iaload (pc := 81) C (hPt.2 b.toNat (by omega)) dX7_told_81 ?_
    refine z_imul (pc := 82) C dX7_told_82 ?_
    refine z_iadd (pc := 83) C dX7_told_83 ?_
    refine z_istore (i := 4) (lv' := [_, _, _, _, _, _]) (pc := 84) C (by decide) rfl rfl dX7_told_84 ?_
    refine z_iinc (i := 5) (lv' := [_, _, _, _, _, _]) (pc := 86) C rfl (by decide) rfl rfl dX7_told_86 ?_
    refine z_goto (tgt := 59) (pc := 89) C dX7_told_89 (by decide) ?_
    exact ih (i + 1) (by omega)
set_option maxRecDepth 100000 in
set_option maxHeartbeats 4000000 in
theorem c_X7_told {l0 : Launch} {X : zX} {ω : zWd} {m : Nat} {bk : Nat → Int → Int} {nv : Int} {bh : Nat} {tv dv : Nat → Int} {rt c : Nat} {b what d : Int} (hR : zMD X ω m bk nv bh tv dv rt c) (hbr : -2147483648 ≤ b ∧ b < 2147483648) (hwhatr : -2147483648 ≤ what ∧ what < 2147483648) (hdr : -2147483648 ≤ d ∧ d < 2147483648) : zMet l0 yX7_told cX7_told 6 (some .int) rmX7_told X [.ref m, .int (zI b), .int (zI what), .int (zI d)] ω (zpi (fun r w => w = ω ∧ ((zRt bk b ∧ what = 0 ∧ r = zst (bk b.toNat) 0) ∨ (zRt bk b ∧ what = 1 ∧ r = 1000 * zsq (bk b.toNat) - zst (bk b.toNat) 0 * zst (bk b.toNat) 0) ∨ (zRt bk b ∧ what = 2 ∧ (0 ≤ d ∧ d ≤ 20) ∧ r = zst (bk b.toNat) d) ∨ (¬ (zRt bk b ∧ (what = 0 ∨ what = 1 ∨ (what = 2 ∧ 0 ≤ d ∧ d ≤ 20))) ∧ r = -1)))) := by
  refine zMet.intro (by decide) (Nat.le_of_ble_eq_true rfl) ?_
  intro Γ C E N
  show Zw Γ ω 0 0 0 [some _, some _, some _, some _, none, none] []
  obtain ⟨gN, gm, g1, g2, g3, g4, g5, g6, g7, hM, hPt, hNu, hTk, hDp, hMd, hOn, hAl, hNx, hRa, hRb, hSu, hBn, hDd, hPw, hPr, hRe, hWo, hLa, hBe, hOt, hBt, hbk, hVn⟩ := hR
  refine z_aload_n (i := 0) (pc := 0) C rfl rfl dX7_told_0 ?_
  refine z_iload_n (i := 1) (pc := 1) C rfl rfl dX7_told_1 ?_
  refine z_callVi (pc := 2) C (c_X7_isRight hM hPt hbk hbr) k_X7_88 zy_X7_isRight rfl rfl hM rfl rfl ⟨(Nat.le_of_ble_eq_true rfl), (Nat.le_of_ble_eq_true rfl)⟩ (Nat.le_of_ble_eq_true rfl) dX7_told_2 ⟨rfl, rfl⟩ ⟨(Nat.le_of_ble_eq_true rfl), (Nat.le_of_ble_eq_true rfl)⟩ (fun rv ω' hp => ?_)
  obtain ⟨hw', hp⟩ := hp
  rw [hw']
  clear hw'
  have hrr : rv = 0 ∨ rv = 1 := by rcases hp with h | h <;> omega
  refine z_if_ne (tgt := 10) (pc := 5) C dX7_told_5 (by decide) (fun h5 => ?_) (fun h5 => ?_)
  · have hyes : zRt bk b := by rcases hp with h | h; (· exact h.1); (· omega)
    obtain ⟨b0, b1, bs⟩ := id hyes
    refine z_iload_n (i := 2) (pc := 10) C rfl rfl dX7_told_10 ?_
    refine z_if_ne (tgt := 20) (pc := 11) C dX7_told_11 (by decide) (fun h11 => ?_) (fun h11 => ?_)
    · refine z_iload_n (i := 2) (pc := 20) C rfl rfl dX7_told_20 ?_
      refine z_iconst (pc := 21) C dX7_told_21 ?_
      refine z_icmp_ne (tgt := 46) (pc := 22) C dX7_told_22 (by decide) (fun h22 => ?_) (fun h22 => ?_)
      · refine z_iload_n (i := 2) (pc := 46) C rfl rfl dX7_told_46 ?_
        refine z_iconst (pc := 47) C dX7_told_47 ?_
        refine z_icmp_eq (tgt := 53) (pc := 48) C dX7_told_48 (by decide) (fun h48 => ?_) (fun h48 => ?_)
        · refine z_iconst (pc := 53) C dX7_told_53 ?_
          refine z_istore (i := 4) (lv' := [_, _, _, _, _, _]) (pc := 54) C (by decide) rfl rfl dX7_told_54 ?_
          refine z_iconst (pc := 56) C dX7_told_56 ?_
          refine z_istore (i := 5) (lv' := [_, _, _, _, _, _]) (pc := 57) C (by decide) rfl rfl dX7_told_57 ?_
          exact lp_X7_told C E hM hPt hbk hyes (by omega) 21 0 rfl
        · refine z_iconst (pc := 51) C dX7_told_51 ?_
          exact z_iret (pc := 52) C E dX7_told_52 ⟨_, rfl, ⟨rfl, Or.inr (Or.inr (Or.inr ⟨fun h => by have := h.2; omega, rfl⟩))⟩⟩
      · refine z_iload_n (i := 3) (pc := 25) C rfl rfl dX7_told_25 ?_
        refine z_iconst (pc := 26) C dX7_told_26 ?_
        refine z_bipush (pc := 27) C (by decide +kernel) dX7_told_27 ?_
        refine z_callSi (pc := 29) C (c_X7_in) k_X7_80 zy_X7_in.2 rfl rfl ⟨(Nat.le_of_ble_eq_true rfl), (Nat.le_of_ble_eq_true rfl)⟩ (Nat.le_of_ble_eq_true rfl) dX7_told_29 ⟨rfl, rfl⟩ ⟨(Nat.le_of_ble_eq_true rfl), (Nat.le_of_ble_eq_true rfl)⟩ (fun rv ω' hp => ?_)
        obtain ⟨hw', hi⟩ := hp
        rw [hw']
        clear hw'
        refine z_if_eq (tgt := 44) (pc := 32) C dX7_told_32 (by decide) (fun h32 => ?_) (fun h32 => ?_)
        · refine z_iconst (pc := 44) C dX7_told_44 ?_
          exact z_iret (pc := 45) C E dX7_told_45 ⟨_, rfl, ⟨rfl, by first | (exact Or.inr (Or.inr (Or.inl ⟨hyes, by omega, by omega, rfl⟩))) | (exact Or.inr (Or.inr (Or.inr ⟨fun h => by have := h.2; omega, rfl⟩)))⟩⟩
        · refine z_aload_n (i := 0) (pc := 35) C rfl rfl dX7_told_35 ?_
          refine z_iload_n (i := 1) (pc := 36) C rfl rfl dX7_told_36 ?_
          refine z_iload_n (i := 3) (pc := 37) C rfl rfl dX7_told_37 ?_
          refine z_callVi (pc := 38) C (c_X7_stop hM hPt hbk ⟨b0, b1⟩ (by omega)) k_X7_95 zy_X7_stop rfl rfl hM rfl rfl ⟨(Nat.le_of_ble_eq_true rfl), (Nat.le_of_ble_eq_true rfl)⟩ (Nat.le_of_ble_eq_true rfl) dX7_told_38 ⟨rfl, rfl⟩ ⟨(Nat.le_of_ble_eq_true rfl), (Nat.le_of_ble_eq_true rfl)⟩ (fun rv ω' hp => ?_)
          obtain ⟨hw', rfl⟩ := hp
          rw [hw']
          refine z_goto (tgt := 45) (pc := 41) C dX7_told_41 (by decide) ?_
          exact z_iret (pc := 45) C E dX7_told_45 ⟨_, rfl, ⟨rfl, by first | (exact Or.inr (Or.inr (Or.inl ⟨hyes, by omega, by omega, rfl⟩))) | (exact Or.inr (Or.inr (Or.inr ⟨fun h => by have := h.2; omega, rfl⟩)))⟩⟩
    · refine z_aload_n (i := 0) (pc := 14) C rfl rfl dX7_told_14 ?_
      refine z_iload_n (i := 1) (pc := 15) C rfl rfl dX7_told_15 ?_
      refine z_callVi (pc := 16) C (c_X7_mean hM hPt hbk ⟨b0, b1⟩) k_X7_91 zy_X7_mean rfl rfl hM rfl rfl ⟨(Nat.le_of_ble_eq_true rfl), (Nat.le_of_ble_eq_true rfl)⟩ (Nat.le_of_ble_eq_true rfl) dX7_told_16 ⟨rfl, rfl⟩ ⟨(Nat.le_of_ble_eq_true rfl), (Nat.le_of_ble_eq_true rfl)⟩ (fun rv ω' hp => ?_)
      obtain ⟨hw', rfl⟩ := hp
      rw [hw']
      exact z_iret (pc := 19) C E dX7_told_19 ⟨_, rfl, ⟨rfl, Or.inl ⟨hyes, by omega, rfl⟩⟩⟩
  · have hno : ¬ zRt bk b := by rcases hp with h | h; (· omega); (· exact h.1)
    refine z_iconst (pc := 8) C dX7_told_8 ?_
    exact z_iret (pc := 9) C E dX7_told_9 ⟨_, rfl, ⟨rfl, Or.inr (Or.inr (Or.inr ⟨fun h => hno h.1, rfl⟩))⟩⟩
set_option maxRecDepth 100000 in
set_option maxHeartbeats 4000000 in
theorem lp_X7_lighter {Γ : zG} {l0 : Launch} {X : zX} {ω : zWd} {m bh rt sp : Nat} {bk : Nat → Int → Int} {b b2 : Int} (C : Zc Γ l0 X rmX7_lighter 4 cX7_lighter RX7) (E : Ze Γ (zpi (fun r w => w = ω ∧ ((zRt bk b ∧ zRt bk b2 ∧ (∀ d : Int, 0 ≤ d → d ≤ 20 → zst (bk b.toNat) d ≤ zst (bk b2.toNat) d) ∧ r = 1) ∨ (¬ (zRt bk b ∧ zRt bk b2 ∧ ∀ d : Int, 0 ≤ d → d ≤ 20 → zst (bk b.toNat) d ≤ zst (bk b2.toNat) d) ∧ r = 0)))) 0 0 (some .boolean)) (hM : ω.1 m = some (zOb 7 (zMf m bh rt sp))) (hPt : zMx X ω (m + 1) 8 21 bk) (hbk : ∀ k : Nat, k < 8 → zBk (bk k)) (hy : zRt bk b) (hy2 : zRt bk b2) : ∀ (j i : Nat), i + j = 21 → (∀ d : Int, 0 ≤ d → d < i → zst (bk b.toNat) d ≤ zst (bk b2.toNat) d) → Zw Γ ω 0 0 20 [some (.ref m), some (.int (zI b)), some (.int (zI b2)), some (.int (zI (i : Int)))] [] := by
  obtain ⟨b0, b1, bs⟩ := id hy
  obtain ⟨c0, c1, cs⟩ := id hy2
  intro j
  induction j with
  | zero =>
    intro i hj hd
    refine z_iload_n (i := 3) (pc := 20) C rfl rfl dX7_lighter_20 ?_
    refine z_bipush (pc := 21) C (by decide +kernel) dX7_lighter_21 ?_
    refine z_icmp_ge (tgt := 49) (pc := 23) C dX7_lighter_23 (by decide) (fun h23 => ?_) (fun h23 => absurd h23 (by omega))
    refine z_iconst (pc := 49) C dX7_lighter_49 ?_
    exact z_zret (pc := 50) C E (by decide +kernel) dX7_lighter_50 ⟨_, rfl, ⟨rfl, Or.inl ⟨hy, hy2, fun d a b => hd d a (by omega), rfl⟩⟩⟩
  | succ j ih =>
    intro i hj hd
    have q1 := zst_b (hbk b.toNat (by omega)) (d := (i : Int)) (by omega)
    have q2 := zst_b (hbk b2.toNat (by omega)) (d := (i : Int)) (by omega)
    refine z_iload_n (i := 3) (pc := 20) C rfl rfl dX7_lighter_20 ?_
    refine z_bipush (pc := 21) C (by decide +kernel) dX7_lighter_21 ?_
    refine z_icmp_ge (tgt := 49) (pc := 23) C dX7_lighter_23 (by decide) (fun h23 => absurd h23 (by omega)) (fun h23 => ?_)
    refine z_aload_n (i := 0) (pc := 26) C rfl rfl dX7_lighter_26 ?_
    refine z_iload_n (i := 1) (pc := 27) C rfl rfl dX7_lighter_27 ?_
    refine z_iload_n (i := 3) (pc := 28) C rfl rfl dX7_lighter_28 ?_
    refine z_callVi (pc := 29) C (c_X7_stop hM hPt hbk ⟨b0, b1⟩ (by omega)) k_X7_95 zy_X7_stop rfl rfl hM rfl rfl ⟨(Nat.le_of_ble_eq_true rfl), (Nat.le_of_ble_eq_true rfl)⟩ (Nat.le_of_ble_eq_true rfl) dX7_lighter_29 ⟨rfl, rfl⟩ ⟨(Nat.le_of_ble_eq_true rfl), (Nat.le_of_ble_eq_true rfl)⟩ (fun rv ω' hp => ?_)
    obtain ⟨hw', rfl⟩ := hp
    rw [hw']
    refine z_aload_n (i := 0) (pc := 32) C rfl rfl dX7_lighter_32 ?_
    refine z_iload_n (i := 2) (pc := 33) C rfl rfl dX7_lighter_33 ?_
    refine z_iload_n (i := 3) (pc := 34) C rfl rfl dX7_lighter_34 ?_
    refine z_callVi (pc := 35) C (c_X7_stop hM hPt hbk ⟨c0, c1⟩ (by omega)) k_X7_95 zy_X7_stop rfl rfl hM rfl rfl ⟨(Nat.le_of_ble_eq_true rfl), (Nat.le_of_ble_eq_true rfl)⟩ (Nat.le_of_ble_eq_true rfl) dX7_lighter_35 ⟨rfl, rfl⟩ ⟨(Nat.le_of_ble_eq_true rfl), (Nat.le_of_ble_eq_true rfl)⟩ (fun rv ω' hp => ?_)
    obtain ⟨hw', rfl⟩ := hp
    rw [hw']
    refine z_icmp_le (tgt := 43) (pc := 38) C dX7_lighter_38 (by decide) (fun h38 => ?_) (fun h38 => ?_)
    · refine z_iinc (i := 3) (lv' := [_, _, _, _]) (pc := 43) C rfl (by decide) rfl rfl dX7_lighter_43 ?_
      refine z_goto (tgt := 20) (pc := 46) C dX7_lighter_46 (by decide) ?_
      exact ih (i + 1) (by omega) (fun d a b => by
        by_cases e : d = i
        · rw [e]; omega
        · exact hd d a (by omega))
    · refine z_iconst (pc := 41) C dX7_lighter_41 ?_
      exact z_zret (pc := 42) C E (by decide +kernel) dX7_lighter_42 ⟨_, rfl, ⟨rfl, Or.inr ⟨fun h => by have := h.2.2 i (by omega) (by omega); omega, rfl⟩⟩⟩
set_option maxRecDepth 100000 in
set_option maxHeartbeats 4000000 in
theorem c_X7_lighter {l0 : Launch} {X : zX} {ω : zWd} {m : Nat} {bk : Nat → Int → Int} {nv : Int} {bh : Nat} {tv dv : Nat → Int} {rt c : Nat} {b b2 : Int} (hR : zMD X ω m bk nv bh tv dv rt c) (hbr : -2147483648 ≤ b ∧ b < 2147483648) (hb2r : -2147483648 ≤ b2 ∧ b2 < 2147483648) : zMet l0 yX7_lighter cX7_lighter 4 (some .boolean) rmX7_lighter X [.ref m, .int (zI b), .int (zI b2)] ω (zpi (fun r w => w = ω ∧ ((zRt bk b ∧ zRt bk b2 ∧ (∀ d : Int, 0 ≤ d → d ≤ 20 → zst (bk b.toNat) d ≤ zst (bk b2.toNat) d) ∧ r = 1) ∨ (¬ (zRt bk b ∧ zRt bk b2 ∧ ∀ d : Int, 0 ≤ d → d ≤ 20 → zst (bk b.toNat) d ≤ zst (bk b2.toNat) d) ∧ r = 0)))) := by
  refine zMet.intro (by decide) (Nat.le_of_ble_eq_true rfl) ?_
  intro Γ C E N
  show Zw Γ ω 0 0 0 [some _, some _, some _, none] []
  obtain ⟨gN, gm, g1, g2, g3, g4, g5, g6, g7, hM, hPt, hNu, hTk, hDp, hMd, hOn, hAl, hNx, hRa, hRb, hSu, hBn, hDd, hPw, hPr, hRe, hWo, hLa, hBe, hOt, hBt, hbk, hVn⟩ := hR
  refine z_aload_n (i := 0) (pc := 0) C rfl rfl dX7_lighter_0 ?_
  refine z_iload_n (i := 1) (pc := 1) C rfl rfl dX7_lighter_1 ?_
  refine z_callVi (pc := 2) C (c_X7_isRight hM hPt hbk hbr) k_X7_88 zy_X7_isRight rfl rfl hM rfl rfl ⟨(Nat.le_of_ble_eq_true rfl), (Nat.le_of_ble_eq_true rfl)⟩ (Nat.le_of_ble_eq_true rfl) dX7_lighter_2 ⟨rfl, rfl⟩ ⟨(Nat.le_of_ble_eq_true rfl), (Nat.le_of_ble_eq_true rfl)⟩ (fun rv ω' hp => ?_)
  obtain ⟨hw', hp⟩ := hp
  rw [hw']
  clear hw'
  have hrr : rv = 0 ∨ rv = 1 := by rcases hp with h | h <;> omega
  refine z_if_eq (tgt := 16) (pc := 5) C dX7_lighter_5 (by decide) (fun h5 => ?_) (fun h5 => ?_)
  · have hno : ¬ zRt bk b := by rcases hp with h | h; (· omega); (· exact h.1)
    refine z_iconst (pc := 16) C dX7_lighter_16 ?_
    exact z_zret (pc := 17) C E (by decide +kernel) dX7_lighter_17 ⟨_, rfl, ⟨rfl, Or.inr ⟨by first | exact (fun h => hno h.1) | exact (fun h => hno2 h.2.1), rfl⟩⟩⟩
  · have hyes : zRt bk b := by rcases hp with h | h; (· exact h.1); (· omega)
    obtain ⟨b0, b1, bs⟩ := id hyes
    refine z_aload_n (i := 0) (pc := 8) C rfl rfl dX7_lighter_8 ?_
    refine z_iload_n (i := 2) (pc := 9) C rfl rfl dX7_lighter_9 ?_
    refine z_callVi (pc := 10) C (c_X7_isRight hM hPt hbk hb2r) k_X7_88 zy_X7_isRight rfl rfl hM rfl rfl ⟨(Nat.le_of_ble_eq_true rfl), (Nat.le_of_ble_eq_true rfl)⟩ (Nat.le_of_ble_eq_true rfl) dX7_lighter_10 ⟨rfl, rfl⟩ ⟨(Nat.le_of_ble_eq_true rfl), (Nat.le_of_ble_eq_true rfl)⟩ (fun rv ω' hp => ?_)
    obtain ⟨hw', hp2⟩ := hp
    rw [hw']
    clear hw'
    have hrr2 : rv = 0 ∨ rv = 1 := by rcases hp2 with h | h <;> omega
    refine z_if_ne (tgt := 18) (pc := 13) C dX7_lighter_13 (by decide) (fun h13 => ?_) (fun h13 => ?_)
    · have hyes2 : zRt bk b2 := by rcases hp2 with h | h; (· exact h.1); (· omega)
      refine z_iconst (pc := 18) C dX7_lighter_18 ?_
      refine z_istore_n (i := 3) (lv' := [_, _, _, _]) (pc := 19) C rfl (by decide) rfl rfl dX7_lighter_19 ?_
      exact lp_X7_lighter C E hM hPt hbk hyes hyes2 21 0 rfl (fun d a b => by omega)
    · have hno2 : ¬ zRt bk b2 := by rcases hp2 with h | h; (· omega); (· exact h.1)
      refine z_iconst (pc := 16) C dX7_lighter_16 ?_
      exact z_zret (pc := 17) C E (by decide +kernel) dX7_lighter_17 ⟨_, rfl, ⟨rfl, Or.inr ⟨by first | exact (fun h => hno h.1) | exact (fun h => hno2 h.2.1), rfl⟩⟩⟩
set_option maxRecDepth 100000 in
set_option maxHeartbeats 4000000 in
theorem lp_X7_becomes {Γ : zG} {l0 : Launch} {X : zX} {ω : zWd} {m bh rt sp : Nat} {bk : Nat → Int → Int} {to : Int} {gm : Int → Int} (C : Zc Γ l0 X rmX7_becomes 3 cX7_becomes RX7) (E : Ze Γ (zpi (fun r w => r = 1 ∧ ∃ f2, w = zU ω (m + 1 + 1 + to.toNat) (zAI X 21 f2) ∧ ∀ k : Int, 0 ≤ k → k < 21 → f2 k = gm k)) 0 0 (some .boolean)) (hM : ω.1 m = some (zOb 7 (zMf m bh rt sp))) (hPt : zMx X ω (m + 1) 8 21 bk) (hMd : ω.1 (m + 75) = some (zAI X 21 gm)) (hto : 0 ≤ to ∧ to < 8) : ∀ (j i : Nat) (g : Int → Int), i + j = 21 → (∀ k : Int, 0 ≤ k → k < i → g k = gm k) → Zw Γ (zU ω (m + 1 + 1 + to.toNat) (zAI X 21 g)) 0 0 2 [some (.ref m), some (.int (zI to)), some (.int (zI (i : Int)))] [] := by
  intro j
  induction j with
  | zero =>
    intro i g hj hg
    refine z_iload_n (i := 2) (pc := 2) C rfl rfl dX7_becomes_2 ?_
    refine z_bipush (pc := 3) C (by decide +kernel) dX7_becomes_3 ?_
    refine z_icmp_ge (tgt := 28) (pc := 5) C dX7_becomes_5 (by decide) (fun h5 => ?_) (fun h5 => absurd h5 (by omega))
    refine z_iconst (pc := 28) C dX7_becomes_28 ?_
    exact z_zret (pc := 29) C E (by decide +kernel) dX7_becomes_29 ⟨_, rfl, ⟨rfl, g, rfl, fun k a b => hg k a (by omega)⟩⟩
  | succ j ih =>
    intro i g hj hg
    refine z_iload_n (i := 2) (pc := 2) C rfl rfl dX7_becomes_2 ?_
    refine z_bipush (pc := 3) C (by decide +kernel) dX7_becomes_3 ?_
    refine z_icmp_ge (tgt := 28) (pc := 5) C dX7_becomes_5 (by decide) (fun h5 => absurd h5 (by omega)) (fun h5 => ?_)
    refine z_aload_n (i := 0) (pc := 8) C rfl rfl dX7_becomes_8 ?_
    refine g_X7_11 (pc := 9) C (zU_n' (by omega) hM) rfl dX7_becomes_9 ?_
    refine z_iload_n (i := 1) (pc := 12) C rfl rfl dX7_becomes_12 ?_
    refine z_aaload (pc := 13) C (zU_n' (by omega) hPt.1) rfl dX7_becomes_13 ?_
    refine z_iload_n (i := 2) (pc := 14) C rfl rfl dX7_becomes_14 ?_
    refine z_aload_n (i := 0) (pc := 15) C rfl rfl dX7_becomes_15 ?_
    refine g_X7_24 (pc := 16) C (zU_n' (by omega) hM) rfl dX7_becomes_16 ?_
    refine z_iload_n (i := 2) (pc := 19) C rfl rfl dX7_becomes_19 ?_
    refine z_iaload (pc := 20) C (zU_n' (by omega) hMd) dX7_becomes_20 ?_
    refine z_iastore (pc := 21) C (zU_s _ _ _) dX7_becomes_21 ?_
    rw [zU_u]
    refine z_iinc (i := 2) (lv' := [_, _, _]) (pc := 22) C rfl (by decide) rfl rfl dX7_becomes_22 ?_
    refine z_goto (tgt := 2) (pc := 25) C dX7_becomes_25 (by decide) ?_
    exact ih (i + 1) _ (by omega) (fun k a b => by
      by_cases e : k = i
      · rw [e, zup_s]
      · rw [zup_n e]; exact hg k a (by omega))
set_option maxRecDepth 100000 in
set_option maxHeartbeats 4000000 in
theorem c_X7_becomes {l0 : Launch} {X : zX} {ω : zWd} {m bh rt sp : Nat} {bk : Nat → Int → Int} {to : Int} {gm : Int → Int} (hM : ω.1 m = some (zOb 7 (zMf m bh rt sp))) (hPt : zMx X ω (m + 1) 8 21 bk) (hMd : ω.1 (m + 75) = some (zAI X 21 gm)) (hto : 0 ≤ to ∧ to < 8) : zMet l0 yX7_becomes cX7_becomes 3 (some .boolean) rmX7_becomes X [.ref m, .int (zI to)] ω (zpi (fun r w => r = 1 ∧ ∃ f2, w = zU ω (m + 1 + 1 + to.toNat) (zAI X 21 f2) ∧ ∀ k : Int, 0 ≤ k → k < 21 → f2 k = gm k)) := by
  refine zMet.intro (by decide) (Nat.le_of_ble_eq_true rfl) ?_
  intro Γ C E N
  show Zw Γ ω 0 0 0 [some _, some _, none] []
  refine z_iconst (pc := 0) C dX7_becomes_0 ?_
  refine z_istore_n (i := 2) (lv' := [_, _, _]) (pc := 1) C rfl (by decide) rfl rfl dX7_becomes_1 ?_
  have h := lp_X7_becomes C E hM hPt hMd hto 21 0 (bk to.toNat) rfl (fun k a b => by omega)
  rw [zU_id (hPt.2 to.toNat (by omega))] at h
  exact h
set_option maxRecDepth 100000 in
set_option maxHeartbeats 4000000 in
theorem lz_X7_layer {Γ : zG} {l0 : Launch} {X : zX} {ω : zWd} {m bh rt sp : Nat} {b a b2 gv to : Int} (C : Zc Γ l0 X rmX7_layer 8 cX7_layer RX7) (hM : ω.1 m = some (zOb 7 (zMf m bh rt sp))) (K : ∀ gi : Int → Int, (∀ k : Int, 0 ≤ k → k < 21 → gi k = 0) → Zw Γ (zU ω (m + 75) (zAI X 21 gi)) 0 0 62 [some (.ref m), some (.int (zI b)), some (.int (zI a)), some (.int (zI b2)), some (.int (zI gv)), some (.int (zI to)), some (.int (zI 21)), none] []) : ∀ (j i : Nat) (gi : Int → Int), i + j = 21 → (∀ k : Int, 0 ≤ k → k < i → gi k = 0) → Zw Γ (zU ω (m + 75) (zAI X 21 gi)) 0 0 41 [some (.ref m), some (.int (zI b)), some (.int (zI a)), some (.int (zI b2)), some (.int (zI gv)), some (.int (zI to)), some (.int (zI (i : Int))), none] [] := by
  intro j
  induction j with
  | zero =>
    intro i gi hj hg
    have e1 : i = 21 := by omega
    subst e1
    refine z_iload (i := 6) (pc := 41) C rfl dX7_layer_41 ?_
    refine z_bipush (pc := 43) C (by decide +kernel) dX7_layer_43 ?_
    refine z_icmp_ge (tgt := 62) (pc := 45) C dX7_layer_45 (by decide) (fun h45 => ?_) (fun h45 => absurd h45 (by omega))
    exact K gi (fun k a b => hg k a (by omega))
  | succ j ih =>
    intro i gi hj hg
    refine z_iload (i := 6) (pc := 41) C rfl dX7_layer_41 ?_
    refine z_bipush (pc := 43) C (by decide +kernel) dX7_layer_43 ?_
    refine z_icmp_ge (tgt := 62) (pc := 45) C dX7_layer_45 (by decide) (fun h45 => absurd h45 (by omega)) (fun h45 => ?_)
    refine z_aload_n (i := 0) (pc := 48) C rfl rfl dX7_layer_48 ?_
    refine g_X7_24 (pc := 49) C (zU_n' (by omega) hM) rfl dX7_layer_49 ?_
    refine z_iload (i := 6) (pc := 52) C rfl dX7_layer_52 ?_
    refine z_iconst (pc := 54) C dX7_layer_54 ?_
    refine z_iastore (pc := 55) C (zU_s _ _ _) dX7_layer_55 ?_
    rw [zU_u]
    refine z_iinc (i := 6) (lv' := [_, _, _, _, _, _, _, _]) (pc := 56) C rfl (by decide) rfl rfl dX7_layer_56 ?_
    refine z_goto (tgt := 41) (pc := 59) C dX7_layer_59 (by decide) ?_
    exact ih (i + 1) _ (by omega) (fun k a b => by
      by_cases e : k = i
      · rw [e, zup_s]
      · rw [zup_n e]; exact hg k a (by omega))
set_option maxRecDepth 100000 in
set_option maxHeartbeats 4000000 in
theorem lp_X7_layer {Γ : zG} {l0 : Launch} {X : zX} {ω : zWd} {m bh rt sp : Nat} {bk : Nat → Int → Int} {b a b2 gv to : Int} (C : Zc Γ l0 X rmX7_layer 8 cX7_layer RX7) (hM : ω.1 m = some (zOb 7 (zMf m bh rt sp))) (hPt : zMx X ω (m + 1) 8 21 bk) (hbk : ∀ k : Nat, k < 8 → zBk (bk k)) (hy : zRt bk b) (hab : 0 ≤ a ∧ a ≤ b2 ∧ b2 ≤ 20) (hgv : gv = 0 ∨ gv = 1) (K : ∀ (gi : Int → Int) (o9 : Option Value), (∀ k : Int, 0 ≤ k → k < 21 → gi k = zmv (zφl a b2 gv) (bk b.toNat) 21 k) → Zw Γ (zU ω (m + 75) (zAI X 21 gi)) 0 0 126 [some (.ref m), some (.int (zI b)), some (.int (zI a)), some (.int (zI b2)), some (.int (zI gv)), some (.int (zI to)), some (.int (zI 21)), o9] []) : ∀ (j i : Nat) (gi : Int → Int) (o9 : Option Value), i + j = 21 → (∀ k : Int, 0 ≤ k → k < 21 → gi k = zmv (zφl a b2 gv) (bk b.toNat) i k) → Zw Γ (zU ω (m + 75) (zAI X 21 gi)) 0 0 65 [some (.ref m), some (.int (zI b)), some (.int (zI a)), some (.int (zI b2)), some (.int (zI gv)), some (.int (zI to)), some (.int (zI (i : Int))), o9] [] := by
  obtain ⟨b0, b1, bs⟩ := id hy
  intro j
  induction j with
  | zero =>
    intro i gi o9 hj hg
    have e1 : i = 21 := by omega
    subst e1
    refine z_iload (i := 6) (pc := 65) C rfl dX7_layer_65 ?_
    refine z_bipush (pc := 67) C (by decide +kernel) dX7_layer_67 ?_
    refine z_icmp_ge (tgt := 126) (pc := 69) C dX7_layer_69 (by decide) (fun h69 => ?_) (fun h69 => absurd h69 (by omega))
    exact K gi o9 hg
  | succ j ih =>
    intro i gi o9 hj hg
    refine z_iload (i := 6) (pc := 65) C rfl dX7_layer_65 ?_
    refine z_bipush (pc := 67) C (by decide +kernel) dX7_layer_67 ?_
    refine z_icmp_ge (tgt := 126) (pc := 69) C dX7_layer_69 (by decide) (fun h69 => absurd h69 (by omega)) (fun h69 => ?_)
    refine z_iload_n (i := 3) (pc := 72) C rfl rfl dX7_layer_72 ?_
    refine z_iload_n (i := 2) (pc := 73) C rfl rfl dX7_layer_73 ?_
    refine z_isub (pc := 74) C dX7_layer_74 ?_
    refine z_iconst (pc := 75) C dX7_layer_75 ?_
    refine z_iload (i := 6) (pc := 76) C rfl dX7_layer_76 ?_
    refine z_iload_n (i := 2) (pc := 78) C rfl rfl dX7_layer_78 ?_
    refine z_isub (pc := 79) C dX7_layer_79 ?_
    refine z_callSi (pc := 80) C (c_J9_max_7cf53) k_X7_99 zy_J9_max_7cf53.2 rfl rfl ⟨(Nat.le_of_ble_eq_true rfl), (Nat.le_of_ble_eq_true rfl)⟩ (Nat.le_of_ble_eq_true rfl) dX7_layer_80 ⟨rfl, rfl⟩ ⟨(Nat.le_of_ble_eq_true rfl), (Nat.le_of_ble_eq_true rfl)⟩ (fun rv ω' hp => ?_)
    obtain ⟨hw', rfl⟩ := hp
    rw [hw']
    refine z_callSi (pc := 83) C (c_J9_min_7cf53) k_X7_104 zy_J9_min_7cf53.2 rfl rfl ⟨(Nat.le_of_ble_eq_true rfl), (Nat.le_of_ble_eq_true rfl)⟩ (Nat.le_of_ble_eq_true rfl) dX7_layer_83 ⟨rfl, rfl⟩ ⟨(Nat.le_of_ble_eq_true rfl), (Nat.le_of_ble_eq_true rfl)⟩ (fun rv ω' hp => ?_)
    obtain ⟨hw', rfl⟩ := hp
    rw [hw']
    refine z_istore (i := 7) (lv' := [_, _, _, _, _, _, _, _]) (pc := 86) C (by decide) rfl rfl dX7_layer_86 ?_
    refine z_aload_n (i := 0) (pc := 88) C rfl rfl dX7_layer_88 ?_
    refine g_X7_24 (pc := 89) C (zU_n' (by omega) hM) rfl dX7_layer_89 ?_
    refine z_iload (i := 4) (pc := 92) C rfl dX7_layer_92 ?_
    refine z_if_eq (tgt := 102) (pc := 94) C dX7_layer_94 (by decide) (fun h94 => ?_) (fun h94 => ?_)
    · have eφ : (i : Int) - min (b2 - a) (max 0 ((i : Int) - a)) = zφl a b2 gv i := by unfold zφl; rw [if_pos (by omega)]; omega
      refine z_iload (i := 6) (pc := 102) C rfl dX7_layer_102 ?_
      refine z_iload (i := 7) (pc := 104) C rfl dX7_layer_104 ?_
      refine z_isub (pc := 106) C dX7_layer_106 ?_
      have hrng : 0 ≤ zφl a b2 gv i ∧ zφl a b2 gv i < 21 := by rw [← eφ]; omega
      rw [eφ]
      refine z_dup2 (pc := 107) C rfl rfl dX7_layer_107 ?_
      refine z_iaload (pc := 108) C (zU_s _ _ _) dX7_layer_108 ?_ (hi := (by omega))
      refine z_aload_n (i := 0) (pc := 109) C rfl rfl dX7_layer_109 ?_
      refine g_X7_11 (pc := 110) C (zU_n' (by omega) hM) rfl dX7_layer_110 ?_
      refine z_iload_n (i := 1) (pc := 113) C rfl rfl dX7_layer_113 ?_
      refine z_aaload (pc := 114) C (zU_n' (by omega) hPt.1) rfl dX7_layer_114 ?_
      refine z_iload (i := 6) (pc := 115) C rfl dX7_layer_115 ?_
      refine z_iaload (pc := 117) C (zU_n' (by omega) (hPt.2 b.toNat (by omega))) dX7_layer_117 ?_
      refine z_iadd (pc := 118) C dX7_layer_118 ?_
      refine z_iastore (pc := 119) C (zU_s _ _ _) dX7_layer_119 ?_ (hi := (by omega))
      rw [zU_u]
      refine z_iinc (i := 6) (lv' := [_, _, _, _, _, _, _, _]) (pc := 120) C rfl (by decide) rfl rfl dX7_layer_120 ?_
      refine z_goto (tgt := 65) (pc := 123) C dX7_layer_123 (by decide) ?_
      exact ih (i + 1) _ _ (by omega) (zmv_s hg)
    · have eφ : min (b2 - a) (max 0 ((i : Int) - a)) = zφl a b2 gv i := by unfold zφl; rw [if_neg (by omega)]; omega
      refine z_iload (i := 7) (pc := 97) C rfl dX7_layer_97 ?_
      refine z_goto (tgt := 107) (pc := 99) C dX7_layer_99 (by decide) ?_
      have hrng : 0 ≤ zφl a b2 gv i ∧ zφl a b2 gv i < 21 := by rw [← eφ]; omega
      rw [eφ]
      refine z_dup2 (pc := 107) C rfl rfl dX7_layer_107 ?_
      refine z_iaload (pc := 108) C (zU_s _ _ _) dX7_layer_108 ?_ (hi := (by omega))
      refine z_aload_n (i := 0) (pc := 109) C rfl rfl dX7_layer_109 ?_
      refine g_X7_11 (pc := 110) C (zU_n' (by omega) hM) rfl dX7_layer_110 ?_
      refine z_iload_n (i := 1) (pc := 113) C rfl rfl dX7_layer_113 ?_
      refine z_aaload (pc := 114) C (zU_n' (by omega) hPt.1) rfl dX7_layer_114 ?_
      refine z_iload (i := 6) (pc := 115) C rfl dX7_layer_115 ?_
      refine z_iaload (pc := 117) C (zU_n' (by omega) (hPt.2 b.toNat (by omega))) dX7_layer_117 ?_
      refine z_iadd (pc := 118) C dX7_layer_118 ?_
      refine z_iastore (pc := 119) C (zU_s _ _ _) dX7_layer_119 ?_ (hi := (by omega))
      rw [zU_u]
      refine z_iinc (i := 6) (lv' := [_, _, _, _, _, _, _, _]) (pc := 120) C rfl (by decide) rfl rfl dX7_layer_120 ?_
      refine z_goto (tgt := 65) (pc := 123) C dX7_layer_123 (by decide) ?_
      exact ih (i + 1) _ _ (by omega) (zmv_s hg)
set_option maxRecDepth 100000 in
set_option maxHeartbeats 4000000 in
theorem c_X7_layer {l0 : Launch} {X : zX} {ω : zWd} {m : Nat} {bk : Nat → Int → Int} {nv : Int} {bh : Nat} {tv dv : Nat → Int} {rt c : Nat} {b a b2 gv to : Int} (hR : zMD X ω m bk nv bh tv dv rt c) (hbr : -2147483648 ≤ b ∧ b < 2147483648) (har : -2147483648 ≤ a ∧ a < 2147483648) (hb2r : -2147483648 ≤ b2 ∧ b2 < 2147483648) (htor : -2147483648 ≤ to ∧ to < 2147483648) (hgv : gv = 0 ∨ gv = 1) : zMet l0 yX7_layer cX7_layer 8 (some .boolean) rmX7_layer X [.ref m, .int (zI b), .int (zI a), .int (zI b2), .int (zI gv), .int (zI to)] ω (zpi (fun r w => zKp m ω w ∧ (((zRt bk b ∧ (0 ≤ to ∧ to < 8) ∧ 0 ≤ a ∧ a ≤ b2 ∧ b2 ≤ 20) ∧ r = 1 ∧ ∃ f2, (∀ k : Int, 0 ≤ k → k < 21 → f2 k = zmv (zφl a b2 gv) (bk b.toNat) 21 k) ∧ zMD X w m (va_up bk to.toNat f2) nv bh tv dv rt c) ∨ (¬ (zRt bk b ∧ (0 ≤ to ∧ to < 8) ∧ 0 ≤ a ∧ a ≤ b2 ∧ b2 ≤ 20) ∧ r = 0 ∧ zMD X w m bk nv bh tv dv rt c)))) := by
  refine zMet.intro (by decide) (Nat.le_of_ble_eq_true rfl) ?_
  intro Γ C E N
  show Zw Γ ω 0 0 0 [some _, some _, some _, some _, some _, some _, none, none] []
  have hR0 := hR
  obtain ⟨gN, gm, g1, g2, g3, g4, g5, g6, g7, hM, hPt, hNu, hTk, hDp, hMd, hOn, hAl, hNx, hRa, hRb, hSu, hBn, hDd, hPw, hPr, hRe, hWo, hLa, hBe, hOt, hBt, hbk, hVn⟩ := hR
  refine z_aload_n (i := 0) (pc := 0) C rfl rfl dX7_layer_0 ?_
  refine z_iload_n (i := 1) (pc := 1) C rfl rfl dX7_layer_1 ?_
  refine z_callVi (pc := 2) C (c_X7_isRight hM hPt hbk hbr) k_X7_88 zy_X7_isRight rfl rfl hM rfl rfl ⟨(Nat.le_of_ble_eq_true rfl), (Nat.le_of_ble_eq_true rfl)⟩ (Nat.le_of_ble_eq_true rfl) dX7_layer_2 ⟨rfl, rfl⟩ ⟨(Nat.le_of_ble_eq_true rfl), (Nat.le_of_ble_eq_true rfl)⟩ (fun rv ω' hp => ?_)
  obtain ⟨hw', hp⟩ := hp
  rw [hw']
  clear hw'
  have hrr : rv = 0 ∨ rv = 1 := by rcases hp with h | h <;> omega
  refine z_if_eq (tgt := 36) (pc := 5) C dX7_layer_5 (by decide) (fun h5 => ?_) (fun h5 => ?_)
  · have hno : ¬ zRt bk b := by rcases hp with h | h; (· omega); (· exact h.1)
    refine z_iconst (pc := 36) C dX7_layer_36 ?_
    exact z_zret (pc := 37) C E (by decide +kernel) dX7_layer_37 ⟨_, rfl, ⟨zKp.rf, Or.inr ⟨by first | exact (fun h => hno h.1) | exact (fun h => by have := h.2; omega), rfl, hR0⟩⟩⟩
  · have hyes : zRt bk b := by rcases hp with h | h; (· exact h.1); (· omega)
    obtain ⟨b0, b1, bs⟩ := id hyes
    refine z_iload (i := 5) (pc := 8) C rfl dX7_layer_8 ?_
    refine z_callSi (pc := 10) C (c_X7_isBook htor) k_X7_84 zy_X7_isBook.2 rfl rfl ⟨(Nat.le_of_ble_eq_true rfl), (Nat.le_of_ble_eq_true rfl)⟩ (Nat.le_of_ble_eq_true rfl) dX7_layer_10 ⟨rfl, rfl⟩ ⟨(Nat.le_of_ble_eq_true rfl), (Nat.le_of_ble_eq_true rfl)⟩ (fun rv ω' hp => ?_)
    obtain ⟨hw', hib⟩ := hp
    rw [hw']
    clear hw'
    refine z_if_eq (tgt := 36) (pc := 13) C dX7_layer_13 (by decide) (fun h13 => ?_) (fun h13 => ?_)
    · refine z_iconst (pc := 36) C dX7_layer_36 ?_
      exact z_zret (pc := 37) C E (by decide +kernel) dX7_layer_37 ⟨_, rfl, ⟨zKp.rf, Or.inr ⟨by first | exact (fun h => hno h.1) | exact (fun h => by have := h.2; omega), rfl, hR0⟩⟩⟩
    · refine z_iload_n (i := 2) (pc := 16) C rfl rfl dX7_layer_16 ?_
      refine z_iconst (pc := 17) C dX7_layer_17 ?_
      refine z_bipush (pc := 18) C (by decide +kernel) dX7_layer_18 ?_
      refine z_callSi (pc := 20) C (c_X7_in) k_X7_80 zy_X7_in.2 rfl rfl ⟨(Nat.le_of_ble_eq_true rfl), (Nat.le_of_ble_eq_true rfl)⟩ (Nat.le_of_ble_eq_true rfl) dX7_layer_20 ⟨rfl, rfl⟩ ⟨(Nat.le_of_ble_eq_true rfl), (Nat.le_of_ble_eq_true rfl)⟩ (fun rv ω' hp => ?_)
      obtain ⟨hw', hi⟩ := hp
      rw [hw']
      clear hw'
      refine z_if_eq (tgt := 36) (pc := 23) C dX7_layer_23 (by decide) (fun h23 => ?_) (fun h23 => ?_)
      · refine z_iconst (pc := 36) C dX7_layer_36 ?_
        exact z_zret (pc := 37) C E (by decide +kernel) dX7_layer_37 ⟨_, rfl, ⟨zKp.rf, Or.inr ⟨by first | exact (fun h => hno h.1) | exact (fun h => by have := h.2; omega), rfl, hR0⟩⟩⟩
      · refine z_iload_n (i := 3) (pc := 26) C rfl rfl dX7_layer_26 ?_
        refine z_iload_n (i := 2) (pc := 27) C rfl rfl dX7_layer_27 ?_
        refine z_bipush (pc := 28) C (by decide +kernel) dX7_layer_28 ?_
        refine z_callSi (pc := 30) C (c_X7_in) k_X7_80 zy_X7_in.2 rfl rfl ⟨(Nat.le_of_ble_eq_true rfl), (Nat.le_of_ble_eq_true rfl)⟩ (Nat.le_of_ble_eq_true rfl) dX7_layer_30 ⟨rfl, rfl⟩ ⟨(Nat.le_of_ble_eq_true rfl), (Nat.le_of_ble_eq_true rfl)⟩ (fun rv ω' hp => ?_)
        obtain ⟨hw', hi2⟩ := hp
        rw [hw']
        clear hw'
        refine z_if_ne (tgt := 38) (pc := 33) C dX7_layer_33 (by decide) (fun h33 => ?_) (fun h33 => ?_)
        · refine z_iconst (pc := 38) C dX7_layer_38 ?_
          refine z_istore (i := 6) (lv' := [_, _, _, _, _, _, _, _]) (pc := 39) C (by decide) rfl rfl dX7_layer_39 ?_
          have hz0 := fun K => lz_X7_layer (ω := ω) C hM (b := b) (a := a) (b2 := b2) (gv := gv) (to := to) K 21 0 gm rfl (fun k a b => by omega)
          rw [zU_id hMd] at hz0
          refine hz0 ?_
          intro gi hgi
          refine z_iconst (pc := 62) C dX7_layer_62 ?_
          refine z_istore (i := 6) (lv' := [_, _, _, _, _, _, _, _]) (pc := 63) C (by decide) rfl rfl dX7_layer_63 ?_
          refine lp_X7_layer C hM hPt hbk hyes (by omega) hgv ?_ 21 0 gi _ rfl (fun k k0 k1 => hgi k k0 k1)
          intro gi2 o9 hgi2
          refine z_aload_n (i := 0) (pc := 126) C rfl rfl dX7_layer_126 ?_
          refine z_iload (i := 5) (pc := 127) C rfl dX7_layer_127 ?_
          refine z_callVi (pc := 129) C (c_X7_becomes (zU_n' (by omega) hM) (hPt.kp (fun b h1 h2 => zU_n (by omega))) (zU_s _ _ _) (by omega)) k_X7_107 zy_X7_becomes rfl rfl (zU_n' (by omega) hM) rfl rfl ⟨(Nat.le_of_ble_eq_true rfl), (Nat.le_of_ble_eq_true rfl)⟩ (Nat.le_of_ble_eq_true rfl) dX7_layer_129 ⟨rfl, rfl⟩ ⟨(Nat.le_of_ble_eq_true rfl), (Nat.le_of_ble_eq_true rfl)⟩ (fun rv ω' hp => ?_)
          obtain ⟨rfl, f2, rfl, hf2⟩ := hp
          exact z_zret (pc := 132) C E (by decide +kernel) dX7_layer_132 ⟨_, rfl, ⟨(zKp.rf.u (by omega)).u (by omega), Or.inl ⟨⟨hyes, by omega, by omega⟩, rfl, f2, fun k k0 k1 => by rw [hf2 k k0 k1, hgi2 k k0 k1], ⟨gN, gi2, g1, g2, g3, g4, g5, g6, g7, (by rw [(zU_n (by omega)).trans (zU_n (by omega))]; exact hM), (hPt.kp (fun b h1 h2 => zU_n (by omega))).u (by omega), (by rw [(zU_n (by omega)).trans (zU_n (by omega))]; exact hNu), (hTk.kp (fun b h1 h2 => (zU_n (by omega)).trans (zU_n (by omega)))), (hDp.kp (fun b h1 h2 => (zU_n (by omega)).trans (zU_n (by omega)))), (zU_n' (by omega) (zU_s _ _ _)), (by rw [(zU_n (by omega)).trans (zU_n (by omega))]; exact hOn), (hAl.kp (fun b h1 h2 => (zU_n (by omega)).trans (zU_n (by omega)))), (hNx.kp (fun b h1 h2 => (zU_n (by omega)).trans (zU_n (by omega)))), (hRa.kp (fun b h1 h2 => (zU_n (by omega)).trans (zU_n (by omega)))), (hRb.kp (fun b h1 h2 => (zU_n (by omega)).trans (zU_n (by omega)))), (by rw [(zU_n (by omega)).trans (zU_n (by omega))]; exact hSu), (by rw [(zU_n (by omega)).trans (zU_n (by omega))]; exact hBn), (hDd.kp (fun b h1 h2 => (zU_n (by omega)).trans (zU_n (by omega)))), (hPw.kp (fun b h1 h2 => (zU_n (by omega)).trans (zU_n (by omega)))), (by rw [(zU_n (by omega)).trans (zU_n (by omega))]; exact hPr), (by rw [(zU_n (by omega)).trans (zU_n (by omega))]; exact hRe), (hWo.kp (fun b h1 h2 => (zU_n (by omega)).trans (zU_n (by omega)))), (hLa.kp (fun b h1 h2 => (zU_n (by omega)).trans (zU_n (by omega)))), (by rw [(zU_n (by omega)).trans (zU_n (by omega))]; exact hBe), (by rw [(zU_n (by omega)).trans (zU_n (by omega))]; exact hOt), (hBt.kp (fun b h1 h2 => (zU_n (by omega)).trans (zU_n (by omega))) rfl), (fun k hk => by
  by_cases e : k = to.toNat
  · rw [e, va_up_self]
    intro k k0 k1
    rw [hf2 k k0 k1, hgi2 k k0 k1]
    exact zmv_b (hbk b.toNat (by omega)) bs k
  · rw [va_up_ne _ _ e]; exact hbk k hk), hVn⟩⟩⟩⟩
        · refine z_iconst (pc := 36) C dX7_layer_36 ?_
          exact z_zret (pc := 37) C E (by decide +kernel) dX7_layer_37 ⟨_, rfl, ⟨zKp.rf, Or.inr ⟨by first | exact (fun h => hno h.1) | exact (fun h => by have := h.2; omega), rfl, hR0⟩⟩⟩
set_option maxRecDepth 100000 in
set_option maxHeartbeats 4000000 in
theorem lz_X7_part {Γ : zG} {l0 : Launch} {X : zX} {ω : zWd} {m bh rt sp : Nat} {b sh gv to : Int} (C : Zc Γ l0 X rmX7_part 7 cX7_part RX7) (hM : ω.1 m = some (zOb 7 (zMf m bh rt sp))) (K : ∀ gi : Int → Int, (∀ k : Int, 0 ≤ k → k < 21 → gi k = 0) → Zw Γ (zU ω (m + 75) (zAI X 21 gi)) 0 0 52 [some (.ref m), some (.int (zI b)), some (.int (zI sh)), some (.int (zI gv)), some (.int (zI to)), some (.int (zI 21)), none] []) : ∀ (j i : Nat) (gi : Int → Int), i + j = 21 → (∀ k : Int, 0 ≤ k → k < i → gi k = 0) → Zw Γ (zU ω (m + 75) (zAI X 21 gi)) 0 0 31 [some (.ref m), some (.int (zI b)), some (.int (zI sh)), some (.int (zI gv)), some (.int (zI to)), some (.int (zI (i : Int))), none] [] := by
  intro j
  induction j with
  | zero =>
    intro i gi hj hg
    have e1 : i = 21 := by omega
    subst e1
    refine z_iload (i := 5) (pc := 31) C rfl dX7_part_31 ?_
    refine z_bipush (pc := 33) C (by decide +kernel) dX7_part_33 ?_
    refine z_icmp_ge (tgt := 52) (pc := 35) C dX7_part_35 (by decide) (fun h35 => ?_) (fun h35 => absurd h35 (by omega))
    exact K gi (fun k a b => hg k a (by omega))
  | succ j ih =>
    intro i gi hj hg
    refine z_iload (i := 5) (pc := 31) C rfl dX7_part_31 ?_
    refine z_bipush (pc := 33) C (by decide +kernel) dX7_part_33 ?_
    refine z_icmp_ge (tgt := 52) (pc := 35) C dX7_part_35 (by decide) (fun h35 => absurd h35 (by omega)) (fun h35 => ?_)
    refine z_aload_n (i := 0) (pc := 38) C rfl rfl dX7_part_38 ?_
    refine g_X7_24 (pc := 39) C (zU_n' (by omega) hM) rfl dX7_part_39 ?_
    refine z_iload (i := 5) (pc := 42) C rfl dX7_part_42 ?_
    refine z_iconst (pc := 44) C dX7_part_44 ?_
    refine z_iastore (pc := 45) C (zU_s _ _ _) dX7_part_45 ?_
    rw [zU_u]
    refine z_iinc (i := 5) (lv' := [_, _, _, _, _, _, _]) (pc := 46) C rfl (by decide) rfl rfl dX7_part_46 ?_
    refine z_goto (tgt := 31) (pc := 49) C dX7_part_49 (by decide) ?_
    exact ih (i + 1) _ (by omega) (fun k a b => by
      by_cases e : k = i
      · rw [e, zup_s]
      · rw [zup_n e]; exact hg k a (by omega))
set_option maxRecDepth 100000 in
set_option maxHeartbeats 4000000 in
theorem lp_X7_part {Γ : zG} {l0 : Launch} {X : zX} {ω : zWd} {m bh rt sp : Nat} {bk : Nat → Int → Int} {b sh gv to : Int} (C : Zc Γ l0 X rmX7_part 7 cX7_part RX7) (hM : ω.1 m = some (zOb 7 (zMf m bh rt sp))) (hPt : zMx X ω (m + 1) 8 21 bk) (hbk : ∀ k : Nat, k < 8 → zBk (bk k)) (hy : zRt bk b) (hsh : 0 ≤ sh ∧ sh ≤ 100) (hgv : gv = 0 ∨ gv = 1) (K : ∀ (gi : Int → Int) (o9 : Option Value), (∀ k : Int, 0 ≤ k → k < 21 → gi k = zmv (zφp sh gv) (bk b.toNat) 21 k) → Zw Γ (zU ω (m + 75) (zAI X 21 gi)) 0 0 108 [some (.ref m), some (.int (zI b)), some (.int (zI sh)), some (.int (zI gv)), some (.int (zI to)), some (.int (zI 21)), o9] []) : ∀ (j i : Nat) (gi : Int → Int) (o9 : Option Value), i + j = 21 → (∀ k : Int, 0 ≤ k → k < 21 → gi k = zmv (zφp sh gv) (bk b.toNat) i k) → Zw Γ (zU ω (m + 75) (zAI X 21 gi)) 0 0 55 [some (.ref m), some (.int (zI b)), some (.int (zI sh)), some (.int (zI gv)), some (.int (zI to)), some (.int (zI (i : Int))), o9] [] := by
  obtain ⟨b0, b1, bs⟩ := id hy
  intro j
  induction j with
  | zero =>
    intro i gi o9 hj hg
    have e1 : i = 21 := by omega
    subst e1
    refine z_iload (i := 5) (pc := 55) C rfl dX7_part_55 ?_
    refine z_bipush (pc := 57) C (by decide +kernel) dX7_part_57 ?_
    refine z_icmp_ge (tgt := 108) (pc := 59) C dX7_part_59 (by decide) (fun h59 => ?_) (fun h59 => absurd h59 (by omega))
    exact K gi o9 hg
  | succ j ih =>
    intro i gi o9 hj hg
    refine z_iload (i := 5) (pc := 55) C rfl dX7_part_55 ?_
    refine z_bipush (pc := 57) C (by decide +kernel) dX7_part_57 ?_
    refine z_icmp_ge (tgt := 108) (pc := 59) C dX7_part_59 (by decide) (fun h59 => absurd h59 (by omega)) (fun h59 => ?_)
    refine z_iload (i := 5) (pc := 62) C rfl dX7_part_62 ?_
    refine z_iload_n (i := 2) (pc := 64) C rfl rfl dX7_part_64 ?_
    refine z_imul (pc := 65) C dX7_part_65 ?_
    refine z_bipush (pc := 66) C (by decide +kernel) dX7_part_66 ?_
    have hm1 : (i : Int) * sh ≤ 20 * 100 := Int.mul_le_mul (by omega) (by omega) (by omega) (by omega)
    have hm0 : 0 ≤ (i : Int) * sh := Int.mul_nonneg (by omega) (by omega)
    have hm2 : (i : Int) * sh ≤ (i : Int) * 100 := Int.mul_le_mul_of_nonneg_left (by omega) (by omega)
    refine z_idiv (pc := 68) C (hd := dX7_part_68) (k := ?_)
    refine z_istore (i := 6) (lv' := [_, _, _, _, _, _, _]) (pc := 69) C (by decide) rfl rfl dX7_part_69 ?_
    refine z_aload_n (i := 0) (pc := 71) C rfl rfl dX7_part_71 ?_
    refine g_X7_24 (pc := 72) C (zU_n' (by omega) hM) rfl dX7_part_72 ?_
    refine z_iload_n (i := 3) (pc := 75) C rfl rfl dX7_part_75 ?_
    refine z_if_eq (tgt := 87) (pc := 76) C dX7_part_76 (by decide) (fun h76 => ?_) (fun h76 => ?_)
    · have eφ : (i : Int) * sh / 100 = zφp sh gv i := by unfold zφp; rw [if_pos (by omega)]
      refine z_iload (i := 6) (pc := 87) C rfl dX7_part_87 ?_
      have hrng : 0 ≤ zφp sh gv i ∧ zφp sh gv i < 21 := by rw [← eφ]; omega
      rw [eφ]
      refine z_dup2 (pc := 89) C rfl rfl dX7_part_89 ?_
      refine z_iaload (pc := 90) C (zU_s _ _ _) dX7_part_90 ?_ (hi := (by omega))
      refine z_aload_n (i := 0) (pc := 91) C rfl rfl dX7_part_91 ?_
      refine g_X7_11 (pc := 92) C (zU_n' (by omega) hM) rfl dX7_part_92 ?_
      refine z_iload_n (i := 1) (pc := 95) C rfl rfl dX7_part_95 ?_
      refine z_aaload (pc := 96) C (zU_n' (by omega) hPt.1) rfl dX7_part_96 ?_
      refine z_iload (i := 5) (pc := 97) C rfl dX7_part_97 ?_
      refine z_iaload (pc := 99) C (zU_n' (by omega) (hPt.2 b.toNat (by omega))) dX7_part_99 ?_
      refine z_iadd (pc := 100) C dX7_part_100 ?_
      refine z_iastore (pc := 101) C (zU_s _ _ _) dX7_part_101 ?_ (hi := (by omega))
      rw [zU_u]
      refine z_iinc (i := 5) (lv' := [_, _, _, _, _, _, _]) (pc := 102) C rfl (by decide) rfl rfl dX7_part_102 ?_
      refine z_goto (tgt := 55) (pc := 105) C dX7_part_105 (by decide) ?_
      exact ih (i + 1) _ _ (by omega) (zmv_s hg)
    · have eφ : (i : Int) - (i : Int) * sh / 100 = zφp sh gv i := by unfold zφp; rw [if_neg (by omega)]
      refine z_iload (i := 5) (pc := 79) C rfl dX7_part_79 ?_
      refine z_iload (i := 6) (pc := 81) C rfl dX7_part_81 ?_
      refine z_isub (pc := 83) C dX7_part_83 ?_
      refine z_goto (tgt := 89) (pc := 84) C dX7_part_84 (by decide) ?_
      have hrng : 0 ≤ zφp sh gv i ∧ zφp sh gv i < 21 := by rw [← eφ]; omega
      rw [eφ]
      refine z_dup2 (pc := 89) C rfl rfl dX7_part_89 ?_
      refine z_iaload (pc := 90) C (zU_s _ _ _) dX7_part_90 ?_ (hi := (by omega))
      refine z_aload_n (i := 0) (pc := 91) C rfl rfl dX7_part_91 ?_
      refine g_X7_11 (pc := 92) C (zU_n' (by omega) hM) rfl dX7_part_92 ?_
      refine z_iload_n (i := 1) (pc := 95) C rfl rfl dX7_part_95 ?_
      refine z_aaload (pc := 96) C (zU_n' (by omega) hPt.1) rfl dX7_part_96 ?_
      refine z_iload (i := 5) (pc := 97) C rfl dX7_part_97 ?_
      refine z_iaload (pc := 99) C (zU_n' (by omega) (hPt.2 b.toNat (by omega))) dX7_part_99 ?_
      refine z_iadd (pc := 100) C dX7_part_100 ?_
      refine z_iastore (pc := 101) C (zU_s _ _ _) dX7_part_101 ?_ (hi := (by omega))
      rw [zU_u]
      refine z_iinc (i := 5) (lv' := [_, _, _, _, _, _, _]) (pc := 102) C rfl (by decide) rfl rfl dX7_part_102 ?_
      refine z_goto (tgt := 55) (pc := 105) C dX7_part_105 (by decide) ?_
      exact ih (i + 1) _ _ (by omega) (zmv_s hg)
set_option maxRecDepth 100000 in
set_option maxHeartbeats 4000000 in
theorem c_X7_part {l0 : Launch} {X : zX} {ω : zWd} {m : Nat} {bk : Nat → Int → Int} {nv : Int} {bh : Nat} {tv dv : Nat → Int} {rt c : Nat} {b sh gv to : Int} (hR : zMD X ω m bk nv bh tv dv rt c) (hbr : -2147483648 ≤ b ∧ b < 2147483648) (hshr : -2147483648 ≤ sh ∧ sh < 2147483648) (htor : -2147483648 ≤ to ∧ to < 2147483648) (hgv : gv = 0 ∨ gv = 1) : zMet l0 yX7_part cX7_part 7 (some .boolean) rmX7_part X [.ref m, .int (zI b), .int (zI sh), .int (zI gv), .int (zI to)] ω (zpi (fun r w => zKp m ω w ∧ (((zRt bk b ∧ (0 ≤ to ∧ to < 8) ∧ 0 ≤ sh ∧ sh ≤ 100) ∧ r = 1 ∧ ∃ f2, (∀ k : Int, 0 ≤ k → k < 21 → f2 k = zmv (zφp sh gv) (bk b.toNat) 21 k) ∧ zMD X w m (va_up bk to.toNat f2) nv bh tv dv rt c) ∨ (¬ (zRt bk b ∧ (0 ≤ to ∧ to < 8) ∧ 0 ≤ sh ∧ sh ≤ 100) ∧ r = 0 ∧ zMD X w m bk nv bh tv dv rt c)))) := by
  refine zMet.intro (by decide) (Nat.le_of_ble_eq_true rfl) ?_
  intro Γ C E N
  show Zw Γ ω 0 0 0 [some _, some _, some _, some _, some _, none, none] []
  have hR0 := hR
  obtain ⟨gN, gm, g1, g2, g3, g4, g5, g6, g7, hM, hPt, hNu, hTk, hDp, hMd, hOn, hAl, hNx, hRa, hRb, hSu, hBn, hDd, hPw, hPr, hRe, hWo, hLa, hBe, hOt, hBt, hbk, hVn⟩ := hR
  refine z_aload_n (i := 0) (pc := 0) C rfl rfl dX7_part_0 ?_
  refine z_iload_n (i := 1) (pc := 1) C rfl rfl dX7_part_1 ?_
  refine z_callVi (pc := 2) C (c_X7_isRight hM hPt hbk hbr) k_X7_88 zy_X7_isRight rfl rfl hM rfl rfl ⟨(Nat.le_of_ble_eq_true rfl), (Nat.le_of_ble_eq_true rfl)⟩ (Nat.le_of_ble_eq_true rfl) dX7_part_2 ⟨rfl, rfl⟩ ⟨(Nat.le_of_ble_eq_true rfl), (Nat.le_of_ble_eq_true rfl)⟩ (fun rv ω' hp => ?_)
  obtain ⟨hw', hp⟩ := hp
  rw [hw']
  clear hw'
  have hrr : rv = 0 ∨ rv = 1 := by rcases hp with h | h <;> omega
  refine z_if_eq (tgt := 26) (pc := 5) C dX7_part_5 (by decide) (fun h5 => ?_) (fun h5 => ?_)
  · have hno : ¬ zRt bk b := by rcases hp with h | h; (· omega); (· exact h.1)
    refine z_iconst (pc := 26) C dX7_part_26 ?_
    exact z_zret (pc := 27) C E (by decide +kernel) dX7_part_27 ⟨_, rfl, ⟨zKp.rf, Or.inr ⟨by first | exact (fun h => hno h.1) | exact (fun h => by have := h.2; omega), rfl, hR0⟩⟩⟩
  · have hyes : zRt bk b := by rcases hp with h | h; (· exact h.1); (· omega)
    obtain ⟨b0, b1, bs⟩ := id hyes
    refine z_iload (i := 4) (pc := 8) C rfl dX7_part_8 ?_
    refine z_callSi (pc := 10) C (c_X7_isBook htor) k_X7_84 zy_X7_isBook.2 rfl rfl ⟨(Nat.le_of_ble_eq_true rfl), (Nat.le_of_ble_eq_true rfl)⟩ (Nat.le_of_ble_eq_true rfl) dX7_part_10 ⟨rfl, rfl⟩ ⟨(Nat.le_of_ble_eq_true rfl), (Nat.le_of_ble_eq_true rfl)⟩ (fun rv ω' hp => ?_)
    obtain ⟨hw', hib⟩ := hp
    rw [hw']
    clear hw'
    refine z_if_eq (tgt := 26) (pc := 13) C dX7_part_13 (by decide) (fun h13 => ?_) (fun h13 => ?_)
    · refine z_iconst (pc := 26) C dX7_part_26 ?_
      exact z_zret (pc := 27) C E (by decide +kernel) dX7_part_27 ⟨_, rfl, ⟨zKp.rf, Or.inr ⟨by first | exact (fun h => hno h.1) | exact (fun h => by have := h.2; omega), rfl, hR0⟩⟩⟩
    · refine z_iload_n (i := 2) (pc := 16) C rfl rfl dX7_part_16 ?_
      refine z_iconst (pc := 17) C dX7_part_17 ?_
      refine z_bipush (pc := 18) C (by decide +kernel) dX7_part_18 ?_
      refine z_callSi (pc := 20) C (c_X7_in) k_X7_80 zy_X7_in.2 rfl rfl ⟨(Nat.le_of_ble_eq_true rfl), (Nat.le_of_ble_eq_true rfl)⟩ (Nat.le_of_ble_eq_true rfl) dX7_part_20 ⟨rfl, rfl⟩ ⟨(Nat.le_of_ble_eq_true rfl), (Nat.le_of_ble_eq_true rfl)⟩ (fun rv ω' hp => ?_)
      obtain ⟨hw', hi⟩ := hp
      rw [hw']
      clear hw'
      refine z_if_ne (tgt := 28) (pc := 23) C dX7_part_23 (by decide) (fun h23 => ?_) (fun h23 => ?_)
      · refine z_iconst (pc := 28) C dX7_part_28 ?_
        refine z_istore (i := 5) (lv' := [_, _, _, _, _, _, _]) (pc := 29) C (by decide) rfl rfl dX7_part_29 ?_
        have hz0 := fun K => lz_X7_part (ω := ω) C hM (b := b) (sh := sh) (gv := gv) (to := to) K 21 0 gm rfl (fun k a b => by omega)
        rw [zU_id hMd] at hz0
        refine hz0 ?_
        intro gi hgi
        refine z_iconst (pc := 52) C dX7_part_52 ?_
        refine z_istore (i := 5) (lv' := [_, _, _, _, _, _, _]) (pc := 53) C (by decide) rfl rfl dX7_part_53 ?_
        refine lp_X7_part C hM hPt hbk hyes (by omega) hgv ?_ 21 0 gi _ rfl (fun k k0 k1 => hgi k k0 k1)
        intro gi2 o9 hgi2
        refine z_aload_n (i := 0) (pc := 108) C rfl rfl dX7_part_108 ?_
        refine z_iload (i := 4) (pc := 109) C rfl dX7_part_109 ?_
        refine z_callVi (pc := 111) C (c_X7_becomes (zU_n' (by omega) hM) (hPt.kp (fun b h1 h2 => zU_n (by omega))) (zU_s _ _ _) (by omega)) k_X7_107 zy_X7_becomes rfl rfl (zU_n' (by omega) hM) rfl rfl ⟨(Nat.le_of_ble_eq_true rfl), (Nat.le_of_ble_eq_true rfl)⟩ (Nat.le_of_ble_eq_true rfl) dX7_part_111 ⟨rfl, rfl⟩ ⟨(Nat.le_of_ble_eq_true rfl), (Nat.le_of_ble_eq_true rfl)⟩ (fun rv ω' hp => ?_)
        obtain ⟨rfl, f2, rfl, hf2⟩ := hp
        exact z_zret (pc := 114) C E (by decide +kernel) dX7_part_114 ⟨_, rfl, ⟨(zKp.rf.u (by omega)).u (by omega), Or.inl ⟨⟨hyes, by omega, by omega⟩, rfl, f2, fun k k0 k1 => by rw [hf2 k k0 k1, hgi2 k k0 k1], ⟨gN, gi2, g1, g2, g3, g4, g5, g6, g7, (by rw [(zU_n (by omega)).trans (zU_n (by omega))]; exact hM), (hPt.kp (fun b h1 h2 => zU_n (by omega))).u (by omega), (by rw [(zU_n (by omega)).trans (zU_n (by omega))]; exact hNu), (hTk.kp (fun b h1 h2 => (zU_n (by omega)).trans (zU_n (by omega)))), (hDp.kp (fun b h1 h2 => (zU_n (by omega)).trans (zU_n (by omega)))), (zU_n' (by omega) (zU_s _ _ _)), (by rw [(zU_n (by omega)).trans (zU_n (by omega))]; exact hOn), (hAl.kp (fun b h1 h2 => (zU_n (by omega)).trans (zU_n (by omega)))), (hNx.kp (fun b h1 h2 => (zU_n (by omega)).trans (zU_n (by omega)))), (hRa.kp (fun b h1 h2 => (zU_n (by omega)).trans (zU_n (by omega)))), (hRb.kp (fun b h1 h2 => (zU_n (by omega)).trans (zU_n (by omega)))), (by rw [(zU_n (by omega)).trans (zU_n (by omega))]; exact hSu), (by rw [(zU_n (by omega)).trans (zU_n (by omega))]; exact hBn), (hDd.kp (fun b h1 h2 => (zU_n (by omega)).trans (zU_n (by omega)))), (hPw.kp (fun b h1 h2 => (zU_n (by omega)).trans (zU_n (by omega)))), (by rw [(zU_n (by omega)).trans (zU_n (by omega))]; exact hPr), (by rw [(zU_n (by omega)).trans (zU_n (by omega))]; exact hRe), (hWo.kp (fun b h1 h2 => (zU_n (by omega)).trans (zU_n (by omega)))), (hLa.kp (fun b h1 h2 => (zU_n (by omega)).trans (zU_n (by omega)))), (by rw [(zU_n (by omega)).trans (zU_n (by omega))]; exact hBe), (by rw [(zU_n (by omega)).trans (zU_n (by omega))]; exact hOt), (hBt.kp (fun b h1 h2 => (zU_n (by omega)).trans (zU_n (by omega))) rfl), (fun k hk => by
  by_cases e : k = to.toNat
  · rw [e, va_up_self]
    intro k k0 k1
    rw [hf2 k k0 k1, hgi2 k k0 k1]
    exact zmv_b (hbk b.toNat (by omega)) bs k
  · rw [va_up_ne _ _ e]; exact hbk k hk), hVn⟩⟩⟩⟩
      · refine z_iconst (pc := 26) C dX7_part_26 ?_
        exact z_zret (pc := 27) C E (by decide +kernel) dX7_part_27 ⟨_, rfl, ⟨zKp.rf, Or.inr ⟨by first | exact (fun h => hno h.1) | exact (fun h => by have := h.2; omega), rfl, hR0⟩⟩⟩
set_option maxRecDepth 100000 in
set_option maxHeartbeats 4000000 in
theorem c_X7_decimals {l0 : Launch} {X : zX} {ω : zWd} {m : Nat} {bk : Nat → Int → Int} {nv : Int} {bh : Nat} {tv dv : Nat → Int} {rt c : Nat} (hR : zMD X ω m bk nv bh tv dv rt c) : zMet l0 yX7_decimals cX7_decimals 1 (some .int) rmX7_decimals X [.ref m] ω (zpi (fun r w => w = ω ∧ r = 3 * (bh : Int))) := by
  refine zMet.intro (by decide) (Nat.le_of_ble_eq_true rfl) ?_
  intro Γ C E N
  show Zw Γ ω 0 0 0 [some _] []
  obtain ⟨gN, gm, g1, g2, g3, g4, g5, g6, g7, hM, hPt, hNu, hTk, hDp, hMd, hOn, hAl, hNx, hRa, hRb, hSu, hBn, hDd, hPw, hPr, hRe, hWo, hLa, hBe, hOt, hBt, hbk, hVn⟩ := hR
  refine z_iconst (pc := 0) C dX7_decimals_0 ?_
  refine z_aload_n (i := 0) (pc := 1) C rfl rfl dX7_decimals_1 ?_
  refine g_X7_143 (pc := 2) C hM rfl dX7_decimals_2 ?_
  refine z_imul (pc := 5) C dX7_decimals_5 ?_
  exact z_iret (pc := 6) C E dX7_decimals_6 ⟨_, rfl, ⟨rfl, rfl⟩⟩
set_option maxRecDepth 100000 in
set_option maxHeartbeats 4000000 in
theorem c_X7_digit {l0 : Launch} {X : zX} {ω : zWd} {m : Nat} {bk : Nat → Int → Int} {nv : Int} {bh : Nat} {tv dv : Nat → Int} {rt c : Nat} {i : Int} (hR : zMD X ω m bk nv bh tv dv rt c) (hbh : bh ≤ 40) (hir : -2147483648 ≤ i ∧ i < 2147483648) : zMet l0 yX7_digit cX7_digit 2 (some .int) rmX7_digit X [.ref m, .int (zI i)] ω (zpi (fun r w => w = ω ∧ ((i = 0 ∧ r = nv / 1000 ^ bh % 1000 + 1000 * (nv / 1000 ^ (bh + 1) % 1000)) ∨ ((1 ≤ i ∧ i ≤ 3 * bh) ∧ r = nv / 10 ^ (3 * (bh : Int) - i).toNat % 10) ∨ ((i < 0 ∨ 3 * (bh : Int) < i) ∧ r = -1)))) := by
  refine zMet.intro (by decide) (Nat.le_of_ble_eq_true rfl) ?_
  intro Γ C E N
  show Zw Γ ω 0 0 0 [some _, some _] []
  obtain ⟨gN, gm, g1, g2, g3, g4, g5, g6, g7, hM, hPt, hNu, hTk, hDp, hMd, hOn, hAl, hNx, hRa, hRb, hSu, hBn, hDd, hPw, hPr, hRe, hWo, hLa, hBe, hOt, hBt, hbk, hVn⟩ := hR
  have ha1 := zv_at (B := 1000) (f := gN) (by decide) (n := 72) (i := bh) (by omega) hVn.1
  have ha2 := zv_at (B := 1000) (f := gN) (by decide) (n := 72) (i := bh + 1) (by omega) hVn.1
  rw [hVn.2] at ha1 ha2
  have hb1 := hVn.1 bh (by omega) (by omega)
  have hb2 := hVn.1 ((bh : Int) + 1) (by omega) (by omega)
  refine z_iload_n (i := 1) (pc := 0) C rfl rfl dX7_digit_0 ?_
  refine z_if_ne (tgt := 30) (pc := 1) C dX7_digit_1 (by decide) (fun h1 => ?_) (fun h1 => ?_)
  · refine z_iload_n (i := 1) (pc := 30) C rfl rfl dX7_digit_30 ?_
    refine z_iconst (pc := 31) C dX7_digit_31 ?_
    refine z_iconst (pc := 32) C dX7_digit_32 ?_
    refine z_aload_n (i := 0) (pc := 33) C rfl rfl dX7_digit_33 ?_
    refine g_X7_143 (pc := 34) C hM rfl dX7_digit_34 ?_
    refine z_imul (pc := 37) C dX7_digit_37 ?_
    refine z_callSi (pc := 38) C (c_X7_in) k_X7_80 zy_X7_in.2 rfl rfl ⟨(Nat.le_of_ble_eq_true rfl), (Nat.le_of_ble_eq_true rfl)⟩ (Nat.le_of_ble_eq_true rfl) dX7_digit_38 ⟨rfl, rfl⟩ ⟨(Nat.le_of_ble_eq_true rfl), (Nat.le_of_ble_eq_true rfl)⟩ (fun rv ω' hp => ?_)
    obtain ⟨hw', hi⟩ := hp
    rw [hw']
    clear hw'
    refine z_if_eq (tgt := 59) (pc := 41) C dX7_digit_41 (by decide) (fun h41 => ?_) (fun h41 => ?_)
    · refine z_iconst (pc := 59) C dX7_digit_59 ?_
      exact z_iret (pc := 60) C E dX7_digit_60 ⟨_, rfl, ⟨rfl, by first | exact Or.inr (Or.inl ⟨by omega, rfl⟩) | exact Or.inr (Or.inr ⟨by omega, rfl⟩)⟩⟩
    · refine z_aload_n (i := 0) (pc := 44) C rfl rfl dX7_digit_44 ?_
      refine g_X7_14 (pc := 45) C hM rfl dX7_digit_45 ?_
      refine z_aload_n (i := 0) (pc := 48) C rfl rfl dX7_digit_48 ?_
      refine g_X7_143 (pc := 49) C hM rfl dX7_digit_49 ?_
      refine z_iload_n (i := 1) (pc := 52) C rfl rfl dX7_digit_52 ?_
      refine z_callSi (pc := 53) C (c_X7_decimal hNu hVn (by omega) (by omega)) k_X7_146 zy_X7_decimal.2 rfl rfl ⟨(Nat.le_of_ble_eq_true rfl), (Nat.le_of_ble_eq_true rfl)⟩ (Nat.le_of_ble_eq_true rfl) dX7_digit_53 ⟨rfl, rfl⟩ ⟨(Nat.le_of_ble_eq_true rfl), (Nat.le_of_ble_eq_true rfl)⟩ (fun rv ω' hp => ?_)
      obtain ⟨hw', rfl⟩ := hp
      rw [hw']
      refine z_goto (tgt := 60) (pc := 56) C dX7_digit_56 (by decide) ?_
      exact z_iret (pc := 60) C E dX7_digit_60 ⟨_, rfl, ⟨rfl, by first | exact Or.inr (Or.inl ⟨by omega, rfl⟩) | exact Or.inr (Or.inr ⟨by omega, rfl⟩)⟩⟩
  · refine z_aload_n (i := 0) (pc := 4) C rfl rfl dX7_digit_4 ?_
    refine g_X7_14 (pc := 5) C hM rfl dX7_digit_5 ?_
    refine z_aload_n (i := 0) (pc := 8) C rfl rfl dX7_digit_8 ?_
    refine g_X7_143 (pc := 9) C hM rfl dX7_digit_9 ?_
    refine z_iaload (pc := 12) C hNu dX7_digit_12 ?_
    refine z_sipush (pc := 13) C (by decide +kernel) dX7_digit_13 ?_
    refine z_aload_n (i := 0) (pc := 16) C rfl rfl dX7_digit_16 ?_
    refine g_X7_14 (pc := 17) C hM rfl dX7_digit_17 ?_
    refine z_aload_n (i := 0) (pc := 20) C rfl rfl dX7_digit_20 ?_
    refine g_X7_143 (pc := 21) C hM rfl dX7_digit_21 ?_
    refine z_iconst (pc := 24) C dX7_digit_24 ?_
    refine z_iadd (pc := 25) C dX7_digit_25 ?_
    refine z_iaload (pc := 26) C hNu dX7_digit_26 ?_
    refine z_imul (pc := 27) C dX7_digit_27 ?_
    refine z_iadd (pc := 28) C dX7_digit_28 ?_
    exact z_iret (pc := 29) C E dX7_digit_29 ⟨_, rfl, ⟨rfl, Or.inl ⟨h1, by rw [ha1, ha2, show (((bh + 1 : Nat)) : Int) = (bh : Int) + 1 by omega]⟩⟩⟩
set_option maxRecDepth 100000 in
set_option maxHeartbeats 4000000 in
theorem c_X7_at {l0 : Launch} {X : zX} {ω : zWd} {m : Nat} {bk : Nat → Int → Int} {nv : Int} {bh : Nat} {tv dv : Nat → Int} {rt c : Nat} {t i : Int} (hR : zMD X ω m bk nv bh tv dv rt c) (hrt : rt ≤ 40) (htr : -2147483648 ≤ t ∧ t < 2147483648) (hir : -2147483648 ≤ i ∧ i < 2147483648) : zMet l0 yX7_at cX7_at 3 (some .int) rmX7_at X [.ref m, .int (zI t), .int (zI i)] ω (zpi (fun r w => w = ω ∧ ((((1 ≤ t ∧ t ≤ rt)) ∧ (1 ≤ i ∧ i ≤ 3 * rt) ∧ r = tv t.toNat / 10 ^ (3 * (rt : Int) - i).toNat % 10) ∨ (¬ (((1 ≤ t ∧ t ≤ rt)) ∧ (1 ≤ i ∧ i ≤ 3 * rt)) ∧ r = -1)))) := by
  refine zMet.intro (by decide) (Nat.le_of_ble_eq_true rfl) ?_
  intro Γ C E N
  show Zw Γ ω 0 0 0 [some _, some _, some _] []
  obtain ⟨gN, gm, g1, g2, g3, g4, g5, g6, g7, hM, hPt, hNu, hTk, hDp, hMd, hOn, hAl, hNx, hRa, hRb, hSu, hBn, hDd, hPw, hPr, hRe, hWo, hLa, hBe, hOt, hBt, hbk, hVn⟩ := hR
  obtain ⟨fT, hT1, hT2⟩ := hTk
  refine z_iload_n (i := 1) (pc := 0) C rfl rfl dX7_at_0 ?_
  refine z_iconst (pc := 1) C dX7_at_1 ?_
  refine z_aload_n (i := 0) (pc := 2) C rfl rfl dX7_at_2 ?_
  refine g_X7_136 (pc := 3) C hM rfl dX7_at_3 ?_
  refine z_callSi (pc := 6) C (c_X7_in) k_X7_80 zy_X7_in.2 rfl rfl ⟨(Nat.le_of_ble_eq_true rfl), (Nat.le_of_ble_eq_true rfl)⟩ (Nat.le_of_ble_eq_true rfl) dX7_at_6 ⟨rfl, rfl⟩ ⟨(Nat.le_of_ble_eq_true rfl), (Nat.le_of_ble_eq_true rfl)⟩ (fun rv ω' hp => ?_)
  obtain ⟨hw', hi⟩ := hp
  rw [hw']
  clear hw'
  refine z_if_eq (tgt := 43) (pc := 9) C dX7_at_9 (by decide) (fun h9 => ?_) (fun h9 => ?_)
  · refine z_iconst (pc := 43) C dX7_at_43 ?_
    exact z_iret (pc := 44) C E dX7_at_44 ⟨_, rfl, ⟨rfl, by first | exact Or.inl ⟨by omega, by omega, rfl⟩ | exact Or.inr ⟨by omega, rfl⟩⟩⟩
  · refine z_iload_n (i := 2) (pc := 12) C rfl rfl dX7_at_12 ?_
    refine z_iconst (pc := 13) C dX7_at_13 ?_
    refine z_iconst (pc := 14) C dX7_at_14 ?_
    refine z_aload_n (i := 0) (pc := 15) C rfl rfl dX7_at_15 ?_
    refine g_X7_136 (pc := 16) C hM rfl dX7_at_16 ?_
    refine z_imul (pc := 19) C dX7_at_19 ?_
    refine z_callSi (pc := 20) C (c_X7_in) k_X7_80 zy_X7_in.2 rfl rfl ⟨(Nat.le_of_ble_eq_true rfl), (Nat.le_of_ble_eq_true rfl)⟩ (Nat.le_of_ble_eq_true rfl) dX7_at_20 ⟨rfl, rfl⟩ ⟨(Nat.le_of_ble_eq_true rfl), (Nat.le_of_ble_eq_true rfl)⟩ (fun rv ω' hp => ?_)
    obtain ⟨hw', hi2⟩ := hp
    rw [hw']
    clear hw'
    refine z_if_eq (tgt := 43) (pc := 23) C dX7_at_23 (by decide) (fun h23 => ?_) (fun h23 => ?_)
    · refine z_iconst (pc := 43) C dX7_at_43 ?_
      exact z_iret (pc := 44) C E dX7_at_44 ⟨_, rfl, ⟨rfl, by first | exact Or.inl ⟨by omega, by omega, rfl⟩ | exact Or.inr ⟨by omega, rfl⟩⟩⟩
    · refine z_aload_n (i := 0) (pc := 26) C rfl rfl dX7_at_26 ?_
      refine g_X7_18 (pc := 27) C hM rfl dX7_at_27 ?_
      refine z_iload_n (i := 1) (pc := 30) C rfl rfl dX7_at_30 ?_
      refine z_aaload (pc := 31) C hT1.1 rfl dX7_at_31 ?_
      refine z_aload_n (i := 0) (pc := 32) C rfl rfl dX7_at_32 ?_
      refine g_X7_136 (pc := 33) C hM rfl dX7_at_33 ?_
      refine z_iload_n (i := 2) (pc := 36) C rfl rfl dX7_at_36 ?_
      refine z_callSi (pc := 37) C (c_X7_decimal (hT1.2 t.toNat (by omega)) (hT2 t.toNat (by omega)) (by omega) (by omega)) k_X7_146 zy_X7_decimal.2 rfl rfl ⟨(Nat.le_of_ble_eq_true rfl), (Nat.le_of_ble_eq_true rfl)⟩ (Nat.le_of_ble_eq_true rfl) dX7_at_37 ⟨rfl, rfl⟩ ⟨(Nat.le_of_ble_eq_true rfl), (Nat.le_of_ble_eq_true rfl)⟩ (fun rv ω' hp => ?_)
      obtain ⟨hw', rfl⟩ := hp
      rw [hw']
      refine z_goto (tgt := 44) (pc := 40) C dX7_at_40 (by decide) ?_
      exact z_iret (pc := 44) C E dX7_at_44 ⟨_, rfl, ⟨rfl, by first | exact Or.inl ⟨by omega, by omega, rfl⟩ | exact Or.inr ⟨by omega, rfl⟩⟩⟩
set_option maxRecDepth 100000 in
set_option maxHeartbeats 4000000 in
theorem c_X7_deep {l0 : Launch} {X : zX} {ω : zWd} {m : Nat} {bk : Nat → Int → Int} {nv : Int} {bh : Nat} {tv dv : Nat → Int} {rt c : Nat} {t i : Int} (hR : zMD X ω m bk nv bh tv dv rt c) (hrt : rt ≤ 40) (htr : -2147483648 ≤ t ∧ t < 2147483648) (hir : -2147483648 ≤ i ∧ i < 2147483648) : zMet l0 yX7_deep cX7_deep 3 (some .int) rmX7_deep X [.ref m, .int (zI t), .int (zI i)] ω (zpi (fun r w => w = ω ∧ ((((1 ≤ t ∧ t ≤ 20)) ∧ (1 ≤ i ∧ i ≤ 3 * rt) ∧ r = dv t.toNat / 10 ^ (3 * (rt : Int) - i).toNat % 10) ∨ (¬ (((1 ≤ t ∧ t ≤ 20)) ∧ (1 ≤ i ∧ i ≤ 3 * rt)) ∧ r = -1)))) := by
  refine zMet.intro (by decide) (Nat.le_of_ble_eq_true rfl) ?_
  intro Γ C E N
  show Zw Γ ω 0 0 0 [some _, some _, some _] []
  obtain ⟨gN, gm, g1, g2, g3, g4, g5, g6, g7, hM, hPt, hNu, hTk, hDp, hMd, hOn, hAl, hNx, hRa, hRb, hSu, hBn, hDd, hPw, hPr, hRe, hWo, hLa, hBe, hOt, hBt, hbk, hVn⟩ := hR
  obtain ⟨fT, hT1, hT2⟩ := hDp
  refine z_iload_n (i := 1) (pc := 0) C rfl rfl dX7_deep_0 ?_
  refine z_iconst (pc := 1) C dX7_deep_1 ?_
  refine z_bipush (pc := 2) C (by decide +kernel) dX7_deep_2 ?_
  refine z_callSi (pc := 4) C (c_X7_in) k_X7_80 zy_X7_in.2 rfl rfl ⟨(Nat.le_of_ble_eq_true rfl), (Nat.le_of_ble_eq_true rfl)⟩ (Nat.le_of_ble_eq_true rfl) dX7_deep_4 ⟨rfl, rfl⟩ ⟨(Nat.le_of_ble_eq_true rfl), (Nat.le_of_ble_eq_true rfl)⟩ (fun rv ω' hp => ?_)
  obtain ⟨hw', hi⟩ := hp
  rw [hw']
  clear hw'
  refine z_if_eq (tgt := 41) (pc := 7) C dX7_deep_7 (by decide) (fun h7 => ?_) (fun h7 => ?_)
  · refine z_iconst (pc := 41) C dX7_deep_41 ?_
    exact z_iret (pc := 42) C E dX7_deep_42 ⟨_, rfl, ⟨rfl, by first | exact Or.inl ⟨by omega, by omega, rfl⟩ | exact Or.inr ⟨by omega, rfl⟩⟩⟩
  · refine z_iload_n (i := 2) (pc := 10) C rfl rfl dX7_deep_10 ?_
    refine z_iconst (pc := 11) C dX7_deep_11 ?_
    refine z_iconst (pc := 12) C dX7_deep_12 ?_
    refine z_aload_n (i := 0) (pc := 13) C rfl rfl dX7_deep_13 ?_
    refine g_X7_136 (pc := 14) C hM rfl dX7_deep_14 ?_
    refine z_imul (pc := 17) C dX7_deep_17 ?_
    refine z_callSi (pc := 18) C (c_X7_in) k_X7_80 zy_X7_in.2 rfl rfl ⟨(Nat.le_of_ble_eq_true rfl), (Nat.le_of_ble_eq_true rfl)⟩ (Nat.le_of_ble_eq_true rfl) dX7_deep_18 ⟨rfl, rfl⟩ ⟨(Nat.le_of_ble_eq_true rfl), (Nat.le_of_ble_eq_true rfl)⟩ (fun rv ω' hp => ?_)
    obtain ⟨hw', hi2⟩ := hp
    rw [hw']
    clear hw'
    refine z_if_eq (tgt := 41) (pc := 21) C dX7_deep_21 (by decide) (fun h21 => ?_) (fun h21 => ?_)
    · refine z_iconst (pc := 41) C dX7_deep_41 ?_
      exact z_iret (pc := 42) C E dX7_deep_42 ⟨_, rfl, ⟨rfl, by first | exact Or.inl ⟨by omega, by omega, rfl⟩ | exact Or.inr ⟨by omega, rfl⟩⟩⟩
    · refine z_aload_n (i := 0) (pc := 24) C rfl rfl dX7_deep_24 ?_
      refine g_X7_21 (pc := 25) C hM rfl dX7_deep_25 ?_
      refine z_iload_n (i := 1) (pc := 28) C rfl rfl dX7_deep_28 ?_
      refine z_aaload (pc := 29) C hT1.1 rfl dX7_deep_29 ?_
      refine z_aload_n (i := 0) (pc := 30) C rfl rfl dX7_deep_30 ?_
      refine g_X7_136 (pc := 31) C hM rfl dX7_deep_31 ?_
      refine z_iload_n (i := 2) (pc := 34) C rfl rfl dX7_deep_34 ?_
      refine z_callSi (pc := 35) C (c_X7_decimal (hT1.2 t.toNat (by omega)) (hT2 t.toNat (by omega)) (by omega) (by omega)) k_X7_146 zy_X7_decimal.2 rfl rfl ⟨(Nat.le_of_ble_eq_true rfl), (Nat.le_of_ble_eq_true rfl)⟩ (Nat.le_of_ble_eq_true rfl) dX7_deep_35 ⟨rfl, rfl⟩ ⟨(Nat.le_of_ble_eq_true rfl), (Nat.le_of_ble_eq_true rfl)⟩ (fun rv ω' hp => ?_)
      obtain ⟨hw', rfl⟩ := hp
      rw [hw']
      refine z_goto (tgt := 42) (pc := 38) C dX7_deep_38 (by decide) ?_
      exact z_iret (pc := 42) C E dX7_deep_42 ⟨_, rfl, ⟨rfl, by first | exact Or.inl ⟨by omega, by omega, rfl⟩ | exact Or.inr ⟨by omega, rfl⟩⟩⟩
