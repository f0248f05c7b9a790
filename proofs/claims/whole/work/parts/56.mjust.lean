set_option maxRecDepth 100000 in
set_option maxHeartbeats 4000000 in
theorem lp_X7_just {Γ : zG} {l0 : Launch} {X : zX} {m : Nat} {bk : Nat → Int → Int} {nv : Int} {bh : Nat} {tv dv : Nat → Int} {rt c : Nat} {pu n : Nat} {b mi : Int} {ω0 : zWd} (C : Zc Γ l0 X rmX7_just 6 cX7_just RX7) (E : Ze Γ (zpi (fun r w => zKp m ω0 w ∧ zMD X w m bk nv bh tv dv rt c ∧ (((zRt bk b ∧ (0 ≤ (pu : Int) ∧ (pu : Int) ≤ 100) ∧ (1 ≤ (n : Int) ∧ (n : Int) ≤ 12) ∧ (0 ≤ mi ∧ mi ≤ 1000000)) ∧ (0 ≤ r ∧ r ≤ 20) ∧ zEn (bk b.toNat) (pu : Int) mi ((n : Int)).toNat r ∧ ∀ p : Int, 0 ≤ p → p < r → ¬ zEn (bk b.toNat) (pu : Int) mi ((n : Int)).toNat p) ∨ (¬ (zRt bk b ∧ (0 ≤ (pu : Int) ∧ (pu : Int) ≤ 100) ∧ (1 ≤ (n : Int) ∧ (n : Int) ≤ 12) ∧ (0 ≤ mi ∧ mi ≤ 1000000)) ∧ r = -1)))) 0 0 (some .int)) (hy : zRt bk b) (hpu : pu ≤ 100) (hn : 1 ≤ n ∧ n ≤ 12) (hmi : 0 ≤ mi ∧ mi ≤ 1000000) : ∀ (j pr : Nat) (ω : zWd), pr + j = 21 → zKp m ω0 ω → zMD X ω m bk nv bh tv dv rt c → (∀ p : Int, 0 ≤ p → p < pr → ¬ zEn (bk b.toNat) (pu : Int) mi n p) → Zw Γ ω 0 0 29 [some (.ref m), some (.int (zI (pu : Int))), some (.int (zI b)), some (.int (zI (n : Int))), some (.int (zI mi)), some (.int (zI (pr : Int)))] [] := by
  obtain ⟨b0, b1, bs⟩ := id hy
  have hsum : zs (zwt (bk b.toNat)) 41 = 10 ^ 3 := by rw [zwt_s, bs]; rfl
  have htop : zEn (bk b.toNat) (pu : Int) mi n 20 := zEn_top (T := 20) hmi.1 (by decide) (fun s s0 s1 h => if_neg (by omega)) hsum
  have hAd : ∀ v : Int, 0 ≤ zdl pu 1 v ∧ zdl pu 1 v ≤ 10 ^ 0 := fun v => by unfold zdl; split <;> decide
  intro j
  induction j with
  | zero =>
    intro pr ω hj hk hR hno
    exact absurd htop (hno 20 (by omega) (by omega))
  | succ j ih =>
    intro pr ω hj hk hR hno
    have hR0 := hR
    obtain ⟨gN, gm, g1, g2, g3, g4, g5, g6, g7, hM, hPt, hNu, hTk, hDp, hMd, hOn, hAl, hNx, hRa, hRb, hSu, hBn, hDd, hPw, hPr, hRe, hWo, hLa, hBe, hOt, hBt, hbk, hVn⟩ := hR
    have hf := hbk b.toNat (by omega)
    have hwt : ∀ s : Int, 0 ≤ s → s < 41 → 0 ≤ zwt (bk b.toNat) s := fun s _ _ => zwt_0 hf s
    have hle := zSm_le (wt := zwt (bk b.toNat)) (p := (pr : Int)) (w0 := 1) (pu := pu) (n := 0) (c := 3) (by omega) hwt hsum (by decide) n
    have hge := (zSm_b (n := 0) (p := (pr : Int)) (Av := zdl pu 1) hwt hsum hAd n).1
    have h1n : ((10 : Int) ^ 3) ^ n * 1 ≤ 10 ^ 36 := by rw [Int.mul_one, ← Int.pow_mul]; exact zp10 (by omega)
    have hSb : 0 ≤ zSm (zwt (bk b.toNat)) (pr : Int) 1000 (zdl pu 1) n ∧ zSm (zwt (bk b.toNat)) (pr : Int) 1000 (zdl pu 1) n ≤ 10 ^ 36 := ⟨hge, Int.le_trans hle h1n⟩
    have h72 : (10 : Int) ^ 36 * 1000000 < 1000 ^ 72 := by decide
    refine z_iload (i := 5) (pc := 29) C rfl dX7_just_29 ?_
    refine z_bipush (pc := 31) C (by decide +kernel) dX7_just_31 ?_
    refine z_icmp_gt (tgt := 108) (pc := 33) C dX7_just_33 (by decide) (fun h33 => absurd h33 (by omega)) (fun h33 => ?_)
    refine z_aload_n (i := 0) (pc := 36) C rfl rfl dX7_just_36 ?_
    refine z_iload_n (i := 1) (pc := 37) C rfl rfl dX7_just_37 ?_
    refine z_iload (i := 5) (pc := 38) C rfl dX7_just_38 ?_
    refine z_iload_n (i := 2) (pc := 40) C rfl rfl dX7_just_40 ?_
    refine z_iload_n (i := 3) (pc := 41) C rfl rfl dX7_just_41 ?_
    refine z_callVv (pc := 42) C (c_X7_runs hM hPt hbk hy (by omega) (by omega) (by omega) hAl hNx hRa hRb) k_X7_132 zy_X7_runs rfl rfl hM rfl rfl ⟨(Nat.le_of_ble_eq_true rfl), (Nat.le_of_ble_eq_true rfl)⟩ (Nat.le_of_ble_eq_true rfl) dX7_just_42 ⟨rfl, rfl⟩ ⟨(Nat.le_of_ble_eq_true rfl), (Nat.le_of_ble_eq_true rfl)⟩ (fun ω' hp => ?_)
    obtain ⟨ho1, hAl1, hNx1, hRa1, hRb1⟩ := hp
    have hk1 : ∀ b : Nat, (b < m + 77 ∨ m + 1945 ≤ b) → ω'.1 b = ω.1 b := fun b hb => ho1.1 b (by omega)
    have hM1 := (hk1 m (by omega)).trans hM
    have hSu1 := (hk1 (m + 1945) (by omega)).trans hSu
    have hBn1 := (hk1 (m + 1946) (by omega)).trans hBn
    have hOn1 := (hk1 (m + 76) (by omega)).trans hOn
    have hRs := zRa_sum (wt := zwt (bk b.toNat)) (Av := zdl pu 1) (p := (pr : Int)) n
    refine z_aload_n (i := 0) (pc := 45) C rfl rfl dX7_just_45 ?_
    refine z_iload_n (i := 3) (pc := 46) C rfl rfl dX7_just_46 ?_
    refine z_aload_n (i := 0) (pc := 47) C rfl rfl dX7_just_47 ?_
    refine g_X7_46 (pc := 48) C hM1 rfl dX7_just_48 ?_
    refine z_callVv (pc := 51) C (c_X7_all (a := m + 1945) (n := n) hM1 hRa1 (by omega) (by omega) (by omega) (fun t ht => zRa_b hwt hsum hAd (by omega) t ht) hSu1) k_X7_139 zy_X7_all rfl rfl hM1 rfl rfl ⟨(Nat.le_of_ble_eq_true rfl), (Nat.le_of_ble_eq_true rfl)⟩ (Nat.le_of_ble_eq_true rfl) dX7_just_51 ⟨rfl, rfl⟩ ⟨(Nat.le_of_ble_eq_true rfl), (Nat.le_of_ble_eq_true rfl)⟩ (fun ω' hp => ?_)
    obtain ⟨gS, rfl, hgS⟩ := hp
    have hgS2 := hgS.e hRs
    refine z_aload_n (i := 0) (pc := 54) C rfl rfl dX7_just_54 ?_
    refine g_X7_49 (pc := 55) C (zU_n' (by omega) hM1) rfl dX7_just_55 ?_
    refine z_callSv (pc := 58) C (c_X7_zero (zU_n' (by omega) hBn1)) k_X7_112 zy_X7_zero.2 rfl rfl ⟨(Nat.le_of_ble_eq_true rfl), (Nat.le_of_ble_eq_true rfl)⟩ (Nat.le_of_ble_eq_true rfl) dX7_just_58 ⟨rfl, rfl⟩ ⟨(Nat.le_of_ble_eq_true rfl), (Nat.le_of_ble_eq_true rfl)⟩ (fun ω' hp => ?_)
    obtain ⟨gB, rfl, hgB⟩ := hp
    refine z_aload_n (i := 0) (pc := 61) C rfl rfl dX7_just_61 ?_
    refine z_aload_n (i := 0) (pc := 62) C rfl rfl dX7_just_62 ?_
    refine g_X7_49 (pc := 63) C (zU_n' (by omega) (zU_n' (by omega) hM1)) rfl dX7_just_63 ?_
    refine z_aload_n (i := 0) (pc := 66) C rfl rfl dX7_just_66 ?_
    refine g_X7_46 (pc := 67) C (zU_n' (by omega) (zU_n' (by omega) hM1)) rfl dX7_just_67 ?_
    refine z_iconst (pc := 70) C dX7_just_70 ?_
    refine z_iconst (pc := 71) C dX7_just_71 ?_
    refine z_callVv (pc := 72) C (c_X7_add (up := 2) (q := 1) (zU_n' (by omega) (zU_n' (by omega) hM1)) rfl (zU_s _ _ _) hgB (zU_n' (by omega) (zU_s _ _ _)) hgS2 (by omega) (by omega) (by omega) (by rw [show (1000 : Int) ^ 2 = 1000000 by decide, Int.one_mul]; omega)) k_X7_120 zy_X7_add rfl rfl (zU_n' (by omega) (zU_n' (by omega) hM1)) rfl rfl ⟨(Nat.le_of_ble_eq_true rfl), (Nat.le_of_ble_eq_true rfl)⟩ (Nat.le_of_ble_eq_true rfl) dX7_just_72 ⟨rfl, rfl⟩ ⟨(Nat.le_of_ble_eq_true rfl), (Nat.le_of_ble_eq_true rfl)⟩ (fun ω' hp => ?_)
    obtain ⟨gC, rfl, hgC⟩ := hp
    rw [zU_u]
    rw [show (1000 : Int) ^ 2 = 1000000 by decide, Int.one_mul, Int.zero_add] at hgC
    refine z_aload_n (i := 0) (pc := 75) C rfl rfl dX7_just_75 ?_
    refine g_X7_31 (pc := 76) C (zU_n' (by omega) (zU_n' (by omega) hM1)) rfl dX7_just_76 ?_
    refine z_iload (i := 4) (pc := 79) C rfl dX7_just_79 ?_
    refine z_iload_n (i := 3) (pc := 81) C rfl rfl dX7_just_81 ?_
    refine z_callSv (pc := 82) C (c_X7_set_ (up := n) (zU_n' (by omega) (zU_n' (by omega) hOn1)) hmi (by omega)) k_X7_151 zy_X7_set_.2 rfl rfl ⟨(Nat.le_of_ble_eq_true rfl), (Nat.le_of_ble_eq_true rfl)⟩ (Nat.le_of_ble_eq_true rfl) dX7_just_82 ⟨rfl, rfl⟩ ⟨(Nat.le_of_ble_eq_true rfl), (Nat.le_of_ble_eq_true rfl)⟩ (fun ω' hp => ?_)
    obtain ⟨gD, rfl, hgD⟩ := hp
    refine z_aload_n (i := 0) (pc := 85) C rfl rfl dX7_just_85 ?_
    refine g_X7_49 (pc := 86) C (zU_n' (by omega) (zU_n' (by omega) (zU_n' (by omega) hM1))) rfl dX7_just_86 ?_
    refine z_aload_n (i := 0) (pc := 89) C rfl rfl dX7_just_89 ?_
    refine g_X7_31 (pc := 90) C (zU_n' (by omega) (zU_n' (by omega) (zU_n' (by omega) hM1))) rfl dX7_just_90 ?_
    refine z_callSi (pc := 93) C (c_X7_compare (zU_n' (by omega) (zU_s _ _ _)) hgC (zU_s _ _ _) hgD) k_X7_155 zy_X7_compare.2 rfl rfl ⟨(Nat.le_of_ble_eq_true rfl), (Nat.le_of_ble_eq_true rfl)⟩ (Nat.le_of_ble_eq_true rfl) dX7_just_93 ⟨rfl, rfl⟩ ⟨(Nat.le_of_ble_eq_true rfl), (Nat.le_of_ble_eq_true rfl)⟩ (fun rv ω' hp => ?_)
    obtain ⟨hw', hcp⟩ := hp
    rw [hw']
    clear hw'
    have hrr : rv = -1 ∨ rv = 0 ∨ rv = 1 := by omega
    have hR3 : zMD X (zU (zU (zU _ (m + 1945) (zAI X 72 gS)) (m + 1946) (zAI X 72 gC)) (m + 76) (zAI X 72 gD)) m bk nv bh tv dv rt c := ⟨gN, gm, gD, gS, gC, g4, g5, g6, g7, (by rw [((zU_n (by omega)).trans ((zU_n (by omega)).trans ((zU_n (by omega)).trans (hk1 _ (by omega)))))]; exact hM), (hPt.kp (fun b h1 h2 => ((zU_n (by omega)).trans ((zU_n (by omega)).trans ((zU_n (by omega)).trans (hk1 _ (by omega))))))), (by rw [((zU_n (by omega)).trans ((zU_n (by omega)).trans ((zU_n (by omega)).trans (hk1 _ (by omega)))))]; exact hNu), (hTk.kp (fun b h1 h2 => ((zU_n (by omega)).trans ((zU_n (by omega)).trans ((zU_n (by omega)).trans (hk1 _ (by omega))))))), (hDp.kp (fun b h1 h2 => ((zU_n (by omega)).trans ((zU_n (by omega)).trans ((zU_n (by omega)).trans (hk1 _ (by omega))))))), (by rw [((zU_n (by omega)).trans ((zU_n (by omega)).trans ((zU_n (by omega)).trans (hk1 _ (by omega)))))]; exact hMd), (zU_s _ _ _), (hAl1.kp (fun b h1 h2 => ((zU_n (by omega)).trans ((zU_n (by omega)).trans (zU_n (by omega)))))), (hNx1.kp (fun b h1 h2 => ((zU_n (by omega)).trans ((zU_n (by omega)).trans (zU_n (by omega)))))), (hRa1.s.kp (fun b h1 h2 => ((zU_n (by omega)).trans ((zU_n (by omega)).trans (zU_n (by omega)))))), (hRb1.s.kp (fun b h1 h2 => ((zU_n (by omega)).trans ((zU_n (by omega)).trans (zU_n (by omega)))))), (zU_n' (by omega) (zU_n' (by omega) (zU_s _ _ _))), (zU_n' (by omega) (zU_s _ _ _)), (hDd.kp (fun b h1 h2 => ((zU_n (by omega)).trans ((zU_n (by omega)).trans ((zU_n (by omega)).trans (hk1 _ (by omega))))))), (hPw.kp (fun b h1 h2 => ((zU_n (by omega)).trans ((zU_n (by omega)).trans ((zU_n (by omega)).trans (hk1 _ (by omega))))))), (by rw [((zU_n (by omega)).trans ((zU_n (by omega)).trans ((zU_n (by omega)).trans (hk1 _ (by omega)))))]; exact hPr), (by rw [((zU_n (by omega)).trans ((zU_n (by omega)).trans ((zU_n (by omega)).trans (hk1 _ (by omega)))))]; exact hRe), (hWo.kp (fun b h1 h2 => ((zU_n (by omega)).trans ((zU_n (by omega)).trans ((zU_n (by omega)).trans (hk1 _ (by omega))))))), (hLa.kp (fun b h1 h2 => ((zU_n (by omega)).trans ((zU_n (by omega)).trans ((zU_n (by omega)).trans (hk1 _ (by omega))))))), (by rw [((zU_n (by omega)).trans ((zU_n (by omega)).trans ((zU_n (by omega)).trans (hk1 _ (by omega)))))]; exact hBe), (by rw [((zU_n (by omega)).trans ((zU_n (by omega)).trans ((zU_n (by omega)).trans (hk1 _ (by omega)))))]; exact hOt), (hBt.kp (fun b h1 h2 => ((zU_n (by omega)).trans ((zU_n (by omega)).trans ((zU_n (by omega)).trans (hk1 _ (by omega)))))) ho1.2), hbk, hVn⟩
    have hk3 := ((((hk.o ho1 (by omega)).u (b := m + 1945) (x := zAI X 72 gS) (by omega)).u (b := m + 1946) (x := zAI X 72 gC) (by omega)).u (b := m + 76) (x := zAI X 72 gD) (by omega))
    refine z_if_gt (tgt := 102) (pc := 96) C dX7_just_96 (by decide) (fun h96 => ?_) (fun h96 => ?_)
    · refine z_iinc (i := 5) (lv' := [_, _, _, _, _, _]) (pc := 102) C rfl (by decide) rfl rfl dX7_just_102 ?_
      refine z_goto (tgt := 29) (pc := 105) C dX7_just_105 (by decide) ?_
      exact ih (pr + 1) _ (by omega) hk3 hR3 (fun p p0 p1 => by
        by_cases e : p = (pr : Int)
        · rw [e]
          intro h
          have h2 : zSm (zwt (bk b.toNat)) (pr : Int) 1000 (zdl pu 1) n * 1000000 ≤ mi * 1000 ^ n := h
          omega
        · exact hno p p0 (by omega))
    · refine z_iload (i := 5) (pc := 99) C rfl dX7_just_99 ?_
      exact z_iret (pc := 101) C E dX7_just_101 ⟨_, rfl, ⟨hk3, hR3, Or.inl ⟨⟨hy, by omega, by omega, hmi⟩, by omega, (by show zSm (zwt (bk b.toNat)) (pr : Int) 1000 (zdl pu 1) n * 1000000 ≤ mi * 1000 ^ n; omega), fun p p0 p1 => hno p p0 p1⟩⟩⟩
set_option maxRecDepth 100000 in
set_option maxHeartbeats 4000000 in
theorem c_X7_just {l0 : Launch} {X : zX} {ω : zWd} {m : Nat} {bk : Nat → Int → Int} {nv : Int} {bh : Nat} {tv dv : Nat → Int} {rt c : Nat} {pu b n mi : Int} (hR : zMD X ω m bk nv bh tv dv rt c) (hpur : -2147483648 ≤ pu ∧ pu < 2147483648) (hbr : -2147483648 ≤ b ∧ b < 2147483648) (hnr : -2147483648 ≤ n ∧ n < 2147483648) (hmir : -2147483648 ≤ mi ∧ mi < 2147483648) : zMet l0 yX7_just cX7_just 6 (some .int) rmX7_just X [.ref m, .int (zI pu), .int (zI b), .int (zI n), .int (zI mi)] ω (zpi (fun r w => zKp m ω w ∧ zMD X w m bk nv bh tv dv rt c ∧ (((zRt bk b ∧ (0 ≤ pu ∧ pu ≤ 100) ∧ (1 ≤ n ∧ n ≤ 12) ∧ (0 ≤ mi ∧ mi ≤ 1000000)) ∧ (0 ≤ r ∧ r ≤ 20) ∧ zEn (bk b.toNat) pu mi n.toNat r ∧ ∀ p : Int, 0 ≤ p → p < r → ¬ zEn (bk b.toNat) pu mi n.toNat p) ∨ (¬ (zRt bk b ∧ (0 ≤ pu ∧ pu ≤ 100) ∧ (1 ≤ n ∧ n ≤ 12) ∧ (0 ≤ mi ∧ mi ≤ 1000000)) ∧ r = -1)))) := by
  refine zMet.intro (by decide) (Nat.le_of_ble_eq_true rfl) ?_
  intro Γ C E N
  show Zw Γ ω 0 0 0 [some _, some _, some _, some _, some _, none] []
  have hR0 := hR
  obtain ⟨gN, gm, g1, g2, g3, g4, g5, g6, g7, hM, hPt, hNu, hTk, hDp, hMd, hOn, hAl, hNx, hRa, hRb, hSu, hBn, hDd, hPw, hPr, hRe, hWo, hLa, hBe, hOt, hBt, hbk, hVn⟩ := hR
  refine z_aload_n (i := 0) (pc := 0) C rfl rfl dX7_just_0 ?_
  refine z_iload_n (i := 1) (pc := 1) C rfl rfl dX7_just_1 ?_
  refine z_iconst (pc := 2) C dX7_just_2 ?_
  refine z_iload_n (i := 2) (pc := 3) C rfl rfl dX7_just_3 ?_
  refine z_iload_n (i := 3) (pc := 4) C rfl rfl dX7_just_4 ?_
  refine z_bipush (pc := 5) C (by decide +kernel) dX7_just_5 ?_
  refine z_callVi (pc := 7) C (c_X7_canRuin (p := 0) hM hPt hbk hpur (by omega) hbr hnr (by omega)) k_X7_128 zy_X7_canRuin rfl rfl hM rfl rfl ⟨(Nat.le_of_ble_eq_true rfl), (Nat.le_of_ble_eq_true rfl)⟩ (Nat.le_of_ble_eq_true rfl) dX7_just_7 ⟨rfl, rfl⟩ ⟨(Nat.le_of_ble_eq_true rfl), (Nat.le_of_ble_eq_true rfl)⟩ (fun rv ω' hp => ?_)
  obtain ⟨hw', hcr⟩ := hp
  rw [hw']
  clear hw'
  have hrr : rv = 0 ∨ rv = 1 := by rcases hcr with h | h <;> omega
  refine z_if_eq (tgt := 24) (pc := 10) C dX7_just_10 (by decide) (fun h10 => ?_) (fun h10 => ?_)
  · have hcn : ¬ ((0 ≤ pu ∧ pu ≤ 100) ∧ (0 ≤ (0 : Int) ∧ (0 : Int) ≤ 20) ∧ zRt bk b ∧ (1 ≤ n ∧ n ≤ 12)) := by rcases hcr with h | h; (· omega); (· exact h.1)
    refine z_iconst (pc := 24) C dX7_just_24 ?_
    exact z_iret (pc := 25) C E dX7_just_25 ⟨_, rfl, ⟨zKp.rf, hR0, Or.inr ⟨by first | exact (fun h => hcn ⟨h.2.1, by omega, h.1, h.2.2.1⟩) | exact (fun h => by have := h.2.2.2; omega), rfl⟩⟩⟩
  · have hcy : ((0 ≤ pu ∧ pu ≤ 100) ∧ (0 ≤ (0 : Int) ∧ (0 : Int) ≤ 20) ∧ zRt bk b ∧ (1 ≤ n ∧ n ≤ 12)) := by rcases hcr with h | h; (· exact h.1); (· omega)
    refine z_iload (i := 4) (pc := 13) C rfl dX7_just_13 ?_
    refine z_iconst (pc := 15) C dX7_just_15 ?_
    refine z_ldc (a := 1000000) (pc := 16) C (by decide +kernel) q_X7_150 dX7_just_16 ?_
    refine z_callSi (pc := 18) C (c_X7_in) k_X7_80 zy_X7_in.2 rfl rfl ⟨(Nat.le_of_ble_eq_true rfl), (Nat.le_of_ble_eq_true rfl)⟩ (Nat.le_of_ble_eq_true rfl) dX7_just_18 ⟨rfl, rfl⟩ ⟨(Nat.le_of_ble_eq_true rfl), (Nat.le_of_ble_eq_true rfl)⟩ (fun rv ω' hp => ?_)
    obtain ⟨hw', hi⟩ := hp
    rw [hw']
    clear hw'
    refine z_if_ne (tgt := 26) (pc := 21) C dX7_just_21 (by decide) (fun h21 => ?_) (fun h21 => ?_)
    · refine z_iconst (pc := 26) C dX7_just_26 ?_
      refine z_istore (i := 5) (lv' := [_, _, _, _, _, _]) (pc := 27) C (by decide) rfl rfl dX7_just_27 ?_
      obtain ⟨hpu0, hpp0, hyes, hnn0⟩ := id hcy
      obtain ⟨pk, rfl⟩ := Int.eq_ofNat_of_zero_le hpu0.1
      obtain ⟨nk, rfl⟩ := Int.eq_ofNat_of_zero_le (show 0 ≤ n by omega)
      exact lp_X7_just C E hyes (by omega) (by omega) (by omega) 21 0 ω rfl zKp.rf hR0 (fun p p0 p1 => by omega)
    · refine z_iconst (pc := 24) C dX7_just_24 ?_
      exact z_iret (pc := 25) C E dX7_just_25 ⟨_, rfl, ⟨zKp.rf, hR0, Or.inr ⟨by first | exact (fun h => hcn ⟨h.2.1, by omega, h.1, h.2.2.1⟩) | exact (fun h => by have := h.2.2.2; omega), rfl⟩⟩⟩
