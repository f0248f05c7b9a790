theorem zNm_1 {g : Int → Int} (h0 : zNm g 0) : zNm (zup g 0 1) 1 := by
  have h1 := h0.up (m := 0) (by decide) 0 (by omega) (by omega)
  refine ⟨fun k a b => ?_, ?_⟩
  · by_cases e : k = 0
    · rw [e, zup_s]; decide
    · rw [zup_n e]; exact h0.1 k a b
  · have h2 := zv_u1 (B := 1000) (g := g) (i := 0) (v := 1) (n := 72) (by omega)
    have h3 : g ((0 : Nat) : Int) = 0 := h1
    rw [h3, h0.2] at h2
    exact h2
set_option maxRecDepth 100000 in
set_option maxHeartbeats 4000000 in
theorem c_X7_runs {l0 : Launch} {X : zX} {m bh rt pu n : Nat} {p b : Int} {bk : Nat → Int → Int} {ω : zWd} (hM0 : ω.1 m = some (zOb 7 (zMf m bh rt 72))) (hPt0 : zMx X ω (m + 1) 8 21 bk) (hbk : ∀ k : Nat, k < 8 → zBk (bk k)) (hy : zRt bk b) (hp0 : 0 ≤ p ∧ p ≤ 20) (hpu : pu ≤ 100) (hn : 1 ≤ n ∧ n ≤ 40) (hAl0 : zMs X ω (m + 77) 901) (hNx0 : zMs X ω (m + 979) 901) (hRa0 : zMs X ω (m + 1881) 41) (hRb0 : zMs X ω (m + 1923) 21) : zMet l0 yX7_runs cX7_runs 11 none rmX7_runs X [.ref m, .int (zI (pu : Int)), .int (zI p), .int (zI b), .int (zI (n : Int))] ω (zpv (fun w => zOut (m + 77) (m + 1945) ω w ∧ zMs X w (m + 77) 901 ∧ zMs X w (m + 979) 901 ∧ zMv X w (m + 1881) 41 (fun j => if 1 ≤ j ∧ j ≤ n then zFt (zwt (bk b.toNat)) p (zIt (zwt (bk b.toNat)) p (zdl pu 1) (j - 1)) * 1000 ^ (n - j) else 0) ∧ zMv X w (m + 1923) 21 (fun k => if k = 0 then 0 else zDk (zwt (bk b.toNat)) p (zdl pu 1) (k : Int) n))) := by
  refine zMet.intro (by decide) (Nat.le_of_ble_eq_true rfl) ?_
  intro Γ C E N
  show Zw Γ ω 0 0 0 [some _, some _, some _, some _, some _, none, none, none, none, none, none] []
  obtain ⟨b0, b1, bs⟩ := id hy
  refine z_iconst (pc := 0) C dX7_runs_0 ?_
  refine z_istore (i := 5) (lv' := [_, _, _, _, _, _, _, _, _, _, _]) (pc := 1) C (by decide) rfl rfl dX7_runs_1 ?_
  refine lz_runs1 C hM0 ?_ 901 0 ω rfl zOut.rf (hAl0.w _)
  intro ω1 ho1 hw1
  refine z_iconst (pc := 27) C dX7_runs_27 ?_
  refine z_istore (i := 5) (lv' := [_, _, _, _, _, _, _, _, _, _, _]) (pc := 28) C (by decide) rfl rfl dX7_runs_28 ?_
  refine lz_runs2 C ((ho1.1 m (by omega)).trans hM0) ?_ 41 0 ω1 rfl zOut.rf ((hRa0.kp (fun b _ _ => ho1.1 b (by omega))).w _)
  intro ω2 ho2 hw2
  refine z_iconst (pc := 53) C dX7_runs_53 ?_
  refine z_istore (i := 5) (lv' := [_, _, _, _, _, _, _, _, _, _, _]) (pc := 54) C (by decide) rfl rfl dX7_runs_54 ?_
  refine lz_runs3 C ((ho2.1 m (by omega)).trans ((ho1.1 m (by omega)).trans hM0)) ?_ 21 0 ω2 rfl zOut.rf ((hRb0.kp (fun b _ _ => (ho2.1 b (by omega)).trans (ho1.1 b (by omega)))).w _)
  intro ω3 ho3 hw3
  have hM := (ho3.1 m (by omega)).trans ((ho2.1 m (by omega)).trans ((ho1.1 m (by omega)).trans hM0))
  have hAl := hw1.v.kp (ω2 := ω3) (fun b _ _ => (ho3.1 b (by omega)).trans (ho2.1 b (by omega)))
  have hRa := hw2.v.kp (ω2 := ω3) (fun b _ _ => ho3.1 b (by omega))
  have hRb := hw3.v
  have hNx := hNx0.kp (ω2 := ω3) (fun b _ _ => (ho3.1 b (by omega)).trans ((ho2.1 b (by omega)).trans (ho1.1 b (by omega))))
  have hAl1 := hAl
  obtain ⟨fA, hA1, hA2⟩ := hAl
  refine z_aload_n (i := 0) (pc := 79) C rfl rfl dX7_runs_79 ?_
  refine g_X7_34 (pc := 80) C hM rfl dX7_runs_80 ?_
  refine z_iload_n (i := 1) (pc := 83) C rfl rfl dX7_runs_83 ?_
  refine z_aaload (pc := 84) C hA1.1 rfl dX7_runs_84 ?_
  refine z_iconst (pc := 85) C dX7_runs_85 ?_
  refine z_iconst (pc := 86) C dX7_runs_86 ?_
  refine z_iastore (pc := 87) C (hA1.2 pu (by omega)) dX7_runs_87 ?_
  refine z_aload_n (i := 0) (pc := 88) C rfl rfl dX7_runs_88 ?_
  refine z_iload (i := 4) (pc := 89) C rfl dX7_runs_89 ?_
  refine z_iconst (pc := 91) C dX7_runs_91 ?_
  refine z_iadd (pc := 92) C dX7_runs_92 ?_
  rw [show (n : Int) + 2 = ((n + 2 : Nat) : Int) by omega]
  refine p_X7_27 (pc := 93) C (zU_n' (by omega) hM) (Nat.le_of_ble_eq_true rfl) dX7_runs_93 ?_
  refine z_iload_n (i := 1) (pc := 96) C rfl rfl dX7_runs_96 ?_
  refine z_istore (i := 5) (lv' := [_, _, _, _, _, _, _, _, _, _, _]) (pc := 97) C (by decide) rfl rfl dX7_runs_97 ?_
  refine z_iconst (pc := 99) C dX7_runs_99 ?_
  refine z_istore (i := 6) (lv' := [_, _, _, _, _, _, _, _, _, _, _]) (pc := 100) C (by decide) rfl rfl dX7_runs_100 ?_
  have hn1 := zNm_1 (hA2 pu (by omega))
  have hk : zFx m ω ω3 := ⟨fun b hb => (ho3.1 b (by omega)).trans ((ho2.1 b (by omega)).trans (ho1.1 b (by omega))), ho3.2.trans (ho2.2.trans ho1.2)⟩
  have h := lp_runs4 (pu := pu) (ω0 := ω) C E hM0 hPt0 hbk hy hp0 hpu hn n 0 (zU (zU ω3 (m + 77 + 1 + pu) (zAI X 72 (zup (fA pu) 0 1))) m (zOb 7 (zMf m bh rt (n + 2)))) none none none none (fun _ => 0) (by omega) ⟨(hk.u (by omega)).u (by omega), zU_s _ _ _, ((hAl1.u (by omega) hn1).kp (fun b _ _ => zU_n (by omega))).c (fun u hu => by
    by_cases e : u = pu
    · rw [e, va_up_self]; exact (if_pos rfl).symm
    · rw [va_up_ne _ _ e]; exact (if_neg (by omega)).symm), (hNx.kp (fun b _ _ => (zU_n (by omega)).trans (zU_n (by omega)))).w _, (hRa.kp (fun b _ _ => (zU_n (by omega)).trans (zU_n (by omega)))).c (fun i hi => (if_neg (by omega)).symm), (hRb.kp (fun b _ _ => (zU_n (by omega)).trans (zU_n (by omega)))).c (fun i hi => by
    (try dsimp only)
    split <;> rfl)⟩
  rw [show (pu : Int) + p * ((0 : Nat) : Int) = pu by simp] at h
  exact h
set_option maxRecDepth 100000 in
set_option maxHeartbeats 4000000 in
theorem c_X7_canRuin {l0 : Launch} {X : zX} {ω : zWd} {m bh rt sp : Nat} {bk : Nat → Int → Int} {pu p b n mx : Int} (hM : ω.1 m = some (zOb 7 (zMf m bh rt sp))) (hPt : zMx X ω (m + 1) 8 21 bk) (hbk : ∀ k : Nat, k < 8 → zBk (bk k)) (hpur : -2147483648 ≤ pu ∧ pu < 2147483648) (hpr : -2147483648 ≤ p ∧ p < 2147483648) (hbr : -2147483648 ≤ b ∧ b < 2147483648) (hnr : -2147483648 ≤ n ∧ n < 2147483648) (hmxr : -2147483648 ≤ mx ∧ mx < 2147483648) : zMet l0 yX7_canRuin cX7_canRuin 6 (some .boolean) rmX7_canRuin X [.ref m, .int (zI pu), .int (zI p), .int (zI b), .int (zI n), .int (zI mx)] ω (zpi (fun r w => w = ω ∧ ((((0 ≤ pu ∧ pu ≤ 100) ∧ (0 ≤ p ∧ p ≤ 20) ∧ zRt bk b ∧ (1 ≤ n ∧ n ≤ mx)) ∧ r = 1) ∨ (¬ ((0 ≤ pu ∧ pu ≤ 100) ∧ (0 ≤ p ∧ p ≤ 20) ∧ zRt bk b ∧ (1 ≤ n ∧ n ≤ mx)) ∧ r = 0)))) := by
  refine zMet.intro (by decide) (Nat.le_of_ble_eq_true rfl) ?_
  intro Γ C E N
  show Zw Γ ω 0 0 0 [some _, some _, some _, some _, some _, some _] []
  refine z_iload_n (i := 1) (pc := 0) C rfl rfl dX7_canRuin_0 ?_
  refine z_iconst (pc := 1) C dX7_canRuin_1 ?_
  refine z_bipush (pc := 2) C (by decide +kernel) dX7_canRuin_2 ?_
  refine z_callSi (pc := 4) C (c_X7_in) k_X7_80 zy_X7_in.2 rfl rfl ⟨(Nat.le_of_ble_eq_true rfl), (Nat.le_of_ble_eq_true rfl)⟩ (Nat.le_of_ble_eq_true rfl) dX7_canRuin_4 ⟨rfl, rfl⟩ ⟨(Nat.le_of_ble_eq_true rfl), (Nat.le_of_ble_eq_true rfl)⟩ (fun rv ω' hp => ?_)
  obtain ⟨hw', hi⟩ := hp
  rw [hw']
  clear hw'
  refine z_if_eq (tgt := 43) (pc := 7) C dX7_canRuin_7 (by decide) (fun h7 => ?_) (fun h7 => ?_)
  · refine z_iconst (pc := 43) C dX7_canRuin_43 ?_
    exact z_zret (pc := 44) C E (by decide +kernel) dX7_canRuin_44 ⟨_, rfl, ⟨rfl, by first | exact Or.inl ⟨⟨by omega, by omega, hyes, by omega⟩, rfl⟩ | exact Or.inr ⟨fun h => hno h.2.2.1, rfl⟩ | exact Or.inr ⟨fun h => by have h1 := h.1; have h2 := h.2.1; have h3 := h.2.2.2; omega, rfl⟩⟩⟩
  · refine z_iload_n (i := 2) (pc := 10) C rfl rfl dX7_canRuin_10 ?_
    refine z_iconst (pc := 11) C dX7_canRuin_11 ?_
    refine z_bipush (pc := 12) C (by decide +kernel) dX7_canRuin_12 ?_
    refine z_callSi (pc := 14) C (c_X7_in) k_X7_80 zy_X7_in.2 rfl rfl ⟨(Nat.le_of_ble_eq_true rfl), (Nat.le_of_ble_eq_true rfl)⟩ (Nat.le_of_ble_eq_true rfl) dX7_canRuin_14 ⟨rfl, rfl⟩ ⟨(Nat.le_of_ble_eq_true rfl), (Nat.le_of_ble_eq_true rfl)⟩ (fun rv ω' hp => ?_)
    obtain ⟨hw', hi2⟩ := hp
    rw [hw']
    clear hw'
    refine z_if_eq (tgt := 43) (pc := 17) C dX7_canRuin_17 (by decide) (fun h17 => ?_) (fun h17 => ?_)
    · refine z_iconst (pc := 43) C dX7_canRuin_43 ?_
      exact z_zret (pc := 44) C E (by decide +kernel) dX7_canRuin_44 ⟨_, rfl, ⟨rfl, by first | exact Or.inl ⟨⟨by omega, by omega, hyes, by omega⟩, rfl⟩ | exact Or.inr ⟨fun h => hno h.2.2.1, rfl⟩ | exact Or.inr ⟨fun h => by have h1 := h.1; have h2 := h.2.1; have h3 := h.2.2.2; omega, rfl⟩⟩⟩
    · refine z_aload_n (i := 0) (pc := 20) C rfl rfl dX7_canRuin_20 ?_
      refine z_iload_n (i := 3) (pc := 21) C rfl rfl dX7_canRuin_21 ?_
      refine z_callVi (pc := 22) C (c_X7_isRight hM hPt hbk hbr) k_X7_88 zy_X7_isRight rfl rfl hM rfl rfl ⟨(Nat.le_of_ble_eq_true rfl), (Nat.le_of_ble_eq_true rfl)⟩ (Nat.le_of_ble_eq_true rfl) dX7_canRuin_22 ⟨rfl, rfl⟩ ⟨(Nat.le_of_ble_eq_true rfl), (Nat.le_of_ble_eq_true rfl)⟩ (fun rv ω' hp => ?_)
      obtain ⟨hw', hp⟩ := hp
      rw [hw']
      clear hw'
      have hrr : rv = 0 ∨ rv = 1 := by rcases hp with h | h <;> omega
      refine z_if_eq (tgt := 43) (pc := 25) C dX7_canRuin_25 (by decide) (fun h25 => ?_) (fun h25 => ?_)
      · have hno : ¬ zRt bk b := by rcases hp with h | h; (· omega); (· exact h.1)
        refine z_iconst (pc := 43) C dX7_canRuin_43 ?_
        exact z_zret (pc := 44) C E (by decide +kernel) dX7_canRuin_44 ⟨_, rfl, ⟨rfl, by first | exact Or.inl ⟨⟨by omega, by omega, hyes, by omega⟩, rfl⟩ | exact Or.inr ⟨fun h => hno h.2.2.1, rfl⟩ | exact Or.inr ⟨fun h => by have h1 := h.1; have h2 := h.2.1; have h3 := h.2.2.2; omega, rfl⟩⟩⟩
      · have hyes : zRt bk b := by rcases hp with h | h; (· exact h.1); (· omega)
        obtain ⟨b0, b1, bs⟩ := id hyes
        refine z_iload (i := 4) (pc := 28) C rfl dX7_canRuin_28 ?_
        refine z_iconst (pc := 30) C dX7_canRuin_30 ?_
        refine z_iload (i := 5) (pc := 31) C rfl dX7_canRuin_31 ?_
        refine z_callSi (pc := 33) C (c_X7_in) k_X7_80 zy_X7_in.2 rfl rfl ⟨(Nat.le_of_ble_eq_true rfl), (Nat.le_of_ble_eq_true rfl)⟩ (Nat.le_of_ble_eq_true rfl) dX7_canRuin_33 ⟨rfl, rfl⟩ ⟨(Nat.le_of_ble_eq_true rfl), (Nat.le_of_ble_eq_true rfl)⟩ (fun rv ω' hp => ?_)
        obtain ⟨hw', hi5⟩ := hp
        rw [hw']
        clear hw'
        refine z_if_eq (tgt := 43) (pc := 36) C dX7_canRuin_36 (by decide) (fun h36 => ?_) (fun h36 => ?_)
        · refine z_iconst (pc := 43) C dX7_canRuin_43 ?_
          exact z_zret (pc := 44) C E (by decide +kernel) dX7_canRuin_44 ⟨_, rfl, ⟨rfl, by first | exact Or.inl ⟨⟨by omega, by omega, hyes, by omega⟩, rfl⟩ | exact Or.inr ⟨fun h => hno h.2.2.1, rfl⟩ | exact Or.inr ⟨fun h => by have h1 := h.1; have h2 := h.2.1; have h3 := h.2.2.2; omega, rfl⟩⟩⟩
        · refine z_iconst (pc := 39) C dX7_canRuin_39 ?_
          refine z_goto (tgt := 44) (pc := 40) C dX7_canRuin_40 (by decide) ?_
          exact z_zret (pc := 44) C E (by decide +kernel) dX7_canRuin_44 ⟨_, rfl, ⟨rfl, by first | exact Or.inl ⟨⟨by omega, by omega, hyes, by omega⟩, rfl⟩ | exact Or.inr ⟨fun h => hno h.2.2.1, rfl⟩ | exact Or.inr ⟨fun h => by have h1 := h.1; have h2 := h.2.1; have h3 := h.2.2.2; omega, rfl⟩⟩⟩
set_option maxRecDepth 100000 in
set_option maxHeartbeats 4000000 in
theorem lp_X7_all {Γ : zG} {l0 : Launch} {X : zX} {m bh rt n a : Nat} {Ra : Nat → Int} {ω : zWd} (C : Zc Γ l0 X rmX7_all 4 cX7_all RX7) (E : Ze Γ (zpv (fun w => ∃ g2, w = zU ω a (zAI X 72 g2) ∧ zNm g2 (zs (fun i => Ra (i.toNat + 1)) n))) 0 0 none) (hM : ω.1 m = some (zOb 7 (zMf m bh rt 72))) (hRa : zMv X ω (m + 1881) 41 Ra) (hn : n ≤ 40) (ha0 : a < m + 1881 ∨ m + 1923 ≤ a) (ha1 : a ≠ m) (hR0 : ∀ t : Nat, t ≤ n → 0 ≤ zs (fun i => Ra (i.toNat + 1)) t ∧ zs (fun i => Ra (i.toNat + 1)) t < 1000 ^ 72) : ∀ (j i : Nat) (g : Int → Int), i + j = n → zNm g (zs (fun i => Ra (i.toNat + 1)) i) → Zw Γ (zU ω a (zAI X 72 g)) 0 0 6 [some (.ref m), some (.int (zI (n : Int))), some (.ref a), some (.int (zI ((i : Int) + 1)))] [] := by
  have hRa1 := hRa
  obtain ⟨fR, hR1, hR2⟩ := hRa
  intro j
  induction j with
  | zero =>
    intro i g hj hg
    have e1 : i = n := by omega
    subst e1
    refine z_iload_n (i := 3) (pc := 6) C rfl rfl dX7_all_6 ?_
    refine z_iload_n (i := 1) (pc := 7) C rfl rfl dX7_all_7 ?_
    refine z_icmp_gt (tgt := 30) (pc := 8) C dX7_all_8 (by decide) (fun h8 => ?_) (fun h8 => absurd h8 (by omega))
    exact z_vret (pc := 30) C E dX7_all_30 ⟨rfl, ⟨g, rfl, hg⟩⟩
  | succ j ih =>
    intro i g hj hg
    have hb1 := hR0 (i + 1) (by omega)
    have es : zs (fun i => Ra (i.toNat + 1)) (i + 1) = zs (fun i => Ra (i.toNat + 1)) i + Ra (((i : Int)).toNat + 1) := rfl
    rw [show ((i : Int)).toNat = i by omega] at es
    refine z_iload_n (i := 3) (pc := 6) C rfl rfl dX7_all_6 ?_
    refine z_iload_n (i := 1) (pc := 7) C rfl rfl dX7_all_7 ?_
    refine z_icmp_gt (tgt := 30) (pc := 8) C dX7_all_8 (by decide) (fun h8 => absurd h8 (by omega)) (fun h8 => ?_)
    refine z_aload_n (i := 0) (pc := 11) C rfl rfl dX7_all_11 ?_
    refine z_aload_n (i := 2) (pc := 12) C rfl rfl dX7_all_12 ?_
    refine z_aload_n (i := 0) (pc := 13) C rfl rfl dX7_all_13 ?_
    refine g_X7_40 (pc := 14) C (zU_n' (Ne.symm ha1) hM) rfl dX7_all_14 ?_
    refine z_iload_n (i := 3) (pc := 17) C rfl rfl dX7_all_17 ?_
    refine z_aaload (pc := 18) C (zU_n' (by omega) hR1.1) rfl dX7_all_18 ?_
    refine z_iconst (pc := 19) C dX7_all_19 ?_
    refine z_iconst (pc := 20) C dX7_all_20 ?_
    refine z_callVv (pc := 21) C (c_X7_add (up := 0) (q := 1) (zU_n' (Ne.symm ha1) hM) rfl (zU_s _ _ _) hg (zU_n' (by omega) (hR1.2 (i + 1) (by omega))) (hR2 (i + 1) (by omega)) (by omega) (by omega) (by omega) (by rw [Int.pow_zero, Int.mul_one, Int.one_mul]; omega)) k_X7_120 zy_X7_add rfl rfl (zU_n' (Ne.symm ha1) hM) rfl rfl ⟨(Nat.le_of_ble_eq_true rfl), (Nat.le_of_ble_eq_true rfl)⟩ (Nat.le_of_ble_eq_true rfl) dX7_all_21 ⟨rfl, rfl⟩ ⟨(Nat.le_of_ble_eq_true rfl), (Nat.le_of_ble_eq_true rfl)⟩ (fun ω' hp => ?_)
    obtain ⟨g2, rfl, hg2⟩ := hp
    rw [zU_u]
    rw [Int.pow_zero, Int.mul_one, Int.one_mul, ← es] at hg2
    refine z_iinc (i := 3) (lv' := [_, _, _, _]) (pc := 24) C rfl (by decide) rfl rfl dX7_all_24 ?_
    refine z_goto (tgt := 6) (pc := 27) C dX7_all_27 (by decide) ?_
    exact ih (i + 1) _ (by omega) hg2
set_option maxRecDepth 100000 in
set_option maxHeartbeats 4000000 in
theorem c_X7_all {l0 : Launch} {X : zX} {m bh rt n a : Nat} {Ra : Nat → Int} {ω : zWd} {f : Int → Int} (hM : ω.1 m = some (zOb 7 (zMf m bh rt 72))) (hRa : zMv X ω (m + 1881) 41 Ra) (hn : n ≤ 40) (ha0 : a < m + 1881 ∨ m + 1923 ≤ a) (ha1 : a ≠ m) (hR0 : ∀ t : Nat, t ≤ n → 0 ≤ zs (fun i => Ra (i.toNat + 1)) t ∧ zs (fun i => Ra (i.toNat + 1)) t < 1000 ^ 72) (ha : ω.1 a = some (zAI X 72 f)) : zMet l0 yX7_all cX7_all 4 none rmX7_all X [.ref m, .int (zI (n : Int)), .ref a] ω (zpv (fun w => ∃ g2, w = zU ω a (zAI X 72 g2) ∧ zNm g2 (zs (fun i => Ra (i.toNat + 1)) n))) := by
  refine zMet.intro (by decide) (Nat.le_of_ble_eq_true rfl) ?_
  intro Γ C E N
  show Zw Γ ω 0 0 0 [some _, some _, some _, none] []
  refine z_aload_n (i := 2) (pc := 0) C rfl rfl dX7_all_0 ?_
  refine z_callSv (pc := 1) C (c_X7_zero ha) k_X7_112 zy_X7_zero.2 rfl rfl ⟨(Nat.le_of_ble_eq_true rfl), (Nat.le_of_ble_eq_true rfl)⟩ (Nat.le_of_ble_eq_true rfl) dX7_all_1 ⟨rfl, rfl⟩ ⟨(Nat.le_of_ble_eq_true rfl), (Nat.le_of_ble_eq_true rfl)⟩ (fun ω' hp => ?_)
  obtain ⟨g2, rfl, hg2⟩ := hp
  refine z_iconst (pc := 4) C dX7_all_4 ?_
  refine z_istore_n (i := 3) (lv' := [_, _, _, _]) (pc := 5) C rfl (by decide) rfl rfl dX7_all_5 ?_
  exact lp_X7_all C E hM hRa hn ha0 ha1 hR0 n 0 g2 (by omega) hg2
