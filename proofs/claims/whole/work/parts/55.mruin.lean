theorem zSm_sum {wt Av : Int → Int} {p : Int} : ∀ n : Nat, zSm wt p 1000 Av n = zs (fun i => zFt wt p (zIt wt p Av i.toNat) * 1000 ^ (n - 1 - i.toNat)) n
  | 0 => rfl
  | n + 1 => by
    show zSm wt p 1000 Av n * 1000 + zFt wt p (zIt wt p Av n) = zs _ n + zFt wt p (zIt wt p Av ((n : Int)).toNat) * 1000 ^ (n + 1 - 1 - ((n : Int)).toNat)
    rw [zSm_sum n, show ((n : Int)).toNat = n by omega, show n + 1 - 1 - n = 0 by omega, Int.pow_zero, Int.mul_one, Int.mul_comm _ 1000, ← zs_mulc]
    refine congrArg (fun z => z + zFt wt p (zIt wt p Av n)) (zs_c (fun i a b => ?_))
    (try dsimp only)
    rw [show n + 1 - 1 - i.toNat = n - 1 - i.toNat + 1 by omega, Int.pow_succ]
    grind
theorem zRa_b {wt Av : Int → Int} {p : Int} {n : Nat} (hw : ∀ s : Int, 0 ≤ s → s < 41 → 0 ≤ wt s) (hs : zs wt 41 = 10 ^ 3) (hA : ∀ v, 0 ≤ Av v ∧ Av v ≤ 10 ^ 0) (hn : n ≤ 40) (t : Nat) (ht : t ≤ n) : 0 ≤ zs (fun i => (fun j : Nat => if 1 ≤ j ∧ j ≤ n then zFt wt p (zIt wt p Av (j - 1)) * 1000 ^ (n - j) else 0) (i.toNat + 1)) t ∧ zs (fun i => (fun j : Nat => if 1 ≤ j ∧ j ≤ n then zFt wt p (zIt wt p Av (j - 1)) * 1000 ^ (n - j) else 0) (i.toNat + 1)) t < 1000 ^ 72 := by
  have h := zs_b (f := fun i => (fun j : Nat => if 1 ≤ j ∧ j ≤ n then zFt wt p (zIt wt p Av (j - 1)) * 1000 ^ (n - j) else 0) (i.toNat + 1)) (M := 41 * 1000 ^ 40) (n := t) (fun k a b => by
    (try dsimp only)
    rw [if_pos (by omega), show k.toNat + 1 - 1 = k.toNat by omega, show n - (k.toNat + 1) = n - 1 - k.toNat by omega]
    have h1 := zFt_b (p := p) hw hs (zIt_b (p := p) hw hs hA k.toNat) 41
    have h2 := zbd_t (n := n) (τ := k.toNat) (x := 10 ^ (0 + k.toNat * 3 + 3)) ⟨Int.le_of_lt (zpw (by decide) _), Int.le_refl _⟩ (by omega)
    have hP : (0 : Int) < 1000 ^ (n - 1 - k.toNat) := zpw (by decide) _
    have h3 : zFt wt p (zIt wt p Av k.toNat) * 1000 ^ (n - 1 - k.toNat) ≤ 41 * 10 ^ (0 + k.toNat * 3 + 3) * 1000 ^ (n - 1 - k.toNat) := Int.mul_le_mul_of_nonneg_right h1.2 (by omega)
    rw [Int.mul_assoc] at h3
    have h4 : (1000 : Int) ^ n ≤ 1000 ^ 40 := zk_mono hn
    exact ⟨Int.mul_nonneg h1.1 (by omega), by omega⟩)
  have h5 : (t : Int) * (41 * 1000 ^ 40) ≤ 40 * (41 * 1000 ^ 40) := Int.mul_le_mul_of_nonneg_right (by omega) (by decide)
  have h6 : (40 : Int) * (41 * 1000 ^ 40) < 1000 ^ 72 := by decide
  omega
theorem zRa_sum {wt Av : Int → Int} {p : Int} (n : Nat) : zs (fun i => (fun j : Nat => if 1 ≤ j ∧ j ≤ n then zFt wt p (zIt wt p Av (j - 1)) * 1000 ^ (n - j) else 0) (i.toNat + 1)) n = zSm wt p 1000 Av n := by
  rw [zSm_sum]
  refine zs_c (fun i a b => ?_)
  (try dsimp only)
  rw [if_pos (by omega), show i.toNat + 1 - 1 = i.toNat by omega, show n - (i.toNat + 1) = n - 1 - i.toNat by omega]
set_option maxRecDepth 100000 in
set_option maxHeartbeats 4000000 in
theorem lc_ruin1 {Γ : zG} {ω1 : zWd} {l0 : Launch} {X : zX} {m bh rt sp pu n : Nat} {p b : Int} {V : Nat → Int} (C : Zc Γ l0 X rmX7_ruin 6 cX7_ruin RX7) (hM1 : ω1.1 m = some (zOb 7 (zMf m bh rt sp))) (hV : zMv X ω1 (m + 1881) 41 V) (K : ∀ ω : zWd, zOut (m + 12) (m + 53) ω1 ω → zMw X ω (m + 11) 41 41 V → Zw Γ ω 0 0 58 [some (.ref m), some (.int (zI (pu : Int))), some (.int (zI p)), some (.int (zI b)), some (.int (zI (n : Int))), some (.int (zI ((41 : Nat) : Int)))] []) : ∀ (j i : Nat) (ω : zWd), i + j = 41 → zOut (m + 12) (m + 53) ω1 ω → zMw X ω (m + 11) 41 i V → Zw Γ ω 0 0 28 [some (.ref m), some (.int (zI (pu : Int))), some (.int (zI p)), some (.int (zI b)), some (.int (zI (n : Int))), some (.int (zI (i : Int)))] [] := by
  intro j
  induction j with
  | zero =>
    intro i ω hj ho hw
    have e1 : i = 41 := by omega
    subst e1
    have hK := K ω ho hw
    refine z_iload (i := 5) (pc := 28) C rfl dX7_ruin_28 ?_
    refine z_bipush (pc := 30) C (by decide +kernel) dX7_ruin_30 ?_
    refine z_icmp_gt (tgt := 58) (pc := 32) C dX7_ruin_32 (by decide) (fun h32 => ?_) (fun h32 => absurd h32 (by omega))
    exact hK
  | succ j ih =>
    intro i ω hj ho hw
    have hM := (ho.1 m (by omega)).trans hM1
    have hw0 := hw
    obtain ⟨fT, hT1, hT2⟩ := hw
    obtain ⟨fV, hV1, hV2⟩ := hV.kp (ω2 := ω) (fun b _ _ => ho.1 b (by omega))
    refine z_iload (i := 5) (pc := 28) C rfl dX7_ruin_28 ?_
    refine z_bipush (pc := 30) C (by decide +kernel) dX7_ruin_30 ?_
    refine z_icmp_gt (tgt := 58) (pc := 32) C dX7_ruin_32 (by decide) (fun h32 => absurd h32 (by omega)) (fun h32 => ?_)
    refine z_aload_n (i := 0) (pc := 35) C rfl rfl dX7_ruin_35 ?_
    refine g_X7_40 (pc := 36) C hM rfl dX7_ruin_36 ?_
    refine z_iload (i := 5) (pc := 39) C rfl dX7_ruin_39 ?_
    refine z_aaload (pc := 41) C hV1.1 rfl dX7_ruin_41 ?_
    refine z_aload_n (i := 0) (pc := 42) C rfl rfl dX7_ruin_42 ?_
    refine g_X7_18 (pc := 43) C hM rfl dX7_ruin_43 ?_
    refine z_iload (i := 5) (pc := 46) C rfl dX7_ruin_46 ?_
    refine z_aaload (pc := 48) C hT1.1 rfl dX7_ruin_48 ?_
    refine z_callSv (pc := 49) C (c_X7_copy (hV1.2 i (by omega)) (hV2 i (by omega)) (by omega) (hT1.2 i (by omega))) k_X7_124 zy_X7_copy.2 rfl rfl ⟨(Nat.le_of_ble_eq_true rfl), (Nat.le_of_ble_eq_true rfl)⟩ (Nat.le_of_ble_eq_true rfl) dX7_ruin_49 ⟨rfl, rfl⟩ ⟨(Nat.le_of_ble_eq_true rfl), (Nat.le_of_ble_eq_true rfl)⟩ (fun ω' hp => ?_)
    obtain ⟨g2, rfl, hg2⟩ := hp
    refine z_iinc (i := 5) (lv' := [_, _, _, _, _, _]) (pc := 52) C rfl (by decide) rfl rfl dX7_ruin_52 ?_
    refine z_goto (tgt := 28) (pc := 55) C dX7_ruin_55 (by decide) ?_
    exact ih (i + 1) _ (by omega) (ho.u (by omega) (by omega)) (hw0.x (by omega) hg2)
set_option maxRecDepth 100000 in
set_option maxHeartbeats 4000000 in
theorem lc_ruin2 {Γ : zG} {ω1 : zWd} {l0 : Launch} {X : zX} {m bh rt sp pu n : Nat} {p b : Int} {V : Nat → Int} (C : Zc Γ l0 X rmX7_ruin 6 cX7_ruin RX7) (hM1 : ω1.1 m = some (zOb 7 (zMf m bh rt sp))) (hV : zMv X ω1 (m + 1923) 21 V) (K : ∀ ω : zWd, zOut (m + 54) (m + 75) ω1 ω → zMw X ω (m + 53) 21 21 V → Zw Γ ω 0 0 91 [some (.ref m), some (.int (zI (pu : Int))), some (.int (zI p)), some (.int (zI b)), some (.int (zI (n : Int))), some (.int (zI ((21 : Nat) : Int)))] []) : ∀ (j i : Nat) (ω : zWd), i + j = 21 → zOut (m + 54) (m + 75) ω1 ω → zMw X ω (m + 53) 21 i V → Zw Γ ω 0 0 61 [some (.ref m), some (.int (zI (pu : Int))), some (.int (zI p)), some (.int (zI b)), some (.int (zI (n : Int))), some (.int (zI (i : Int)))] [] := by
  intro j
  induction j with
  | zero =>
    intro i ω hj ho hw
    have e1 : i = 21 := by omega
    subst e1
    have hK := K ω ho hw
    refine z_iload (i := 5) (pc := 61) C rfl dX7_ruin_61 ?_
    refine z_bipush (pc := 63) C (by decide +kernel) dX7_ruin_63 ?_
    refine z_icmp_ge (tgt := 91) (pc := 65) C dX7_ruin_65 (by decide) (fun h65 => ?_) (fun h65 => absurd h65 (by omega))
    exact hK
  | succ j ih =>
    intro i ω hj ho hw
    have hM := (ho.1 m (by omega)).trans hM1
    have hw0 := hw
    obtain ⟨fT, hT1, hT2⟩ := hw
    obtain ⟨fV, hV1, hV2⟩ := hV.kp (ω2 := ω) (fun b _ _ => ho.1 b (by omega))
    refine z_iload (i := 5) (pc := 61) C rfl dX7_ruin_61 ?_
    refine z_bipush (pc := 63) C (by decide +kernel) dX7_ruin_63 ?_
    refine z_icmp_ge (tgt := 91) (pc := 65) C dX7_ruin_65 (by decide) (fun h65 => absurd h65 (by omega)) (fun h65 => ?_)
    refine z_aload_n (i := 0) (pc := 68) C rfl rfl dX7_ruin_68 ?_
    refine g_X7_43 (pc := 69) C hM rfl dX7_ruin_69 ?_
    refine z_iload (i := 5) (pc := 72) C rfl dX7_ruin_72 ?_
    refine z_aaload (pc := 74) C hV1.1 rfl dX7_ruin_74 ?_
    refine z_aload_n (i := 0) (pc := 75) C rfl rfl dX7_ruin_75 ?_
    refine g_X7_21 (pc := 76) C hM rfl dX7_ruin_76 ?_
    refine z_iload (i := 5) (pc := 79) C rfl dX7_ruin_79 ?_
    refine z_aaload (pc := 81) C hT1.1 rfl dX7_ruin_81 ?_
    refine z_callSv (pc := 82) C (c_X7_copy (hV1.2 i (by omega)) (hV2 i (by omega)) (by omega) (hT1.2 i (by omega))) k_X7_124 zy_X7_copy.2 rfl rfl ⟨(Nat.le_of_ble_eq_true rfl), (Nat.le_of_ble_eq_true rfl)⟩ (Nat.le_of_ble_eq_true rfl) dX7_ruin_82 ⟨rfl, rfl⟩ ⟨(Nat.le_of_ble_eq_true rfl), (Nat.le_of_ble_eq_true rfl)⟩ (fun ω' hp => ?_)
    obtain ⟨g2, rfl, hg2⟩ := hp
    refine z_iinc (i := 5) (lv' := [_, _, _, _, _, _]) (pc := 85) C rfl (by decide) rfl rfl dX7_ruin_85 ?_
    refine z_goto (tgt := 61) (pc := 88) C dX7_ruin_88 (by decide) ?_
    exact ih (i + 1) _ (by omega) (ho.u (by omega) (by omega)) (hw0.x (by omega) hg2)
set_option maxRecDepth 100000 in
set_option maxHeartbeats 4000000 in
theorem c_X7_ruin {l0 : Launch} {X : zX} {ω : zWd} {m : Nat} {bk : Nat → Int → Int} {nv : Int} {bh : Nat} {tv dv : Nat → Int} {rt c : Nat} {pu p b n : Int} (hR : zMD X ω m bk nv bh tv dv rt c) (hpur : -2147483648 ≤ pu ∧ pu < 2147483648) (hpr : -2147483648 ≤ p ∧ p < 2147483648) (hbr : -2147483648 ≤ b ∧ b < 2147483648) (hnr : -2147483648 ≤ n ∧ n < 2147483648) : zMet l0 yX7_ruin cX7_ruin 6 (some .boolean) rmX7_ruin X [.ref m, .int (zI pu), .int (zI p), .int (zI b), .int (zI n)] ω (zpi (fun r w => zKp m ω w ∧ (((zRt bk b ∧ (0 ≤ pu ∧ pu ≤ 100) ∧ (0 ≤ p ∧ p ≤ 20) ∧ (1 ≤ n ∧ n ≤ 40)) ∧ r = 1 ∧ zMD X w m bk (zSm (zwt (bk b.toNat)) p 1000 (zdl pu 1) n.toNat) n.toNat (fun j => if 1 ≤ j ∧ j ≤ n.toNat then zFt (zwt (bk b.toNat)) p (zIt (zwt (bk b.toNat)) p (zdl pu 1) (j - 1)) * 1000 ^ (n.toNat - j) else 0) (fun k => if k = 0 then 0 else zDk (zwt (bk b.toNat)) p (zdl pu 1) (k : Int) n.toNat) n.toNat c) ∨ (¬ (zRt bk b ∧ (0 ≤ pu ∧ pu ≤ 100) ∧ (0 ≤ p ∧ p ≤ 20) ∧ (1 ≤ n ∧ n ≤ 40)) ∧ r = 0 ∧ zMD X w m bk nv bh tv dv rt c)))) := by
  refine zMet.intro (by decide) (Nat.le_of_ble_eq_true rfl) ?_
  intro Γ C E N
  show Zw Γ ω 0 0 0 [some _, some _, some _, some _, some _, none] []
  have hR0 := hR
  obtain ⟨gN, gm, g1, g2, g3, g4, g5, g6, g7, hM, hPt, hNu, hTk, hDp, hMd, hOn, hAl, hNx, hRa, hRb, hSu, hBn, hDd, hPw, hPr, hRe, hWo, hLa, hBe, hOt, hBt, hbk, hVn⟩ := hR
  refine z_aload_n (i := 0) (pc := 0) C rfl rfl dX7_ruin_0 ?_
  refine z_iload_n (i := 1) (pc := 1) C rfl rfl dX7_ruin_1 ?_
  refine z_iload_n (i := 2) (pc := 2) C rfl rfl dX7_ruin_2 ?_
  refine z_iload_n (i := 3) (pc := 3) C rfl rfl dX7_ruin_3 ?_
  refine z_iload (i := 4) (pc := 4) C rfl dX7_ruin_4 ?_
  refine z_bipush (pc := 6) C (by decide +kernel) dX7_ruin_6 ?_
  refine z_callVi (pc := 8) C (c_X7_canRuin hM hPt hbk hpur hpr hbr hnr (by omega)) k_X7_128 zy_X7_canRuin rfl rfl hM rfl rfl ⟨(Nat.le_of_ble_eq_true rfl), (Nat.le_of_ble_eq_true rfl)⟩ (Nat.le_of_ble_eq_true rfl) dX7_ruin_8 ⟨rfl, rfl⟩ ⟨(Nat.le_of_ble_eq_true rfl), (Nat.le_of_ble_eq_true rfl)⟩ (fun rv ω' hp => ?_)
  obtain ⟨hw', hcr⟩ := hp
  rw [hw']
  clear hw'
  have hrr : rv = 0 ∨ rv = 1 := by rcases hcr with h | h <;> omega
  refine z_if_ne (tgt := 16) (pc := 11) C dX7_ruin_11 (by decide) (fun h11 => ?_) (fun h11 => ?_)
  · have hcy : ((0 ≤ pu ∧ pu ≤ 100) ∧ (0 ≤ p ∧ p ≤ 20) ∧ zRt bk b ∧ (1 ≤ n ∧ n ≤ 40)) := by rcases hcr with h | h; (· exact h.1); (· omega)
    obtain ⟨hpu0, hpp0, hyes, hnn0⟩ := id hcy
    obtain ⟨pk, rfl⟩ := Int.eq_ofNat_of_zero_le hpu0.1
    obtain ⟨nk, rfl⟩ := Int.eq_ofNat_of_zero_le (show 0 ≤ n by omega)
    obtain ⟨b0, b1, bs⟩ := id hyes
    have hf := hbk b.toNat (by omega)
    have hwt : ∀ s : Int, 0 ≤ s → s < 41 → 0 ≤ zwt (bk b.toNat) s := fun s _ _ => zwt_0 hf s
    have hsum : zs (zwt (bk b.toNat)) 41 = 10 ^ 3 := by rw [zwt_s, bs]; rfl
    have hAd : ∀ v : Int, 0 ≤ zdl pk 1 v ∧ zdl pk 1 v ≤ 10 ^ 0 := fun v => by unfold zdl; split <;> decide
    refine z_aload_n (i := 0) (pc := 16) C rfl rfl dX7_ruin_16 ?_
    refine z_iload_n (i := 1) (pc := 17) C rfl rfl dX7_ruin_17 ?_
    refine z_iload_n (i := 2) (pc := 18) C rfl rfl dX7_ruin_18 ?_
    refine z_iload_n (i := 3) (pc := 19) C rfl rfl dX7_ruin_19 ?_
    refine z_iload (i := 4) (pc := 20) C rfl dX7_ruin_20 ?_
    refine z_callVv (pc := 22) C (c_X7_runs hM hPt hbk hyes hpp0 (by omega) (by omega) hAl hNx hRa hRb) k_X7_132 zy_X7_runs rfl rfl hM rfl rfl ⟨(Nat.le_of_ble_eq_true rfl), (Nat.le_of_ble_eq_true rfl)⟩ (Nat.le_of_ble_eq_true rfl) dX7_ruin_22 ⟨rfl, rfl⟩ ⟨(Nat.le_of_ble_eq_true rfl), (Nat.le_of_ble_eq_true rfl)⟩ (fun ω' hp => ?_)
    obtain ⟨ho1, hAl1, hNx1, hRa1, hRb1⟩ := hp
    refine z_iconst (pc := 25) C dX7_ruin_25 ?_
    refine z_istore (i := 5) (lv' := [_, _, _, _, _, _]) (pc := 26) C (by decide) rfl rfl dX7_ruin_26 ?_
    refine lc_ruin1 C ((ho1.1 m (by omega)).trans hM) hRa1 ?_ 41 0 ω' rfl zOut.rf ((hTk.s.kp (fun b _ _ => ho1.1 b (by omega))).w _)
    intro ω2 ho2 hw2
    refine z_iconst (pc := 58) C dX7_ruin_58 ?_
    refine z_istore (i := 5) (lv' := [_, _, _, _, _, _]) (pc := 59) C (by decide) rfl rfl dX7_ruin_59 ?_
    refine lc_ruin2 C ((ho2.1 m (by omega)).trans ((ho1.1 m (by omega)).trans hM)) (hRb1.kp (fun b _ _ => ho2.1 b (by omega))) ?_ 21 0 ω2 rfl zOut.rf ((hDp.s.kp (fun b _ _ => (ho2.1 b (by omega)).trans (ho1.1 b (by omega)))).w _)
    intro ω3 ho3 hw3
    have hk : ∀ b : Nat, ((b < m + 12 ∨ (m + 53 ≤ b ∧ b < m + 54) ∨ (m + 75 ≤ b ∧ b < m + 77)) ∨ m + 1945 ≤ b) → ω3.1 b = ω.1 b := fun b hb => (ho3.1 b (by omega)).trans ((ho2.1 b (by omega)).trans (ho1.1 b (by omega)))
    have hz3 : ω3.2 = ω.2 := ho3.2.trans (ho2.2.trans ho1.2)
    have hM3 := (hk m (by omega)).trans hM
    have hNu3 := (hk (m + 10) (by omega)).trans hNu
    have hRa3 := hRa1.kp (ω2 := ω3) (fun b _ _ => (ho3.1 b (by omega)).trans (ho2.1 b (by omega)))
    refine z_aload_n (i := 0) (pc := 91) C rfl rfl dX7_ruin_91 ?_
    refine z_iload (i := 4) (pc := 92) C rfl dX7_ruin_92 ?_
    refine p_X7_136 (pc := 94) C hM3 (Nat.le_of_ble_eq_true rfl) dX7_ruin_94 ?_
    refine z_aload_n (i := 0) (pc := 97) C rfl rfl dX7_ruin_97 ?_
    refine z_iload (i := 4) (pc := 98) C rfl dX7_ruin_98 ?_
    refine z_aload_n (i := 0) (pc := 100) C rfl rfl dX7_ruin_100 ?_
    refine g_X7_14 (pc := 101) C (zU_s _ _ _) rfl dX7_ruin_101 ?_
    refine z_callVv (pc := 104) C (c_X7_all (a := m + 10) (bh := bh) (rt := nk) (n := nk) (zU_s _ _ _) (hRa3.kp (fun b _ _ => zU_n (by omega))) (by omega) (by omega) (by omega) (fun t ht => zRa_b hwt hsum hAd (by omega) t ht) (zU_n' (by omega) hNu3)) k_X7_139 zy_X7_all rfl rfl (zU_s _ _ _) rfl rfl ⟨(Nat.le_of_ble_eq_true rfl), (Nat.le_of_ble_eq_true rfl)⟩ (Nat.le_of_ble_eq_true rfl) dX7_ruin_104 ⟨rfl, rfl⟩ ⟨(Nat.le_of_ble_eq_true rfl), (Nat.le_of_ble_eq_true rfl)⟩ (fun ω' hp => ?_)
    obtain ⟨g9, rfl, hg5⟩ := hp
    refine z_aload_n (i := 0) (pc := 107) C rfl rfl dX7_ruin_107 ?_
    refine z_iload (i := 4) (pc := 108) C rfl dX7_ruin_108 ?_
    refine p_X7_143 (pc := 110) C (zU_n' (by omega) (zU_s _ _ _)) (Nat.le_of_ble_eq_true rfl) dX7_ruin_110 ?_
    refine z_iconst (pc := 113) C dX7_ruin_113 ?_
    exact z_zret (pc := 114) C E (by decide +kernel) dX7_ruin_114 ⟨_, rfl, ⟨⟨fun b hb => ((zU_n (by omega)).trans ((zU_n (by omega)).trans ((zU_n (by omega)).trans (hk _ (by omega))))), hz3⟩, Or.inl ⟨⟨hyes, hpu0, hpp0, hnn0⟩, rfl, ⟨g9, gm, g1, g2, g3, g4, g5, g6, g7, (zU_s _ _ _), (hPt.kp (fun b h1 h2 => ((zU_n (by omega)).trans ((zU_n (by omega)).trans ((zU_n (by omega)).trans (hk _ (by omega))))))), (zU_n' (by omega) (zU_s _ _ _)), (hw2.v.kp (fun b h1 h2 => (zU_n (by omega)).trans ((zU_n (by omega)).trans ((zU_n (by omega)).trans (ho3.1 b (by omega)))))), (hw3.v.kp (fun b h1 h2 => (zU_n (by omega)).trans ((zU_n (by omega)).trans (zU_n (by omega))))), (by rw [((zU_n (by omega)).trans ((zU_n (by omega)).trans ((zU_n (by omega)).trans (hk _ (by omega)))))]; exact hMd), (by rw [((zU_n (by omega)).trans ((zU_n (by omega)).trans ((zU_n (by omega)).trans (hk _ (by omega)))))]; exact hOn), (hAl1.kp (fun b h1 h2 => (zU_n (by omega)).trans ((zU_n (by omega)).trans ((zU_n (by omega)).trans ((ho3.1 b (by omega)).trans (ho2.1 b (by omega))))))), (hNx1.kp (fun b h1 h2 => (zU_n (by omega)).trans ((zU_n (by omega)).trans ((zU_n (by omega)).trans ((ho3.1 b (by omega)).trans (ho2.1 b (by omega))))))), (hRa3.s.kp (fun b h1 h2 => (zU_n (by omega)).trans ((zU_n (by omega)).trans (zU_n (by omega))))), (hRb1.s.kp (fun b h1 h2 => (zU_n (by omega)).trans ((zU_n (by omega)).trans ((zU_n (by omega)).trans ((ho3.1 b (by omega)).trans (ho2.1 b (by omega))))))), (by rw [((zU_n (by omega)).trans ((zU_n (by omega)).trans ((zU_n (by omega)).trans (hk _ (by omega)))))]; exact hSu), (by rw [((zU_n (by omega)).trans ((zU_n (by omega)).trans ((zU_n (by omega)).trans (hk _ (by omega)))))]; exact hBn), (hDd.kp (fun b h1 h2 => ((zU_n (by omega)).trans ((zU_n (by omega)).trans ((zU_n (by omega)).trans (hk _ (by omega))))))), (hPw.kp (fun b h1 h2 => ((zU_n (by omega)).trans ((zU_n (by omega)).trans ((zU_n (by omega)).trans (hk _ (by omega))))))), (by rw [((zU_n (by omega)).trans ((zU_n (by omega)).trans ((zU_n (by omega)).trans (hk _ (by omega)))))]; exact hPr), (by rw [((zU_n (by omega)).trans ((zU_n (by omega)).trans ((zU_n (by omega)).trans (hk _ (by omega)))))]; exact hRe), (hWo.kp (fun b h1 h2 => ((zU_n (by omega)).trans ((zU_n (by omega)).trans ((zU_n (by omega)).trans (hk _ (by omega))))))), (hLa.kp (fun b h1 h2 => ((zU_n (by omega)).trans ((zU_n (by omega)).trans ((zU_n (by omega)).trans (hk _ (by omega))))))), (by rw [((zU_n (by omega)).trans ((zU_n (by omega)).trans ((zU_n (by omega)).trans (hk _ (by omega)))))]; exact hBe), (by rw [((zU_n (by omega)).trans ((zU_n (by omega)).trans ((zU_n (by omega)).trans (hk _ (by omega)))))]; exact hOt), (hBt.kp (fun b h1 h2 => ((zU_n (by omega)).trans ((zU_n (by omega)).trans ((zU_n (by omega)).trans (hk _ (by omega)))))) hz3), hbk, (hg5.e (zRa_sum nk))⟩⟩⟩⟩
  · have hcn : ¬ ((0 ≤ pu ∧ pu ≤ 100) ∧ (0 ≤ p ∧ p ≤ 20) ∧ zRt bk b ∧ (1 ≤ n ∧ n ≤ 40)) := by rcases hcr with h | h; (· omega); (· exact h.1)
    refine z_iconst (pc := 14) C dX7_ruin_14 ?_
    exact z_zret (pc := 15) C E (by decide +kernel) dX7_ruin_15 ⟨_, rfl, ⟨zKp.rf, Or.inr ⟨fun h => hcn ⟨h.2.1, h.2.2.1, h.1, h.2.2.2⟩, rfl, hR0⟩⟩⟩
