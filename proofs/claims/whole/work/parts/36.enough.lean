theorem zWk.gs {X : zX} {ω : zWd} {a : Nat} {p l R : Int} {n : Nat} {T Wh : Int} {cp : Nat} {wt Av gf gs g2 : Int → Int} (h : zWk X ω a p l R n T Wh cp wt Av gf gs) : zWk X (zU ω (a + 6) (zAJ X (1 * 11) g2)) a p l R n T Wh cp wt Av gf g2 := by
  obtain ⟨rn, rx, un, ux, gn, gx, h1, h2, h3, h4, h5, h6, h7, h8, h9, h10, h11, h12, h13⟩ := h
  exact ⟨rn, rx, un, ux, gn, gx, zU_n' (by omega) h1, h2, zU_n' (by omega) h3, zU_n' (by omega) h4, zU_n' (by omega) h5, zU_n' (by omega) h6, zU_n' (by omega) h7, zU_s _ _ _, zU_n' (by omega) h9, zU_n' (by omega) h10, zU_n' (by omega) h11, zU_n' (by omega) h12, h13⟩
set_option maxRecDepth 100000 in
set_option maxHeartbeats 4000000 in
theorem lp_X6_isEnough {Γ : zG} {ω0 : zWd} {l0 : Launch} {X : zX} {x : Nat} {bk : Nat → Int → Int} {nv : Int} {np : Nat} {tv dv : Int → Int} {rt : Nat} {p T mi : Int} {pu n : Nat} {wt : Int → Int} (C : Zc Γ l0 X rmX6_isEnough 6 cX6_isEnough RX6) (E : Ze Γ (zpi (fun r w => zOut x (x + 58) ω0 w ∧ zWq X w (x + 3) T 1000 3 wt ∧ zRH X w x bk nv np tv dv rt ∧ ((zSm wt p 1000 (zdl pu 1) n * 1000000 ≤ mi * 1000 ^ n ∧ r = 1) ∨ (¬ zSm wt p 1000 (zdl pu 1) n * 1000000 ≤ mi * 1000 ^ n ∧ r = 0)))) 0 0 (some .boolean)) (hp0 : 0 ≤ p ∧ p ≤ 20) (hpu : pu ≤ 100) (hn12 : 1 ≤ n ∧ n ≤ 12) (hmi : 0 ≤ mi ∧ mi ≤ 1000000) (hT : 0 ≤ T ∧ T < 21) (hwt : ∀ s : Int, 0 ≤ s → s < 41 → 0 ≤ wt s) (hw0 : ∀ s : Int, 0 ≤ s → s < 41 → T < s → wt s = 0) (hsum : zs wt 41 = 10 ^ 3) : ∀ (j i : Nat) (ω : zWd) (gf gs gb : Int → Int), i + j = n → zOut x (x + 58) ω0 ω → zWk X ω (x + 3) p 0 ((pu : Int) + p * n) (0 + n * 3) T 1000 3 wt (zIt wt p (zdl pu 1) n) gf gs → zRV gs 11 1 (fun _ => zSm wt p 1000 (zdl pu 1) n) → ω.1 (x + 37) = some (zAJ X (1 * 11) gb) → zRV gb 11 1 (fun _ => mi * 1000 ^ i) → zRH X ω x bk nv np tv dv rt → Zw Γ ω 0 0 52 [some (.ref x), some (.int (zI (pu : Int))), some (.int (zI p)), some (.int (zI (n : Int))), some (.int (zI mi)), some (.int (zI (i : Int)))] [] := by
  intro j
  induction j with
  | zero =>
    intro i ω gf gs gb hj hout hW hgs hgb hgbv hR
    have hpw : ∀ i : Nat, i ≤ 12 → 0 ≤ mi * 1000 ^ i ∧ mi * 1000 ^ i ≤ 1000000 * 10 ^ 36 := by
      intro i hi
      have h1 : (0 : Int) < 1000 ^ i := zpw (by decide) _
      have h2 : (1000 : Int) ^ i ≤ 10 ^ 36 := by rw [show (1000 : Int) = 10 ^ 3 by decide, ← Int.pow_mul]; exact zp10 (by omega)
      exact ⟨Int.mul_nonneg hmi.1 (by omega), Int.mul_le_mul (by omega) h2 (by omega) (by decide)⟩
    have h132 : (10 : Int) ^ 45 * 1000001 < zL ^ 11 := by decide
    have hle := zSm_le (wt := wt) (p := p) (w0 := 1) (pu := pu) (n := 0) (c := 3) hp0.1 hwt hsum (by decide) n
    have hge := (zSm_b (n := 0) (p := p) (Av := zdl pu 1) hwt hsum (fun v => by unfold zdl; split <;> decide) n).1
    have hpn := hpw n (by omega)
    have h1n : ((10 : Int) ^ 3) ^ n * 1 ≤ 10 ^ 36 := by rw [Int.mul_one, ← Int.pow_mul]; exact zp10 (by omega)
    have hb1 : 0 ≤ zSm wt p 1000 (zdl pu 1) n * 1000000 + 0 ∧ zSm wt p 1000 (zdl pu 1) n * 1000000 + 0 < zL ^ 11 := by
      have q : zSm wt p 1000 (zdl pu 1) n ≤ 10 ^ 36 := Int.le_trans hle h1n
      have q2 : 0 ≤ zSm wt p 1000 (zdl pu 1) n := hge
      omega
    have e1 : i = n := by omega
    subst e1
    have hR0 := hR
    have hW0 := hW
    obtain ⟨gm, gN, gB, gT, gD, hX, hBs, hMv, hWk, hPk, hFv, hNu, hNc, hBo, hBc, hTk, hTc, hDp, hDc, hBk, hbk, hVN, hVT, hVD⟩ := hR
    obtain ⟨rn, rx, un, ux, gn, gx, hw, hN, hq, he, hf, hfc, hs, hsc, hn, hnc, hx, hxc, hu, hux, hV, hUn, hU, hUx, hUf⟩ := hW
    refine z_iload (i := 5) (pc := 52) C rfl dX6_isEnough_52 ?_
    refine z_iload_n (i := 3) (pc := 54) C rfl rfl dX6_isEnough_54 ?_
    refine z_icmp_ge (tgt := 76) (pc := 55) C dX6_isEnough_55 (by decide) (fun h55 => ?_) (fun h55 => absurd h55 (by omega))
    refine z_aload_n (i := 0) (pc := 76) C rfl rfl dX6_isEnough_76 ?_
    refine g_X6_22 (pc := 77) C hX rfl dX6_isEnough_77 ?_
    refine g_X6_211 (pc := 80) C hw rfl dX6_isEnough_80 ?_
    refine z_iconst (pc := 83) C dX6_isEnough_83 ?_
    refine z_ldc2 (a := 1000000) (pc := 84) C (by decide +kernel) q_X6_223 dX6_isEnough_84 ?_
    refine z_lconst (v := 0) (pc := 87) C (by decide +kernel) dX6_isEnough_87 ?_
    refine z_callVv (pc := 88) C (c_X4_times hs hsc ⟨⟨by decide, by decide⟩, ⟨by decide, by decide⟩, by omega, by omega⟩ (by omega) (hgs.at (by omega) (by omega)) (by omega) (by omega)) k_X6_156 zy_X4_times rfl rfl hs rfl rfl ⟨(Nat.le_of_ble_eq_true rfl), (Nat.le_of_ble_eq_true rfl)⟩ (Nat.le_of_ble_eq_true rfl) dX6_isEnough_88 ⟨rfl, rfl⟩ ⟨(Nat.le_of_ble_eq_true rfl), (Nat.le_of_ble_eq_true rfl)⟩ (fun ω' hp => ?_)
    obtain ⟨g2, rfl, hg2⟩ := hp
    have hcv := ztimes_v hg2 (hgs.v (by omega) (by omega)) hb1
    rw [Int.add_zero] at hcv
    have hW1 : zWk X (zU _ (x + 3 + 6) (zAJ X (1 * 11) g2)) (x + 3) p 0 ((pu : Int) + p * i) (0 + i * 3) T 1000 3 wt (zIt wt p (zdl pu 1) i) gf g2 := hW0.gs
    have ho1 : zOut (x + 3) (x + 14) ω (zU ω (x + 3 + 6) (zAJ X (1 * 11) g2)) := zOut.rf.u (by omega) (by omega)
    have hR1 := hR0.wk ho1 ⟨_, _, _, _, hW1.q⟩
    refine z_aload_n (i := 0) (pc := 91) C rfl rfl dX6_isEnough_91 ?_
    refine g_X6_22 (pc := 92) C (zU_n' (by omega) hX) rfl dX6_isEnough_92 ?_
    refine g_X6_211 (pc := 95) C (zU_n' (by omega) hw) rfl dX6_isEnough_95 ?_
    refine z_iconst (pc := 98) C dX6_isEnough_98 ?_
    refine z_aload_n (i := 0) (pc := 99) C rfl rfl dX6_isEnough_99 ?_
    refine g_X6_49 (pc := 100) C (zU_n' (by omega) hX) rfl dX6_isEnough_100 ?_
    refine z_iconst (pc := 103) C dX6_isEnough_103 ?_
    refine z_callVi (pc := 104) C (c_X4_order (zU_n' (by omega) hs) (zU_s _ _ _) ⟨⟨by decide, by decide⟩, ⟨by decide, by decide⟩, by omega, by omega⟩ (zU_n' (by omega) hBo) (zU_n' (by omega) hgb) ⟨⟨by decide, by decide⟩, ⟨by decide, by decide⟩, by omega, by omega⟩ rfl (by omega) (by omega) hcv.1 (hgbv.at (by omega) (by omega))) k_X6_225 zy_X4_order rfl rfl (zU_n' (by omega) hs) rfl rfl ⟨(Nat.le_of_ble_eq_true rfl), (Nat.le_of_ble_eq_true rfl)⟩ (Nat.le_of_ble_eq_true rfl) dX6_isEnough_104 ⟨rfl, rfl⟩ ⟨(Nat.le_of_ble_eq_true rfl), (Nat.le_of_ble_eq_true rfl)⟩ (fun rv ω' hp => ?_)
    obtain ⟨hw', hp⟩ := hp
    rw [hw']
    rw [hcv.2, hgbv.v (r := 0) (by omega) (by omega)] at hp
    have hrr : rv = -1 ∨ rv = 0 ∨ rv = 1 := by omega
    refine z_if_gt (tgt := 114) (pc := 107) C dX6_isEnough_107 (by decide) (fun h107 => ?_) (fun h107 => ?_)
    · refine z_iconst (pc := 114) C dX6_isEnough_114 ?_
      exact z_zret (pc := 115) C E (by decide +kernel) dX6_isEnough_115 ⟨_, rfl, ⟨hout.u (by omega) (by omega), hW1.q, hR1, by omega⟩⟩
    · refine z_iconst (pc := 110) C dX6_isEnough_110 ?_
      refine z_goto (tgt := 115) (pc := 111) C dX6_isEnough_111 (by decide) ?_
      exact z_zret (pc := 115) C E (by decide +kernel) dX6_isEnough_115 ⟨_, rfl, ⟨hout.u (by omega) (by omega), hW1.q, hR1, by omega⟩⟩
  | succ j ih =>
    intro i ω gf gs gb hj hout hW hgs hgb hgbv hR
    have hpw : ∀ i : Nat, i ≤ 12 → 0 ≤ mi * 1000 ^ i ∧ mi * 1000 ^ i ≤ 1000000 * 10 ^ 36 := by
      intro i hi
      have h1 : (0 : Int) < 1000 ^ i := zpw (by decide) _
      have h2 : (1000 : Int) ^ i ≤ 10 ^ 36 := by rw [show (1000 : Int) = 10 ^ 3 by decide, ← Int.pow_mul]; exact zp10 (by omega)
      exact ⟨Int.mul_nonneg hmi.1 (by omega), Int.mul_le_mul (by omega) h2 (by omega) (by decide)⟩
    have h132 : (10 : Int) ^ 45 * 1000001 < zL ^ 11 := by decide
    have hpi := hpw i (by omega)
    have hpi1 := hpw (i + 1) (by omega)
    rw [Int.pow_succ, ← Int.mul_assoc] at hpi1
    have hR0 := hR
    have hW0 := hW
    obtain ⟨gm, gN, gB, gT, gD, hX, hBs, hMv, hWk, hPk, hFv, hNu, hNc, hBo, hBc, hTk, hTc, hDp, hDc, hBk, hbk, hVN, hVT, hVD⟩ := hR
    obtain ⟨rn, rx, un, ux, gn, gx, hw, hN, hq, he, hf, hfc, hs, hsc, hn, hnc, hx, hxc, hu, hux, hV, hUn, hU, hUx, hUf⟩ := hW
    refine z_iload (i := 5) (pc := 52) C rfl dX6_isEnough_52 ?_
    refine z_iload_n (i := 3) (pc := 54) C rfl rfl dX6_isEnough_54 ?_
    refine z_icmp_ge (tgt := 76) (pc := 55) C dX6_isEnough_55 (by decide) (fun h55 => absurd h55 (by omega)) (fun h55 => ?_)
    refine z_aload_n (i := 0) (pc := 58) C rfl rfl dX6_isEnough_58 ?_
    refine g_X6_49 (pc := 59) C hX rfl dX6_isEnough_59 ?_
    refine z_iconst (pc := 62) C dX6_isEnough_62 ?_
    refine z_ldc2 (a := 1000) (pc := 63) C (by decide +kernel) q_X6_202 dX6_isEnough_63 ?_
    refine z_lconst (v := 0) (pc := 66) C (by decide +kernel) dX6_isEnough_66 ?_
    refine z_callVv (pc := 67) C (c_X4_times hBo hgb ⟨⟨by decide, by decide⟩, ⟨by decide, by decide⟩, by omega, by omega⟩ (by omega) (hgbv.at (by omega) (by omega)) (by omega) (by omega)) k_X6_156 zy_X4_times rfl rfl hBo rfl rfl ⟨(Nat.le_of_ble_eq_true rfl), (Nat.le_of_ble_eq_true rfl)⟩ (Nat.le_of_ble_eq_true rfl) dX6_isEnough_67 ⟨rfl, rfl⟩ ⟨(Nat.le_of_ble_eq_true rfl), (Nat.le_of_ble_eq_true rfl)⟩ (fun ω' hp => ?_)
    obtain ⟨g2, rfl, hg2⟩ := hp
    have hcv := ztimes_v hg2 (hgbv.v (by omega) (by omega)) (by omega)
    refine z_iinc (i := 5) (lv' := [_, _, _, _, _, _]) (pc := 70) C rfl (by decide) rfl rfl dX6_isEnough_70 ?_
    refine z_goto (tgt := 52) (pc := 73) C dX6_isEnough_73 (by decide) ?_
    exact ih (i + 1) _ gf gs g2 (by omega) (hout.u (by omega) (by omega)) (hW0.fr (fun b h1 h2 => zU_n (by omega))) hgs (zU_s _ _ _) ((zRV1 hcv).c (fun _ _ _ => by rw [Int.pow_succ, ← Int.mul_assoc, Int.add_zero])) hR0.bo
set_option maxRecDepth 100000 in
set_option maxHeartbeats 4000000 in
theorem c_X6_isEnough {l0 : Launch} {X : zX} {x : Nat} {bk : Nat → Int → Int} {nv : Int} {np : Nat} {tv dv : Int → Int} {rt : Nat} {p T mi : Int} {pu n : Nat} {wt : Int → Int} {ω : zWd} (hW : zWq X ω (x + 3) T 1000 3 wt) (hR : zRH X ω x bk nv np tv dv rt) (hp0 : 0 ≤ p ∧ p ≤ 20) (hpu : pu ≤ 100) (hn12 : 1 ≤ n ∧ n ≤ 12) (hmi : 0 ≤ mi ∧ mi ≤ 1000000) (hT : 0 ≤ T ∧ T < 21) (hwt : ∀ s : Int, 0 ≤ s → s < 41 → 0 ≤ wt s) (hw0 : ∀ s : Int, 0 ≤ s → s < 41 → T < s → wt s = 0) (hsum : zs wt 41 = 10 ^ 3) : zMet l0 yX6_isEnough cX6_isEnough 6 (some .boolean) rmX6_isEnough X [.ref x, .int (zI (pu : Int)), .int (zI p), .int (zI (n : Int)), .int (zI mi)] ω (zpi (fun r w => zOut x (x + 58) ω w ∧ zWq X w (x + 3) T 1000 3 wt ∧ zRH X w x bk nv np tv dv rt ∧ ((zSm wt p 1000 (zdl pu 1) n * 1000000 ≤ mi * 1000 ^ n ∧ r = 1) ∨ (¬ zSm wt p 1000 (zdl pu 1) n * 1000000 ≤ mi * 1000 ^ n ∧ r = 0)))) := by
  refine zMet.intro (by decide) (Nat.le_of_ble_eq_true rfl) ?_
  intro Γ C E N
  show Zw Γ ω 0 0 0 [some _, some _, some _, some _, some _, none] []
  have hR0 := hR
  obtain ⟨gm, gN, gB, gT, gD, hX, hBs, hMv, hWk, hPk, hFv, hNu, hNc, hBo, hBc, hTk, hTc, hDp, hDc, hBk, hbk, hVN, hVT, hVD⟩ := hR
  have hAv : ∀ v : Int, 0 ≤ zdl pu 1 v ∧ zdl pu 1 v ≤ 10 ^ 0 := fun v => by unfold zdl; split <;> decide
  have hpn : p * (n : Int) ≤ 20 * 12 := Int.mul_le_mul hp0.2 (by omega) (by omega) (by omega)
  have hpn0 : p * (n : Int) ≥ 0 := Int.mul_nonneg hp0.1 (by omega)
  have hcp0 := zcap (pu := pu) (p := p) (T := T) (n := n) (j := n) (by omega) (by omega) hT (by omega) (by omega)
  rw [Int.sub_self, Int.mul_zero] at hcp0
  obtain ⟨rn, rx, p1, l1, R1, n1, un, ux, gf, gs, gn, gx, hw, hN, hq, he, hwrest⟩ := id hW
  refine z_aload_n (i := 0) (pc := 0) C rfl rfl dX6_isEnough_0 ?_
  refine g_X6_49 (pc := 1) C hX rfl dX6_isEnough_1 ?_
  refine z_callVv (pc := 4) C (c_X4_wipe hBo hBc ⟨⟨by decide, by decide⟩, ⟨by decide, by decide⟩, by omega, by omega⟩) k_X6_134 zy_X4_wipe rfl rfl hBo rfl rfl ⟨(Nat.le_of_ble_eq_true rfl), (Nat.le_of_ble_eq_true rfl)⟩ (Nat.le_of_ble_eq_true rfl) dX6_isEnough_4 ⟨rfl, rfl⟩ ⟨(Nat.le_of_ble_eq_true rfl), (Nat.le_of_ble_eq_true rfl)⟩ (fun ω' hp => ?_)
  subst hp
  refine z_nm (fun ω2 hω2 => ?_)
  have x_ω2 := z_at hω2 (zU_n' (z_neOJ hX hBc) hX)
  have bo_ω2 := z_at hω2 (zU_n' (z_neOJ hBo hBc) hBo)
  have bc_ω2 := z_at hω2 (zU_s _ _ _)
  refine z_aload_n (i := 0) (pc := 7) C rfl rfl dX6_isEnough_7 ?_
  refine g_X6_49 (pc := 8) C x_ω2 rfl dX6_isEnough_8 ?_
  refine z_iconst (pc := 11) C dX6_isEnough_11 ?_
  refine z_lconst (v := 1) (pc := 12) C (by decide +kernel) dX6_isEnough_12 ?_
  refine z_callVv (pc := 13) C (c_X4_put bo_ω2 bc_ω2 ⟨⟨by decide, by decide⟩, ⟨by decide, by decide⟩, by omega, by omega⟩) k_X6_188 zy_X4_put rfl rfl bo_ω2 rfl rfl ⟨(Nat.le_of_ble_eq_true rfl), (Nat.le_of_ble_eq_true rfl)⟩ (Nat.le_of_ble_eq_true rfl) dX6_isEnough_13 ⟨rfl, rfl⟩ ⟨(Nat.le_of_ble_eq_true rfl), (Nat.le_of_ble_eq_true rfl)⟩ (fun ω' hp => ?_)
  obtain ⟨g2, rfl, hg2⟩ := hp
  have hpv := zRV1 (zput_v (by decide) hg2 (by decide))
  rw [hω2, zU_u]
  have hR := hR0.bo (g2 := g2)
  have hR1 := hR
  have hWq1 := hW.fr (ω2 := zU ω (x + 37) (zAJ X (1 * 11) g2)) (fun b h1 h2 => zU_n (by omega))
  have hbc1 : (zU ω (x + 37) (zAJ X (1 * 11) g2)).1 (x + 37) = some (zAJ X (1 * 11) g2) := zU_s _ _ _
  obtain ⟨rn, rx, p1, l1, R1, n1, un, ux, gf, gs, gn, gx, hw, hN, hq, he, hwrest⟩ := id hWq1
  obtain ⟨gm, gN, gB, gT, gD, hX, hBs, hMv, hWk, hPk, hFv, hNu, hNc, hBo, hBc, hTk, hTc, hDp, hDc, hBk, hbk, hVN, hVT, hVD⟩ := hR
  refine z_aload_n (i := 0) (pc := 16) C rfl rfl dX6_isEnough_16 ?_
  refine g_X6_22 (pc := 17) C hX rfl dX6_isEnough_17 ?_
  refine z_iload_n (i := 1) (pc := 20) C rfl rfl dX6_isEnough_20 ?_
  refine z_iload_n (i := 2) (pc := 21) C rfl rfl dX6_isEnough_21 ?_
  refine z_iload_n (i := 3) (pc := 22) C rfl rfl dX6_isEnough_22 ?_
  refine z_aload_n (i := 0) (pc := 23) C rfl rfl dX6_isEnough_23 ?_
  refine g_X6_49 (pc := 24) C hX rfl dX6_isEnough_24 ?_
  refine z_iconst (pc := 27) C dX6_isEnough_27 ?_
  refine z_callVv (pc := 28) C (c_X5_begin (w0 := 1) (wp := 0) (pu := (pu : Int)) (p := p) (l := (n : Int)) (cp := 3) hWq1 hBo hbc1 hpv (by omega) (by omega) (by decide) (by omega) (by omega) (by omega) (by omega) hcp0 (by omega)) k_X6_130 zy_X5_begin rfl rfl hw rfl rfl ⟨(Nat.le_of_ble_eq_true rfl), (Nat.le_of_ble_eq_true rfl)⟩ (Nat.le_of_ble_eq_true rfl) dX6_isEnough_28 ⟨rfl, rfl⟩ ⟨(Nat.le_of_ble_eq_true rfl), (Nat.le_of_ble_eq_true rfl)⟩ (fun ω' hp => ?_)
  obtain ⟨gf2, gs2, hout2, hW2⟩ := hp
  have hR := hR1.wk hout2 ⟨_, _, _, _, hW2.q⟩
  have hR2 := hR
  have hW := hW2
  obtain ⟨gm, gN, gB, gT, gD, hX, hBs, hMv, hWk, hPk, hFv, hNu, hNc, hBo, hBc, hTk, hTc, hDp, hDc, hBk, hbk, hVN, hVT, hVD⟩ := hR
  obtain ⟨rn, rx, un, ux, gn, gx, hw, hN, hq, he, hf, hfc, hs, hsc, hn, hnc, hx, hxc, hu, hux, hV, hUn, hU, hUx, hUf⟩ := hW
  refine z_aload_n (i := 0) (pc := 31) C rfl rfl dX6_isEnough_31 ?_
  refine g_X6_22 (pc := 32) C hX rfl dX6_isEnough_32 ?_
  refine z_callVv (pc := 35) C (c_X5_sumUp (Ln := n) hW2 (by omega) (by omega) (by omega) (by omega) (by omega) rfl hwt hw0 hsum (by decide) hAv (fun v h => if_neg (by omega)) (fun j j0 j1 => zcap (by omega) hp0 hT (by omega) ⟨j0, j1⟩)) k_X6_204 zy_X5_sumUp rfl rfl hw rfl rfl ⟨(Nat.le_of_ble_eq_true rfl), (Nat.le_of_ble_eq_true rfl)⟩ (Nat.le_of_ble_eq_true rfl) dX6_isEnough_35 ⟨rfl, rfl⟩ ⟨(Nat.le_of_ble_eq_true rfl), (Nat.le_of_ble_eq_true rfl)⟩ (fun ω' hp => ?_)
  obtain ⟨gf3, gs3, hout3, hW3, hgs3⟩ := hp
  have hR := hR2.wk hout3 ⟨_, _, _, _, hW3.q⟩
  have hR3 := hR
  have hW := hW3
  obtain ⟨gm, gN, gB, gT, gD, hX, hBs, hMv, hWk, hPk, hFv, hNu, hNc, hBo, hBc, hTk, hTc, hDp, hDc, hBk, hbk, hVN, hVT, hVD⟩ := hR
  obtain ⟨rn, rx, un, ux, gn, gx, hw, hN, hq, he, hf, hfc, hs, hsc, hn, hnc, hx, hxc, hu, hux, hV, hUn, hU, hUx, hUf⟩ := hW
  refine z_aload_n (i := 0) (pc := 38) C rfl rfl dX6_isEnough_38 ?_
  refine g_X6_49 (pc := 39) C hX rfl dX6_isEnough_39 ?_
  refine z_iconst (pc := 42) C dX6_isEnough_42 ?_
  refine z_iload (i := 4) (pc := 43) C rfl dX6_isEnough_43 ?_
  refine z_i2l (pc := 45) C (hd := dX6_isEnough_45) (k := ?_)
  refine z_callVv (pc := 46) C (c_X4_put hBo hBc ⟨⟨by decide, by decide⟩, ⟨by decide, by decide⟩, by omega, by omega⟩) k_X6_188 zy_X4_put rfl rfl hBo rfl rfl ⟨(Nat.le_of_ble_eq_true rfl), (Nat.le_of_ble_eq_true rfl)⟩ (Nat.le_of_ble_eq_true rfl) dX6_isEnough_46 ⟨rfl, rfl⟩ ⟨(Nat.le_of_ble_eq_true rfl), (Nat.le_of_ble_eq_true rfl)⟩ (fun ω' hp => ?_)
  obtain ⟨g4, rfl, hg4⟩ := hp
  have hpv4 := zput_v (by decide) hg4 (⟨hmi.1, Int.lt_of_le_of_lt hmi.2 (by decide)⟩)
  refine z_iconst (pc := 49) C dX6_isEnough_49 ?_
  refine z_istore (i := 5) (lv' := [_, _, _, _, _, _]) (pc := 50) C (by decide) rfl rfl dX6_isEnough_50 ?_
  exact lp_X6_isEnough (ω0 := ω) C E hp0 hpu hn12 hmi hT hwt hw0 hsum n 0 _ gf3 gs3 g4 (by omega) ((((zOut.rf.u (by omega) (by omega)).tr (hout2.w (by omega) (by omega))).tr (hout3.w (by omega) (by omega))).u (by omega) (by omega)) (hW3.fr (fun b h1 h2 => zU_n (by omega))) hgs3 (zU_s _ _ _) ((zRV1 hpv4).c (fun _ _ _ => by rw [Int.pow_zero, Int.mul_one])) hR3.bo
set_option maxRecDepth 100000 in
set_option maxHeartbeats 4000000 in
theorem lp_X6_findPremium {Γ : zG} {ω0 : zWd} {l0 : Launch} {X : zX} {x : Nat} {bk : Nat → Int → Int} {nv : Int} {np : Nat} {tv dv : Int → Int} {rt : Nat} {T mi : Int} {pu n : Nat} {wt : Int → Int} (C : Zc Γ l0 X rmX6_findPremium 8 cX6_findPremium RX6) (E : Ze Γ (zpi (fun r w => zOut x (x + 58) ω0 w ∧ zWq X w (x + 3) T 1000 3 wt ∧ zRH X w x bk nv np tv dv rt ∧ (0 ≤ r ∧ r ≤ 20) ∧ (zSm wt r 1000 (zdl pu 1) n * 1000000 ≤ mi * 1000 ^ n) ∧ ∀ p : Int, 0 ≤ p → p < r → ¬ zSm wt p 1000 (zdl pu 1) n * 1000000 ≤ mi * 1000 ^ n)) 0 0 (some .int)) (hpu : pu ≤ 100) (hn12 : 1 ≤ n ∧ n ≤ 12) (hmi : 0 ≤ mi ∧ mi ≤ 1000000) (hT : 0 ≤ T ∧ T < 21) (hwt : ∀ s : Int, 0 ≤ s → s < 41 → 0 ≤ wt s) (hw0 : ∀ s : Int, 0 ≤ s → s < 41 → T < s → wt s = 0) (hsum : zs wt 41 = 10 ^ 3) (hmon : ∀ p q : Int, 0 ≤ p → p ≤ q → q ≤ 20 → zSm wt p 1000 (zdl pu 1) n * 1000000 ≤ mi * 1000 ^ n → zSm wt q 1000 (zdl pu 1) n * 1000000 ≤ mi * 1000 ^ n) (htop : zSm wt 20 1000 (zdl pu 1) n * 1000000 ≤ mi * 1000 ^ n) : ∀ (j : Nat) (lo hi i : Int) (ω : zWd) (md : Option Value), hi - lo ≤ j → i + j = 20 → 0 ≤ i → 0 ≤ lo → lo ≤ hi → hi ≤ 20 → (∀ p : Int, 0 ≤ p → p < lo → ¬ zSm wt p 1000 (zdl pu 1) n * 1000000 ≤ mi * 1000 ^ n) → zSm wt hi 1000 (zdl pu 1) n * 1000000 ≤ mi * 1000 ^ n → zOut x (x + 58) ω0 ω → zWq X ω (x + 3) T 1000 3 wt → zRH X ω x bk nv np tv dv rt → Zw Γ ω 0 0 10 [some (.ref x), some (.int (zI (pu : Int))), some (.int (zI (n : Int))), some (.int (zI mi)), some (.int (zI lo)), some (.int (zI hi)), some (.int (zI i)), md] [] := by
  intro j
  induction j with
  | zero =>
    intro lo hi i ω md hd hj i0 h0 h1 h2 hlo hhi hout hW hR
    have e : lo = hi := by omega
    subst e
    have hR0 := hR
    obtain ⟨gm, gN, gB, gT, gD, hX, hBs, hMv, hWk, hPk, hFv, hNu, hNc, hBo, hBc, hTk, hTc, hDp, hDc, hBk, hbk, hVN, hVT, hVD⟩ := hR
    refine z_iload (i := 6) (pc := 10) C rfl dX6_findPremium_10 ?_
    refine z_bipush (pc := 12) C (by decide +kernel) dX6_findPremium_12 ?_
    refine z_icmp_ge (tgt := 64) (pc := 14) C dX6_findPremium_14 (by decide) (fun h14 => ?_) (fun h14 => absurd h14 (by omega))
    refine z_iload (i := 5) (pc := 64) C rfl dX6_findPremium_64 ?_
    exact z_iret (pc := 66) C E dX6_findPremium_66 ⟨_, rfl, ⟨hout, hW, hR0, by omega, hhi, hlo⟩⟩
  | succ j ih =>
    intro lo hi i ω md hd hj i0 h0 h1 h2 hlo hhi hout hW hR
    have hR0 := hR
    obtain ⟨gm, gN, gB, gT, gD, hX, hBs, hMv, hWk, hPk, hFv, hNu, hNc, hBo, hBc, hTk, hTc, hDp, hDc, hBk, hbk, hVN, hVT, hVD⟩ := hR
    refine z_iload (i := 6) (pc := 10) C rfl dX6_findPremium_10 ?_
    refine z_bipush (pc := 12) C (by decide +kernel) dX6_findPremium_12 ?_
    refine z_icmp_ge (tgt := 64) (pc := 14) C dX6_findPremium_14 (by decide) (fun h14 => absurd h14 (by omega)) (fun h14 => ?_)
    refine z_iload (i := 4) (pc := 17) C rfl dX6_findPremium_17 ?_
    refine z_iload (i := 5) (pc := 19) C rfl dX6_findPremium_19 ?_
    refine z_icmp_ge (tgt := 64) (pc := 21) C dX6_findPremium_21 (by decide) (fun h21 => ?_) (fun h21 => ?_)
    · have e : lo = hi := by omega
      subst e
      refine z_iload (i := 5) (pc := 64) C rfl dX6_findPremium_64 ?_
      exact z_iret (pc := 66) C E dX6_findPremium_66 ⟨_, rfl, ⟨hout, hW, hR0, by omega, hhi, hlo⟩⟩
    · refine z_iload (i := 4) (pc := 24) C rfl dX6_findPremium_24 ?_
      refine z_iload (i := 5) (pc := 26) C rfl dX6_findPremium_26 ?_
      refine z_iadd (pc := 28) C dX6_findPremium_28 ?_
      refine z_iconst (pc := 29) C dX6_findPremium_29 ?_
      refine z_idiv (pc := 30) C (hd := dX6_findPremium_30) (k := ?_)
      refine z_istore (i := 7) (lv' := [_, _, _, _, _, _, _, _]) (pc := 31) C (by decide) rfl rfl dX6_findPremium_31 ?_
      refine z_aload_n (i := 0) (pc := 33) C rfl rfl dX6_findPremium_33 ?_
      refine z_iload_n (i := 1) (pc := 34) C rfl rfl dX6_findPremium_34 ?_
      refine z_iload (i := 7) (pc := 35) C rfl dX6_findPremium_35 ?_
      refine z_iload_n (i := 2) (pc := 37) C rfl rfl dX6_findPremium_37 ?_
      refine z_iload_n (i := 3) (pc := 38) C rfl rfl dX6_findPremium_38 ?_
      refine z_callVi (pc := 39) C (c_X6_isEnough (p := (lo + hi) / 2) hW hR0 (by omega) hpu hn12 hmi hT hwt hw0 hsum) k_X6_219 zy_X6_isEnough rfl rfl hX rfl rfl ⟨(Nat.le_of_ble_eq_true rfl), (Nat.le_of_ble_eq_true rfl)⟩ (Nat.le_of_ble_eq_true rfl) dX6_findPremium_39 ⟨rfl, rfl⟩ ⟨(Nat.le_of_ble_eq_true rfl), (Nat.le_of_ble_eq_true rfl)⟩ (fun rv ω' hp => ?_)
      obtain ⟨hout2, hW2, hR2, hr⟩ := hp
      have hrr : rv = 0 ∨ rv = 1 := by omega
      refine z_if_eq (tgt := 52) (pc := 42) C dX6_findPremium_42 (by decide) (fun h42 => ?_) (fun h42 => ?_)
      · refine z_iload (i := 7) (pc := 52) C rfl dX6_findPremium_52 ?_
        refine z_iconst (pc := 54) C dX6_findPremium_54 ?_
        refine z_iadd (pc := 55) C dX6_findPremium_55 ?_
        refine z_istore (i := 4) (lv' := [_, _, _, _, _, _, _, _]) (pc := 56) C (by decide) rfl rfl dX6_findPremium_56 ?_
        refine z_iinc (i := 6) (lv' := [_, _, _, _, _, _, _, _]) (pc := 58) C rfl (by decide) rfl rfl dX6_findPremium_58 ?_
        refine z_goto (tgt := 10) (pc := 61) C dX6_findPremium_61 (by decide) ?_
        exact ih _ _ _ _ _ (by omega) (by omega) (by omega) (by omega) (by omega) (by omega) (by first | exact hlo | exact (fun p p0 p1 h => absurd (hmon p ((lo + hi) / 2) p0 (by omega) (by omega) h) (by omega))) (by first | exact hhi | omega) (hout.tr hout2) hW2 hR2
      · refine z_iload (i := 7) (pc := 45) C rfl dX6_findPremium_45 ?_
        refine z_istore (i := 5) (lv' := [_, _, _, _, _, _, _, _]) (pc := 47) C (by decide) rfl rfl dX6_findPremium_47 ?_
        refine z_goto (tgt := 58) (pc := 49) C dX6_findPremium_49 (by decide) ?_
        refine z_iinc (i := 6) (lv' := [_, _, _, _, _, _, _, _]) (pc := 58) C rfl (by decide) rfl rfl dX6_findPremium_58 ?_
        refine z_goto (tgt := 10) (pc := 61) C dX6_findPremium_61 (by decide) ?_
        exact ih _ _ _ _ _ (by omega) (by omega) (by omega) (by omega) (by omega) (by omega) (by first | exact hlo | exact (fun p p0 p1 h => absurd (hmon p ((lo + hi) / 2) p0 (by omega) (by omega) h) (by omega))) (by first | exact hhi | omega) (hout.tr hout2) hW2 hR2
set_option maxRecDepth 100000 in
set_option maxHeartbeats 4000000 in
theorem c_X6_findPremium {l0 : Launch} {X : zX} {x : Nat} {bk : Nat → Int → Int} {nv : Int} {np : Nat} {tv dv : Int → Int} {rt : Nat} {T mi : Int} {pu n : Nat} {wt : Int → Int} {ω : zWd} (hW : zWq X ω (x + 3) T 1000 3 wt) (hR : zRH X ω x bk nv np tv dv rt) (hpu : pu ≤ 100) (hn12 : 1 ≤ n ∧ n ≤ 12) (hmi : 0 ≤ mi ∧ mi ≤ 1000000) (hT : 0 ≤ T ∧ T < 21) (hwt : ∀ s : Int, 0 ≤ s → s < 41 → 0 ≤ wt s) (hw0 : ∀ s : Int, 0 ≤ s → s < 41 → T < s → wt s = 0) (hsum : zs wt 41 = 10 ^ 3) (hmon : ∀ p q : Int, 0 ≤ p → p ≤ q → q ≤ 20 → zSm wt p 1000 (zdl pu 1) n * 1000000 ≤ mi * 1000 ^ n → zSm wt q 1000 (zdl pu 1) n * 1000000 ≤ mi * 1000 ^ n) (htop : zSm wt 20 1000 (zdl pu 1) n * 1000000 ≤ mi * 1000 ^ n) : zMet l0 yX6_findPremium cX6_findPremium 8 (some .int) rmX6_findPremium X [.ref x, .int (zI (pu : Int)), .int (zI (n : Int)), .int (zI mi)] ω (zpi (fun r w => zOut x (x + 58) ω w ∧ zWq X w (x + 3) T 1000 3 wt ∧ zRH X w x bk nv np tv dv rt ∧ (0 ≤ r ∧ r ≤ 20) ∧ (zSm wt r 1000 (zdl pu 1) n * 1000000 ≤ mi * 1000 ^ n) ∧ ∀ p : Int, 0 ≤ p → p < r → ¬ zSm wt p 1000 (zdl pu 1) n * 1000000 ≤ mi * 1000 ^ n)) := by
  refine zMet.intro (by decide) (Nat.le_of_ble_eq_true rfl) ?_
  intro Γ C E N
  show Zw Γ ω 0 0 0 [some _, some _, some _, some _, none, none, none, none] []
  refine z_iconst (pc := 0) C dX6_findPremium_0 ?_
  refine z_istore (i := 4) (lv' := [_, _, _, _, _, _, _, _]) (pc := 1) C (by decide) rfl rfl dX6_findPremium_1 ?_
  refine z_bipush (pc := 3) C (by decide +kernel) dX6_findPremium_3 ?_
  refine z_istore (i := 5) (lv' := [_, _, _, _, _, _, _, _]) (pc := 5) C (by decide) rfl rfl dX6_findPremium_5 ?_
  refine z_iconst (pc := 7) C dX6_findPremium_7 ?_
  refine z_istore (i := 6) (lv' := [_, _, _, _, _, _, _, _]) (pc := 8) C (by decide) rfl rfl dX6_findPremium_8 ?_
  exact lp_X6_findPremium (ω0 := ω) C E hpu hn12 hmi hT hwt hw0 hsum hmon htop 20 0 20 0 ω _ (by omega) (by omega) (by omega) (by omega) (by omega) (by omega) (fun p p0 p1 => by omega) htop zOut.rf hW hR
