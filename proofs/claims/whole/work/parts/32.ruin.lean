theorem zWq.cl {X : zX} {ω : zWd} {a : Nat} {T Wh cp t2 w2 p2 : Int} {wt g2 : Int → Int} (h : zWq X ω a T Wh cp wt) : zWq X (zCl X ω (a + 1) (a + 2) t2 w2 p2 g2) a t2 w2 p2 g2 := by
  obtain ⟨rn, rx, p, l, R, n, un, ux, gf, gs, gn, gx, h1, h2, h3, h4, h5, h6, h7, h8, h9, h10, h11, h12, h13⟩ := h
  have k : ∀ b y, b ≠ a + 1 → b ≠ a + 2 → ω.1 b = y → (zCl X ω (a + 1) (a + 2) t2 w2 p2 g2).1 b = y := fun b y q1 q2 t => by rw [zCl_n q1 q2]; exact t
  exact ⟨rn, rx, p, l, R, n, un, ux, gf, gs, gn, gx, k _ _ (by omega) (by omega) h1, h2, zCl_q, zCl_e (by omega), k _ _ (by omega) (by omega) h5, k _ _ (by omega) (by omega) h6, k _ _ (by omega) (by omega) h7, k _ _ (by omega) (by omega) h8, k _ _ (by omega) (by omega) h9, k _ _ (by omega) (by omega) h10, k _ _ (by omega) (by omega) h11, k _ _ (by omega) (by omega) h12, h13⟩
theorem zCl_out {X : zX} {ω : zWd} {a lo hi : Nat} {t2 w2 p2 : Int} {g2 : Int → Int} (h1 : lo ≤ a + 1) (h2 : a + 2 < hi) : zOut lo hi ω (zCl X ω (a + 1) (a + 2) t2 w2 p2 g2) := (zOut.rf.u (by omega) (by omega)).u (by omega) (by omega)
theorem zRH.c {X : zX} {ω : zWd} {x : Nat} {bk : Nat → Int → Int} {nv nv2 : Int} {np : Nat} {tv dv tv2 dv2 : Int → Int} {rt : Nat} (hR : zRH X ω x bk nv np tv dv rt) (h1 : nv = nv2) (h2 : ∀ r : Int, 0 ≤ r → r < 41 → tv r = tv2 r) (h3 : ∀ r : Int, 0 ≤ r → r < 21 → dv r = dv2 r) : zRH X ω x bk nv2 np tv2 dv2 rt := by
  subst h1
  obtain ⟨gm, gN, gB, gT, gD, hX, hBs, hMv, hWk, hPk, hFv, hNu, hNc, hBo, hBc, hTk, hTc, hDp, hDc, hBk, hbk, hVN, hVT, hVD⟩ := hR
  exact ⟨gm, gN, gB, gT, gD, hX, hBs, hMv, hWk, hPk, hFv, hNu, hNc, hBo, hBc, hTk, hTc, hDp, hDc, hBk, hbk, hVN, hVT.c h2, hVD.c h3⟩
theorem zDk_b {wt Av : Int → Int} {p d : Int} (hw : ∀ s : Int, 0 ≤ s → s < 41 → 0 ≤ wt s) (hs : zs wt 41 = 10 ^ 3) (hA : ∀ v, 0 ≤ Av v ∧ Av v ≤ 10 ^ 0) : ∀ k : Nat, 0 ≤ zDk wt p Av d k ∧ zDk wt p Av d k ≤ k * 10 ^ (0 + k * 3)
  | 0 => by simp [zDk]
  | k + 1 => by
    have h1 := zDk_b (p := p) (d := d) hw hs hA k
    have h2 := zFal_b (p := p) (d := d) hw hs (zIt_b (p := p) hw hs hA k)
    have e : (10 : Int) ^ (0 + (k + 1) * 3) = 10 ^ (0 + k * 3) * 1000 := by rw [show 0 + (k + 1) * 3 = 0 + k * 3 + 3 by omega, Int.pow_add]; rfl
    have e2 : (10 : Int) ^ (0 + k * 3 + 3) = 10 ^ (0 + k * 3) * 1000 := by rw [Int.pow_add]; rfl
    rw [e2] at h2
    rw [e]
    have e3 : ((k + 1 : Nat) : Int) * (10 ^ (0 + k * 3) * 1000) = k * 10 ^ (0 + k * 3) * 1000 + 10 ^ (0 + k * 3) * 1000 := by rw [Int.natCast_succ]; grind
    show 0 ≤ zDk wt p Av d k * 1000 + _ ∧ zDk wt p Av d k * 1000 + _ ≤ _
    rw [e3]
    omega
theorem zcap0 : ∀ p : Fin 21, ∀ T : Fin 21, ∀ j : Fin 41, min (101 + (p.val : Int) * (40 - j.val)) ((j.val : Int) * ((T.val : Int) - p.val)) ≤ 256 := by decide +kernel
theorem zcap {pu p T n j : Int} (hpu : 0 ≤ pu ∧ pu ≤ 100) (hp : 0 ≤ p ∧ p ≤ 20) (hT : 0 ≤ T ∧ T < 21) (hn : n ≤ 40) (hj : 0 ≤ j ∧ j ≤ n) : min (pu + p * (n - j) + 1) (j * (T - p)) ≤ 256 := by
  have h := zcap0 ⟨p.toNat, by omega⟩ ⟨T.toNat, by omega⟩ ⟨j.toNat, by omega⟩
  simp only at h
  rw [show ((p.toNat : Nat) : Int) = p by omega, show ((T.toNat : Nat) : Int) = T by omega, show ((j.toNat : Nat) : Int) = j by omega] at h
  have h2 : p * (n - j) ≤ p * (40 - j) := Int.mul_le_mul_of_nonneg_left (by omega) hp.1
  omega
set_option maxRecDepth 100000 in
set_option maxHeartbeats 4000000 in
theorem lp_X6_ruin {Γ : zG} {ω0 : zWd} {l0 : Launch} {X : zX} {x : Nat} {bk : Nat → Int → Int} {nv : Int} {np : Nat} {tv dv : Int → Int} {rt : Nat} {pu p b n : Int} {T : Int} {wt : Int → Int} (C : Zc Γ l0 X rmX6_ruin 7 cX6_ruin RX6) (E : Ze Γ (zpi (fun r w => zOut x (x + 58) ω0 w ∧ (((zRt bk b ∧ (0 ≤ pu ∧ pu ≤ 100) ∧ (0 ≤ p ∧ p ≤ 20) ∧ (1 ≤ n ∧ n ≤ 40)) ∧ r = 1 ∧ zRH X w x bk (zSm (zwt (bk b.toNat)) p 1000 (fun v => if v = (pu : Int) then 1 else 0) n.toNat) (3 * n.toNat) (fun k => if 1 ≤ k ∧ k ≤ (n : Int) then zFt (zwt (bk b.toNat)) p (zIt (zwt (bk b.toNat)) p (fun v => if v = (pu : Int) then 1 else 0) (k - 1).toNat) else 0) (fun k => if 1 ≤ k ∧ k ≤ 20 then zDk (zwt (bk b.toNat)) p (fun v => if v = (pu : Int) then 1 else 0) k n.toNat else 0) n.toNat) ∨ (¬ (zRt bk b ∧ (0 ≤ pu ∧ pu ≤ 100) ∧ (0 ≤ p ∧ p ≤ 20) ∧ (1 ≤ n ∧ n ≤ 40)) ∧ r = 0 ∧ zRH X w x bk nv np tv dv rt)))) 0 0 (some .boolean)) (hc : (zRt bk b ∧ (0 ≤ pu ∧ pu ≤ 100) ∧ (0 ≤ p ∧ p ≤ 20) ∧ (1 ≤ n ∧ n ≤ 40))) (hww : ∀ s : Int, 0 ≤ s → s < 41 → wt s = (zwt (bk b.toNat)) s) (hwt : ∀ s : Int, 0 ≤ s → s < 41 → 0 ≤ wt s) (hw0 : ∀ s : Int, 0 ≤ s → s < 41 → T < s → wt s = 0) (hsum : zs wt 41 = 10 ^ 3) (hT : 0 ≤ T ∧ T < 21) : ∀ (j t : Nat) (ω : zWd) (gf gs : Int → Int), (t : Int) + j = n → zOut x (x + 58) ω0 ω → zWk X ω (x + 3) p (n - t) (pu + p * t) (0 + t * 3) T 1000 3 wt (zIt wt p (fun v => if v = (pu : Int) then 1 else 0) t) gf gs → zRH X ω x bk (zSm wt p 1000 (fun v => if v = (pu : Int) then 1 else 0) t) 0 (fun k => if 1 ≤ k ∧ k ≤ (t : Int) then zFt wt p (zIt wt p (fun v => if v = (pu : Int) then 1 else 0) (k - 1).toNat) else 0) (fun k => if 1 ≤ k ∧ k ≤ 20 then zDk wt p (fun v => if v = (pu : Int) then 1 else 0) k t else 0) rt → Zw Γ ω 0 0 101 [some (.ref x), some (.int (zI pu)), some (.int (zI p)), some (.int (zI b)), some (.int (zI n)), some (.ref (x + 42 + 2 * b.toNat)), some (.int (zI ((t : Int) + 1)))] [] := by
  obtain ⟨hy, hpu, hp0, hn⟩ := id hc
  have hA : ∀ v : Int, 0 ≤ (fun v => if v = (pu : Int) then (1 : Int) else 0) v ∧ (fun v => if v = (pu : Int) then (1 : Int) else 0) v ≤ 10 ^ 0 := fun v => by (try dsimp only); split <;> simp
  have hA0 : ∀ v : Int, (v < 0 ∨ pu + 1 ≤ v) → (fun v => if v = (pu : Int) then (1 : Int) else 0) v = 0 := fun v h => if_neg (by omega)
  intro j
  induction j with
  | zero =>
    intro t ω gf gs hj hout hW hR
    have e1 : n.toNat = t := by omega
    have e2 : n = t := by omega
    have hR0 := hR
    obtain ⟨gm, gN, gB, gT, gD, hX, hBs, hMv, hWk, hPk, hFv, hNu, hNc, hBo, hBc, hTk, hTc, hDp, hDc, hBk, hbk, hVN, hVT, hVD⟩ := hR
    refine z_iload (i := 6) (pc := 101) C rfl dX6_ruin_101 ?_
    refine z_iload (i := 4) (pc := 103) C rfl dX6_ruin_103 ?_
    refine z_icmp_gt (tgt := 127) (pc := 105) C dX6_ruin_105 (by decide) (fun h105 => ?_) (fun h105 => absurd h105 (by omega))
    refine z_aload_n (i := 0) (pc := 127) C rfl rfl dX6_ruin_127 ?_
    refine z_iconst (pc := 128) C dX6_ruin_128 ?_
    refine z_iload (i := 4) (pc := 129) C rfl dX6_ruin_129 ?_
    refine z_imul (pc := 131) C dX6_ruin_131 ?_
    refine p_X6_58 (pc := 132) C hX (Nat.le_of_ble_eq_true rfl) dX6_ruin_132 ?_
    rw [show (3 : Int) * n = ((3 * n.toNat : Nat) : Int) by omega]
    refine z_aload_n (i := 0) (pc := 135) C rfl rfl dX6_ruin_135 ?_
    refine z_iload (i := 4) (pc := 136) C rfl dX6_ruin_136 ?_
    refine p_X6_62 (pc := 138) C (zU_s _ _ _) (Nat.le_of_ble_eq_true rfl) dX6_ruin_138 ?_
    rw [zU_u, show n = ((n.toNat : Nat) : Int) by omega]
    refine z_iconst (pc := 141) C dX6_ruin_141 ?_
    exact z_zret (pc := 142) C E (by decide +kernel) dX6_ruin_142 ⟨_, rfl, ⟨hout.u (by omega) (by omega), Or.inl ⟨hc, rfl, by
  have h := (hR0.ob (np2 := 3 * n.toNat) (rt2 := n.toNat)).c (nv2 := zSm (zwt (bk b.toNat)) p 1000 (fun v => if v = (pu : Int) then 1 else 0) n.toNat) (tv2 := (fun k => if 1 ≤ k ∧ k ≤ (n : Int) then zFt (zwt (bk b.toNat)) p (zIt (zwt (bk b.toNat)) p (fun v => if v = (pu : Int) then 1 else 0) (k - 1).toNat) else 0)) (dv2 := (fun k => if 1 ≤ k ∧ k ≤ 20 then zDk (zwt (bk b.toNat)) p (fun v => if v = (pu : Int) then 1 else 0) k n.toNat else 0)) (by rw [e1, zSm_c hww]) (fun r a b => by
    (try dsimp only)
    by_cases q : 1 ≤ r ∧ r ≤ n
    · rw [if_pos q, if_pos (by omega), zIt_c hww, zFt_c hww]
    · rw [if_neg q, if_neg (by omega)]) (fun r a b => by
    (try dsimp only)
    rw [e1, zDk_c hww])
  exact h⟩⟩⟩
  | succ j ih =>
    intro t ω gf gs hj hout hW hR
    have hR0 := hR
    have hW0 := hW
    obtain ⟨gm, gN, gB, gT, gD, hX, hBs, hMv, hWk, hPk, hFv, hNu, hNc, hBo, hBc, hTk, hTc, hDp, hDc, hBk, hbk, hVN, hVT, hVD⟩ := hR
    obtain ⟨rn, rx, un, ux, gn, gx, hw, hN, hq, he, hf, hfc, hs, hsc, hn, hnc, hx, hxc, hu, hux, hV, hUn, hU, hUx, hUf⟩ := hW
    have hpt : p * (t : Int) ≤ 20 * 40 := Int.mul_le_mul hp0.2 (by omega) (by omega) (by omega)
    have hpt0 : 0 ≤ p * (t : Int) := Int.mul_nonneg hp0.1 (by omega)
    have hA' := zIt_b (p := p) hwt hsum hA t
    have hA0' := zIt_0 (p := p) (wt := wt) hA0 t
    have hSb := zSm_b (p := p) hwt hsum hA t
    have hP1 : (10 : Int) ^ (0 + t * 3) ≤ 10 ^ 120 := zp10 (by omega)
    have hP0 : (0 : Int) < 10 ^ (0 + t * 3) := zpw (by decide) _
    have hP2 : (10 : Int) ^ (0 + t * 3 + 3) ≤ 10 ^ 120 := zp10 (by omega)
    have h6 : 41 * (t : Int) * 10 ^ (0 + t * 3) ≤ 1640 * 10 ^ 120 := Int.mul_le_mul (by omega) hP1 (by omega) (by omega)
    have h7 : (t : Int) * 10 ^ (0 + t * 3) ≤ 40 * 10 ^ 120 := Int.mul_le_mul (by omega) hP1 (by omega) (by omega)
    have hbig : 1640 * (10 : Int) ^ 120 * 1000 + 41 * 10 ^ 120 < zL ^ 11 := by decide
    have hsum' : zs wt 41 = 1000 := hsum
    have hcp1 : min (pu + p * (t : Int) + p + 1) ((n - t - 1) * (T - p)) ≤ 256 := by
      have h := zcap (pu := pu) (p := p) (T := T) (n := n) (j := n - t - 1) hpu hp0 hT (by omega) (by omega)
      rw [show n - (n - (t : Int) - 1) = t + 1 by omega, Int.mul_add, Int.mul_one] at h
      omega
    have etv : (if 1 ≤ (t : Int) + 1 ∧ (t : Int) + 1 ≤ (t : Int) then zFt wt p (zIt wt p (fun v => if v = (pu : Int) then 1 else 0) ((t : Int) + 1 - 1).toNat) else 0) = 0 := if_neg (by omega)
    have hFt := zFt_d (p := p) (D := 20) hA0' hw0 (by omega) (by omega)
    refine z_iload (i := 6) (pc := 101) C rfl dX6_ruin_101 ?_
    refine z_iload (i := 4) (pc := 103) C rfl dX6_ruin_103 ?_
    refine z_icmp_gt (tgt := 127) (pc := 105) C dX6_ruin_105 (by decide) (fun h105 => absurd h105 (by omega)) (fun h105 => ?_)
    refine z_aload_n (i := 0) (pc := 108) C rfl rfl dX6_ruin_108 ?_
    refine z_iload (i := 6) (pc := 109) C rfl dX6_ruin_109 ?_
    refine z_callVv (pc := 111) C (c_X6_noteTick hW0 hR0 hp0 (by omega) (by omega) (by omega) (by omega) hwt hw0 hsum (by omega) hA' hA0' (by omega) (by rw [etv]; omega) (fun k a b => by
        (try dsimp only)
        rw [if_pos ⟨a, b⟩]
        have := zDk_b (p := p) (d := k) hwt hsum hA t
        omega) (by rw [etv]; show 0 ≤ zSm wt p (10 ^ 3) _ t ∧ zSm wt p (10 ^ 3) _ t * 1000 + _ < _; omega)) k_X6_137 zy_X6_noteTick rfl rfl hX rfl rfl ⟨(Nat.le_of_ble_eq_true rfl), (Nat.le_of_ble_eq_true rfl)⟩ (Nat.le_of_ble_eq_true rfl) dX6_ruin_111 ⟨rfl, rfl⟩ ⟨(Nat.le_of_ble_eq_true rfl), (Nat.le_of_ble_eq_true rfl)⟩ (fun ω' hp => ?_)
    obtain ⟨hout2, ⟨gf2, gs2, hW⟩, hR⟩ := hp
    have hW1 := hW
    have hR1 := hR
    obtain ⟨gm, gN, gB, gT, gD, hX, hBs, hMv, hWk, hPk, hFv, hNu, hNc, hBo, hBc, hTk, hTc, hDp, hDc, hBk, hbk, hVN, hVT, hVD⟩ := hR
    obtain ⟨rn, rx, un, ux, gn, gx, hw, hN, hq, he, hf, hfc, hs, hsc, hn, hnc, hx, hxc, hu, hux, hV, hUn, hU, hUx, hUf⟩ := hW
    refine z_aload_n (i := 0) (pc := 114) C rfl rfl dX6_ruin_114 ?_
    refine g_X6_22 (pc := 115) C hX rfl dX6_ruin_115 ?_
    refine z_callVv (pc := 118) C (d_X5_tick hW1 hp0 (by omega) (by omega) (by omega) (by omega) hwt hw0 hsum (by omega) hA' hA0' (by omega) hcp1) k_X6_141 zy_X5_tick rfl rfl hw rfl rfl ⟨(Nat.le_of_ble_eq_true rfl), (Nat.le_of_ble_eq_true rfl)⟩ (Nat.le_of_ble_eq_true rfl) dX6_ruin_118 ⟨rfl, rfl⟩ ⟨(Nat.le_of_ble_eq_true rfl), (Nat.le_of_ble_eq_true rfl)⟩ (fun ω' hp => ?_)
    obtain ⟨hout3, -, hW3⟩ := hp
    have hR3 := hR1.wk (hout3.w (by omega) (by omega)) ⟨_, _, _, _, hW3.q⟩
    have e2 : pu + p * (t : Int) + p = pu + p * ((t + 1 : Nat) : Int) := by rw [Int.natCast_succ, Int.mul_add, Int.mul_one]; omega
    rw [show n - (t : Int) - 1 = n - ((t + 1 : Nat) : Int) by omega, e2, show 0 + t * 3 + 3 = 0 + (t + 1) * 3 by omega] at hW3
    refine z_iinc (i := 6) (lv' := [_, _, _, _, _, _, _]) (pc := 121) C rfl (by decide) rfl rfl dX6_ruin_121 ?_
    refine z_goto (tgt := 101) (pc := 124) C dX6_ruin_124 (by decide) ?_
    refine ih (t + 1) _ gf2 gs2 (by omega) ((hout.tr hout2).tr (hout3.w (by omega) (by omega))) hW3 (hR3.c ?_ ?_ ?_)
    · show _ = zSm wt p 1000 _ t * 1000 + zFt wt p _
      rw [etv, Int.zero_add, hFt]
    · intro r a b
      (try dsimp only)
      by_cases e : r = (t : Int) + 1
      · rw [e, zup_s, etv, Int.zero_add, hFt, if_pos (by omega), show ((t : Int) + 1 - 1).toNat = t by omega]
      · rw [zup_n e]
        by_cases q : 1 ≤ r ∧ r ≤ (t : Int)
        · rw [if_pos q, if_pos (by omega)]
        · rw [if_neg q, if_neg (by omega)]
    · intro r a b
      (try dsimp only)
      by_cases q : 1 ≤ r ∧ r ≤ 20
      · rw [if_pos q, if_pos q, if_pos q]; rfl
      · rw [if_neg q, if_neg q, if_neg q]
set_option maxRecDepth 100000 in
set_option maxHeartbeats 4000000 in
theorem c_X6_ruin {l0 : Launch} {X : zX} {x : Nat} {bk : Nat → Int → Int} {nv : Int} {np : Nat} {tv dv : Int → Int} {rt : Nat} {pu p b n : Int} {ω : zWd} (hR : zRH X ω x bk nv np tv dv rt) (hpur : -2147483648 ≤ pu ∧ pu < 2147483648) (hpr : -2147483648 ≤ p ∧ p < 2147483648) (hbr : -2147483648 ≤ b ∧ b < 2147483648) (hnr : -2147483648 ≤ n ∧ n < 2147483648) : zMet l0 yX6_ruin cX6_ruin 7 (some .boolean) rmX6_ruin X [.ref x, .int (zI pu), .int (zI p), .int (zI b), .int (zI n)] ω (zpi (fun r w => zOut x (x + 58) ω w ∧ (((zRt bk b ∧ (0 ≤ pu ∧ pu ≤ 100) ∧ (0 ≤ p ∧ p ≤ 20) ∧ (1 ≤ n ∧ n ≤ 40)) ∧ r = 1 ∧ zRH X w x bk (zSm (zwt (bk b.toNat)) p 1000 (fun v => if v = (pu : Int) then 1 else 0) n.toNat) (3 * n.toNat) (fun k => if 1 ≤ k ∧ k ≤ (n : Int) then zFt (zwt (bk b.toNat)) p (zIt (zwt (bk b.toNat)) p (fun v => if v = (pu : Int) then 1 else 0) (k - 1).toNat) else 0) (fun k => if 1 ≤ k ∧ k ≤ 20 then zDk (zwt (bk b.toNat)) p (fun v => if v = (pu : Int) then 1 else 0) k n.toNat else 0) n.toNat) ∨ (¬ (zRt bk b ∧ (0 ≤ pu ∧ pu ≤ 100) ∧ (0 ≤ p ∧ p ≤ 20) ∧ (1 ≤ n ∧ n ≤ 40)) ∧ r = 0 ∧ zRH X w x bk nv np tv dv rt)))) := by
  refine zMet.intro (by decide) (Nat.le_of_ble_eq_true rfl) ?_
  intro Γ C E N
  show Zw Γ ω 0 0 0 [some _, some _, some _, some _, some _, none, none] []
  have hR0 := hR
  obtain ⟨gm, gN, gB, gT, gD, hX, hBs, hMv, hWk, hPk, hFv, hNu, hNc, hBo, hBc, hTk, hTc, hDp, hDc, hBk, hbk, hVN, hVT, hVD⟩ := hR
  refine z_aload_n (i := 0) (pc := 0) C rfl rfl dX6_ruin_0 ?_
  refine z_iload_n (i := 3) (pc := 1) C rfl rfl dX6_ruin_1 ?_
  refine z_callVq (pc := 2) C (c_X6_findRight hR0 hbr) k_X6_81 zy_X6_findRight rfl rfl hX rfl rfl ⟨(Nat.le_of_ble_eq_true rfl), (Nat.le_of_ble_eq_true rfl)⟩ (Nat.le_of_ble_eq_true rfl) dX6_ruin_2 ⟨rfl, rfl⟩ ⟨(Nat.le_of_ble_eq_true rfl), (Nat.le_of_ble_eq_true rfl)⟩ (fun rv ω' hp => ?_)
  obtain ⟨hw', hp⟩ := hp
  rw [hw']
  clear hw'
  rcases hp with ⟨hyes, rfl⟩ | ⟨hno, rfl⟩
  · obtain ⟨b0, b1, bs⟩ := id hyes
    refine z_astore (i := 5) (lv' := [_, _, _, _, _, _, _]) (pc := 5) C (by decide) rfl rfl dX6_ruin_5 ?_
    refine z_aload (i := 5) (pc := 7) C rfl dX6_ruin_7 ?_
    refine z_ifnull (pc := 9) C dX6_ruin_9 ?_
    refine z_iload_n (i := 1) (pc := 12) C rfl rfl dX6_ruin_12 ?_
    refine z_iconst (pc := 13) C dX6_ruin_13 ?_
    refine z_bipush (pc := 14) C (by decide +kernel) dX6_ruin_14 ?_
    refine z_callSi (pc := 16) C (c_X6_isWithin) k_X6_70 zy_X6_isWithin.2 rfl rfl ⟨(Nat.le_of_ble_eq_true rfl), (Nat.le_of_ble_eq_true rfl)⟩ (Nat.le_of_ble_eq_true rfl) dX6_ruin_16 ⟨rfl, rfl⟩ ⟨(Nat.le_of_ble_eq_true rfl), (Nat.le_of_ble_eq_true rfl)⟩ (fun rv ω' hp => ?_)
    obtain ⟨hw', hi⟩ := hp
    rw [hw']
    clear hw'
    refine z_if_eq (tgt := 43) (pc := 19) C dX6_ruin_19 (by decide) (fun h19 => ?_) (fun h19 => ?_)
    · refine z_iconst (pc := 43) C dX6_ruin_43 ?_
      exact z_zret (pc := 44) C E (by decide +kernel) dX6_ruin_44 ⟨_, rfl, ⟨zOut.rf, Or.inr ⟨by first | exact (fun h => hno h.1) | exact (fun h => by have := h.2; omega), rfl, hR0⟩⟩⟩
    · refine z_iload_n (i := 2) (pc := 22) C rfl rfl dX6_ruin_22 ?_
      refine z_iconst (pc := 23) C dX6_ruin_23 ?_
      refine z_bipush (pc := 24) C (by decide +kernel) dX6_ruin_24 ?_
      refine z_callSi (pc := 26) C (c_X6_isWithin) k_X6_70 zy_X6_isWithin.2 rfl rfl ⟨(Nat.le_of_ble_eq_true rfl), (Nat.le_of_ble_eq_true rfl)⟩ (Nat.le_of_ble_eq_true rfl) dX6_ruin_26 ⟨rfl, rfl⟩ ⟨(Nat.le_of_ble_eq_true rfl), (Nat.le_of_ble_eq_true rfl)⟩ (fun rv ω' hp => ?_)
      obtain ⟨hw', hi2⟩ := hp
      rw [hw']
      clear hw'
      refine z_if_eq (tgt := 43) (pc := 29) C dX6_ruin_29 (by decide) (fun h29 => ?_) (fun h29 => ?_)
      · refine z_iconst (pc := 43) C dX6_ruin_43 ?_
        exact z_zret (pc := 44) C E (by decide +kernel) dX6_ruin_44 ⟨_, rfl, ⟨zOut.rf, Or.inr ⟨by first | exact (fun h => hno h.1) | exact (fun h => by have := h.2; omega), rfl, hR0⟩⟩⟩
      · refine z_iload (i := 4) (pc := 32) C rfl dX6_ruin_32 ?_
        refine z_iconst (pc := 34) C dX6_ruin_34 ?_
        refine z_bipush (pc := 35) C (by decide +kernel) dX6_ruin_35 ?_
        refine z_callSi (pc := 37) C (c_X6_isWithin) k_X6_70 zy_X6_isWithin.2 rfl rfl ⟨(Nat.le_of_ble_eq_true rfl), (Nat.le_of_ble_eq_true rfl)⟩ (Nat.le_of_ble_eq_true rfl) dX6_ruin_37 ⟨rfl, rfl⟩ ⟨(Nat.le_of_ble_eq_true rfl), (Nat.le_of_ble_eq_true rfl)⟩ (fun rv ω' hp => ?_)
        obtain ⟨hw', hi3⟩ := hp
        rw [hw']
        clear hw'
        refine z_if_ne (tgt := 45) (pc := 40) C dX6_ruin_40 (by decide) (fun h40 => ?_) (fun h40 => ?_)
        · refine z_aload_n (i := 0) (pc := 45) C rfl rfl dX6_ruin_45 ?_
          refine z_lconst (v := 1) (pc := 46) C (by decide +kernel) dX6_ruin_46 ?_
          refine z_callVv (pc := 47) C (c_X6_startNumber hR0 (by decide)) k_X6_116 zy_X6_startNumber rfl rfl hX rfl rfl ⟨(Nat.le_of_ble_eq_true rfl), (Nat.le_of_ble_eq_true rfl)⟩ (Nat.le_of_ble_eq_true rfl) dX6_ruin_47 ⟨rfl, rfl⟩ ⟨(Nat.le_of_ble_eq_true rfl), (Nat.le_of_ble_eq_true rfl)⟩ (fun ω' hp => ?_)
          obtain ⟨⟨gs1, hs1⟩, hR⟩ := hp
          have hout1 : zOut x (x + 58) ω ω' := by rw [hs1]; exact (zOut.rf.u (by omega) (by omega)).u (by omega) (by omega)
          have hR1 := hR
          obtain ⟨gm, gN, gB, gT, gD, hX, hBs, hMv, hWk, hPk, hFv, hNu, hNc, hBo, hBc, hTk, hTc, hDp, hDc, hBk, hbk, hVN, hVT, hVD⟩ := hR
          obtain ⟨T0, Wh0, cp0, wt0, hWq⟩ := hWk
          obtain ⟨rn, rx, p1, l1, R1, n1, un, ux, gf, gs, gn, gx, hw, hN, hq, he, hwrest⟩ := id hWq
          have hf0 := hbk b.toNat (by omega)
          refine z_aload_n (i := 0) (pc := 50) C rfl rfl dX6_ruin_50 ?_
          refine g_X6_22 (pc := 51) C hX rfl dX6_ruin_51 ?_
          refine g_X6_120 (pc := 54) C hw rfl dX6_ruin_54 ?_
          refine z_aload (i := 5) (pc := 57) C rfl dX6_ruin_57 ?_
          refine z_iconst (pc := 59) C dX6_ruin_59 ?_
          refine z_callVv (pc := 60) C (c_X1_loadOne hq he (hBk b.toNat (by omega)).1 (hBk b.toNat (by omega)).2 hf0 (by omega)) k_X6_124 zy_X1_loadOne rfl rfl hq rfl rfl ⟨(Nat.le_of_ble_eq_true rfl), (Nat.le_of_ble_eq_true rfl)⟩ (Nat.le_of_ble_eq_true rfl) dX6_ruin_60 ⟨rfl, rfl⟩ ⟨(Nat.le_of_ble_eq_true rfl), (Nat.le_of_ble_eq_true rfl)⟩ (fun ω' hp => ?_)
          obtain ⟨T, wt, rfl, hT, hw1, hw2, hw3⟩ := hp
          have hWq2 := hWq.cl (t2 := T) (w2 := 1000) (p2 := 3) (g2 := wt)
          have hR := hR1.wk (zCl_out (a := x + 3) (by omega) (by omega)) ⟨_, _, _, _, hWq2⟩
          have hout2 := hout1.tr (zCl_out (X := X) (ω := ω') (a := x + 3) (t2 := T) (w2 := 1000) (p2 := 3) (g2 := wt) (lo := x) (hi := x + 58) (by omega) (by omega))
          have hwt : ∀ s : Int, 0 ≤ s → s < 41 → 0 ≤ wt s := fun s a c => by
            by_cases e : s < 21
            · rw [hw1 s a e, Int.one_mul]; exact (hf0 s a (by omega)).1
            · rw [hw2 s a c (by omega)]; omega
          have hww : ∀ s : Int, 0 ≤ s → s < 41 → wt s = zwt (bk b.toNat) s := fun s a c => by
            unfold zwt
            by_cases e : s < 21
            · rw [hw1 s a e, Int.one_mul, if_pos ⟨a, e⟩]
            · rw [hw2 s a c (by omega), if_neg (by omega)]
          have hsum : zs wt 41 = 10 ^ 3 := by rw [zs_c (g := zwt (bk b.toNat)) (fun k a c => hww k a (by omega)), zwt_s, bs]; rfl
          have hcp0 := zcap (pu := pu) (p := p) (T := T) (n := n) (j := n) (by omega) (by omega) hT (by omega) (by omega)
          have hR2 := hR
          obtain ⟨gm, gN, gB, gT, gD, hX, hBs, hMv, hWk, hPk, hFv, hNu, hNc, hBo, hBc, hTk, hTc, hDp, hDc, hBk, hbk, hVN, hVT, hVD⟩ := hR
          obtain ⟨rn, rx, p1, l1, R1, n1, un, ux, gf, gs, gn, gx, hw, hN, hq, he, hwrest⟩ := id hWq2
          refine z_aload_n (i := 0) (pc := 63) C rfl rfl dX6_ruin_63 ?_
          refine g_X6_22 (pc := 64) C hX rfl dX6_ruin_64 ?_
          refine z_iload_n (i := 1) (pc := 67) C rfl rfl dX6_ruin_67 ?_
          refine z_iload_n (i := 2) (pc := 68) C rfl rfl dX6_ruin_68 ?_
          refine z_iload (i := 4) (pc := 69) C rfl dX6_ruin_69 ?_
          refine z_aload_n (i := 0) (pc := 71) C rfl rfl dX6_ruin_71 ?_
          refine g_X6_45 (pc := 72) C hX rfl dX6_ruin_72 ?_
          refine z_iconst (pc := 75) C dX6_ruin_75 ?_
          refine z_callVv (pc := 76) C (c_X5_begin (cp := 3) (wp := 0) (w0 := 1) (pu := pu) (p := p) (l := n) hWq2 hNu hNc hVN (by omega) (by omega) (by decide) (by omega) (by omega) (by omega) (by omega) (by rw [Int.sub_self, Int.mul_zero] at hcp0; omega) (by omega)) k_X6_130 zy_X5_begin rfl rfl hw rfl rfl ⟨(Nat.le_of_ble_eq_true rfl), (Nat.le_of_ble_eq_true rfl)⟩ (Nat.le_of_ble_eq_true rfl) dX6_ruin_76 ⟨rfl, rfl⟩ ⟨(Nat.le_of_ble_eq_true rfl), (Nat.le_of_ble_eq_true rfl)⟩ (fun ω' hp => ?_)
          obtain ⟨gf2, gs2, hout3, hW3⟩ := hp
          have hR := hR2.wk hout3 ⟨_, _, _, _, hW3.q⟩
          have hR3 := hR
          have hout4 := hout2.tr (hout3.w (by omega) (by omega))
          obtain ⟨gm, gN, gB, gT, gD, hX, hBs, hMv, hWk, hPk, hFv, hNu, hNc, hBo, hBc, hTk, hTc, hDp, hDc, hBk, hbk, hVN, hVT, hVD⟩ := hR
          refine z_aload_n (i := 0) (pc := 79) C rfl rfl dX6_ruin_79 ?_
          refine z_lconst (v := 0) (pc := 80) C (by decide +kernel) dX6_ruin_80 ?_
          refine z_callVv (pc := 81) C (c_X6_startNumber hR3 (by decide)) k_X6_116 zy_X6_startNumber rfl rfl hX rfl rfl ⟨(Nat.le_of_ble_eq_true rfl), (Nat.le_of_ble_eq_true rfl)⟩ (Nat.le_of_ble_eq_true rfl) dX6_ruin_81 ⟨rfl, rfl⟩ ⟨(Nat.le_of_ble_eq_true rfl), (Nat.le_of_ble_eq_true rfl)⟩ (fun ω' hp => ?_)
          obtain ⟨⟨gs4, hs4⟩, hR⟩ := hp
          have hW4 := hW3.fr (ω2 := ω') (fun b h1 h2 => by rw [hs4, zU_n (by omega), zU_n (by omega)])
          have hout5 : zOut x (x + 58) ω ω' := by rw [hs4]; exact (hout4.u (by omega) (by omega)).u (by omega) (by omega)
          have hR4 := hR
          obtain ⟨gm, gN, gB, gT, gD, hX, hBs, hMv, hWk, hPk, hFv, hNu, hNc, hBo, hBc, hTk, hTc, hDp, hDc, hBk, hbk, hVN, hVT, hVD⟩ := hR
          refine z_aload_n (i := 0) (pc := 84) C rfl rfl dX6_ruin_84 ?_
          refine g_X6_52 (pc := 85) C hX rfl dX6_ruin_85 ?_
          refine z_callVv (pc := 88) C (c_X4_wipe hTk hTc ⟨⟨by decide, by decide⟩, ⟨by decide, by decide⟩, by omega, by omega⟩) k_X6_134 zy_X4_wipe rfl rfl hTk rfl rfl ⟨(Nat.le_of_ble_eq_true rfl), (Nat.le_of_ble_eq_true rfl)⟩ (Nat.le_of_ble_eq_true rfl) dX6_ruin_88 ⟨rfl, rfl⟩ ⟨(Nat.le_of_ble_eq_true rfl), (Nat.le_of_ble_eq_true rfl)⟩ (fun ω' hp => ?_)
          subst hp
          have hW5 := hW4.fr (ω2 := zU _ (x + 39) (zAJ X (41 * 11) (zfill gT 0 (((41 : Nat) : Int) * ((11 : Nat) : Int))))) (fun b h1 h2 => zU_n (by omega))
          have hR := hR4.tk (g2 := zfill gT 0 (((41 : Nat) : Int) * ((11 : Nat) : Int))) (zfill_RV (by omega))
          have hR5 := hR
          obtain ⟨gm, gN, gB, gT, gD, hX, hBs, hMv, hWk, hPk, hFv, hNu, hNc, hBo, hBc, hTk, hTc, hDp, hDc, hBk, hbk, hVN, hVT, hVD⟩ := hR
          refine z_aload_n (i := 0) (pc := 91) C rfl rfl dX6_ruin_91 ?_
          refine g_X6_55 (pc := 92) C hX rfl dX6_ruin_92 ?_
          refine z_callVv (pc := 95) C (c_X4_wipe hDp hDc ⟨⟨by decide, by decide⟩, ⟨by decide, by decide⟩, by omega, by omega⟩) k_X6_134 zy_X4_wipe rfl rfl hDp rfl rfl ⟨(Nat.le_of_ble_eq_true rfl), (Nat.le_of_ble_eq_true rfl)⟩ (Nat.le_of_ble_eq_true rfl) dX6_ruin_95 ⟨rfl, rfl⟩ ⟨(Nat.le_of_ble_eq_true rfl), (Nat.le_of_ble_eq_true rfl)⟩ (fun ω' hp => ?_)
          subst hp
          have hW6 := hW5.fr (ω2 := zU _ (x + 41) (zAJ X (21 * 11) (zfill gD 0 (((21 : Nat) : Int) * ((11 : Nat) : Int))))) (fun b h1 h2 => zU_n (by omega))
          have hR6 := hR5.dp (g2 := zfill gD 0 (((21 : Nat) : Int) * ((11 : Nat) : Int))) (zfill_RV (by omega))
          refine z_iconst (pc := 98) C dX6_ruin_98 ?_
          refine z_istore (i := 6) (lv' := [_, _, _, _, _, _, _]) (pc := 99) C (by decide) rfl rfl dX6_ruin_99 ?_
          exact lp_X6_ruin (ω0 := ω) C E ⟨hyes, by omega, by omega, by omega⟩ hww hwt hw3 hsum hT n.toNat 0 _ gf2 gs2 (by omega) ((hout5.u (by omega) (by omega)).u (by omega) (by omega)) (by
            have e1 : n - ((0 : Nat) : Int) = n := by omega
            have e2 : pu + p * ((0 : Nat) : Int) = pu := by simp
            rw [e1, e2]
            exact hW6) (hR6.c rfl (fun r a b => by (try dsimp only); rw [if_neg (by omega)]) (fun r a b => by
            (try dsimp only)
            split <;> rfl))
        · refine z_iconst (pc := 43) C dX6_ruin_43 ?_
          exact z_zret (pc := 44) C E (by decide +kernel) dX6_ruin_44 ⟨_, rfl, ⟨zOut.rf, Or.inr ⟨by first | exact (fun h => hno h.1) | exact (fun h => by have := h.2; omega), rfl, hR0⟩⟩⟩
  · refine z_astoreN (i := 5) (lv' := [_, _, _, _, _, _, _]) (pc := 5) C (by decide) rfl rfl dX6_ruin_5 ?_
    refine z_aloadN (i := 5) (pc := 7) C rfl dX6_ruin_7 ?_
    refine z_ifnullN (tgt := 43) (pc := 9) C dX6_ruin_9 (by decide) ?_
    refine z_iconst (pc := 43) C dX6_ruin_43 ?_
    exact z_zret (pc := 44) C E (by decide +kernel) dX6_ruin_44 ⟨_, rfl, ⟨zOut.rf, Or.inr ⟨by first | exact (fun h => hno h.1) | exact (fun h => by have := h.2; omega), rfl, hR0⟩⟩⟩
