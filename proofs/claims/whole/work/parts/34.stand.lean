set_option maxRecDepth 100000 in
set_option maxHeartbeats 4000000 in
theorem lp_X6_stand {Γ : zG} {ω0 : zWd} {l0 : Launch} {X : zX} {x : Nat} {bk : Nat → Int → Int} {nv : Int} {np : Nat} {tv dv : Int → Int} {rt : Nat} {p T : Int} {pu n cp : Nat} {wt : Int → Int} (C : Zc Γ l0 X rmX6_stand 5 cX6_stand RX6) (E : Ze Γ (zpv (fun w => zOut x (x + 58) ω0 w ∧ (∃ T2 Wh2 cp2 wt2, zWq X w (x + 3) T2 Wh2 cp2 wt2) ∧ zRH X w x bk (nv * (10 ^ cp) ^ n - zSm wt p (10 ^ cp) (fun v => if v = ((pu : Nat) : Int) then nv else 0) n) (np + n * cp) tv dv rt)) 0 0 none) (hp0 : 0 ≤ p ∧ p ≤ 12) (hpu : pu ≤ 24) (hn5 : 1 ≤ n ∧ n ≤ 5) (hT : 0 ≤ T ∧ T < 41) (hwt : ∀ s : Int, 0 ≤ s → s < 41 → 0 ≤ wt s) (hw0 : ∀ s : Int, 0 ≤ s → s < 41 → T < s → wt s = 0) (hsum : zs wt 41 = 10 ^ cp) (hcp : cp ≤ 6) (hnp : np ≤ 15) (hnv : 0 ≤ nv ∧ nv ≤ 10 ^ np) : ∀ (j i : Nat) (ω : zWd) (gf gs : Int → Int), i + j = n → zOut x (x + 58) ω0 ω → zWk X ω (x + 3) p 0 ((pu : Int) + p * n) (np + n * cp) T (10 ^ cp) cp wt (zIt wt p (fun v => if v = ((pu : Nat) : Int) then nv else 0) n) gf gs → zRV gs 11 1 (fun _ => zSm wt p (10 ^ cp) (fun v => if v = ((pu : Nat) : Int) then nv else 0) n) → zRH X ω x bk (nv * (10 ^ cp) ^ i) np tv dv rt → Zw Γ ω 0 0 28 [some (.ref x), some (.int (zI (pu : Int))), some (.int (zI p)), some (.int (zI (n : Int))), some (.int (zI (i : Int)))] [] := by
  intro j
  induction j with
  | zero =>
    intro i ω gf gs hj hout hW hgs hR
    have hW10 : (0 : Int) < 10 ^ cp := zpw (by decide) _
    have hWb : (10 : Int) ^ cp ≤ 10 ^ 6 := zp10 hcp
    have hpw : ∀ i : Nat, i ≤ n → 0 ≤ nv * (10 ^ cp) ^ i ∧ nv * (10 ^ cp) ^ i ≤ 10 ^ 45 := by
      intro i hi
      rw [← Int.pow_mul]
      have h1 : (0 : Int) < 10 ^ (cp * i) := zpw (by decide) _
      have hci : cp * i ≤ 6 * 5 := Nat.mul_le_mul hcp (by omega)
      have h2 : (10 : Int) ^ (cp * i) ≤ 10 ^ 30 := zp10 (by omega)
      have h3 : (10 : Int) ^ np ≤ 10 ^ 15 := zp10 hnp
      exact ⟨Int.mul_nonneg hnv.1 (by omega), Int.mul_le_mul (c := 10 ^ 15) (d := 10 ^ 30) (by omega) h2 (by omega) (by decide)⟩
    have h132 : (10 : Int) ^ 45 * 1000001 < zL ^ 11 := by decide
    have e1 : i = n := by omega
    subst e1
    have hle := zSm_le (wt := wt) (p := p) (w0 := nv) (pu := pu) (n := 0) (c := cp) hp0.1 hwt hsum hnv.1 i
    have hge := (zSm_b (n := np) (p := p) (Av := fun v => if v = ((pu : Nat) : Int) then nv else 0) hwt hsum (fun v => by (try dsimp only); split <;> omega) i).1
    rw [Int.mul_comm] at hle
    have hpi := hpw i (by omega)
    have hR0 := hR
    have hW0 := hW
    obtain ⟨gm, gN, gB, gT, gD, hX, hBs, hMv, hWk, hPk, hFv, hNu, hNc, hBo, hBc, hTk, hTc, hDp, hDc, hBk, hbk, hVN, hVT, hVD⟩ := hR
    obtain ⟨rn, rx, un, ux, gn, gx, hw, hN, hq, he, hf, hfc, hs, hsc, hn, hnc, hx, hxc, hu, hux, hV, hUn, hU, hUx, hUf⟩ := hW
    refine z_iload (i := 4) (pc := 28) C rfl dX6_stand_28 ?_
    refine z_iload_n (i := 3) (pc := 30) C rfl rfl dX6_stand_30 ?_
    refine z_icmp_ge (tgt := 59) (pc := 31) C dX6_stand_31 (by decide) (fun h31 => ?_) (fun h31 => absurd h31 (by omega))
    refine z_aload_n (i := 0) (pc := 59) C rfl rfl dX6_stand_59 ?_
    refine g_X6_45 (pc := 60) C hX rfl dX6_stand_60 ?_
    refine z_iconst (pc := 63) C dX6_stand_63 ?_
    refine z_lconst (v := 1) (pc := 64) C (by decide +kernel) dX6_stand_64 ?_
    refine z_aload_n (i := 0) (pc := 65) C rfl rfl dX6_stand_65 ?_
    refine g_X6_22 (pc := 66) C hX rfl dX6_stand_66 ?_
    refine g_X6_211 (pc := 69) C hw rfl dX6_stand_69 ?_
    refine z_iconst (pc := 72) C dX6_stand_72 ?_
    refine z_ldc2 (a := -1) (pc := 73) C (by decide +kernel) q_X6_214 dX6_stand_73 ?_
    refine z_callVv (pc := 76) C (c_X4_combineA hNu hNc ⟨⟨by decide, by decide⟩, ⟨by decide, by decide⟩, by omega, by omega⟩ hs hsc ⟨⟨by decide, by decide⟩, ⟨by decide, by decide⟩, by omega, by omega⟩ rfl (by omega) (by omega) (by omega) (fun k a b => ⟨(hVN.at (by omega) (by omega)) k a b, (hgs.at (by omega) (by omega)) k a b⟩) (by omega) (by omega)) k_X6_198 zy_X4_combine rfl rfl hNu rfl rfl ⟨(Nat.le_of_ble_eq_true rfl), (Nat.le_of_ble_eq_true rfl)⟩ (Nat.le_of_ble_eq_true rfl) dX6_stand_76 ⟨rfl, rfl⟩ ⟨(Nat.le_of_ble_eq_true rfl), (Nat.le_of_ble_eq_true rfl)⟩ (fun ω' hp => ?_)
    obtain ⟨g2, rfl, hg2⟩ := hp
    have hcv := zcomb_v hg2 (hVN.v (by omega) (by omega)) (hgs.v (by omega) (by omega)) (by omega)
    have hR1 := hR0.nu (zRV1 hcv)
    have hW1 := hW0.fr (ω2 := zU _ (x + 35) (zAJ X (1 * 11) g2)) (fun b h1 h2 => zU_n (by omega))
    refine z_aload_n (i := 0) (pc := 79) C rfl rfl dX6_stand_79 ?_
    refine z_dup (pc := 80) C rfl dX6_stand_80 ?_
    refine g_X6_58 (pc := 81) C (zU_n' (by omega) hX) rfl dX6_stand_81 ?_
    refine z_iload_n (i := 3) (pc := 84) C rfl rfl dX6_stand_84 ?_
    refine z_aload_n (i := 0) (pc := 85) C rfl rfl dX6_stand_85 ?_
    refine g_X6_22 (pc := 86) C (zU_n' (by omega) hX) rfl dX6_stand_86 ?_
    refine g_X6_120 (pc := 89) C (zU_n' (by omega) hw) rfl dX6_stand_89 ?_
    refine g_X6_216 (pc := 92) C (zU_n' (by omega) hq) rfl dX6_stand_92 ?_
    refine z_imul (pc := 95) C dX6_stand_95 ?_
    refine z_iadd (pc := 96) C dX6_stand_96 ?_
    rw [show (np : Int) + (i : Int) * (cp : Int) = ((np + i * cp : Nat) : Int) by rw [Int.natCast_add, Int.natCast_mul]]
    refine p_X6_58 (pc := 97) C (zU_n' (by omega) hX) (Nat.le_of_ble_eq_true rfl) dX6_stand_97 ?_
    exact z_vret (pc := 100) C E dX6_stand_100 ⟨rfl, ⟨(hout.u (by omega) (by omega)).u (by omega) (by omega), ⟨_, _, _, _, (hW1.fr (ω2 := zU _ x _) (fun b h1 h2 => zU_n (by omega))).q⟩, (hR1.ob (np2 := np + i * cp) (rt2 := rt)).c (by omega) (fun _ _ _ => rfl) (fun _ _ _ => rfl)⟩⟩
  | succ j ih =>
    intro i ω gf gs hj hout hW hgs hR
    have hW10 : (0 : Int) < 10 ^ cp := zpw (by decide) _
    have hWb : (10 : Int) ^ cp ≤ 10 ^ 6 := zp10 hcp
    have hpw : ∀ i : Nat, i ≤ n → 0 ≤ nv * (10 ^ cp) ^ i ∧ nv * (10 ^ cp) ^ i ≤ 10 ^ 45 := by
      intro i hi
      rw [← Int.pow_mul]
      have h1 : (0 : Int) < 10 ^ (cp * i) := zpw (by decide) _
      have hci : cp * i ≤ 6 * 5 := Nat.mul_le_mul hcp (by omega)
      have h2 : (10 : Int) ^ (cp * i) ≤ 10 ^ 30 := zp10 (by omega)
      have h3 : (10 : Int) ^ np ≤ 10 ^ 15 := zp10 hnp
      exact ⟨Int.mul_nonneg hnv.1 (by omega), Int.mul_le_mul (c := 10 ^ 15) (d := 10 ^ 30) (by omega) h2 (by omega) (by decide)⟩
    have h132 : (10 : Int) ^ 45 * 1000001 < zL ^ 11 := by decide
    have hpi := hpw i (by omega)
    have hpi1 := hpw (i + 1) (by omega)
    rw [Int.pow_succ, ← Int.mul_assoc] at hpi1
    have hR0 := hR
    have hW0 := hW
    obtain ⟨gm, gN, gB, gT, gD, hX, hBs, hMv, hWk, hPk, hFv, hNu, hNc, hBo, hBc, hTk, hTc, hDp, hDc, hBk, hbk, hVN, hVT, hVD⟩ := hR
    obtain ⟨rn, rx, un, ux, gn, gx, hw, hN, hq, he, hf, hfc, hs, hsc, hn, hnc, hx, hxc, hu, hux, hV, hUn, hU, hUx, hUf⟩ := hW
    refine z_iload (i := 4) (pc := 28) C rfl dX6_stand_28 ?_
    refine z_iload_n (i := 3) (pc := 30) C rfl rfl dX6_stand_30 ?_
    refine z_icmp_ge (tgt := 59) (pc := 31) C dX6_stand_31 (by decide) (fun h31 => absurd h31 (by omega)) (fun h31 => ?_)
    refine z_aload_n (i := 0) (pc := 34) C rfl rfl dX6_stand_34 ?_
    refine g_X6_45 (pc := 35) C hX rfl dX6_stand_35 ?_
    refine z_iconst (pc := 38) C dX6_stand_38 ?_
    refine z_aload_n (i := 0) (pc := 39) C rfl rfl dX6_stand_39 ?_
    refine g_X6_22 (pc := 40) C hX rfl dX6_stand_40 ?_
    refine g_X6_120 (pc := 43) C hw rfl dX6_stand_43 ?_
    refine g_X6_207 (pc := 46) C hq rfl dX6_stand_46 ?_
    refine z_lconst (v := 0) (pc := 49) C (by decide +kernel) dX6_stand_49 ?_
    refine z_callVv (pc := 50) C (c_X4_times hNu hNc ⟨⟨by decide, by decide⟩, ⟨by decide, by decide⟩, by omega, by omega⟩ (by omega) (hVN.at (by omega) (by omega)) (by omega) (by omega)) k_X6_156 zy_X4_times rfl rfl hNu rfl rfl ⟨(Nat.le_of_ble_eq_true rfl), (Nat.le_of_ble_eq_true rfl)⟩ (Nat.le_of_ble_eq_true rfl) dX6_stand_50 ⟨rfl, rfl⟩ ⟨(Nat.le_of_ble_eq_true rfl), (Nat.le_of_ble_eq_true rfl)⟩ (fun ω' hp => ?_)
    obtain ⟨g2, rfl, hg2⟩ := hp
    have hcv := ztimes_v hg2 (hVN.v (by omega) (by omega)) (by omega)
    refine z_iinc (i := 4) (lv' := [_, _, _, _, _]) (pc := 53) C rfl (by decide) rfl rfl dX6_stand_53 ?_
    refine z_goto (tgt := 28) (pc := 56) C dX6_stand_56 (by decide) ?_
    exact ih (i + 1) _ gf gs (by omega) (hout.u (by omega) (by omega)) (hW0.fr (fun b h1 h2 => zU_n (by omega))) hgs ((hR0.nu (zRV1 hcv)).c (by rw [Int.pow_succ, ← Int.mul_assoc, Int.add_zero]) (fun _ _ _ => rfl) (fun _ _ _ => rfl))
set_option maxRecDepth 100000 in
set_option maxHeartbeats 4000000 in
theorem c_X6_stand {l0 : Launch} {X : zX} {x : Nat} {bk : Nat → Int → Int} {nv : Int} {np : Nat} {tv dv : Int → Int} {rt : Nat} {p T : Int} {pu n cp : Nat} {wt : Int → Int} {ω : zWd} (hW : zWq X ω (x + 3) T (10 ^ cp) cp wt) (hR : zRH X ω x bk nv np tv dv rt) (hp0 : 0 ≤ p ∧ p ≤ 12) (hpu : pu ≤ 24) (hn5 : 1 ≤ n ∧ n ≤ 5) (hT : 0 ≤ T ∧ T < 41) (hwt : ∀ s : Int, 0 ≤ s → s < 41 → 0 ≤ wt s) (hw0 : ∀ s : Int, 0 ≤ s → s < 41 → T < s → wt s = 0) (hsum : zs wt 41 = 10 ^ cp) (hcp : cp ≤ 6) (hnp : np ≤ 15) (hnv : 0 ≤ nv ∧ nv ≤ 10 ^ np) : zMet l0 yX6_stand cX6_stand 5 none rmX6_stand X [.ref x, .int (zI (pu : Int)), .int (zI p), .int (zI (n : Int))] ω (zpv (fun w => zOut x (x + 58) ω w ∧ (∃ T2 Wh2 cp2 wt2, zWq X w (x + 3) T2 Wh2 cp2 wt2) ∧ zRH X w x bk (nv * (10 ^ cp) ^ n - zSm wt p (10 ^ cp) (fun v => if v = ((pu : Nat) : Int) then nv else 0) n) (np + n * cp) tv dv rt)) := by
  refine zMet.intro (by decide) (Nat.le_of_ble_eq_true rfl) ?_
  intro Γ C E N
  show Zw Γ ω 0 0 0 [some _, some _, some _, some _, none] []
  have hR0 := hR
  obtain ⟨gm, gN, gB, gT, gD, hX, hBs, hMv, hWk, hPk, hFv, hNu, hNc, hBo, hBc, hTk, hTc, hDp, hDc, hBk, hbk, hVN, hVT, hVD⟩ := hR
  obtain ⟨rn, rx, p1, l1, R1, n1, un, ux, gf, gs, gn, gx, hw, hN, hq, he, hwrest⟩ := id hW
  have hpn : p * (n : Int) ≤ 12 * 5 := Int.mul_le_mul hp0.2 (by omega) (by omega) (by omega)
  have hncp : n * cp ≤ 5 * 6 := Nat.mul_le_mul (by omega) hcp
  have hb1 : p * (n : Int) ≥ 0 := Int.mul_nonneg hp0.1 (by omega)
  have hAv : ∀ v : Int, 0 ≤ (if v = ((pu : Nat) : Int) then nv else 0) ∧ (if v = ((pu : Nat) : Int) then nv else 0) ≤ 10 ^ np := fun v => by split <;> omega
  refine z_aload_n (i := 0) (pc := 0) C rfl rfl dX6_stand_0 ?_
  refine g_X6_22 (pc := 1) C hX rfl dX6_stand_1 ?_
  refine z_iload_n (i := 1) (pc := 4) C rfl rfl dX6_stand_4 ?_
  refine z_iload_n (i := 2) (pc := 5) C rfl rfl dX6_stand_5 ?_
  refine z_iload_n (i := 3) (pc := 6) C rfl rfl dX6_stand_6 ?_
  refine z_aload_n (i := 0) (pc := 7) C rfl rfl dX6_stand_7 ?_
  refine g_X6_45 (pc := 8) C hX rfl dX6_stand_8 ?_
  refine z_aload_n (i := 0) (pc := 11) C rfl rfl dX6_stand_11 ?_
  refine g_X6_58 (pc := 12) C hX rfl dX6_stand_12 ?_
  refine z_callVv (pc := 15) C (c_X5_begin (w0 := nv) (wp := np) (pu := (pu : Int)) (p := p) (l := (n : Int)) hW hNu hNc hVN (by omega) (by omega) hnv (by omega) (by omega) (by omega) hT (by omega) (by omega)) k_X6_130 zy_X5_begin rfl rfl hw rfl rfl ⟨(Nat.le_of_ble_eq_true rfl), (Nat.le_of_ble_eq_true rfl)⟩ (Nat.le_of_ble_eq_true rfl) dX6_stand_15 ⟨rfl, rfl⟩ ⟨(Nat.le_of_ble_eq_true rfl), (Nat.le_of_ble_eq_true rfl)⟩ (fun ω' hp => ?_)
  obtain ⟨gf2, gs2, hout2, hW2⟩ := hp
  have hR := hR0.wk hout2 ⟨_, _, _, _, hW2.q⟩
  have hR1 := hR
  have hW := hW2
  obtain ⟨gm, gN, gB, gT, gD, hX, hBs, hMv, hWk, hPk, hFv, hNu, hNc, hBo, hBc, hTk, hTc, hDp, hDc, hBk, hbk, hVN, hVT, hVD⟩ := hR
  obtain ⟨rn, rx, un, ux, gn, gx, hw, hN, hq, he, hf, hfc, hs, hsc, hn, hnc, hx, hxc, hu, hux, hV, hUn, hU, hUx, hUf⟩ := hW
  refine z_aload_n (i := 0) (pc := 18) C rfl rfl dX6_stand_18 ?_
  refine g_X6_22 (pc := 19) C hX rfl dX6_stand_19 ?_
  refine z_callVv (pc := 22) C (c_X5_sumUp (Ln := n) hW2 (by omega) (by omega) (by omega) hT (by omega) rfl hwt hw0 hsum hcp hAv (fun v h => if_neg (by omega)) (fun j j0 j1 => by
      have : p * ((n : Int) - j) ≤ p * n := Int.mul_le_mul_of_nonneg_left (by omega) hp0.1
      omega)) k_X6_204 zy_X5_sumUp rfl rfl hw rfl rfl ⟨(Nat.le_of_ble_eq_true rfl), (Nat.le_of_ble_eq_true rfl)⟩ (Nat.le_of_ble_eq_true rfl) dX6_stand_22 ⟨rfl, rfl⟩ ⟨(Nat.le_of_ble_eq_true rfl), (Nat.le_of_ble_eq_true rfl)⟩ (fun ω' hp => ?_)
  obtain ⟨gf3, gs3, hout3, hW3, hgs3⟩ := hp
  have hR3 := hR1.wk hout3 ⟨_, _, _, _, hW3.q⟩
  refine z_iconst (pc := 25) C dX6_stand_25 ?_
  refine z_istore (i := 4) (lv' := [_, _, _, _, _]) (pc := 26) C (by decide) rfl rfl dX6_stand_26 ?_
  exact lp_X6_stand (ω0 := ω) C E hp0 hpu hn5 hT hwt hw0 hsum hcp hnp hnv n 0 _ gf3 gs3 (by omega) ((hout2.tr hout3).w (by omega) (by omega)) hW3 hgs3 (hR3.c (by rw [Int.pow_zero, Int.mul_one]) (fun _ _ _ => rfl) (fun _ _ _ => rfl))
