theorem zFv.rs {X : zX} {ω : zWd} {a : Nat} {gst gsm gpw grs g2 : Int → Int} (h : zFv X ω a gst gsm gpw grs) : zFv X (zU ω (a + 8) (zAJ X (1 * 16) g2)) a gst gsm gpw g2 := by
  obtain ⟨h1, h2, h3, h4, h5, h6, h7, h8, h9⟩ := h
  exact ⟨zU_n' (by omega) h1, zU_n' (by omega) h2, zU_n' (by omega) h3, zU_n' (by omega) h4, zU_n' (by omega) h5, zU_n' (by omega) h6, zU_n' (by omega) h7, zU_n' (by omega) h8, zU_s _ _ _⟩
/-- ruin for ever, of 10^30 -/
def zEvr (F : Int → Int) (pu : Nat) : Int := if 1000 ≤ zst F 0 then (if F 1 = 1000 then 0 else 10 ^ 30) else (F 0 ^ (pu + 1) - zD F pu) * 10 ^ 30 / F 0 ^ (pu + 1)
set_option maxRecDepth 100000 in
set_option maxHeartbeats 4000000 in
theorem lp_X6_everA {Γ : zG} {ω0 : zWd} {l0 : Launch} {X : zX} {x : Nat} {bk : Nat → Int → Int} {nv : Int} {np : Nat} {tv dv : Int → Int} {rt : Nat} {pu b : Int} {bb : Nat} {s5 : Int} (C : Zc Γ l0 X rmX6_ever 7 cX6_ever RX6) (E : Ze Γ (zpi (fun r w => zOut x (x + 58) ω0 w ∧ (((zRt bk b ∧ (0 ≤ pu ∧ pu ≤ 60)) ∧ r = 1 ∧ zRH X w x bk (zEvr (bk b.toNat) pu.toNat) 30 tv dv rt) ∨ (¬ (zRt bk b ∧ (0 ≤ pu ∧ pu ≤ 60)) ∧ r = 0 ∧ zRH X w x bk nv np tv dv rt)))) 0 0 (some .boolean)) (hc : (zRt bk b ∧ (0 ≤ pu ∧ pu ≤ 60))) {v0 : Int} (hv0 : v0 = 0 ∨ v0 = 1) (hfin : v0 * 10 ^ 30 = (zEvr (bk b.toNat) pu.toNat)) : ∀ (j i : Nat) (ω : zWd), i + j = 30 → zOut x (x + 58) ω0 ω → zRH X ω x bk (v0 * 10 ^ i) 0 tv dv rt → Zw Γ ω 0 0 93 [some (.ref x), some (.int (zI pu)), some (.int (zI b)), some (.ref bb), some (.int (zI 1)), some (.int (zI s5)), some (.int (zI (i : Int)))] [] := by
  intro j
  induction j with
  | zero =>
    intro i ω hj hout hR
    have e1 : i = 30 := by omega
    subst e1
    have hR0 := hR
    obtain ⟨gm, gN, gB, gT, gD, hX, hBs, hMv, hWk, hPk, hFv, hNu, hNc, hBo, hBc, hTk, hTc, hDp, hDc, hBk, hbk, hVN, hVT, hVD⟩ := hR
    refine z_iload (i := 6) (pc := 93) C rfl dX6_ever_93 ?_
    refine z_bipush (pc := 95) C (by decide +kernel) dX6_ever_95 ?_
    refine z_icmp_ge (tgt := 133) (pc := 97) C dX6_ever_97 (by decide) (fun h97 => ?_) (fun h97 => absurd h97 (by omega))
    refine z_aload_n (i := 0) (pc := 133) C rfl rfl dX6_ever_133 ?_
    refine z_bipush (pc := 134) C (by decide +kernel) dX6_ever_134 ?_
    refine p_X6_58 (pc := 136) C hX (Nat.le_of_ble_eq_true rfl) dX6_ever_136 ?_
    refine z_iconst (pc := 139) C dX6_ever_139 ?_
    exact z_zret (pc := 140) C E (by decide +kernel) dX6_ever_140 ⟨_, rfl, ⟨hout.u (by omega) (by omega), Or.inl ⟨hc, rfl, (hR0.ob (np2 := 30) (rt2 := rt)).c hfin (fun _ _ _ => rfl) (fun _ _ _ => rfl)⟩⟩⟩
  | succ j ih =>
    intro i ω hj hout hR
    have h10 : (10 : Int) ^ i ≤ 10 ^ 30 := zp10 (by omega)
    have h132 : (10 : Int) ^ 30 * 1000001 < zL ^ 11 := by decide
    have hp10 : (0 : Int) < 10 ^ i := zpw (by decide) _
    have hvb : 0 ≤ v0 * 10 ^ i ∧ v0 * 10 ^ i ≤ 10 ^ i := by
      rcases hv0 with rfl | rfl <;> omega
    have hR0 := hR
    obtain ⟨gm, gN, gB, gT, gD, hX, hBs, hMv, hWk, hPk, hFv, hNu, hNc, hBo, hBc, hTk, hTc, hDp, hDc, hBk, hbk, hVN, hVT, hVD⟩ := hR
    refine z_iload (i := 6) (pc := 93) C rfl dX6_ever_93 ?_
    refine z_bipush (pc := 95) C (by decide +kernel) dX6_ever_95 ?_
    refine z_icmp_ge (tgt := 133) (pc := 97) C dX6_ever_97 (by decide) (fun h97 => absurd h97 (by omega)) (fun h97 => ?_)
    refine z_aload_n (i := 0) (pc := 100) C rfl rfl dX6_ever_100 ?_
    refine g_X6_45 (pc := 101) C hX rfl dX6_ever_101 ?_
    refine z_iconst (pc := 104) C dX6_ever_104 ?_
    refine z_ldc2 (a := 10) (pc := 105) C (by decide +kernel) q_X6_150 dX6_ever_105 ?_
    refine z_iload (i := 4) (pc := 108) C rfl dX6_ever_108 ?_
    refine z_if_eq (tgt := 117) (pc := 110) C dX6_ever_110 (by decide) (fun h110 => absurd h110 (by omega)) (fun h110 => ?_)
    refine z_lconst (v := 0) (pc := 113) C (by decide +kernel) dX6_ever_113 ?_
    refine z_goto (tgt := 124) (pc := 114) C dX6_ever_114 (by decide) ?_
    refine z_callVv (pc := 124) C (c_X4_times hNu hNc ⟨⟨by decide, by decide⟩, ⟨by decide, by decide⟩, by omega, by omega⟩ (by omega) (hVN.at (by omega) (by omega)) (by omega) (by omega)) k_X6_156 zy_X4_times rfl rfl hNu rfl rfl ⟨(Nat.le_of_ble_eq_true rfl), (Nat.le_of_ble_eq_true rfl)⟩ (Nat.le_of_ble_eq_true rfl) dX6_ever_124 ⟨rfl, rfl⟩ ⟨(Nat.le_of_ble_eq_true rfl), (Nat.le_of_ble_eq_true rfl)⟩ (fun ω' hp => ?_)
    obtain ⟨g2, rfl, hg2⟩ := hp
    have hcv := ztimes_v hg2 (hVN.v (by omega) (by omega)) (by omega)
    refine z_iinc (i := 6) (lv' := [_, _, _, _, _, _, _]) (pc := 127) C rfl (by decide) rfl rfl dX6_ever_127 ?_
    refine z_goto (tgt := 93) (pc := 130) C dX6_ever_130 (by decide) ?_
    exact ih (i + 1) _ (by omega) (hout.u (by omega) (by omega)) ((hR0.nu (zRV1 hcv)).c (by rw [Int.pow_succ, ← Int.mul_assoc, Int.add_zero]) (fun _ _ _ => rfl) (fun _ _ _ => rfl))
set_option maxRecDepth 100000 in
set_option maxHeartbeats 4000000 in
theorem lp_X6_everB {Γ : zG} {ω0 : zWd} {l0 : Launch} {X : zX} {x : Nat} {bk : Nat → Int → Int} {nv : Int} {np : Nat} {tv dv : Int → Int} {rt : Nat} {pu b : Int} {bb : Nat} {s5 : Int} (C : Zc Γ l0 X rmX6_ever 7 cX6_ever RX6) (E : Ze Γ (zpi (fun r w => zOut x (x + 58) ω0 w ∧ (((zRt bk b ∧ (0 ≤ pu ∧ pu ≤ 60)) ∧ r = 1 ∧ zRH X w x bk (zEvr (bk b.toNat) pu.toNat) 30 tv dv rt) ∨ (¬ (zRt bk b ∧ (0 ≤ pu ∧ pu ≤ 60)) ∧ r = 0 ∧ zRH X w x bk nv np tv dv rt)))) 0 0 (some .boolean)) (hc : (zRt bk b ∧ (0 ≤ pu ∧ pu ≤ 60))) {r0 P : Int} {gst gsm gpw : Int → Int} (hP : zRV gpw 16 1 (fun _ => P)) (hP1 : 0 < P) (hPb : P ≤ 10 ^ 183) (hfin : r0 * 10 ^ 30 / P = (zEvr (bk b.toNat) pu.toNat)) : ∀ (j i : Nat) (ω : zWd) (vi ri : Int) (grs : Int → Int), i + j = 30 → zOut x (x + 58) ω0 ω → zRH X ω x bk vi 0 tv dv rt → zFv X ω (x + 25) gst gsm gpw grs → zRV grs 16 1 (fun _ => ri) → (0 ≤ ri ∧ ri < P) → (0 ≤ vi ∧ vi < 10 ^ i) → vi * P + ri = r0 * 10 ^ i → Zw Γ ω 0 0 93 [some (.ref x), some (.int (zI pu)), some (.int (zI b)), some (.ref bb), some (.int (zI 0)), some (.int (zI s5)), some (.int (zI (i : Int)))] [] := by
  intro j
  induction j with
  | zero =>
    intro i ω vi ri grs hj hout hR hFv0 hrs hri hvi heq
    have e1 : i = 30 := by omega
    subst e1
    have hq := (z_qr heq.symm hri.1 hri.2).1
    have hR0 := hR
    obtain ⟨gm, gN, gB, gT, gD, hX, hBs, hMv, hWk, hPk, hFv, hNu, hNc, hBo, hBc, hTk, hTc, hDp, hDc, hBk, hbk, hVN, hVT, hVD⟩ := hR
    refine z_iload (i := 6) (pc := 93) C rfl dX6_ever_93 ?_
    refine z_bipush (pc := 95) C (by decide +kernel) dX6_ever_95 ?_
    refine z_icmp_ge (tgt := 133) (pc := 97) C dX6_ever_97 (by decide) (fun h97 => ?_) (fun h97 => absurd h97 (by omega))
    refine z_aload_n (i := 0) (pc := 133) C rfl rfl dX6_ever_133 ?_
    refine z_bipush (pc := 134) C (by decide +kernel) dX6_ever_134 ?_
    refine p_X6_58 (pc := 136) C hX (Nat.le_of_ble_eq_true rfl) dX6_ever_136 ?_
    refine z_iconst (pc := 139) C dX6_ever_139 ?_
    exact z_zret (pc := 140) C E (by decide +kernel) dX6_ever_140 ⟨_, rfl, ⟨hout.u (by omega) (by omega), Or.inl ⟨hc, rfl, (hR0.ob (np2 := 30) (rt2 := rt)).c (by rw [← hfin, hq]) (fun _ _ _ => rfl) (fun _ _ _ => rfl)⟩⟩⟩
  | succ j ih =>
    intro i ω vi ri grs hj hout hR hFv0 hrs hri hvi heq
    have h10 : (10 : Int) ^ i ≤ 10 ^ 30 := zp10 (by omega)
    have h132 : (10 : Int) ^ 30 * 1000001 < zL ^ 11 := by decide
    have hp10 : (0 : Int) < 10 ^ i := zpw (by decide) _
    have hR0 := hR
    obtain ⟨gm, gN, gB, gT, gD, hX, hBs, hMv, hWk, hPk, hFv, hNu, hNc, hBo, hBc, hTk, hTc, hDp, hDc, hBk, hbk, hVN, hVT, hVD⟩ := hR
    obtain ⟨hf1, hf2, hf3, hf4, hf5, hf6, hf7, hf8, hf9⟩ := id hFv0
    have hdm : ri * 10 = P * (ri * 10 / P) + ri * 10 % P := (Int.mul_ediv_add_emod (ri * 10) P).symm
    have hm0 : 0 ≤ ri * 10 % P := Int.emod_nonneg _ (by omega)
    have hm1 : ri * 10 % P < P := Int.emod_lt_of_pos _ hP1
    have hd0 : 0 ≤ ri * 10 / P := Int.ediv_nonneg (by omega) (by omega)
    have hd9 : ri * 10 / P < 10 := Int.ediv_lt_of_lt_mul hP1 (by omega)
    refine z_iload (i := 6) (pc := 93) C rfl dX6_ever_93 ?_
    refine z_bipush (pc := 95) C (by decide +kernel) dX6_ever_95 ?_
    refine z_icmp_ge (tgt := 133) (pc := 97) C dX6_ever_97 (by decide) (fun h97 => absurd h97 (by omega)) (fun h97 => ?_)
    refine z_aload_n (i := 0) (pc := 100) C rfl rfl dX6_ever_100 ?_
    refine g_X6_45 (pc := 101) C hX rfl dX6_ever_101 ?_
    refine z_iconst (pc := 104) C dX6_ever_104 ?_
    refine z_ldc2 (a := 10) (pc := 105) C (by decide +kernel) q_X6_150 dX6_ever_105 ?_
    refine z_iload (i := 4) (pc := 108) C rfl dX6_ever_108 ?_
    refine z_if_eq (tgt := 117) (pc := 110) C dX6_ever_110 (by decide) (fun h110 => ?_) (fun h110 => absurd h110 (by omega))
    refine z_aload_n (i := 0) (pc := 117) C rfl rfl dX6_ever_117 ?_
    refine g_X6_36 (pc := 118) C hX rfl dX6_ever_118 ?_
    refine z_callVl (pc := 121) C (c_X2_nextFigure hf1 hf6 hf7 hf8 hf9 hrs hP hri hPb) k_X6_152 zy_X2_nextFigure rfl rfl hf1 rfl rfl ⟨(Nat.le_of_ble_eq_true rfl), (Nat.le_of_ble_eq_true rfl)⟩ (Nat.le_of_ble_eq_true rfl) dX6_ever_121 ⟨rfl, rfl⟩ ⟨(Nat.le_of_ble_eq_true rfl), (Nat.le_of_ble_eq_true rfl)⟩ (fun rv ω' hp => ?_)
    obtain ⟨g3, rfl, rfl, hg3⟩ := hp
    have hFv3 := hFv0.rs (g2 := g3)
    have ho3 : zOut (x + 25) (x + 34) ω (zU ω (x + 25 + 8) (zAJ X (1 * 16) g3)) := zOut.rf.u (by omega) (by omega)
    have hR := hR0.fv ho3 ⟨_, _, _, _, hFv3⟩
    have hR3 := hR
    obtain ⟨gm, gN, gB, gT, gD, hX, hBs, hMv, hWk, hPk, hFv, hNu, hNc, hBo, hBc, hTk, hTc, hDp, hDc, hBk, hbk, hVN, hVT, hVD⟩ := hR
    refine z_callVv (pc := 124) C (c_X4_times hNu hNc ⟨⟨by decide, by decide⟩, ⟨by decide, by decide⟩, by omega, by omega⟩ (by omega) (hVN.at (by omega) (by omega)) (by omega) (by omega)) k_X6_156 zy_X4_times rfl rfl hNu rfl rfl ⟨(Nat.le_of_ble_eq_true rfl), (Nat.le_of_ble_eq_true rfl)⟩ (Nat.le_of_ble_eq_true rfl) dX6_ever_124 ⟨rfl, rfl⟩ ⟨(Nat.le_of_ble_eq_true rfl), (Nat.le_of_ble_eq_true rfl)⟩ (fun ω' hp => ?_)
    obtain ⟨g2, rfl, hg2⟩ := hp
    have hcv := ztimes_v hg2 (hVN.v (by omega) (by omega)) (by omega)
    refine z_iinc (i := 6) (lv' := [_, _, _, _, _, _, _]) (pc := 127) C rfl (by decide) rfl rfl dX6_ever_127 ?_
    refine z_goto (tgt := 93) (pc := 130) C dX6_ever_130 (by decide) ?_
    refine ih (i + 1) _ (vi * 10 + ri * 10 / P) (ri * 10 % P) g3 (by omega) ((hout.tr (ho3.w (by omega) (by omega))).u (by omega) (by omega)) ((hR3.nu (zRV1 hcv)).c rfl (fun _ _ _ => rfl) (fun _ _ _ => rfl)) (hFv3.fr (fun b h1 h2 => zU_n (by omega))) hg3 ⟨hm0, hm1⟩ ⟨by omega, by rw [Int.pow_succ]; omega⟩ ?_
    rw [Int.pow_succ, ← Int.mul_assoc, ← heq]
    have e7 : (vi * 10 + ri * 10 / P) * P = vi * P * 10 + P * (ri * 10 / P) := by grind
    rw [e7]
    omega
set_option maxRecDepth 100000 in
set_option maxHeartbeats 4000000 in
theorem c_X6_ever {l0 : Launch} {X : zX} {x : Nat} {bk : Nat → Int → Int} {nv : Int} {np : Nat} {tv dv : Int → Int} {rt : Nat} {pu b : Int} {ω : zWd} (hR : zRH X ω x bk nv np tv dv rt) (hpur : -2147483648 ≤ pu ∧ pu < 2147483648) (hbr : -2147483648 ≤ b ∧ b < 2147483648) : zMet l0 yX6_ever cX6_ever 7 (some .boolean) rmX6_ever X [.ref x, .int (zI pu), .int (zI b)] ω (zpi (fun r w => zOut x (x + 58) ω w ∧ (((zRt bk b ∧ (0 ≤ pu ∧ pu ≤ 60)) ∧ r = 1 ∧ zRH X w x bk (zEvr (bk b.toNat) pu.toNat) 30 tv dv rt) ∨ (¬ (zRt bk b ∧ (0 ≤ pu ∧ pu ≤ 60)) ∧ r = 0 ∧ zRH X w x bk nv np tv dv rt)))) := by
  refine zMet.intro (by decide) (Nat.le_of_ble_eq_true rfl) ?_
  intro Γ C E N
  show Zw Γ ω 0 0 0 [some _, some _, some _, none, none, none, none] []
  have hR0 := hR
  obtain ⟨gm, gN, gB, gT, gD, hX, hBs, hMv, hWk, hPk, hFv, hNu, hNc, hBo, hBc, hTk, hTc, hDp, hDc, hBk, hbk, hVN, hVT, hVD⟩ := hR
  refine z_aload_n (i := 0) (pc := 0) C rfl rfl dX6_ever_0 ?_
  refine z_iload_n (i := 2) (pc := 1) C rfl rfl dX6_ever_1 ?_
  refine z_callVq (pc := 2) C (c_X6_findRight hR0 hbr) k_X6_81 zy_X6_findRight rfl rfl hX rfl rfl ⟨(Nat.le_of_ble_eq_true rfl), (Nat.le_of_ble_eq_true rfl)⟩ (Nat.le_of_ble_eq_true rfl) dX6_ever_2 ⟨rfl, rfl⟩ ⟨(Nat.le_of_ble_eq_true rfl), (Nat.le_of_ble_eq_true rfl)⟩ (fun rv ω' hp => ?_)
  obtain ⟨hw', hp⟩ := hp
  rw [hw']
  clear hw'
  rcases hp with ⟨hyes, rfl⟩ | ⟨hno, rfl⟩
  · obtain ⟨b0, b1, bs⟩ := id hyes
    have hfb := hbk b.toNat (by omega)
    refine z_astore_n (i := 3) (lv' := [_, _, _, _, _, _, _]) (pc := 5) C rfl (by decide) rfl rfl dX6_ever_5 ?_
    refine z_aload_n (i := 3) (pc := 6) C rfl rfl dX6_ever_6 ?_
    refine z_ifnull (pc := 7) C dX6_ever_7 ?_
    refine z_iload_n (i := 1) (pc := 10) C rfl rfl dX6_ever_10 ?_
    refine z_iconst (pc := 11) C dX6_ever_11 ?_
    refine z_bipush (pc := 12) C (by decide +kernel) dX6_ever_12 ?_
    refine z_callSi (pc := 14) C (c_X6_isWithin) k_X6_70 zy_X6_isWithin.2 rfl rfl ⟨(Nat.le_of_ble_eq_true rfl), (Nat.le_of_ble_eq_true rfl)⟩ (Nat.le_of_ble_eq_true rfl) dX6_ever_14 ⟨rfl, rfl⟩ ⟨(Nat.le_of_ble_eq_true rfl), (Nat.le_of_ble_eq_true rfl)⟩ (fun rv ω' hp => ?_)
    obtain ⟨hw', hi⟩ := hp
    rw [hw']
    clear hw'
    refine z_if_ne (tgt := 22) (pc := 17) C dX6_ever_17 (by decide) (fun h17 => ?_) (fun h17 => ?_)
    · refine z_aload_n (i := 3) (pc := 22) C rfl rfl dX6_ever_22 ?_
      refine z_callVi (pc := 23) C (c_X0_mean (hBk b.toNat (by omega)).1 (hBk b.toNat (by omega)).2) k_X6_84 zy_X0_mean rfl rfl (hBk b.toNat (by omega)).1 rfl rfl ⟨(Nat.le_of_ble_eq_true rfl), (Nat.le_of_ble_eq_true rfl)⟩ (Nat.le_of_ble_eq_true rfl) dX6_ever_23 ⟨rfl, rfl⟩ ⟨(Nat.le_of_ble_eq_true rfl), (Nat.le_of_ble_eq_true rfl)⟩ (fun rv ω' hp => ?_)
      obtain ⟨hw', rfl⟩ := hp
      rw [hw']
      have hmb := zst_b hfb (d := 0) (by decide)
      refine z_sipush (pc := 26) C (by decide +kernel) dX6_ever_26 ?_
      refine z_icmp_lt (tgt := 36) (pc := 29) C dX6_ever_29 (by decide) (fun h29 => ?_) (fun h29 => ?_)
      · refine z_iconst (pc := 36) C dX6_ever_36 ?_
        refine z_istore (i := 4) (lv' := [_, _, _, _, _, _, _]) (pc := 37) C (by decide) rfl rfl dX6_ever_37 ?_
        refine z_iload (i := 4) (pc := 39) C rfl dX6_ever_39 ?_
        refine z_if_eq (tgt := 59) (pc := 41) C dX6_ever_41 (by decide) (fun h41 => ?_) (fun h41 => absurd h41 (by omega))
        refine z_iconst (pc := 59) C dX6_ever_59 ?_
        refine z_istore (i := 5) (lv' := [_, _, _, _, _, _, _]) (pc := 60) C (by decide) rfl rfl dX6_ever_60 ?_
        refine z_aload_n (i := 0) (pc := 62) C rfl rfl dX6_ever_62 ?_
        refine z_iload (i := 5) (pc := 63) C rfl dX6_ever_63 ?_
        refine z_if_eq (tgt := 72) (pc := 65) C dX6_ever_65 (by decide) (fun h65 => ?_) (fun h65 => absurd h65 (by omega))
        refine z_lconst (v := 0) (pc := 72) C (by decide +kernel) dX6_ever_72 ?_
        refine z_callVv (pc := 73) C (c_X6_startNumber hR0 (by decide)) k_X6_116 zy_X6_startNumber rfl rfl hX rfl rfl ⟨(Nat.le_of_ble_eq_true rfl), (Nat.le_of_ble_eq_true rfl)⟩ (Nat.le_of_ble_eq_true rfl) dX6_ever_73 ⟨rfl, rfl⟩ ⟨(Nat.le_of_ble_eq_true rfl), (Nat.le_of_ble_eq_true rfl)⟩ (fun ω' hp => ?_)
        obtain ⟨⟨gs1, hs1⟩, hR⟩ := hp
        have hout1 : zOut x (x + 58) ω ω' := by rw [hs1]; exact (zOut.rf.u (by omega) (by omega)).u (by omega) (by omega)
        have hR1 := hR
        obtain ⟨gm, gN, gB, gT, gD, hX, hBs, hMv, hWk, hPk, hFv, hNu, hNc, hBo, hBc, hTk, hTc, hDp, hDc, hBk, hbk, hVN, hVT, hVD⟩ := hR
        obtain ⟨gst0, gsm0, gpw0, grs0, hFv0⟩ := hFv
        obtain ⟨hf1, hf2, hf3, hf4, hf5, hf6, hf7, hf8, hf9⟩ := id hFv0
        refine z_iload (i := 4) (pc := 76) C rfl dX6_ever_76 ?_
        refine z_if_ne (tgt := 90) (pc := 78) C dX6_ever_78 (by decide) (fun h78 => absurd h78 (by omega)) (fun h78 => ?_)
        refine z_aload_n (i := 0) (pc := 81) C rfl rfl dX6_ever_81 ?_
        refine g_X6_36 (pc := 82) C hX rfl dX6_ever_82 ?_
        refine z_aload_n (i := 3) (pc := 85) C rfl rfl dX6_ever_85 ?_
        refine z_iload_n (i := 1) (pc := 86) C rfl rfl dX6_ever_86 ?_
        obtain ⟨k, rfl⟩ := Int.eq_ofNat_of_zero_le (show 0 ≤ pu by omega)
        refine z_callVv (pc := 87) C (c_X2_work (D := zD (bk b.toNat)) hFv0 (hBk b.toNat (by omega)).1 (hBk b.toNat (by omega)).2 hfb (by omega) (by omega) (by omega) ⟨by omega, hmb.1⟩ (zD_0 _) (fun u u1 _ => zD_s _ u u1) (fun u _ => ⟨Int.le_of_lt (zD_b hfb bs (by omega) u).1, (zD_b hfb bs (by omega) u).2⟩) (fun u u1 u2 q hq => zHo_b hfb bs (by omega) u1 (by omega) q hq)) k_X6_147 zy_X2_work rfl rfl hf1 rfl rfl ⟨(Nat.le_of_ble_eq_true rfl), (Nat.le_of_ble_eq_true rfl)⟩ (Nat.le_of_ble_eq_true rfl) dX6_ever_87 ⟨rfl, rfl⟩ ⟨(Nat.le_of_ble_eq_true rfl), (Nat.le_of_ble_eq_true rfl)⟩ (fun ω' hp => ?_)
        obtain ⟨gst3, gsm3, gpw3, grs3, hout3, hFv3, hpw3, hrs3⟩ := hp
        have hR3 := hR1.fv (hout3.w (by omega) (by omega)) ⟨_, _, _, _, hFv3⟩
        have hDb := zD_b hfb bs (by omega) k
        have h01 := zF0_1 hfb bs (by omega)
        have hPp : (0 : Int) < bk b.toNat 0 ^ (k + 1) := zpw h01 _
        have hout4 := hout1.tr (hout3.w (lo2 := x) (hi2 := x + 58) (by omega) (by omega))
        refine z_iconst (pc := 90) C dX6_ever_90 ?_
        refine z_istore (i := 6) (lv' := [_, _, _, _, _, _, _]) (pc := 91) C (by decide) rfl rfl dX6_ever_91 ?_
        by_cases hmm : 1000 ≤ zst (bk b.toNat) 0
        · exact absurd hmm (by omega)
        · exact lp_X6_everB (ω0 := ω) C E ⟨hyes, by omega⟩ hpw3 hPp (zpow_le ⟨by omega, (hfb 0 (by omega) (by omega)).2⟩ (by omega)) (by unfold zEvr; rw [if_neg hmm]; rfl) 30 0 _ 0 (bk b.toNat 0 ^ (k + 1) - zD (bk b.toNat) k) _ (by omega) hout4 hR3 hFv3 hrs3 (by omega) (by decide) (by simp)
      · refine z_iconst (pc := 32) C dX6_ever_32 ?_
        refine z_goto (tgt := 37) (pc := 33) C dX6_ever_33 (by decide) ?_
        refine z_istore (i := 4) (lv' := [_, _, _, _, _, _, _]) (pc := 37) C (by decide) rfl rfl dX6_ever_37 ?_
        refine z_iload (i := 4) (pc := 39) C rfl dX6_ever_39 ?_
        refine z_if_eq (tgt := 59) (pc := 41) C dX6_ever_41 (by decide) (fun h41 => absurd h41 (by omega)) (fun h41 => ?_)
        refine z_aload_n (i := 3) (pc := 44) C rfl rfl dX6_ever_44 ?_
        refine z_iconst (pc := 45) C dX6_ever_45 ?_
        refine z_callVi (pc := 46) C (c_X0_read (hBk b.toNat (by omega)).1 (hBk b.toNat (by omega)).2) k_X6_77 zy_X0_read rfl rfl (hBk b.toNat (by omega)).1 rfl rfl ⟨(Nat.le_of_ble_eq_true rfl), (Nat.le_of_ble_eq_true rfl)⟩ (Nat.le_of_ble_eq_true rfl) dX6_ever_46 ⟨rfl, rfl⟩ ⟨(Nat.le_of_ble_eq_true rfl), (Nat.le_of_ble_eq_true rfl)⟩ (fun rv ω' hp => ?_)
        obtain ⟨hw', rfl⟩ := hp
        rw [hw']
        have hf1b := hfb 1 (by decide) (by decide)
        refine z_sipush (pc := 49) C (by decide +kernel) dX6_ever_49 ?_
        refine z_icmp_eq (tgt := 59) (pc := 52) C dX6_ever_52 (by decide) (fun h52 => ?_) (fun h52 => ?_)
        · refine z_iconst (pc := 59) C dX6_ever_59 ?_
          refine z_istore (i := 5) (lv' := [_, _, _, _, _, _, _]) (pc := 60) C (by decide) rfl rfl dX6_ever_60 ?_
          refine z_aload_n (i := 0) (pc := 62) C rfl rfl dX6_ever_62 ?_
          refine z_iload (i := 5) (pc := 63) C rfl dX6_ever_63 ?_
          refine z_if_eq (tgt := 72) (pc := 65) C dX6_ever_65 (by decide) (fun h65 => ?_) (fun h65 => absurd h65 (by omega))
          refine z_lconst (v := 0) (pc := 72) C (by decide +kernel) dX6_ever_72 ?_
          refine z_callVv (pc := 73) C (c_X6_startNumber hR0 (by decide)) k_X6_116 zy_X6_startNumber rfl rfl hX rfl rfl ⟨(Nat.le_of_ble_eq_true rfl), (Nat.le_of_ble_eq_true rfl)⟩ (Nat.le_of_ble_eq_true rfl) dX6_ever_73 ⟨rfl, rfl⟩ ⟨(Nat.le_of_ble_eq_true rfl), (Nat.le_of_ble_eq_true rfl)⟩ (fun ω' hp => ?_)
          obtain ⟨⟨gs1, hs1⟩, hR⟩ := hp
          have hout1 : zOut x (x + 58) ω ω' := by rw [hs1]; exact (zOut.rf.u (by omega) (by omega)).u (by omega) (by omega)
          have hR1 := hR
          obtain ⟨gm, gN, gB, gT, gD, hX, hBs, hMv, hWk, hPk, hFv, hNu, hNc, hBo, hBc, hTk, hTc, hDp, hDc, hBk, hbk, hVN, hVT, hVD⟩ := hR
          obtain ⟨gst0, gsm0, gpw0, grs0, hFv0⟩ := hFv
          obtain ⟨hf1, hf2, hf3, hf4, hf5, hf6, hf7, hf8, hf9⟩ := id hFv0
          refine z_iload (i := 4) (pc := 76) C rfl dX6_ever_76 ?_
          refine z_if_ne (tgt := 90) (pc := 78) C dX6_ever_78 (by decide) (fun h78 => ?_) (fun h78 => absurd h78 (by omega))
          refine z_iconst (pc := 90) C dX6_ever_90 ?_
          refine z_istore (i := 6) (lv' := [_, _, _, _, _, _, _]) (pc := 91) C (by decide) rfl rfl dX6_ever_91 ?_
          exact lp_X6_everA (ω0 := ω) (v0 := 0) C E ⟨hyes, by omega⟩ (by first | exact Or.inl rfl | exact Or.inr rfl) (by unfold zEvr; rw [if_pos (by omega)]; first | (rw [if_pos (by omega)]; rfl) | (rw [if_neg (by omega)]; rfl)) 30 0 _ (by omega) hout1 (hR1.c (by rw [Int.pow_zero, Int.mul_one]) (fun _ _ _ => rfl) (fun _ _ _ => rfl))
        · refine z_iconst (pc := 55) C dX6_ever_55 ?_
          refine z_goto (tgt := 60) (pc := 56) C dX6_ever_56 (by decide) ?_
          refine z_istore (i := 5) (lv' := [_, _, _, _, _, _, _]) (pc := 60) C (by decide) rfl rfl dX6_ever_60 ?_
          refine z_aload_n (i := 0) (pc := 62) C rfl rfl dX6_ever_62 ?_
          refine z_iload (i := 5) (pc := 63) C rfl dX6_ever_63 ?_
          refine z_if_eq (tgt := 72) (pc := 65) C dX6_ever_65 (by decide) (fun h65 => absurd h65 (by omega)) (fun h65 => ?_)
          refine z_lconst (v := 1) (pc := 68) C (by decide +kernel) dX6_ever_68 ?_
          refine z_goto (tgt := 73) (pc := 69) C dX6_ever_69 (by decide) ?_
          refine z_callVv (pc := 73) C (c_X6_startNumber hR0 (by decide)) k_X6_116 zy_X6_startNumber rfl rfl hX rfl rfl ⟨(Nat.le_of_ble_eq_true rfl), (Nat.le_of_ble_eq_true rfl)⟩ (Nat.le_of_ble_eq_true rfl) dX6_ever_73 ⟨rfl, rfl⟩ ⟨(Nat.le_of_ble_eq_true rfl), (Nat.le_of_ble_eq_true rfl)⟩ (fun ω' hp => ?_)
          obtain ⟨⟨gs1, hs1⟩, hR⟩ := hp
          have hout1 : zOut x (x + 58) ω ω' := by rw [hs1]; exact (zOut.rf.u (by omega) (by omega)).u (by omega) (by omega)
          have hR1 := hR
          obtain ⟨gm, gN, gB, gT, gD, hX, hBs, hMv, hWk, hPk, hFv, hNu, hNc, hBo, hBc, hTk, hTc, hDp, hDc, hBk, hbk, hVN, hVT, hVD⟩ := hR
          obtain ⟨gst0, gsm0, gpw0, grs0, hFv0⟩ := hFv
          obtain ⟨hf1, hf2, hf3, hf4, hf5, hf6, hf7, hf8, hf9⟩ := id hFv0
          refine z_iload (i := 4) (pc := 76) C rfl dX6_ever_76 ?_
          refine z_if_ne (tgt := 90) (pc := 78) C dX6_ever_78 (by decide) (fun h78 => ?_) (fun h78 => absurd h78 (by omega))
          refine z_iconst (pc := 90) C dX6_ever_90 ?_
          refine z_istore (i := 6) (lv' := [_, _, _, _, _, _, _]) (pc := 91) C (by decide) rfl rfl dX6_ever_91 ?_
          exact lp_X6_everA (ω0 := ω) (v0 := 1) C E ⟨hyes, by omega⟩ (by first | exact Or.inl rfl | exact Or.inr rfl) (by unfold zEvr; rw [if_pos (by omega)]; first | (rw [if_pos (by omega)]; rfl) | (rw [if_neg (by omega)]; rfl)) 30 0 _ (by omega) hout1 (hR1.c (by rw [Int.pow_zero, Int.mul_one]) (fun _ _ _ => rfl) (fun _ _ _ => rfl))
    · refine z_iconst (pc := 20) C dX6_ever_20 ?_
      exact z_zret (pc := 21) C E (by decide +kernel) dX6_ever_21 ⟨_, rfl, ⟨zOut.rf, Or.inr ⟨by first | exact (fun h => hno h.1) | exact (fun h => by have := h.2; omega), rfl, hR0⟩⟩⟩
  · refine z_astore_nN (i := 3) (lv' := [_, _, _, _, _, _, _]) (pc := 5) C rfl (by decide) rfl rfl dX6_ever_5 ?_
    refine z_aload_nN (i := 3) (pc := 6) C rfl rfl dX6_ever_6 ?_
    refine z_ifnullN (tgt := 20) (pc := 7) C dX6_ever_7 (by decide) ?_
    refine z_iconst (pc := 20) C dX6_ever_20 ?_
    exact z_zret (pc := 21) C E (by decide +kernel) dX6_ever_21 ⟨_, rfl, ⟨zOut.rf, Or.inr ⟨by first | exact (fun h => hno h.1) | exact (fun h => by have := h.2; omega), rfl, hR0⟩⟩⟩
