/-- weights alike where they are read -/
theorem zStp_c {w1 w2 : Int → Int} (h : ∀ s : Int, 0 ≤ s → s < 41 → w1 s = w2 s) (p : Int) (Av : Int → Int) : zStp w1 p Av = zStp w2 p Av := by
  funext v
  unfold zStp
  split
  · rfl
  · exact zs_c (fun k a b => by rw [h k a (by omega)])
theorem zFal_c {w1 w2 : Int → Int} (h : ∀ s : Int, 0 ≤ s → s < 41 → w1 s = w2 s) (p : Int) (Av : Int → Int) (d : Int) : zFal w1 p Av d = zFal w2 p Av d := zs_c (fun k a b => by rw [h k a (by omega)])
theorem zFt_c {w1 w2 : Int → Int} (h : ∀ s : Int, 0 ≤ s → s < 41 → w1 s = w2 s) (p : Int) (Av : Int → Int) : zFt w1 p Av = zFt w2 p Av := zs_c (fun k a b => zFal_c h p Av _)
theorem zIt_c {w1 w2 : Int → Int} (h : ∀ s : Int, 0 ≤ s → s < 41 → w1 s = w2 s) (p : Int) (Av : Int → Int) : ∀ k, zIt w1 p Av k = zIt w2 p Av k
  | 0 => rfl
  | k + 1 => by show zStp w1 p _ = zStp w2 p _; rw [zIt_c h p Av k, zStp_c h]
theorem zSm_c {w1 w2 : Int → Int} (h : ∀ s : Int, 0 ≤ s → s < 41 → w1 s = w2 s) (p Wh : Int) (Av : Int → Int) : ∀ k, zSm w1 p Wh Av k = zSm w2 p Wh Av k
  | 0 => rfl
  | k + 1 => by show zSm w1 p Wh Av k * Wh + _ = _; rw [zSm_c h p Wh Av k, zIt_c h, zFt_c h]; rfl
/-- what falls so deep within so many ticks -/
def zDk (wt : Int → Int) (p : Int) (Av : Int → Int) (d : Int) : Nat → Int
  | 0 => 0
  | t + 1 => zDk wt p Av d t * 1000 + zFal wt p (zIt wt p Av t) d
theorem zDk_c {w1 w2 : Int → Int} (h : ∀ s : Int, 0 ≤ s → s < 41 → w1 s = w2 s) (p : Int) (Av : Int → Int) (d : Int) : ∀ k, zDk w1 p Av d k = zDk w2 p Av d k
  | 0 => rfl
  | k + 1 => by show zDk w1 p Av d k * 1000 + _ = _; rw [zDk_c h p Av d k, zIt_c h, zFal_c h]; rfl
/-- a book's weights -/
def zwt (f : Int → Int) : Int → Int := fun s => if 0 ≤ s ∧ s < 21 then f s else 0
theorem zwt_s {f : Int → Int} : zs (zwt f) 41 = zs f 21 := by
  rw [zs_z (f := zwt f) (n := 41) (m := 21) (by omega) (fun k a b => if_neg (by omega))]
  exact zs_c (fun k a b => if_pos ⟨a, b⟩)
theorem zwt_0 {f : Int → Int} (hf : zBk f) (s : Int) : 0 ≤ zwt f s := by
  unfold zwt
  split
  · exact (hf s (by omega) (by omega)).1
  · omega
set_option maxRecDepth 100000 in
set_option maxHeartbeats 4000000 in
theorem lp_X6_noteTick {Γ : zG} {ω0 : zWd} {l0 : Launch} {X : zX} {x : Nat} {bk : Nat → Int → Int} {nv : Int} {np : Nat} {tv dv : Int → Int} {rt : Nat} {p l R T Wh t : Int} {n cp : Nat} {wt Av : Int → Int} (C : Zc Γ l0 X rmX6_noteTick 3 cX6_noteTick RX6) (E : Ze Γ (zpv (fun w => zOut x (x + 58) ω0 w ∧ (∃ gf gs, zWk X w (x + 3) p l R n T Wh cp wt Av gf gs) ∧ zRH X w x bk (nv * 1000 + (tv t + zs (fun i => zFal wt p Av (i + 1)) 20)) np (zup tv t (tv t + zs (fun i => zFal wt p Av (i + 1)) 20)) (fun k => if 1 ≤ k ∧ k ≤ 20 then dv k * 1000 + zFal wt p Av k else dv k) rt)) 0 0 none) (hp0 : 0 ≤ p ∧ p ≤ 20) (hl : 1 ≤ l ∧ l ≤ 40) (hR2 : 0 ≤ R ∧ R ≤ 1000) (hT : 0 ≤ T ∧ T < 41) (hnc2 : n + cp ≤ 120) (hwt : ∀ s : Int, 0 ≤ s → s < 41 → 0 ≤ wt s) (hw0 : ∀ s : Int, 0 ≤ s → s < 41 → T < s → wt s = 0) (hsum : zs wt 41 = 10 ^ cp) (hcp : cp ≤ 6) (hA : ∀ v, 0 ≤ Av v ∧ Av v ≤ 10 ^ n) (hA0 : ∀ v : Int, (v < 0 ∨ R + 1 ≤ v) → Av v = 0) (ht : 1 ≤ t ∧ t ≤ 40) (hbt : 0 ≤ tv t ∧ tv t + 41 * 10 ^ (n + cp) < zL ^ 11) (hbd : ∀ k : Int, 1 ≤ k → k ≤ 20 → 0 ≤ dv k ∧ dv k * 1000 + 10 ^ (n + cp) < zL ^ 11) (hbn : 0 ≤ nv ∧ nv * 1000 + (tv t + 41 * 10 ^ (n + cp)) < zL ^ 11) : ∀ (j i : Nat) (ω : zWd) (gf gs : Int → Int), i + j = 20 → zOut x (x + 58) ω0 ω → zWk X ω (x + 3) p l R n T Wh cp wt Av gf gs → zRH X ω x bk nv np (zup tv t (tv t + zs (fun i => zFal wt p Av (i + 1)) i)) (fun k => if 1 ≤ k ∧ k ≤ i then dv k * 1000 + zFal wt p Av k else dv k) rt → Zw Γ ω 0 0 2 [some (.ref x), some (.int (zI t)), some (.int (zI ((i : Int) + 1)))] [] := by
  intro j
  induction j with
  | zero =>
    intro i ω gf gs hj hout hW hR
    have e1 : i = 20 := by omega
    subst e1
    have hR0 := hR
    have hW0 := hW
    obtain ⟨gm, gN, gB, gT, gD, hX, hBs, hMv, hWk, hPk, hFv, hNu, hNc, hBo, hBc, hTk, hTc, hDp, hDc, hBk, hbk, hVN, hVT, hVD⟩ := hR
    have hb20 := zFt_b (p := p) hwt hsum hA 20
    have h10 : (0 : Int) < 10 ^ (n + cp) := zpw (by decide) _
    obtain ⟨rn, rx, un, ux, gn, gx, hw, hN, hq, he, hf, hfc, hs, hsc, hn, hnc, hx, hxc, hu, hux, hV, hUn, hU, hUx, hUf⟩ := hW
    refine z_iload_n (i := 2) (pc := 2) C rfl rfl dX6_noteTick_2 ?_
    refine z_bipush (pc := 3) C (by decide +kernel) dX6_noteTick_3 ?_
    refine z_icmp_gt (tgt := 60) (pc := 5) C dX6_noteTick_5 (by decide) (fun h5 => ?_) (fun h5 => absurd h5 (by omega))
    refine z_aload_n (i := 0) (pc := 60) C rfl rfl dX6_noteTick_60 ?_
    refine g_X6_45 (pc := 61) C hX rfl dX6_noteTick_61 ?_
    refine z_iconst (pc := 64) C dX6_noteTick_64 ?_
    refine z_ldc2 (a := 1000) (pc := 65) C (by decide +kernel) q_X6_202 dX6_noteTick_65 ?_
    refine z_aload_n (i := 0) (pc := 68) C rfl rfl dX6_noteTick_68 ?_
    refine g_X6_52 (pc := 69) C hX rfl dX6_noteTick_69 ?_
    refine z_iload_n (i := 1) (pc := 72) C rfl rfl dX6_noteTick_72 ?_
    refine z_lconst (v := 1) (pc := 73) C (by decide +kernel) dX6_noteTick_73 ?_
    refine z_callVv (pc := 74) C (c_X4_combineA hNu hNc ⟨⟨by decide, by decide⟩, ⟨by decide, by decide⟩, by omega, by omega⟩ hTk hTc ⟨⟨by decide, by decide⟩, ⟨by decide, by decide⟩, by omega, by omega⟩ rfl (by omega) (by omega) (by omega) (fun k a b => ⟨(hVN.at (by omega) (by omega)) k a b, (hVT.at (r := t) (by omega) (by omega)) k a b⟩) (by omega) (by omega)) k_X6_198 zy_X4_combine rfl rfl hNu rfl rfl ⟨(Nat.le_of_ble_eq_true rfl), (Nat.le_of_ble_eq_true rfl)⟩ (Nat.le_of_ble_eq_true rfl) dX6_noteTick_74 ⟨rfl, rfl⟩ ⟨(Nat.le_of_ble_eq_true rfl), (Nat.le_of_ble_eq_true rfl)⟩ (fun ω' hp => ?_)
    obtain ⟨g2, rfl, hg2⟩ := hp
    have hcv := zcomb_v hg2 (hVN.v (by omega) (by omega)) (hVT.v (r := t) (by omega) (by omega)) (by rw [zup_s]; omega)
    rw [zup_s, Int.mul_one] at hcv
    exact z_vret (pc := 77) C E dX6_noteTick_77 ⟨rfl, ⟨hout.u (by omega) (by omega), ⟨gf, gs, hW0.fr (fun b h1 h2 => zU_n (by omega))⟩, hR0.nu (zRV1 hcv)⟩⟩
  | succ j ih =>
    intro i ω gf gs hj hout hW hR
    have hR0 := hR
    have hW0 := hW
    obtain ⟨gm, gN, gB, gT, gD, hX, hBs, hMv, hWk, hPk, hFv, hNu, hNc, hBo, hBc, hTk, hTc, hDp, hDc, hBk, hbk, hVN, hVT, hVD⟩ := hR
    obtain ⟨rn, rx, un, ux, gn, gx, hw, hN, hq, he, hf, hfc, hs, hsc, hn, hnc, hx, hxc, hu, hux, hV, hUn, hU, hUx, hUf⟩ := hW
    refine z_iload_n (i := 2) (pc := 2) C rfl rfl dX6_noteTick_2 ?_
    refine z_bipush (pc := 3) C (by decide +kernel) dX6_noteTick_3 ?_
    refine z_icmp_gt (tgt := 60) (pc := 5) C dX6_noteTick_5 (by decide) (fun h5 => absurd h5 (by omega)) (fun h5 => ?_)
    refine z_aload_n (i := 0) (pc := 8) C rfl rfl dX6_noteTick_8 ?_
    refine g_X6_22 (pc := 9) C hX rfl dX6_noteTick_9 ?_
    refine z_iload_n (i := 2) (pc := 12) C rfl rfl dX6_noteTick_12 ?_
    refine z_callVv (pc := 13) C (d_X5_fall hW0 hp0 (by omega) hR2 hT hnc2 hwt hw0 hsum hcp hA hA0 (by omega) hl.1) k_X6_192 zy_X5_fall rfl rfl hw rfl rfl ⟨(Nat.le_of_ble_eq_true rfl), (Nat.le_of_ble_eq_true rfl)⟩ (Nat.le_of_ble_eq_true rfl) dX6_noteTick_13 ⟨rfl, rfl⟩ ⟨(Nat.le_of_ble_eq_true rfl), (Nat.le_of_ble_eq_true rfl)⟩ (fun ω' hp => ?_)
    obtain ⟨gf2, hout2, hW, hfv⟩ := hp
    have hR := hR0.wk (hout2.w (by omega) (by omega)) ⟨_, _, _, _, hW.q⟩
    have hW1 := hW
    have hR1 := hR
    have hout1 := hout.tr (hout2.w (by omega) (by omega))
    have hbi := zFt_b (p := p) hwt hsum hA i
    have hbi1 := zFal_b (p := p) (d := (i : Int) + 1) hwt hsum hA
    have h10 : (0 : Int) < 10 ^ (n + cp) := zpw (by decide) _
    have hik : (i : Int) * 10 ^ (n + cp) ≤ 40 * 10 ^ (n + cp) := Int.mul_le_mul_of_nonneg_right (by omega) (by omega)
    obtain ⟨gm, gN, gB, gT, gD, hX, hBs, hMv, hWk, hPk, hFv, hNu, hNc, hBo, hBc, hTk, hTc, hDp, hDc, hBk, hbk, hVN, hVT, hVD⟩ := hR
    obtain ⟨rn, rx, un, ux, gn, gx, hw, hN, hq, he, hf, hfc, hs, hsc, hn, hnc, hx, hxc, hu, hux, hV, hUn, hU, hUx, hUf⟩ := hW
    refine z_aload_n (i := 0) (pc := 16) C rfl rfl dX6_noteTick_16 ?_
    refine g_X6_52 (pc := 17) C hX rfl dX6_noteTick_17 ?_
    refine z_iload_n (i := 1) (pc := 20) C rfl rfl dX6_noteTick_20 ?_
    refine z_lconst (v := 1) (pc := 21) C (by decide +kernel) dX6_noteTick_21 ?_
    refine z_aload_n (i := 0) (pc := 22) C rfl rfl dX6_noteTick_22 ?_
    refine g_X6_22 (pc := 23) C hX rfl dX6_noteTick_23 ?_
    refine g_X6_195 (pc := 26) C hw rfl dX6_noteTick_26 ?_
    refine z_iconst (pc := 29) C dX6_noteTick_29 ?_
    refine z_lconst (v := 1) (pc := 30) C (by decide +kernel) dX6_noteTick_30 ?_
    refine z_callVv (pc := 31) C (c_X4_combineA hTk hTc ⟨⟨by decide, by decide⟩, ⟨by decide, by decide⟩, by omega, by omega⟩ hf hfc ⟨⟨by decide, by decide⟩, ⟨by decide, by decide⟩, by omega, by omega⟩ rfl (by omega) (by omega) (by omega) (fun k a b => ⟨(hVT.at (r := t) (by omega) (by omega)) k a b, (hfv.at (by omega) (by omega)) k a b⟩) (by omega) (by omega)) k_X6_198 zy_X4_combine rfl rfl hTk rfl rfl ⟨(Nat.le_of_ble_eq_true rfl), (Nat.le_of_ble_eq_true rfl)⟩ (Nat.le_of_ble_eq_true rfl) dX6_noteTick_31 ⟨rfl, rfl⟩ ⟨(Nat.le_of_ble_eq_true rfl), (Nat.le_of_ble_eq_true rfl)⟩ (fun ω' hp => ?_)
    obtain ⟨g2, rfl, hg2⟩ := hp
    have hcv := zcomb_v hg2 (hVT.v (r := t) (by omega) (by omega)) (hfv.v (by omega) (by omega)) (by rw [zup_s]; omega)
    rw [zup_s, Int.mul_one, Int.mul_one] at hcv
    have hVT2 := hVT.set (by omega) hg2 hcv
    have hR := hR1.tk hVT2
    have hW := hW1.fr (ω2 := zU _ (x + 39) (zAJ X (41 * 11) g2)) (fun b h1 h2 => zU_n (by omega))
    have hR2' := hR
    have hW2 := hW
    obtain ⟨gm, gN, gB, gT, gD, hX, hBs, hMv, hWk, hPk, hFv, hNu, hNc, hBo, hBc, hTk, hTc, hDp, hDc, hBk, hbk, hVN, hVT, hVD⟩ := hR
    obtain ⟨rn, rx, un, ux, gn, gx, hw, hN, hq, he, hf, hfc, hs, hsc, hn, hnc, hx, hxc, hu, hux, hV, hUn, hU, hUx, hUf⟩ := hW
    refine z_aload_n (i := 0) (pc := 34) C rfl rfl dX6_noteTick_34 ?_
    refine g_X6_55 (pc := 35) C hX rfl dX6_noteTick_35 ?_
    refine z_iload_n (i := 2) (pc := 38) C rfl rfl dX6_noteTick_38 ?_
    refine z_ldc2 (a := 1000) (pc := 39) C (by decide +kernel) q_X6_202 dX6_noteTick_39 ?_
    refine z_aload_n (i := 0) (pc := 42) C rfl rfl dX6_noteTick_42 ?_
    refine g_X6_22 (pc := 43) C hX rfl dX6_noteTick_43 ?_
    refine g_X6_195 (pc := 46) C hw rfl dX6_noteTick_46 ?_
    refine z_iconst (pc := 49) C dX6_noteTick_49 ?_
    refine z_lconst (v := 1) (pc := 50) C (by decide +kernel) dX6_noteTick_50 ?_
    refine z_callVv (pc := 51) C (c_X4_combineA hDp hDc ⟨⟨by decide, by decide⟩, ⟨by decide, by decide⟩, by omega, by omega⟩ hf hfc ⟨⟨by decide, by decide⟩, ⟨by decide, by decide⟩, by omega, by omega⟩ rfl (by omega) (by omega) (by omega) (fun k a b => ⟨(hVD.at (r := (i : Int) + 1) (by omega) (by omega)) k a b, (hfv.at (by omega) (by omega)) k a b⟩) (by omega) (by omega)) k_X6_198 zy_X4_combine rfl rfl hDp rfl rfl ⟨(Nat.le_of_ble_eq_true rfl), (Nat.le_of_ble_eq_true rfl)⟩ (Nat.le_of_ble_eq_true rfl) dX6_noteTick_51 ⟨rfl, rfl⟩ ⟨(Nat.le_of_ble_eq_true rfl), (Nat.le_of_ble_eq_true rfl)⟩ (fun ω' hp => ?_)
    obtain ⟨g3, rfl, hg3⟩ := hp
    have hbd1 := hbd ((i : Int) + 1) (by omega) (by omega)
    have e7 : (if 1 ≤ (i : Int) + 1 ∧ (i : Int) + 1 ≤ (i : Int) then dv ((i : Int) + 1) * 1000 + zFal wt p Av ((i : Int) + 1) else dv ((i : Int) + 1)) = dv ((i : Int) + 1) := if_neg (by omega)
    have hcv3 := zcomb_v hg3 ((hVD.v (r := (i : Int) + 1) (by omega) (by omega)).trans e7) (hfv.v (by omega) (by omega)) (by omega)
    rw [Int.mul_one] at hcv3
    have hVD2 := (hVD.set (by omega) hg3 hcv3).c (V2 := (fun k => if 1 ≤ k ∧ k ≤ ((i + 1 : Nat) : Int) then dv k * 1000 + zFal wt p Av k else dv k)) (fun r a b => by
      by_cases e : r = (i : Int) + 1
      · rw [e, zup_s, if_pos (by omega)]
      · rw [zup_n e]
        by_cases e2 : 1 ≤ r ∧ r ≤ (i : Int)
        · rw [if_pos e2, if_pos (by omega)]
        · rw [if_neg e2, if_neg (by omega)])
    have hR3 := hR2'.dp hVD2
    have hW3 := hW2.fr (ω2 := zU _ (x + 41) (zAJ X (21 * 11) g3)) (fun b h1 h2 => zU_n (by omega))
    refine z_iinc (i := 2) (lv' := [_, _, _]) (pc := 54) C rfl (by decide) rfl rfl dX6_noteTick_54 ?_
    refine z_goto (tgt := 2) (pc := 57) C dX6_noteTick_57 (by decide) ?_
    refine ih (i + 1) _ gf2 gs (by omega) ((hout1.u (by omega) (by omega)).u (by omega) (by omega)) hW3 ?_
    have e8 : zup (zup tv t (tv t + zs (fun i => zFal wt p Av (i + 1)) i)) t (tv t + zs (fun i => zFal wt p Av (i + 1)) i + zFal wt p Av ((i : Int) + 1)) = zup tv t (tv t + zs (fun i => zFal wt p Av (i + 1)) (i + 1)) := by
      funext k
      by_cases e : k = t
      · rw [e, zup_s, zup_s]
        show _ = tv t + (zs (fun i => zFal wt p Av (i + 1)) i + zFal wt p Av ((i : Int) + 1))
        omega
      · rw [zup_n e, zup_n e, zup_n e]
    rw [e8] at hR3
    exact hR3
set_option maxRecDepth 100000 in
set_option maxHeartbeats 4000000 in
theorem c_X6_noteTick {l0 : Launch} {X : zX} {x : Nat} {bk : Nat → Int → Int} {nv : Int} {np : Nat} {tv dv : Int → Int} {rt : Nat} {p l R T Wh t : Int} {n cp : Nat} {wt Av : Int → Int} {ω : zWd} {gf gs : Int → Int} (hW : zWk X ω (x + 3) p l R n T Wh cp wt Av gf gs) (hR : zRH X ω x bk nv np tv dv rt) (hp0 : 0 ≤ p ∧ p ≤ 20) (hl : 1 ≤ l ∧ l ≤ 40) (hR2 : 0 ≤ R ∧ R ≤ 1000) (hT : 0 ≤ T ∧ T < 41) (hnc2 : n + cp ≤ 120) (hwt : ∀ s : Int, 0 ≤ s → s < 41 → 0 ≤ wt s) (hw0 : ∀ s : Int, 0 ≤ s → s < 41 → T < s → wt s = 0) (hsum : zs wt 41 = 10 ^ cp) (hcp : cp ≤ 6) (hA : ∀ v, 0 ≤ Av v ∧ Av v ≤ 10 ^ n) (hA0 : ∀ v : Int, (v < 0 ∨ R + 1 ≤ v) → Av v = 0) (ht : 1 ≤ t ∧ t ≤ 40) (hbt : 0 ≤ tv t ∧ tv t + 41 * 10 ^ (n + cp) < zL ^ 11) (hbd : ∀ k : Int, 1 ≤ k → k ≤ 20 → 0 ≤ dv k ∧ dv k * 1000 + 10 ^ (n + cp) < zL ^ 11) (hbn : 0 ≤ nv ∧ nv * 1000 + (tv t + 41 * 10 ^ (n + cp)) < zL ^ 11) : zMet l0 yX6_noteTick cX6_noteTick 3 none rmX6_noteTick X [.ref x, .int (zI t)] ω (zpv (fun w => zOut x (x + 58) ω w ∧ (∃ gf gs, zWk X w (x + 3) p l R n T Wh cp wt Av gf gs) ∧ zRH X w x bk (nv * 1000 + (tv t + zs (fun i => zFal wt p Av (i + 1)) 20)) np (zup tv t (tv t + zs (fun i => zFal wt p Av (i + 1)) 20)) (fun k => if 1 ≤ k ∧ k ≤ 20 then dv k * 1000 + zFal wt p Av k else dv k) rt)) := by
  refine zMet.intro (by decide) (Nat.le_of_ble_eq_true rfl) ?_
  intro Γ C E N
  show Zw Γ ω 0 0 0 [some _, some _, none] []
  refine z_iconst (pc := 0) C dX6_noteTick_0 ?_
  refine z_istore_n (i := 2) (lv' := [_, _, _]) (pc := 1) C rfl (by decide) rfl rfl dX6_noteTick_1 ?_
  have e1 : zup tv t (tv t + zs (fun i => zFal wt p Av (i + 1)) 0) = tv := by
    funext k
    by_cases e : k = t
    · rw [e, zup_s]; show tv t + 0 = tv t; omega
    · rw [zup_n e]
  have e2 : (fun k => if 1 ≤ k ∧ k ≤ ((0 : Nat) : Int) then dv k * 1000 + zFal wt p Av k else dv k) = dv := by
    funext k
    exact if_neg (by omega)
  exact lp_X6_noteTick C E hp0 hl hR2 hT hnc2 hwt hw0 hsum hcp hA hA0 ht hbt hbd hbn 20 0 ω gf gs rfl zOut.rf hW (by rw [e1, e2]; exact hR)
