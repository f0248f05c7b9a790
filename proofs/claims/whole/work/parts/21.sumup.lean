theorem zWk.sum {X : zX} {ω : zWd} {a : Nat} {p l R : Int} {n : Nat} {T Wh : Int} {cp : Nat} {wt Av gf gs gs2 : Int → Int} (hW : zWk X ω a p l R n T Wh cp wt Av gf gs) : zWk X (zU ω (a + 6) (zAJ X (1 * 11) gs2)) a p l R n T Wh cp wt Av gf gs2 := by
  obtain ⟨rn, rx, un, ux, gn, gx, hw, hN, hq, he, hf, hfc, hs, hsc, hn, hnc, hx, hxc, hu, hux, hV, hUn, hU, hUx, hUf⟩ := hW
  exact ⟨rn, rx, un, ux, gn, gx, zU_n' (by omega) hw, hN, zU_n' (by omega) hq, zU_n' (by omega) he, zU_n' (by omega) hf, zU_n' (by omega) hfc, zU_n' (by omega) hs, zU_s _ _ _, zU_n' (by omega) hn, zU_n' (by omega) hnc, zU_n' (by omega) hx, zU_n' (by omega) hxc, hu, hux, hV, hUn, hU, hUx, hUf⟩
theorem zfill_at {g : Int → Int} {h wd : Nat} {r k : Int} (a : 0 ≤ r) (b : r < h) (c : 0 ≤ k) (d : k < wd) : zfill g 0 ((h : Int) * wd) (r * wd + k) = 0 := if_pos (z_ix a b c d)
theorem zfill_RV {g : Int → Int} {h wd : Nat} {u : Int} (hu : u ≤ h) : zRV (zfill g 0 ((h : Int) * wd)) wd u (fun _ => 0) := fun r a b => ⟨fun k c d => by rw [zfill_at a (by omega) c d]; decide, zv_0 (fun k c d => zfill_at a (by omega) c d)⟩
theorem zfill_Up {g : Int → Int} {h wd : Nat} {lim : Int} (hl : 0 ≤ lim) : zUp (zfill g 0 ((h : Int) * wd)) wd h lim := fun r k a b c d => zfill_at a b (by omega) d
theorem zRV1 {g : Int → Int} {wd : Nat} {x : Int} (h : (∀ k : Int, 0 ≤ k → k < wd → 0 ≤ g (0 * wd + k) ∧ g (0 * wd + k) < zL) ∧ zv zL (fun k => g (0 * wd + k)) wd = x) : zRV g wd 1 (fun _ => x) := fun r a b => by rw [show r = 0 by omega]; exact h
set_option maxRecDepth 100000 in
set_option maxHeartbeats 4000000 in
theorem lp_X5_sumUp_i {Γ : zG} {l0 : Launch} {X : zX} {a : Nat} {p l R T Wh : Int} {n cp : Nat} {wt Av : Int → Int} {S0 : Int} {ω0 : zWd} {x1 x2 : Int} (C : Zc Γ l0 X rmX5_sumUp 4 cX5_sumUp RX5) (hp0 : 0 ≤ p ∧ p ≤ 20) (hl : 0 ≤ l ∧ l ≤ 40) (hR : 0 ≤ R ∧ R ≤ 1000) (hT : 0 ≤ T ∧ T < 41) (hnc2 : n + cp ≤ 120) (hwt : ∀ s : Int, 0 ≤ s → s < 41 → 0 ≤ wt s) (hw0 : ∀ s : Int, 0 ≤ s → s < 41 → T < s → wt s = 0) (hsum : zs wt 41 = 10 ^ cp) (hcp : cp ≤ 6) (hA : ∀ v, 0 ≤ Av v ∧ Av v ≤ 10 ^ n) (hA0 : ∀ v : Int, (v < 0 ∨ R + 1 ≤ v) → Av v = 0) (hl1 : 1 ≤ l) (hS : ∀ k : Nat, k ≤ 41 → 0 ≤ S0 + zs (fun i => zFal wt p Av (i + 1)) k ∧ S0 + zs (fun i => zFal wt p Av (i + 1)) k < zL ^ 11) (K : ∀ (ω : zWd) (gf gs : Int → Int) (d : Int), zOut a (a + 11) ω0 ω → zWk X ω a p l R n T Wh cp wt Av gf gs → zRV gs 11 1 (fun _ => S0 + zFt wt p Av) → Zw Γ ω 0 0 79 [some (.ref a), some (.int (zI x1)), some (.int (zI x2)), some (.int (zI d))] []) : ∀ (j k : Nat) (ω : zWd) (gf gs : Int → Int), k + j = (T - p).toNat → zOut a (a + 11) ω0 ω → zWk X ω a p l R n T Wh cp wt Av gf gs → zRV gs 11 1 (fun _ => S0 + zs (fun i => zFal wt p Av (i + 1)) k) → Zw Γ ω 0 0 37 [some (.ref a), some (.int (zI x1)), some (.int (zI x2)), some (.int (zI ((k : Nat) + 1 : Int)))] [] := by
  intro j
  induction j with
  | zero =>
    intro k ω gf gs hj hout hW hv
    have hW0 := hW
    obtain ⟨rn, rx, un, ux, gn, gx, hw, hN, hq, he, hf, hfc, hs, hsc, hn, hnc, hx, hxc, hu, hux, hV, hUn, hU, hUx, hUf⟩ := hW
    refine z_iload_n (i := 3) (pc := 37) C rfl rfl dX5_sumUp_37 ?_
    refine z_aload_n (i := 0) (pc := 38) C rfl rfl dX5_sumUp_38 ?_
    refine g_X5_12 (pc := 39) C hw rfl dX5_sumUp_39 ?_
    refine g_X5_83 (pc := 42) C hq rfl dX5_sumUp_42 ?_
    refine z_aload_n (i := 0) (pc := 45) C rfl rfl dX5_sumUp_45 ?_
    refine g_X5_36 (pc := 46) C hw rfl dX5_sumUp_46 ?_
    refine z_isub (pc := 49) C dX5_sumUp_49 ?_
    refine z_icmp_gt (tgt := 79) (pc := 50) C dX5_sumUp_50 (by decide) (fun h50 => ?_) (fun h50 => absurd h50 (by omega))
    exact K ω gf gs _ hout hW0 (by rw [← zFt_d (D := k) hA0 hw0 (by omega) (by omega)]; exact hv)
  | succ j ih =>
    intro k ω gf gs hj hout hW hv
    have hW0 := hW
    obtain ⟨rn, rx, un, ux, gn, gx, hw, hN, hq, he, hf, hfc, hs, hsc, hn, hnc, hx, hxc, hu, hux, hV, hUn, hU, hUx, hUf⟩ := hW
    refine z_iload_n (i := 3) (pc := 37) C rfl rfl dX5_sumUp_37 ?_
    refine z_aload_n (i := 0) (pc := 38) C rfl rfl dX5_sumUp_38 ?_
    refine g_X5_12 (pc := 39) C hw rfl dX5_sumUp_39 ?_
    refine g_X5_83 (pc := 42) C hq rfl dX5_sumUp_42 ?_
    refine z_aload_n (i := 0) (pc := 45) C rfl rfl dX5_sumUp_45 ?_
    refine g_X5_36 (pc := 46) C hw rfl dX5_sumUp_46 ?_
    refine z_isub (pc := 49) C dX5_sumUp_49 ?_
    refine z_icmp_gt (tgt := 79) (pc := 50) C dX5_sumUp_50 (by decide) (fun h50 => absurd h50 (by omega)) (fun h50 => ?_)
    refine z_aload_n (i := 0) (pc := 53) C rfl rfl dX5_sumUp_53 ?_
    refine z_iload_n (i := 3) (pc := 54) C rfl rfl dX5_sumUp_54 ?_
    refine z_callVv (pc := 55) C (d_X5_fall hW0 hp0 hl hR hT hnc2 hwt hw0 hsum hcp hA hA0 (by omega) hl1) k_X5_86 zy_X5_fall rfl rfl hw rfl rfl ⟨(Nat.le_of_ble_eq_true rfl), (Nat.le_of_ble_eq_true rfl)⟩ (Nat.le_of_ble_eq_true rfl) dX5_sumUp_55 ⟨rfl, rfl⟩ ⟨(Nat.le_of_ble_eq_true rfl), (Nat.le_of_ble_eq_true rfl)⟩ (fun ω' hp => ?_)
    obtain ⟨gf2, hout2, hW, hfv⟩ := hp
    have hout3 := hout.tr (hout2.w (by omega) (by omega))
    have hsc1 := hout2.at (b := a + 6) (by omega) hsc
    have hW1 := hW
    obtain ⟨rn, rx, un, ux, gn, gx, hw, hN, hq, he, hf, hfc, hs, hsc, hn, hnc, hx, hxc, hu, hux, hV, hUn, hU, hUx, hUf⟩ := hW
    refine z_aload_n (i := 0) (pc := 58) C rfl rfl dX5_sumUp_58 ?_
    refine g_X5_27 (pc := 59) C hw rfl dX5_sumUp_59 ?_
    refine z_iconst (pc := 62) C dX5_sumUp_62 ?_
    refine z_lconst (v := 1) (pc := 63) C (by decide +kernel) dX5_sumUp_63 ?_
    refine z_aload_n (i := 0) (pc := 64) C rfl rfl dX5_sumUp_64 ?_
    refine g_X5_23 (pc := 65) C hw rfl dX5_sumUp_65 ?_
    refine z_iconst (pc := 68) C dX5_sumUp_68 ?_
    refine z_lconst (v := 1) (pc := 69) C (by decide +kernel) dX5_sumUp_69 ?_
    refine z_callVv (pc := 70) C (c_X4_combineA hs hsc ⟨⟨by decide, by decide⟩, ⟨by decide, by decide⟩, by omega, by omega⟩ hf hfc ⟨⟨by decide, by decide⟩, ⟨by decide, by decide⟩, by omega, by omega⟩ rfl (by omega) (by omega) (by omega) (fun k a b => ⟨(hv.at (by omega) (by omega)) k a b, (hfv.at (by omega) (by omega)) k a b⟩) (by omega) (by omega)) k_X5_89 zy_X4_combine rfl rfl hs rfl rfl ⟨(Nat.le_of_ble_eq_true rfl), (Nat.le_of_ble_eq_true rfl)⟩ (Nat.le_of_ble_eq_true rfl) dX5_sumUp_70 ⟨rfl, rfl⟩ ⟨(Nat.le_of_ble_eq_true rfl), (Nat.le_of_ble_eq_true rfl)⟩ (fun ω' hp => ?_)
    obtain ⟨gs2, rfl, hg2⟩ := hp
    have hcv := zcomb_v hg2 (hv.v (by omega) (by omega)) (hfv.v (by omega) (by omega)) (by have := hS (k + 1) (by omega); show 0 ≤ (S0 + zs (fun i => zFal wt p Av (i + 1)) k) * 1 + zFal wt p Av ((k : Int) + 1) * 1 ∧ _ < _; simp only [Int.mul_one]; have e : zs (fun i => zFal wt p Av (i + 1)) (k + 1) = zs (fun i => zFal wt p Av (i + 1)) k + zFal wt p Av ((k : Int) + 1) := rfl; rw [e] at this; omega)
    simp only [Int.mul_one] at hcv
    refine z_iinc (i := 3) (lv' := [_, _, _, _]) (pc := 73) C rfl (by decide) rfl rfl dX5_sumUp_73 ?_
    refine z_goto (tgt := 37) (pc := 76) C dX5_sumUp_76 (by decide) ?_
    exact ih (k + 1) _ gf2 gs2 (by omega) (hout3.u (by omega) (by omega)) hW1.sum (by
      refine (zRV1 hcv).c (fun r _ _ => ?_)
      show S0 + zs (fun i => zFal wt p Av (i + 1)) k + zFal wt p Av ((k : Int) + 1) = S0 + (zs (fun i => zFal wt p Av (i + 1)) k + zFal wt p Av ((k : Int) + 1))
      omega)
set_option maxRecDepth 100000 in
set_option maxHeartbeats 4000000 in
theorem lp_X5_sumUp {Γ : zG} {l0 : Launch} {X : zX} {a : Nat} {p R T Wh : Int} {n cp Ln : Nat} {wt Av : Int → Int} {ω0 : zWd} (C : Zc Γ l0 X rmX5_sumUp 4 cX5_sumUp RX5) (E : Ze Γ (zpv (fun w => ∃ gf2 gs2, zOut a (a + 11) ω0 w ∧ zWk X w a p 0 (R + p * Ln) (n + Ln * cp) T Wh cp wt (zIt wt p Av Ln) gf2 gs2 ∧ zRV gs2 11 1 (fun _ => zSm wt p Wh Av Ln))) 0 0 none) (hp0 : 0 ≤ p ∧ p ≤ 20) (hLn : Ln ≤ 40) (hR : 0 ≤ R ∧ R + p * Ln ≤ 1000) (hT : 0 ≤ T ∧ T < 41) (hnc2 : n + Ln * cp ≤ 120) (hWh : Wh = 10 ^ cp) (hwt : ∀ s : Int, 0 ≤ s → s < 41 → 0 ≤ wt s) (hw0 : ∀ s : Int, 0 ≤ s → s < 41 → T < s → wt s = 0) (hsum : zs wt 41 = 10 ^ cp) (hcp : cp ≤ 6) (hA : ∀ v, 0 ≤ Av v ∧ Av v ≤ 10 ^ n) (hA0 : ∀ v : Int, (v < 0 ∨ R + 1 ≤ v) → Av v = 0) (hcap : ∀ j : Int, 0 ≤ j → j ≤ Ln → min (R + p * (Ln - j) + 1) (j * (T - p)) ≤ 256) : ∀ (j t : Nat) (ω : zWd) (gf gs : Int → Int) (o3 : Option Value), t + j = Ln → zOut a (a + 11) ω0 ω → zWk X ω a p ((Ln : Int) - t) (R + p * t) (n + t * cp) T Wh cp wt (zIt wt p Av t) gf gs → zRV gs 11 1 (fun _ => zSm wt p Wh Av t) → Zw Γ ω 0 0 14 [some (.ref a), some (.int (zI ((Ln : Nat) : Int))), some (.int (zI ((t : Nat) : Int))), o3] [] := by
  intro j
  induction j with
  | zero =>
    intro t ω gf gs o3 hj hout hW hv
    have e1 : t = Ln := by omega
    subst e1
    rw [Int.sub_self] at hW
    refine z_iload_n (i := 2) (pc := 14) C rfl rfl dX5_sumUp_14 ?_
    refine z_iload_n (i := 1) (pc := 15) C rfl rfl dX5_sumUp_15 ?_
    refine z_icmp_ge (tgt := 89) (pc := 16) C dX5_sumUp_16 (by decide) (fun h16 => ?_) (fun h16 => absurd h16 (by omega))
    exact z_vret (pc := 89) C E dX5_sumUp_89 ⟨rfl, ⟨gf, gs, hout, hW, hv⟩⟩
  | succ j ih =>
    intro t ω gf gs o3 hj hout hW hv
    have hpt : p * (t : Int) ≤ p * Ln := Int.mul_le_mul_of_nonneg_left (by omega) hp0.1
    have hpt0 : 0 ≤ p * (t : Int) := Int.mul_nonneg hp0.1 (by omega)
    have hct : (t + 1) * cp ≤ Ln * cp := Nat.mul_le_mul_right cp (by omega)
    rw [Nat.succ_mul] at hct
    have hB := zSm_b (p := p) hwt hsum hA t
    have hA' := zIt_b (p := p) hwt hsum hA t
    have hA0' := zIt_0 (p := p) (wt := wt) hA0 t
    have hbig : ∀ k : Nat, k ≤ 41 → 0 ≤ zSm wt p Wh Av t * Wh + zs (fun i => zFal wt p (zIt wt p Av t) (i + 1)) k ∧ zSm wt p Wh Av t * Wh + zs (fun i => zFal wt p (zIt wt p Av t) (i + 1)) k < zL ^ 11 := by
      intro k hk
      have h1 := zFt_b (p := p) hwt hsum hA' k
      rw [hWh]
      have h2 : (10 : Int) ^ (n + t * cp) ≤ 10 ^ 120 := zp10 (by omega)
      have h3 : (10 : Int) ^ (n + t * cp + cp) ≤ 10 ^ 120 := zp10 (by omega)
      have h4 : (10 : Int) ^ cp ≤ 10 ^ 6 := zp10 hcp
      have h4' : (0 : Int) < 10 ^ cp := zpw (by decide) _
      have h5a : (0 : Int) < 10 ^ (n + t * cp + cp) := zpw (by decide) _
      have h6a : (0 : Int) < 10 ^ (n + t * cp) := zpw (by decide) _
      have h5 : (k : Int) * 10 ^ (n + t * cp + cp) ≤ 41 * 10 ^ 120 := Int.mul_le_mul (by omega) h3 (by omega) (by omega)
      have h6 : 41 * (t : Int) * 10 ^ (n + t * cp) ≤ 1640 * 10 ^ 120 := Int.mul_le_mul (by omega) h2 (by omega) (by omega)
      have h7 : zSm wt p (10 ^ cp) Av t * 10 ^ cp ≤ (1640 * 10 ^ 120) * 10 ^ 6 := Int.mul_le_mul (by omega) h4 (by omega) (by decide)
      have h8 : 0 ≤ zSm wt p (10 ^ cp) Av t * 10 ^ cp := Int.mul_nonneg hB.1 (by omega)
      have h9 : (1640 * 10 ^ 120) * 10 ^ 6 + 41 * (10 : Int) ^ 120 < zL ^ 11 := by decide
      omega
    have hWh1 : 0 ≤ Wh ∧ Wh ≤ 1000000 := by
      rw [hWh]
      have h4 : (10 : Int) ^ cp ≤ 10 ^ 6 := zp10 hcp
      have h4' : (0 : Int) < 10 ^ cp := zpw (by decide) _
      omega
    have hW0 := hW
    obtain ⟨rn, rx, un, ux, gn, gx, hw, hN, hq, he, hf, hfc, hs, hsc, hn, hnc, hx, hxc, hu, hux, hV, hUn, hU, hUx, hUf⟩ := hW
    refine z_iload_n (i := 2) (pc := 14) C rfl rfl dX5_sumUp_14 ?_
    refine z_iload_n (i := 1) (pc := 15) C rfl rfl dX5_sumUp_15 ?_
    refine z_icmp_ge (tgt := 89) (pc := 16) C dX5_sumUp_16 (by decide) (fun h16 => absurd h16 (by omega)) (fun h16 => ?_)
    refine z_aload_n (i := 0) (pc := 19) C rfl rfl dX5_sumUp_19 ?_
    refine g_X5_27 (pc := 20) C hw rfl dX5_sumUp_20 ?_
    refine z_iconst (pc := 23) C dX5_sumUp_23 ?_
    refine z_aload_n (i := 0) (pc := 24) C rfl rfl dX5_sumUp_24 ?_
    refine g_X5_12 (pc := 25) C hw rfl dX5_sumUp_25 ?_
    refine g_X5_75 (pc := 28) C hq rfl dX5_sumUp_28 ?_
    refine z_lconst (v := 0) (pc := 31) C (by decide +kernel) dX5_sumUp_31 ?_
    refine z_callVv (pc := 32) C (c_X4_times hs hsc ⟨⟨by decide, by decide⟩, ⟨by decide, by decide⟩, by omega, by omega⟩ (by omega) (hv.at (by omega) (by omega)) hWh1 (by omega)) k_X5_79 zy_X4_times rfl rfl hs rfl rfl ⟨(Nat.le_of_ble_eq_true rfl), (Nat.le_of_ble_eq_true rfl)⟩ (Nat.le_of_ble_eq_true rfl) dX5_sumUp_32 ⟨rfl, rfl⟩ ⟨(Nat.le_of_ble_eq_true rfl), (Nat.le_of_ble_eq_true rfl)⟩ (fun ω' hp => ?_)
    obtain ⟨gs2, rfl, hg2⟩ := hp
    have htv := ztimes_v hg2 (hv.v (by omega) (by omega)) (by have := hbig 0 (by omega); simpa [zs] using this)
    refine z_iconst (pc := 35) C dX5_sumUp_35 ?_
    refine z_istore_n (i := 3) (lv' := [_, _, _, _]) (pc := 36) C rfl (by decide) rfl rfl dX5_sumUp_36 ?_
    refine lp_X5_sumUp_i (n := n + t * cp) (l := (Ln : Int) - t) (R := R + p * t) (Av := zIt wt p Av t) (ω0 := ω0) C hp0 (by omega) (by omega) hT (by omega) hwt hw0 hsum hcp hA' hA0' (by omega) hbig ?_ (T - p).toNat 0 _ gf gs2 (by omega) (hout.u (by omega) (by omega)) hW0.sum (by
      refine (zRV1 htv).c (fun r _ _ => ?_)
      show zSm wt p Wh Av t * Wh + 0 = zSm wt p Wh Av t * Wh + 0
      rfl)
    intro ω1 gf1 gs1 d1 hout1 hW1 hv1
    obtain ⟨rn1, rx1, un1, ux1, gn1, gx1, hw1, -⟩ := id hW1
    have hcp1 : min (R + p * (t : Int) + p + 1) (((Ln : Int) - t - 1) * (T - p)) ≤ 256 := by
      have h := hcap ((Ln : Int) - t - 1) (by omega) (by omega)
      have e : p * ((Ln : Int) - ((Ln : Int) - t - 1)) = p * t + p := by
        rw [show (Ln : Int) - ((Ln : Int) - t - 1) = t + 1 by omega, Int.mul_add, Int.mul_one]
      rw [e] at h
      omega
    refine z_aload_n (i := 0) (pc := 79) C rfl rfl dX5_sumUp_79 ?_
    refine z_callVv (pc := 80) C (d_X5_tick hW1 hp0 (by omega) (by omega) hT (by omega) hwt hw0 hsum hcp hA' hA0' (by omega) hcp1) k_X5_93 zy_X5_tick rfl rfl hw1 rfl rfl ⟨(Nat.le_of_ble_eq_true rfl), (Nat.le_of_ble_eq_true rfl)⟩ (Nat.le_of_ble_eq_true rfl) dX5_sumUp_80 ⟨rfl, rfl⟩ ⟨(Nat.le_of_ble_eq_true rfl), (Nat.le_of_ble_eq_true rfl)⟩ (fun ω' hp => ?_)
    obtain ⟨hout2, -, hW2⟩ := hp
    have e2 : R + p * (t : Int) + p = R + p * ((t + 1 : Nat) : Int) := by rw [Int.natCast_succ, Int.mul_add, Int.mul_one]; omega
    have e3 : n + t * cp + cp = n + (t + 1) * cp := by rw [Nat.succ_mul]; omega
    rw [show (Ln : Int) - t - 1 = (Ln : Int) - ((t + 1 : Nat) : Int) by omega, e2, e3] at hW2
    refine z_iinc (i := 2) (lv' := [_, _, _, _]) (pc := 83) C rfl (by decide) rfl rfl dX5_sumUp_83 ?_
    refine z_goto (tgt := 14) (pc := 86) C dX5_sumUp_86 (by decide) ?_
    exact ih (t + 1) _ gf1 gs1 _ (by omega) (hout1.tr hout2) hW2 hv1
set_option maxRecDepth 100000 in
set_option maxHeartbeats 4000000 in
theorem c_X5_sumUp {l0 : Launch} {X : zX} {ω : zWd} {a : Nat} {p R T Wh : Int} {n cp Ln : Nat} {wt Av gf gs : Int → Int} (hW : zWk X ω a p Ln R n T Wh cp wt Av gf gs) (hp0 : 0 ≤ p ∧ p ≤ 20) (hLn : Ln ≤ 40) (hR : 0 ≤ R ∧ R + p * Ln ≤ 1000) (hT : 0 ≤ T ∧ T < 41) (hnc2 : n + Ln * cp ≤ 120) (hWh : Wh = 10 ^ cp) (hwt : ∀ s : Int, 0 ≤ s → s < 41 → 0 ≤ wt s) (hw0 : ∀ s : Int, 0 ≤ s → s < 41 → T < s → wt s = 0) (hsum : zs wt 41 = 10 ^ cp) (hcp : cp ≤ 6) (hA : ∀ v, 0 ≤ Av v ∧ Av v ≤ 10 ^ n) (hA0 : ∀ v : Int, (v < 0 ∨ R + 1 ≤ v) → Av v = 0) (hcap : ∀ j : Int, 0 ≤ j → j ≤ Ln → min (R + p * (Ln - j) + 1) (j * (T - p)) ≤ 256) : zMet l0 yX5_sumUp cX5_sumUp 4 none rmX5_sumUp X [.ref a] ω (zpv (fun w => ∃ gf2 gs2, zOut a (a + 11) ω w ∧ zWk X w a p 0 (R + p * Ln) (n + Ln * cp) T Wh cp wt (zIt wt p Av Ln) gf2 gs2 ∧ zRV gs2 11 1 (fun _ => zSm wt p Wh Av Ln))) := by
  refine zMet.intro (by decide) (Nat.le_of_ble_eq_true rfl) ?_
  intro Γ C E N
  show Zw Γ ω 0 0 0 [some _, none, none, none] []
  have hW0 := hW
  obtain ⟨rn, rx, un, ux, gn, gx, hw, hN, hq, he, hf, hfc, hs, hsc, hn, hnc, hx, hxc, hu, hux, hV, hUn, hU, hUx, hUf⟩ := hW
  refine z_aload_n (i := 0) (pc := 0) C rfl rfl dX5_sumUp_0 ?_
  refine g_X5_27 (pc := 1) C hw rfl dX5_sumUp_1 ?_
  refine z_callVv (pc := 4) C (c_X4_wipe hs hsc ⟨⟨by decide, by decide⟩, ⟨by decide, by decide⟩, by omega, by omega⟩) k_X5_49 zy_X4_wipe rfl rfl hs rfl rfl ⟨(Nat.le_of_ble_eq_true rfl), (Nat.le_of_ble_eq_true rfl)⟩ (Nat.le_of_ble_eq_true rfl) dX5_sumUp_4 ⟨rfl, rfl⟩ ⟨(Nat.le_of_ble_eq_true rfl), (Nat.le_of_ble_eq_true rfl)⟩ (fun ω' hp => ?_)
  subst hp
  refine z_aload_n (i := 0) (pc := 7) C rfl rfl dX5_sumUp_7 ?_
  refine g_X5_40 (pc := 8) C (zU_n' (z_neOJ hw hsc) hw) rfl dX5_sumUp_8 ?_
  refine z_istore_n (i := 1) (lv' := [_, _, _, _]) (pc := 11) C rfl (by decide) rfl rfl dX5_sumUp_11 ?_
  refine z_iconst (pc := 12) C dX5_sumUp_12 ?_
  refine z_istore_n (i := 2) (lv' := [_, _, _, _]) (pc := 13) C rfl (by decide) rfl rfl dX5_sumUp_13 ?_
  exact lp_X5_sumUp C E hp0 hLn hR hT hnc2 hWh hwt hw0 hsum hcp hA hA0 hcap Ln 0 _ gf (zfill gs 0 (((1 : Nat) : Int) * ((11 : Nat) : Int))) none (by omega) (zOut.rf.u (by omega) (by omega)) (by
    have h := hW0.sum (gs2 := zfill gs 0 (((1 : Nat) : Int) * ((11 : Nat) : Int)))
    have e1 : (Ln : Int) - ((0 : Nat) : Int) = Ln := by omega
    have e2 : R + p * ((0 : Nat) : Int) = R := by simp
    have e3 : n + 0 * cp = n := by simp
    rw [e1, e2, e3]
    exact h) (zfill_RV (by omega))
