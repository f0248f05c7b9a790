set_option maxRecDepth 100000 in
set_option maxHeartbeats 4000000 in
theorem lp_runs8 {Γ : zG} {l0 : Launch} {X : zX} {m bh rt pu n t mo tp sp : Nat} {p b : Int} {ω0 : zWd} {A Nx Ra Rb : Nat → Int} {o9 o10 : Option Value} (C : Zc Γ l0 X rmX7_runs 11 cX7_runs RX7) (htp : tp < 901) (K : ∀ ω : zWd, zRn X ω0 ω m bh rt sp (fun u => if u < tp + 1 then Nx u else A u) Nx Ra Rb (tp + 1) → Zw Γ ω 0 0 333 [some (.ref m), some (.int (zI (pu : Int))), some (.int (zI p)), some (.int (zI b)), some (.int (zI (n : Int))), some (.int (zI (mo : Int))), some (.int (zI (t : Int))), some (.int (zI (tp : Int))), some (.int (zI ((tp : Int) + 1))), o9, o10] []) : ∀ (j i : Nat) (ω : zWd), i + j = tp + 1 → zRn X ω0 ω m bh rt sp (fun u => if u < i then Nx u else A u) Nx Ra Rb (tp + 1) → Zw Γ ω 0 0 303 [some (.ref m), some (.int (zI (pu : Int))), some (.int (zI p)), some (.int (zI b)), some (.int (zI (n : Int))), some (.int (zI (mo : Int))), some (.int (zI (t : Int))), some (.int (zI (tp : Int))), some (.int (zI (i : Int))), o9, o10] [] := by
  intro j
  induction j with
  | zero =>
    intro i ω hj hS
    have e1 : i = tp + 1 := by omega
    subst e1
    have hK := K ω hS
    refine z_iload (i := 8) (pc := 303) C rfl dX7_runs_303 ?_
    refine z_iload (i := 7) (pc := 305) C rfl dX7_runs_305 ?_
    refine z_icmp_gt (tgt := 333) (pc := 307) C dX7_runs_307 (by decide) (fun h307 => ?_) (fun h307 => absurd h307 (by omega))
    exact hK
  | succ j ih =>
    intro i ω hj hS
    have hS0 := hS
    obtain ⟨hF, hM, hAl, hNx, hRa, hRb⟩ := hS
    obtain ⟨fA, hA1, hA2⟩ := hAl
    obtain ⟨fN, hN1, hN2⟩ := hNx
    refine z_iload (i := 8) (pc := 303) C rfl dX7_runs_303 ?_
    refine z_iload (i := 7) (pc := 305) C rfl dX7_runs_305 ?_
    refine z_icmp_gt (tgt := 333) (pc := 307) C dX7_runs_307 (by decide) (fun h307 => absurd h307 (by omega)) (fun h307 => ?_)
    refine z_aload_n (i := 0) (pc := 310) C rfl rfl dX7_runs_310 ?_
    refine g_X7_37 (pc := 311) C hM rfl dX7_runs_311 ?_
    refine z_iload (i := 8) (pc := 314) C rfl dX7_runs_314 ?_
    refine z_aaload (pc := 316) C hN1.1 rfl dX7_runs_316 ?_
    refine z_aload_n (i := 0) (pc := 317) C rfl rfl dX7_runs_317 ?_
    refine g_X7_34 (pc := 318) C hM rfl dX7_runs_318 ?_
    refine z_iload (i := 8) (pc := 321) C rfl dX7_runs_321 ?_
    refine z_aaload (pc := 323) C hA1.1 rfl dX7_runs_323 ?_
    refine z_callSv (pc := 324) C (c_X7_copy (hN1.2 i (by omega)) (hN2 i (by omega)) (by omega) (hA1.2 i (by omega))) k_X7_124 zy_X7_copy.2 rfl rfl ⟨(Nat.le_of_ble_eq_true rfl), (Nat.le_of_ble_eq_true rfl)⟩ (Nat.le_of_ble_eq_true rfl) dX7_runs_324 ⟨rfl, rfl⟩ ⟨(Nat.le_of_ble_eq_true rfl), (Nat.le_of_ble_eq_true rfl)⟩ (fun ω' hp => ?_)
    obtain ⟨g2, rfl, hg2⟩ := hp
    refine z_iinc (i := 8) (lv' := [_, _, _, _, _, _, _, _, _, _, _]) (pc := 327) C rfl (by decide) rfl rfl dX7_runs_327 ?_
    refine z_goto (tgt := 303) (pc := 330) C dX7_runs_330 (by decide) ?_
    exact ih (i + 1) _ (by omega) (hS0.al (j := i) (by omega) hg2 (fun k hk => by
      by_cases e : k = i
      · rw [e, va_up_self, if_pos (by omega)]
      · rw [va_up_ne _ _ e]
        (try dsimp only)
        by_cases q : k < i
        · rw [if_pos q, if_pos (by omega)]
        · rw [if_neg q, if_neg (by omega)]))
theorem zDk_sum {wt Av : Int → Int} {p d : Int} : ∀ n : Nat, zDk wt p Av d n = zs (fun i => zFal wt p (zIt wt p Av i.toNat) d * 1000 ^ (n - 1 - i.toNat)) n
  | 0 => rfl
  | n + 1 => by
    show zDk wt p Av d n * 1000 + zFal wt p (zIt wt p Av n) d = zs _ n + zFal wt p (zIt wt p Av ((n : Int)).toNat) d * 1000 ^ (n + 1 - 1 - ((n : Int)).toNat)
    rw [zDk_sum n, show ((n : Int)).toNat = n by omega, show n + 1 - 1 - n = 0 by omega, Int.pow_zero, Int.mul_one, Int.mul_comm _ 1000, ← zs_mulc]
    congr 1
    refine zs_c (fun i a b => ?_)
    (try dsimp only)
    rw [show n + 1 - 1 - i.toNat = n - 1 - i.toNat + 1 by omega, Int.pow_succ]
    grind
theorem zbd_t {τ n : Nat} {x : Int} (h : 0 ≤ x ∧ x ≤ 10 ^ (0 + τ * 3 + 3)) (hn : τ < n) : 0 ≤ x * 1000 ^ (n - 1 - τ) ∧ x * 1000 ^ (n - 1 - τ) ≤ 1000 ^ n := by
  have hP : (0 : Int) < 1000 ^ (n - 1 - τ) := zpw (by decide) _
  have e : (1000 : Int) ^ n = 10 ^ (0 + τ * 3 + 3) * 1000 ^ (n - 1 - τ) := by rw [zk_pow, zk_pow, ← Int.pow_add]; congr 1; omega
  rw [e]
  exact ⟨Int.mul_nonneg h.1 (by omega), Int.mul_le_mul_of_nonneg_right h.2 (by omega)⟩
set_option maxRecDepth 100000 in
set_option maxHeartbeats 4000000 in
theorem lp_runs4 {Γ : zG} {l0 : Launch} {X : zX} {m bh rt pu n : Nat} {p b : Int} {bk : Nat → Int → Int} {ω0 : zWd} (C : Zc Γ l0 X rmX7_runs 11 cX7_runs RX7) (E : Ze Γ (zpv (fun w => zOut (m + 77) (m + 1945) ω0 w ∧ zMs X w (m + 77) 901 ∧ zMs X w (m + 979) 901 ∧ zMv X w (m + 1881) 41 (fun j => if 1 ≤ j ∧ j ≤ n then zFt (zwt (bk b.toNat)) p (zIt (zwt (bk b.toNat)) p (zdl pu 1) (j - 1)) * 1000 ^ (n - j) else 0) ∧ zMv X w (m + 1923) 21 (fun k => if k = 0 then 0 else zDk (zwt (bk b.toNat)) p (zdl pu 1) (k : Int) n))) 0 0 none) (hM0 : ω0.1 m = some (zOb 7 (zMf m bh rt 72))) (hPt0 : zMx X ω0 (m + 1) 8 21 bk) (hbk : ∀ k : Nat, k < 8 → zBk (bk k)) (hy : zRt bk b) (hp0 : 0 ≤ p ∧ p ≤ 20) (hpu : pu ≤ 100) (hn : 1 ≤ n ∧ n ≤ 40) : ∀ (j τ : Nat) (ω : zWd) (o7 o8 o9 o10 : Option Value) (V0 : Nat → Int), τ + j = n → zRn X ω0 ω m bh rt (n + 2) (fun u => (zIt (zwt (bk b.toNat)) p (zdl pu 1) τ) u) V0 (fun j => if 1 ≤ j ∧ j ≤ τ then zFt (zwt (bk b.toNat)) p (zIt (zwt (bk b.toNat)) p (zdl pu 1) (j - 1)) * 1000 ^ (n - j) else 0) (fun k => if k = 0 then 0 else zs (fun i => zFal (zwt (bk b.toNat)) p (zIt (zwt (bk b.toNat)) p (zdl pu 1) i.toNat) (k : Int) * 1000 ^ (n - 1 - i.toNat)) τ) 0 → Zw Γ ω 0 0 102 [some (.ref m), some (.int (zI (pu : Int))), some (.int (zI p)), some (.int (zI b)), some (.int (zI (n : Int))), some (.int (zI ((pu : Int) + p * (τ : Nat)))), some (.int (zI ((τ : Nat) + 1 : Int))), o7, o8, o9, o10] [] := by
  obtain ⟨b0, b1, bs⟩ := id hy
  have hf := hbk b.toNat (by omega)
  have hwt : ∀ s : Int, 0 ≤ s → s < 41 → 0 ≤ (zwt (bk b.toNat)) s := fun s _ _ => zwt_0 hf s
  have hsum : zs (zwt (bk b.toNat)) 41 = 10 ^ 3 := by rw [zwt_s, bs]; rfl
  have hAd : ∀ v : Int, 0 ≤ (zdl pu 1) v ∧ (zdl pu 1) v ≤ 10 ^ 0 := fun v => by unfold zdl; split <;> decide
  have hA0d : ∀ v : Int, (v < 0 ∨ (pu : Int) + 1 ≤ v) → (zdl pu 1) v = 0 := fun v h => if_neg (by omega)
  intro j
  induction j with
  | zero =>
    intro τ ω o7 o8 o9 o10 V0 hj hS
    have e1 : τ = n := by omega
    subst e1
    obtain ⟨hF, hM, hAl, hNx, hRa, hRb⟩ := hS
    refine z_iload (i := 6) (pc := 102) C rfl dX7_runs_102 ?_
    refine z_iload (i := 4) (pc := 104) C rfl dX7_runs_104 ?_
    refine z_icmp_gt (tgt := 343) (pc := 106) C dX7_runs_106 (by decide) (fun h106 => ?_) (fun h106 => absurd h106 (by omega))
    refine z_aload_n (i := 0) (pc := 343) C rfl rfl dX7_runs_343 ?_
    refine z_bipush (pc := 344) C (by decide +kernel) dX7_runs_344 ?_
    refine p_X7_27 (pc := 346) C hM (Nat.le_of_ble_eq_true rfl) dX7_runs_346 ?_
    exact z_vret (pc := 349) C E dX7_runs_349 ⟨rfl, ⟨⟨fun b hb => by
    by_cases e : b = m
    · rw [e]; exact (zU_s _ _ _).trans hM0.symm
    · rw [zU_n e]; exact hF.1 b (by omega), hF.2⟩, (hAl.kp (fun b _ _ => zU_n (by omega))).s, (hNx.kp (fun b _ _ => zU_n (by omega))).s, hRa.kp (fun b _ _ => zU_n (by omega)), (hRb.kp (fun b _ _ => zU_n (by omega))).c (fun k hk => by
    (try dsimp only)
    rw [zDk_sum])⟩⟩
  | succ j ih =>
    intro τ ω o7 o8 o9 o10 V0 hj hS
    have hS0 := hS
    obtain ⟨hF, hM, hAl, hNx, hRa, hRb⟩ := hS
    have hpt : p * (τ : Int) ≤ 20 * 39 := Int.mul_le_mul hp0.2 (by omega) (by omega) (by omega)
    have hpt0 : 0 ≤ p * (τ : Int) := Int.mul_nonneg hp0.1 (by omega)
    obtain ⟨mo, hmo⟩ : ∃ mo : Nat, (pu : Int) + p * (τ : Int) = mo := ⟨((pu : Int) + p * (τ : Int)).toNat, by omega⟩
    obtain ⟨tp, htp⟩ : ∃ tp : Nat, (mo : Int) + p = tp := ⟨((mo : Int) + p).toNat, by omega⟩
    rw [hmo]
    have hAb := zIt_b (p := p) hwt hsum hAd τ
    have hA0 := zIt_0 (p := p) (wt := (zwt (bk b.toNat))) hA0d τ
    have hA1 := zIt_0 (p := p) (wt := (zwt (bk b.toNat))) hA0d (τ + 1)
    have hAK : ∀ u : Int, (u < 0 ∨ ((mo + 1 : Nat) : Int) ≤ u) → (zIt (zwt (bk b.toNat)) p (zdl pu 1) τ) u = 0 := fun u hu => hA0 u (by omega)
    have hP1 : (0 : Int) < 1000 ^ n := zpw (by decide) _
    have e1k : (1000 : Int) ^ (n + 1) = 1000 ^ n * 1000 := Int.pow_succ _ _
    have e2k : (1000 : Int) ^ (n + 2) = 1000 ^ n * 1000 * 1000 := by rw [show n + 2 = n + 1 + 1 by omega, Int.pow_succ, Int.pow_succ]
    have hsc : ∀ v : Int, zs (fun u' => (zIt (zwt (bk b.toNat)) p (zdl pu 1) τ) u' * (zwt (bk b.toNat)) (u' + p - v)) (mo + 1) = zs (fun s => (zwt (bk b.toNat)) s * (zIt (zwt (bk b.toNat)) p (zdl pu 1) τ) (v - p + s)) 41 := fun v => zscat hAK (fun s h => zwt_out s h)
    have hsb : ∀ v : Int, 0 ≤ zs (fun s => (zwt (bk b.toNat)) s * (zIt (zwt (bk b.toNat)) p (zdl pu 1) τ) (v - p + s)) 41 ∧ zs (fun s => (zwt (bk b.toNat)) s * (zIt (zwt (bk b.toNat)) p (zdl pu 1) τ) (v - p + s)) 41 ≤ 10 ^ (0 + τ * 3 + 3) := fun v => zsum_b (φ := fun s => v - p + s) hwt hsum hAb
    have h10t : (10 : Int) ^ (0 + τ * 3 + 3) ≤ 1000 ^ n := by rw [zk_pow]; exact zp10 (by omega)
    have hfN : ∀ v : Int, zs (fun u' => (zIt (zwt (bk b.toNat)) p (zdl pu 1) τ) u' * (zwt (bk b.toNat)) (u' + p - v)) (mo + 1) < 1000 ^ (n + 1) := fun v => by
      rw [hsc, e1k]
      have := hsb v
      omega
    have hft := zft_scat (f := (bk b.toNat)) (p := p) hp0.1 hAK
    have hftb := zFt_b (p := p) hwt hsum hAb 41
    have en : n - (τ + 1) = n - 1 - τ := by omega
    have hfR : zs (fun u' => (zIt (zwt (bk b.toNat)) p (zdl pu 1) τ) u' * zT1 (bk b.toNat) (u' + p) 21) (mo + 1) * 1000 ^ (n - (τ + 1)) < 1000 ^ (n + 2) := by
      rw [hft, en, e2k]
      have hP : (0 : Int) < 1000 ^ (n - 1 - τ) := zpw (by decide) _
      have h1 := zbd_t (n := n) (x := 10 ^ (0 + τ * 3 + 3)) ⟨Int.le_of_lt (zpw (by decide) _), Int.le_refl _⟩ (by omega)
      have h2 : zFt (zwt (bk b.toNat)) p (zIt (zwt (bk b.toNat)) p (zdl pu 1) τ) * 1000 ^ (n - 1 - τ) ≤ 41 * 10 ^ (0 + τ * 3 + 3) * 1000 ^ (n - 1 - τ) := Int.mul_le_mul_of_nonneg_right hftb.2 (by omega)
      rw [Int.mul_assoc] at h2
      omega
    have hBt : ∀ (k : Int) (q : Nat), q ≤ n → 0 ≤ zs (fun i => zFal (zwt (bk b.toNat)) p (zIt (zwt (bk b.toNat)) p (zdl pu 1) i.toNat) k * 1000 ^ (n - 1 - i.toNat)) q ∧ zs (fun i => zFal (zwt (bk b.toNat)) p (zIt (zwt (bk b.toNat)) p (zdl pu 1) i.toNat) k * 1000 ^ (n - 1 - i.toNat)) q ≤ q * 1000 ^ n := fun k q hq => zs_b (fun i a b => zbd_t (zFal_b (p := p) (d := k) hwt hsum (zIt_b (p := p) hwt hsum hAd i.toNat)) (by omega))
    have hB0 : ∀ k : Nat, 0 ≤ zs (fun i => zFal (zwt (bk b.toNat)) p (zIt (zwt (bk b.toNat)) p (zdl pu 1) i.toNat) (k : Int) * 1000 ^ (n - 1 - i.toNat)) τ := fun k => (hBt k τ (by omega)).1
    have hfal : ∀ k : Int, zs (fun u' => (zIt (zwt (bk b.toNat)) p (zdl pu 1) τ) u' * (zwt (bk b.toNat)) (u' + p - -k)) (mo + 1) = zFal (zwt (bk b.toNat)) p (zIt (zwt (bk b.toNat)) p (zdl pu 1) τ) k := fun k => hsc (-k)
    have hBs : ∀ k : Int, zs (fun i => zFal (zwt (bk b.toNat)) p (zIt (zwt (bk b.toNat)) p (zdl pu 1) i.toNat) k * 1000 ^ (n - 1 - i.toNat)) τ + zFal (zwt (bk b.toNat)) p (zIt (zwt (bk b.toNat)) p (zdl pu 1) τ) k * 1000 ^ (n - (τ + 1)) = zs (fun i => zFal (zwt (bk b.toNat)) p (zIt (zwt (bk b.toNat)) p (zdl pu 1) i.toNat) k * 1000 ^ (n - 1 - i.toNat)) (τ + 1) := fun k => by
      show _ = zs _ τ + zFal (zwt (bk b.toNat)) p (zIt (zwt (bk b.toNat)) p (zdl pu 1) ((τ : Int)).toNat) k * 1000 ^ (n - 1 - ((τ : Int)).toNat)
      rw [show ((τ : Int)).toNat = τ by omega, en]
    have hfB : ∀ k : Nat, zs (fun i => zFal (zwt (bk b.toNat)) p (zIt (zwt (bk b.toNat)) p (zdl pu 1) i.toNat) (k : Int) * 1000 ^ (n - 1 - i.toNat)) τ + zs (fun u' => (zIt (zwt (bk b.toNat)) p (zdl pu 1) τ) u' * (zwt (bk b.toNat)) (u' + p - -(k : Int))) (mo + 1) * 1000 ^ (n - (τ + 1)) < 1000 ^ (n + 2) := fun k => by
      rw [hfal, hBs, e2k]
      have h1 := (hBt k (τ + 1) (by omega)).2
      have h2 : ((τ + 1 : Nat) : Int) * 1000 ^ n ≤ 40 * 1000 ^ n := Int.mul_le_mul_of_nonneg_right (by omega) (by omega)
      omega
    refine z_iload (i := 6) (pc := 102) C rfl dX7_runs_102 ?_
    refine z_iload (i := 4) (pc := 104) C rfl dX7_runs_104 ?_
    refine z_icmp_gt (tgt := 343) (pc := 106) C dX7_runs_106 (by decide) (fun h106 => absurd h106 (by omega)) (fun h106 => ?_)
    refine z_iload (i := 5) (pc := 109) C rfl dX7_runs_109 ?_
    refine z_iload_n (i := 2) (pc := 111) C rfl rfl dX7_runs_111 ?_
    refine z_iadd (pc := 112) C dX7_runs_112 ?_
    refine z_istore (i := 7) (lv' := [_, _, _, _, _, _, _, _, _, _, _]) (pc := 113) C (by decide) rfl rfl dX7_runs_113 ?_
    refine z_iconst (pc := 115) C dX7_runs_115 ?_
    refine z_istore (i := 8) (lv' := [_, _, _, _, _, _, _, _, _, _, _]) (pc := 116) C (by decide) rfl rfl dX7_runs_116 ?_
    rw [htp]
    refine lz_runs5 C hM (tp := tp) (o6 := ((τ : Nat) + 1 : Int)) (by omega) ?_ (tp + 1) 0 ω (by omega) zOut.rf (hNx.s.w _)
    intro ω2 ho2 hw2
    refine z_iconst (pc := 141) C dX7_runs_141 ?_
    refine z_istore (i := 8) (lv' := [_, _, _, _, _, _, _, _, _, _, _]) (pc := 142) C (by decide) rfl rfl dX7_runs_142 ?_
    have hS2 : zRn X ω0 ω2 m bh rt (n + 2) (fun u => (zIt (zwt (bk b.toNat)) p (zdl pu 1) τ) u) (fun v => zP1 (zIt (zwt (bk b.toNat)) p (zdl pu 1) τ) (bk b.toNat) p v 0 0) (fun j => if j = τ + 1 then zR1 (zIt (zwt (bk b.toNat)) p (zdl pu 1) τ) (bk b.toNat) p 0 0 * 1000 ^ (n - (τ + 1)) else (fun j => if 1 ≤ j ∧ j ≤ τ then zFt (zwt (bk b.toNat)) p (zIt (zwt (bk b.toNat)) p (zdl pu 1) (j - 1)) * 1000 ^ (n - j) else 0) j) (fun k => if k = 0 then 0 else (fun k : Nat => zs (fun i => zFal (zwt (bk b.toNat)) p (zIt (zwt (bk b.toNat)) p (zdl pu 1) i.toNat) (k : Int) * 1000 ^ (n - 1 - i.toNat)) τ) k + zP1 (zIt (zwt (bk b.toNat)) p (zdl pu 1) τ) (bk b.toNat) p (-(k : Int)) 0 0 * 1000 ^ (n - (τ + 1))) (tp + 1) := by
      refine ⟨hF.o ho2 (by omega), (ho2.1 m (by omega)).trans hM, hAl.kp (fun b _ _ => ho2.1 b (by omega)), hw2.c (fun i hi => by (try dsimp only); rw [zP1_0]; rfl), (hRa.kp (fun b _ _ => ho2.1 b (by omega))).c (fun i hi => ?_), (hRb.kp (fun b _ _ => ho2.1 b (by omega))).c (fun i hi => ?_)⟩
      · (try dsimp only)
        by_cases e : i = τ + 1
        · rw [if_pos e, if_neg (by omega), zR1_0]; exact (Int.zero_mul _).symm
        · rw [if_neg e]
      · (try dsimp only)
        by_cases e : i = 0
        · rw [if_pos e, if_pos e]
        · rw [if_neg e, if_neg e, zP1_0]; exact (by rw [show zs (fun u' => _ * _) 0 = 0 from rfl]; omega)
    refine lp_runs6 (t := τ + 1) (mo := mo) (tp := tp) (A := (zIt (zwt (bk b.toNat)) p (zdl pu 1) τ)) (Rp := (fun j => if 1 ≤ j ∧ j ≤ τ then zFt (zwt (bk b.toNat)) p (zIt (zwt (bk b.toNat)) p (zdl pu 1) (j - 1)) * 1000 ^ (n - j) else 0)) C hPt0 hy hf hp0 (by omega) (by omega) (fun u => (hAb u).1) hfN hfR hB0 hfB (by omega) ?_ (mo + 1) 0 ω2 _ _ (by omega) hS2
    intro ω3 p9 p10 hS3
    refine z_iconst (pc := 300) C dX7_runs_300 ?_
    refine z_istore (i := 8) (lv' := [_, _, _, _, _, _, _, _, _, _, _]) (pc := 301) C (by decide) rfl rfl dX7_runs_301 ?_
    refine lp_runs8 (t := τ + 1) (mo := mo) (tp := tp) C (by omega) ?_ (tp + 1) 0 ω3 (by omega) (hS3.c (fun i hi => (if_neg (by omega)).symm) (fun _ _ => rfl) (fun _ _ => rfl) (fun _ _ => rfl))
    intro ω5 hS4
    refine z_iload (i := 7) (pc := 333) C rfl dX7_runs_333 ?_
    refine z_istore (i := 5) (lv' := [_, _, _, _, _, _, _, _, _, _, _]) (pc := 335) C (by decide) rfl rfl dX7_runs_335 ?_
    refine z_iinc (i := 6) (lv' := [_, _, _, _, _, _, _, _, _, _, _]) (pc := 337) C rfl (by decide) rfl rfl dX7_runs_337 ?_
    refine z_goto (tgt := 102) (pc := 340) C dX7_runs_340 (by decide) ?_
    have hS5 : zRn X ω0 ω5 m bh rt (n + 2) (fun u => (zIt (zwt (bk b.toNat)) p (zdl pu 1) (τ + 1)) u) V0 (fun j => if 1 ≤ j ∧ j ≤ (τ + 1) then zFt (zwt (bk b.toNat)) p (zIt (zwt (bk b.toNat)) p (zdl pu 1) (j - 1)) * 1000 ^ (n - j) else 0) (fun k => if k = 0 then 0 else zs (fun i => zFal (zwt (bk b.toNat)) p (zIt (zwt (bk b.toNat)) p (zdl pu 1) i.toNat) (k : Int) * 1000 ^ (n - 1 - i.toNat)) (τ + 1)) 0 := by
      obtain ⟨k1, k2, k3, k4, k5, k6⟩ := hS4
      refine ⟨k1, k2, k3.c (fun u hu => ?_), k4.s.w V0, k5.c (fun i hi => ?_), k6.c (fun i hi => ?_)⟩
      · (try dsimp only)
        by_cases q : u < tp + 1
        · rw [if_pos q, zP1_0, hsc]
          show _ = zStp (zwt (bk b.toNat)) p (zIt (zwt (bk b.toNat)) p (zdl pu 1) τ) u
          unfold zStp
          rw [if_neg (by omega)]
        · rw [if_neg q, hAK _ (by omega)]
          exact (hA1 _ (by rw [Int.natCast_succ, Int.mul_add, Int.mul_one]; omega)).symm
      · (try dsimp only)
        by_cases e : i = τ + 1
        · rw [if_pos e, if_pos (by omega), zR1_0, hft, e, show τ + 1 - 1 = τ by omega]
        · rw [if_neg e]
          by_cases q : 1 ≤ i ∧ i ≤ τ
          · rw [if_pos q, if_pos (by omega)]
          · rw [if_neg q, if_neg (by omega)]
      · (try dsimp only)
        by_cases e : i = 0
        · rw [if_pos e, if_pos e]
        · rw [if_neg e, if_neg e, zP1_0, hfal, hBs]
    have h := ih (τ + 1) ω5 (some (.int (zI ((tp : Nat) : Int)))) (some (.int (zI (((tp : Nat) : Int) + 1)))) p9 p10 V0 (by omega) hS5
    rw [show (pu : Int) + p * ((τ + 1 : Nat) : Int) = ((tp : Nat) : Int) by rw [Int.natCast_succ, Int.mul_add, Int.mul_one]; omega] at h
    exact h
