/-- only the number has changed below the pairs -/
def zLn (m : Nat) (ω0 ω : zWd) : Prop := ∀ b : Nat, b < m + 2445 → b ≠ m + 10 → ω.1 b = ω0.1 b
theorem zLn.u {m : Nat} {ω0 ω : zWd} {x : va_E} (h : zLn m ω0 ω) : zLn m ω0 (zU ω (m + 10) x) := fun c hc h2 => by rw [zU_n h2]; exact h c hc h2
set_option maxRecDepth 100000 in
set_option maxHeartbeats 4000000 in
theorem lp_twoN2 {Γ : zG} {l0 : Launch} {X : zX} {m bh rt n a e p q c0 : Nat} {wh b b2 gv : Int} {ω1 : zWd} {V : Nat → Int} {x : Nat} {o12 : Option Value} (C : Zc Γ l0 X (rtX7_two c0) 13 cX7_two RX7) (hM1 : ω1.1 m = some (zOb 7 (zMf m bh rt 72))) (hc0 : c0 ≤ 3698) (hmass : zs (fun k => V k.toNat) 1849 ≤ 1000 ^ 15) (hx : x < 43) (K : ∀ (ω : zWd) (gN : Int → Int) , zLn m ω1 ω → zPr X ω m 3698 1849 V → (ω.1 (m + 10) = some (zAI X 72 gN) ∧ zNm gN (zs (fun k => V k.toNat) ((x + 1) * 43))) → Zw Γ ω (3698 - c0) (72 * (3698 - c0)) 402 [some (.ref m), some (.int (zI wh)), some (.int (zI b)), some (.int (zI b2)), some (.int (zI (n : Int))), some (.int (zI gv)), some (.int (zI (a : Int))), some (.int (zI (e : Int))), some (.int (zI (p : Int))), some (.int (zI (q : Int))), some (.int (zI (x : Int))), some (.int (zI 43)), o12] []) : ∀ (j y : Nat) (ω : zWd) (gN : Int → Int), y + j = 43 → zLn m ω1 ω → zPr X ω m 3698 1849 V → (ω.1 (m + 10) = some (zAI X 72 gN) ∧ zNm gN (zs (fun k => V k.toNat) (x * 43 + y))) → Zw Γ ω (3698 - c0) (72 * (3698 - c0)) 370 [some (.ref m), some (.int (zI wh)), some (.int (zI b)), some (.int (zI b2)), some (.int (zI (n : Int))), some (.int (zI gv)), some (.int (zI (a : Int))), some (.int (zI (e : Int))), some (.int (zI (p : Int))), some (.int (zI (q : Int))), some (.int (zI (x : Int))), some (.int (zI (y : Int))), o12] [] := by
  intro j
  induction j with
  | zero =>
    intro y ω gN hj hL hP hN
    have e1 : y = 43 := by omega
    subst e1
    have hK := K ω gN hL hP (by rw [show (x + 1) * 43 = x * 43 + 43 by omega]; exact hN)
    refine z_iload (i := 11) (pc := 370) C rfl dX7_two_370 ?_
    refine z_bipush (pc := 372) C (by decide +kernel) dX7_two_372 ?_
    refine z_icmp_ge (tgt := 402) (pc := 374) C dX7_two_374 (by decide) (fun h374 => ?_) (fun h374 => absurd h374 (by omega))
    exact hK
  | succ j ih =>
    intro y ω gN hj hL hP hN
    have hM := (hL m (by omega) (by omega)).trans hM1
    obtain ⟨hh, ff, p1, p2, p3, p4, p5, p6⟩ := id hP
    have e00 : (1000 : Int) ^ 0 = 1 := rfl
    have es : zs (fun k => V k.toNat) (x * 43 + (y + 1)) = zs (fun k => V k.toNat) (x * 43 + y) + V (x * 43 + y) := by
      show zs _ (x * 43 + y) + V (((x * 43 + y : Nat) : Int)).toNat = _
      rw [show (((x * 43 + y : Nat) : Int)).toNat = x * 43 + y by omega]
    have hfit : zs (fun k => V k.toNat) (x * 43 + y) + 1 * V (x * 43 + y) * 1000 ^ 0 < 1000 ^ 72 := by
      rw [e00, Int.mul_one, Int.one_mul, ← es]
      have h1 : zs (fun k => V k.toNat) (x * 43 + (y + 1)) ≤ zs (fun k => V k.toNat) 1849 := zs_mono (by omega) (fun k a b => (hP.nn k.toNat (by omega)).1)
      have h2 : (1000 : Int) ^ 15 < 1000 ^ 72 := by decide
      omega
    refine z_iload (i := 11) (pc := 370) C rfl dX7_two_370 ?_
    refine z_bipush (pc := 372) C (by decide +kernel) dX7_two_372 ?_
    refine z_icmp_ge (tgt := 402) (pc := 374) C dX7_two_374 (by decide) (fun h374 => absurd h374 (by omega)) (fun h374 => ?_)
    refine z_aload_n (i := 0) (pc := 377) C rfl rfl dX7_two_377 ?_
    refine z_aload_n (i := 0) (pc := 378) C rfl rfl dX7_two_378 ?_
    refine g_X7_14 (pc := 379) C hM rfl dX7_two_379 ?_
    refine z_aload_n (i := 0) (pc := 382) C rfl rfl dX7_two_382 ?_
    refine z_iconst (pc := 383) C dX7_two_383 ?_
    refine z_iload (i := 10) (pc := 384) C rfl dX7_two_384 ?_
    refine z_iload (i := 11) (pc := 386) C rfl dX7_two_386 ?_
    refine z_callVr (pc := 388) C (d_X7_pair0 hM (by omega) hP (x * 43 + y) (by omega) (by omega)) k_X7_170 zy_X7_pair rfl rfl hM rfl rfl ⟨(Nat.le_of_ble_eq_true rfl), (Nat.le_of_ble_eq_true rfl)⟩ (Nat.le_of_ble_eq_true rfl) dX7_two_388 ⟨rfl, rfl⟩ ⟨by show _ ≤ 3698 - c0; omega, by show _ ≤ 72 * (3698 - c0); omega⟩ (fun rv ω' hp => ?_)
    obtain ⟨hw', hq'⟩ := hp
    rw [hw', hq']
    clear hw' hq'
    refine z_iconst (pc := 391) C dX7_two_391 ?_
    refine z_iconst (pc := 392) C dX7_two_392 ?_
    refine z_callVv (pc := 393) C (c_X7_add (up := 0) hM rfl hN.1 hN.2 (p4 (x * 43 + y) (by omega)) (p6 (x * 43 + y) (by omega)) (by omega) (by omega) (by omega) hfit) k_X7_120 zy_X7_add rfl rfl hM rfl rfl ⟨(Nat.le_of_ble_eq_true rfl), (Nat.le_of_ble_eq_true rfl)⟩ (Nat.le_of_ble_eq_true rfl) dX7_two_393 ⟨rfl, rfl⟩ ⟨by show _ ≤ 3698 - c0; omega, by show _ ≤ 72 * (3698 - c0); omega⟩ (fun ω' hp => ?_)
    obtain ⟨g2, rfl, hg2⟩ := hp
    have hgo := ih (y + 1) _ g2 (by omega) hL.u (hP.lo (by omega)) ⟨zU_s _ _ _, hg2.e (by rw [es, e00, Int.mul_one, Int.one_mul])⟩
    refine z_iinc (i := 11) (lv' := [_, _, _, _, _, _, _, _, _, _, _, _, _]) (pc := 396) C rfl (by decide) rfl rfl dX7_two_396 ?_
    refine z_goto (tgt := 370) (pc := 399) C dX7_two_399 (by decide) ?_
    exact hgo
set_option maxRecDepth 100000 in
set_option maxHeartbeats 4000000 in
theorem lp_twoN1 {Γ : zG} {l0 : Launch} {X : zX} {m bh rt n a e p q c0 : Nat} {wh b b2 gv : Int} {ω1 : zWd} {V : Nat → Int} {o12 : Option Value} (C : Zc Γ l0 X (rtX7_two c0) 13 cX7_two RX7) (hM1 : ω1.1 m = some (zOb 7 (zMf m bh rt 72))) (hc0 : c0 ≤ 3698) (hmass : zs (fun k => V k.toNat) 1849 ≤ 1000 ^ 15) (K : ∀ (ω : zWd) (gN : Int → Int) (oy : Option Value), zLn m ω1 ω → zPr X ω m 3698 1849 V → (ω.1 (m + 10) = some (zAI X 72 gN) ∧ zNm gN (zs (fun k => V k.toNat) 1849)) → Zw Γ ω (3698 - c0) (72 * (3698 - c0)) 408 [some (.ref m), some (.int (zI wh)), some (.int (zI b)), some (.int (zI b2)), some (.int (zI (n : Int))), some (.int (zI gv)), some (.int (zI (a : Int))), some (.int (zI (e : Int))), some (.int (zI (p : Int))), some (.int (zI (q : Int))), some (.int (zI 43)), oy, o12] []) : ∀ (j x : Nat) (ω : zWd) (gN : Int → Int) (oy : Option Value), x + j = 43 → zLn m ω1 ω → zPr X ω m 3698 1849 V → (ω.1 (m + 10) = some (zAI X 72 gN) ∧ zNm gN (zs (fun k => V k.toNat) (x * 43))) → Zw Γ ω (3698 - c0) (72 * (3698 - c0)) 360 [some (.ref m), some (.int (zI wh)), some (.int (zI b)), some (.int (zI b2)), some (.int (zI (n : Int))), some (.int (zI gv)), some (.int (zI (a : Int))), some (.int (zI (e : Int))), some (.int (zI (p : Int))), some (.int (zI (q : Int))), some (.int (zI (x : Int))), oy, o12] [] := by
  intro j
  induction j with
  | zero =>
    intro x ω gN oy hj hL hP hN
    have e1 : x = 43 := by omega
    subst e1
    have hK := K ω gN oy hL hP hN
    refine z_iload (i := 10) (pc := 360) C rfl dX7_two_360 ?_
    refine z_bipush (pc := 362) C (by decide +kernel) dX7_two_362 ?_
    refine z_icmp_ge (tgt := 408) (pc := 364) C dX7_two_364 (by decide) (fun h364 => ?_) (fun h364 => absurd h364 (by omega))
    exact hK
  | succ j ih =>
    intro x ω gN oy hj hL hP hN
    refine z_iload (i := 10) (pc := 360) C rfl dX7_two_360 ?_
    refine z_bipush (pc := 362) C (by decide +kernel) dX7_two_362 ?_
    refine z_icmp_ge (tgt := 408) (pc := 364) C dX7_two_364 (by decide) (fun h364 => absurd h364 (by omega)) (fun h364 => ?_)
    refine z_iconst (pc := 367) C dX7_two_367 ?_
    refine z_istore (i := 11) (lv' := [_, _, _, _, _, _, _, _, _, _, _, _, _]) (pc := 368) C (by decide) rfl rfl dX7_two_368 ?_
    refine lp_twoN2 C hM1 hc0 hmass (show x < 43 by omega) ?_ 43 0 ω gN (by omega) hL hP hN
    intro ω2 gN2 hL2 hP2 hN2
    have hgo := ih (x + 1) ω2 gN2 (some (.int (zI 43))) (by omega) hL2 hP2 hN2
    refine z_iinc (i := 10) (lv' := [_, _, _, _, _, _, _, _, _, _, _, _, _]) (pc := 402) C rfl (by decide) rfl rfl dX7_two_402 ?_
    refine z_goto (tgt := 360) (pc := 405) C dX7_two_405 (by decide) ?_
    exact hgo
/-- what holds of side 0 behind t ticks -/
def zIv (f g : Int → Int) (a e p q n : Nat) (gv : Int) (V : Nat → Int) (t : Nat) : Prop := zP0 V (zHH f g p q gv (n - t)) = zHH f g p q gv n a e ∧ zP0 V (fun _ _ => 1) ≤ 1000 ^ (3 * t) ∧ ∀ u v : Nat, u < 43 → v < 43 → V (u * 43 + v) ≠ 0 → u ≤ a + p * t ∧ v ≤ e + q * t
theorem zIv_0 {f g : Int → Int} {a e p q n : Nat} {gv : Int} (ha : a < 43 ∧ e < 43) : zIv f g a e p q n gv (va_up (fun _ => 0) (a * 43 + e) 1) 0 := by
  have h : ∀ h : Int → Int → Int, zP0 (va_up (fun _ => 0) (a * 43 + e) 1) h = h a e := fun h => by
    unfold zP0
    rw [zs_c (g := fun v => if v = ((a * 43 + e : Nat) : Int) then h a e else 0) (fun k a0 b0 => by
      (try dsimp only)
      by_cases q : k = ((a * 43 + e : Nat) : Int)
      · rw [if_pos q, q, show (((a * 43 + e : Nat) : Int)).toNat = a * 43 + e by omega, va_up_self, Int.one_mul, show ((a * 43 + e : Nat) : Int) / 43 = a by omega, show ((a * 43 + e : Nat) : Int) % 43 = e by omega]
      · rw [if_neg q, va_up_ne _ _ (by omega), Int.zero_mul])]
    exact zs_delta (by omega)
  refine ⟨h _, by rw [h]; decide, fun u v hu hv hn => ?_⟩
  by_cases q : u * 43 + v = a * 43 + e
  · omega
  · rw [va_up_ne _ _ q] at hn
    exact absurd rfl hn
theorem zIv_s {f g : Int → Int} {a e p q n t : Nat} {gv : Int} {V1 V2 V3 : Nat → Int} {X : zX} {ω1 ω : zWd} {m : Nat} (hf : zBk f) (hg : zBk g) (ht : t < n) (hVn : ∀ k : Nat, k < 1849 → 0 ≤ V1 k) (hi : zIv f g a e p q n gv V1 t) (hPs : ∀ h, zPs V1 h = 0) (hS : zTs X ω1 ω m V1 V2 (a + p * t + p) (e + q * t + q) (zGs V1 f g p q gv 1849)) (h3 : ∀ k : Nat, k < 1849 → V3 k = V2 (1849 + k)) : zIv f g a e p q n gv V3 (t + 1) := by
  have h0 : ∀ h : Int → Int → Int, zP0 V3 h = zP0 V1 (zGG f g p q gv h) := fun h => by
    have h1 := hS.2.2.2.1 h
    rw [hPs, Int.zero_add] at h1
    refine Eq.trans ?_ h1
    exact zs_c (fun k a0 b0 => by (try dsimp only); rw [h3 k.toNat (by omega)])
  refine ⟨?_, ?_, fun u v hu hv hn => ?_⟩
  · rw [h0, ← hi.1]
    obtain ⟨d, hd⟩ : ∃ d, n - t = d + 1 := ⟨n - t - 1, by omega⟩
    rw [hd, show n - (t + 1) = d by omega]
    rfl
  · rw [h0]
    have h2 := (zGs_b (V := V1) (p := (p : Int)) (q := (q : Int)) (gv := gv) (i := 1849) hf hg hVn (Nat.le_refl _)).2
    have h4 : zP0 V1 (fun _ _ => 1) * 1000000000 ≤ 1000 ^ (3 * t) * 1000000000 := Int.mul_le_mul_of_nonneg_right hi.2.1 (by decide)
    have h5 : (1000 : Int) ^ (3 * (t + 1)) = 1000 ^ (3 * t) * 1000000000 := by
      rw [show 3 * (t + 1) = 3 * t + 3 by omega, Int.pow_add]
      rfl
    rw [h5]
    exact Int.le_trans h2 h4
  · rw [h3 _ (by omega)] at hn
    have := hS.2.2.2.2 u v hu hv hn
    rw [Nat.mul_add, Nat.mul_add]
    omega
set_option maxRecDepth 100000 in
set_option maxHeartbeats 4000000 in
theorem lp_twoT {Γ : zG} {l0 : Launch} {X : zX} {m bh rt n a e p q c0 : Nat} {wh b b2 gv : Int} {ω1 : zWd} {bk : Nat → Int → Int} (C : Zc Γ l0 X (rtX7_two c0) 13 cX7_two RX7) (hM1 : ω1.1 m = some (zOb 7 (zMf m bh rt 72))) (hPt1 : zMx X ω1 (m + 1) 8 21 bk) (hb : 0 ≤ b ∧ b < 8) (hb2 : 0 ≤ b2 ∧ b2 < 8) (hf : zBk (bk b.toNat)) (hg : zBk (bk b2.toNat)) (hpq : p ≤ 6 ∧ q ≤ 6) (hgv : gv = 0 ∨ gv = 1) (hae : a ≤ 12 ∧ e ≤ 12) (hn : 1 ≤ n ∧ n ≤ 5) (hc0 : c0 ≤ 3698) (K : ∀ (ω : zWd) (V : Nat → Int) (ox oy : Option Value), zLo m ω1 ω → zPr X ω m 3698 1849 V → zIv (bk b.toNat) (bk b2.toNat) a e p q n gv V n → Zw Γ ω (3698 - c0) (72 * (3698 - c0)) 350 [some (.ref m), some (.int (zI wh)), some (.int (zI b)), some (.int (zI b2)), some (.int (zI (n : Int))), some (.int (zI gv)), some (.int (zI (a : Int))), some (.int (zI (e : Int))), some (.int (zI (p : Int))), some (.int (zI (q : Int))), some (.int (zI (n : Int))), ox, oy] []) : ∀ (j t : Nat) (ω : zWd) (c : Nat) (V : Nat → Int) (ox oy : Option Value), t + j = n → zLo m ω1 ω → zPr X ω m c 1849 V → (1849 ≤ c ∧ c0 ≤ c ∧ c ≤ 3698 ∧ (0 < t → c = 3698)) → zIv (bk b.toNat) (bk b2.toNat) a e p q n gv V t → Zw Γ ω (c - c0) (72 * (c - c0)) 157 [some (.ref m), some (.int (zI wh)), some (.int (zI b)), some (.int (zI b2)), some (.int (zI (n : Int))), some (.int (zI gv)), some (.int (zI (a : Int))), some (.int (zI (e : Int))), some (.int (zI (p : Int))), some (.int (zI (q : Int))), some (.int (zI (t : Int))), ox, oy] [] := by
  intro j
  induction j with
  | zero =>
    intro t ω c V ox oy hj hL hP hc hi
    have e1 : t = n := by omega
    subst e1
    have e2 : c = 3698 := hc.2.2.2 (by omega)
    subst e2
    have hK := K ω V ox oy hL hP hi
    refine z_iload (i := 10) (pc := 157) C rfl dX7_two_157 ?_
    refine z_iload (i := 4) (pc := 159) C rfl dX7_two_159 ?_
    refine z_icmp_ge (tgt := 350) (pc := 161) C dX7_two_161 (by decide) (fun h161 => ?_) (fun h161 => absurd h161 (by omega))
    exact hK
  | succ j ih =>
    intro t ω c V ox oy hj hL hP hc hi
    have hpt : p * t ≤ 6 * 4 := Nat.mul_le_mul hpq.1 (by omega)
    have hqt : q * t ≤ 6 * 4 := Nat.mul_le_mul hpq.2 (by omega)
    have hM := (hL m (by omega)).trans hM1
    have hP0 : zPr X ω m c 1849 (fun k => if k < 1849 then V k else 0) := hP.c (Nat.le_refl _) (fun k hk => by (try dsimp only); rw [if_pos hk])
    have hV1 : ∀ k : Nat, 1849 ≤ k → (fun k => if k < 1849 then V k else 0 : Nat → Int) k = 0 := fun k hk => if_neg (by omega)
    have eP0 : ∀ h, zP0 (fun k => if k < 1849 then V k else 0) h = zP0 V h := fun h => zs_c (fun k a0 b0 => by (try dsimp only); rw [if_pos (by omega)])
    have hi1 : zIv (bk b.toNat) (bk b2.toNat) a e p q n gv (fun k => if k < 1849 then V k else 0) t := by
      refine ⟨by rw [eP0]; exact hi.1, by rw [eP0]; exact hi.2.1, fun u v hu hv hn => ?_⟩
      (try dsimp only at hn)
      rw [if_pos (by omega)] at hn
      exact hi.2.2 u v hu hv hn
    have hPs : ∀ h, zPs (fun k => if k < 1849 then V k else 0) h = 0 := fun h => zs_n (fun k a0 b0 => by (try dsimp only); rw [if_neg (by omega), Int.zero_mul])
    generalize (fun k => if k < 1849 then V k else 0 : Nat → Int) = V1 at hP0 hV1 hi1 hPs
    refine z_iload (i := 10) (pc := 157) C rfl dX7_two_157 ?_
    refine z_iload (i := 4) (pc := 159) C rfl dX7_two_159 ?_
    refine z_icmp_ge (tgt := 350) (pc := 161) C dX7_two_161 (by decide) (fun h161 => absurd h161 (by omega)) (fun h161 => ?_)
    refine z_iconst (pc := 164) C dX7_two_164 ?_
    refine z_istore (i := 11) (lv' := [_, _, _, _, _, _, _, _, _, _, _, _, _]) (pc := 165) C (by decide) rfl rfl dX7_two_165 ?_
    refine lz_two1 (ω0 := ω) C hM hV1 ?_ 43 0 ω c _ (by omega) zLo.rf (hP0.h (by omega)) (by omega)
    intro ω2 c2 oy2 hL2 hP2 hc2
    have e2 : c2 = 3698 := by omega
    subst e2
    have hM2 := (hL2 m (by omega)).trans hM
    have hL12 := hL.tr hL2
    have hPt2 := hPt1.kp (ω2 := ω2) (fun b h1 h2 => hL12 b (by omega))
    have hVn : ∀ k : Nat, k < 1849 → 0 ≤ V1 k := fun k hk => (hP2.nn k (by omega)).1
    have hms : zP0 V1 (fun _ _ => 1) ≤ 1000 ^ 15 := by
      have h1 := hi1.2.1
      have h2 : (1000 : Int) ^ (3 * t) ≤ 1000 ^ 15 := by
        rw [show 15 = 3 * t + (15 - 3 * t) by omega, Int.pow_add]
        have h3 : (0 : Int) < 1000 ^ (3 * t) := zpw (by decide) _
        have h4 : (0 : Int) < 1000 ^ (15 - 3 * t) := zpw (by decide) _
        have h5 : (1000 : Int) ^ (3 * t) * 1 ≤ 1000 ^ (3 * t) * 1000 ^ (15 - 3 * t) := Int.mul_le_mul_of_nonneg_left (by omega) (by omega)
        omega
      omega
    refine z_iconst (pc := 208) C dX7_two_208 ?_
    refine z_istore (i := 11) (lv' := [_, _, _, _, _, _, _, _, _, _, _, _, _]) (pc := 209) C (by decide) rfl rfl dX7_two_209 ?_
    refine lp_twoX (t := t) (At := a + p * t) (Bt := e + q * t) C hM2 hPt2 hb hb2 hf hg hpq hgv ⟨by rw [Int.natCast_add, Int.natCast_mul], by omega⟩ ⟨by rw [Int.natCast_add, Int.natCast_mul], by omega⟩ hPs hP2 hi1.2.2 hms hc0 ?_ 43 0 ω2 V1 _ (by omega) ⟨zOut.rf, hP2, fun _ _ => rfl, fun h => (Int.add_zero _).symm, fun u v hu hv hn => absurd (hV1 _ (by omega)) hn⟩
    intro ω3 V3 ox3 oy3 hS
    have hM3 := (hS.1.1 m (by omega)).trans hM2
    refine z_iconst (pc := 291) C dX7_two_291 ?_
    refine z_istore (i := 11) (lv' := [_, _, _, _, _, _, _, _, _, _, _, _, _]) (pc := 292) C (by decide) rfl rfl dX7_two_292 ?_
    refine lp_twoC1 (V := V3) C hM3 hc0 ?_ 43 0 ω3 _ (by omega) zLo.rf (hS.2.1.c (Nat.le_refl _) (fun k hk => by (try dsimp only); rw [if_neg (by omega)]))
    intro ω4 oy4 hL4 hP4
    have hi4 : zIv (bk b.toNat) (bk b2.toNat) a e p q n gv (fun k => if k < 1849 then V3 (1849 + k) else V3 k) (t + 1) := zIv_s hf hg (by omega) hVn hi1 hPs hS (fun k hk => if_pos hk)
    have hL14 : zLo m ω1 ω4 := (hL12.o hS.1 (by omega)).tr hL4
    have hgo := ih (t + 1) ω4 3698 _ (some (.int (zI 43))) oy4 (by omega) hL14 (hP4.c (by omega) (fun k _ => rfl)) (by omega) hi4
    refine z_iinc (i := 10) (lv' := [_, _, _, _, _, _, _, _, _, _, _, _, _]) (pc := 344) C rfl (by decide) rfl rfl dX7_two_344 ?_
    refine z_goto (tgt := 157) (pc := 347) C dX7_two_347 (by decide) ?_
    exact hgo
