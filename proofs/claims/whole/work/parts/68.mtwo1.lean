/-- what the first i pairs of side 0 send on -/
def zGs (V : Nat → Int) (f g : Int → Int) (p q gv : Int) (i : Nat) (h : Int → Int → Int) : Int := zs (fun k => V k.toNat * zGG f g p q gv h (k / 43) (k % 43)) i
theorem zGs_s {V : Nat → Int} {f g : Int → Int} {p q gv : Int} {x y : Nat} {h : Int → Int → Int} (hy : y < 43) : zGs V f g p q gv (x * 43 + (y + 1)) h = zGs V f g p q gv (x * 43 + y) h + V (x * 43 + y) * zGG f g p q gv h x y := by
  show zs _ (x * 43 + y) + V (((x * 43 + y : Nat) : Int)).toNat * zGG f g p q gv h (((x * 43 + y : Nat) : Int) / 43) (((x * 43 + y : Nat) : Int) % 43) = _
  rw [show (((x * 43 + y : Nat) : Int)).toNat = x * 43 + y by omega, show ((x * 43 + y : Nat) : Int) / 43 = x by omega, show ((x * 43 + y : Nat) : Int) % 43 = y by omega]
  rfl
theorem zGs_z {V : Nat → Int} {f g : Int → Int} {p q gv : Int} {i j : Nat} {h : Int → Int → Int} (hij : i ≤ j) (hz : ∀ k : Nat, i ≤ k → k < j → V k = 0) : zGs V f g p q gv j h = zGs V f g p q gv i h := zs_z hij (fun k a b => by (try dsimp only); rw [hz k.toNat (by omega) (by omega), Int.zero_mul])
theorem zGs_b {V : Nat → Int} {f g : Int → Int} {p q gv : Int} {i : Nat} (hf : zBk f) (hg : zBk g) (hV : ∀ k : Nat, k < 1849 → 0 ≤ V k) (hi : i ≤ 1849) : 0 ≤ zGs V f g p q gv i (fun _ _ => 1) ∧ zGs V f g p q gv i (fun _ _ => 1) ≤ zP0 V (fun _ _ => 1) * 1000000000 := by
  have h1 := zs_m (w := fun k => V k.toNat) (S := fun k => zGG f g p q gv (fun _ _ => 1) (k / 43) (k % 43)) (B := 1000000000) (n := i) (fun k a b => ⟨hV _ (by omega), zGG_b hf hg⟩)
  have h2 : zs (fun k => V k.toNat) i ≤ zs (fun k => V k.toNat) 1849 := zs_mono hi (fun k a b => hV _ (by omega))
  have h3 : zP0 V (fun _ _ => 1) = zs (fun k => V k.toNat) 1849 := zs_c (fun k a b => by (try dsimp only); rw [Int.mul_one])
  rw [h3]
  refine ⟨h1.1, Int.le_trans h1.2 ?_⟩
  exact Int.mul_le_mul_of_nonneg_right h2 (by decide)
theorem zP0_o {V : Nat → Int} (hV : ∀ k : Nat, k < 1849 → 0 ≤ V k) {k : Nat} (hk : k < 1849) : V k ≤ zP0 V (fun _ _ => 1) := by
  have q := zs_one (f := fun k => V k.toNat * 1) (n := 1849) (fun k a b => by (try dsimp only); rw [Int.mul_one]; exact hV _ (by omega)) (k : Int) (by omega) (by omega)
  (try dsimp only at q)
  rw [Int.mul_one, show ((k : Int)).toNat = k by omega] at q
  exact q
set_option maxRecDepth 100000 in
set_option maxHeartbeats 4000000 in
theorem lp_twoY {Γ : zG} {l0 : Launch} {X : zX} {m bh rt n a e p q c0 : Nat} {wh b b2 gv : Int} {ω1 : zWd} {bk : Nat → Int → Int} {V1 : Nat → Int} {t At Bt : Nat} {x : Nat} (C : Zc Γ l0 X (rtX7_two c0) 13 cX7_two RX7) (hM1 : ω1.1 m = some (zOb 7 (zMf m bh rt 72))) (hPt1 : zMx X ω1 (m + 1) 8 21 bk) (hb : 0 ≤ b ∧ b < 8) (hb2 : 0 ≤ b2 ∧ b2 < 8) (hf : zBk (bk b.toNat)) (hg : zBk (bk b2.toNat)) (hpq : p ≤ 6 ∧ q ≤ 6) (hgv : gv = 0 ∨ gv = 1) (hAt : (At : Int) = (a : Int) + (p : Int) * (t : Int) ∧ At ≤ 36) (hBt : (Bt : Int) = (e : Int) + (q : Int) * (t : Int) ∧ Bt ≤ 36) (hPs : ∀ h, zPs V1 h = 0) (hP1 : zPr X ω1 m 3698 3698 V1) (hsup : ∀ u v : Nat, u < 43 → v < 43 → V1 (u * 43 + v) ≠ 0 → u ≤ At ∧ v ≤ Bt) (hmass : zP0 V1 (fun _ _ => 1) ≤ 1000 ^ 15) (hc0 : c0 ≤ 3698) (hx : x < 43) (K : ∀ (ω : zWd) (V : Nat → Int) (oy : Option Value), zTs X ω1 ω m V1 V (At + p) (Bt + q) (zGs V1 (bk b.toNat) (bk b2.toNat) p q gv ((x + 1) * 43)) → Zw Γ ω (3698 - c0) (72 * (3698 - c0)) 285 [some (.ref m), some (.int (zI wh)), some (.int (zI b)), some (.int (zI b2)), some (.int (zI (n : Int))), some (.int (zI gv)), some (.int (zI (a : Int))), some (.int (zI (e : Int))), some (.int (zI (p : Int))), some (.int (zI (q : Int))), some (.int (zI (t : Int))), some (.int (zI (x : Int))), oy] []) : ∀ (j y : Nat) (ω : zWd) (V : Nat → Int), y + j = 43 → zTs X ω1 ω m V1 V (At + p) (Bt + q) (zGs V1 (bk b.toNat) (bk b2.toNat) p q gv (x * 43 + y)) → Zw Γ ω (3698 - c0) (72 * (3698 - c0)) 243 [some (.ref m), some (.int (zI wh)), some (.int (zI b)), some (.int (zI b2)), some (.int (zI (n : Int))), some (.int (zI gv)), some (.int (zI (a : Int))), some (.int (zI (e : Int))), some (.int (zI (p : Int))), some (.int (zI (q : Int))), some (.int (zI (t : Int))), some (.int (zI (x : Int))), some (.int (zI (y : Int)))] [] := by
  have hqt : 0 ≤ (q : Int) * (t : Int) := Int.mul_nonneg (by omega) (by omega)
  intro j
  induction j with
  | zero =>
    intro y ω V hj hS
    have e1 : y = 43 := by omega
    subst e1
    have hK := K ω V (some (.int (zI 43))) (hS.g (fun h => by rw [show (x + 1) * 43 = x * 43 + 43 by omega]))
    refine z_iload (i := 12) (pc := 243) C rfl dX7_two_243 ?_
    refine z_iload (i := 7) (pc := 245) C rfl dX7_two_245 ?_
    refine z_iload (i := 9) (pc := 247) C rfl dX7_two_247 ?_
    refine z_iload (i := 10) (pc := 249) C rfl dX7_two_249 ?_
    refine z_imul (pc := 251) C dX7_two_251 ?_
    refine z_iadd (pc := 252) C dX7_two_252 ?_
    refine z_icmp_gt (tgt := 285) (pc := 253) C dX7_two_253 (by decide) (fun h253 => ?_) (fun h253 => ?_)
    · exact hK
    · refine z_iload (i := 12) (pc := 256) C rfl dX7_two_256 ?_
      refine z_bipush (pc := 258) C (by decide +kernel) dX7_two_258 ?_
      refine z_icmp_ge (tgt := 285) (pc := 260) C dX7_two_260 (by decide) (fun h260 => ?_) (fun h260 => absurd h260 (by omega))
      exact hK
  | succ j ih =>
    intro y ω V hj hS
    have hM := (hS.1.1 m (by omega)).trans hM1
    have hPt := hPt1.kp (ω2 := ω) (fun b h1 h2 => hS.1.1 b (by omega))
    have hVn : ∀ k : Nat, k < 1849 → 0 ≤ V1 k := fun k hk => (hP1.nn k (by omega)).1
    have eV := hS.2.2.1 (x * 43 + y) (by omega)
    refine z_iload (i := 12) (pc := 243) C rfl dX7_two_243 ?_
    refine z_iload (i := 7) (pc := 245) C rfl dX7_two_245 ?_
    refine z_iload (i := 9) (pc := 247) C rfl dX7_two_247 ?_
    refine z_iload (i := 10) (pc := 249) C rfl dX7_two_249 ?_
    refine z_imul (pc := 251) C dX7_two_251 ?_
    refine z_iadd (pc := 252) C dX7_two_252 ?_
    refine z_icmp_gt (tgt := 285) (pc := 253) C dX7_two_253 (by decide) (fun h253 => ?_) (fun h253 => ?_)
    · have hK := K ω V (some (.int (zI (y : Int)))) (hS.g (fun h => zGs_z (by omega) (fun k k0 k1 => by
        by_cases e0 : V1 k = 0
        · exact e0
        · have := hsup x (k - x * 43) (by omega) (by omega) (by rw [show x * 43 + (k - x * 43) = k by omega]; exact e0)
          exfalso
          omega)))
      exact hK
    · refine z_iload (i := 12) (pc := 256) C rfl dX7_two_256 ?_
      refine z_bipush (pc := 258) C (by decide +kernel) dX7_two_258 ?_
      refine z_icmp_ge (tgt := 285) (pc := 260) C dX7_two_260 (by decide) (fun h260 => absurd h260 (by omega)) (fun h260 => ?_)
      refine z_aload_n (i := 0) (pc := 263) C rfl rfl dX7_two_263 ?_
      refine z_iload (i := 11) (pc := 264) C rfl dX7_two_264 ?_
      refine z_iload (i := 12) (pc := 266) C rfl dX7_two_266 ?_
      refine z_iload (i := 8) (pc := 268) C rfl dX7_two_268 ?_
      refine z_iload (i := 9) (pc := 270) C rfl dX7_two_270 ?_
      refine z_iload_n (i := 2) (pc := 272) C rfl rfl dX7_two_272 ?_
      refine z_iload_n (i := 3) (pc := 273) C rfl rfl dX7_two_273 ?_
      refine z_iload (i := 5) (pc := 274) C rfl dX7_two_274 ?_
      have hB20 : zPs V (fun _ _ => 1) ≤ 1000 ^ 20 := by
        have h1 := hS.2.2.2.1 (fun _ _ => 1)
        have h2 := zGs_b (V := V1) (p := (p : Int)) (q := (q : Int)) (gv := gv) (i := x * 43 + y) hf hg hVn (by omega)
        have h3 : zP0 V1 (fun _ _ => 1) * 1000000000 ≤ 1000 ^ 15 * 1000000000 := Int.mul_le_mul_of_nonneg_right hmass (by decide)
        have h4 : (1000 : Int) ^ 15 * 1000000000 ≤ 1000 ^ 20 := by decide
        rw [hPs] at h1
        omega
      have hw20 : V (x * 43 + y) ≤ 1000 ^ 20 := by
        have h1 := zP0_o hVn (show x * 43 + y < 1849 by omega)
        have h4 : (1000 : Int) ^ 15 ≤ 1000 ^ 20 := by decide
        rw [eV]
        omega
      refine z_callVv (pc := 276) C (c_X7_steps (Ua := At + p) (Ub := Bt + q) hM (by omega) (by omega) hPt hb hb2 hf hg (by omega) hgv (fun hn => by rw [eV] at hn; have := hsup x y (by omega) (by omega) hn; omega) hB20 hw20 hS.2.1 hS.2.2.2.2) k_X7_174 zy_X7_steps rfl rfl hM rfl rfl ⟨(Nat.le_of_ble_eq_true rfl), (Nat.le_of_ble_eq_true rfl)⟩ (Nat.le_of_ble_eq_true rfl) dX7_two_276 ⟨rfl, rfl⟩ ⟨by show _ ≤ 3698 - c0; omega, by show _ ≤ 72 * (3698 - c0); omega⟩ (fun ω' hp => ?_)
      obtain ⟨V2, hT⟩ := hp
      have hgo := ih (y + 1) _ V2 (by omega) ((hS.tr hT).g (fun h => by (try dsimp only); rw [zGs_s (by omega), eV]))
      refine z_iinc (i := 12) (lv' := [_, _, _, _, _, _, _, _, _, _, _, _, _]) (pc := 279) C rfl (by decide) rfl rfl dX7_two_279 ?_
      refine z_goto (tgt := 243) (pc := 282) C dX7_two_282 (by decide) ?_
      exact hgo
set_option maxRecDepth 100000 in
set_option maxHeartbeats 4000000 in
theorem lp_twoX {Γ : zG} {l0 : Launch} {X : zX} {m bh rt n a e p q c0 : Nat} {wh b b2 gv : Int} {ω1 : zWd} {bk : Nat → Int → Int} {V1 : Nat → Int} {t At Bt : Nat} (C : Zc Γ l0 X (rtX7_two c0) 13 cX7_two RX7) (hM1 : ω1.1 m = some (zOb 7 (zMf m bh rt 72))) (hPt1 : zMx X ω1 (m + 1) 8 21 bk) (hb : 0 ≤ b ∧ b < 8) (hb2 : 0 ≤ b2 ∧ b2 < 8) (hf : zBk (bk b.toNat)) (hg : zBk (bk b2.toNat)) (hpq : p ≤ 6 ∧ q ≤ 6) (hgv : gv = 0 ∨ gv = 1) (hAt : (At : Int) = (a : Int) + (p : Int) * (t : Int) ∧ At ≤ 36) (hBt : (Bt : Int) = (e : Int) + (q : Int) * (t : Int) ∧ Bt ≤ 36) (hPs : ∀ h, zPs V1 h = 0) (hP1 : zPr X ω1 m 3698 3698 V1) (hsup : ∀ u v : Nat, u < 43 → v < 43 → V1 (u * 43 + v) ≠ 0 → u ≤ At ∧ v ≤ Bt) (hmass : zP0 V1 (fun _ _ => 1) ≤ 1000 ^ 15) (hc0 : c0 ≤ 3698) (K : ∀ (ω : zWd) (V : Nat → Int) (ox oy : Option Value), zTs X ω1 ω m V1 V (At + p) (Bt + q) (zGs V1 (bk b.toNat) (bk b2.toNat) p q gv 1849) → Zw Γ ω (3698 - c0) (72 * (3698 - c0)) 291 [some (.ref m), some (.int (zI wh)), some (.int (zI b)), some (.int (zI b2)), some (.int (zI (n : Int))), some (.int (zI gv)), some (.int (zI (a : Int))), some (.int (zI (e : Int))), some (.int (zI (p : Int))), some (.int (zI (q : Int))), some (.int (zI (t : Int))), ox, oy] []) : ∀ (j x : Nat) (ω : zWd) (V : Nat → Int) (oy : Option Value), x + j = 43 → zTs X ω1 ω m V1 V (At + p) (Bt + q) (zGs V1 (bk b.toNat) (bk b2.toNat) p q gv (x * 43)) → Zw Γ ω (3698 - c0) (72 * (3698 - c0)) 211 [some (.ref m), some (.int (zI wh)), some (.int (zI b)), some (.int (zI b2)), some (.int (zI (n : Int))), some (.int (zI gv)), some (.int (zI (a : Int))), some (.int (zI (e : Int))), some (.int (zI (p : Int))), some (.int (zI (q : Int))), some (.int (zI (t : Int))), some (.int (zI (x : Int))), oy] [] := by
  have hqt : 0 ≤ (q : Int) * (t : Int) := Int.mul_nonneg (by omega) (by omega)
  have hpt : 0 ≤ (p : Int) * (t : Int) := Int.mul_nonneg (by omega) (by omega)
  intro j
  induction j with
  | zero =>
    intro x ω V oy hj hS
    have e1 : x = 43 := by omega
    subst e1
    have hK := K ω V (some (.int (zI 43))) oy hS
    refine z_iload (i := 11) (pc := 211) C rfl dX7_two_211 ?_
    refine z_iload (i := 6) (pc := 213) C rfl dX7_two_213 ?_
    refine z_iload (i := 8) (pc := 215) C rfl dX7_two_215 ?_
    refine z_iload (i := 10) (pc := 217) C rfl dX7_two_217 ?_
    refine z_imul (pc := 219) C dX7_two_219 ?_
    refine z_iadd (pc := 220) C dX7_two_220 ?_
    refine z_iload (i := 7) (pc := 221) C rfl dX7_two_221 ?_
    refine z_iadd (pc := 223) C dX7_two_223 ?_
    refine z_iload (i := 9) (pc := 224) C rfl dX7_two_224 ?_
    refine z_iload (i := 10) (pc := 226) C rfl dX7_two_226 ?_
    refine z_imul (pc := 228) C dX7_two_228 ?_
    refine z_iadd (pc := 229) C dX7_two_229 ?_
    refine z_icmp_gt (tgt := 291) (pc := 230) C dX7_two_230 (by decide) (fun h230 => ?_) (fun h230 => ?_)
    · exact hK
    · refine z_iload (i := 11) (pc := 233) C rfl dX7_two_233 ?_
      refine z_bipush (pc := 235) C (by decide +kernel) dX7_two_235 ?_
      refine z_icmp_ge (tgt := 291) (pc := 237) C dX7_two_237 (by decide) (fun h237 => ?_) (fun h237 => absurd h237 (by omega))
      exact hK
  | succ j ih =>
    intro x ω V oy hj hS
    refine z_iload (i := 11) (pc := 211) C rfl dX7_two_211 ?_
    refine z_iload (i := 6) (pc := 213) C rfl dX7_two_213 ?_
    refine z_iload (i := 8) (pc := 215) C rfl dX7_two_215 ?_
    refine z_iload (i := 10) (pc := 217) C rfl dX7_two_217 ?_
    refine z_imul (pc := 219) C dX7_two_219 ?_
    refine z_iadd (pc := 220) C dX7_two_220 ?_
    refine z_iload (i := 7) (pc := 221) C rfl dX7_two_221 ?_
    refine z_iadd (pc := 223) C dX7_two_223 ?_
    refine z_iload (i := 9) (pc := 224) C rfl dX7_two_224 ?_
    refine z_iload (i := 10) (pc := 226) C rfl dX7_two_226 ?_
    refine z_imul (pc := 228) C dX7_two_228 ?_
    refine z_iadd (pc := 229) C dX7_two_229 ?_
    refine z_icmp_gt (tgt := 291) (pc := 230) C dX7_two_230 (by decide) (fun h230 => ?_) (fun h230 => ?_)
    · have hK := K ω V (some (.int (zI (x : Int)))) oy (hS.g (fun h => zGs_z (by omega) (fun k k0 k1 => by
        by_cases e0 : V1 k = 0
        · exact e0
        · have := hsup (k / 43) (k % 43) (by omega) (by omega) (by rw [show k / 43 * 43 + k % 43 = k by omega]; exact e0)
          exfalso
          omega)))
      exact hK
    · refine z_iload (i := 11) (pc := 233) C rfl dX7_two_233 ?_
      refine z_bipush (pc := 235) C (by decide +kernel) dX7_two_235 ?_
      refine z_icmp_ge (tgt := 291) (pc := 237) C dX7_two_237 (by decide) (fun h237 => absurd h237 (by omega)) (fun h237 => ?_)
      refine z_iconst (pc := 240) C dX7_two_240 ?_
      refine z_istore (i := 12) (lv' := [_, _, _, _, _, _, _, _, _, _, _, _, _]) (pc := 241) C (by decide) rfl rfl dX7_two_241 ?_
      refine lp_twoY C hM1 hPt1 hb hb2 hf hg hpq hgv hAt hBt hPs hP1 hsup hmass hc0 (show x < 43 by omega) ?_ 43 0 ω V (by omega) hS
      intro ω2 V2 oy2 hS2
      have hgo := ih (x + 1) ω2 V2 oy2 (by omega) hS2
      refine z_iinc (i := 11) (lv' := [_, _, _, _, _, _, _, _, _, _, _, _, _]) (pc := 285) C rfl (by decide) rfl rfl dX7_two_285 ?_
      refine z_goto (tgt := 211) (pc := 288) C dX7_two_288 (by decide) ?_
      exact hgo
set_option maxRecDepth 100000 in
set_option maxHeartbeats 4000000 in
theorem lp_twoC2 {Γ : zG} {l0 : Launch} {X : zX} {m bh rt n a e p q c0 : Nat} {wh b b2 gv : Int} {ω1 : zWd} {V : Nat → Int} {ot : Int} {x : Nat} (C : Zc Γ l0 X (rtX7_two c0) 13 cX7_two RX7) (hM1 : ω1.1 m = some (zOb 7 (zMf m bh rt 72))) (hc0 : c0 ≤ 3698) (hx : x < 43) (K : ∀ ω : zWd, zLo m ω1 ω → zPr X ω m 3698 3698 (fun k => if k < ((x + 1) * 43) then V (1849 + k) else V k) → Zw Γ ω (3698 - c0) (72 * (3698 - c0)) 338 [some (.ref m), some (.int (zI wh)), some (.int (zI b)), some (.int (zI b2)), some (.int (zI (n : Int))), some (.int (zI gv)), some (.int (zI (a : Int))), some (.int (zI (e : Int))), some (.int (zI (p : Int))), some (.int (zI (q : Int))), some (.int (zI ot)), some (.int (zI (x : Int))), some (.int (zI 43))] []) : ∀ (j y : Nat) (ω : zWd), y + j = 43 → zLo m ω1 ω → zPr X ω m 3698 3698 (fun k => if k < (x * 43 + y) then V (1849 + k) else V k) → Zw Γ ω (3698 - c0) (72 * (3698 - c0)) 304 [some (.ref m), some (.int (zI wh)), some (.int (zI b)), some (.int (zI b2)), some (.int (zI (n : Int))), some (.int (zI gv)), some (.int (zI (a : Int))), some (.int (zI (e : Int))), some (.int (zI (p : Int))), some (.int (zI (q : Int))), some (.int (zI ot)), some (.int (zI (x : Int))), some (.int (zI (y : Int)))] [] := by
  intro j
  induction j with
  | zero =>
    intro y ω hj hL hP
    have e1 : y = 43 := by omega
    subst e1
    have hK := K ω hL (by rw [show (x + 1) * 43 = x * 43 + 43 by omega]; exact hP)
    refine z_iload (i := 12) (pc := 304) C rfl dX7_two_304 ?_
    refine z_bipush (pc := 306) C (by decide +kernel) dX7_two_306 ?_
    refine z_icmp_ge (tgt := 338) (pc := 308) C dX7_two_308 (by decide) (fun h308 => ?_) (fun h308 => absurd h308 (by omega))
    exact hK
  | succ j ih =>
    intro y ω hj hL hP
    have hM := (hL m (by omega)).trans hM1
    obtain ⟨hh, ff, p1, p2, p3, p4, p5, p6⟩ := id hP
    refine z_iload (i := 12) (pc := 304) C rfl dX7_two_304 ?_
    refine z_bipush (pc := 306) C (by decide +kernel) dX7_two_306 ?_
    refine z_icmp_ge (tgt := 338) (pc := 308) C dX7_two_308 (by decide) (fun h308 => absurd h308 (by omega)) (fun h308 => ?_)
    refine z_aload_n (i := 0) (pc := 311) C rfl rfl dX7_two_311 ?_
    refine z_iconst (pc := 312) C dX7_two_312 ?_
    refine z_iload (i := 11) (pc := 313) C rfl dX7_two_313 ?_
    refine z_iload (i := 12) (pc := 315) C rfl dX7_two_315 ?_
    refine z_callVr (pc := 317) C (d_X7_pair0 hM (by omega) hP (1849 + (x * 43 + y)) (by omega) (by omega)) k_X7_170 zy_X7_pair rfl rfl hM rfl rfl ⟨(Nat.le_of_ble_eq_true rfl), (Nat.le_of_ble_eq_true rfl)⟩ (Nat.le_of_ble_eq_true rfl) dX7_two_317 ⟨rfl, rfl⟩ ⟨by show _ ≤ 3698 - c0; omega, by show _ ≤ 72 * (3698 - c0); omega⟩ (fun rv ω' hp => ?_)
    obtain ⟨hw', hq'⟩ := hp
    rw [hw', hq']
    clear hw' hq'
    refine z_aload_n (i := 0) (pc := 320) C rfl rfl dX7_two_320 ?_
    refine z_iconst (pc := 321) C dX7_two_321 ?_
    refine z_iload (i := 11) (pc := 322) C rfl dX7_two_322 ?_
    refine z_iload (i := 12) (pc := 324) C rfl dX7_two_324 ?_
    refine z_callVr (pc := 326) C (d_X7_pair0 hM (by omega) hP (x * 43 + y) (by omega) (by omega)) k_X7_170 zy_X7_pair rfl rfl hM rfl rfl ⟨(Nat.le_of_ble_eq_true rfl), (Nat.le_of_ble_eq_true rfl)⟩ (Nat.le_of_ble_eq_true rfl) dX7_two_326 ⟨rfl, rfl⟩ ⟨by show _ ≤ 3698 - c0; omega, by show _ ≤ 72 * (3698 - c0); omega⟩ (fun rv ω' hp => ?_)
    obtain ⟨hw', hq'⟩ := hp
    rw [hw', hq']
    clear hw' hq'
    refine z_callSv (pc := 329) C (c_X7_copy (p4 (1849 + (x * 43 + y)) (by omega)) (p6 (1849 + (x * 43 + y)) (by omega)) (by omega) (p4 (x * 43 + y) (by omega))) k_X7_124 zy_X7_copy.2 rfl rfl ⟨(Nat.le_of_ble_eq_true rfl), (Nat.le_of_ble_eq_true rfl)⟩ (Nat.le_of_ble_eq_true rfl) dX7_two_329 ⟨rfl, rfl⟩ ⟨by show _ ≤ 3698 - c0; omega, by show _ ≤ 72 * (3698 - c0); omega⟩ (fun ω' hp => ?_)
    obtain ⟨g2, rfl, hg2⟩ := hp
    have hgo := ih (y + 1) _ (by omega) (hL.u (by omega)) ((hP.u (k := x * 43 + y) (by omega) hg2).c (V2 := (fun k => if k < (x * 43 + (y + 1)) then V (1849 + k) else V k)) (Nat.le_refl _) (fun k hk => by
      by_cases e0 : k = x * 43 + y
      · rw [e0, va_up_self]
        (try dsimp only)
        rw [if_neg (by omega), if_pos (by omega)]
      · rw [va_up_ne _ _ e0]
        (try dsimp only)
        by_cases e1 : k < x * 43 + y
        · rw [if_pos e1, if_pos (by omega)]
        · rw [if_neg e1, if_neg (by omega)]))
    refine z_iinc (i := 12) (lv' := [_, _, _, _, _, _, _, _, _, _, _, _, _]) (pc := 332) C rfl (by decide) rfl rfl dX7_two_332 ?_
    refine z_goto (tgt := 304) (pc := 335) C dX7_two_335 (by decide) ?_
    exact hgo
set_option maxRecDepth 100000 in
set_option maxHeartbeats 4000000 in
theorem lp_twoC1 {Γ : zG} {l0 : Launch} {X : zX} {m bh rt n a e p q c0 : Nat} {wh b b2 gv : Int} {ω1 : zWd} {V : Nat → Int} {ot : Int} (C : Zc Γ l0 X (rtX7_two c0) 13 cX7_two RX7) (hM1 : ω1.1 m = some (zOb 7 (zMf m bh rt 72))) (hc0 : c0 ≤ 3698) (K : ∀ (ω : zWd) (oy : Option Value), zLo m ω1 ω → zPr X ω m 3698 3698 (fun k => if k < 1849 then V (1849 + k) else V k) → Zw Γ ω (3698 - c0) (72 * (3698 - c0)) 344 [some (.ref m), some (.int (zI wh)), some (.int (zI b)), some (.int (zI b2)), some (.int (zI (n : Int))), some (.int (zI gv)), some (.int (zI (a : Int))), some (.int (zI (e : Int))), some (.int (zI (p : Int))), some (.int (zI (q : Int))), some (.int (zI ot)), some (.int (zI 43)), oy] []) : ∀ (j x : Nat) (ω : zWd) (oy : Option Value), x + j = 43 → zLo m ω1 ω → zPr X ω m 3698 3698 (fun k => if k < (x * 43) then V (1849 + k) else V k) → Zw Γ ω (3698 - c0) (72 * (3698 - c0)) 294 [some (.ref m), some (.int (zI wh)), some (.int (zI b)), some (.int (zI b2)), some (.int (zI (n : Int))), some (.int (zI gv)), some (.int (zI (a : Int))), some (.int (zI (e : Int))), some (.int (zI (p : Int))), some (.int (zI (q : Int))), some (.int (zI ot)), some (.int (zI (x : Int))), oy] [] := by
  intro j
  induction j with
  | zero =>
    intro x ω oy hj hL hP
    have e1 : x = 43 := by omega
    subst e1
    have hK := K ω oy hL hP
    refine z_iload (i := 11) (pc := 294) C rfl dX7_two_294 ?_
    refine z_bipush (pc := 296) C (by decide +kernel) dX7_two_296 ?_
    refine z_icmp_ge (tgt := 344) (pc := 298) C dX7_two_298 (by decide) (fun h298 => ?_) (fun h298 => absurd h298 (by omega))
    exact hK
  | succ j ih =>
    intro x ω oy hj hL hP
    refine z_iload (i := 11) (pc := 294) C rfl dX7_two_294 ?_
    refine z_bipush (pc := 296) C (by decide +kernel) dX7_two_296 ?_
    refine z_icmp_ge (tgt := 344) (pc := 298) C dX7_two_298 (by decide) (fun h298 => absurd h298 (by omega)) (fun h298 => ?_)
    refine z_iconst (pc := 301) C dX7_two_301 ?_
    refine z_istore (i := 12) (lv' := [_, _, _, _, _, _, _, _, _, _, _, _, _]) (pc := 302) C (by decide) rfl rfl dX7_two_302 ?_
    refine lp_twoC2 C hM1 hc0 (show x < 43 by omega) ?_ 43 0 ω (by omega) hL hP
    intro ω2 hL2 hP2
    have hgo := ih (x + 1) ω2 (some (.int (zI 43))) (by omega) hL2 hP2
    refine z_iinc (i := 11) (lv' := [_, _, _, _, _, _, _, _, _, _, _, _, _]) (pc := 338) C rfl (by decide) rfl rfl dX7_two_338 ?_
    refine z_goto (tgt := 294) (pc := 341) C dX7_two_341 (by decide) ?_
    exact hgo
