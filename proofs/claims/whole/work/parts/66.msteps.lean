/-! THE MODEL'S STEPS: what stands on side 1, weighed by any h -/
def zPs (V : Nat → Int) (h : Int → Int → Int) : Int := zs (fun k => V (1849 + k.toNat) * h (k / 43) (k % 43)) 1849
theorem zPr.nn {X : zX} {ω : zWd} {m c hi : Nat} {V : Nat → Int} (h : zPr X ω m c hi V) (k : Nat) (hk : k < hi) : 0 ≤ V k ∧ V k < 1000 ^ 72 := by
  obtain ⟨h, f, h1, h2, h3, h4, h5, h6⟩ := h
  exact (h6 k hk).b
theorem zPs_le {X : zX} {ω : zWd} {m : Nat} {V : Nat → Int} (h : zPr X ω m 3698 3698 V) {j : Nat} (hj : j < 1849) : V (1849 + j) ≤ zPs V (fun _ _ => 1) := by
  have q := zs_one (f := fun k => V (1849 + k.toNat) * 1) (n := 1849) (fun k a b => by (try dsimp only); rw [Int.mul_one]; exact (h.nn _ (by omega)).1) (j : Int) (by omega) (by omega)
  (try dsimp only at q)
  rw [Int.mul_one, show ((j : Int)).toNat = j by omega] at q
  exact q
/-- since ω0 only side 1 has changed: what h weighs there has grown by G h -/
def zTs (X : zX) (ω0 ω : zWd) (m : Nat) (V0 V : Nat → Int) (Ua Ub : Nat) (G : (Int → Int → Int) → Int) : Prop := zOut (m + 4295) (m + 6144) ω0 ω ∧ zPr X ω m 3698 3698 V ∧ (∀ k : Nat, k < 1849 → V k = V0 k) ∧ (∀ h : Int → Int → Int, zPs V h = zPs V0 h + G h) ∧ ∀ u v : Nat, u < 43 → v < 43 → V (1849 + (u * 43 + v)) ≠ 0 → u ≤ Ua ∧ v ≤ Ub
theorem zTs.st {X : zX} {ω0 ω : zWd} {m : Nat} {V0 V : Nat → Int} {Ua Ub : Nat} {G : (Int → Int → Int) → Int} (h : zTs X ω0 ω m V0 V Ua Ub G) {u v : Nat} (hu : u ≤ Ua) (hv : v ≤ Ub) (hb : Ua < 43 ∧ Ub < 43) {g : Int → Int} {z : Int} (hg : zNm g (V (1849 + (u * 43 + v)) + z)) : zTs X ω0 (zU ω (m + 2446 + (1849 + (u * 43 + v))) (zAI X 72 g)) m V0 (va_up V (1849 + (u * 43 + v)) (V (1849 + (u * 43 + v)) + z)) Ua Ub (fun h => G h + z * h u v) := by
  obtain ⟨h1, h2, h3, h4, h5⟩ := h
  refine ⟨h1.u (by omega) (by omega), h2.u (by omega) hg, fun k hk => ?_, fun h => ?_, fun u' v' hu' hv' hn => ?_⟩
  · rw [va_up_ne _ _ (by omega)]; exact h3 k hk
  · have q := zs_upd (V := V) (w := fun k => h (k / 43) (k % 43)) (b := 1849) (j := u * 43 + v) (z := z) (n := 1849) (by omega)
    (try dsimp only at q)
    rw [show ((u * 43 + v : Nat) : Int) / 43 = u by omega, show ((u * 43 + v : Nat) : Int) % 43 = v by omega] at q
    have q4 := h4 h
    show zPs _ h = zPs V0 h + (G h + z * h u v)
    unfold zPs at q4 ⊢
    rw [q, q4]
    omega
  · by_cases e : u' * 43 + v' = u * 43 + v
    · have e1 : u' = u := by omega
      have e2 : v' = v := by omega
      subst e1; subst e2
      exact ⟨hu, hv⟩
    · rw [va_up_ne _ _ (by omega)] at hn
      exact h5 u' v' hu' hv' hn
theorem zTs.g {X : zX} {ω0 ω : zWd} {m : Nat} {V0 V : Nat → Int} {Ua Ub : Nat} {G G2 : (Int → Int → Int) → Int} (h : zTs X ω0 ω m V0 V Ua Ub G) (e : ∀ h, G2 h = G h) : zTs X ω0 ω m V0 V Ua Ub G2 := ⟨h.1, h.2.1, h.2.2.1, fun q => by rw [e q]; exact h.2.2.2.1 q, h.2.2.2.2⟩
theorem zTs.tr {X : zX} {ω0 ω ω2 : zWd} {m : Nat} {V0 V V2 : Nat → Int} {Ua Ub : Nat} {G G2 : (Int → Int → Int) → Int} (h : zTs X ω0 ω m V0 V Ua Ub G) (h2 : zTs X ω ω2 m V V2 Ua Ub G2) : zTs X ω0 ω2 m V0 V2 Ua Ub (fun h => G h + G2 h) := by
  obtain ⟨a1, a2, a3, a4, a5⟩ := h
  obtain ⟨b1, b2, b3, b4, b5⟩ := h2
  refine ⟨a1.tr b1, b2, fun k hk => (b3 k hk).trans (a3 k hk), fun q => ?_, b5⟩
  show zPs V2 q = zPs V0 q + (G q + G2 q)
  rw [b4 q, a4 q]
  omega
/-- the pairs of sizes up to s, r -/
def zQs (f g : Int → Int) (p q gv x y : Int) (s r : Nat) (h : Int → Int → Int) : Int := zs (fun s' => zs (fun r' => f s' * g r' * zhh gv h (x + p - s') (y + q - r')) 21) s + zs (fun r' => f s * g r' * zhh gv h (x + p - (s : Int)) (y + q - r')) r
theorem zQs_r {f g : Int → Int} {p q gv x y : Int} {s r : Nat} {h : Int → Int → Int} : zQs f g p q gv x y s (r + 1) h = zQs f g p q gv x y s r h + f s * g r * zhh gv h (x + p - (s : Int)) (y + q - (r : Int)) := by
  unfold zQs
  show _ + (zs _ r + f s * g r * zhh gv h (x + p - (s : Int)) (y + q - (r : Int))) = _
  omega
theorem zQs_s {f g : Int → Int} {p q gv x y : Int} {s : Nat} {h : Int → Int → Int} : zQs f g p q gv x y s 21 h = zQs f g p q gv x y (s + 1) 0 h := by
  unfold zQs
  show _ = (zs _ s + zs (fun r' => f s * g r' * zhh gv h (x + p - (s : Int)) (y + q - r')) 21) + 0
  omega
theorem zQs_e {f g : Int → Int} {p q gv x y : Int} {h : Int → Int → Int} : zQs f g p q gv x y 21 0 h = zGG f g p q gv h x y := by
  unfold zQs zGG
  show _ + 0 = _
  omega
theorem zQs_0 {f g : Int → Int} {p q gv x y : Int} {h : Int → Int → Int} : zQs f g p q gv x y 0 0 h = 0 := by
  unfold zQs
  show (0 : Int) + 0 = 0
  rfl
theorem zhh_1 (gv u v : Int) : 0 ≤ zhh gv (fun _ _ => 1) u v ∧ zhh gv (fun _ _ => 1) u v ≤ 1 := by
  unfold zhh
  (repeat' split) <;> ((try dsimp only); decide)
theorem zhh_n {gv u v : Int} {h : Int → Int → Int} (h1 : ¬ (gv ≠ 0 ∧ u < 0 ∧ -u ≤ v)) (h2 : ¬ (gv ≠ 0 ∧ v < 0 ∧ -v ≤ u)) : zhh gv h u v = if 0 ≤ u ∧ 0 ≤ v then h u v else 0 := by
  unfold zhh
  rw [if_neg h1, if_neg h2]
theorem zhh_a {gv u v : Int} {h : Int → Int → Int} (h1 : gv ≠ 0 ∧ u < 0 ∧ -u ≤ v) : zhh gv h u v = if 0 ≤ (0 : Int) ∧ 0 ≤ v + u then h 0 (v + u) else 0 := by
  unfold zhh
  rw [if_pos h1, if_pos (by omega)]
theorem zhh_b {gv u v : Int} {h : Int → Int → Int} (h1 : ¬ (gv ≠ 0 ∧ u < 0 ∧ -u ≤ v)) (h2 : gv ≠ 0 ∧ v < 0 ∧ -v ≤ u) : zhh gv h u v = if 0 ≤ u + v ∧ 0 ≤ (0 : Int) then h (u + v) 0 else 0 := by
  unfold zhh
  rw [if_neg h1, if_pos h2, if_pos (by omega)]
theorem zt1 {a b c : Int} (ha : 0 ≤ a ∧ a ≤ 1000) (hb : 0 ≤ b ∧ b ≤ 1000) (hc : 0 ≤ c ∧ c ≤ 1) : 0 ≤ a * b * c ∧ a * b * c ≤ 1000000 := by
  have h1 : 0 ≤ a * b := Int.mul_nonneg ha.1 hb.1
  have h2 : a * b ≤ 1000 * 1000 := Int.mul_le_mul ha.2 hb.2 hb.1 (by decide)
  have h3 : a * b * c ≤ (1000 * 1000) * 1 := Int.mul_le_mul h2 hc.2 hc.1 (by decide)
  exact ⟨Int.mul_nonneg h1 hc.1, by omega⟩
theorem zQs_b {f g : Int → Int} {p q gv x y : Int} {s r : Nat} (hf : zBk f) (hg : zBk g) (hs : s < 21 ∨ (s = 21 ∧ r = 0)) (hr : r ≤ 21) : 0 ≤ zQs f g p q gv x y s r (fun _ _ => 1) ∧ zQs f g p q gv x y s r (fun _ _ => 1) ≤ 1000000000 := by
  unfold zQs
  have h1 := zs_b (f := fun s' => zs (fun r' => f s' * g r' * zhh gv (fun _ _ => 1) (x + p - s') (y + q - r')) 21) (M := 21000000) (n := s) (fun k a b => by
    have := zs_b (f := fun r' => f k * g r' * zhh gv (fun _ _ => 1) (x + p - k) (y + q - r')) (M := 1000000) (n := 21) (fun r' a' b' => zt1 (hf k a (by omega)) (hg r' a' (by omega)) (zhh_1 _ _ _))
    (try dsimp only)
    omega)
  by_cases e : s < 21
  · have h2 := zs_b (f := fun r' => f s * g r' * zhh gv (fun _ _ => 1) (x + p - (s : Int)) (y + q - r')) (M := 1000000) (n := r) (fun r' a' b' => zt1 (hf s (by omega) (by omega)) (hg r' a' (by omega)) (zhh_1 _ _ _))
    omega
  · have e2 : r = 0 := by omega
    subst e2
    show 0 ≤ _ + 0 ∧ _ + 0 ≤ _
    omega
theorem zGG_b {f g : Int → Int} {p q gv x y : Int} (hf : zBk f) (hg : zBk g) : 0 ≤ zGG f g p q gv (fun _ _ => 1) x y ∧ zGG f g p q gv (fun _ _ => 1) x y ≤ 1000000000 := by
  rw [← zQs_e]
  exact zQs_b hf hg (Or.inr ⟨rfl, rfl⟩) (by omega)
set_option maxRecDepth 100000 in
set_option maxHeartbeats 4000000 in
theorem lp_steps146 {Γ : zG} {l0 : Launch} {X : zX} {m bh rt x y Ua Ub : Nat} {p q b b2 gv : Int} {V0 : Nat → Int} {ω0 : zWd} (C : Zc Γ l0 X rmX7_steps 14 cX7_steps RX7) (hM0 : ω0.1 m = some (zOb 7 (zMf m bh rt 72))) (hxy : x < 43 ∧ y < 43) (hub : Ua < 43 ∧ Ub < 43) (hwB : 0 ≤ V0 (x * 43 + y) ∧ V0 (x * 43 + y) ≤ 1000 ^ 20) {ω : zWd} {V : Nat → Int} {G : (Int → Int → Int) → Int} {s r by_ u v U Wv : Int} (hGb : zPs V0 (fun _ _ => 1) + G (fun _ _ => 1) ≤ 1000 ^ 30) (hS : zTs X ω0 ω m V0 V Ua Ub (G)) (hby : 0 < by_ ∧ by_ ≤ 1000000) (hr : (-100 ≤ U ∧ U ≤ 100) ∧ (-100 ≤ Wv ∧ Wv ≤ 100)) (hz : ∀ h, zhh gv h u v = if 0 ≤ U ∧ 0 ≤ Wv then h U Wv else 0) (hUV : 0 ≤ U → 0 ≤ Wv → U ≤ Ua ∧ Wv ≤ Ub) (K : ∀ (ω : zWd) (V : Nat → Int), zTs X ω0 ω m V0 V Ua Ub (fun h => G h + by_ * V0 (x * 43 + y) * zhh gv h u v) → Zw Γ ω 0 0 174 [some (.ref m), some (.int (zI (x : Int))), some (.int (zI (y : Int))), some (.int (zI p)), some (.int (zI q)), some (.int (zI b)), some (.int (zI b2)), some (.int (zI gv)), some (.ref (m + 2446 + (x * 43 + y))), some (.int (zI s)), some (.int (zI r)), some (.int (zI by_)), some (.int (zI U)), some (.int (zI Wv))] []) : Zw Γ ω 0 0 146 [some (.ref m), some (.int (zI (x : Int))), some (.int (zI (y : Int))), some (.int (zI p)), some (.int (zI q)), some (.int (zI b)), some (.int (zI b2)), some (.int (zI gv)), some (.ref (m + 2446 + (x * 43 + y))), some (.int (zI s)), some (.int (zI r)), some (.int (zI by_)), some (.int (zI U)), some (.int (zI Wv))] [] := by
  have hM := (hS.1.1 m (by omega)).trans hM0
  obtain ⟨hh, ff, p1, p2, p3, p4, p5, p6⟩ := id hS.2.1
  have e00 : (1000 : Int) ^ 0 = 1 := rfl
  have hno : ¬ (0 ≤ U ∧ 0 ≤ Wv) → Zw Γ ω 0 0 174 [some (.ref m), some (.int (zI (x : Int))), some (.int (zI (y : Int))), some (.int (zI p)), some (.int (zI q)), some (.int (zI b)), some (.int (zI b2)), some (.int (zI gv)), some (.ref (m + 2446 + (x * 43 + y))), some (.int (zI s)), some (.int (zI r)), some (.int (zI by_)), some (.int (zI U)), some (.int (zI Wv))] [] := fun hn => K ω V (hS.g (fun h => by rw [hz h, if_neg hn, Int.mul_zero, Int.add_zero]))
  have hrow := fun (h : 0 ≤ U ∧ 0 ≤ Wv) => p4 (1849 + (U.toNat * 43 + Wv.toNat)) (by have := hUV h.1 h.2; omega)
  refine z_iload (i := 12) (pc := 146) C rfl dX7_steps_146 ?_
  refine z_if_lt (tgt := 174) (pc := 148) C dX7_steps_148 (by decide) (fun h148 => ?_) (fun h148 => ?_)
  · exact hno (by omega)
  · refine z_iload (i := 13) (pc := 151) C rfl dX7_steps_151 ?_
    refine z_if_lt (tgt := 174) (pc := 153) C dX7_steps_153 (by decide) (fun h153 => ?_) (fun h153 => ?_)
    · exact hno (by omega)
    · have hUV2 := hUV (by omega) (by omega)
      refine z_aload_n (i := 0) (pc := 156) C rfl rfl dX7_steps_156 ?_
      refine z_aload_n (i := 0) (pc := 157) C rfl rfl dX7_steps_157 ?_
      refine z_iconst (pc := 158) C dX7_steps_158 ?_
      refine z_iload (i := 12) (pc := 159) C rfl dX7_steps_159 ?_
      refine z_iload (i := 13) (pc := 161) C rfl dX7_steps_161 ?_
      refine z_callVr (pc := 163) C (d_X7_pair0 hM (by omega) hS.2.1 (1849 + (U.toNat * 43 + Wv.toNat)) (by omega) (by omega)) k_X7_170 zy_X7_pair rfl rfl hM rfl rfl ⟨(Nat.le_of_ble_eq_true rfl), (Nat.le_of_ble_eq_true rfl)⟩ (Nat.le_of_ble_eq_true rfl) dX7_steps_163 ⟨rfl, rfl⟩ ⟨(Nat.le_of_ble_eq_true rfl), (Nat.le_of_ble_eq_true rfl)⟩ (fun rv ω' hp => ?_)
      obtain ⟨hw', hq'⟩ := hp
      rw [hw', hq']
      clear hw' hq'
      refine z_aload (i := 8) (pc := 166) C rfl dX7_steps_166 ?_
      refine z_iload (i := 11) (pc := 168) C rfl dX7_steps_168 ?_
      refine z_iconst (pc := 170) C dX7_steps_170 ?_
      have hq1 := zPs_le hS.2.1 (j := U.toNat * 43 + Wv.toNat) (by omega)
      have hq2 := hS.2.2.2.1 (fun _ _ => 1)
      have hq3 : by_ * V0 (x * 43 + y) ≤ 1000000 * 1000 ^ 20 := Int.mul_le_mul hby.2 hwB.2 hwB.1 (by decide)
      have hq4 : (1000 : Int) ^ 30 + 1000000 * 1000 ^ 20 < 1000 ^ 72 := by decide
      have hfit : V (1849 + (U.toNat * 43 + Wv.toNat)) + by_ * V0 (x * 43 + y) * 1000 ^ 0 < 1000 ^ 72 := by
        rw [e00, Int.mul_one]
        omega
      refine z_callVv (pc := 171) C (c_X7_add (up := 0) hM rfl (hrow ⟨by omega, by omega⟩) (p6 (1849 + (U.toNat * 43 + Wv.toNat)) (by omega)) (p4 (x * 43 + y) (by omega)) ((p6 (x * 43 + y) (by omega)).e (hS.2.2.1 (x * 43 + y) (by omega))) (by omega) (by omega) (by omega) hfit) k_X7_120 zy_X7_add rfl rfl hM rfl rfl ⟨(Nat.le_of_ble_eq_true rfl), (Nat.le_of_ble_eq_true rfl)⟩ (Nat.le_of_ble_eq_true rfl) dX7_steps_171 ⟨rfl, rfl⟩ ⟨(Nat.le_of_ble_eq_true rfl), (Nat.le_of_ble_eq_true rfl)⟩ (fun ω' hp => ?_)
      obtain ⟨g2, rfl, hg2⟩ := hp
      rw [e00, Int.mul_one] at hg2
      have hK := K _ _ ((hS.st (u := U.toNat) (v := Wv.toNat) (by omega) (by omega) hub hg2).g (G2 := fun h => G h + by_ * V0 (x * 43 + y) * zhh gv h u v) (fun h => by
        (try dsimp only)
        rw [hz h, if_pos ⟨by omega, by omega⟩, Int.toNat_of_nonneg (show 0 ≤ U by omega), Int.toNat_of_nonneg (show 0 ≤ Wv by omega)]))
      exact hK
set_option maxRecDepth 100000 in
set_option maxHeartbeats 4000000 in
theorem lp_steps2 {Γ : zG} {l0 : Launch} {X : zX} {m bh rt x y Ua Ub : Nat} {p q b b2 gv : Int} {bk : Nat → Int → Int} {V0 : Nat → Int} {ω0 : zWd} (C : Zc Γ l0 X rmX7_steps 14 cX7_steps RX7) (hM0 : ω0.1 m = some (zOb 7 (zMf m bh rt 72))) (hxy : x < 43 ∧ y < 43) (hub : Ua < 43 ∧ Ub < 43) (hwB : 0 ≤ V0 (x * 43 + y) ∧ V0 (x * 43 + y) ≤ 1000 ^ 20) (hPt0 : zMx X ω0 (m + 1) 8 21 bk) (hb : 0 ≤ b ∧ b < 8) (hb2 : 0 ≤ b2 ∧ b2 < 8) (hf : zBk (bk b.toNat)) (hg : zBk (bk b2.toNat)) (hpq : (0 ≤ p ∧ p ≤ 6) ∧ (0 ≤ q ∧ q ≤ 6)) (hgv : gv = 0 ∨ gv = 1) (hux : (x : Int) + p ≤ Ua ∧ (y : Int) + q ≤ Ub) (hB : zPs V0 (fun _ _ => 1) ≤ 1000 ^ 20) {s : Nat} (hs : s < 21) (K : ∀ (ω : zWd) (V : Nat → Int) (o11 o12 o13 : Option Value), zTs X ω0 ω m V0 V Ua Ub (fun h => V0 (x * 43 + y) * zQs (bk b.toNat) (bk b2.toNat) p q gv x y (s + 1) 0 h) → Zw Γ ω 0 0 180 [some (.ref m), some (.int (zI (x : Int))), some (.int (zI (y : Int))), some (.int (zI p)), some (.int (zI q)), some (.int (zI b)), some (.int (zI b2)), some (.int (zI gv)), some (.ref (m + 2446 + (x * 43 + y))), some (.int (zI (s : Int))), some (.int (zI 21)), o11, o12, o13] []) : ∀ (j r : Nat) (ω : zWd) (V : Nat → Int) (o11 o12 o13 : Option Value), r + j = 21 → zTs X ω0 ω m V0 V Ua Ub (fun h => V0 (x * 43 + y) * zQs (bk b.toNat) (bk b2.toNat) p q gv x y s r h) → Zw Γ ω 0 0 32 [some (.ref m), some (.int (zI (x : Int))), some (.int (zI (y : Int))), some (.int (zI p)), some (.int (zI q)), some (.int (zI b)), some (.int (zI b2)), some (.int (zI gv)), some (.ref (m + 2446 + (x * 43 + y))), some (.int (zI (s : Int))), some (.int (zI (r : Int))), o11, o12, o13] [] := by
  intro j
  induction j with
  | zero =>
    intro r ω V o11 o12 o13 hj hS
    have e1 : r = 21 := by omega
    subst e1
    have hK := K ω V o11 o12 o13 (hS.g (fun h => by (try dsimp only); rw [zQs_s]))
    refine z_iload (i := 10) (pc := 32) C rfl dX7_steps_32 ?_
    refine z_bipush (pc := 34) C (by decide +kernel) dX7_steps_34 ?_
    refine z_icmp_ge (tgt := 180) (pc := 36) C dX7_steps_36 (by decide) (fun h36 => ?_) (fun h36 => absurd h36 (by omega))
    exact hK
  | succ j ih =>
    intro r ω V o11 o12 o13 hj hS
    have hM := (hS.1.1 m (by omega)).trans hM0
    have hPt := hPt0.kp (ω2 := ω) (fun b h1 h2 => hS.1.1 b (by omega))
    have hfs := hf s (by omega) (by omega)
    have hgr := hg r (by omega) (by omega)
    have hby0 : 0 ≤ (bk b.toNat) s * (bk b2.toNat) r := Int.mul_nonneg hfs.1 hgr.1
    have hby1 : (bk b.toNat) s * (bk b2.toNat) r ≤ 1000 * 1000 := Int.mul_le_mul hfs.2 hgr.2 hgr.1 (by decide)
    have hqb := zQs_b (p := p) (q := q) (gv := gv) (x := x) (y := y) (s := s) (r := r) hf hg (by omega) (by omega)
    have hGb : zPs V0 (fun _ _ => 1) + V0 (x * 43 + y) * zQs (bk b.toNat) (bk b2.toNat) p q gv x y s r (fun _ _ => 1) ≤ 1000 ^ 30 := by
      have h1 : V0 (x * 43 + y) * zQs (bk b.toNat) (bk b2.toNat) p q gv x y s r (fun _ _ => 1) ≤ 1000 ^ 20 * 1000000000 := Int.mul_le_mul hwB.2 hqb.2 hqb.1 (by decide)
      have h2 : (1000 : Int) ^ 20 + 1000 ^ 20 * 1000000000 ≤ 1000 ^ 30 := by decide
      omega
    have next : ∀ (ω : zWd) (V : Nat → Int) (o11 o12 o13 : Option Value), zTs X ω0 ω m V0 V Ua Ub (fun h => V0 (x * 43 + y) * zQs (bk b.toNat) (bk b2.toNat) p q gv x y s (r + 1) h) → Zw Γ ω 0 0 174 [some (.ref m), some (.int (zI (x : Int))), some (.int (zI (y : Int))), some (.int (zI p)), some (.int (zI q)), some (.int (zI b)), some (.int (zI b2)), some (.int (zI gv)), some (.ref (m + 2446 + (x * 43 + y))), some (.int (zI (s : Int))), some (.int (zI (r : Int))), o11, o12, o13] [] := by
      intro ω V o11 o12 o13 hS
      have hgo := ih (r + 1) ω V o11 o12 o13 (by omega) hS
      refine z_iinc (i := 10) (lv' := [_, _, _, _, _, _, _, _, _, _, _, _, _, _]) (pc := 174) C rfl (by decide) rfl rfl dX7_steps_174 ?_
      refine z_goto (tgt := 32) (pc := 177) C dX7_steps_177 (by decide) ?_
      exact hgo
    have leaf : ¬ (bk b.toNat) s * (bk b2.toNat) r = 0 → ∀ U Wv : Int, ((-100 ≤ U ∧ U ≤ 100) ∧ (-100 ≤ Wv ∧ Wv ≤ 100)) → (∀ h, zhh gv h ((x : Int) + p - s) ((y : Int) + q - r) = if 0 ≤ U ∧ 0 ≤ Wv then h U Wv else 0) → (0 ≤ U → 0 ≤ Wv → U ≤ Ua ∧ Wv ≤ Ub) → Zw Γ ω 0 0 146 [some (.ref m), some (.int (zI (x : Int))), some (.int (zI (y : Int))), some (.int (zI p)), some (.int (zI q)), some (.int (zI b)), some (.int (zI b2)), some (.int (zI gv)), some (.ref (m + 2446 + (x * 43 + y))), some (.int (zI (s : Int))), some (.int (zI (r : Int))), some (.int (zI ((bk b.toNat) s * (bk b2.toNat) r))), some (.int (zI U)), some (.int (zI Wv))] [] := fun hne U Wv hr hz hUV => lp_steps146 (b := b) (b2 := b2) (u := (x : Int) + p - s) (v := (y : Int) + q - r) C hM0 hxy hub hwB hGb hS (by omega) hr hz hUV (fun ω V h => next ω V _ _ _ (h.g (fun h => by (try dsimp only); rw [zQs_r, Int.mul_add, ← Int.mul_assoc, Int.mul_comm (V0 (x * 43 + y)) ((bk b.toNat) s * (bk b2.toNat) r)])))
    refine z_iload (i := 10) (pc := 32) C rfl dX7_steps_32 ?_
    refine z_bipush (pc := 34) C (by decide +kernel) dX7_steps_34 ?_
    refine z_icmp_ge (tgt := 180) (pc := 36) C dX7_steps_36 (by decide) (fun h36 => absurd h36 (by omega)) (fun h36 => ?_)
    refine z_aload_n (i := 0) (pc := 39) C rfl rfl dX7_steps_39 ?_
    refine g_X7_11 (pc := 40) C hM rfl dX7_steps_40 ?_
    refine z_iload (i := 5) (pc := 43) C rfl dX7_steps_43 ?_
    refine z_aaload (pc := 45) C hPt.1 rfl dX7_steps_45 ?_
    refine z_iload (i := 9) (pc := 46) C rfl dX7_steps_46 ?_
    refine z_iaload (pc := 48) C (hPt.2 b.toNat (by omega)) dX7_steps_48 ?_
    refine z_aload_n (i := 0) (pc := 49) C rfl rfl dX7_steps_49 ?_
    refine g_X7_11 (pc := 50) C hM rfl dX7_steps_50 ?_
    refine z_iload (i := 6) (pc := 53) C rfl dX7_steps_53 ?_
    refine z_aaload (pc := 55) C hPt.1 rfl dX7_steps_55 ?_
    refine z_iload (i := 10) (pc := 56) C rfl dX7_steps_56 ?_
    refine z_iaload (pc := 58) C (hPt.2 b2.toNat (by omega)) dX7_steps_58 ?_
    refine z_imul (pc := 59) C dX7_steps_59 ?_
    refine z_istore (i := 11) (lv' := [_, _, _, _, _, _, _, _, _, _, _, _, _, _]) (pc := 60) C (by decide) rfl rfl dX7_steps_60 ?_
    refine z_iload (i := 11) (pc := 62) C rfl dX7_steps_62 ?_
    refine z_if_ne (tgt := 70) (pc := 64) C dX7_steps_64 (by decide) (fun h64 => ?_) (fun h64 => ?_)
    · refine z_iload_n (i := 1) (pc := 70) C rfl rfl dX7_steps_70 ?_
      refine z_iload_n (i := 3) (pc := 71) C rfl rfl dX7_steps_71 ?_
      refine z_iadd (pc := 72) C dX7_steps_72 ?_
      refine z_iload (i := 9) (pc := 73) C rfl dX7_steps_73 ?_
      refine z_isub (pc := 75) C dX7_steps_75 ?_
      refine z_istore (i := 12) (lv' := [_, _, _, _, _, _, _, _, _, _, _, _, _, _]) (pc := 76) C (by decide) rfl rfl dX7_steps_76 ?_
      refine z_iload_n (i := 2) (pc := 78) C rfl rfl dX7_steps_78 ?_
      refine z_iload (i := 4) (pc := 79) C rfl dX7_steps_79 ?_
      refine z_iadd (pc := 81) C dX7_steps_81 ?_
      refine z_iload (i := 10) (pc := 82) C rfl dX7_steps_82 ?_
      refine z_isub (pc := 84) C dX7_steps_84 ?_
      refine z_istore (i := 13) (lv' := [_, _, _, _, _, _, _, _, _, _, _, _, _, _]) (pc := 85) C (by decide) rfl rfl dX7_steps_85 ?_
      refine z_iload (i := 7) (pc := 87) C rfl dX7_steps_87 ?_
      refine z_if_eq (tgt := 118) (pc := 89) C dX7_steps_89 (by decide) (fun h89 => ?_) (fun h89 => ?_)
      · refine z_iload (i := 7) (pc := 118) C rfl dX7_steps_118 ?_
        refine z_if_eq (tgt := 146) (pc := 120) C dX7_steps_120 (by decide) (fun h120 => ?_) (fun h120 => ?_)
        · exact leaf h64 _ _ (by omega) (fun h => zhh_n (by omega) (by omega)) (by omega)
        · refine z_iload (i := 13) (pc := 123) C rfl dX7_steps_123 ?_
          refine z_if_ge (tgt := 146) (pc := 125) C dX7_steps_125 (by decide) (fun h125 => ?_) (fun h125 => ?_)
          · exact leaf h64 _ _ (by omega) (fun h => zhh_n (by omega) (by omega)) (by omega)
          · refine z_iload (i := 12) (pc := 128) C rfl dX7_steps_128 ?_
            refine z_iload (i := 13) (pc := 130) C rfl dX7_steps_130 ?_
            refine z_ineg (pc := 132) C dX7_steps_132 ?_
            refine z_icmp_lt (tgt := 146) (pc := 133) C dX7_steps_133 (by decide) (fun h133 => ?_) (fun h133 => ?_)
            · exact leaf h64 _ _ (by omega) (fun h => zhh_n (by omega) (by omega)) (by omega)
            · refine z_iload (i := 12) (pc := 136) C rfl dX7_steps_136 ?_
              refine z_iload (i := 13) (pc := 138) C rfl dX7_steps_138 ?_
              refine z_iadd (pc := 140) C dX7_steps_140 ?_
              refine z_istore (i := 12) (lv' := [_, _, _, _, _, _, _, _, _, _, _, _, _, _]) (pc := 141) C (by decide) rfl rfl dX7_steps_141 ?_
              refine z_iconst (pc := 143) C dX7_steps_143 ?_
              refine z_istore (i := 13) (lv' := [_, _, _, _, _, _, _, _, _, _, _, _, _, _]) (pc := 144) C (by decide) rfl rfl dX7_steps_144 ?_
              exact leaf h64 _ _ (by omega) (fun h => zhh_b (by omega) (by omega)) (by omega)
      · refine z_iload (i := 12) (pc := 92) C rfl dX7_steps_92 ?_
        refine z_if_ge (tgt := 118) (pc := 94) C dX7_steps_94 (by decide) (fun h94 => ?_) (fun h94 => ?_)
        · refine z_iload (i := 7) (pc := 118) C rfl dX7_steps_118 ?_
          refine z_if_eq (tgt := 146) (pc := 120) C dX7_steps_120 (by decide) (fun h120 => ?_) (fun h120 => ?_)
          · exact leaf h64 _ _ (by omega) (fun h => zhh_n (by omega) (by omega)) (by omega)
          · refine z_iload (i := 13) (pc := 123) C rfl dX7_steps_123 ?_
            refine z_if_ge (tgt := 146) (pc := 125) C dX7_steps_125 (by decide) (fun h125 => ?_) (fun h125 => ?_)
            · exact leaf h64 _ _ (by omega) (fun h => zhh_n (by omega) (by omega)) (by omega)
            · refine z_iload (i := 12) (pc := 128) C rfl dX7_steps_128 ?_
              refine z_iload (i := 13) (pc := 130) C rfl dX7_steps_130 ?_
              refine z_ineg (pc := 132) C dX7_steps_132 ?_
              refine z_icmp_lt (tgt := 146) (pc := 133) C dX7_steps_133 (by decide) (fun h133 => ?_) (fun h133 => ?_)
              · exact leaf h64 _ _ (by omega) (fun h => zhh_n (by omega) (by omega)) (by omega)
              · refine z_iload (i := 12) (pc := 136) C rfl dX7_steps_136 ?_
                refine z_iload (i := 13) (pc := 138) C rfl dX7_steps_138 ?_
                refine z_iadd (pc := 140) C dX7_steps_140 ?_
                refine z_istore (i := 12) (lv' := [_, _, _, _, _, _, _, _, _, _, _, _, _, _]) (pc := 141) C (by decide) rfl rfl dX7_steps_141 ?_
                refine z_iconst (pc := 143) C dX7_steps_143 ?_
                refine z_istore (i := 13) (lv' := [_, _, _, _, _, _, _, _, _, _, _, _, _, _]) (pc := 144) C (by decide) rfl rfl dX7_steps_144 ?_
                exact leaf h64 _ _ (by omega) (fun h => zhh_b (by omega) (by omega)) (by omega)
        · refine z_iload (i := 13) (pc := 97) C rfl dX7_steps_97 ?_
          refine z_iload (i := 12) (pc := 99) C rfl dX7_steps_99 ?_
          refine z_ineg (pc := 101) C dX7_steps_101 ?_
          refine z_icmp_lt (tgt := 118) (pc := 102) C dX7_steps_102 (by decide) (fun h102 => ?_) (fun h102 => ?_)
          · refine z_iload (i := 7) (pc := 118) C rfl dX7_steps_118 ?_
            refine z_if_eq (tgt := 146) (pc := 120) C dX7_steps_120 (by decide) (fun h120 => ?_) (fun h120 => ?_)
            · exact leaf h64 _ _ (by omega) (fun h => zhh_n (by omega) (by omega)) (by omega)
            · refine z_iload (i := 13) (pc := 123) C rfl dX7_steps_123 ?_
              refine z_if_ge (tgt := 146) (pc := 125) C dX7_steps_125 (by decide) (fun h125 => ?_) (fun h125 => ?_)
              · exact leaf h64 _ _ (by omega) (fun h => zhh_n (by omega) (by omega)) (by omega)
              · refine z_iload (i := 12) (pc := 128) C rfl dX7_steps_128 ?_
                refine z_iload (i := 13) (pc := 130) C rfl dX7_steps_130 ?_
                refine z_ineg (pc := 132) C dX7_steps_132 ?_
                refine z_icmp_lt (tgt := 146) (pc := 133) C dX7_steps_133 (by decide) (fun h133 => ?_) (fun h133 => ?_)
                · exact leaf h64 _ _ (by omega) (fun h => zhh_n (by omega) (by omega)) (by omega)
                · refine z_iload (i := 12) (pc := 136) C rfl dX7_steps_136 ?_
                  refine z_iload (i := 13) (pc := 138) C rfl dX7_steps_138 ?_
                  refine z_iadd (pc := 140) C dX7_steps_140 ?_
                  refine z_istore (i := 12) (lv' := [_, _, _, _, _, _, _, _, _, _, _, _, _, _]) (pc := 141) C (by decide) rfl rfl dX7_steps_141 ?_
                  refine z_iconst (pc := 143) C dX7_steps_143 ?_
                  refine z_istore (i := 13) (lv' := [_, _, _, _, _, _, _, _, _, _, _, _, _, _]) (pc := 144) C (by decide) rfl rfl dX7_steps_144 ?_
                  exact leaf h64 _ _ (by omega) (fun h => zhh_b (by omega) (by omega)) (by omega)
          · refine z_iload (i := 13) (pc := 105) C rfl dX7_steps_105 ?_
            refine z_iload (i := 12) (pc := 107) C rfl dX7_steps_107 ?_
            refine z_iadd (pc := 109) C dX7_steps_109 ?_
            refine z_istore (i := 13) (lv' := [_, _, _, _, _, _, _, _, _, _, _, _, _, _]) (pc := 110) C (by decide) rfl rfl dX7_steps_110 ?_
            refine z_iconst (pc := 112) C dX7_steps_112 ?_
            refine z_istore (i := 12) (lv' := [_, _, _, _, _, _, _, _, _, _, _, _, _, _]) (pc := 113) C (by decide) rfl rfl dX7_steps_113 ?_
            refine z_goto (tgt := 146) (pc := 115) C dX7_steps_115 (by decide) ?_
            exact leaf h64 _ _ (by omega) (fun h => zhh_a (by omega)) (by omega)
    · refine z_goto (tgt := 174) (pc := 67) C dX7_steps_67 (by decide) ?_
      exact next ω V _ _ _ (hS.g (fun h => by (try dsimp only); rw [zQs_r, h64, Int.zero_mul, Int.add_zero]))
set_option maxRecDepth 100000 in
set_option maxHeartbeats 4000000 in
theorem lp_steps1 {Γ : zG} {l0 : Launch} {X : zX} {m bh rt x y Ua Ub : Nat} {p q b b2 gv : Int} {bk : Nat → Int → Int} {V0 : Nat → Int} {ω0 : zWd} (C : Zc Γ l0 X rmX7_steps 14 cX7_steps RX7) (hM0 : ω0.1 m = some (zOb 7 (zMf m bh rt 72))) (hxy : x < 43 ∧ y < 43) (hub : Ua < 43 ∧ Ub < 43) (hwB : 0 ≤ V0 (x * 43 + y) ∧ V0 (x * 43 + y) ≤ 1000 ^ 20) (hPt0 : zMx X ω0 (m + 1) 8 21 bk) (hb : 0 ≤ b ∧ b < 8) (hb2 : 0 ≤ b2 ∧ b2 < 8) (hf : zBk (bk b.toNat)) (hg : zBk (bk b2.toNat)) (hpq : (0 ≤ p ∧ p ≤ 6) ∧ (0 ≤ q ∧ q ≤ 6)) (hgv : gv = 0 ∨ gv = 1) (hux : (x : Int) + p ≤ Ua ∧ (y : Int) + q ≤ Ub) (hB : zPs V0 (fun _ _ => 1) ≤ 1000 ^ 20) (K : ∀ (ω : zWd) (V : Nat → Int) (o10 o11 o12 o13 : Option Value), zTs X ω0 ω m V0 V Ua Ub (fun h => V0 (x * 43 + y) * zQs (bk b.toNat) (bk b2.toNat) p q gv x y 21 0 h) → Zw Γ ω 0 0 186 [some (.ref m), some (.int (zI (x : Int))), some (.int (zI (y : Int))), some (.int (zI p)), some (.int (zI q)), some (.int (zI b)), some (.int (zI b2)), some (.int (zI gv)), some (.ref (m + 2446 + (x * 43 + y))), some (.int (zI 21)), o10, o11, o12, o13] []) : ∀ (j s : Nat) (ω : zWd) (V : Nat → Int) (o10 o11 o12 o13 : Option Value), s + j = 21 → zTs X ω0 ω m V0 V Ua Ub (fun h => V0 (x * 43 + y) * zQs (bk b.toNat) (bk b2.toNat) p q gv x y s 0 h) → Zw Γ ω 0 0 22 [some (.ref m), some (.int (zI (x : Int))), some (.int (zI (y : Int))), some (.int (zI p)), some (.int (zI q)), some (.int (zI b)), some (.int (zI b2)), some (.int (zI gv)), some (.ref (m + 2446 + (x * 43 + y))), some (.int (zI (s : Int))), o10, o11, o12, o13] [] := by
  intro j
  induction j with
  | zero =>
    intro s ω V o10 o11 o12 o13 hj hS
    have e1 : s = 21 := by omega
    subst e1
    have hK := K ω V o10 o11 o12 o13 hS
    refine z_iload (i := 9) (pc := 22) C rfl dX7_steps_22 ?_
    refine z_bipush (pc := 24) C (by decide +kernel) dX7_steps_24 ?_
    refine z_icmp_ge (tgt := 186) (pc := 26) C dX7_steps_26 (by decide) (fun h26 => ?_) (fun h26 => absurd h26 (by omega))
    exact hK
  | succ j ih =>
    intro s ω V o10 o11 o12 o13 hj hS
    refine z_iload (i := 9) (pc := 22) C rfl dX7_steps_22 ?_
    refine z_bipush (pc := 24) C (by decide +kernel) dX7_steps_24 ?_
    refine z_icmp_ge (tgt := 186) (pc := 26) C dX7_steps_26 (by decide) (fun h26 => absurd h26 (by omega)) (fun h26 => ?_)
    refine z_iconst (pc := 29) C dX7_steps_29 ?_
    refine z_istore (i := 10) (lv' := [_, _, _, _, _, _, _, _, _, _, _, _, _, _]) (pc := 30) C (by decide) rfl rfl dX7_steps_30 ?_
    refine lp_steps2 C hM0 hxy hub hwB hPt0 hb hb2 hf hg hpq hgv hux hB (show s < 21 by omega) ?_ 21 0 ω V _ _ _ (by omega) hS
    intro ω2 V2 q11 q12 q13 hS2
    have hgo := ih (s + 1) ω2 V2 (some (.int (zI 21))) q11 q12 q13 (by omega) hS2
    refine z_iinc (i := 9) (lv' := [_, _, _, _, _, _, _, _, _, _, _, _, _, _]) (pc := 180) C rfl (by decide) rfl rfl dX7_steps_180 ?_
    refine z_goto (tgt := 22) (pc := 183) C dX7_steps_183 (by decide) ?_
    exact hgo
set_option maxRecDepth 100000 in
set_option maxHeartbeats 4000000 in
theorem c_X7_steps {l0 : Launch} {X : zX} {m bh rt x y Ua Ub : Nat} {p q b b2 gv : Int} {bk : Nat → Int → Int} {V0 : Nat → Int} {ω : zWd} (hM0 : ω.1 m = some (zOb 7 (zMf m bh rt 72))) (hxy : x < 43 ∧ y < 43) (hub : Ua < 43 ∧ Ub < 43) (hPt0 : zMx X ω (m + 1) 8 21 bk) (hb : 0 ≤ b ∧ b < 8) (hb2 : 0 ≤ b2 ∧ b2 < 8) (hf : zBk (bk b.toNat)) (hg : zBk (bk b2.toNat)) (hpq : (0 ≤ p ∧ p ≤ 6) ∧ (0 ≤ q ∧ q ≤ 6)) (hgv : gv = 0 ∨ gv = 1) (hux : V0 (x * 43 + y) ≠ 0 → (x : Int) + p ≤ Ua ∧ (y : Int) + q ≤ Ub) (hB : zPs V0 (fun _ _ => 1) ≤ 1000 ^ 20) (hw1 : V0 (x * 43 + y) ≤ 1000 ^ 20) (hP : zPr X ω m 3698 3698 V0) (hsu : ∀ u v : Nat, u < 43 → v < 43 → V0 (1849 + (u * 43 + v)) ≠ 0 → u ≤ Ua ∧ v ≤ Ub) : zMet l0 yX7_steps cX7_steps 14 none rmX7_steps X [.ref m, .int (zI (x : Int)), .int (zI (y : Int)), .int (zI p), .int (zI q), .int (zI b), .int (zI b2), .int (zI gv)] ω (zpv (fun w => ∃ V2, zTs X ω w m V0 V2 Ua Ub (fun h => V0 (x * 43 + y) * zGG (bk b.toNat) (bk b2.toNat) p q gv h x y))) := by
  refine zMet.intro (by decide) (Nat.le_of_ble_eq_true rfl) ?_
  intro Γ C E N
  show Zw Γ ω 0 0 0 [some _, some _, some _, some _, some _, some _, some _, some _, none, none, none, none, none, none] []
  obtain ⟨hh, ff, p1, p2, p3, p4, p5, p6⟩ := id hP
  have hwn := (hP.nn (x * 43 + y) (by omega)).1
  have hS0 : zTs X ω ω m V0 V0 Ua Ub (fun h => V0 (x * 43 + y) * zQs (bk b.toNat) (bk b2.toNat) p q gv x y 0 0 h) := ⟨zOut.rf, hP, fun _ _ => rfl, fun h => by (try dsimp only); rw [zQs_0, Int.mul_zero, Int.add_zero], hsu⟩
  have hM := hM0
  refine z_aload_n (i := 0) (pc := 0) C rfl rfl dX7_steps_0 ?_
  refine z_iconst (pc := 1) C dX7_steps_1 ?_
  refine z_iload_n (i := 1) (pc := 2) C rfl rfl dX7_steps_2 ?_
  refine z_iload_n (i := 2) (pc := 3) C rfl rfl dX7_steps_3 ?_
  refine z_callVr (pc := 4) C (d_X7_pair0 hM (by omega) hP (x * 43 + y) (by omega) (by omega)) k_X7_170 zy_X7_pair rfl rfl hM rfl rfl ⟨(Nat.le_of_ble_eq_true rfl), (Nat.le_of_ble_eq_true rfl)⟩ (Nat.le_of_ble_eq_true rfl) dX7_steps_4 ⟨rfl, rfl⟩ ⟨(Nat.le_of_ble_eq_true rfl), (Nat.le_of_ble_eq_true rfl)⟩ (fun rv ω' hp => ?_)
  obtain ⟨hw', hq'⟩ := hp
  rw [hw', hq']
  clear hw' hq'
  refine z_astore (i := 8) (lv' := [_, _, _, _, _, _, _, _, _, _, _, _, _, _]) (pc := 7) C (by decide) rfl rfl dX7_steps_7 ?_
  refine z_aload_n (i := 0) (pc := 9) C rfl rfl dX7_steps_9 ?_
  refine z_aload (i := 8) (pc := 10) C rfl dX7_steps_10 ?_
  refine z_callVi (pc := 12) C (c_X7_isNought (p4 (x * 43 + y) (by omega)) (p6 (x * 43 + y) (by omega))) k_X7_116 zy_X7_isNought rfl rfl hM rfl rfl ⟨(Nat.le_of_ble_eq_true rfl), (Nat.le_of_ble_eq_true rfl)⟩ (Nat.le_of_ble_eq_true rfl) dX7_steps_12 ⟨rfl, rfl⟩ ⟨(Nat.le_of_ble_eq_true rfl), (Nat.le_of_ble_eq_true rfl)⟩ (fun rv ω' hp => ?_)
  obtain ⟨hw', hnz⟩ := hp
  rw [hw']
  clear hw'
  refine z_if_eq (tgt := 19) (pc := 15) C dX7_steps_15 (by decide) (fun h15 => ?_) (fun h15 => ?_)
  · refine z_iconst (pc := 19) C dX7_steps_19 ?_
    refine z_istore (i := 9) (lv' := [_, _, _, _, _, _, _, _, _, _, _, _, _, _]) (pc := 20) C (by decide) rfl rfl dX7_steps_20 ?_
    refine lp_steps1 C hM0 hxy hub ⟨hwn, hw1⟩ hPt0 hb hb2 hf hg hpq hgv (hux (by omega)) hB ?_ 21 0 ω V0 _ _ _ _ (by omega) hS0
    intro ω2 V2 q10 q11 q12 q13 hS2
    exact z_vret (pc := 186) C E dX7_steps_186 ⟨rfl, V2, hS2.g (fun h => by (try dsimp only); rw [zQs_e])⟩
  · exact z_vret (pc := 18) C E dX7_steps_18 ⟨rfl, ⟨V0, hS0.g (fun h => by (try dsimp only); rw [show V0 (x * 43 + y) = 0 by omega, Int.zero_mul, Int.zero_mul])⟩⟩
