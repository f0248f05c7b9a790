/-- worlds that differ in [lo, hi) alone -/
def zOut (lo hi : Nat) (ω ω2 : zWd) : Prop := (∀ b : Nat, (b < lo ∨ hi ≤ b) → ω2.1 b = ω.1 b) ∧ ω2.2 = ω.2
theorem zOut.rf {lo hi : Nat} {ω : zWd} : zOut lo hi ω ω := ⟨fun _ _ => rfl, rfl⟩
theorem zOut.u {lo hi : Nat} {ω ω2 : zWd} {b : Nat} {x : va_E} (h : zOut lo hi ω ω2) (h1 : lo ≤ b) (h2 : b < hi) : zOut lo hi ω (zU ω2 b x) := ⟨fun c hc => by rw [zU_n (by omega)]; exact h.1 c hc, h.2⟩
theorem zOut.tr {lo hi : Nat} {ω ω2 ω3 : zWd} (h : zOut lo hi ω ω2) (h2 : zOut lo hi ω2 ω3) : zOut lo hi ω ω3 := ⟨fun c hc => by rw [h2.1 c hc, h.1 c hc], h2.2.trans h.2⟩
theorem zOut.w {lo hi lo2 hi2 : Nat} {ω ω2 : zWd} (h : zOut lo hi ω ω2) (h1 : lo2 ≤ lo) (h2 : hi ≤ hi2) : zOut lo2 hi2 ω ω2 := ⟨fun c hc => h.1 c (by omega), h.2⟩
theorem zOut.at {lo hi : Nat} {ω ω2 : zWd} (h : zOut lo hi ω ω2) {b : Nat} {y : Option va_E} (hb : b < lo ∨ hi ≤ b) (t : ω.1 b = y) : ω2.1 b = y := by rw [h.1 b hb]; exact t
/-- the ticks, one after the other -/
def zIt (wt : Int → Int) (p : Int) (Av : Int → Int) : Nat → Int → Int
  | 0 => Av
  | k + 1 => zStp wt p (zIt wt p Av k)
/-- all that falls in a tick -/
def zFt (wt : Int → Int) (p : Int) (Av : Int → Int) : Int := zs (fun i => zFal wt p Av (i + 1)) 41
/-- all that falls within so many ticks -/
def zSm (wt : Int → Int) (p Wh : Int) (Av : Int → Int) : Nat → Int
  | 0 => 0
  | k + 1 => zSm wt p Wh Av k * Wh + zFt wt p (zIt wt p Av k)
theorem zStp_b {wt Av : Int → Int} {p : Int} {n cp : Nat} (hw : ∀ s : Int, 0 ≤ s → s < 41 → 0 ≤ wt s) (hs : zs wt 41 = 10 ^ cp) (hA : ∀ v, 0 ≤ Av v ∧ Av v ≤ 10 ^ n) (v : Int) : 0 ≤ zStp wt p Av v ∧ zStp wt p Av v ≤ 10 ^ (n + cp) := by
  unfold zStp
  split
  · have : (0 : Int) < 10 ^ (n + cp) := zpw (by decide) _
    omega
  · exact zsum_b (φ := fun s => v - p + s) hw hs hA
theorem zs_n {f : Int → Int} {n : Nat} (h : ∀ k : Int, 0 ≤ k → k < n → f k = 0) : zs f n = 0 := by rw [zs_z (m := 0) (by omega) (fun k a b => h k (by omega) b)]; rfl
theorem zStp_0 {wt Av : Int → Int} {p R : Int} (hA0 : ∀ v : Int, (v < 0 ∨ R + 1 ≤ v) → Av v = 0) (v : Int) (hv : v < 0 ∨ R + p + 1 ≤ v) : zStp wt p Av v = 0 := by
  unfold zStp
  split
  · rfl
  · exact zs_n (fun k a b => by rw [hA0 _ (Or.inr (by omega)), Int.mul_zero])
theorem zIt_b {wt Av : Int → Int} {p : Int} {n cp : Nat} (hw : ∀ s : Int, 0 ≤ s → s < 41 → 0 ≤ wt s) (hs : zs wt 41 = 10 ^ cp) (hA : ∀ v, 0 ≤ Av v ∧ Av v ≤ 10 ^ n) : ∀ (k : Nat) (v : Int), 0 ≤ zIt wt p Av k v ∧ zIt wt p Av k v ≤ 10 ^ (n + k * cp)
  | 0, v => by rw [Nat.zero_mul, Nat.add_zero]; exact hA v
  | k + 1, v => by
    have h := zStp_b (p := p) hw hs (zIt_b (p := p) hw hs hA k) v
    rw [show n + (k + 1) * cp = n + k * cp + cp by rw [Nat.succ_mul]; omega]
    exact h
theorem zIt_0 {wt Av : Int → Int} {p R : Int} (hA0 : ∀ v : Int, (v < 0 ∨ R + 1 ≤ v) → Av v = 0) : ∀ (k : Nat) (v : Int), (v < 0 ∨ R + p * k + 1 ≤ v) → zIt wt p Av k v = 0
  | 0, v, hv => hA0 v (by simpa using hv)
  | k + 1, v, hv => by
    have e : p * ((k + 1 : Nat) : Int) = p * k + p := by rw [Int.natCast_succ, Int.mul_add, Int.mul_one]
    exact zStp_0 (R := R + p * k) (zIt_0 hA0 k) v (by omega)
theorem zFal_b {wt Av : Int → Int} {p d : Int} {n cp : Nat} (hw : ∀ s : Int, 0 ≤ s → s < 41 → 0 ≤ wt s) (hs : zs wt 41 = 10 ^ cp) (hA : ∀ v, 0 ≤ Av v ∧ Av v ≤ 10 ^ n) : 0 ≤ zFal wt p Av d ∧ zFal wt p Av d ≤ 10 ^ (n + cp) := zsum_b (φ := fun s => -d - p + s) hw hs hA
theorem zFal_0 {wt Av : Int → Int} {p d T R : Int} (hA0 : ∀ v : Int, (v < 0 ∨ R + 1 ≤ v) → Av v = 0) (hw0 : ∀ s : Int, 0 ≤ s → s < 41 → T < s → wt s = 0) (hd : T - p < d) : zFal wt p Av d = 0 := zs_n (fun s a b => by
  by_cases h : T < s
  · rw [hw0 s a b h, Int.zero_mul]
  · rw [hA0 _ (Or.inl (by omega)), Int.mul_zero])
/-- the falls of a tick up to a depth -/
theorem zFt_d {wt Av : Int → Int} {p T R : Int} {D : Nat} (hA0 : ∀ v : Int, (v < 0 ∨ R + 1 ≤ v) → Av v = 0) (hw0 : ∀ s : Int, 0 ≤ s → s < 41 → T < s → wt s = 0) (hD : T - p ≤ D) (hD2 : D ≤ 41) : zs (fun i => zFal wt p Av (i + 1)) D = zFt wt p Av := (zs_z hD2 (fun k a b => zFal_0 hA0 hw0 (by omega))).symm
theorem zFt_b {wt Av : Int → Int} {p : Int} {n cp : Nat} (hw : ∀ s : Int, 0 ≤ s → s < 41 → 0 ≤ wt s) (hs : zs wt 41 = 10 ^ cp) (hA : ∀ v, 0 ≤ Av v ∧ Av v ≤ 10 ^ n) (D : Nat) : 0 ≤ zs (fun i => zFal wt p Av (i + 1)) D ∧ zs (fun i => zFal wt p Av (i + 1)) D ≤ D * 10 ^ (n + cp) := zs_b (fun k _ _ => zFal_b hw hs hA)
theorem zSm_b {wt Av : Int → Int} {p : Int} {n cp : Nat} (hw : ∀ s : Int, 0 ≤ s → s < 41 → 0 ≤ wt s) (hs : zs wt 41 = 10 ^ cp) (hA : ∀ v, 0 ≤ Av v ∧ Av v ≤ 10 ^ n) : ∀ k : Nat, 0 ≤ zSm wt p (10 ^ cp) Av k ∧ zSm wt p (10 ^ cp) Av k ≤ 41 * k * 10 ^ (n + k * cp)
  | 0 => by simp [zSm]
  | k + 1 => by
    obtain ⟨h1, h2⟩ := zSm_b (p := p) hw hs hA k
    obtain ⟨h3, h4⟩ := zFt_b (p := p) hw hs (zIt_b (p := p) hw hs hA k) 41
    have hc : (0 : Int) < 10 ^ cp := zpw (by decide) _
    have e : (10 : Int) ^ (n + (k + 1) * cp) = 10 ^ (n + k * cp) * 10 ^ cp := by rw [← Int.pow_add]; congr 1; rw [Nat.succ_mul]; omega
    have e2 : (10 : Int) ^ (n + k * cp + cp) = 10 ^ (n + k * cp) * 10 ^ cp := Int.pow_add _ _ _
    have h5 : zSm wt p (10 ^ cp) Av k * 10 ^ cp ≤ 41 * k * 10 ^ (n + k * cp) * 10 ^ cp := Int.mul_le_mul_of_nonneg_right h2 (by omega)
    have h6 : 0 ≤ zSm wt p (10 ^ cp) Av k * 10 ^ cp := Int.mul_nonneg h1 (by omega)
    rw [e2] at h4
    rw [e]
    show 0 ≤ zSm wt p (10 ^ cp) Av k * 10 ^ cp + zFt wt p (zIt wt p Av k) ∧ zSm wt p (10 ^ cp) Av k * 10 ^ cp + zFt wt p (zIt wt p Av k) ≤ _
    have e3 : 41 * ((k + 1 : Nat) : Int) * (10 ^ (n + k * cp) * 10 ^ cp) = 41 * k * 10 ^ (n + k * cp) * 10 ^ cp + 41 * (10 ^ (n + k * cp) * 10 ^ cp) := by
      rw [Int.natCast_succ]
      grind
    rw [e3]
    unfold zFt
    omega
/-- the walk's cells, whatever they hold, but for the claims -/
def zWq (X : zX) (ω : zWd) (a : Nat) (T Wh cp : Int) (wt : Int → Int) : Prop := ∃ (rn rx : Nat) (p l R n un ux : Int) (gf gs gn gx : Int → Int), ω.1 a = some (zOb 5 [.ref (a + 1), .ref (a + 3), .ref (a + 5), .ref rn, .ref rx, .int (zI p), .int (zI l), .int (zI R), .int (zI (n : Int))]) ∧ ((rn = a + 7 ∧ rx = a + 9) ∨ (rn = a + 9 ∧ rx = a + 7)) ∧ ω.1 (a + 1) = some (zOb 1 [.ref (a + 2), .int (zI T), .long (zJ Wh), .int (zI (cp : Int))]) ∧ ω.1 (a + 2) = some (zAJ X 41 wt) ∧ ω.1 (a + 3) = some (zOb 4 [.int (zI ((1 : Nat) : Int)), .int (zI ((11 : Nat) : Int)), .ref (a + 4), .int (zI 1)]) ∧ ω.1 (a + 4) = some (zAJ X (1 * 11) gf) ∧ ω.1 (a + 5) = some (zOb 4 [.int (zI ((1 : Nat) : Int)), .int (zI ((11 : Nat) : Int)), .ref (a + 6), .int (zI 1)]) ∧ ω.1 (a + 6) = some (zAJ X (1 * 11) gs) ∧ ω.1 rn = some (zOb 4 [.int (zI ((256 : Nat) : Int)), .int (zI ((11 : Nat) : Int)), .ref (rn + 1), .int (zI un)]) ∧ ω.1 (rn + 1) = some (zAJ X (256 * 11) gn) ∧ ω.1 rx = some (zOb 4 [.int (zI ((256 : Nat) : Int)), .int (zI ((11 : Nat) : Int)), .ref (rx + 1), .int (zI ux)]) ∧ ω.1 (rx + 1) = some (zAJ X (256 * 11) gx) ∧ (0 ≤ un ∧ un ≤ 256) ∧ (0 ≤ ux ∧ ux ≤ 256)
/-- the walk at work: Av is what each purse holds -/
def zWk (X : zX) (ω : zWd) (a : Nat) (p l R : Int) (n : Nat) (T Wh : Int) (cp : Nat) (wt Av gf gs : Int → Int) : Prop := ∃ (rn rx : Nat) (un ux : Int) (gn gx : Int → Int), ω.1 a = some (zOb 5 [.ref (a + 1), .ref (a + 3), .ref (a + 5), .ref rn, .ref rx, .int (zI p), .int (zI l), .int (zI R), .int (zI (n : Int))]) ∧ ((rn = a + 7 ∧ rx = a + 9) ∨ (rn = a + 9 ∧ rx = a + 7)) ∧ ω.1 (a + 1) = some (zOb 1 [.ref (a + 2), .int (zI T), .long (zJ Wh), .int (zI (cp : Int))]) ∧ ω.1 (a + 2) = some (zAJ X 41 wt) ∧ ω.1 (a + 3) = some (zOb 4 [.int (zI ((1 : Nat) : Int)), .int (zI ((11 : Nat) : Int)), .ref (a + 4), .int (zI 1)]) ∧ ω.1 (a + 4) = some (zAJ X (1 * 11) gf) ∧ ω.1 (a + 5) = some (zOb 4 [.int (zI ((1 : Nat) : Int)), .int (zI ((11 : Nat) : Int)), .ref (a + 6), .int (zI 1)]) ∧ ω.1 (a + 6) = some (zAJ X (1 * 11) gs) ∧ ω.1 rn = some (zOb 4 [.int (zI ((256 : Nat) : Int)), .int (zI ((11 : Nat) : Int)), .ref (rn + 1), .int (zI un)]) ∧ ω.1 (rn + 1) = some (zAJ X (256 * 11) gn) ∧ ω.1 rx = some (zOb 4 [.int (zI ((256 : Nat) : Int)), .int (zI ((11 : Nat) : Int)), .ref (rx + 1), .int (zI ux)]) ∧ ω.1 (rx + 1) = some (zAJ X (256 * 11) gx) ∧ (0 ≤ un ∧ un ≤ 256) ∧ (0 ≤ ux ∧ ux ≤ 256) ∧ zRV gn 11 un Av ∧ zUp gn 11 256 ((n / 12 + 1 : Nat) : Int) ∧ un = max (min (R + 1) (l * (T - p))) 0 ∧ zUp gx 11 256 ((n / 12 + 1 : Nat) : Int) ∧ zUp gf 11 1 (((n + cp) / 12 + 1 : Nat) : Int)
theorem zWk.q {X : zX} {ω : zWd} {a : Nat} {p l R : Int} {n : Nat} {T Wh : Int} {cp : Nat} {wt Av gf gs : Int → Int} (h : zWk X ω a p l R n T Wh cp wt Av gf gs) : zWq X ω a T Wh cp wt := by
  obtain ⟨rn, rx, un, ux, gn, gx, h1, h2, h3, h4, h5, h6, h7, h8, h9, h10, h11, h12, h13, h14, -⟩ := h
  exact ⟨rn, rx, p, l, R, n, un, ux, gf, gs, gn, gx, h1, h2, h3, h4, h5, h6, h7, h8, h9, h10, h11, h12, h13, h14⟩
set_option maxRecDepth 100000 in
set_option maxHeartbeats 4000000 in
theorem d_X5_fall {l0 : Launch} {X : zX} {ω : zWd} {a : Nat} {p l R T Wh : Int} {n cp : Nat} {wt gf gs Av : Int → Int} {d : Int} (hW : zWk X ω a p l R n T Wh cp wt Av gf gs) (hp0 : 0 ≤ p ∧ p ≤ 20) (hl : 0 ≤ l ∧ l ≤ 40) (hR : 0 ≤ R ∧ R ≤ 1000) (hT : 0 ≤ T ∧ T < 41) (hnc2 : n + cp ≤ 120) (hwt : ∀ s : Int, 0 ≤ s → s < 41 → 0 ≤ wt s) (hw0 : ∀ s : Int, 0 ≤ s → s < 41 → T < s → wt s = 0) (hsum : zs wt 41 = 10 ^ cp) (hcp : cp ≤ 6) (hA : ∀ v, 0 ≤ Av v ∧ Av v ≤ 10 ^ n) (hA0 : ∀ v : Int, (v < 0 ∨ R + 1 ≤ v) → Av v = 0) (hd : 1 ≤ d ∧ d ≤ 100) (hl1 : 1 ≤ l) : zMet l0 yX5_fall cX5_fall 2 none rmX5_fall X [.ref a, .int (zI d)] ω (zpv (fun w => ∃ gf2, zOut (a + 4) (a + 5) ω w ∧ zWk X w a p l R n T Wh cp wt Av gf2 gs ∧ zRV gf2 11 1 (fun _ => zFal wt p Av d))) := by
  obtain ⟨rn, rx, un, ux, gn, gx, hw, hN, hq, he, hf, hfc, hs, hsc, hn, hnc, hx, hxc, hu, hux, hV, hUn, hU, hUx, hUf⟩ := hW
  refine zMet.imp (c_X5_fall hw hN hq he hf hfc hn hnc hp0 hl hR hT hnc2 hwt hw0 hsum hcp hA hA0 hV hUn hU hu hUf hd hl1) ?_
  rintro v w ⟨rfl, gf2, rfl, h1, h2⟩
  refine ⟨rfl, gf2, zOut.rf.u (by omega) (by omega), ⟨rn, rx, un, ux, gn, gx, zU_n' (by omega) hw, hN, zU_n' (by omega) hq, zU_n' (by omega) he, zU_n' (by omega) hf, zU_s _ _ _, zU_n' (by omega) hs, zU_n' (by omega) hsc, zU_n' (by omega) hn, zU_n' (by omega) hnc, zU_n' (by omega) hx, zU_n' (by omega) hxc, hu, hux, hV, hUn, hU, hUx, h1⟩, h2⟩
set_option maxRecDepth 100000 in
set_option maxHeartbeats 4000000 in
theorem d_X5_tick {l0 : Launch} {X : zX} {ω : zWd} {a : Nat} {p l R T Wh : Int} {n cp : Nat} {wt gf gs Av : Int → Int} (hW : zWk X ω a p l R n T Wh cp wt Av gf gs) (hp0 : 0 ≤ p ∧ p ≤ 20) (hl : 0 ≤ l ∧ l ≤ 40) (hR : 0 ≤ R ∧ R ≤ 1000) (hT : 0 ≤ T ∧ T < 41) (hnc2 : n + cp ≤ 120) (hwt : ∀ s : Int, 0 ≤ s → s < 41 → 0 ≤ wt s) (hw0 : ∀ s : Int, 0 ≤ s → s < 41 → T < s → wt s = 0) (hsum : zs wt 41 = 10 ^ cp) (hcp : cp ≤ 6) (hA : ∀ v, 0 ≤ Av v ∧ Av v ≤ 10 ^ n) (hA0 : ∀ v : Int, (v < 0 ∨ R + 1 ≤ v) → Av v = 0) (hl1 : 1 ≤ l) (hcap : min (R + p + 1) ((l - 1) * (T - p)) ≤ 256) : zMet l0 yX5_tick cX5_tick 3 none rmX5_tick X [.ref a] ω (zpv (fun w => zOut a (a + 11) ω w ∧ w.1 (a + 4) = ω.1 (a + 4) ∧ zWk X w a p (l - 1) (R + p) (n + cp) T Wh cp wt (zStp wt p Av) gf gs)) := by
  obtain ⟨rn, rx, un, ux, gn, gx, hw, hN, hq, he, hf, hfc, hs, hsc, hn, hnc, hx, hxc, hu, hux, hV, hUn, hU, hUx, hUf⟩ := hW
  refine zMet.imp (c_X5_tick hw hN hq he hn hnc hx hxc hp0 hl hR hT hnc2 hwt hw0 hsum hcp hA hA0 hV hUn hU hu hUx hux hl1 hcap) ?_
  rintro v w ⟨rfl, gx2, u2, rfl, h1, h2, h3, h4⟩
  have hm1 : n / 12 ≤ (n + cp) / 12 := Nat.div_le_div_right (Nat.le_add_right n cp)
  have hm2 : (n + cp) / 12 ≤ (n + cp + cp) / 12 := Nat.div_le_div_right (Nat.le_add_right _ cp)
  refine ⟨rfl, ((zOut.rf.u (by omega) (by omega)).u (by omega) (by omega)).u (by omega) (by omega), by rw [zU_n (by omega), zU_n (by omega), zU_n (by omega)], rx, rn, u2, un, gx2, gn, zU_s _ _ _, by omega, zU_n' (by omega) (zU_n' (by omega) (zU_n' (by omega) hq)), zU_n' (by omega) (zU_n' (by omega) (zU_n' (by omega) he)), zU_n' (by omega) (zU_n' (by omega) (zU_n' (by omega) hf)), zU_n' (by omega) (zU_n' (by omega) (zU_n' (by omega) hfc)), zU_n' (by omega) (zU_n' (by omega) (zU_n' (by omega) hs)), zU_n' (by omega) (zU_n' (by omega) (zU_n' (by omega) hsc)), zU_n' (by omega) (zU_n' (by omega) (zU_s _ _ _)), zU_n' (by omega) (zU_s _ _ _), zU_n' (by omega) (zU_n' (by omega) (zU_n' (by omega) hn)), zU_n' (by omega) (zU_n' (by omega) (zU_n' (by omega) hnc)), h2, hu, h3, h4, h1, hUn.mono (by omega), hUf.mono (by omega)⟩
