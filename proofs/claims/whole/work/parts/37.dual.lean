theorem zs_le {f g : Int → Int} : ∀ {n : Nat}, (∀ k : Int, 0 ≤ k → k < n → f k ≤ g k) → zs f n ≤ zs g n
  | 0, _ => by simp [zs]
  | n + 1, h => by
    have h1 := zs_le (f := f) (g := g) (n := n) (fun k a b => h k a (by omega))
    have h2 := h n (by omega) (by omega)
    show zs f n + f n ≤ zs g n + g n
    omega
/-- one tick back: what h is in the mean, behind a tick -/
def zTt (wt : Int → Int) (p : Int) (h : Int → Int) : Int → Int := fun v => if v < 0 then 0 else zs (fun s => wt s * h (v + p - s)) 41
def zB (wt : Int → Int) (p : Int) (h : Int → Int) : Nat → Int → Int
  | 0 => h
  | k + 1 => zTt wt p (zB wt p h k)
theorem zB_s (wt : Int → Int) (p : Int) (h : Int → Int) : ∀ k : Nat, zB wt p (zTt wt p h) k = zB wt p h (k + 1)
  | 0 => rfl
  | k + 1 => by show zTt wt p (zB wt p (zTt wt p h) k) = _; rw [zB_s wt p h k]; rfl
theorem zdual1 {wt A h : Int → Int} {p : Int} {K N : Nat} (hp : 0 ≤ p) (hA : ∀ v : Int, (v < 0 ∨ (K : Int) ≤ v) → A v = 0) (hh : ∀ v : Int, v < 0 → h v = 0) (hN : (K : Int) + p ≤ N) : zs (fun v => zStp wt p A v * h v) N = zs (fun u => A u * zTt wt p h u) K := by
  have e1 : zs (fun v => zStp wt p A v * h v) N = zs (fun v => zs (fun s => wt s * (A (v - p + s) * h v)) 41) N := by
    refine zs_c (fun v v0 v1 => ?_)
    unfold zStp
    rw [if_neg (by omega), Int.mul_comm, ← zs_mulc]
    exact zs_c (fun s _ _ => by (try dsimp only); grind)
  rw [e1, zs_swap 41 N]
  have e2 : zs (fun u => A u * zTt wt p h u) K = zs (fun u => zs (fun s => wt s * (A u * h (u + p - s))) 41) K := by
    refine zs_c (fun u u0 u1 => ?_)
    unfold zTt
    rw [if_neg (by omega), ← zs_mulc]
    exact zs_c (fun s _ _ => by (try dsimp only); grind)
  rw [e2, zs_swap 41 K]
  refine zs_c (fun s s0 s1 => ?_)
  rw [zs_mulc, zs_mulc]
  congr 1
  have q := zs_split (A := fun u => A u * h (u + p - s)) (K := K) (fun v hv => by (try dsimp only); rw [hA v hv, Int.zero_mul]) (s - p) N 41 (by omega) (by omega)
  rw [zs_n (f := fun d => (fun u => A u * h (u + p - s)) (s - p - 1 - d)) (fun d d0 d1 => by (try dsimp only); rw [hh _ (by omega), Int.mul_zero]), Int.add_zero] at q
  rw [← q]
  refine zs_c (fun v v0 v1 => ?_)
  (try dsimp only)
  rw [show v + (s - p) = v - p + s by omega, show v - p + s + p - s = v by omega]
theorem zTt_n {wt h : Int → Int} {p : Int} (v : Int) (hv : v < 0) : zTt wt p h v = 0 := if_pos hv
theorem zdual {wt A : Int → Int} {p : Int} {K : Nat} (hp : 0 ≤ p) (hA : ∀ v : Int, (v < 0 ∨ (K : Int) ≤ v) → A v = 0) : ∀ (k : Nat) (h : Int → Int), (∀ v : Int, v < 0 → h v = 0) → zs (fun v => zIt wt p A k v * h v) (K + p.toNat * k) = zs (fun u => A u * zB wt p h k u) K
  | 0, h, _ => rfl
  | k + 1, h, hh => by
    have hA0 := zIt_0 (wt := wt) (p := p) (R := (K : Int) - 1) (fun v h => hA v (by omega)) k
    have hpk : p * (k : Int) = ((p.toNat * k : Nat) : Int) := by rw [Int.natCast_mul]; congr 1; omega
    have h1 := zdual1 (wt := wt) (A := zIt wt p A k) (h := h) (p := p) (K := K + p.toNat * k) (N := K + p.toNat * (k + 1)) hp (fun v h => hA0 v (by rw [hpk]; omega)) hh (by rw [Nat.mul_succ]; omega)
    show zs (fun v => zStp wt p (zIt wt p A k) v * h v) _ = _
    rw [h1, zdual hp hA k (zTt wt p h) (fun v hv => zTt_n v hv), zB_s]
def z1 : Int → Int := fun v => if v < 0 then 0 else 1
/-- how much of (sum wt)^n stands behind n ticks, from purse v on -/
def zSv (wt : Int → Int) (p : Int) (n : Nat) (v : Int) : Int := zB wt p z1 n v
theorem zsurv {wt : Int → Int} {p w : Int} {pu : Nat} (hp : 0 ≤ p) (n : Nat) : zSm wt p (zs wt 41) (zdl pu w) n = zs wt 41 ^ n * w - w * zSv wt p n pu := by
  have hA : ∀ v : Int, (v < 0 ∨ ((pu + 1 : Nat) : Int) ≤ v) → zdl pu w v = 0 := fun v hv => if_neg (by omega)
  have h1 := zmass (wt := wt) hp hA n
  have h2 := zdual (wt := wt) hp hA n z1 (fun v hv => if_pos hv)
  have e1 : zs (fun v => zIt wt p (zdl pu w) n v * z1 v) (pu + 1 + p.toNat * n) = zs (zIt wt p (zdl pu w) n) (pu + 1 + p.toNat * n) := zs_c (fun v a _ => by unfold z1; rw [if_neg (by omega), Int.mul_one])
  have e2 : zs (fun u => zdl pu w u * zB wt p z1 n u) (pu + 1) = w * zB wt p z1 n pu := by
    rw [← zs_delta (w0 := w * zB wt p z1 n pu) (pu := pu) (n := pu + 1) (by omega)]
    refine zs_c (fun u _ _ => ?_)
    unfold zdl
    by_cases e : u = (pu : Int)
    · rw [if_pos e, if_pos e, e]
    · rw [if_neg e, if_neg e, Int.zero_mul]
  have e3 : zs (zdl pu w) (pu + 1) = w := zs_delta (by omega)
  rw [e1, e2] at h2
  rw [e3, h2] at h1
  unfold zSv
  omega
theorem zSt_v {wt : Int → Int} {p w : Int} {pu cp n : Nat} (hp : 0 ≤ p) (hs : zs wt 41 = 10 ^ cp) : zSt wt p pu cp n w = w * zSv wt p n pu := by
  unfold zSt
  rw [← hs, zsurv hp, Int.mul_comm w]
  omega
theorem zSv_mono {wt : Int → Int} (hw : ∀ s : Int, 0 ≤ s → s < 41 → 0 ≤ wt s) {p q : Int} (hpq : p ≤ q) : ∀ (n : Nat) (v v2 : Int), v ≤ v2 → 0 ≤ zSv wt p n v ∧ zSv wt p n v ≤ zSv wt q n v2
  | 0, v, v2, h => by
    show 0 ≤ z1 v ∧ z1 v ≤ z1 v2
    unfold z1
    split <;> split <;> omega
  | n + 1, v, v2, h => by
    have ih := zSv_mono hw hpq n
    show 0 ≤ zTt wt p (zB wt p z1 n) v ∧ zTt wt p (zB wt p z1 n) v ≤ zTt wt q (zB wt q z1 n) v2
    unfold zTt
    by_cases e : v < 0
    · rw [if_pos e]
      refine ⟨by omega, ?_⟩
      split
      · omega
      · exact zs_nn (fun s a b => Int.mul_nonneg (hw s a b) (Int.le_trans (ih (v2 + q - s) (v2 + q - s) (by omega)).1 (ih _ _ (Int.le_refl _)).2))
    · rw [if_neg e, if_neg (by omega)]
      exact ⟨zs_nn (fun s a b => Int.mul_nonneg (hw s a b) (ih _ _ (Int.le_refl _)).1), zs_le (fun s a b => Int.mul_le_mul_of_nonneg_left (ih _ _ (by omega)).2 (hw s a b))⟩
theorem zSv_top {wt : Int → Int} {T : Int} (hT : T < 21) (hw0 : ∀ s : Int, 0 ≤ s → s < 41 → T < s → wt s = 0) : ∀ (n : Nat) (v : Int), 0 ≤ v → zSv wt 20 n v = zs wt 41 ^ n
  | 0, v, h => by
    show z1 v = _
    unfold z1
    rw [if_neg (by omega), Int.pow_zero]
  | n + 1, v, h => by
    show zTt wt 20 (zB wt 20 z1 n) v = _
    unfold zTt
    rw [if_neg (by omega), Int.pow_succ, ← zs_mulc]
    refine zs_c (fun s s0 s1 => ?_)
    by_cases e : T < s
    · rw [hw0 s s0 (by omega) e, Int.zero_mul, Int.mul_zero]
    · have ih := zSv_top hT hw0 n (v + 20 - s) (by omega)
      unfold zSv at ih
      rw [ih, Int.mul_comm]
