/-! NOTHING IS LOST: what stands and what has fallen are together what was there -/
theorem zs_add {f g : Int → Int} : ∀ n : Nat, zs (fun k => f k + g k) n = zs f n + zs g n
  | 0 => rfl
  | n + 1 => by
    show zs (fun k => f k + g k) n + (f n + g n) = (zs f n + f n) + (zs g n + g n)
    rw [zs_add n]
    omega
theorem zs_mulc {f : Int → Int} {c : Int} : ∀ n : Nat, zs (fun k => c * f k) n = c * zs f n
  | 0 => (Int.mul_zero c).symm
  | n + 1 => by
    show zs (fun k => c * f k) n + c * f n = c * (zs f n + f n)
    rw [zs_mulc n, Int.mul_add]
theorem zs_swap {f : Int → Int → Int} (m : Nat) : ∀ n : Nat, zs (fun i => zs (fun j => f i j) m) n = zs (fun j => zs (fun i => f i j) n) m
  | 0 => (zs_n (fun k _ _ => rfl)).symm
  | n + 1 => by
    show zs (fun i => zs (fun j => f i j) m) n + zs (fun j => f n j) m = zs (fun j => zs (fun i => f i j) n + f n j) m
    rw [zs_swap m n, ← zs_add]
theorem zs_sh {A : Int → Int} (c : Nat) : ∀ n : Nat, zs (fun v => A (v + c)) n + zs A c = zs A (n + c)
  | 0 => by simp [zs]
  | n + 1 => by
    have h := zs_sh (A := A) c n
    have e : zs A (n + 1 + c) = zs A (n + c) + A ((n : Int) + c) := by
      rw [show n + 1 + c = (n + c) + 1 by omega]
      show zs A (n + c) + A ((n + c : Nat) : Int) = _
      rw [Int.natCast_add]
    rw [e, ← h]
    show zs (fun v => A (v + c)) n + A ((n : Int) + c) + zs A c = _
    omega
theorem zs_rev {A : Int → Int} (hA : ∀ v : Int, v < 0 → A v = 0) (c : Nat) : ∀ n : Nat, c ≤ n → zs (fun d => A ((c : Int) - 1 - d)) n = zs A c := by
  have key : ∀ n : Nat, n ≤ c → zs (fun d => A ((c : Int) - 1 - d)) n + zs A (c - n) = zs A c := by
    intro n
    induction n with
    | zero => intro _; simp [zs]
    | succ n ih =>
      intro hn
      have h := ih (by omega)
      have e : zs A (c - n) = zs A (c - (n + 1)) + A ((c : Int) - 1 - n) := by
        rw [show c - n = (c - (n + 1)) + 1 by omega]
        show zs A (c - (n + 1)) + A ((c - (n + 1) : Nat) : Int) = _
        rw [show ((c - (n + 1) : Nat) : Int) = (c : Int) - 1 - n by omega]
      rw [e] at h
      show zs (fun d => A ((c : Int) - 1 - d)) n + A ((c : Int) - 1 - n) + _ = _
      omega
  intro n hn
  rw [zs_z (m := c) hn (fun k a b => hA _ (by omega))]
  have := key c (Nat.le_refl _)
  rw [Nat.sub_self] at this
  simpa [zs] using this
/-- for every shift: what is at or above it, and what is below -/
theorem zs_split {A : Int → Int} {K : Nat} (hA : ∀ v : Int, (v < 0 ∨ (K : Int) ≤ v) → A v = 0) (c : Int) (N D : Nat) (hN : (K : Int) ≤ N + c) (hD : c ≤ D) : zs (fun v => A (v + c)) N + zs (fun d => A (c - 1 - d)) D = zs A K := by
  have hneg : ∀ v : Int, v < 0 → A v = 0 := fun v h => hA v (Or.inl h)
  rcases Int.lt_or_le c 0 with h | h
  · have e2 : zs (fun d => A (c - 1 - d)) D = 0 := zs_n (fun k a b => hneg _ (by omega))
    rw [e2, Int.add_zero]
    obtain ⟨e, rfl⟩ : ∃ e : Nat, c = -(e : Int) := ⟨(-c).toNat, by omega⟩
    have h1 := zs_sh (A := fun v => A (v + -(e : Int))) e (N - e)
    rw [show N - e + e = N by omega] at h1
    have e3 : zs (fun v => A (v + -(e : Int))) e = 0 := zs_n (fun k a b => hneg _ (by omega))
    rw [e3, Int.add_zero] at h1
    rw [← h1]
    have e4 : zs (fun v => A (v + (e : Int) + -(e : Int))) (N - e) = zs A (N - e) := zs_c (fun k a b => by rw [show k + (e : Int) + -(e : Int) = k by omega])
    rw [e4]
    exact zs_z (by omega) (fun k a b => hA k (Or.inr (by omega)))
  · obtain ⟨e, rfl⟩ : ∃ e : Nat, c = (e : Int) := ⟨c.toNat, by omega⟩
    rw [zs_rev hneg e D (by omega), zs_sh]
    exact zs_z (by omega) (fun k a b => hA k (Or.inr (by omega)))
theorem zmass1 {wt Av : Int → Int} {p : Int} {K N : Nat} (hp : 0 ≤ p) (hA : ∀ v : Int, (v < 0 ∨ (K : Int) ≤ v) → Av v = 0) (hN : (K : Int) + p ≤ N) : zs (zStp wt p Av) N + zFt wt p Av = zs wt 41 * zs Av K := by
  have e1 : zs (zStp wt p Av) N = zs (fun s => wt s * zs (fun v => Av (v + (s - p))) N) 41 := by
    rw [zs_c (g := fun v => zs (fun s => wt s * Av (v + (s - p))) 41) (fun v a b => by
      unfold zStp
      rw [if_neg (by omega)]
      exact zs_c (fun s _ _ => by rw [show v - p + s = v + (s - p) by omega])), zs_swap 41 N]
    exact zs_c (fun s _ _ => zs_mulc (f := fun v => Av (v + (s - p))) (c := wt s) N)
  have e2 : zFt wt p Av = zs (fun s => wt s * zs (fun d => Av ((s - p) - 1 - d)) 41) 41 := by
    unfold zFt zFal
    rw [zs_swap (f := fun i s => wt s * Av (-(i + 1) - p + s)) 41 41]
    refine zs_c (fun s _ _ => ?_)
    rw [zs_c (g := fun d => wt s * Av ((s - p) - 1 - d)) (fun d _ _ => by rw [show -(d + 1) - p + s = (s - p) - 1 - d by omega])]
    exact zs_mulc (f := fun d => Av ((s - p) - 1 - d)) (c := wt s) 41
  rw [e1, e2, ← zs_add, zs_c (g := fun s => zs Av K * wt s) (fun s a b => by
    rw [← Int.mul_add, zs_split (K := K) hA (s - p) N 41 (by omega) (by omega), Int.mul_comm]), zs_mulc, Int.mul_comm]
theorem zmass {wt Av : Int → Int} {p : Int} {K : Nat} (hp : 0 ≤ p) (hA : ∀ v : Int, (v < 0 ∨ (K : Int) ≤ v) → Av v = 0) : ∀ k : Nat, zs (zIt wt p Av k) (K + p.toNat * k) + zSm wt p (zs wt 41) Av k = zs wt 41 ^ k * zs Av K
  | 0 => by simp [zIt, zSm]
  | k + 1 => by
    have ih := zmass (wt := wt) hp hA k
    have hA0 := zIt_0 (wt := wt) (p := p) (R := (K : Int) - 1) (fun v h => hA v (by omega)) k
    have hpk : p * (k : Int) = ((p.toNat * k : Nat) : Int) := by rw [Int.natCast_mul]; congr 1; omega
    have h1 := zmass1 (wt := wt) (Av := zIt wt p Av k) (p := p) (K := K + p.toNat * k) (N := K + p.toNat * (k + 1)) hp (fun v h => hA0 v (by rw [hpk]; omega)) (by rw [Nat.mul_succ]; omega)
    show zs (zStp wt p (zIt wt p Av k)) _ + (zSm wt p (zs wt 41) Av k * zs wt 41 + zFt wt p (zIt wt p Av k)) = _
    rw [Int.pow_succ]
    generalize zs wt 41 = W at *
    generalize zs (zIt wt p Av k) (K + p.toNat * k) = M at *
    have e : W ^ k * W * zs Av K = W * (W ^ k * zs Av K) := by grind
    rw [e, ← ih, Int.mul_add]
    have e2 : zSm wt p W Av k * W = W * zSm wt p W Av k := Int.mul_comm _ _
    omega
/-- all at one purse -/
theorem zs_delta {w0 : Int} {pu n : Nat} (h : pu < n) : zs (fun v => if v = (pu : Int) then w0 else 0) n = w0 := by
  rw [zs_z (m := pu + 1) (by omega) (fun k a b => if_neg (by omega))]
  show zs _ pu + (if (pu : Int) = (pu : Int) then w0 else 0) = w0
  rw [zs_n (fun k a b => if_neg (by omega)), if_pos rfl, Int.zero_add]
theorem zs_nn {f : Int → Int} {n : Nat} (h : ∀ k : Int, 0 ≤ k → k < n → 0 ≤ f k) : 0 ≤ zs f n := by
  induction n with
  | zero => simp [zs]
  | succ n ih =>
    have h1 := ih (fun k a b => h k a (by omega))
    have h2 := h n (by omega) (by omega)
    show 0 ≤ zs f n + f n
    omega
/-- what has fallen is no more than what was there -/
theorem zSm_le {wt : Int → Int} {p w0 : Int} {pu n : Nat} {c : Nat} (hp : 0 ≤ p) (hw : ∀ s : Int, 0 ≤ s → s < 41 → 0 ≤ wt s) (hs : zs wt 41 = 10 ^ c) (h0 : 0 ≤ w0) (k : Nat) : zSm wt p (10 ^ c) (fun v => if v = (pu : Int) then w0 else 0) k ≤ (10 ^ c) ^ k * w0 := by
  have h := zmass (wt := wt) (p := p) (Av := fun v => if v = (pu : Int) then w0 else 0) (K := pu + 1) hp (fun v hv => if_neg (by omega)) k
  rw [zs_delta (by omega), hs] at h
  have h2 : 0 ≤ zs (zIt wt p (fun v => if v = (pu : Int) then w0 else 0) k) (pu + 1 + p.toNat * k) := zs_nn (fun v _ _ => by
    have key : ∀ (k : Nat) (v : Int), 0 ≤ zIt wt p (fun v => if v = (pu : Int) then w0 else 0) k v := by
      intro k
      induction k with
      | zero => intro v; show 0 ≤ (if v = (pu : Int) then w0 else 0); split <;> omega
      | succ k ih =>
        intro v
        show 0 ≤ zStp wt p _ v
        unfold zStp
        split
        · omega
        · exact zs_nn (fun s a b => Int.mul_nonneg (hw s a (by omega)) (ih _))
    exact key k v)
  omega
