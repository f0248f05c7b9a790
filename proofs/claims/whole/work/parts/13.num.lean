/-! NUMBERS IN LIMBS: zv B f n is f 0 + f 1 B + .. + f (n - 1) B^(n - 1) -/
def zv (B : Int) (f : Int → Int) : Nat → Int
  | 0 => 0
  | n + 1 => zv B f n + f (n : Int) * B ^ n
theorem zv_s (B : Int) (f : Int → Int) (n : Nat) : zv B f (n + 1) = zv B f n + f (n : Int) * B ^ n := rfl
theorem zv_c {B : Int} {f g : Int → Int} : ∀ {n : Nat}, (∀ k : Int, 0 ≤ k → k < n → f k = g k) → zv B f n = zv B g n
  | 0, _ => rfl
  | n + 1, h => by
    rw [zv_s, zv_s, zv_c (n := n) (fun k a b => h k a (by omega)), h n (by omega) (by omega)]
theorem zpw {B : Int} (hB : 0 < B) (n : Nat) : 0 < B ^ n := Int.pow_pos hB
theorem zv_b {B : Int} {f : Int → Int} (hB : 0 < B) : ∀ {n : Nat}, (∀ k : Int, 0 ≤ k → k < n → 0 ≤ f k ∧ f k < B) → 0 ≤ zv B f n ∧ zv B f n < B ^ n
  | 0, _ => by simp [zv]
  | n + 1, h => by
    have h1 := zv_b hB (n := n) (fun k a b => h k a (by omega))
    have h2 := h n (by omega) (by omega)
    have h3 := zpw hB n
    have h4 : 0 ≤ f n * B ^ n := Int.mul_nonneg h2.1 (by omega)
    have h5 : (f n + 1) * B ^ n ≤ B * B ^ n := Int.mul_le_mul_of_nonneg_right (by omega) (by omega)
    have h6 : (f n + 1) * B ^ n = f n * B ^ n + B ^ n := by rw [Int.add_mul, Int.one_mul]
    have h7 : B ^ (n + 1) = B * B ^ n := by rw [Int.pow_succ, Int.mul_comm]
    rw [zv_s, h7]
    omega
theorem zv_0 {B : Int} {f : Int → Int} : ∀ {n : Nat}, (∀ k : Int, 0 ≤ k → k < n → f k = 0) → zv B f n = 0
  | 0, _ => rfl
  | n + 1, h => by
    rw [zv_s, zv_0 (n := n) (fun k a b => h k a (by omega)), h n (by omega) (by omega)]
    omega
theorem zv_z {B : Int} {f : Int → Int} {m : Nat} : ∀ {n : Nat}, m ≤ n → (∀ k : Int, (m : Int) ≤ k → k < n → f k = 0) → zv B f n = zv B f m
  | 0, h, _ => by rw [show m = 0 by omega]
  | n + 1, h, hz => by
    by_cases e : m = n + 1
    · rw [e]
    · rw [zv_s, zv_z (n := n) (by omega) (fun k a b => hz k a (by omega)), hz n (by omega) (by omega)]
      omega
theorem zv_1 {B : Int} {f : Int → Int} {n : Nat} (hn : 0 < n) (h : ∀ k : Int, 1 ≤ k → k < n → f k = 0) : zv B f n = f 0 := by
  rw [zv_z (m := 1) (by omega) (fun k a b => h k (by omega) b)]
  simp [zv]
/-- who is greater in the highest limb in which they differ is greater -/
theorem zv_lt {B : Int} {f g : Int → Int} (hB : 0 < B) {n i : Nat} (hi : i < n) (hf : ∀ k : Int, 0 ≤ k → k < n → 0 ≤ f k ∧ f k < B) (hg : ∀ k : Int, 0 ≤ k → k < n → 0 ≤ g k ∧ g k < B) (he : ∀ k : Int, (i : Int) < k → k < n → f k = g k) (h : f i < g i) : zv B f n < zv B g n := by
  have key : ∀ m : Nat, i + 1 ≤ m → m ≤ n → zv B f m < zv B g m := by
    intro m
    induction m with
    | zero => intro a b; omega
    | succ m ih =>
      intro a b
      rw [zv_s, zv_s]
      by_cases e : m = i
      · subst e
        have h1 := zv_b hB (f := f) (n := m) (fun k a b => hf k a (by omega))
        have h2 := zv_b hB (f := g) (n := m) (fun k a b => hg k a (by omega))
        have h3 := zpw hB m
        have h4 : (f m + 1) * B ^ m ≤ g m * B ^ m := Int.mul_le_mul_of_nonneg_right (by omega) (by omega)
        rw [Int.add_mul, Int.one_mul] at h4
        omega
      · rw [he m (by omega) (by omega)]
        have := ih (by omega) (by omega)
        omega
  exact key n (by omega) (by omega)
/-- a limb of the number -/
theorem zv_at {B : Int} {f : Int → Int} (hB : 0 < B) : ∀ {n i : Nat}, i < n → (∀ k : Int, 0 ≤ k → k < n → 0 ≤ f k ∧ f k < B) → zv B f n / B ^ i % B = f i
  | 0, i, h, _ => by omega
  | n + 1, i, h, hf => by
    have hp := zpw hB i
    rw [zv_s]
    by_cases e : i = n
    · subst e
      have h1 := zv_b hB (f := f) (n := i) (fun k a b => hf k a (by omega))
      have h2 := hf i (by omega) (by omega)
      rw [Int.add_mul_ediv_right _ _ (by omega), Int.ediv_eq_zero_of_lt h1.1 h1.2, Int.zero_add, Int.emod_eq_of_lt h2.1 h2.2]
    · have ih := zv_at hB (n := n) (i := i) (by omega) (fun k a b => hf k a (by omega))
      have e1 : B ^ n = B ^ (n - i - 1) * B * B ^ i := by
        rw [← Int.pow_succ, ← Int.pow_add]
        congr 1
        omega
      rw [e1, ← Int.mul_assoc, Int.add_mul_ediv_right _ _ (by omega), ← Int.mul_assoc, Int.add_mul_emod_self_right]
      exact ih
/-- one step of carrying -/
theorem zcarry {z' z c c' p x L q pl lo : Int} (h1 : z' + c * p = z * q + pl) (h2 : lo + L * c' = c + x * q) : (z' + lo * p) + c' * (p * L) = (z + x * p) * q + pl := by
  grind
theorem zcarry2 {z' z zo c c' p x y L q v lo : Int} (h1 : z' + c * p = z * q + zo * v) (h2 : lo + L * c' = c + (x * q + y * v)) : (z' + lo * p) + c' * (p * L) = (z + x * p) * q + (zo + y * p) * v := by
  grind
theorem zcarry3 {z' z c c' p x L lo : Int} (h1 : z' + c * p = z) (h2 : lo + L * c' = c + x) : (z' + lo * p) + c' * (p * L) = z + x * p := by
  grind
/-- the last carry falls away -/
theorem zmodL {z c M v : Int} (h : z + c * M = v) (h0 : 0 ≤ z ∧ z < M) : z = v % M := by
  rw [← h, Int.add_mul_emod_self_right, Int.emod_eq_of_lt h0.1 h0.2]
theorem zv_add {B : Int} {f g h : Int → Int} {c : Int} : ∀ {n : Nat}, (∀ k : Int, 0 ≤ k → k < n → h k = f k + c * g k) → zv B h n = zv B f n + c * zv B g n
  | 0, _ => by simp [zv]
  | n + 1, hh => by
    rw [zv_s, zv_s, zv_s, zv_add (n := n) (fun k a b => hh k a (by omega)), hh n (by omega) (by omega)]
    grind
/-- a place's index lies in its row -/
theorem z_ix {r h w i : Int} (h0 : 0 ≤ r) (h1 : r < h) (i0 : 0 ≤ i) (i1 : i < w) : 0 ≤ r * w + i ∧ r * w + i < h * w := by
  have a : 0 ≤ r * w := Int.mul_nonneg h0 (by omega)
  have b : (r + 1) * w ≤ h * w := Int.mul_le_mul_of_nonneg_right (by omega) (by omega)
  rw [Int.add_mul, Int.one_mul] at b
  omega
/-- two rows lie apart -/
theorem z_ap {r r2 w : Int} (h : r2 ≠ r) (hw : 0 ≤ w) : r2 * w + w ≤ r * w ∨ r * w + w ≤ r2 * w := by
  rcases Int.lt_or_gt_of_ne h with q | q
  · have b : (r2 + 1) * w ≤ r * w := Int.mul_le_mul_of_nonneg_right (by omega) hw
    rw [Int.add_mul, Int.one_mul] at b
    omega
  · have b : (r + 1) * w ≤ r2 * w := Int.mul_le_mul_of_nonneg_right (by omega) hw
    rw [Int.add_mul, Int.one_mul] at b
    omega
