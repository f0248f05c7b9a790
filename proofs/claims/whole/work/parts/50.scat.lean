/-! what the model's ticks strew is what the class gathers -/
theorem zscat {wt A : Int → Int} {p v : Int} {K : Nat} (hA : ∀ u : Int, (u < 0 ∨ (K : Int) ≤ u) → A u = 0) (hw : ∀ s : Int, (s < 0 ∨ 41 ≤ s) → wt s = 0) : zs (fun u => A u * wt (u + p - v)) K = zs (fun s => wt s * A (v - p + s)) 41 := by
  have q := zs_split (A := fun u => A u * wt (u + p - v)) (K := K) (fun u hu => by (try dsimp only); rw [hA u hu, Int.zero_mul]) (v - p) (K + 41 + (p - v).toNat) (v - p).toNat (by omega) (by omega)
  rw [zs_n (f := fun d => (fun u => A u * wt (u + p - v)) (v - p - 1 - d)) (fun d d0 d1 => by (try dsimp only); rw [hw _ (by omega), Int.mul_zero]), Int.add_zero] at q
  rw [← q, zs_z (m := 41) (by omega) (fun s s0 s1 => by (try dsimp only); rw [hw _ (by omega), Int.mul_zero])]
  refine zs_c (fun s s0 s1 => ?_)
  (try dsimp only)
  rw [show s + (v - p) = v - p + s by omega, show v - p + s + p - v = s by omega, Int.mul_comm]
def zwl (f : Int → Int) (s : Int) : Int → Int := fun k => if 0 ≤ k ∧ k < s then f k else 0
theorem zwl_21 (f : Int → Int) : zwl f 21 = zwt f := rfl
theorem zwt_out {f : Int → Int} (s : Int) (h : s < 0 ∨ 41 ≤ s) : zwt f s = 0 := if_neg (by omega)
/-- what has come to v behind u purses and s sizes -/
def zP1 (A f : Int → Int) (p v : Int) (u : Nat) (s : Int) : Int := zs (fun u' => A u' * zwt f (u' + p - v)) u + A u * zwl f s ((u : Int) + p - v)
def zT1 (f : Int → Int) (x : Int) (s : Nat) : Int := zs (fun s' => if x < s' then f s' else 0) s
def zR1 (A f : Int → Int) (p : Int) (u s : Nat) : Int := zs (fun u' => A u' * zT1 f (u' + p) 21) u + A u * zT1 f ((u : Int) + p) s
theorem zwl_s {f : Int → Int} {s k : Int} (h : 0 ≤ s) : zwl f (s + 1) k = zwl f s k + if k = s then f s else 0 := by
  unfold zwl
  by_cases e : k = s
  · rw [if_pos (by omega), if_neg (by omega), if_pos e, e]; omega
  · by_cases q : 0 ≤ k ∧ k < s
    · rw [if_pos q, if_pos (by omega), if_neg e]; omega
    · rw [if_neg q, if_neg (by omega), if_neg e]; omega
theorem zP1_s {A f : Int → Int} {p v : Int} {u : Nat} {s : Int} (h : 0 ≤ s) : zP1 A f p v u (s + 1) = zP1 A f p v u s + if v = (u : Int) + p - s then f s * A u else 0 := by
  unfold zP1
  rw [zwl_s h]
  by_cases e : v = (u : Int) + p - s
  · rw [if_pos (by omega), if_pos e, Int.mul_add, Int.mul_comm (A u) (f s)]; omega
  · rw [if_neg (by omega), if_neg e, Int.add_zero, Int.add_zero]
theorem zP1_0 {A f : Int → Int} {p v : Int} {u : Nat} : zP1 A f p v u 0 = zs (fun u' => A u' * zwt f (u' + p - v)) u := by
  unfold zP1 zwl
  rw [if_neg (by omega), Int.mul_zero, Int.add_zero]
theorem zP1_n {A f : Int → Int} {p v : Int} {u : Nat} : zP1 A f p v u 21 = zP1 A f p v (u + 1) 0 := by
  rw [zP1_0]
  rfl
theorem zP1_z {A f : Int → Int} {p v : Int} {u : Nat} {s : Int} (h : A u = 0) : zP1 A f p v u s = zP1 A f p v (u + 1) 0 := by
  rw [zP1_0]
  show _ = zs (fun u' => A u' * zwt f (u' + p - v)) u + A u * zwt f ((u : Int) + p - v)
  unfold zP1
  rw [h, Int.zero_mul, Int.zero_mul]
theorem zT1_s {f : Int → Int} {x : Int} {s : Nat} : zT1 f x (s + 1) = zT1 f x s + if x < (s : Int) then f s else 0 := rfl
theorem zR1_s {A f : Int → Int} {p : Int} {u s : Nat} : zR1 A f p u (s + 1) = zR1 A f p u s + if (u : Int) + p < s then f s * A u else 0 := by
  unfold zR1
  rw [zT1_s]
  by_cases e : (u : Int) + p < s
  · rw [if_pos e, if_pos e, Int.mul_add, Int.mul_comm (A u) (f s)]; omega
  · rw [if_neg e, if_neg e, Int.add_zero, Int.add_zero]
theorem zR1_0 {A f : Int → Int} {p : Int} {u : Nat} : zR1 A f p u 0 = zs (fun u' => A u' * zT1 f (u' + p) 21) u := by
  show _ + A u * 0 = _
  omega
theorem zR1_n {A f : Int → Int} {p : Int} {u : Nat} : zR1 A f p u 21 = zR1 A f p (u + 1) 0 := by rw [zR1_0]; rfl
theorem zR1_z {A f : Int → Int} {p : Int} {u s : Nat} (h : A u = 0) : zR1 A f p u s = zR1 A f p (u + 1) 0 := by
  rw [zR1_0]
  show zs _ u + A u * _ = zs (fun u' => A u' * zT1 f (u' + p) 21) u + A u * _
  rw [h, Int.zero_mul, Int.zero_mul]
/-- bounds: what has come is no more than what comes in all -/
theorem zP1_le {A f : Int → Int} {p v : Int} {u K : Nat} {s : Int} (hA : ∀ u : Int, 0 ≤ A u) (hf : zBk f) (hu : u < K) (hs : s ≤ 21) : 0 ≤ zP1 A f p v u s ∧ zP1 A f p v u s ≤ zs (fun u' => A u' * zwt f (u' + p - v)) K := by
  have h0 : ∀ u' : Int, 0 ≤ A u' * zwt f (u' + p - v) := fun u' => Int.mul_nonneg (hA u') (zwt_0 hf _)
  have h1 : zs (fun u' => A u' * zwt f (u' + p - v)) (u + 1) ≤ zs (fun u' => A u' * zwt f (u' + p - v)) K := zs_mono (by omega) (fun k _ _ => h0 k)
  have h2 : 0 ≤ zs (fun u' => A u' * zwt f (u' + p - v)) u := zs_nn (fun k _ _ => h0 k)
  have h3 : 0 ≤ zwl f s ((u : Int) + p - v) ∧ zwl f s ((u : Int) + p - v) ≤ zwt f ((u : Int) + p - v) := by
    unfold zwl zwt
    by_cases e : 0 ≤ (u : Int) + p - v ∧ (u : Int) + p - v < s
    · rw [if_pos e, if_pos (by omega)]
      exact ⟨(hf _ e.1 (by omega)).1, Int.le_refl _⟩
    · rw [if_neg e]
      refine ⟨Int.le_refl _, ?_⟩
      split
      · rename_i q; exact (hf _ q.1 q.2).1
      · omega
  have h4 : A u * zwl f s ((u : Int) + p - v) ≤ A u * zwt f ((u : Int) + p - v) := Int.mul_le_mul_of_nonneg_left h3.2 (hA u)
  have h5 : 0 ≤ A u * zwl f s ((u : Int) + p - v) := Int.mul_nonneg (hA u) h3.1
  have e : zs (fun u' => A u' * zwt f (u' + p - v)) (u + 1) = zs (fun u' => A u' * zwt f (u' + p - v)) u + A u * zwt f ((u : Int) + p - v) := rfl
  unfold zP1
  omega
theorem zT1_le {f : Int → Int} {x : Int} {s : Nat} (hf : zBk f) (hs : s ≤ 21) : 0 ≤ zT1 f x s ∧ zT1 f x s ≤ zT1 f x 21 := by
  have h0 : ∀ k : Int, 0 ≤ k → k < 21 → 0 ≤ (if x < k then f k else 0) := fun k a b => by split; (· exact (hf k a b).1); (· omega)
  exact ⟨zs_nn (fun k a b => h0 k a (by omega)), zs_mono hs (fun k a b => h0 k (by omega) (by omega))⟩
theorem zR1_le {A f : Int → Int} {p : Int} {u K s : Nat} (hA : ∀ u : Int, 0 ≤ A u) (hf : zBk f) (hu : u < K) (hs : s ≤ 21) : 0 ≤ zR1 A f p u s ∧ zR1 A f p u s ≤ zs (fun u' => A u' * zT1 f (u' + p) 21) K := by
  have h0 : ∀ u' : Int, 0 ≤ A u' * zT1 f (u' + p) 21 := fun u' => Int.mul_nonneg (hA u') (zT1_le hf (by omega)).1
  have h1 : zs (fun u' => A u' * zT1 f (u' + p) 21) (u + 1) ≤ zs (fun u' => A u' * zT1 f (u' + p) 21) K := zs_mono (by omega) (fun k _ _ => h0 k)
  have h2 : 0 ≤ zs (fun u' => A u' * zT1 f (u' + p) 21) u := zs_nn (fun k _ _ => h0 k)
  have h3 := zT1_le (x := (u : Int) + p) hf hs
  have h4 : A u * zT1 f ((u : Int) + p) s ≤ A u * zT1 f ((u : Int) + p) 21 := Int.mul_le_mul_of_nonneg_left h3.2 (hA u)
  have h5 : 0 ≤ A u * zT1 f ((u : Int) + p) s := Int.mul_nonneg (hA u) h3.1
  have e : zs (fun u' => A u' * zT1 f (u' + p) 21) (u + 1) = zs (fun u' => A u' * zT1 f (u' + p) 21) u + A u * zT1 f ((u : Int) + p) 21 := rfl
  unfold zR1
  omega
theorem zs_cut {A : Int → Int} {K : Nat} (hA : ∀ u : Int, (u < 0 ∨ (K : Int) ≤ u) → A u = 0) (c : Nat) : zs (fun u => if u < (c : Int) then A u else 0) K = zs A c := by
  by_cases h : c ≤ K
  · rw [zs_z (f := fun u => if u < (c : Int) then A u else 0) (m := c) h (fun k a b => if_neg (by omega))]
    exact zs_c (fun k a b => if_pos b)
  · rw [zs_z (f := A) (m := K) (n := c) (by omega) (fun k a b => hA k (Or.inr a))]
    exact zs_c (fun k a b => if_pos (by omega))
theorem zft_scat {f A : Int → Int} {p : Int} {K : Nat} (hp : 0 ≤ p) (hA : ∀ u : Int, (u < 0 ∨ (K : Int) ≤ u) → A u = 0) : zs (fun u => A u * zT1 f (u + p) 21) K = zFt (zwt f) p A := by
  unfold zFt zFal
  rw [zs_swap 41 41]
  have e1 : zs (fun u => A u * zT1 f (u + p) 21) K = zs (fun s => zs (fun u => A u * (if u + p < s then f s else 0)) K) 21 := by
    rw [← zs_swap 21 K]
    refine zs_c (fun u a b => ?_)
    unfold zT1
    rw [← zs_mulc]
  rw [e1, zs_z (f := fun s => zs (fun i => zwt f s * A (-(i + 1) - p + s)) 41) (m := 21) (n := 41) (by omega) (fun s a b => zs_n (fun u _ _ => by (try dsimp only); rw [zwt_n a, Int.zero_mul]))]
  refine zs_c (fun s a b => ?_)
  (try dsimp only)
  rw [show zwt f s = f s from if_pos ⟨a, by omega⟩, zs_mulc]
  have e2 : zs (fun u => A u * (if u + p < s then f s else 0)) K = f s * zs (fun u => if u < ((s - p).toNat : Int) then A u else 0) K := by
    rw [← zs_mulc]
    refine zs_c (fun u c d => ?_)
    (try dsimp only)
    by_cases q : u + p < s
    · rw [if_pos q, if_pos (by omega), Int.mul_comm]
    · rw [if_neg q, if_neg (by omega), Int.mul_zero, Int.mul_zero]
  rw [e2, zs_cut hA]
  congr 1
  by_cases q : s - p < 0
  · rw [show (s - p).toNat = 0 by omega]
    exact (zs_n (fun i c d => hA _ (by omega))).symm
  · rw [← zs_rev (A := A) (fun v hv => hA v (Or.inl hv)) (s - p).toNat 41 (by omega)]
    refine zs_c (fun i c d => ?_)
    (try dsimp only)
    congr 1
    omega
