/-- D of the document: stage n is right up to n -/
def zDs (F : Int → Int) : Nat → Int → Int
  | 0 => fun _ => 1000 - zst F 0
  | n + 1 => zup (zDs F n) ((n + 1 : Nat) : Int) (zDs F n (n : Int) * 1000 - zEs F (zDs F n) (n + 1))
def zD (F : Int → Int) (u : Int) : Int := zDs F u.toNat u
theorem zDs_k (F : Int → Int) (k : Nat) : ∀ n : Nat, k ≤ n → zDs F n (k : Int) = zD F k
  | 0, h => by
    have e : k = 0 := by omega
    subst e; rfl
  | n + 1, h => by
    by_cases e : k = n + 1
    · subst e; rfl
    · show zup (zDs F n) ((n + 1 : Nat) : Int) _ (k : Int) = _
      rw [zup_n (by omega)]
      exact zDs_k F k n (by omega)
theorem zEs_c {F D1 D2 : Int → Int} {u : Nat} (h : ∀ k : Nat, k < u → D1 k = D2 k) : zEs F D1 u = zEs F D2 u := by
  refine zs_c (fun j j0 j1 => ?_)
  have e : ((u : Int) - 1 - j) = (((u : Int) - 1 - j).toNat : Int) := by omega
  rw [e, h _ (by omega)]
theorem zD_0 (F : Int → Int) : zD F 0 = 1000 - zst F 0 := rfl
theorem zD_s (F : Int → Int) (u : Nat) (h : 1 ≤ u) : zD F u = zD F ((u : Int) - 1) * 1000 - zEs F (zD F) u := by
  obtain ⟨n, rfl⟩ : ∃ n, u = n + 1 := ⟨u - 1, by omega⟩
  show zup (zDs F n) ((n + 1 : Nat) : Int) _ ((n + 1 : Nat) : Int) = _
  rw [zup_s, zEs_c (D2 := zD F) (fun k hk => zDs_k F k n (by omega)), zDs_k F n n (Nat.le_refl _), show ((n + 1 : Nat) : Int) - 1 = n by omega]
/-- what is above j -/
def zTl (F : Int → Int) (j : Int) : Int := 1000 - zs (zwt F) (j + 1).toNat
theorem zwt_n {F : Int → Int} {k : Int} (h : 21 ≤ k) : zwt F k = 0 := if_neg (by omega)
theorem zs_mono {f : Int → Int} {m : Nat} : ∀ {n : Nat}, m ≤ n → (∀ k : Int, (m : Int) ≤ k → k < n → 0 ≤ f k) → zs f m ≤ zs f n
  | 0, h, _ => by
    have e : m = 0 := by omega
    rw [e]; omega
  | n + 1, h, hf => by
    by_cases e : m = n + 1
    · rw [e]; omega
    · have h1 := zs_mono (f := f) (m := m) (n := n) (by omega) (fun k a b => hf k a (by omega))
      have h2 := hf n (by omega) (by omega)
      show zs f m ≤ zs f n + f n
      omega
theorem zwt_sn {F : Int → Int} (hF : zBk F) (hs : zs F 21 = 1000) (n : Nat) (h : 21 ≤ n) : zs (zwt F) n = 1000 := by
  rw [zs_z (f := zwt F) (m := 21) h (fun k a b => zwt_n a), ← hs]
  exact zs_c (fun k a b => if_pos ⟨a, by omega⟩)
theorem zTl_0 {F : Int → Int} (hF : zBk F) (hs : zs F 21 = 1000) (j : Int) : 0 ≤ zTl F j := by
  unfold zTl
  by_cases e : 21 ≤ (j + 1).toNat
  · rw [zwt_sn hF hs _ e]; omega
  · have := zs_mono (f := zwt F) (m := (j + 1).toNat) (n := 21) (by omega) (fun k _ _ => zwt_0 hF k)
    rw [zwt_sn hF hs 21 (by omega)] at this
    omega
theorem zTl_s {F : Int → Int} {j : Int} (h : 0 ≤ j) : zTl F (j - 1) = zTl F j + zwt F j := by
  unfold zTl
  rw [show (j + 1).toNat = (j - 1 + 1).toNat + 1 by omega]
  show _ = 1000 - (zs (zwt F) _ + zwt F _) + _
  rw [show (((j - 1 + 1).toNat : Nat) : Int) = j by omega]
  omega
theorem zTl_m {F : Int → Int} (hF : zBk F) (hs : zs F 21 = 1000) (n : Nat) : zs (zTl F) n = zs (fun k => min k (n : Int) * zwt F k) 21 := by
  induction n with
  | zero => exact (zs_n (fun k a b => by (try dsimp only); rw [show min k ((0 : Nat) : Int) = 0 by omega, Int.zero_mul])).symm
  | succ n ih =>
    show zs (zTl F) n + zTl F n = _
    rw [ih]
    have e : zTl F n = zs (fun k => if k ≤ (n : Int) then 0 else zwt F k) 21 := by
      have h1 : zs (fun k => (if k ≤ (n : Int) then 0 else zwt F k) + (if k ≤ (n : Int) then zwt F k else 0)) 21 = 1000 := by
        rw [← zwt_sn hF hs 21 (by omega)]
        exact zs_c (fun k _ _ => by (try dsimp only); split <;> omega)
      rw [zs_add] at h1
      have h2 : zs (fun k => if k ≤ (n : Int) then zwt F k else 0) 21 = zs (zwt F) (n + 1) := by
        by_cases q : n + 1 ≤ 21
        · rw [zs_z (f := fun k => if k ≤ (n : Int) then zwt F k else 0) (m := n + 1) q (fun k a b => if_neg (by omega))]
          exact zs_c (fun k a b => if_pos (by omega))
        · rw [zs_z (f := zwt F) (m := 21) (n := n + 1) (by omega) (fun k a b => zwt_n a)]
          exact zs_c (fun k a b => if_pos (by omega))
      unfold zTl
      rw [show ((n : Int) + 1).toNat = n + 1 by omega]
      omega
    rw [e, ← zs_add]
    refine zs_c (fun k a b => ?_)
    (try dsimp only)
    by_cases q : k ≤ (n : Int)
    · rw [if_pos q, show min k ((n + 1 : Nat) : Int) = k by omega, show min k (n : Int) = k by omega, Int.add_zero]
    · rw [if_neg q, show min k ((n + 1 : Nat) : Int) = n + 1 by omega, show min k (n : Int) = n by omega, Int.add_mul, Int.one_mul]
theorem zTl_le {F : Int → Int} (hF : zBk F) (hs : zs F 21 = 1000) (n : Nat) : zs (zTl F) n ≤ zst F 0 := by
  rw [zTl_m hF hs]
  unfold zst
  refine zs_le (fun k a b => ?_)
  (try dsimp only)
  have e : zwt F k = F k := if_pos ⟨a, by omega⟩
  rw [e]
  exact Int.mul_le_mul_of_nonneg_right (by omega) (hF k a (by omega)).1
theorem zF0_1 {F : Int → Int} (hF : zBk F) (hs : zs F 21 = 1000) (hM : zst F 0 < 1000) : 1 ≤ F 0 := by
  have h := zTl_le hF hs 1
  have e : zs (zTl F) 1 = zTl F 0 := by show zs (zTl F) 0 + zTl F 0 = _; show 0 + _ = _; omega
  have e2 : zTl F 0 = 1000 - F 0 := by
    show 1000 - zs (zwt F) 1 = _
    show 1000 - (0 + zwt F 0) = _
    rw [show zwt F 0 = F 0 from if_pos ⟨by omega, by omega⟩]
    omega
  omega
theorem zEs_x {F : Int → Int} (u : Nat) : zEs F (zD F) u = zs (fun j => zwt F (j + 1) * zD F ((u : Int) - 1 - j) * F 0 ^ j.toNat) u := by
  rw [zs_z (f := fun j => zwt F (j + 1) * zD F ((u : Int) - 1 - j) * F 0 ^ j.toNat) (m := min u 20) (by omega) (fun k a b => by (try dsimp only); rw [zwt_n (by omega), Int.zero_mul, Int.zero_mul])]
  refine zs_c (fun j a b => ?_)
  (try dsimp only)
  rw [show zwt F (j + 1) = F (j + 1) from if_pos ⟨by omega, by omega⟩, Int.mul_comm (zD F _)]
theorem zs_first {f : Int → Int} : ∀ n : Nat, zs f (n + 1) = f 0 + zs (fun j => f (j + 1)) n
  | 0 => by show 0 + f ((0 : Nat) : Int) = f 0 + 0; rw [show ((0 : Nat) : Int) = 0 from rfl]; omega
  | n + 1 => by
    show zs f (n + 1) + f ((n + 1 : Nat) : Int) = f 0 + (zs (fun j => f (j + 1)) n + f ((n : Int) + 1))
    rw [zs_first n, show ((n + 1 : Nat) : Int) = (n : Int) + 1 by omega]
    omega
theorem zrenew {F : Int → Int} (hF : zBk F) (hs : zs F 21 = 1000) (u : Nat) : zD F u = (1000 - zst F 0) * F 0 ^ u + zs (fun j => zTl F (j + 1) * zD F ((u : Int) - 1 - j) * F 0 ^ j.toNat) u := by
  induction u with
  | zero =>
    show zD F 0 = _ + 0
    rw [zD_0, Int.pow_zero]
    omega
  | succ u ih =>
    rw [zD_s F (u + 1) (by omega), zEs_x]
    have e0 : ((u + 1 : Nat) : Int) - 1 = u := by omega
    rw [e0]
    have h1 : zs (fun j => zTl F (j + 1) * zD F ((u : Int) - j) * F 0 ^ j.toNat) (u + 1) + zs (fun j => zwt F (j + 1) * zD F ((u : Int) - j) * F 0 ^ j.toNat) (u + 1) = zs (fun j => zTl F j * zD F ((u : Int) - j) * F 0 ^ j.toNat) (u + 1) := by
      rw [← zs_add]
      refine zs_c (fun j a b => ?_)
      (try dsimp only)
      have q := zTl_s (F := F) (j := j + 1) (by omega)
      rw [show j + 1 - 1 = j by omega] at q
      rw [q, Int.add_mul, Int.add_mul]
    rw [zs_first (f := fun j => zTl F j * zD F ((u : Int) - j) * F 0 ^ j.toNat)] at h1
    have h2 : zs (fun j => (fun j => zTl F j * zD F ((u : Int) - j) * F 0 ^ j.toNat) (j + 1)) u = F 0 * zs (fun j => zTl F (j + 1) * zD F ((u : Int) - 1 - j) * F 0 ^ j.toNat) u := by
      rw [← zs_mulc]
      refine zs_c (fun j a b => ?_)
      (try dsimp only)
      rw [show (j + 1).toNat = j.toNat + 1 by omega, Int.pow_succ, show (u : Int) - (j + 1) = (u : Int) - 1 - j by omega]
      grind
    rw [h2] at h1
    have h3 : zTl F 0 * zD F ((u : Int) - 0) * F 0 ^ (Int.toNat 0) = (1000 - F 0) * zD F u := by
      rw [show zTl F 0 = 1000 - F 0 by
        show 1000 - (0 + zwt F 0) = _
        rw [show zwt F 0 = F 0 from if_pos ⟨by omega, by omega⟩]
        omega, show (u : Int) - 0 = u by omega]
      simp
    rw [h3] at h1
    generalize zs (fun j => zTl F (j + 1) * zD F ((u : Int) - j) * F 0 ^ j.toNat) (u + 1) = A at *
    generalize zs (fun j => zwt F (j + 1) * zD F ((u : Int) - j) * F 0 ^ j.toNat) (u + 1) = B at *
    generalize zs (fun j => zTl F (j + 1) * zD F ((u : Int) - 1 - j) * F 0 ^ j.toNat) u = S at *
    rw [Int.pow_succ]
    generalize F 0 ^ u = P at *
    generalize zD F u = d at *
    generalize zst F 0 = M at *
    have e : F 0 * d = (1000 - M) * (P * F 0) + F 0 * S := by rw [ih]; grind
    have e2 : (1000 - F 0) * d = 1000 * d - F 0 * d := Int.sub_mul _ _ _
    omega
theorem zD_b {F : Int → Int} (hF : zBk F) (hs : zs F 21 = 1000) (hM : zst F 0 < 1000) (u : Nat) : 0 < zD F u ∧ zD F u ≤ F 0 ^ (u + 1) := by
  induction u using Nat.strongRecOn with
  | ind u ih =>
    have h0 := zF0_1 hF hs hM
    have hP : (0 : Int) < F 0 ^ u := zpw h0 _
    have hb : ∀ j : Int, 0 ≤ j → j < (u : Int) → 0 ≤ zTl F (j + 1) * zD F ((u : Int) - 1 - j) * F 0 ^ j.toNat ∧ zTl F (j + 1) * zD F ((u : Int) - 1 - j) * F 0 ^ j.toNat ≤ F 0 ^ u * zTl F (j + 1) := by
      intro j a b
      have q := ih ((u : Int) - 1 - j).toNat (by omega)
      rw [show ((((u : Int) - 1 - j).toNat : Nat) : Int) = (u : Int) - 1 - j by omega] at q
      have t := zTl_0 hF hs (j + 1)
      have pj : (0 : Int) < F 0 ^ j.toNat := zpw h0 _
      refine ⟨Int.mul_nonneg (Int.mul_nonneg t (by omega)) (by omega), ?_⟩
      have e : F 0 ^ u = F 0 ^ (((u : Int) - 1 - j).toNat + 1) * F 0 ^ j.toNat := by rw [← Int.pow_add]; congr 1; omega
      rw [e, Int.mul_assoc]
      have k1 : zD F ((u : Int) - 1 - j) * F 0 ^ j.toNat ≤ F 0 ^ (((u : Int) - 1 - j).toNat + 1) * F 0 ^ j.toNat := Int.mul_le_mul_of_nonneg_right q.2 (by omega)
      rw [Int.mul_comm (F 0 ^ (((u : Int) - 1 - j).toNat + 1) * F 0 ^ j.toNat)]
      exact Int.mul_le_mul_of_nonneg_left k1 t
    have hr := zrenew hF hs u
    have h1 : 0 ≤ zs (fun j => zTl F (j + 1) * zD F ((u : Int) - 1 - j) * F 0 ^ j.toNat) u := zs_nn (fun j a b => (hb j a b).1)
    have h2 : zs (fun j => zTl F (j + 1) * zD F ((u : Int) - 1 - j) * F 0 ^ j.toNat) u ≤ zs (fun j => F 0 ^ u * zTl F (j + 1)) u := zs_le (fun j a b => (hb j a b).2)
    rw [zs_mulc] at h2
    have h3 := zTl_le hF hs (u + 1)
    rw [zs_first] at h3
    have h4 : zTl F 0 = 1000 - F 0 := by
      show 1000 - (0 + zwt F 0) = _
      rw [show zwt F 0 = F 0 from if_pos ⟨by omega, by omega⟩]
      omega
    rw [h4] at h3
    have h5 : F 0 ^ u * zs (fun j => zTl F (j + 1)) u ≤ F 0 ^ u * (zst F 0 - 1000 + F 0) := Int.mul_le_mul_of_nonneg_left (by omega) (by omega)
    have h6 : (0 : Int) < (1000 - zst F 0) * F 0 ^ u := Int.mul_pos (by omega) hP
    refine ⟨by omega, ?_⟩
    rw [Int.pow_succ]
    have h7 : F 0 ^ u * (zst F 0 - 1000 + F 0) = F 0 ^ u * F 0 - (1000 - zst F 0) * F 0 ^ u := by grind
    omega
theorem zHo_b {F : Int → Int} (hF : zBk F) (hs : zs F 21 = 1000) (hM : zst F 0 < 1000) {u : Nat} (hu : 1 ≤ u) (hu2 : u ≤ 60) (q : Nat) (hq : q ≤ min u 20) : 0 ≤ zHo (fun j => zD F ((u : Int) - 1 - j) * F (j + 1)) (F 0) (min u 20) q ∧ zHo (fun j => zD F ((u : Int) - 1 - j) * F (j + 1)) (F 0) (min u 20) q < zL ^ 16 := by
  have h0 := zF0_1 hF hs hM
  have hx : ∀ j : Int, 0 ≤ j → j < ((min u 20 : Nat) : Int) → 0 ≤ zD F ((u : Int) - 1 - j) * F (j + 1) := fun j a b => by
    have d := (zD_b hF hs hM ((u : Int) - 1 - j).toNat).1
    rw [show ((((u : Int) - 1 - j).toNat : Nat) : Int) = (u : Int) - 1 - j by omega] at d
    exact Int.mul_nonneg (by omega) (hF _ (by omega) (by omega)).1
  have hn : ∀ q : Nat, q ≤ min u 20 → 0 ≤ zHo (fun j => zD F ((u : Int) - 1 - j) * F (j + 1)) (F 0) (min u 20) q := by
    intro q
    induction q with
    | zero => intro _; exact Int.le_refl 0
    | succ q ih =>
      intro h
      have h1 := ih (by omega)
      have h2 := hx (((min u 20 : Nat) : Int) - 1 - q) (by omega) (by omega)
      show 0 ≤ zHo _ _ _ q * F 0 + _
      exact Int.add_nonneg (Int.mul_nonneg h1 (by omega)) h2
  refine ⟨hn q hq, ?_⟩
  have hv := zHo_v (fun j => zD F ((u : Int) - 1 - j) * F (j + 1)) (F 0) (min u 20) q hq
  have hr : 0 ≤ zs (fun j => zD F ((u : Int) - 1 - j) * F (j + 1) * F 0 ^ j.toNat) (min u 20 - q) := zs_nn (fun j a b => Int.mul_nonneg (hx j a (by omega)) (Int.le_of_lt (zpw h0 _)))
  have hp : (0 : Int) < F 0 ^ (min u 20 - q) := zpw h0 _
  have h1 : zHo (fun j => zD F ((u : Int) - 1 - j) * F (j + 1)) (F 0) (min u 20) q * 1 ≤ zHo (fun j => zD F ((u : Int) - 1 - j) * F (j + 1)) (F 0) (min u 20) q * F 0 ^ (min u 20 - q) := Int.mul_le_mul_of_nonneg_left (by omega) (hn q hq)
  have h2 := zD_s F u hu
  have h3 := zD_b hF hs hM u
  have h4 := zD_b hF hs hM (u - 1)
  rw [show (((u - 1 : Nat)) : Int) = (u : Int) - 1 by omega, show u - 1 + 1 = u by omega] at h4
  have h5 : F 0 ^ u ≤ 10 ^ 183 := zpow_le ⟨by omega, (hF 0 (by omega) (by omega)).2⟩ (by omega)
  have h6 : (10 : Int) ^ 183 * 1000 < zL ^ 16 := by decide
  unfold zEs at h2
  omega
