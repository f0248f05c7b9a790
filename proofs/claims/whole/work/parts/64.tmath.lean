/-! TWO HOUSES: what is left of a pair of purses -/
def zhh (gv : Int) (h : Int → Int → Int) (u v : Int) : Int := if gv ≠ 0 ∧ u < 0 ∧ -u ≤ v then h 0 (v + u) else if gv ≠ 0 ∧ v < 0 ∧ -v ≤ u then h (u + v) 0 else if 0 ≤ u ∧ 0 ≤ v then h u v else 0
def zGG (f g : Int → Int) (p q gv : Int) (h : Int → Int → Int) (u v : Int) : Int := zs (fun s => zs (fun r => f s * g r * zhh gv h (u + p - s) (v + q - r)) 21) 21
def zHH (f g : Int → Int) (p q gv : Int) : Nat → Int → Int → Int
  | 0 => fun _ _ => 1
  | k + 1 => zGG f g p q gv (zHH f g p q gv k)
theorem zSv_n {wt : Int → Int} {p : Int} : ∀ (n : Nat) (v : Int), v < 0 → zSv wt p n v = 0
  | 0, v, h => if_pos h
  | n + 1, v, h => if_pos h
theorem zSv_s {wt : Int → Int} {p : Int} (n : Nat) {v : Int} (h : 0 ≤ v) : zSv wt p (n + 1) v = zs (fun s => wt s * zSv wt p n (v + p - s)) 41 := by
  show zTt wt p (zB wt p z1 n) v = _
  unfold zTt
  rw [if_neg (by omega)]
  rfl
theorem zHH_0 {f g : Int → Int} {p q : Int} (hp : 0 ≤ p) (hq : 0 ≤ q) : ∀ (k : Nat) (u v : Int), 0 ≤ u → 0 ≤ v → zHH f g p q 0 k u v = zSv (zwt f) p k u * zSv (zwt g) q k v
  | 0, u, v, hu, hv => by
    show 1 = z1 u * z1 v
    unfold z1
    rw [if_neg (by omega), if_neg (by omega)]
    rfl
  | k + 1, u, v, hu, hv => by
    have ih := zHH_0 (f := f) (g := g) hp hq k
    have e : ∀ u' v' : Int, zhh 0 (zHH f g p q 0 k) u' v' = zSv (zwt f) p k u' * zSv (zwt g) q k v' := fun u' v' => by
      unfold zhh
      rw [if_neg (fun h => h.1 rfl), if_neg (fun h => h.1 rfl)]
      by_cases h : 0 ≤ u' ∧ 0 ≤ v'
      · rw [if_pos h, ih u' v' h.1 h.2]
      · rw [if_neg h]
        by_cases q1 : u' < 0
        · rw [zSv_n k u' q1, Int.zero_mul]
        · rw [zSv_n k v' (by omega), Int.mul_zero]
    show zGG f g p q 0 (zHH f g p q 0 k) u v = _
    unfold zGG
    rw [zSv_s k hu, zSv_s k hv]
    rw [zs_z (f := fun s => zwt f s * zSv (zwt f) p k (u + p - s)) (m := 21) (n := 41) (by omega) (fun s a b => by (try dsimp only); rw [zwt_n a, Int.zero_mul])]
    rw [zs_z (f := fun s => zwt g s * zSv (zwt g) q k (v + q - s)) (m := 21) (n := 41) (by omega) (fun s a b => by (try dsimp only); rw [zwt_n a, Int.zero_mul])]
    rw [Int.mul_comm, ← zs_mulc]
    refine zs_c (fun s s0 s1 => ?_)
    (try dsimp only)
    rw [Int.mul_comm, ← zs_mulc]
    refine zs_c (fun r r0 r1 => ?_)
    (try dsimp only)
    rw [e, show zwt f s = f s from if_pos ⟨s0, by omega⟩, show zwt g r = g r from if_pos ⟨r0, by omega⟩]
    grind
theorem zconv {f g φ : Int → Int} {z : Int} : zs (fun k => zcv f g k * φ (z - k)) 41 = zs (fun s => zs (fun r => f s * g r * φ (z - s - r)) 21) 21 := by
  unfold zcv
  have e1 : zs (fun k => zs (zc1 f g k) 21 * φ (z - k)) 41 = zs (fun k => zs (fun s => zc1 f g k s * φ (z - k)) 21) 41 := by
    refine zs_c (fun k a b => ?_)
    (try dsimp only)
    rw [Int.mul_comm, ← zs_mulc]
    exact zs_c (fun s _ _ => by (try dsimp only); rw [Int.mul_comm])
  rw [e1, zs_swap 21 41]
  refine zs_c (fun s s0 s1 => ?_)
  have e2 : ∀ k : Int, zc1 f g k s * φ (z - k) = f s * (fun v => if 0 ≤ v ∧ v < 21 then g v * φ (z - s - v) else 0) (k + -s) := fun k => by
    unfold zc1
    (try dsimp only)
    rw [show k + -s = k - s by omega]
    by_cases h : 0 ≤ k - s ∧ k - s < 21
    · rw [if_pos h, if_pos h, show z - s - (k - s) = z - k by omega]; grind
    · rw [if_neg h, if_neg h, Int.zero_mul, Int.mul_zero]
  rw [zs_c (g := fun k => f s * (fun v => if 0 ≤ v ∧ v < 21 then g v * φ (z - s - v) else 0) (k + -s)) (fun k _ _ => e2 k), zs_mulc]
  have q := zs_split (A := fun v => if 0 ≤ v ∧ v < 21 then g v * φ (z - s - v) else 0) (K := 21) (fun v hv => if_neg (by omega)) (-s) 41 0 (by omega) (by omega)
  rw [show zs (fun d => (fun v => if 0 ≤ v ∧ v < 21 then g v * φ (z - s - v) else 0) (-s - 1 - d)) 0 = 0 from rfl, Int.add_zero] at q
  rw [q, ← zs_mulc]
  refine zs_c (fun r r0 r1 => ?_)
  (try dsimp only)
  rw [if_pos ⟨r0, by omega⟩, Int.mul_assoc]
theorem zHH_1 {f g : Int → Int} {p q gv : Int} (hg : gv ≠ 0) (hp : 0 ≤ p) (hq : 0 ≤ q) : ∀ (k : Nat) (u v : Int), 0 ≤ u → 0 ≤ v → zHH f g p q gv k u v = zSv (zcv f g) (p + q) k (u + v)
  | 0, u, v, hu, hv => by
    show 1 = z1 (u + v)
    unfold z1
    rw [if_neg (by omega)]
  | k + 1, u, v, hu, hv => by
    have ih := zHH_1 (f := f) (g := g) hg hp hq k
    have e : ∀ u' v' : Int, zhh gv (zHH f g p q gv k) u' v' = zSv (zcv f g) (p + q) k (u' + v') := fun u' v' => by
      unfold zhh
      by_cases h1 : gv ≠ 0 ∧ u' < 0 ∧ -u' ≤ v'
      · rw [if_pos h1, ih 0 (v' + u') (by omega) (by omega)]
        congr 1; omega
      · rw [if_neg h1]
        by_cases h2 : gv ≠ 0 ∧ v' < 0 ∧ -v' ≤ u'
        · rw [if_pos h2, ih (u' + v') 0 (by omega) (by omega)]
          congr 1; omega
        · rw [if_neg h2]
          by_cases h3 : 0 ≤ u' ∧ 0 ≤ v'
          · rw [if_pos h3, ih u' v' h3.1 h3.2]
          · rw [if_neg h3, zSv_n k _ (by omega)]
    show zGG f g p q gv (zHH f g p q gv k) u v = _
    rw [zSv_s k (by omega), zconv (z := u + v + (p + q))]
    unfold zGG
    refine zs_c (fun s s0 s1 => ?_)
    refine zs_c (fun r r0 r1 => ?_)
    (try dsimp only)
    rw [e]
    congr 2
    omega
/-- what a change of one place changes in a weighed sum -/
theorem zs_upd {V : Nat → Int} {w : Int → Int} {b j : Nat} {z : Int} : ∀ {n : Nat}, j < n → zs (fun k => va_up V (b + j) (V (b + j) + z) (b + k.toNat) * w k) n = zs (fun k => V (b + k.toNat) * w k) n + z * w j
  | 0, h => by omega
  | n + 1, h => by
    show zs _ n + va_up V (b + j) (V (b + j) + z) (b + ((n : Int)).toNat) * w n = zs _ n + V (b + ((n : Int)).toNat) * w n + z * w j
    rw [show ((n : Int)).toNat = n by omega]
    by_cases e : j = n
    · subst e
      rw [va_up_self, zs_c (g := fun k => V (b + k.toNat) * w k) (fun k a c => by (try dsimp only); rw [va_up_ne _ _ (by omega)]), Int.add_mul]
      omega
    · rw [zs_upd (n := n) (by omega), va_up_ne _ _ (by omega)]
      omega
theorem zTw_v {f h : Int → Int} (hf : zBk f) (hh : zBk h) (sf : zs f 21 = 1000) (sh : zs h 21 = 1000) {a b p q : Int} {n : Nat} {gv : Int} (ha : 0 ≤ a) (hb : 0 ≤ b) (hp : 0 ≤ p) (hq : 0 ≤ q) : zTw f h a b p q n gv = zHH f h p q gv n a b := by
  unfold zTw
  have s1 : zs (zwt f) 41 = 10 ^ 3 := by rw [zwt_s, sf]; rfl
  have s2 : zs (zwt h) 41 = 10 ^ 3 := by rw [zwt_s, sh]; rfl
  have s3 : zs (zcv f h) 41 = 10 ^ 6 := by rw [zcv_s, sf, sh]; rfl
  by_cases e : gv = 0
  · rw [if_pos e, zSt_v hq s2, zSt_v hp s1, Int.one_mul, e, zHH_0 hp hq n a b ha hb, show ((a.toNat : Nat) : Int) = a by omega, show ((b.toNat : Nat) : Int) = b by omega]
  · rw [if_neg e, zSt_v (by omega) s3, Int.one_mul, zHH_1 e hp hq n a b ha hb, show (((a + b).toNat : Nat) : Int) = a + b by omega]
