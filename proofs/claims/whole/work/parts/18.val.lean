/-! ROWS BY THEIR VALUES -/
theorem zv_zs {B : Int} {w : Int → Int} {S : Int → Int → Int} {m : Nat} : ∀ n : Nat, zv B (fun k => zs (fun s => w s * S s k) n) m = zs (fun s => w s * zv B (S s) m) n
  | 0 => zv_0 (fun k _ _ => rfl)
  | n + 1 => by
    have h : zv B (fun k => zs (fun s => w s * S s k) (n + 1)) m = zv B (fun k => zs (fun s => w s * S s k) n) m + w n * zv B (S n) m := zv_add (fun k _ _ => rfl)
    rw [h, zv_zs n]
    rfl
theorem zs_z {f : Int → Int} {m : Nat} : ∀ {n : Nat}, m ≤ n → (∀ k : Int, (m : Int) ≤ k → k < n → f k = 0) → zs f n = zs f m
  | 0, h, _ => by rw [show m = 0 by omega]
  | n + 1, h, hz => by
    by_cases e : m = n + 1
    · rw [e]
    · show zs f n + f n = zs f m
      rw [zs_z (n := n) (by omega) (fun k a b => hz k a (by omega)), hz n (by omega) (by omega)]
      omega
/-- the rows in use are good limbs, and hold V -/
def zRV (g : Int → Int) (wd : Nat) (u : Int) (V : Int → Int) : Prop := ∀ r : Int, 0 ≤ r → r < u → (∀ k : Int, 0 ≤ k → k < wd → 0 ≤ g (r * wd + k) ∧ g (r * wd + k) < zL) ∧ zv zL (fun k => g (r * wd + k)) wd = V r
/-- no row has more than lim limbs -/
def zUp (g : Int → Int) (wd : Nat) (h lim : Int) : Prop := ∀ r k : Int, 0 ≤ r → r < h → lim ≤ k → k < wd → g (r * wd + k) = 0
theorem zUp.mono {g : Int → Int} {wd : Nat} {h l1 l2 : Int} (hu : zUp g wd h l1) (hl : l1 ≤ l2) : zUp g wd h l2 := fun r k a b c d => hu r k a b (by omega) d
theorem zRS_out {g g2 G : Int → Int} {row wd i : Int} (h : zRS g g2 row wd i G) (hi : 0 ≤ i ∧ i ≤ wd) {r k : Int} (hr : r ≠ row) (k0 : 0 ≤ k) (k1 : k < wd) : g2 (r * wd + k) = g (r * wd + k) := by
  have := z_ap (w := wd) hr (by omega)
  exact h.2 _ (by omega)
theorem zUp.set {g g2 G : Int → Int} {wd : Nat} {h lim row : Int} (hu : zUp g wd h lim) (hl : 0 ≤ lim ∧ lim ≤ wd) (hs : zRS g g2 row wd lim G) : zUp g2 wd h lim := by
  intro r k a b c d
  by_cases e : r = row
  · subst e
    rw [hs.2 _ (Or.inr (by omega)), hu r k a b c d]
  · rw [zRS_out hs hl e (by omega) d, hu r k a b c d]
theorem zRV.at {g : Int → Int} {wd : Nat} {u : Int} {V : Int → Int} (h : zRV g wd u V) {r : Int} (h0 : 0 ≤ r) (h1 : r < u) : ∀ k : Int, 0 ≤ k → k < wd → 0 ≤ g (r * wd + k) ∧ g (r * wd + k) < zL := (h r h0 h1).1
theorem zRV.v {g : Int → Int} {wd : Nat} {u : Int} {V : Int → Int} (h : zRV g wd u V) {r : Int} (h0 : 0 ≤ r) (h1 : r < u) : zv zL (fun k => g (r * wd + k)) wd = V r := (h r h0 h1).2
/-- the value of a mixed row -/
theorem zmix_v {g g2 xs : Int → Int} {wd mn : Nat} {row h : Int} (hs : zRS g g2 row wd mn (ztl xs 1 0)) (hm : mn ≤ wd) (hr : 0 ≤ row ∧ row < h) (hu : zUp g wd h mn) (hx : 0 ≤ zv zL xs mn ∧ zv zL xs mn < zL ^ mn) :
    (∀ k : Int, 0 ≤ k → k < wd → 0 ≤ g2 (row * wd + k) ∧ g2 (row * wd + k) < zL) ∧ zv zL (fun k => g2 (row * wd + k)) wd = zv zL xs mn := by
  have hup : ∀ k : Int, (mn : Int) ≤ k → k < wd → g2 (row * wd + k) = 0 := fun k a b => by rw [hs.2 _ (Or.inr (by omega)), hu row k hr.1 hr.2 a b]
  refine ⟨fun k a b => ?_, ?_⟩
  · by_cases e : k < mn
    · rw [hs.1 k a e]; exact ztl_r _ _ _ _
    · rw [hup k (by omega) b]; decide
  · rw [zv_z (m := mn) hm hup, zv_c (g := ztl xs 1 0) (fun k a b => hs.1 k a b)]
    have h1 := ztl_v xs 1 0 mn
    have h2 := zv_b (B := zL) (f := ztl xs 1 0) (n := mn) (by decide) (fun k _ _ => ztl_r _ _ _ _)
    rw [zmodL h1 h2, Int.mul_one, Int.add_zero, Int.emod_eq_of_lt hx.1 hx.2]
/-- one row of a value that is set -/
theorem zRV.set {g g2 : Int → Int} {wd : Nat} {u row x : Int} {V G : Int → Int} {i : Int} (h : zRV g wd u V) (hi : 0 ≤ i ∧ i ≤ wd) (hs : zRS g g2 row wd i G) (hr : (∀ k : Int, 0 ≤ k → k < wd → 0 ≤ g2 (row * wd + k) ∧ g2 (row * wd + k) < zL) ∧ zv zL (fun k => g2 (row * wd + k)) wd = x) : zRV g2 wd u (zup V row x) := by
  intro r a b
  by_cases e : r = row
  · subst e
    rw [zup_s]
    exact hr
  · rw [zup_n e]
    obtain ⟨h1, h2⟩ := h r a b
    refine ⟨fun k k0 k1 => by rw [zRS_out hs hi e k0 k1]; exact h1 k k0 k1, ?_⟩
    rw [← h2]
    exact zv_c (fun k k0 k1 => zRS_out hs hi e k0 k1)
theorem zRV.c {g : Int → Int} {wd : Nat} {u : Int} {V V2 : Int → Int} (h : zRV g wd u V) (hv : ∀ r : Int, 0 ≤ r → r < u → V r = V2 r) : zRV g wd u V2 := fun r a b => by rw [← hv r a b]; exact h r a b
/-- a row of one's own, of full width: times, combined, put, copied -/
theorem ztimes_v {g g2 : Int → Int} {wd : Nat} {row q pl V : Int} (hs : zRS g g2 row wd wd (ztl (fun k => g (row * wd + k)) q pl)) (hV : zv zL (fun k => g (row * wd + k)) wd = V) (hb : 0 ≤ V * q + pl ∧ V * q + pl < zL ^ wd) : (∀ k : Int, 0 ≤ k → k < wd → 0 ≤ g2 (row * wd + k) ∧ g2 (row * wd + k) < zL) ∧ zv zL (fun k => g2 (row * wd + k)) wd = V * q + pl := by
  refine ⟨fun k a b => by rw [hs.1 k a b]; exact ztl_r _ _ _ _, ?_⟩
  rw [zv_c (g := ztl (fun k => g (row * wd + k)) q pl) (fun k a b => hs.1 k a b)]
  have h1 := ztl_v (fun k => g (row * wd + k)) q pl wd
  have h2 := zv_b (B := zL) (f := ztl (fun k => g (row * wd + k)) q pl) (n := wd) (by decide) (fun k _ _ => ztl_r _ _ _ _)
  rw [zmodL h1 h2, hV, Int.emod_eq_of_lt hb.1 hb.2]
theorem zcomb_v {g g2 y : Int → Int} {wd : Nat} {row q v V U : Int} (hs : zRS g g2 row wd wd (zcl (fun k => g (row * wd + k)) y q v)) (hV : zv zL (fun k => g (row * wd + k)) wd = V) (hU : zv zL y wd = U) (hb : 0 ≤ V * q + U * v ∧ V * q + U * v < zL ^ wd) : (∀ k : Int, 0 ≤ k → k < wd → 0 ≤ g2 (row * wd + k) ∧ g2 (row * wd + k) < zL) ∧ zv zL (fun k => g2 (row * wd + k)) wd = V * q + U * v := by
  refine ⟨fun k a b => by rw [hs.1 k a b]; exact zcl_r _ _ _ _ _, ?_⟩
  rw [zv_c (g := zcl (fun k => g (row * wd + k)) y q v) (fun k a b => hs.1 k a b)]
  have h1 := zcl_v (fun k => g (row * wd + k)) y q v wd
  have h2 := zv_b (B := zL) (f := zcl (fun k => g (row * wd + k)) y q v) (n := wd) (by decide) (fun k _ _ => zcl_r _ _ _ _ _)
  rw [zmodL h1 h2, hV, hU, Int.emod_eq_of_lt hb.1 hb.2]
theorem zput_v {g g2 : Int → Int} {wd : Nat} {row v : Int} (hw : 0 < wd) (hs : zRS g g2 row wd wd (fun k => if k = 0 then v else 0)) (hv : 0 ≤ v ∧ v < zL) : (∀ k : Int, 0 ≤ k → k < wd → 0 ≤ g2 (row * wd + k) ∧ g2 (row * wd + k) < zL) ∧ zv zL (fun k => g2 (row * wd + k)) wd = v := by
  refine ⟨fun k a b => ?_, ?_⟩
  · rw [hs.1 k a b]
    dsimp only
    split
    · exact hv
    · decide
  · rw [zv_1 hw (fun k a b => ?_)]
    · rw [hs.1 0 (by omega) (by omega)]; rfl
    · rw [hs.1 k (by omega) b]
      exact if_neg (by omega)
theorem zcopy_v {g g2 go : Int → Int} {wd wo : Nat} {row fr V : Int} (hs : zRS g g2 row wd wd (fun k => if k < wo then go (fr * wo + k) else 0)) (hg : ∀ k : Int, 0 ≤ k → k < wo → 0 ≤ go (fr * wo + k) ∧ go (fr * wo + k) < zL) (hV : zv zL (fun k => go (fr * wo + k)) wo = V) (hw : wo ≤ wd) : (∀ k : Int, 0 ≤ k → k < wd → 0 ≤ g2 (row * wd + k) ∧ g2 (row * wd + k) < zL) ∧ zv zL (fun k => g2 (row * wd + k)) wd = V := by
  refine ⟨fun k a b => ?_, ?_⟩
  · rw [hs.1 k a b]
    dsimp only
    split
    · exact hg k a (by assumption)
    · decide
  · rw [zv_z (m := wo) hw (fun k a b => by rw [hs.1 k (by omega) b]; exact if_neg (by omega)), ← hV]
    exact zv_c (fun k a b => by rw [hs.1 k a (by omega)]; exact if_pos b)
theorem zL_pow (n : Nat) : zL ^ n = 10 ^ (12 * n) := by
  rw [Int.pow_mul]
  rfl
theorem zp10 {m n : Nat} (h : m ≤ n) : (10 : Int) ^ m ≤ 10 ^ n := by
  have e : (10 : Int) ^ n = 10 ^ m * 10 ^ (n - m) := by rw [← Int.pow_add]; congr 1; omega
  have h1 : (0 : Int) < 10 ^ m := zpw (by decide) _
  have h2 : (0 : Int) < 10 ^ (n - m) := zpw (by decide) _
  rw [e]
  have : (10 : Int) ^ m * 1 ≤ 10 ^ m * 10 ^ (n - m) := Int.mul_le_mul_of_nonneg_left (by omega) (by omega)
  omega
theorem zp10l {m n : Nat} (h : m < n) : (10 : Int) ^ m < 10 ^ n := by
  have h1 := zp10 (m := m + 1) (n := n) (by omega)
  have h2 : (10 : Int) ^ (m + 1) = 10 ^ m * 10 := Int.pow_succ _ _
  have h3 : (0 : Int) < 10 ^ m := zpw (by decide) _
  omega
