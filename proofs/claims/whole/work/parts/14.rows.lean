/-! ROWS of the class: an object at r, its limbs at c; h rows of wd limbs, u of them in use -/
def zL : Int := 1000000000000
theorem z_hw {h wd : Nat} (h1 : h ≤ 256) (h2 : wd ≤ 16) : (h : Int) * wd ≤ 4096 := by
  have : (h : Int) * wd ≤ 256 * 16 := Int.mul_le_mul (by omega) (by omega) (by omega) (by omega)
  omega
/-- of row `row` the limbs below i are G's, all else is g's -/
def zRS (g gi : Int → Int) (row wd i : Int) (G : Int → Int) : Prop := (∀ k : Int, 0 ≤ k → k < i → gi (row * wd + k) = G k) ∧ ∀ k : Int, (k < row * wd ∨ row * wd + i ≤ k) → gi k = g k
theorem zRS_0 {g : Int → Int} {row wd : Int} {G : Int → Int} : zRS g g row wd 0 G := ⟨fun k a b => by omega, fun _ _ => rfl⟩
theorem zRS_s {g gi G : Int → Int} {row wd i x : Int} (h : zRS g gi row wd i G) (h0 : 0 ≤ i) (hx : x = G i) : zRS g (zup gi (row * wd + i) x) row wd (i + 1) G := by
  refine ⟨fun k a b => ?_, fun k a => ?_⟩
  · by_cases e : k = i
    · subst e; rw [zup_s, hx]
    · rw [zup_n (by omega), h.1 k a (by omega)]
  · rw [zup_n (by omega), h.2 k (by omega)]
/-- what the limbs carry -/
def zcr (x : Int → Int) (q pl : Int) : Nat → Int
  | 0 => pl
  | n + 1 => (zcr x q pl n + x n * q) / zL
def zcr2 (x y : Int → Int) (q v : Int) : Nat → Int
  | 0 => 0
  | n + 1 => (zcr2 x y q v n + (x n * q + y n * v)) / zL
def ztl (x : Int → Int) (q pl : Int) : Int → Int := fun k => (zcr x q pl k.toNat + x k * q) % zL
def zcl (x y : Int → Int) (q v : Int) : Int → Int := fun k => (zcr2 x y q v k.toNat + (x k * q + y k * v)) % zL
theorem zL_div {a M : Int} (h0 : 0 ≤ a) (h1 : a < (M + 1) * zL) : 0 ≤ a / zL ∧ a / zL ≤ M := by
  have := (Int.ediv_lt_iff_lt_mul (show 0 < zL by decide)).mpr h1
  exact ⟨Int.ediv_nonneg h0 (by decide), by omega⟩
theorem zcr_b {x : Int → Int} {q pl M : Int} (hM : 0 < M) (hq : 0 ≤ q ∧ q ≤ M) (hp : 0 ≤ pl ∧ pl ≤ M) : ∀ {n : Nat}, (∀ k : Int, 0 ≤ k → k < n → 0 ≤ x k ∧ x k < zL) → 0 ≤ zcr x q pl n ∧ zcr x q pl n ≤ M
  | 0, _ => hp
  | n + 1, h => by
    have h1 := zcr_b hM hq hp (n := n) (fun k a b => h k a (by omega))
    have h2 := h n (by omega) (by omega)
    have h3 : 0 ≤ x n * q := Int.mul_nonneg h2.1 hq.1
    have h4 : x n * q ≤ (zL - 1) * M := Int.mul_le_mul (by omega) hq.2 hq.1 (by decide)
    refine zL_div (by omega) ?_
    have e : (zL - 1) * M = M * zL - M := by rw [Int.sub_mul, Int.one_mul, Int.mul_comm]
    have e2 : (M + 1) * zL = M * zL + zL := by rw [Int.add_mul, Int.one_mul]
    have : 0 < zL := by decide
    omega
theorem ztl_r (x : Int → Int) (q pl k : Int) : 0 ≤ ztl x q pl k ∧ ztl x q pl k < zL := ⟨Int.emod_nonneg _ (by decide), Int.emod_lt_of_pos _ (by decide)⟩
theorem zcl_r (x y : Int → Int) (q v k : Int) : 0 ≤ zcl x y q v k ∧ zcl x y q v k < zL := ⟨Int.emod_nonneg _ (by decide), Int.emod_lt_of_pos _ (by decide)⟩
theorem ztl_v (x : Int → Int) (q pl : Int) : ∀ n : Nat, zv zL (ztl x q pl) n + zcr x q pl n * zL ^ n = zv zL x n * q + pl
  | 0 => by simp [zv, zcr]
  | n + 1 => by
    have h1 := ztl_v x q pl n
    have h2 := Int.emod_add_mul_ediv (zcr x q pl n + x n * q) zL
    rw [zv_s, zv_s, Int.pow_succ]
    exact zcarry h1 h2
theorem zcl_v (x y : Int → Int) (q v : Int) : ∀ n : Nat, zv zL (zcl x y q v) n + zcr2 x y q v n * zL ^ n = zv zL x n * q + zv zL y n * v
  | 0 => by simp [zv, zcr2]
  | n + 1 => by
    have h1 := zcl_v x y q v n
    have h2 := Int.emod_add_mul_ediv (zcr2 x y q v n + (x n * q + y n * v)) zL
    rw [zv_s, zv_s, zv_s, Int.pow_succ]
    exact zcarry2 h1 h2
theorem zcr2_b {x y : Int → Int} {q v : Int} (hq : 0 ≤ q ∧ q ≤ 1000) (hv : -1000 ≤ v ∧ v ≤ 1000) : ∀ {n : Nat}, (∀ k : Int, 0 ≤ k → k < n → (0 ≤ x k ∧ x k < zL) ∧ 0 ≤ y k ∧ y k < zL) → -2000 ≤ zcr2 x y q v n ∧ zcr2 x y q v n ≤ 2000
  | 0, _ => by simp [zcr2]
  | n + 1, h => by
    have h1 := zcr2_b hq hv (n := n) (fun k a b => h k a (by omega))
    have h2 := h n (by omega) (by omega)
    have h3 : 0 ≤ x n * q := Int.mul_nonneg h2.1.1 hq.1
    have h4 : x n * q ≤ zL * 1000 := Int.mul_le_mul (by omega) hq.2 hq.1 (by decide)
    have h5 : y n * v ≤ y n * 1000 := Int.mul_le_mul_of_nonneg_left hv.2 h2.2.1
    have h6 : y n * (-1000) ≤ y n * v := Int.mul_le_mul_of_nonneg_left hv.1 h2.2.1
    have hz : zL = 1000000000000 := rfl
    rw [hz] at h2 h4
    show -2000 ≤ (zcr2 x y q v n + (x n * q + y n * v)) / zL ∧ (zcr2 x y q v n + (x n * q + y n * v)) / zL ≤ 2000
    rw [hz]
    omega
set_option maxRecDepth 100000 in
set_option maxHeartbeats 4000000 in
theorem c_X4_has {l0 : Launch} {X : zX} {ω : zWd} {r c h wd : Nat} {u : Int} {g : Int → Int} {row : Int} (hr : ω.1 r = some (zOb 4 [.int (zI h), .int (zI wd), .ref c, .int (zI u)])) (hc : ω.1 c = some (zAJ X (h * wd) g)) (hs : (0 < h ∧ h ≤ 256) ∧ (0 < wd ∧ wd ≤ 16) ∧ 0 ≤ u ∧ u ≤ h) (hrow : -1000000 ≤ row ∧ row ≤ 1000000 := by omega) : zMet l0 yX4_has cX4_has 2 (some .boolean) rmX4_has X [.ref r, .int (zI row)] ω (zpi (fun v w => w = ω ∧ ((0 ≤ row ∧ row < u ∧ v = 1) ∨ ((row < 0 ∨ u ≤ row) ∧ v = 0)))) := by
  refine zMet.intro (by decide) (Nat.le_of_ble_eq_true rfl) ?_
  intro Γ C E N
  show Zw Γ ω 0 0 0 [_, _] []
  refine z_iload_n (i := 1) (pc := 0) C rfl rfl dX4_has_0 ?_
  refine z_if_lt (tgt := 16) (pc := 1) C dX4_has_1 (by decide) (fun h1 => ?_) (fun h1 => ?_)
  · refine z_iconst (pc := 16) C dX4_has_16 ?_
    exact z_zret (pc := 17) C E (by decide +kernel) dX4_has_17 ⟨_, rfl, ⟨rfl, by omega⟩⟩
  · refine z_iload_n (i := 1) (pc := 4) C rfl rfl dX4_has_4 ?_
    refine z_aload_n (i := 0) (pc := 5) C rfl rfl dX4_has_5 ?_
    refine g_X4_28 (pc := 6) C hr rfl dX4_has_6 ?_
    refine z_icmp_ge (tgt := 16) (pc := 9) C dX4_has_9 (by decide) (fun h9 => ?_) (fun h9 => ?_)
    · refine z_iconst (pc := 16) C dX4_has_16 ?_
      exact z_zret (pc := 17) C E (by decide +kernel) dX4_has_17 ⟨_, rfl, ⟨rfl, by omega⟩⟩
    · refine z_iconst (pc := 12) C dX4_has_12 ?_
      refine z_goto (tgt := 17) (pc := 13) C dX4_has_13 (by decide) ?_
      exact z_zret (pc := 17) C E (by decide +kernel) dX4_has_17 ⟨_, rfl, ⟨rfl, by omega⟩⟩
set_option maxRecDepth 100000 in
set_option maxHeartbeats 4000000 in
theorem c_X4_read {l0 : Launch} {X : zX} {ω : zWd} {r c h wd : Nat} {u : Int} {g : Int → Int} {row i : Int} (hr : ω.1 r = some (zOb 4 [.int (zI h), .int (zI wd), .ref c, .int (zI u)])) (hc : ω.1 c = some (zAJ X (h * wd) g)) (hs : (0 < h ∧ h ≤ 256) ∧ (0 < wd ∧ wd ≤ 16) ∧ 0 ≤ u ∧ u ≤ h) (hrow : -1000000 ≤ row ∧ row ≤ 1000000 := by omega) (hi : 0 ≤ i ∧ i ≤ 1000 := by omega) : zMet l0 yX4_read cX4_read 3 (some .long) rmX4_read X [.ref r, .int (zI row), .int (zI i)] ω (zpl (fun v w => w = ω ∧ ((0 ≤ row ∧ row < u ∧ i < wd ∧ v = g (row * wd + i)) ∨ ((row < 0 ∨ u ≤ row ∨ wd ≤ i) ∧ v = 0)))) := by
  refine zMet.intro (by decide) (Nat.le_of_ble_eq_true rfl) ?_
  intro Γ C E N
  show Zw Γ ω 0 0 0 [_, _, _] []
  have hm := z_hw hs.1.2 hs.2.1.2
  refine z_aload_n (i := 0) (pc := 0) C rfl rfl dX4_read_0 ?_
  refine z_iload_n (i := 1) (pc := 1) C rfl rfl dX4_read_1 ?_
  refine z_callVi (pc := 2) C (c_X4_has hr hc hs) k_X4_57 zy_X4_has rfl rfl hr rfl rfl ⟨(Nat.le_of_ble_eq_true rfl), (Nat.le_of_ble_eq_true rfl)⟩ (Nat.le_of_ble_eq_true rfl) dX4_read_2 ⟨rfl, rfl⟩ ⟨(Nat.le_of_ble_eq_true rfl), (Nat.le_of_ble_eq_true rfl)⟩ (fun rv ω' hp => ?_)
  obtain ⟨rfl, hp⟩ := hp
  refine z_if_eq (tgt := 36) (pc := 5) C dX4_read_5 (by decide) (fun h5 => ?_) (fun h5 => ?_)
  · refine z_lconst (v := 0) (pc := 36) C (by decide +kernel) dX4_read_36 ?_
    exact z_lret (pc := 37) C E dX4_read_37 ⟨_, rfl, ⟨rfl, by first | (left; exact ⟨by omega, by omega, by omega, rfl⟩) | (right; exact ⟨by omega, rfl⟩)⟩⟩
  · refine z_iload_n (i := 2) (pc := 8) C rfl rfl dX4_read_8 ?_
    refine z_if_lt (tgt := 36) (pc := 9) C dX4_read_9 (by decide) (fun h9 => absurd h9 (by omega)) (fun h9 => ?_)
    refine z_iload_n (i := 2) (pc := 12) C rfl rfl dX4_read_12 ?_
    refine z_aload_n (i := 0) (pc := 13) C rfl rfl dX4_read_13 ?_
    refine g_X4_21 (pc := 14) C hr rfl dX4_read_14 ?_
    refine z_icmp_ge (tgt := 36) (pc := 17) C dX4_read_17 (by decide) (fun h17 => ?_) (fun h17 => ?_)
    · refine z_lconst (v := 0) (pc := 36) C (by decide +kernel) dX4_read_36 ?_
      exact z_lret (pc := 37) C E dX4_read_37 ⟨_, rfl, ⟨rfl, by first | (left; exact ⟨by omega, by omega, by omega, rfl⟩) | (right; exact ⟨by omega, rfl⟩)⟩⟩
    · refine z_aload_n (i := 0) (pc := 20) C rfl rfl dX4_read_20 ?_
      refine g_X4_24 (pc := 21) C hr rfl dX4_read_21 ?_
      refine z_iload_n (i := 1) (pc := 24) C rfl rfl dX4_read_24 ?_
      refine z_aload_n (i := 0) (pc := 25) C rfl rfl dX4_read_25 ?_
      refine g_X4_21 (pc := 26) C hr rfl dX4_read_26 ?_
      refine z_imul (pc := 29) C dX4_read_29 ?_
      refine z_iload_n (i := 2) (pc := 30) C rfl rfl dX4_read_30 ?_
      refine z_iadd (pc := 31) C dX4_read_31 ?_
      have hx := z_ix (r := row) (h := h) (w := wd) (i := i) (by omega) (by omega) (by omega) (by omega)
      refine z_laload (pc := 32) C hc dX4_read_32 ?_ (hi := ⟨hx.1, by rw [Int.natCast_mul]; exact hx.2, by omega⟩)
      refine z_goto (tgt := 37) (pc := 33) C dX4_read_33 (by decide) ?_
      exact z_lret (pc := 37) C E dX4_read_37 ⟨_, rfl, ⟨rfl, by first | (left; exact ⟨by omega, by omega, by omega, rfl⟩) | (right; exact ⟨by omega, rfl⟩)⟩⟩
set_option maxRecDepth 100000 in
set_option maxHeartbeats 4000000 in
theorem c_X4_write {l0 : Launch} {X : zX} {ω : zWd} {r c h wd : Nat} {u : Int} {g : Int → Int} {row i v : Int} (hr : ω.1 r = some (zOb 4 [.int (zI h), .int (zI wd), .ref c, .int (zI u)])) (hc : ω.1 c = some (zAJ X (h * wd) g)) (hs : (0 < h ∧ h ≤ 256) ∧ (0 < wd ∧ wd ≤ 16) ∧ 0 ≤ u ∧ u ≤ h) (hrow : 0 ≤ row ∧ row < u := by omega) (hi : 0 ≤ i ∧ i < wd := by omega) : zMet l0 yX4_write cX4_write 5 none rmX4_write X [.ref r, .int (zI row), .int (zI i), .long (zJ v)] ω (zpv (fun w => w = zU ω c (zAJ X (h * wd) (zup g (row * wd + i) v)))) := by
  refine zMet.intro (by decide) (Nat.le_of_ble_eq_true rfl) ?_
  intro Γ C E N
  show Zw Γ ω 0 0 0 [_, _, _, _, _] []
  have hm := z_hw hs.1.2 hs.2.1.2
  have hx := z_ix (r := row) (h := h) (w := wd) (i := i) (by omega) (by omega) (by omega) (by omega)
  refine z_aload_n (i := 0) (pc := 0) C rfl rfl dX4_write_0 ?_
  refine z_iload_n (i := 1) (pc := 1) C rfl rfl dX4_write_1 ?_
  refine z_callVi (pc := 2) C (c_X4_has hr hc hs) k_X4_57 zy_X4_has rfl rfl hr rfl rfl ⟨(Nat.le_of_ble_eq_true rfl), (Nat.le_of_ble_eq_true rfl)⟩ (Nat.le_of_ble_eq_true rfl) dX4_write_2 ⟨rfl, rfl⟩ ⟨(Nat.le_of_ble_eq_true rfl), (Nat.le_of_ble_eq_true rfl)⟩ (fun rv ω' hp => ?_)
  obtain ⟨rfl, hp⟩ := hp
  refine z_if_eq (tgt := 34) (pc := 5) C dX4_write_5 (by decide) (fun h5 => absurd h5 (by omega)) (fun h5 => ?_)
  refine z_iload_n (i := 2) (pc := 8) C rfl rfl dX4_write_8 ?_
  refine z_if_lt (tgt := 34) (pc := 9) C dX4_write_9 (by decide) (fun h9 => absurd h9 (by omega)) (fun h9 => ?_)
  refine z_iload_n (i := 2) (pc := 12) C rfl rfl dX4_write_12 ?_
  refine z_aload_n (i := 0) (pc := 13) C rfl rfl dX4_write_13 ?_
  refine g_X4_21 (pc := 14) C hr rfl dX4_write_14 ?_
  refine z_icmp_ge (tgt := 34) (pc := 17) C dX4_write_17 (by decide) (fun h17 => absurd h17 (by omega)) (fun h17 => ?_)
  refine z_aload_n (i := 0) (pc := 20) C rfl rfl dX4_write_20 ?_
  refine g_X4_24 (pc := 21) C hr rfl dX4_write_21 ?_
  refine z_iload_n (i := 1) (pc := 24) C rfl rfl dX4_write_24 ?_
  refine z_aload_n (i := 0) (pc := 25) C rfl rfl dX4_write_25 ?_
  refine g_X4_21 (pc := 26) C hr rfl dX4_write_26 ?_
  refine z_imul (pc := 29) C dX4_write_29 ?_
  refine z_iload_n (i := 2) (pc := 30) C rfl rfl dX4_write_30 ?_
  refine z_iadd (pc := 31) C dX4_write_31 ?_
  refine z_lload_n (i := 3) (pc := 32) C rfl rfl dX4_write_32 ?_
  refine z_lastore (pc := 33) C hc dX4_write_33 ?_ (hi := ⟨hx.1, by rw [Int.natCast_mul]; exact hx.2, by omega⟩)
  exact z_vret (pc := 34) C E dX4_write_34 ⟨rfl, rfl⟩
set_option maxRecDepth 100000 in
set_option maxHeartbeats 4000000 in
theorem c_X4_writeN {l0 : Launch} {X : zX} {ω : zWd} {r c h wd : Nat} {u : Int} {g : Int → Int} {row i v : Int} (hr : ω.1 r = some (zOb 4 [.int (zI h), .int (zI wd), .ref c, .int (zI u)])) (hc : ω.1 c = some (zAJ X (h * wd) g)) (hs : (0 < h ∧ h ≤ 256) ∧ (0 < wd ∧ wd ≤ 16) ∧ 0 ≤ u ∧ u ≤ h) (hrow : -1000000 ≤ row ∧ row ≤ 1000000 := by omega) (hno : row < 0 ∨ u ≤ row) : zMet l0 yX4_write cX4_write 5 none rmX4_write X [.ref r, .int (zI row), .int (zI i), .long (zJ v)] ω (zpv (fun w => w = ω)) := by
  refine zMet.intro (by decide) (Nat.le_of_ble_eq_true rfl) ?_
  intro Γ C E N
  show Zw Γ ω 0 0 0 [_, _, _, _, _] []
  refine z_aload_n (i := 0) (pc := 0) C rfl rfl dX4_write_0 ?_
  refine z_iload_n (i := 1) (pc := 1) C rfl rfl dX4_write_1 ?_
  refine z_callVi (pc := 2) C (c_X4_has hr hc hs) k_X4_57 zy_X4_has rfl rfl hr rfl rfl ⟨(Nat.le_of_ble_eq_true rfl), (Nat.le_of_ble_eq_true rfl)⟩ (Nat.le_of_ble_eq_true rfl) dX4_write_2 ⟨rfl, rfl⟩ ⟨(Nat.le_of_ble_eq_true rfl), (Nat.le_of_ble_eq_true rfl)⟩ (fun rv ω' hp => ?_)
  obtain ⟨rfl, hp⟩ := hp
  refine z_if_eq (tgt := 34) (pc := 5) C dX4_write_5 (by decide) (fun h5 => ?_) (fun h5 => absurd h5 (by omega))
  exact z_vret (pc := 34) C E dX4_write_34 ⟨rfl, rfl⟩
set_option maxRecDepth 100000 in
set_option maxHeartbeats 4000000 in
theorem c_X4_open {l0 : Launch} {X : zX} {ω : zWd} {r c h wd : Nat} {u : Int} {g : Int → Int} {n : Int} (hr : ω.1 r = some (zOb 4 [.int (zI h), .int (zI wd), .ref c, .int (zI u)])) (hc : ω.1 c = some (zAJ X (h * wd) g)) (hs : (0 < h ∧ h ≤ 256) ∧ (0 < wd ∧ wd ≤ 16) ∧ 0 ≤ u ∧ u ≤ h) (hn : -1000000 ≤ n ∧ n ≤ 1000000 := by omega) : zMet l0 yX4_open cX4_open 2 none rmX4_open X [.ref r, .int (zI n)] ω (zpv (fun w => w = zU ω r (zOb 4 [.int (zI h), .int (zI wd), .ref c, .int (zI (max (min n h) 0))]))) := by
  refine zMet.intro (by decide) (Nat.le_of_ble_eq_true rfl) ?_
  intro Γ C E N
  show Zw Γ ω 0 0 0 [_, _] []
  refine z_aload_n (i := 0) (pc := 0) C rfl rfl dX4_open_0 ?_
  refine z_iload_n (i := 1) (pc := 1) C rfl rfl dX4_open_1 ?_
  refine z_aload_n (i := 0) (pc := 2) C rfl rfl dX4_open_2 ?_
  refine g_X4_15 (pc := 3) C hr rfl dX4_open_3 ?_
  refine z_callSi (pc := 6) C (c_J9_min_7cf53) k_X4_31 zy_J9_min_7cf53.2 rfl rfl ⟨(Nat.le_of_ble_eq_true rfl), (Nat.le_of_ble_eq_true rfl)⟩ (Nat.le_of_ble_eq_true rfl) dX4_open_6 ⟨rfl, rfl⟩ ⟨(Nat.le_of_ble_eq_true rfl), (Nat.le_of_ble_eq_true rfl)⟩ (fun rv ω' hp => ?_)
  obtain ⟨rfl, rfl⟩ := hp
  refine z_iconst (pc := 9) C dX4_open_9 ?_
  refine z_callSi (pc := 10) C (c_J9_max_7cf53) k_X4_9 zy_J9_max_7cf53.2 rfl rfl ⟨(Nat.le_of_ble_eq_true rfl), (Nat.le_of_ble_eq_true rfl)⟩ (Nat.le_of_ble_eq_true rfl) dX4_open_10 ⟨rfl, rfl⟩ ⟨(Nat.le_of_ble_eq_true rfl), (Nat.le_of_ble_eq_true rfl)⟩ (fun rv ω' hp => ?_)
  obtain ⟨rfl, rfl⟩ := hp
  refine p_X4_28 (pc := 13) C hr (Nat.le_of_ble_eq_true rfl) dX4_open_13 ?_
  exact z_vret (pc := 16) C E dX4_open_16 ⟨rfl, rfl⟩
set_option maxRecDepth 100000 in
set_option maxHeartbeats 4000000 in
theorem c_X4_wipe {l0 : Launch} {X : zX} {ω : zWd} {r c h wd : Nat} {u : Int} {g : Int → Int} (hr : ω.1 r = some (zOb 4 [.int (zI h), .int (zI wd), .ref c, .int (zI u)])) (hc : ω.1 c = some (zAJ X (h * wd) g)) (hs : (0 < h ∧ h ≤ 256) ∧ (0 < wd ∧ wd ≤ 16) ∧ 0 ≤ u ∧ u ≤ h) : zMet l0 yX4_wipe cX4_wipe 1 none rmX4_wipe X [.ref r] ω (zpv (fun w => w = zU ω c (zAJ X (h * wd) (zfill g 0 (h * wd))))) := by
  refine zMet.intro (by decide) (Nat.le_of_ble_eq_true rfl) ?_
  intro Γ C E N
  show Zw Γ ω 0 0 0 [_] []
  have hm := z_hw hs.1.2 hs.2.1.2
  refine z_aload_n (i := 0) (pc := 0) C rfl rfl dX4_wipe_0 ?_
  refine g_X4_24 (pc := 1) C hr rfl dX4_wipe_1 ?_
  refine z_lconst (v := 0) (pc := 4) C (by decide +kernel) dX4_wipe_4 ?_
  refine z_callSv (pc := 5) C (c_J7_fill_d0a16 hc (by omega)) k_X4_34 zy_J7_fill_d0a16.2 rfl rfl ⟨(Nat.le_of_ble_eq_true rfl), (Nat.le_of_ble_eq_true rfl)⟩ (Nat.le_of_ble_eq_true rfl) dX4_wipe_5 ⟨rfl, rfl⟩ ⟨(Nat.le_of_ble_eq_true rfl), (Nat.le_of_ble_eq_true rfl)⟩ (fun ω' hp => ?_)
  subst hp
  exact z_vret (pc := 8) C E dX4_wipe_8 ⟨rfl, by rw [Int.natCast_mul]⟩
set_option maxRecDepth 100000 in
set_option maxHeartbeats 4000000 in
theorem lp_X4_put {Γ : zG} {l0 : Launch} {X : zX} {ω : zWd} {r c h wd : Nat} {u : Int} {g : Int → Int} {row v : Int} (C : Zc Γ l0 X rmX4_put 5 cX4_put RX4) (E : Ze Γ (zpv (fun w => ∃ g2, w = zU ω c (zAJ X (h * wd) g2) ∧ zRS g g2 row wd wd (fun k => if k = 0 then v else 0))) 0 0 none) (hr : ω.1 r = some (zOb 4 [.int (zI h), .int (zI wd), .ref c, .int (zI u)])) (hc : ω.1 c = some (zAJ X (h * wd) g)) (hs : (0 < h ∧ h ≤ 256) ∧ (0 < wd ∧ wd ≤ 16) ∧ 0 ≤ u ∧ u ≤ h) (hrc : r ≠ c) (hrow : 0 ≤ row ∧ row < u) : ∀ (j i : Nat) (gi : Int → Int), i + j = wd → zRS g gi row wd i (fun k => if k = 0 then v else 0) → Zw Γ (zU ω c (zAJ X (h * wd) gi)) 0 0 3 [some (.ref r), some (.int (zI row)), some (.long (zJ v)), none, some (.int (zI ((i : Nat) : Int)))] [] := by
  intro j
  induction j with
  | zero =>
    intro i gi hj hg
    have e1 : i = wd := by omega
    subst e1
    refine z_iload (i := 4) (pc := 3) C rfl dX4_put_3 ?_
    refine z_aload_n (i := 0) (pc := 5) C rfl rfl dX4_put_5 ?_
    refine g_X4_21 (pc := 6) C (zU_n' hrc hr) rfl dX4_put_6 ?_
    refine z_icmp_ge (tgt := 35) (pc := 9) C dX4_put_9 (by decide) (fun h9 => ?_) (fun h9 => absurd h9 (by omega))
    exact z_vret (pc := 35) C E dX4_put_35 ⟨rfl, ⟨gi, rfl, hg⟩⟩
  | succ j ih =>
    intro i gi hj hg
    have hr1 : (zU ω c (zAJ X (h * wd) gi)).1 r = _ := zU_n' hrc hr
    refine z_iload (i := 4) (pc := 3) C rfl dX4_put_3 ?_
    refine z_aload_n (i := 0) (pc := 5) C rfl rfl dX4_put_5 ?_
    refine g_X4_21 (pc := 6) C (zU_n' hrc hr) rfl dX4_put_6 ?_
    refine z_icmp_ge (tgt := 35) (pc := 9) C dX4_put_9 (by decide) (fun h9 => absurd h9 (by omega)) (fun h9 => ?_)
    refine z_aload_n (i := 0) (pc := 12) C rfl rfl dX4_put_12 ?_
    refine z_iload_n (i := 1) (pc := 13) C rfl rfl dX4_put_13 ?_
    refine z_iload (i := 4) (pc := 14) C rfl dX4_put_14 ?_
    refine z_iload (i := 4) (pc := 16) C rfl dX4_put_16 ?_
    refine z_if_ne (tgt := 25) (pc := 18) C dX4_put_18 (by decide) (fun h18 => ?_) (fun h18 => ?_)
    · refine z_lconst (v := 0) (pc := 25) C (by decide +kernel) dX4_put_25 ?_
      refine z_callVv (pc := 26) C (c_X4_write hr1 (zU_s _ _ _) hs) k_X4_40 zy_X4_write rfl rfl (zU_n' hrc hr) rfl rfl ⟨(Nat.le_of_ble_eq_true rfl), (Nat.le_of_ble_eq_true rfl)⟩ (Nat.le_of_ble_eq_true rfl) dX4_put_26 ⟨rfl, rfl⟩ ⟨(Nat.le_of_ble_eq_true rfl), (Nat.le_of_ble_eq_true rfl)⟩ (fun ω' hp => ?_)
      subst hp
      rw [zU_u]
      refine z_iinc (i := 4) (lv' := [_, _, _, _, _]) (pc := 29) C rfl (by decide) rfl rfl dX4_put_29 ?_
      refine z_goto (tgt := 3) (pc := 32) C dX4_put_32 (by decide) ?_
      exact ih (i + 1) _ (by omega) (zRS_s hg (by omega) (by split <;> omega))
    · refine z_lload_n (i := 2) (pc := 21) C rfl rfl dX4_put_21 ?_
      refine z_goto (tgt := 26) (pc := 22) C dX4_put_22 (by decide) ?_
      refine z_callVv (pc := 26) C (c_X4_write hr1 (zU_s _ _ _) hs) k_X4_40 zy_X4_write rfl rfl (zU_n' hrc hr) rfl rfl ⟨(Nat.le_of_ble_eq_true rfl), (Nat.le_of_ble_eq_true rfl)⟩ (Nat.le_of_ble_eq_true rfl) dX4_put_26 ⟨rfl, rfl⟩ ⟨(Nat.le_of_ble_eq_true rfl), (Nat.le_of_ble_eq_true rfl)⟩ (fun ω' hp => ?_)
      subst hp
      rw [zU_u]
      refine z_iinc (i := 4) (lv' := [_, _, _, _, _]) (pc := 29) C rfl (by decide) rfl rfl dX4_put_29 ?_
      refine z_goto (tgt := 3) (pc := 32) C dX4_put_32 (by decide) ?_
      exact ih (i + 1) _ (by omega) (zRS_s hg (by omega) (by split <;> omega))
set_option maxRecDepth 100000 in
set_option maxHeartbeats 4000000 in
theorem c_X4_put {l0 : Launch} {X : zX} {ω : zWd} {r c h wd : Nat} {u : Int} {g : Int → Int} {row v : Int} (hr : ω.1 r = some (zOb 4 [.int (zI h), .int (zI wd), .ref c, .int (zI u)])) (hc : ω.1 c = some (zAJ X (h * wd) g)) (hs : (0 < h ∧ h ≤ 256) ∧ (0 < wd ∧ wd ≤ 16) ∧ 0 ≤ u ∧ u ≤ h) (hrow : 0 ≤ row ∧ row < u := by omega) : zMet l0 yX4_put cX4_put 5 none rmX4_put X [.ref r, .int (zI row), .long (zJ v)] ω (zpv (fun w => ∃ g2, w = zU ω c (zAJ X (h * wd) g2) ∧ zRS g g2 row wd wd (fun k => if k = 0 then v else 0))) := by
  refine zMet.intro (by decide) (Nat.le_of_ble_eq_true rfl) ?_
  intro Γ C E N
  show Zw Γ ω 0 0 0 [_, _, _, _, _] []
  have hrc : r ≠ c := z_neOJ hr hc
  refine z_iconst (pc := 0) C dX4_put_0 ?_
  refine z_istore (i := 4) (lv' := [_, _, _, _, _]) (pc := 1) C (by decide) rfl rfl dX4_put_1 ?_
  have hw : ω = zU ω c (zAJ X (h * wd) g) := (zU_id hc).symm
  rw [hw]
  exact lp_X4_put C E hr hc hs hrc hrow wd 0 g (by omega) zRS_0
set_option maxRecDepth 100000 in
set_option maxHeartbeats 4000000 in
theorem lp_X4_copy {Γ : zG} {l0 : Launch} {X : zX} {ω : zWd} {r c h wd : Nat} {u : Int} {g : Int → Int} {ro co ho wo : Nat} {uo : Int} {go : Int → Int} {row fr : Int} (C : Zc Γ l0 X rmX4_copy 5 cX4_copy RX4) (E : Ze Γ (zpv (fun w => ∃ g2, w = zU ω c (zAJ X (h * wd) g2) ∧ zRS g g2 row wd wd (fun k => if k < wo then go (fr * wo + k) else 0))) 0 0 none) (hr : ω.1 r = some (zOb 4 [.int (zI h), .int (zI wd), .ref c, .int (zI u)])) (hc : ω.1 c = some (zAJ X (h * wd) g)) (hs : (0 < h ∧ h ≤ 256) ∧ (0 < wd ∧ wd ≤ 16) ∧ 0 ≤ u ∧ u ≤ h) (hro : ω.1 ro = some (zOb 4 [.int (zI ho), .int (zI wo), .ref co, .int (zI uo)])) (hco : ω.1 co = some (zAJ X (ho * wo) go)) (hso : (0 < ho ∧ ho ≤ 256) ∧ (0 < wo ∧ wo ≤ 16) ∧ 0 ≤ uo ∧ uo ≤ ho) (hrc : r ≠ c) (hroc : ro ≠ c) (hcc : co ≠ c) (hrow : 0 ≤ row ∧ row < u) (hfr : 0 ≤ fr ∧ fr < uo := by omega) : ∀ (j i : Nat) (gi : Int → Int), i + j = wd → zRS g gi row wd i (fun k => if k < wo then go (fr * wo + k) else 0) → Zw Γ (zU ω c (zAJ X (h * wd) gi)) 0 0 3 [some (.ref r), some (.int (zI row)), some (.ref ro), some (.int (zI fr)), some (.int (zI ((i : Nat) : Int)))] [] := by
  intro j
  induction j with
  | zero =>
    intro i gi hj hg
    have e1 : i = wd := by omega
    subst e1
    refine z_iload (i := 4) (pc := 3) C rfl dX4_copy_3 ?_
    refine z_aload_n (i := 0) (pc := 5) C rfl rfl dX4_copy_5 ?_
    refine g_X4_21 (pc := 6) C (zU_n' hrc hr) rfl dX4_copy_6 ?_
    refine z_icmp_ge (tgt := 32) (pc := 9) C dX4_copy_9 (by decide) (fun h9 => ?_) (fun h9 => absurd h9 (by omega))
    exact z_vret (pc := 32) C E dX4_copy_32 ⟨rfl, ⟨gi, rfl, hg⟩⟩
  | succ j ih =>
    intro i gi hj hg
    have hr1 : (zU ω c (zAJ X (h * wd) gi)).1 r = _ := zU_n' hrc hr
    have hro1 : (zU ω c (zAJ X (h * wd) gi)).1 ro = _ := zU_n' hroc hro
    have hco1 : (zU ω c (zAJ X (h * wd) gi)).1 co = _ := zU_n' hcc hco
    refine z_iload (i := 4) (pc := 3) C rfl dX4_copy_3 ?_
    refine z_aload_n (i := 0) (pc := 5) C rfl rfl dX4_copy_5 ?_
    refine g_X4_21 (pc := 6) C (zU_n' hrc hr) rfl dX4_copy_6 ?_
    refine z_icmp_ge (tgt := 32) (pc := 9) C dX4_copy_9 (by decide) (fun h9 => absurd h9 (by omega)) (fun h9 => ?_)
    refine z_aload_n (i := 0) (pc := 12) C rfl rfl dX4_copy_12 ?_
    refine z_iload_n (i := 1) (pc := 13) C rfl rfl dX4_copy_13 ?_
    refine z_iload (i := 4) (pc := 14) C rfl dX4_copy_14 ?_
    refine z_aload_n (i := 2) (pc := 16) C rfl rfl dX4_copy_16 ?_
    refine z_iload_n (i := 3) (pc := 17) C rfl rfl dX4_copy_17 ?_
    refine z_iload (i := 4) (pc := 18) C rfl dX4_copy_18 ?_
    refine z_callVl (pc := 20) C (c_X4_read hro1 hco1 hso) k_X4_44 zy_X4_read rfl rfl (zU_n' hroc hro) rfl rfl ⟨(Nat.le_of_ble_eq_true rfl), (Nat.le_of_ble_eq_true rfl)⟩ (Nat.le_of_ble_eq_true rfl) dX4_copy_20 ⟨rfl, rfl⟩ ⟨(Nat.le_of_ble_eq_true rfl), (Nat.le_of_ble_eq_true rfl)⟩ (fun rv ω' hp => ?_)
    obtain ⟨rfl, hp⟩ := hp
    refine z_callVv (pc := 23) C (c_X4_write hr1 (zU_s _ _ _) hs) k_X4_40 zy_X4_write rfl rfl (zU_n' hrc hr) rfl rfl ⟨(Nat.le_of_ble_eq_true rfl), (Nat.le_of_ble_eq_true rfl)⟩ (Nat.le_of_ble_eq_true rfl) dX4_copy_23 ⟨rfl, rfl⟩ ⟨(Nat.le_of_ble_eq_true rfl), (Nat.le_of_ble_eq_true rfl)⟩ (fun ω' hp => ?_)
    subst hp
    rw [zU_u]
    refine z_iinc (i := 4) (lv' := [_, _, _, _, _]) (pc := 26) C rfl (by decide) rfl rfl dX4_copy_26 ?_
    refine z_goto (tgt := 3) (pc := 29) C dX4_copy_29 (by decide) ?_
    exact ih (i + 1) _ (by omega) (zRS_s hg (by omega) (by
      rcases hp with q | q
      · rw [if_pos q.2.2.1]; exact q.2.2.2
      · rw [if_neg (by omega)]; exact q.2))
set_option maxRecDepth 100000 in
set_option maxHeartbeats 4000000 in
theorem c_X4_copy {l0 : Launch} {X : zX} {ω : zWd} {r c h wd : Nat} {u : Int} {g : Int → Int} {ro co ho wo : Nat} {uo : Int} {go : Int → Int} {row fr : Int} (hr : ω.1 r = some (zOb 4 [.int (zI h), .int (zI wd), .ref c, .int (zI u)])) (hc : ω.1 c = some (zAJ X (h * wd) g)) (hs : (0 < h ∧ h ≤ 256) ∧ (0 < wd ∧ wd ≤ 16) ∧ 0 ≤ u ∧ u ≤ h) (hro : ω.1 ro = some (zOb 4 [.int (zI ho), .int (zI wo), .ref co, .int (zI uo)])) (hco : ω.1 co = some (zAJ X (ho * wo) go)) (hso : (0 < ho ∧ ho ≤ 256) ∧ (0 < wo ∧ wo ≤ 16) ∧ 0 ≤ uo ∧ uo ≤ ho) (hcc : co ≠ c) (hrow : 0 ≤ row ∧ row < u := by omega) (hfr : 0 ≤ fr ∧ fr < uo := by omega) : zMet l0 yX4_copy cX4_copy 5 none rmX4_copy X [.ref r, .int (zI row), .ref ro, .int (zI fr)] ω (zpv (fun w => ∃ g2, w = zU ω c (zAJ X (h * wd) g2) ∧ zRS g g2 row wd wd (fun k => if k < wo then go (fr * wo + k) else 0))) := by
  refine zMet.intro (by decide) (Nat.le_of_ble_eq_true rfl) ?_
  intro Γ C E N
  show Zw Γ ω 0 0 0 [_, _, _, _, _] []
  have hrc : r ≠ c := z_neOJ hr hc
  have hroc : ro ≠ c := z_neOJ hro hc
  refine z_iconst (pc := 0) C dX4_copy_0 ?_
  refine z_istore (i := 4) (lv' := [_, _, _, _, _]) (pc := 1) C (by decide) rfl rfl dX4_copy_1 ?_
  have hw : ω = zU ω c (zAJ X (h * wd) g) := (zU_id hc).symm
  rw [hw]
  exact lp_X4_copy C E hr hc hs hro hco hso hrc hroc hcc hrow hfr wd 0 g (by omega) zRS_0
set_option maxRecDepth 100000 in
set_option maxHeartbeats 4000000 in
theorem lp_X4_copyN {Γ : zG} {l0 : Launch} {X : zX} {ω : zWd} {r c h wd : Nat} {u : Int} {g : Int → Int} {ro co ho wo : Nat} {uo : Int} {go : Int → Int} {row fr : Int} (C : Zc Γ l0 X rmX4_copy 5 cX4_copy RX4) (E : Ze Γ (zpv (fun w => w = ω)) 0 0 none) (hr : ω.1 r = some (zOb 4 [.int (zI h), .int (zI wd), .ref c, .int (zI u)])) (hc : ω.1 c = some (zAJ X (h * wd) g)) (hs : (0 < h ∧ h ≤ 256) ∧ (0 < wd ∧ wd ≤ 16) ∧ 0 ≤ u ∧ u ≤ h) (hro : ω.1 ro = some (zOb 4 [.int (zI ho), .int (zI wo), .ref co, .int (zI uo)])) (hco : ω.1 co = some (zAJ X (ho * wo) go)) (hso : (0 < ho ∧ ho ≤ 256) ∧ (0 < wo ∧ wo ≤ 16) ∧ 0 ≤ uo ∧ uo ≤ ho) (hrow : -1000000 ≤ row ∧ row ≤ 1000000 := by omega) (hno : row < 0 ∨ u ≤ row) (hfr : 0 ≤ fr ∧ fr < uo := by omega) : ∀ (j i : Nat), i + j = wd → Zw Γ ω 0 0 3 [some (.ref r), some (.int (zI row)), some (.ref ro), some (.int (zI fr)), some (.int (zI ((i : Nat) : Int)))] [] := by
  intro j
  induction j with
  | zero =>
    intro i hj
    have e1 : i = wd := by omega
    subst e1
    refine z_iload (i := 4) (pc := 3) C rfl dX4_copy_3 ?_
    refine z_aload_n (i := 0) (pc := 5) C rfl rfl dX4_copy_5 ?_
    refine g_X4_21 (pc := 6) C hr rfl dX4_copy_6 ?_
    refine z_icmp_ge (tgt := 32) (pc := 9) C dX4_copy_9 (by decide) (fun h9 => ?_) (fun h9 => absurd h9 (by omega))
    exact z_vret (pc := 32) C E dX4_copy_32 ⟨rfl, rfl⟩
  | succ j ih =>
    intro i hj
    refine z_iload (i := 4) (pc := 3) C rfl dX4_copy_3 ?_
    refine z_aload_n (i := 0) (pc := 5) C rfl rfl dX4_copy_5 ?_
    refine g_X4_21 (pc := 6) C hr rfl dX4_copy_6 ?_
    refine z_icmp_ge (tgt := 32) (pc := 9) C dX4_copy_9 (by decide) (fun h9 => absurd h9 (by omega)) (fun h9 => ?_)
    refine z_aload_n (i := 0) (pc := 12) C rfl rfl dX4_copy_12 ?_
    refine z_iload_n (i := 1) (pc := 13) C rfl rfl dX4_copy_13 ?_
    refine z_iload (i := 4) (pc := 14) C rfl dX4_copy_14 ?_
    refine z_aload_n (i := 2) (pc := 16) C rfl rfl dX4_copy_16 ?_
    refine z_iload_n (i := 3) (pc := 17) C rfl rfl dX4_copy_17 ?_
    refine z_iload (i := 4) (pc := 18) C rfl dX4_copy_18 ?_
    refine z_callVl (pc := 20) C (c_X4_read hro hco hso) k_X4_44 zy_X4_read rfl rfl hro rfl rfl ⟨(Nat.le_of_ble_eq_true rfl), (Nat.le_of_ble_eq_true rfl)⟩ (Nat.le_of_ble_eq_true rfl) dX4_copy_20 ⟨rfl, rfl⟩ ⟨(Nat.le_of_ble_eq_true rfl), (Nat.le_of_ble_eq_true rfl)⟩ (fun rv ω' hp => ?_)
    obtain ⟨rfl, hp⟩ := hp
    refine z_callVv (pc := 23) C (c_X4_writeN hr hc hs hrow hno) k_X4_40 zy_X4_write rfl rfl hr rfl rfl ⟨(Nat.le_of_ble_eq_true rfl), (Nat.le_of_ble_eq_true rfl)⟩ (Nat.le_of_ble_eq_true rfl) dX4_copy_23 ⟨rfl, rfl⟩ ⟨(Nat.le_of_ble_eq_true rfl), (Nat.le_of_ble_eq_true rfl)⟩ (fun ω' hp => ?_)
    subst hp
    refine z_iinc (i := 4) (lv' := [_, _, _, _, _]) (pc := 26) C rfl (by decide) rfl rfl dX4_copy_26 ?_
    refine z_goto (tgt := 3) (pc := 29) C dX4_copy_29 (by decide) ?_
    exact ih (i + 1) (by omega)
set_option maxRecDepth 100000 in
set_option maxHeartbeats 4000000 in
theorem c_X4_copyN {l0 : Launch} {X : zX} {ω : zWd} {r c h wd : Nat} {u : Int} {g : Int → Int} {ro co ho wo : Nat} {uo : Int} {go : Int → Int} {row fr : Int} (hr : ω.1 r = some (zOb 4 [.int (zI h), .int (zI wd), .ref c, .int (zI u)])) (hc : ω.1 c = some (zAJ X (h * wd) g)) (hs : (0 < h ∧ h ≤ 256) ∧ (0 < wd ∧ wd ≤ 16) ∧ 0 ≤ u ∧ u ≤ h) (hro : ω.1 ro = some (zOb 4 [.int (zI ho), .int (zI wo), .ref co, .int (zI uo)])) (hco : ω.1 co = some (zAJ X (ho * wo) go)) (hso : (0 < ho ∧ ho ≤ 256) ∧ (0 < wo ∧ wo ≤ 16) ∧ 0 ≤ uo ∧ uo ≤ ho) (hrow : -1000000 ≤ row ∧ row ≤ 1000000 := by omega) (hno : row < 0 ∨ u ≤ row) (hfr : 0 ≤ fr ∧ fr < uo := by omega) : zMet l0 yX4_copy cX4_copy 5 none rmX4_copy X [.ref r, .int (zI row), .ref ro, .int (zI fr)] ω (zpv (fun w => w = ω)) := by
  refine zMet.intro (by decide) (Nat.le_of_ble_eq_true rfl) ?_
  intro Γ C E N
  show Zw Γ ω 0 0 0 [_, _, _, _, _] []
  refine z_iconst (pc := 0) C dX4_copy_0 ?_
  refine z_istore (i := 4) (lv' := [_, _, _, _, _]) (pc := 1) C (by decide) rfl rfl dX4_copy_1 ?_
  exact lp_X4_copyN C E hr hc hs hro hco hso hrow hno hfr wd 0 (by omega)
