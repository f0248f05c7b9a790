/-! BOOKS of the class: sums -/
def zs (f : Int → Int) : Nat → Int
  | 0 => 0
  | n + 1 => zs f n + f (n : Int)
theorem zs_b {f : Int → Int} {M : Int} : ∀ {n : Nat}, (∀ k : Int, 0 ≤ k → k < n → 0 ≤ f k ∧ f k ≤ M) → 0 ≤ zs f n ∧ zs f n ≤ n * M
  | 0, _ => by simp [zs]
  | n + 1, h => by
    have h1 := zs_b (n := n) (fun k a b => h k a (by omega))
    have h2 := h n (by omega) (by omega)
    have e : ((n + 1 : Nat) : Int) * M = n * M + M := by rw [Int.natCast_succ, Int.add_mul, Int.one_mul]
    rw [e]
    show 0 ≤ zs f n + f n ∧ zs f n + f n ≤ n * M + M
    omega
theorem zs_c {f g : Int → Int} : ∀ {n : Nat}, (∀ k : Int, 0 ≤ k → k < n → f k = g k) → zs f n = zs g n
  | 0, _ => rfl
  | n + 1, h => by
    have h1 := zs_c (n := n) (fun k a b => h k a (by omega))
    have h2 := h n (by omega) (by omega)
    show zs f n + f n = zs g n + g n
    rw [h1, h2]
/-- the STOP of a BOOK at d -/
def zst (f : Int → Int) (d : Int) : Int := zs (fun k => max (k - d) 0 * f k) 21
def zsq (f : Int → Int) : Int := zs (fun k => k * k * f k) 21
/-- parts of a BOOK that may be -/
def zBk (f : Int → Int) : Prop := ∀ k : Int, 0 ≤ k → k < 21 → 0 ≤ f k ∧ f k ≤ 1000
theorem zBk.sum {f : Int → Int} (h : zBk f) : 0 ≤ zs f 21 ∧ zs f 21 ≤ 21000 := by
  have := zs_b (n := 21) (M := 1000) h
  omega
set_option maxRecDepth 100000 in
set_option maxHeartbeats 4000000 in
theorem c_X0_read {l0 : Launch} {X : zX} {ω : zWd} {b a : Nat} {f : Int → Int} {i : Int} (hb : ω.1 b = some (zOb 0 [.ref a])) (ha : ω.1 a = some (zAI X 21 f)) (hi : 0 ≤ i ∧ i < 21 := by omega) : zMet l0 yX0_read cX0_read 2 (some .int) rmX0_read X [.ref b, .int (zI i)] ω (zpi (fun r w => w = ω ∧ r = f i)) := by
  refine zMet.intro (by decide) (Nat.le_of_ble_eq_true rfl) ?_
  intro Γ C E N
  show Zw Γ ω 0 0 0 [_, _] []
  refine z_iload_n (i := 1) (pc := 0) C rfl rfl dX0_read_0 ?_
  refine z_if_lt (tgt := 22) (pc := 1) C dX0_read_1 (by decide) (fun h1 => absurd h1 (by omega)) (fun h1 => ?_)
  refine z_iload_n (i := 1) (pc := 4) C rfl rfl dX0_read_4 ?_
  refine z_aload_n (i := 0) (pc := 5) C rfl rfl dX0_read_5 ?_
  refine g_X0_9 (pc := 6) C hb rfl dX0_read_6 ?_
  refine z_alenI (pc := 9) C ha dX0_read_9 ?_
  refine z_icmp_ge (tgt := 22) (pc := 10) C dX0_read_10 (by decide) (fun h10 => absurd h10 (by omega)) (fun h10 => ?_)
  refine z_aload_n (i := 0) (pc := 13) C rfl rfl dX0_read_13 ?_
  refine g_X0_9 (pc := 14) C hb rfl dX0_read_14 ?_
  refine z_iload_n (i := 1) (pc := 17) C rfl rfl dX0_read_17 ?_
  refine z_iaload (pc := 18) C ha dX0_read_18 ?_
  refine z_goto (tgt := 23) (pc := 19) C dX0_read_19 (by decide) ?_
  exact z_iret (pc := 23) C E dX0_read_23 ⟨_, rfl, ⟨rfl, rfl⟩⟩
set_option maxRecDepth 100000 in
set_option maxHeartbeats 4000000 in
theorem c_X0_write {l0 : Launch} {X : zX} {ω : zWd} {b a : Nat} {f : Int → Int} {i v : Int} (hb : ω.1 b = some (zOb 0 [.ref a])) (ha : ω.1 a = some (zAI X 21 f)) (hi : 0 ≤ i ∧ i < 21 := by omega) : zMet l0 yX0_write cX0_write 3 none rmX0_write X [.ref b, .int (zI i), .int (zI v)] ω (zpv (fun w => w = zU ω a (zAI X 21 (zup f i v)))) := by
  refine zMet.intro (by decide) (Nat.le_of_ble_eq_true rfl) ?_
  intro Γ C E N
  show Zw Γ ω 0 0 0 [_, _, _] []
  refine z_iload_n (i := 1) (pc := 0) C rfl rfl dX0_write_0 ?_
  refine z_if_lt (tgt := 20) (pc := 1) C dX0_write_1 (by decide) (fun h1 => absurd h1 (by omega)) (fun h1 => ?_)
  refine z_iload_n (i := 1) (pc := 4) C rfl rfl dX0_write_4 ?_
  refine z_aload_n (i := 0) (pc := 5) C rfl rfl dX0_write_5 ?_
  refine g_X0_9 (pc := 6) C hb rfl dX0_write_6 ?_
  refine z_alenI (pc := 9) C ha dX0_write_9 ?_
  refine z_icmp_ge (tgt := 20) (pc := 10) C dX0_write_10 (by decide) (fun h10 => absurd h10 (by omega)) (fun h10 => ?_)
  refine z_aload_n (i := 0) (pc := 13) C rfl rfl dX0_write_13 ?_
  refine g_X0_9 (pc := 14) C hb rfl dX0_write_14 ?_
  refine z_iload_n (i := 1) (pc := 17) C rfl rfl dX0_write_17 ?_
  refine z_iload_n (i := 2) (pc := 18) C rfl rfl dX0_write_18 ?_
  refine z_iastore (pc := 19) C ha dX0_write_19 ?_
  exact z_vret (pc := 20) C E dX0_write_20 ⟨rfl, rfl⟩
set_option maxRecDepth 100000 in
set_option maxHeartbeats 4000000 in
theorem lp_X0_isWhole {Γ : zG} {l0 : Launch} {X : zX} {ω : zWd} {b a : Nat} {f : Int → Int} (C : Zc Γ l0 X rmX0_isWhole 3 cX0_isWhole RX0) (hb : ω.1 b = some (zOb 0 [.ref a])) (ha : ω.1 a = some (zAI X 21 f))  (K : Zw Γ ω 0 0 28 [some (.ref b), some (.int (zI (zs f 21))), some (.int (zI ((21 : Nat) : Int)))] []) : ∀ (j i : Nat), i + j = 21 → Zw Γ ω 0 0 4 [some (.ref b), some (.int (zI (zs f i))), some (.int (zI ((i : Nat) : Int)))] [] := by
  intro j
  induction j with
  | zero =>
    intro i hj
    have e : i = 21 := by omega
    subst e
    refine z_iload_n (i := 2) (pc := 4) C rfl rfl dX0_isWhole_4 ?_
    refine z_aload_n (i := 0) (pc := 5) C rfl rfl dX0_isWhole_5 ?_
    refine g_X0_9 (pc := 6) C hb rfl dX0_isWhole_6 ?_
    refine z_alenI (pc := 9) C ha dX0_isWhole_9 ?_
    refine z_icmp_ge (tgt := 28) (pc := 10) C dX0_isWhole_10 (by decide) (fun h10 => ?_) (fun h10 => absurd h10 (by omega))
    exact K
  | succ j ih =>
    intro i hj
    refine z_iload_n (i := 2) (pc := 4) C rfl rfl dX0_isWhole_4 ?_
    refine z_aload_n (i := 0) (pc := 5) C rfl rfl dX0_isWhole_5 ?_
    refine g_X0_9 (pc := 6) C hb rfl dX0_isWhole_6 ?_
    refine z_alenI (pc := 9) C ha dX0_isWhole_9 ?_
    refine z_icmp_ge (tgt := 28) (pc := 10) C dX0_isWhole_10 (by decide) (fun h10 => absurd h10 (by omega)) (fun h10 => ?_)
    refine z_iload_n (i := 1) (pc := 13) C rfl rfl dX0_isWhole_13 ?_
    refine z_aload_n (i := 0) (pc := 14) C rfl rfl dX0_isWhole_14 ?_
    refine g_X0_9 (pc := 15) C hb rfl dX0_isWhole_15 ?_
    refine z_iload_n (i := 2) (pc := 18) C rfl rfl dX0_isWhole_18 ?_
    refine z_iaload (pc := 19) C ha dX0_isWhole_19 ?_
    refine z_iadd (pc := 20) C dX0_isWhole_20 ?_
    refine z_istore_n (i := 1) (lv' := [_, _, _]) (pc := 21) C rfl (by decide) rfl rfl dX0_isWhole_21 ?_
    refine z_iinc (i := 2) (lv' := [_, _, _]) (pc := 22) C rfl (by decide) rfl rfl dX0_isWhole_22 ?_
    refine z_goto (tgt := 4) (pc := 25) C dX0_isWhole_25 (by decide) ?_
    exact ih (i + 1) (by omega)
set_option maxRecDepth 100000 in
set_option maxHeartbeats 4000000 in
theorem c_X0_isWhole {l0 : Launch} {X : zX} {ω : zWd} {b a : Nat} {f : Int → Int} (hb : ω.1 b = some (zOb 0 [.ref a])) (ha : ω.1 a = some (zAI X 21 f)) (hf : zBk f) : zMet l0 yX0_isWhole cX0_isWhole 3 (some .boolean) rmX0_isWhole X [.ref b] ω (zpi (fun r w => w = ω ∧ r = if zs f 21 = 1000 then 1 else 0)) := by
  refine zMet.intro (by decide) (Nat.le_of_ble_eq_true rfl) ?_
  intro Γ C E N
  show Zw Γ ω 0 0 0 [_, _, _] []
  have hs := hf.sum
  refine z_iconst (pc := 0) C dX0_isWhole_0 ?_
  refine z_istore_n (i := 1) (lv' := [_, _, _]) (pc := 1) C rfl (by decide) rfl rfl dX0_isWhole_1 ?_
  refine z_iconst (pc := 2) C dX0_isWhole_2 ?_
  refine z_istore_n (i := 2) (lv' := [_, _, _]) (pc := 3) C rfl (by decide) rfl rfl dX0_isWhole_3 ?_
  refine lp_X0_isWhole C hb ha ?_ 21 0 rfl
  refine z_iload_n (i := 1) (pc := 28) C rfl rfl dX0_isWhole_28 ?_
  refine z_sipush (pc := 29) C (by decide +kernel) dX0_isWhole_29 ?_
  refine z_icmp_ne (tgt := 39) (pc := 32) C dX0_isWhole_32 (by decide) (fun h32 => ?_) (fun h32 => ?_)
  · refine z_iconst (pc := 39) C dX0_isWhole_39 ?_
    exact z_zret (pc := 40) C E (by decide +kernel) dX0_isWhole_40 ⟨_, rfl, ⟨rfl, by simp only [h32]; simp⟩⟩
  · refine z_iconst (pc := 35) C dX0_isWhole_35 ?_
    refine z_goto (tgt := 40) (pc := 36) C dX0_isWhole_36 (by decide) ?_
    exact z_zret (pc := 40) C E (by decide +kernel) dX0_isWhole_40 ⟨_, rfl, ⟨rfl, by simp only [h32]; simp⟩⟩
set_option maxRecDepth 100000 in
set_option maxHeartbeats 4000000 in
theorem lp_X0_stopAbove {Γ : zG} {l0 : Launch} {X : zX} {ω : zWd} {b a : Nat} {f : Int → Int} (C : Zc Γ l0 X rmX0_stopAbove 4 cX0_stopAbove RX0) (hb : ω.1 b = some (zOb 0 [.ref a])) (ha : ω.1 a = some (zAI X 21 f)) {d : Int} (hd : 0 ≤ d ∧ d < 21) (K : Zw Γ ω 0 0 36 [some (.ref b), some (.int (zI d)), some (.int (zI (zs (fun k => max (k - d) 0 * f k) 21))), some (.int (zI ((21 : Nat) : Int)))] []) : ∀ (j i : Nat), i + j = 21 → Zw Γ ω 0 0 4 [some (.ref b), some (.int (zI d)), some (.int (zI (zs (fun k => max (k - d) 0 * f k) i))), some (.int (zI ((i : Nat) : Int)))] [] := by
  intro j
  induction j with
  | zero =>
    intro i hj
    have e : i = 21 := by omega
    subst e
    refine z_iload_n (i := 3) (pc := 4) C rfl rfl dX0_stopAbove_4 ?_
    refine z_aload_n (i := 0) (pc := 5) C rfl rfl dX0_stopAbove_5 ?_
    refine g_X0_9 (pc := 6) C hb rfl dX0_stopAbove_6 ?_
    refine z_alenI (pc := 9) C ha dX0_stopAbove_9 ?_
    refine z_icmp_ge (tgt := 36) (pc := 10) C dX0_stopAbove_10 (by decide) (fun h10 => ?_) (fun h10 => absurd h10 (by omega))
    exact K
  | succ j ih =>
    intro i hj
    refine z_iload_n (i := 3) (pc := 4) C rfl rfl dX0_stopAbove_4 ?_
    refine z_aload_n (i := 0) (pc := 5) C rfl rfl dX0_stopAbove_5 ?_
    refine g_X0_9 (pc := 6) C hb rfl dX0_stopAbove_6 ?_
    refine z_alenI (pc := 9) C ha dX0_stopAbove_9 ?_
    refine z_icmp_ge (tgt := 36) (pc := 10) C dX0_stopAbove_10 (by decide) (fun h10 => absurd h10 (by omega)) (fun h10 => ?_)
    refine z_iload_n (i := 2) (pc := 13) C rfl rfl dX0_stopAbove_13 ?_
    refine z_iload_n (i := 3) (pc := 14) C rfl rfl dX0_stopAbove_14 ?_
    refine z_iload_n (i := 1) (pc := 15) C rfl rfl dX0_stopAbove_15 ?_
    refine z_isub (pc := 16) C dX0_stopAbove_16 ?_
    refine z_iconst (pc := 17) C dX0_stopAbove_17 ?_
    refine z_callSi (pc := 18) C (c_J9_max_7cf53) k_X0_19 zy_J9_max_7cf53.2 rfl rfl ⟨(Nat.le_of_ble_eq_true rfl), (Nat.le_of_ble_eq_true rfl)⟩ (Nat.le_of_ble_eq_true rfl) dX0_stopAbove_18 ⟨rfl, rfl⟩ ⟨(Nat.le_of_ble_eq_true rfl), (Nat.le_of_ble_eq_true rfl)⟩ (fun rv ω' hp => ?_)
    obtain ⟨rfl, rfl⟩ := hp
    refine z_aload_n (i := 0) (pc := 21) C rfl rfl dX0_stopAbove_21 ?_
    refine g_X0_9 (pc := 22) C hb rfl dX0_stopAbove_22 ?_
    refine z_iload_n (i := 3) (pc := 25) C rfl rfl dX0_stopAbove_25 ?_
    refine z_iaload (pc := 26) C ha dX0_stopAbove_26 ?_
    refine z_imul (pc := 27) C dX0_stopAbove_27 ?_
    refine z_iadd (pc := 28) C dX0_stopAbove_28 ?_
    refine z_istore_n (i := 2) (lv' := [_, _, _, _]) (pc := 29) C rfl (by decide) rfl rfl dX0_stopAbove_29 ?_
    refine z_iinc (i := 3) (lv' := [_, _, _, _]) (pc := 30) C rfl (by decide) rfl rfl dX0_stopAbove_30 ?_
    refine z_goto (tgt := 4) (pc := 33) C dX0_stopAbove_33 (by decide) ?_
    exact ih (i + 1) (by omega)
set_option maxRecDepth 100000 in
set_option maxHeartbeats 4000000 in
theorem c_X0_stopAbove {l0 : Launch} {X : zX} {ω : zWd} {b a : Nat} {f : Int → Int} {d : Int} (hb : ω.1 b = some (zOb 0 [.ref a])) (ha : ω.1 a = some (zAI X 21 f)) (hd : 0 ≤ d ∧ d < 21 := by omega) : zMet l0 yX0_stopAbove cX0_stopAbove 4 (some .int) rmX0_stopAbove X [.ref b, .int (zI d)] ω (zpi (fun r w => w = ω ∧ r = zst f d)) := by
  refine zMet.intro (by decide) (Nat.le_of_ble_eq_true rfl) ?_
  intro Γ C E N
  show Zw Γ ω 0 0 0 [_, _, _, _] []
  refine z_iconst (pc := 0) C dX0_stopAbove_0 ?_
  refine z_istore_n (i := 2) (lv' := [_, _, _, _]) (pc := 1) C rfl (by decide) rfl rfl dX0_stopAbove_1 ?_
  refine z_iconst (pc := 2) C dX0_stopAbove_2 ?_
  refine z_istore_n (i := 3) (lv' := [_, _, _, _]) (pc := 3) C rfl (by decide) rfl rfl dX0_stopAbove_3 ?_
  refine lp_X0_stopAbove C hb ha hd ?_ 21 0 rfl
  refine z_iload_n (i := 2) (pc := 36) C rfl rfl dX0_stopAbove_36 ?_
  exact z_iret (pc := 37) C E dX0_stopAbove_37 ⟨_, rfl, ⟨rfl, rfl⟩⟩
set_option maxRecDepth 100000 in
set_option maxHeartbeats 4000000 in
theorem c_X0_mean {l0 : Launch} {X : zX} {ω : zWd} {b a : Nat} {f : Int → Int} (hb : ω.1 b = some (zOb 0 [.ref a])) (ha : ω.1 a = some (zAI X 21 f)) : zMet l0 yX0_mean cX0_mean 1 (some .int) rmX0_mean X [.ref b] ω (zpi (fun r w => w = ω ∧ r = zst f 0)) := by
  refine zMet.intro (by decide) (Nat.le_of_ble_eq_true rfl) ?_
  intro Γ C E N
  show Zw Γ ω 0 0 0 [_] []
  refine z_aload_n (i := 0) (pc := 0) C rfl rfl dX0_mean_0 ?_
  refine z_iconst (pc := 1) C dX0_mean_1 ?_
  refine z_callVi (pc := 2) C (c_X0_stopAbove hb ha) k_X0_15 zy_X0_stopAbove rfl rfl hb rfl rfl ⟨(Nat.le_of_ble_eq_true rfl), (Nat.le_of_ble_eq_true rfl)⟩ (Nat.le_of_ble_eq_true rfl) dX0_mean_2 ⟨rfl, rfl⟩ ⟨(Nat.le_of_ble_eq_true rfl), (Nat.le_of_ble_eq_true rfl)⟩ (fun rv ω' hp => ?_)
  obtain ⟨rfl, rfl⟩ := hp
  exact z_iret (pc := 5) C E dX0_mean_5 ⟨_, rfl, ⟨rfl, rfl⟩⟩
set_option maxRecDepth 100000 in
set_option maxHeartbeats 4000000 in
theorem lp_X0_spread {Γ : zG} {l0 : Launch} {X : zX} {ω : zWd} {b a : Nat} {f : Int → Int} (C : Zc Γ l0 X rmX0_spread 3 cX0_spread RX0) (hb : ω.1 b = some (zOb 0 [.ref a])) (ha : ω.1 a = some (zAI X 21 f))  (K : Zw Γ ω 0 0 32 [some (.ref b), some (.int (zI (zs (fun k => k * k * f k) 21))), some (.int (zI ((21 : Nat) : Int)))] []) : ∀ (j i : Nat), i + j = 21 → Zw Γ ω 0 0 4 [some (.ref b), some (.int (zI (zs (fun k => k * k * f k) i))), some (.int (zI ((i : Nat) : Int)))] [] := by
  intro j
  induction j with
  | zero =>
    intro i hj
    have e : i = 21 := by omega
    subst e
    refine z_iload_n (i := 2) (pc := 4) C rfl rfl dX0_spread_4 ?_
    refine z_aload_n (i := 0) (pc := 5) C rfl rfl dX0_spread_5 ?_
    refine g_X0_9 (pc := 6) C hb rfl dX0_spread_6 ?_
    refine z_alenI (pc := 9) C ha dX0_spread_9 ?_
    refine z_icmp_ge (tgt := 32) (pc := 10) C dX0_spread_10 (by decide) (fun h10 => ?_) (fun h10 => absurd h10 (by omega))
    exact K
  | succ j ih =>
    intro i hj
    refine z_iload_n (i := 2) (pc := 4) C rfl rfl dX0_spread_4 ?_
    refine z_aload_n (i := 0) (pc := 5) C rfl rfl dX0_spread_5 ?_
    refine g_X0_9 (pc := 6) C hb rfl dX0_spread_6 ?_
    refine z_alenI (pc := 9) C ha dX0_spread_9 ?_
    refine z_icmp_ge (tgt := 32) (pc := 10) C dX0_spread_10 (by decide) (fun h10 => absurd h10 (by omega)) (fun h10 => ?_)
    refine z_iload_n (i := 1) (pc := 13) C rfl rfl dX0_spread_13 ?_
    refine z_iload_n (i := 2) (pc := 14) C rfl rfl dX0_spread_14 ?_
    refine z_iload_n (i := 2) (pc := 15) C rfl rfl dX0_spread_15 ?_
    refine z_imul (pc := 16) C dX0_spread_16 ?_
    refine z_aload_n (i := 0) (pc := 17) C rfl rfl dX0_spread_17 ?_
    refine g_X0_9 (pc := 18) C hb rfl dX0_spread_18 ?_
    refine z_iload_n (i := 2) (pc := 21) C rfl rfl dX0_spread_21 ?_
    refine z_iaload (pc := 22) C ha dX0_spread_22 ?_
    refine z_imul (pc := 23) C dX0_spread_23 ?_
    refine z_iadd (pc := 24) C dX0_spread_24 ?_
    refine z_istore_n (i := 1) (lv' := [_, _, _]) (pc := 25) C rfl (by decide) rfl rfl dX0_spread_25 ?_
    refine z_iinc (i := 2) (lv' := [_, _, _]) (pc := 26) C rfl (by decide) rfl rfl dX0_spread_26 ?_
    refine z_goto (tgt := 4) (pc := 29) C dX0_spread_29 (by decide) ?_
    exact ih (i + 1) (by omega)
set_option maxRecDepth 100000 in
set_option maxHeartbeats 4000000 in
theorem c_X0_spread {l0 : Launch} {X : zX} {ω : zWd} {b a : Nat} {f : Int → Int} (hb : ω.1 b = some (zOb 0 [.ref a])) (ha : ω.1 a = some (zAI X 21 f)) : zMet l0 yX0_spread cX0_spread 3 (some .int) rmX0_spread X [.ref b] ω (zpi (fun r w => w = ω ∧ r = 1000 * zsq f - zst f 0 * zst f 0)) := by
  refine zMet.intro (by decide) (Nat.le_of_ble_eq_true rfl) ?_
  intro Γ C E N
  show Zw Γ ω 0 0 0 [_, _, _] []
  refine z_iconst (pc := 0) C dX0_spread_0 ?_
  refine z_istore_n (i := 1) (lv' := [_, _, _]) (pc := 1) C rfl (by decide) rfl rfl dX0_spread_1 ?_
  refine z_iconst (pc := 2) C dX0_spread_2 ?_
  refine z_istore_n (i := 2) (lv' := [_, _, _]) (pc := 3) C rfl (by decide) rfl rfl dX0_spread_3 ?_
  refine lp_X0_spread C hb ha ?_ 21 0 rfl
  refine z_sipush (pc := 32) C (by decide +kernel) dX0_spread_32 ?_
  refine z_iload_n (i := 1) (pc := 35) C rfl rfl dX0_spread_35 ?_
  refine z_imul (pc := 36) C dX0_spread_36 ?_
  refine z_aload_n (i := 0) (pc := 37) C rfl rfl dX0_spread_37 ?_
  refine z_callVi (pc := 38) C (c_X0_mean hb ha) k_X0_25 zy_X0_mean rfl rfl hb rfl rfl ⟨(Nat.le_of_ble_eq_true rfl), (Nat.le_of_ble_eq_true rfl)⟩ (Nat.le_of_ble_eq_true rfl) dX0_spread_38 ⟨rfl, rfl⟩ ⟨(Nat.le_of_ble_eq_true rfl), (Nat.le_of_ble_eq_true rfl)⟩ (fun rv ω' hp => ?_)
  obtain ⟨rfl, rfl⟩ := hp
  refine z_aload_n (i := 0) (pc := 41) C rfl rfl dX0_spread_41 ?_
  refine z_callVi (pc := 42) C (c_X0_mean hb ha) k_X0_25 zy_X0_mean rfl rfl hb rfl rfl ⟨(Nat.le_of_ble_eq_true rfl), (Nat.le_of_ble_eq_true rfl)⟩ (Nat.le_of_ble_eq_true rfl) dX0_spread_42 ⟨rfl, rfl⟩ ⟨(Nat.le_of_ble_eq_true rfl), (Nat.le_of_ble_eq_true rfl)⟩ (fun rv ω' hp => ?_)
  obtain ⟨rfl, rfl⟩ := hp
  refine z_imul (pc := 45) C dX0_spread_45 ?_
  refine z_isub (pc := 46) C dX0_spread_46 ?_
  exact z_iret (pc := 47) C E dX0_spread_47 ⟨_, rfl, ⟨rfl, rfl⟩⟩
