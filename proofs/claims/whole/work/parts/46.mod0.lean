/-! THE MODEL'S NUMBERS: 72 limbs below 1000 -/
def zNm (f : Int → Int) (V : Int) : Prop := (∀ k : Int, 0 ≤ k → k < 72 → 0 ≤ f k ∧ f k < 1000) ∧ zv 1000 f 72 = V
theorem zk_pow (k : Nat) : (1000 : Int) ^ k = 10 ^ (3 * k) := by rw [show (1000 : Int) = 10 ^ 3 by decide, ← Int.pow_mul]
theorem zk_mono {a b : Nat} (h : a ≤ b) : (1000 : Int) ^ a ≤ 1000 ^ b := by rw [zk_pow, zk_pow]; exact zp10 (by omega)
theorem zNm.b {f : Int → Int} {V : Int} (h : zNm f V) : 0 ≤ V ∧ V < 1000 ^ 72 := by
  have := zv_b (B := 1000) (by decide) (n := 72) h.1
  rw [h.2] at this
  exact this
theorem zNm.up {f : Int → Int} {V : Int} (h : zNm f V) {m : Nat} (hV : V < 1000 ^ m) (k : Int) (h1 : (m : Int) ≤ k) (h2 : k < 72) : f k = 0 := by
  have h0 := h.b
  have h3 := zv_at (B := 1000) (f := f) (by decide) (n := 72) (i := k.toNat) (by omega) h.1
  rw [show ((k.toNat : Nat) : Int) = k by omega, h.2] at h3
  have h4 : (1000 : Int) ^ m ≤ 1000 ^ k.toNat := zk_mono (by omega)
  rw [Int.ediv_eq_zero_of_lt h0.1 (by omega)] at h3
  rw [← h3]
  rfl
theorem zNm.sp {f : Int → Int} {V : Int} (h : zNm f V) {m : Nat} (hm : m ≤ 72) (hV : V < 1000 ^ m) : zv 1000 f m = V := by
  rw [← h.2]
  exact (zv_z hm (fun k a b => h.up hV k a b)).symm
theorem zNm.c {f g : Int → Int} {V : Int} (h : zNm f V) (hg : ∀ k : Int, 0 ≤ k → k < 72 → g k = f k) : zNm g V := ⟨fun k a b => by rw [hg k a b]; exact h.1 k a b, by rw [← h.2]; exact zv_c (fun k a b => hg k a (by omega))⟩
theorem zNm_0 {g : Int → Int} (hg : ∀ k : Int, 0 ≤ k → k < 72 → g k = 0) : zNm g 0 := ⟨fun k a b => by rw [hg k a b]; decide, zv_0 (fun k a b => hg k a (by omega))⟩
theorem zNm.e {f : Int → Int} {V V2 : Int} (h : zNm f V) (e : V = V2) : zNm f V2 := e ▸ h
theorem zv_u1 {B : Int} {g : Int → Int} {i : Nat} {v : Int} : ∀ {n : Nat}, i < n → zv B (zup g (i : Int) v) n = zv B g n + (v - g i) * B ^ i
  | 0, h => by omega
  | n + 1, h => by
    rw [zv_s, zv_s]
    by_cases e : i = n
    · subst e
      rw [zup_s, zv_c (g := g) (fun k a b => zup_n (by omega))]
      grind
    · rw [zv_u1 (n := n) (by omega), zup_n (by omega)]
      omega
set_option maxRecDepth 100000 in
set_option maxHeartbeats 4000000 in
theorem c_X7_in {l0 : Launch} {X : zX} {ω : zWd} {v a b : Int} (hvr : -2147483648 ≤ v ∧ v < 2147483648 := by omega) (har : -2147483648 ≤ a ∧ a < 2147483648 := by omega) (hbr : -2147483648 ≤ b ∧ b < 2147483648 := by omega) : zMet l0 yX7_in cX7_in 3 (some .boolean) rmX7_in X [.int (zI v), .int (zI a), .int (zI b)] ω (zpi (fun r w => w = ω ∧ ((a ≤ v ∧ v ≤ b ∧ r = 1) ∨ ((v < a ∨ b < v) ∧ r = 0)))) := by
  refine zMet.intro (by decide) (Nat.le_of_ble_eq_true rfl) ?_
  intro Γ C E N
  show Zw Γ ω 0 0 0 [some _, some _, some _] []
  refine z_iload_n (i := 0) (pc := 0) C rfl rfl dX7_in_0 ?_
  refine z_iload_n (i := 1) (pc := 1) C rfl rfl dX7_in_1 ?_
  refine z_icmp_lt (tgt := 14) (pc := 2) C dX7_in_2 (by decide) (fun h2 => ?_) (fun h2 => ?_)
  · refine z_iconst (pc := 14) C dX7_in_14 ?_
    exact z_zret (pc := 15) C E (by decide +kernel) dX7_in_15 ⟨_, rfl, ⟨rfl, by omega⟩⟩
  · refine z_iload_n (i := 0) (pc := 5) C rfl rfl dX7_in_5 ?_
    refine z_iload_n (i := 2) (pc := 6) C rfl rfl dX7_in_6 ?_
    refine z_icmp_gt (tgt := 14) (pc := 7) C dX7_in_7 (by decide) (fun h7 => ?_) (fun h7 => ?_)
    · refine z_iconst (pc := 14) C dX7_in_14 ?_
      exact z_zret (pc := 15) C E (by decide +kernel) dX7_in_15 ⟨_, rfl, ⟨rfl, by omega⟩⟩
    · refine z_iconst (pc := 10) C dX7_in_10 ?_
      refine z_goto (tgt := 15) (pc := 11) C dX7_in_11 (by decide) ?_
      exact z_zret (pc := 15) C E (by decide +kernel) dX7_in_15 ⟨_, rfl, ⟨rfl, by omega⟩⟩
set_option maxRecDepth 100000 in
set_option maxHeartbeats 4000000 in
theorem c_X7_isBook {l0 : Launch} {X : zX} {ω : zWd} {b : Int} (hbr : -2147483648 ≤ b ∧ b < 2147483648) : zMet l0 yX7_isBook cX7_isBook 1 (some .boolean) rmX7_isBook X [.int (zI b)] ω (zpi (fun r w => w = ω ∧ ((0 ≤ b ∧ b < 8 ∧ r = 1) ∨ ((b < 0 ∨ 8 ≤ b) ∧ r = 0)))) := by
  refine zMet.intro (by decide) (Nat.le_of_ble_eq_true rfl) ?_
  intro Γ C E N
  show Zw Γ ω 0 0 0 [some _] []
  refine z_iload_n (i := 0) (pc := 0) C rfl rfl dX7_isBook_0 ?_
  refine z_iconst (pc := 1) C dX7_isBook_1 ?_
  refine z_bipush (pc := 2) C (by decide +kernel) dX7_isBook_2 ?_
  refine z_callSi (pc := 4) C (c_X7_in) k_X7_80 zy_X7_in.2 rfl rfl ⟨(Nat.le_of_ble_eq_true rfl), (Nat.le_of_ble_eq_true rfl)⟩ (Nat.le_of_ble_eq_true rfl) dX7_isBook_4 ⟨rfl, rfl⟩ ⟨(Nat.le_of_ble_eq_true rfl), (Nat.le_of_ble_eq_true rfl)⟩ (fun rv ω' hp => ?_)
  obtain ⟨hw', hp⟩ := hp
  rw [hw']
  exact z_zret (pc := 7) C E (by rcases (by omega : rv = 0 ∨ rv = 1) with rfl | rfl <;> decide +kernel) dX7_isBook_7 ⟨_, rfl, ⟨rfl, by omega⟩⟩
set_option maxRecDepth 100000 in
set_option maxHeartbeats 4000000 in
theorem lp_X7_zero {Γ : zG} {l0 : Launch} {X : zX} {ω : zWd} {a : Nat} (C : Zc Γ l0 X rmX7_zero 2 cX7_zero RX7) (E : Ze Γ (zpv (fun w => ∃ g2, w = zU ω a (zAI X 72 g2) ∧ zNm g2 0)) 0 0 none) : ∀ (j i : Nat) (g : Int → Int), i + j = 72 → (∀ k : Int, 0 ≤ k → k < i → g k = 0) → Zw Γ (zU ω a (zAI X 72 g)) 0 0 2 [some (.ref a), some (.int (zI (i : Int)))] [] := by
  intro j
  induction j with
  | zero =>
    intro i g hj hg
    refine z_iload_n (i := 1) (pc := 2) C rfl rfl dX7_zero_2 ?_
    refine z_bipush (pc := 3) C (by decide +kernel) dX7_zero_3 ?_
    refine z_icmp_ge (tgt := 18) (pc := 5) C dX7_zero_5 (by decide) (fun h5 => ?_) (fun h5 => absurd h5 (by omega))
    exact z_vret (pc := 18) C E dX7_zero_18 ⟨rfl, ⟨g, rfl, zNm_0 (fun k a b => hg k a (by omega))⟩⟩
  | succ j ih =>
    intro i g hj hg
    refine z_iload_n (i := 1) (pc := 2) C rfl rfl dX7_zero_2 ?_
    refine z_bipush (pc := 3) C (by decide +kernel) dX7_zero_3 ?_
    refine z_icmp_ge (tgt := 18) (pc := 5) C dX7_zero_5 (by decide) (fun h5 => absurd h5 (by omega)) (fun h5 => ?_)
    refine z_aload_n (i := 0) (pc := 8) C rfl rfl dX7_zero_8 ?_
    refine z_iload_n (i := 1) (pc := 9) C rfl rfl dX7_zero_9 ?_
    refine z_iconst (pc := 10) C dX7_zero_10 ?_
    refine z_iastore (pc := 11) C (zU_s _ _ _) dX7_zero_11 ?_
    rw [zU_u]
    refine z_iinc (i := 1) (lv' := [_, _]) (pc := 12) C rfl (by decide) rfl rfl dX7_zero_12 ?_
    refine z_goto (tgt := 2) (pc := 15) C dX7_zero_15 (by decide) ?_
    exact ih (i + 1) _ (by omega) (fun k a b => by
      by_cases e : k = i
      · rw [e, zup_s]
      · rw [zup_n e]; exact hg k a (by omega))
set_option maxRecDepth 100000 in
set_option maxHeartbeats 4000000 in
theorem c_X7_zero {l0 : Launch} {X : zX} {ω : zWd} {a : Nat} {f : Int → Int} (ha : ω.1 a = some (zAI X 72 f)) : zMet l0 yX7_zero cX7_zero 2 none rmX7_zero X [.ref a] ω (zpv (fun w => ∃ g2, w = zU ω a (zAI X 72 g2) ∧ zNm g2 0)) := by
  refine zMet.intro (by decide) (Nat.le_of_ble_eq_true rfl) ?_
  intro Γ C E N
  show Zw Γ ω 0 0 0 [some _, none] []
  refine z_iconst (pc := 0) C dX7_zero_0 ?_
  refine z_istore_n (i := 1) (lv' := [_, _]) (pc := 1) C rfl (by decide) rfl rfl dX7_zero_1 ?_
  have h := lp_X7_zero (ω := ω) (a := a) C E 72 0 f rfl (fun k a b => by omega)
  rw [zU_id ha] at h
  exact h
set_option maxRecDepth 100000 in
set_option maxHeartbeats 4000000 in
theorem lp_X7_copy {Γ : zG} {l0 : Launch} {X : zX} {ω : zWd} {a b : Nat} {f : Int → Int} {V : Int} (C : Zc Γ l0 X rmX7_copy 3 cX7_copy RX7) (E : Ze Γ (zpv (fun w => ∃ g2, w = zU ω b (zAI X 72 g2) ∧ zNm g2 V)) 0 0 none) (ha : ω.1 a = some (zAI X 72 f)) (hV : zNm f V) (hab : a ≠ b) : ∀ (j i : Nat) (g : Int → Int), i + j = 72 → (∀ k : Int, 0 ≤ k → k < i → g k = f k) → Zw Γ (zU ω b (zAI X 72 g)) 0 0 2 [some (.ref a), some (.ref b), some (.int (zI (i : Int)))] [] := by
  intro j
  induction j with
  | zero =>
    intro i g hj hg
    refine z_iload_n (i := 2) (pc := 2) C rfl rfl dX7_copy_2 ?_
    refine z_bipush (pc := 3) C (by decide +kernel) dX7_copy_3 ?_
    refine z_icmp_ge (tgt := 20) (pc := 5) C dX7_copy_5 (by decide) (fun h5 => ?_) (fun h5 => absurd h5 (by omega))
    exact z_vret (pc := 20) C E dX7_copy_20 ⟨rfl, ⟨g, rfl, hV.c (fun k a b => hg k a (by omega))⟩⟩
  | succ j ih =>
    intro i g hj hg
    refine z_iload_n (i := 2) (pc := 2) C rfl rfl dX7_copy_2 ?_
    refine z_bipush (pc := 3) C (by decide +kernel) dX7_copy_3 ?_
    refine z_icmp_ge (tgt := 20) (pc := 5) C dX7_copy_5 (by decide) (fun h5 => absurd h5 (by omega)) (fun h5 => ?_)
    refine z_aload_n (i := 1) (pc := 8) C rfl rfl dX7_copy_8 ?_
    refine z_iload_n (i := 2) (pc := 9) C rfl rfl dX7_copy_9 ?_
    refine z_aload_n (i := 0) (pc := 10) C rfl rfl dX7_copy_10 ?_
    refine z_iload_n (i := 2) (pc := 11) C rfl rfl dX7_copy_11 ?_
    refine z_iaload (pc := 12) C (zU_n' hab ha) dX7_copy_12 ?_
    refine z_iastore (pc := 13) C (zU_s _ _ _) dX7_copy_13 ?_
    rw [zU_u]
    refine z_iinc (i := 2) (lv' := [_, _, _]) (pc := 14) C rfl (by decide) rfl rfl dX7_copy_14 ?_
    refine z_goto (tgt := 2) (pc := 17) C dX7_copy_17 (by decide) ?_
    exact ih (i + 1) _ (by omega) (fun k a b => by
      by_cases e : k = i
      · rw [e, zup_s]
      · rw [zup_n e]; exact hg k a (by omega))
set_option maxRecDepth 100000 in
set_option maxHeartbeats 4000000 in
theorem c_X7_copy {l0 : Launch} {X : zX} {ω : zWd} {a b : Nat} {f h : Int → Int} {V : Int} (ha : ω.1 a = some (zAI X 72 f)) (hV : zNm f V) (hab : a ≠ b) (hb : ω.1 b = some (zAI X 72 h)) : zMet l0 yX7_copy cX7_copy 3 none rmX7_copy X [.ref a, .ref b] ω (zpv (fun w => ∃ g2, w = zU ω b (zAI X 72 g2) ∧ zNm g2 V)) := by
  refine zMet.intro (by decide) (Nat.le_of_ble_eq_true rfl) ?_
  intro Γ C E N
  show Zw Γ ω 0 0 0 [some _, some _, none] []
  refine z_iconst (pc := 0) C dX7_copy_0 ?_
  refine z_istore_n (i := 2) (lv' := [_, _, _]) (pc := 1) C rfl (by decide) rfl rfl dX7_copy_1 ?_
  have h := lp_X7_copy (ω := ω) (a := a) (b := b) C E ha hV hab 72 0 h rfl (fun k a b => by omega)
  rw [zU_id hb] at h
  exact h
set_option maxRecDepth 100000 in
set_option maxHeartbeats 4000000 in
theorem lp_X7_isNought {Γ : zG} {l0 : Launch} {X : zX} {ω : zWd} {m a : Nat} {f : Int → Int} {V : Int} (C : Zc Γ l0 X rmX7_isNought 3 cX7_isNought RX7) (E : Ze Γ (zpi (fun r w => w = ω ∧ ((V = 0 ∧ r = 1) ∨ (0 < V ∧ r = 0)))) 0 0 (some .boolean)) (ha : ω.1 a = some (zAI X 72 f)) (hV : zNm f V) : ∀ (j i : Nat), i + j = 72 → (∀ k : Int, 0 ≤ k → k < i → f k = 0) → Zw Γ ω 0 0 2 [some (.ref m), some (.ref a), some (.int (zI (i : Int)))] [] := by
  intro j
  induction j with
  | zero =>
    intro i hj hg
    refine z_iload_n (i := 2) (pc := 2) C rfl rfl dX7_isNought_2 ?_
    refine z_bipush (pc := 3) C (by decide +kernel) dX7_isNought_3 ?_
    refine z_icmp_ge (tgt := 22) (pc := 5) C dX7_isNought_5 (by decide) (fun h5 => ?_) (fun h5 => absurd h5 (by omega))
    refine z_iconst (pc := 22) C dX7_isNought_22 ?_
    exact z_zret (pc := 23) C E (by decide +kernel) dX7_isNought_23 ⟨_, rfl, ⟨rfl, Or.inl ⟨by rw [← hV.2]; exact zv_0 (fun k a b => hg k a (by omega)), rfl⟩⟩⟩
  | succ j ih =>
    intro i hj hg
    have hr := hV.1 i (by omega) (by omega)
    refine z_iload_n (i := 2) (pc := 2) C rfl rfl dX7_isNought_2 ?_
    refine z_bipush (pc := 3) C (by decide +kernel) dX7_isNought_3 ?_
    refine z_icmp_ge (tgt := 22) (pc := 5) C dX7_isNought_5 (by decide) (fun h5 => absurd h5 (by omega)) (fun h5 => ?_)
    refine z_aload_n (i := 1) (pc := 8) C rfl rfl dX7_isNought_8 ?_
    refine z_iload_n (i := 2) (pc := 9) C rfl rfl dX7_isNought_9 ?_
    refine z_iaload (pc := 10) C ha dX7_isNought_10 ?_
    refine z_if_eq (tgt := 16) (pc := 11) C dX7_isNought_11 (by decide) (fun h11 => ?_) (fun h11 => ?_)
    · refine z_iinc (i := 2) (lv' := [_, _, _]) (pc := 16) C rfl (by decide) rfl rfl dX7_isNought_16 ?_
      refine z_goto (tgt := 2) (pc := 19) C dX7_isNought_19 (by decide) ?_
      exact ih (i + 1) (by omega) (fun k a b => by
        by_cases e : k = i
        · rw [e]; exact h11
        · exact hg k a (by omega))
    · refine z_iconst (pc := 14) C dX7_isNought_14 ?_
      exact z_zret (pc := 15) C E (by decide +kernel) dX7_isNought_15 ⟨_, rfl, ⟨rfl, Or.inr ⟨by have h0 := hV.b; by_cases e : V = 0; (· exact absurd (hV.up (m := 0) (by rw [e]; decide) (i : Int) (by omega) (by omega)) h11); (· omega), rfl⟩⟩⟩
set_option maxRecDepth 100000 in
set_option maxHeartbeats 4000000 in
theorem c_X7_isNought {l0 : Launch} {X : zX} {ω : zWd} {m a : Nat} {f : Int → Int} {V : Int} (ha : ω.1 a = some (zAI X 72 f)) (hV : zNm f V) : zMet l0 yX7_isNought cX7_isNought 3 (some .boolean) rmX7_isNought X [.ref m, .ref a] ω (zpi (fun r w => w = ω ∧ ((V = 0 ∧ r = 1) ∨ (0 < V ∧ r = 0)))) := by
  refine zMet.intro (by decide) (Nat.le_of_ble_eq_true rfl) ?_
  intro Γ C E N
  show Zw Γ ω 0 0 0 [some _, some _, none] []
  refine z_iconst (pc := 0) C dX7_isNought_0 ?_
  refine z_istore_n (i := 2) (lv' := [_, _, _]) (pc := 1) C rfl (by decide) rfl rfl dX7_isNought_1 ?_
  exact lp_X7_isNought C E ha hV 72 0 rfl (fun k a b => by omega)
set_option maxRecDepth 100000 in
set_option maxHeartbeats 4000000 in
theorem lp_X7_compare {Γ : zG} {l0 : Launch} {X : zX} {ω : zWd} {a b : Nat} {f g : Int → Int} {V U : Int} (C : Zc Γ l0 X rmX7_compare 3 cX7_compare RX7) (E : Ze Γ (zpi (fun r w => w = ω ∧ ((V < U ∧ r = -1) ∨ (V = U ∧ r = 0) ∨ (U < V ∧ r = 1)))) 0 0 (some .int)) (ha : ω.1 a = some (zAI X 72 f)) (hV : zNm f V) (hb : ω.1 b = some (zAI X 72 g)) (hU : zNm g U) : ∀ (i : Nat), i ≤ 72 → (∀ k : Int, (i : Int) ≤ k → k < 72 → f k = g k) → Zw Γ ω 0 0 3 [some (.ref a), some (.ref b), some (.int (zI ((i : Int) - 1)))] [] := by
  intro i
  induction i with
  | zero =>
    intro hj hg
    refine z_iload_n (i := 2) (pc := 3) C rfl rfl dX7_compare_3 ?_
    refine z_if_lt (tgt := 37) (pc := 4) C dX7_compare_4 (by decide) (fun h4 => ?_) (fun h4 => absurd h4 (by omega))
    refine z_iconst (pc := 37) C dX7_compare_37 ?_
    exact z_iret (pc := 38) C E dX7_compare_38 ⟨_, rfl, ⟨rfl, Or.inr (Or.inl ⟨by rw [← hV.2, ← hU.2]; exact zv_c (fun k a b => hg k a (by omega)), rfl⟩)⟩⟩
  | succ i ih =>
    intro hj hg
    rw [show ((i + 1 : Nat) : Int) - 1 = (i : Int) by omega]
    have h1 := hV.1 i (by omega) (by omega)
    have h2 := hU.1 i (by omega) (by omega)
    refine z_iload_n (i := 2) (pc := 3) C rfl rfl dX7_compare_3 ?_
    refine z_if_lt (tgt := 37) (pc := 4) C dX7_compare_4 (by decide) (fun h4 => absurd h4 (by omega)) (fun h4 => ?_)
    refine z_aload_n (i := 0) (pc := 7) C rfl rfl dX7_compare_7 ?_
    refine z_iload_n (i := 2) (pc := 8) C rfl rfl dX7_compare_8 ?_
    refine z_iaload (pc := 9) C ha dX7_compare_9 ?_
    refine z_aload_n (i := 1) (pc := 10) C rfl rfl dX7_compare_10 ?_
    refine z_iload_n (i := 2) (pc := 11) C rfl rfl dX7_compare_11 ?_
    refine z_iaload (pc := 12) C hb dX7_compare_12 ?_
    refine z_icmp_eq (tgt := 31) (pc := 13) C dX7_compare_13 (by decide) (fun h13 => ?_) (fun h13 => ?_)
    · refine z_iinc (i := 2) (lv' := [_, _, _]) (pc := 31) C rfl (by decide) rfl rfl dX7_compare_31 ?_
      refine z_goto (tgt := 3) (pc := 34) C dX7_compare_34 (by decide) ?_
      exact ih (by omega) (fun k a b => by
        by_cases e : k = i
        · rw [e]; exact h13
        · exact hg k (by omega) b)
    · refine z_aload_n (i := 0) (pc := 16) C rfl rfl dX7_compare_16 ?_
      refine z_iload_n (i := 2) (pc := 17) C rfl rfl dX7_compare_17 ?_
      refine z_iaload (pc := 18) C ha dX7_compare_18 ?_
      refine z_aload_n (i := 1) (pc := 19) C rfl rfl dX7_compare_19 ?_
      refine z_iload_n (i := 2) (pc := 20) C rfl rfl dX7_compare_20 ?_
      refine z_iaload (pc := 21) C hb dX7_compare_21 ?_
      refine z_icmp_ge (tgt := 29) (pc := 22) C dX7_compare_22 (by decide) (fun h22 => ?_) (fun h22 => ?_)
      · refine z_iconst (pc := 29) C dX7_compare_29 ?_
        exact z_iret (pc := 30) C E dX7_compare_30 ⟨_, rfl, ⟨rfl, by first | exact Or.inl ⟨by rw [← hV.2, ← hU.2]; exact zv_lt (by decide) (i := i) (by omega) hV.1 hU.1 (fun k a b => hg k (by omega) b) (by omega), rfl⟩ | exact Or.inr (Or.inr ⟨by rw [← hV.2, ← hU.2]; exact zv_lt (by decide) (i := i) (by omega) hU.1 hV.1 (fun k a b => (hg k (by omega) b).symm) (by omega), rfl⟩)⟩⟩
      · refine z_iconst (pc := 25) C dX7_compare_25 ?_
        refine z_goto (tgt := 30) (pc := 26) C dX7_compare_26 (by decide) ?_
        exact z_iret (pc := 30) C E dX7_compare_30 ⟨_, rfl, ⟨rfl, by first | exact Or.inl ⟨by rw [← hV.2, ← hU.2]; exact zv_lt (by decide) (i := i) (by omega) hV.1 hU.1 (fun k a b => hg k (by omega) b) (by omega), rfl⟩ | exact Or.inr (Or.inr ⟨by rw [← hV.2, ← hU.2]; exact zv_lt (by decide) (i := i) (by omega) hU.1 hV.1 (fun k a b => (hg k (by omega) b).symm) (by omega), rfl⟩)⟩⟩
set_option maxRecDepth 100000 in
set_option maxHeartbeats 4000000 in
theorem c_X7_compare {l0 : Launch} {X : zX} {ω : zWd} {a b : Nat} {f g : Int → Int} {V U : Int} (ha : ω.1 a = some (zAI X 72 f)) (hV : zNm f V) (hb : ω.1 b = some (zAI X 72 g)) (hU : zNm g U) : zMet l0 yX7_compare cX7_compare 3 (some .int) rmX7_compare X [.ref a, .ref b] ω (zpi (fun r w => w = ω ∧ ((V < U ∧ r = -1) ∨ (V = U ∧ r = 0) ∨ (U < V ∧ r = 1)))) := by
  refine zMet.intro (by decide) (Nat.le_of_ble_eq_true rfl) ?_
  intro Γ C E N
  show Zw Γ ω 0 0 0 [some _, some _, none] []
  refine z_bipush (pc := 0) C (by decide +kernel) dX7_compare_0 ?_
  refine z_istore_n (i := 2) (lv' := [_, _, _]) (pc := 2) C rfl (by decide) rfl rfl dX7_compare_2 ?_
  exact lp_X7_compare C E ha hV hb hU 72 (by omega) (fun k a b => by omega)
