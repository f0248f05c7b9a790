/-! CLAIMS of the class: two cells, the object at q and its weights at e -/
def zCl (X : zX) (ω : zWd) (q e : Nat) (t wh pl : Int) (g : Int → Int) : zWd := zU (zU ω e (zAJ X 41 g)) q (zOb 1 [.ref e, .int (zI t), .long (zJ wh), .int (zI pl)])
theorem zCl_q {X : zX} {ω : zWd} {q e : Nat} {t wh pl : Int} {g : Int → Int} : (zCl X ω q e t wh pl g).1 q = some (zOb 1 [.ref e, .int (zI t), .long (zJ wh), .int (zI pl)]) := zU_s _ _ _
theorem zCl_e {X : zX} {ω : zWd} {q e : Nat} {t wh pl : Int} {g : Int → Int} (h : e ≠ q) : (zCl X ω q e t wh pl g).1 e = some (zAJ X 41 g) := zU_n' h (zU_s _ _ _)
theorem zCl_n {X : zX} {ω : zWd} {q e b : Nat} {t wh pl : Int} {g : Int → Int} (h : b ≠ q) (h2 : b ≠ e) : (zCl X ω q e t wh pl g).1 b = ω.1 b := by
  unfold zCl
  rw [zU_n h, zU_n h2]
theorem zCl_2 {X : zX} {ω : zWd} {q e : Nat} {t wh pl : Int} {g : Int → Int} : (zCl X ω q e t wh pl g).2 = ω.2 := rfl
theorem zU_c {ω : zWd} {a b : Nat} {x y : va_E} (h : a ≠ b) : zU (zU ω a x) b y = zU (zU ω b y) a x := by
  refine Prod.ext (funext fun c => ?_) rfl
  by_cases h1 : c = a
  · subst h1; simp [zU, h]
  · by_cases h2 : c = b
    · subst h2; simp [zU, h1]
    · simp [zU, h1, h2]
theorem zCl_u {X : zX} {ω : zWd} {q e : Nat} {t wh pl t' wh' pl' : Int} {g g' : Int → Int} (h : e ≠ q) : zCl X (zCl X ω q e t wh pl g) q e t' wh' pl' g' = zCl X ω q e t' wh' pl' g' := by
  unfold zCl
  rw [zU_c (a := q) (b := e) (fun z => h z.symm), zU_u, zU_u]
theorem zCl_id {X : zX} {ω : zWd} {q e : Nat} {t wh pl : Int} {g : Int → Int} (hq : ω.1 q = some (zOb 1 [.ref e, .int (zI t), .long (zJ wh), .int (zI pl)])) (he : ω.1 e = some (zAJ X 41 g)) : ω = zCl X ω q e t wh pl g := by
  unfold zCl
  rw [zU_id he, zU_id hq]
set_option maxRecDepth 100000 in
set_option maxHeartbeats 4000000 in
theorem c_X1_weight {l0 : Launch} {X : zX} {ω : zWd} {q e : Nat} {t wh pl : Int} {g : Int → Int} {i : Int} (hq : ω.1 q = some (zOb 1 [.ref e, .int (zI t), .long (zJ wh), .int (zI pl)])) (he : ω.1 e = some (zAJ X 41 g)) (hi : 0 ≤ i ∧ i < 41 := by omega) : zMet l0 yX1_weight cX1_weight 2 (some .long) rmX1_weight X [.ref q, .int (zI i)] ω (zpl (fun r w => w = ω ∧ r = g i)) := by
  refine zMet.intro (by decide) (Nat.le_of_ble_eq_true rfl) ?_
  intro Γ C E N
  show Zw Γ ω 0 0 0 [_, _] []
  refine z_iload_n (i := 1) (pc := 0) C rfl rfl dX1_weight_0 ?_
  refine z_if_lt (tgt := 22) (pc := 1) C dX1_weight_1 (by decide) (fun h1 => absurd h1 (by omega)) (fun h1 => ?_)
  refine z_iload_n (i := 1) (pc := 4) C rfl rfl dX1_weight_4 ?_
  refine z_aload_n (i := 0) (pc := 5) C rfl rfl dX1_weight_5 ?_
  refine g_X1_9 (pc := 6) C hq rfl dX1_weight_6 ?_
  refine z_alenJ (pc := 9) C he dX1_weight_9 ?_
  refine z_icmp_ge (tgt := 22) (pc := 10) C dX1_weight_10 (by decide) (fun h10 => absurd h10 (by omega)) (fun h10 => ?_)
  refine z_aload_n (i := 0) (pc := 13) C rfl rfl dX1_weight_13 ?_
  refine g_X1_9 (pc := 14) C hq rfl dX1_weight_14 ?_
  refine z_iload_n (i := 1) (pc := 17) C rfl rfl dX1_weight_17 ?_
  refine z_laload (pc := 18) C he dX1_weight_18 ?_
  refine z_goto (tgt := 23) (pc := 19) C dX1_weight_19 (by decide) ?_
  exact z_lret (pc := 23) C E dX1_weight_23 ⟨_, rfl, ⟨rfl, rfl⟩⟩
set_option maxRecDepth 100000 in
set_option maxHeartbeats 4000000 in
theorem c_X1_empty {l0 : Launch} {X : zX} {ω : zWd} {q e : Nat} {t wh pl : Int} {g : Int → Int} {wh2 pl2 : Int} (hq : ω.1 q = some (zOb 1 [.ref e, .int (zI t), .long (zJ wh), .int (zI pl)])) (he : ω.1 e = some (zAJ X 41 g)) : zMet l0 yX1_empty cX1_empty 4 none rmX1_empty X [.ref q, .long (zJ wh2), .int (zI pl2)] ω (zpv (fun w => w = zCl X ω q e 0 wh2 pl2 (zfill g 0 41))) := by
  refine zMet.intro (by decide) (Nat.le_of_ble_eq_true rfl) ?_
  intro Γ C E N
  show Zw Γ ω 0 0 0 [_, _, _, _] []
  refine z_aload_n (i := 0) (pc := 0) C rfl rfl dX1_empty_0 ?_
  refine g_X1_9 (pc := 1) C hq rfl dX1_empty_1 ?_
  refine z_lconst (v := 0) (pc := 4) C (by decide +kernel) dX1_empty_4 ?_
  refine z_callSv (pc := 5) C (c_J7_fill_d0a16 he (by decide)) k_X1_44 zy_J7_fill_d0a16.2 rfl rfl ⟨(Nat.le_of_ble_eq_true rfl), (Nat.le_of_ble_eq_true rfl)⟩ (Nat.le_of_ble_eq_true rfl) dX1_empty_5 ⟨rfl, rfl⟩ ⟨(Nat.le_of_ble_eq_true rfl), (Nat.le_of_ble_eq_true rfl)⟩ (fun ω' hp => ?_)
  subst hp
  refine z_aload_n (i := 0) (pc := 8) C rfl rfl dX1_empty_8 ?_
  refine z_iconst (pc := 9) C dX1_empty_9 ?_
  refine p_X1_15 (pc := 10) C (zU_n' (z_neOJ hq he) hq) (Nat.le_of_ble_eq_true rfl) dX1_empty_10 ?_
  refine z_aload_n (i := 0) (pc := 13) C rfl rfl dX1_empty_13 ?_
  refine z_lload_n (i := 1) (pc := 14) C rfl rfl dX1_empty_14 ?_
  refine p_X1_21 (pc := 15) C (zU_s _ _ _) (Nat.le_of_ble_eq_true rfl) dX1_empty_15 ?_
  refine z_aload_n (i := 0) (pc := 18) C rfl rfl dX1_empty_18 ?_
  refine z_iload_n (i := 3) (pc := 19) C rfl rfl dX1_empty_19 ?_
  refine p_X1_25 (pc := 20) C (zU_s _ _ _) (Nat.le_of_ble_eq_true rfl) dX1_empty_20 ?_
  exact z_vret (pc := 23) C E dX1_empty_23 ⟨rfl, by rw [zU_u, zU_u]; rfl⟩
set_option maxRecDepth 100000 in
set_option maxHeartbeats 4000000 in
theorem c_X1_add {l0 : Launch} {X : zX} {ω : zWd} {q e : Nat} {t wh pl : Int} {g : Int → Int} {i v : Int} (hq : ω.1 q = some (zOb 1 [.ref e, .int (zI t), .long (zJ wh), .int (zI pl)])) (he : ω.1 e = some (zAJ X 41 g)) (hi : 0 ≤ i ∧ i < 41 := by omega) (hv : 0 ≤ v ∧ v < 9223372036854775808 := by omega) (ht : 0 ≤ t ∧ t < 41 := by omega) : zMet l0 yX1_add cX1_add 4 none rmX1_add X [.ref q, .int (zI i), .long (zJ v)] ω (zpv (fun w => w = zCl X ω q e (if 0 < v then max t i else t) wh pl (if 0 < v then zup g i (g i + v) else g))) := by
  refine zMet.intro (by decide) (Nat.le_of_ble_eq_true rfl) ?_
  intro Γ C E N
  show Zw Γ ω 0 0 0 [_, _, _, _] []
  refine z_lload_n (i := 2) (pc := 0) C rfl rfl dX1_add_0 ?_
  refine z_lconst (v := 0) (pc := 1) C (by decide +kernel) dX1_add_1 ?_
  refine z_lcmp_le (tgt := 41) (pc := 2) C dX1_add_2 dX1_add_3 (by decide) (fun h2 => ?_) (fun h2 => ?_)
  · have e0 : ¬ (0 < v) := by omega
    exact z_vret (pc := 41) C E dX1_add_41 ⟨rfl, by rw [if_neg e0, if_neg e0]; exact zCl_id hq he⟩
  · have e0 : 0 < v := by omega
    refine z_iload_n (i := 1) (pc := 6) C rfl rfl dX1_add_6 ?_
    refine z_if_lt (tgt := 41) (pc := 7) C dX1_add_7 (by decide) (fun h7 => absurd h7 (by omega)) (fun h7 => ?_)
    refine z_iload_n (i := 1) (pc := 10) C rfl rfl dX1_add_10 ?_
    refine z_aload_n (i := 0) (pc := 11) C rfl rfl dX1_add_11 ?_
    refine g_X1_9 (pc := 12) C hq rfl dX1_add_12 ?_
    refine z_alenJ (pc := 15) C he dX1_add_15 ?_
    refine z_icmp_ge (tgt := 41) (pc := 16) C dX1_add_16 (by decide) (fun h16 => absurd h16 (by omega)) (fun h16 => ?_)
    refine z_aload_n (i := 0) (pc := 19) C rfl rfl dX1_add_19 ?_
    refine g_X1_9 (pc := 20) C hq rfl dX1_add_20 ?_
    refine z_iload_n (i := 1) (pc := 23) C rfl rfl dX1_add_23 ?_
    refine z_dup2 (pc := 24) C rfl rfl dX1_add_24 ?_
    refine z_laload (pc := 25) C he dX1_add_25 ?_
    refine z_lload_n (i := 2) (pc := 26) C rfl rfl dX1_add_26 ?_
    refine z_ladd (pc := 27) C dX1_add_27 ?_
    refine z_lastore (pc := 28) C he dX1_add_28 ?_
    refine z_aload_n (i := 0) (pc := 29) C rfl rfl dX1_add_29 ?_
    refine z_aload_n (i := 0) (pc := 30) C rfl rfl dX1_add_30 ?_
    refine g_X1_15 (pc := 31) C (zU_n' (z_neOJ hq he) hq) rfl dX1_add_31 ?_
    refine z_iload_n (i := 1) (pc := 34) C rfl rfl dX1_add_34 ?_
    refine z_callSi (pc := 35) C (c_J9_max_7cf53) k_X1_50 zy_J9_max_7cf53.2 rfl rfl ⟨(Nat.le_of_ble_eq_true rfl), (Nat.le_of_ble_eq_true rfl)⟩ (Nat.le_of_ble_eq_true rfl) dX1_add_35 ⟨rfl, rfl⟩ ⟨(Nat.le_of_ble_eq_true rfl), (Nat.le_of_ble_eq_true rfl)⟩ (fun rv ω' hp => ?_)
    obtain ⟨rfl, rfl⟩ := hp
    refine p_X1_15 (pc := 38) C (zU_n' (z_neOJ hq he) hq) (Nat.le_of_ble_eq_true rfl) dX1_add_38 ?_
    exact z_vret (pc := 41) C E dX1_add_41 ⟨rfl, by simp only [e0, if_true]; rfl⟩
/-- the weights behind loading sizes below i, and the top -/
def zL1 (f : Int → Int) (c i : Int) : Int → Int := fun k => if 0 ≤ k ∧ k < i then c * f k else 0
theorem zL1_s {f gi : Int → Int} {c i : Int} (h : 0 ≤ i) (hi4 : i < 41) (hv : 0 ≤ c * f i) (hg : ∀ k : Int, 0 ≤ k → k < 41 → gi k = zL1 f c i k) (k : Int) (k0 : 0 ≤ k) (k1 : k < 41) : (if 0 < c * f i then zup gi i (gi i + c * f i) else gi) k = zL1 f c (i + 1) k := by
  have hi : gi i = 0 := by rw [hg i h hi4]; simp [zL1]
  by_cases h1 : k = i
  · subst h1
    have h3 : 0 ≤ k ∧ k < k + 1 := by omega
    by_cases h2 : 0 < c * f k
    · simp only [h2, if_true, zup_s, hi]
      simp [zL1, h3]
    · have h4 : c * f k = 0 := by omega
      simp only [h2, if_false, hi]
      simp [zL1, h3, h4]
  · have e : zL1 f c (i + 1) k = gi k := by
      rw [hg k k0 k1]
      unfold zL1
      by_cases h2 : 0 ≤ k ∧ k < i
      · have : 0 ≤ k ∧ k < i + 1 := by omega
        simp [h2, this]
      · have : ¬ (0 ≤ k ∧ k < i + 1) := by omega
        simp [h2, this]
    by_cases h2 : 0 < c * f i
    · simp only [h2, if_true, zup_n h1, e]
    · simp only [h2, if_false, e]
theorem zL1_t {f : Int → Int} {c t2 : Int} {i : Nat} (h : i < 41) (hv : 0 ≤ c * f i) (ht : ∀ k : Int, 0 ≤ k → k < 41 → t2 < k → zL1 f c i k = 0) (k : Int) (k0 : 0 ≤ k) (k1 : k < 41) (k2 : (if 0 < c * f i then max t2 i else t2) < k) : zL1 f c ((i : Int) + 1) k = 0 := by
  by_cases hk : k = i
  · subst hk
    have h8 : ¬ 0 < c * f i := by intro h8; simp only [h8, if_true] at k2; omega
    have h9 : c * f i = 0 := by omega
    unfold zL1
    split
    · exact h9
    · rfl
  · have h9 : t2 < k := by split at k2 <;> omega
    have h7 := ht k k0 k1 h9
    unfold zL1 at h7 ⊢
    split
    · rename_i h6
      have h5 : 0 ≤ k ∧ k < (i : Int) := by omega
      simpa [h5] using h7
    · rfl
set_option maxRecDepth 100000 in
set_option maxHeartbeats 4000000 in
theorem lp_X1_loadOne {Γ : zG} {l0 : Launch} {X : zX} {ω : zWd} {q e : Nat} {b a : Nat} {f : Int → Int} {c : Int} (C : Zc Γ l0 X rmX1_loadOne 4 cX1_loadOne RX1) (E : Ze Γ (zpv (fun w => ∃ t2 g2, w = zCl X ω q e t2 1000 3 g2 ∧ (0 ≤ t2 ∧ t2 < 21) ∧ (∀ k : Int, 0 ≤ k → k < 21 → g2 k = c * f k) ∧ (∀ k : Int, 0 ≤ k → k < 41 → 21 ≤ k → g2 k = 0) ∧ ∀ k : Int, 0 ≤ k → k < 41 → t2 < k → g2 k = 0)) 0 0 none) (hqe : e ≠ q) (hb : ω.1 b = some (zOb 0 [.ref a])) (ha : ω.1 a = some (zAI X 21 f)) (hf : zBk f) (hc : 0 ≤ c ∧ c ≤ 1000) (hbq : b ≠ q) (hbe : b ≠ e) (haq : a ≠ q) (hae : a ≠ e) : ∀ (j i : Nat) (t2 : Int) (gi : Int → Int), i + j = 21 → 0 ≤ t2 → t2 < 21 → (∀ k : Int, 0 ≤ k → k < 41 → gi k = zL1 f c i k) → (∀ k : Int, 0 ≤ k → k < 41 → t2 < k → zL1 f c i k = 0) → Zw Γ (zCl X ω q e t2 1000 3 gi) 0 0 10 [some (.ref q), some (.ref b), some (.int (zI c)), some (.int (zI ((i : Nat) : Int)))] [] := by
  intro j
  induction j with
  | zero =>
    intro i t2 gi hj h0 h1 hg h2
    have e1 : i = 21 := by omega
    subst e1
    have hz : ∀ k : Int, 0 ≤ k → k < 21 → zL1 f c (21 : Nat) k = c * f k := fun k a b => by
      have : 0 ≤ k ∧ k < ((21 : Nat) : Int) := by omega
      unfold zL1
      rw [if_pos this]
    have hz2 : ∀ k : Int, 21 ≤ k → zL1 f c (21 : Nat) k = 0 := fun k a => by
      have : ¬ (0 ≤ k ∧ k < ((21 : Nat) : Int)) := by omega
      unfold zL1
      rw [if_neg this]
    refine z_iload_n (i := 3) (pc := 10) C rfl rfl dX1_loadOne_10 ?_
    refine z_bipush (pc := 11) C (by decide +kernel) dX1_loadOne_11 ?_
    refine z_icmp_gt (tgt := 36) (pc := 13) C dX1_loadOne_13 (by decide) (fun h13 => ?_) (fun h13 => absurd h13 (by omega))
    exact z_vret (pc := 36) C E dX1_loadOne_36 ⟨rfl, ⟨t2, _, rfl, ⟨h0, h1⟩, fun k a b => by rw [hg k a (by omega), hz k a b], fun k a b d => by rw [hg k a b, hz2 k d], fun k a b d => by rw [hg k a b, h2 k a b d]⟩⟩
  | succ j ih =>
    intro i t2 gi hj h0 h1 hg h2
    have hb1 : (zCl X ω q e t2 1000 3 gi).1 b = some (zOb 0 [.ref a]) := by rw [zCl_n hbq hbe, hb]
    have ha1 : (zCl X ω q e t2 1000 3 gi).1 a = some (zAI X 21 f) := by rw [zCl_n haq hae, ha]
    have hfi := hf i (by omega) (by omega)
    have hv : 0 ≤ c * f i := Int.mul_nonneg hc.1 hfi.1
    have hv2 : c * f i ≤ 1000 * 1000 := Int.mul_le_mul hc.2 hfi.2 hfi.1 (by omega)
    refine z_iload_n (i := 3) (pc := 10) C rfl rfl dX1_loadOne_10 ?_
    refine z_bipush (pc := 11) C (by decide +kernel) dX1_loadOne_11 ?_
    refine z_icmp_gt (tgt := 36) (pc := 13) C dX1_loadOne_13 (by decide) (fun h13 => absurd h13 (by omega)) (fun h13 => ?_)
    refine z_aload_n (i := 0) (pc := 16) C rfl rfl dX1_loadOne_16 ?_
    refine z_iload_n (i := 3) (pc := 17) C rfl rfl dX1_loadOne_17 ?_
    refine z_iload_n (i := 2) (pc := 18) C rfl rfl dX1_loadOne_18 ?_
    refine z_i2l (pc := 19) C (hd := dX1_loadOne_19) (k := ?_)
    refine z_aload_n (i := 1) (pc := 20) C rfl rfl dX1_loadOne_20 ?_
    refine z_iload_n (i := 3) (pc := 21) C rfl rfl dX1_loadOne_21 ?_
    refine z_callVi (pc := 22) C (c_X0_read hb1 ha1) k_X1_32 zy_X0_read rfl rfl hb1 rfl rfl ⟨(Nat.le_of_ble_eq_true rfl), (Nat.le_of_ble_eq_true rfl)⟩ (Nat.le_of_ble_eq_true rfl) dX1_loadOne_22 ⟨rfl, rfl⟩ ⟨(Nat.le_of_ble_eq_true rfl), (Nat.le_of_ble_eq_true rfl)⟩ (fun rv ω' hp => ?_)
    obtain ⟨rfl, rfl⟩ := hp
    refine z_i2l (pc := 25) C (hd := dX1_loadOne_25) (k := ?_)
    refine z_lmul (pc := 26) C dX1_loadOne_26 ?_
    refine z_callVv (pc := 27) C (c_X1_add zCl_q (zCl_e hqe)) k_X1_38 zy_X1_add rfl rfl zCl_q rfl rfl ⟨(Nat.le_of_ble_eq_true rfl), (Nat.le_of_ble_eq_true rfl)⟩ (Nat.le_of_ble_eq_true rfl) dX1_loadOne_27 ⟨rfl, rfl⟩ ⟨(Nat.le_of_ble_eq_true rfl), (Nat.le_of_ble_eq_true rfl)⟩ (fun ω' hp => ?_)
    subst hp
    rw [zCl_u hqe]
    refine z_iinc (i := 3) (lv' := [_, _, _, _]) (pc := 30) C rfl (by decide) rfl rfl dX1_loadOne_30 ?_
    refine z_goto (tgt := 10) (pc := 33) C dX1_loadOne_33 (by decide) ?_
    exact ih (i + 1) _ _ (by omega) (by split <;> omega) (by split <;> omega) (fun k k0 k1 => zL1_s (by omega) (by omega) hv hg k k0 k1) (fun k k0 k1 k2 => zL1_t (by omega) hv h2 k k0 k1 k2)
set_option maxRecDepth 100000 in
set_option maxHeartbeats 4000000 in
theorem c_X1_loadOne {l0 : Launch} {X : zX} {ω : zWd} {q e : Nat} {t wh pl : Int} {g : Int → Int} {b a : Nat} {f : Int → Int} {c : Int} (hq : ω.1 q = some (zOb 1 [.ref e, .int (zI t), .long (zJ wh), .int (zI pl)])) (he : ω.1 e = some (zAJ X 41 g)) (hb : ω.1 b = some (zOb 0 [.ref a])) (ha : ω.1 a = some (zAI X 21 f)) (hf : zBk f) (hc : 0 ≤ c ∧ c ≤ 1000) : zMet l0 yX1_loadOne cX1_loadOne 4 none rmX1_loadOne X [.ref q, .ref b, .int (zI c)] ω (zpv (fun w => ∃ t2 g2, w = zCl X ω q e t2 1000 3 g2 ∧ (0 ≤ t2 ∧ t2 < 21) ∧ (∀ k : Int, 0 ≤ k → k < 21 → g2 k = c * f k) ∧ (∀ k : Int, 0 ≤ k → k < 41 → 21 ≤ k → g2 k = 0) ∧ ∀ k : Int, 0 ≤ k → k < 41 → t2 < k → g2 k = 0)) := by
  refine zMet.intro (by decide) (Nat.le_of_ble_eq_true rfl) ?_
  intro Γ C E N
  show Zw Γ ω 0 0 0 [_, _, _, _] []
  have hqe : e ≠ q := z_neJO he hq
  have hbq : b ≠ q := z_neOO hb hq (by decide)
  have hbe : b ≠ e := z_neOJ hb he
  have haq : a ≠ q := z_neIO ha hq
  have hae : a ≠ e := z_neIJ ha he
  refine z_aload_n (i := 0) (pc := 0) C rfl rfl dX1_loadOne_0 ?_
  refine z_ldc2 (a := 1000) (pc := 1) C (by decide +kernel) q_X1_19 dX1_loadOne_1 ?_
  refine z_iconst (pc := 4) C dX1_loadOne_4 ?_
  refine z_callVv (pc := 5) C (c_X1_empty hq he) k_X1_28 zy_X1_empty rfl rfl hq rfl rfl ⟨(Nat.le_of_ble_eq_true rfl), (Nat.le_of_ble_eq_true rfl)⟩ (Nat.le_of_ble_eq_true rfl) dX1_loadOne_5 ⟨rfl, rfl⟩ ⟨(Nat.le_of_ble_eq_true rfl), (Nat.le_of_ble_eq_true rfl)⟩ (fun ω' hp => ?_)
  subst hp
  refine z_iconst (pc := 8) C dX1_loadOne_8 ?_
  refine z_istore_n (i := 3) (lv' := [_, _, _, _]) (pc := 9) C rfl (by decide) rfl rfl dX1_loadOne_9 ?_
  exact lp_X1_loadOne C E hqe hb ha hf hc hbq hbe haq hae 21 0 0 _ rfl (by omega) (by omega) (fun k k0 k1 => by
    have h1 : ¬ (0 ≤ k ∧ k < ((0 : Nat) : Int)) := by omega
    have h2 : 0 ≤ k ∧ k < 41 := ⟨k0, k1⟩
    unfold zfill zL1
    rw [if_pos h2, if_neg h1]) (fun k k0 k1 k2 => by
    have h1 : ¬ (0 ≤ k ∧ k < ((0 : Nat) : Int)) := by omega
    unfold zL1
    rw [if_neg h1])
theorem zAd_g {gi G G' : Int → Int} {s v : Int} (s0 : 0 ≤ s) (s1 : s < 41) (hv : 0 ≤ v) (hg : ∀ k : Int, 0 ≤ k → k < 41 → gi k = G k) (hG : ∀ k : Int, 0 ≤ k → k < 41 → G' k = G k + if k = s then v else 0) (k : Int) (k0 : 0 ≤ k) (k1 : k < 41) : (if 0 < v then zup gi s (gi s + v) else gi) k = G' k := by
  rw [hG k k0 k1, ← hg k k0 k1]
  by_cases h : 0 < v
  · rw [if_pos h]
    by_cases h2 : k = s
    · subst h2; rw [zup_s, if_pos rfl]
    · rw [zup_n h2, if_neg h2, Int.add_zero]
  · rw [if_neg h]
    have : v = 0 := by omega
    subst this
    simp
theorem zAd_t {G G' : Int → Int} {s v t2 : Int} (hv : 0 ≤ v) (hG : ∀ k : Int, 0 ≤ k → k < 41 → G' k = G k + if k = s then v else 0) (ht : ∀ k : Int, 0 ≤ k → k < 41 → t2 < k → G k = 0) (k : Int) (k0 : 0 ≤ k) (k1 : k < 41) (k2 : (if 0 < v then max t2 s else t2) < k) : G' k = 0 := by
  rw [hG k k0 k1]
  have h9 : t2 < k := by split at k2 <;> omega
  rw [ht k k0 k1 h9]
  by_cases h2 : k = s
  · rw [if_pos h2]
    split at k2 <;> omega
  · rw [if_neg h2]; rfl
/-- one claim's share of two -/
def zc1 (f h : Int → Int) (k a : Int) : Int := if 0 ≤ k - a ∧ k - a < 21 then f a * h (k - a) else 0
def zL2 (f h : Int → Int) (i : Nat) (j : Int) : Int → Int := fun k => zs (zc1 f h k) i + if 0 ≤ k - i ∧ k - i < j then f i * h (k - i) else 0
theorem zL2_s {f h : Int → Int} {i : Nat} {j : Int} (j0 : 0 ≤ j) (k : Int) : zL2 f h i (j + 1) k = zL2 f h i j k + if k = i + j then f i * h j else 0 := by
  unfold zL2
  by_cases h1 : k = i + j
  · have a1 : 0 ≤ k - i ∧ k - i < j + 1 := by omega
    have a2 : ¬ (0 ≤ k - i ∧ k - i < j) := by omega
    rw [if_pos a1, if_neg a2, if_pos h1, show k - (i : Int) = j by omega]
    omega
  · rw [if_neg h1]
    by_cases a2 : 0 ≤ k - i ∧ k - i < j
    · have a1 : 0 ≤ k - i ∧ k - i < j + 1 := by omega
      rw [if_pos a1, if_pos a2]; omega
    · have a1 : ¬ (0 ≤ k - i ∧ k - i < j + 1) := by omega
      rw [if_neg a1, if_neg a2]; omega
theorem zL2_n {f h : Int → Int} {i : Nat} (k : Int) : zL2 f h i 21 k = zL2 f h (i + 1) 0 k := by
  unfold zL2
  have a2 : ¬ (0 ≤ k - ((i + 1 : Nat) : Int) ∧ k - ((i + 1 : Nat) : Int) < 0) := by omega
  rw [if_neg a2]
  show zs (zc1 f h k) i + _ = zs (zc1 f h k) i + zc1 f h k i + 0
  unfold zc1
  omega
set_option maxRecDepth 100000 in
set_option maxHeartbeats 4000000 in
theorem lp_X1_loadBoth_i {Γ : zG} {l0 : Launch} {X : zX} {ω : zWd} {q e : Nat} {b a b2 a2 : Nat} {f h : Int → Int} (C : Zc Γ l0 X rmX1_loadBoth 5 cX1_loadBoth RX1) (hb : ω.1 b = some (zOb 0 [.ref a])) (ha : ω.1 a = some (zAI X 21 f)) (hf : zBk f) (hb2 : ω.1 b2 = some (zOb 0 [.ref a2])) (ha2 : ω.1 a2 = some (zAI X 21 h)) (hh : zBk h) (hqe : e ≠ q) (hbq : b ≠ q) (hbe : b ≠ e) (haq : a ≠ q) (hae : a ≠ e) (hb2q : b2 ≠ q) (hb2e : b2 ≠ e) (ha2q : a2 ≠ q) (ha2e : a2 ≠ e) {i : Nat} (hi : i < 21) (K : ∀ (t2 : Int) (gi : Int → Int), 0 ≤ t2 → t2 < 41 → (∀ k : Int, 0 ≤ k → k < 41 → gi k = zL2 f h i 21 k) → (∀ k : Int, 0 ≤ k → k < 41 → t2 < k → zL2 f h i 21 k = 0) → Zw Γ (zCl X ω q e t2 1000000 6 gi) 0 0 55 [some (.ref q), some (.ref b), some (.ref b2), some (.int (zI ((i : Nat) : Int))), some (.int (zI 21))] []) : ∀ (n j : Nat) (t2 : Int) (gi : Int → Int), j + n = 21 → 0 ≤ t2 → t2 < 41 → (∀ k : Int, 0 ≤ k → k < 41 → gi k = zL2 f h i j k) → (∀ k : Int, 0 ≤ k → k < 41 → t2 < k → zL2 f h i j k = 0) → Zw Γ (zCl X ω q e t2 1000000 6 gi) 0 0 20 [some (.ref q), some (.ref b), some (.ref b2), some (.int (zI ((i : Nat) : Int))), some (.int (zI ((j : Nat) : Int)))] [] := by
  intro n
  induction n with
  | zero =>
    intro j t2 gi hj h0 h1 hg h2
    have e1 : j = 21 := by omega
    subst e1
    refine z_iload (i := 4) (pc := 20) C rfl dX1_loadBoth_20 ?_
    refine z_bipush (pc := 22) C (by decide +kernel) dX1_loadBoth_22 ?_
    refine z_icmp_gt (tgt := 55) (pc := 24) C dX1_loadBoth_24 (by decide) (fun h24 => ?_) (fun h24 => absurd h24 (by omega))
    exact K t2 gi h0 h1 hg h2
  | succ n ih =>
    intro j t2 gi hj h0 h1 hg h2
    have hb1 : (zCl X ω q e t2 1000000 6 gi).1 b = some (zOb 0 [.ref a]) := by rw [zCl_n hbq hbe, hb]
    have ha1 : (zCl X ω q e t2 1000000 6 gi).1 a = some (zAI X 21 f) := by rw [zCl_n haq hae, ha]
    have hb3 : (zCl X ω q e t2 1000000 6 gi).1 b2 = some (zOb 0 [.ref a2]) := by rw [zCl_n hb2q hb2e, hb2]
    have ha3 : (zCl X ω q e t2 1000000 6 gi).1 a2 = some (zAI X 21 h) := by rw [zCl_n ha2q ha2e, ha2]
    have hfi := hf i (by omega) (by omega)
    have hhj := hh j (by omega) (by omega)
    have hv : 0 ≤ f i * h j := Int.mul_nonneg hfi.1 hhj.1
    have hv2 : f i * h j ≤ 1000 * 1000 := Int.mul_le_mul hfi.2 hhj.2 hhj.1 (by omega)
    refine z_iload (i := 4) (pc := 20) C rfl dX1_loadBoth_20 ?_
    refine z_bipush (pc := 22) C (by decide +kernel) dX1_loadBoth_22 ?_
    refine z_icmp_gt (tgt := 55) (pc := 24) C dX1_loadBoth_24 (by decide) (fun h24 => absurd h24 (by omega)) (fun h24 => ?_)
    refine z_aload_n (i := 0) (pc := 27) C rfl rfl dX1_loadBoth_27 ?_
    refine z_iload_n (i := 3) (pc := 28) C rfl rfl dX1_loadBoth_28 ?_
    refine z_iload (i := 4) (pc := 29) C rfl dX1_loadBoth_29 ?_
    refine z_iadd (pc := 31) C dX1_loadBoth_31 ?_
    refine z_aload_n (i := 1) (pc := 32) C rfl rfl dX1_loadBoth_32 ?_
    refine z_iload_n (i := 3) (pc := 33) C rfl rfl dX1_loadBoth_33 ?_
    refine z_callVi (pc := 34) C (c_X0_read hb1 ha1) k_X1_32 zy_X0_read rfl rfl hb1 rfl rfl ⟨(Nat.le_of_ble_eq_true rfl), (Nat.le_of_ble_eq_true rfl)⟩ (Nat.le_of_ble_eq_true rfl) dX1_loadBoth_34 ⟨rfl, rfl⟩ ⟨(Nat.le_of_ble_eq_true rfl), (Nat.le_of_ble_eq_true rfl)⟩ (fun rv ω' hp => ?_)
    obtain ⟨rfl, rfl⟩ := hp
    refine z_i2l (pc := 37) C (hd := dX1_loadBoth_37) (k := ?_)
    refine z_aload_n (i := 2) (pc := 38) C rfl rfl dX1_loadBoth_38 ?_
    refine z_iload (i := 4) (pc := 39) C rfl dX1_loadBoth_39 ?_
    refine z_callVi (pc := 41) C (c_X0_read hb3 ha3) k_X1_32 zy_X0_read rfl rfl hb3 rfl rfl ⟨(Nat.le_of_ble_eq_true rfl), (Nat.le_of_ble_eq_true rfl)⟩ (Nat.le_of_ble_eq_true rfl) dX1_loadBoth_41 ⟨rfl, rfl⟩ ⟨(Nat.le_of_ble_eq_true rfl), (Nat.le_of_ble_eq_true rfl)⟩ (fun rv ω' hp => ?_)
    obtain ⟨rfl, rfl⟩ := hp
    refine z_i2l (pc := 44) C (hd := dX1_loadBoth_44) (k := ?_)
    refine z_lmul (pc := 45) C dX1_loadBoth_45 ?_
    refine z_callVv (pc := 46) C (c_X1_add zCl_q (zCl_e hqe)) k_X1_38 zy_X1_add rfl rfl zCl_q rfl rfl ⟨(Nat.le_of_ble_eq_true rfl), (Nat.le_of_ble_eq_true rfl)⟩ (Nat.le_of_ble_eq_true rfl) dX1_loadBoth_46 ⟨rfl, rfl⟩ ⟨(Nat.le_of_ble_eq_true rfl), (Nat.le_of_ble_eq_true rfl)⟩ (fun ω' hp => ?_)
    subst hp
    rw [zCl_u hqe]
    refine z_iinc (i := 4) (lv' := [_, _, _, _, _]) (pc := 49) C rfl (by decide) rfl rfl dX1_loadBoth_49 ?_
    refine z_goto (tgt := 20) (pc := 52) C dX1_loadBoth_52 (by decide) ?_
    exact ih (j + 1) _ _ (by omega) (by split <;> omega) (by split <;> omega) (fun k k0 k1 => zAd_g (by omega) (by omega) hv hg (fun k _ _ => zL2_s (by omega) k) k k0 k1) (fun k k0 k1 k2 => zAd_t hv (fun k _ _ => zL2_s (by omega) k) h2 k k0 k1 k2)
set_option maxRecDepth 100000 in
set_option maxHeartbeats 4000000 in
theorem lp_X1_loadBoth {Γ : zG} {l0 : Launch} {X : zX} {ω : zWd} {q e : Nat} {b a b2 a2 : Nat} {f h : Int → Int} (C : Zc Γ l0 X rmX1_loadBoth 5 cX1_loadBoth RX1) (E : Ze Γ (zpv (fun w => ∃ t2 g2, w = zCl X ω q e t2 1000000 6 g2 ∧ (0 ≤ t2 ∧ t2 < 41) ∧ (∀ k : Int, 0 ≤ k → k < 41 → g2 k = zs (zc1 f h k) 21) ∧ ∀ k : Int, 0 ≤ k → k < 41 → t2 < k → g2 k = 0)) 0 0 none) (hb : ω.1 b = some (zOb 0 [.ref a])) (ha : ω.1 a = some (zAI X 21 f)) (hf : zBk f) (hb2 : ω.1 b2 = some (zOb 0 [.ref a2])) (ha2 : ω.1 a2 = some (zAI X 21 h)) (hh : zBk h) (hqe : e ≠ q) (hbq : b ≠ q) (hbe : b ≠ e) (haq : a ≠ q) (hae : a ≠ e) (hb2q : b2 ≠ q) (hb2e : b2 ≠ e) (ha2q : a2 ≠ q) (ha2e : a2 ≠ e) : ∀ (n i : Nat) (t2 : Int) (gi : Int → Int) (o5 : Option Value), i + n = 21 → 0 ≤ t2 → t2 < 41 → (∀ k : Int, 0 ≤ k → k < 41 → gi k = zL2 f h i 0 k) → (∀ k : Int, 0 ≤ k → k < 41 → t2 < k → zL2 f h i 0 k = 0) → Zw Γ (zCl X ω q e t2 1000000 6 gi) 0 0 11 [some (.ref q), some (.ref b), some (.ref b2), some (.int (zI ((i : Nat) : Int))), o5] [] := by
  intro n
  induction n with
  | zero =>
    intro i t2 gi o5 hj h0 h1 hg h2
    have e1 : i = 21 := by omega
    subst e1
    have hz : ∀ k : Int, zL2 f h 21 0 k = zs (zc1 f h k) 21 := fun k => by
      have : ¬ (0 ≤ k - ((21 : Nat) : Int) ∧ k - ((21 : Nat) : Int) < 0) := by omega
      unfold zL2
      rw [if_neg this, Int.add_zero]
    refine z_iload_n (i := 3) (pc := 11) C rfl rfl dX1_loadBoth_11 ?_
    refine z_bipush (pc := 12) C (by decide +kernel) dX1_loadBoth_12 ?_
    refine z_icmp_gt (tgt := 61) (pc := 14) C dX1_loadBoth_14 (by decide) (fun h14 => ?_) (fun h14 => absurd h14 (by omega))
    exact z_vret (pc := 61) C E dX1_loadBoth_61 ⟨rfl, ⟨t2, gi, rfl, ⟨h0, h1⟩, fun k k0 k1 => by rw [hg k k0 k1, hz], fun k k0 k1 k2 => by rw [hg k k0 k1, h2 k k0 k1 k2]⟩⟩
  | succ n ih =>
    intro i t2 gi o5 hj h0 h1 hg h2
    refine z_iload_n (i := 3) (pc := 11) C rfl rfl dX1_loadBoth_11 ?_
    refine z_bipush (pc := 12) C (by decide +kernel) dX1_loadBoth_12 ?_
    refine z_icmp_gt (tgt := 61) (pc := 14) C dX1_loadBoth_14 (by decide) (fun h14 => absurd h14 (by omega)) (fun h14 => ?_)
    refine z_iconst (pc := 17) C dX1_loadBoth_17 ?_
    refine z_istore (i := 4) (lv' := [_, _, _, _, _]) (pc := 18) C (by decide) rfl rfl dX1_loadBoth_18 ?_
    refine lp_X1_loadBoth_i C hb ha hf hb2 ha2 hh hqe hbq hbe haq hae hb2q hb2e ha2q ha2e (by omega) ?_ 21 0 t2 gi rfl h0 h1 hg h2
    intro t3 gi3 h03 h13 hg3 h23
    refine z_iinc (i := 3) (lv' := [_, _, _, _, _]) (pc := 55) C rfl (by decide) rfl rfl dX1_loadBoth_55 ?_
    refine z_goto (tgt := 11) (pc := 58) C dX1_loadBoth_58 (by decide) ?_
    exact ih (i + 1) t3 gi3 _ (by omega) h03 h13 (fun k k0 k1 => by rw [hg3 k k0 k1, zL2_n]) (fun k k0 k1 k2 => by rw [← zL2_n]; exact h23 k k0 k1 k2)
set_option maxRecDepth 100000 in
set_option maxHeartbeats 4000000 in
theorem c_X1_loadBoth {l0 : Launch} {X : zX} {ω : zWd} {q e : Nat} {t wh pl : Int} {g : Int → Int} {b a b2 a2 : Nat} {f h : Int → Int} (hq : ω.1 q = some (zOb 1 [.ref e, .int (zI t), .long (zJ wh), .int (zI pl)])) (he : ω.1 e = some (zAJ X 41 g)) (hb : ω.1 b = some (zOb 0 [.ref a])) (ha : ω.1 a = some (zAI X 21 f)) (hf : zBk f) (hb2 : ω.1 b2 = some (zOb 0 [.ref a2])) (ha2 : ω.1 a2 = some (zAI X 21 h)) (hh : zBk h) : zMet l0 yX1_loadBoth cX1_loadBoth 5 none rmX1_loadBoth X [.ref q, .ref b, .ref b2] ω (zpv (fun w => ∃ t2 g2, w = zCl X ω q e t2 1000000 6 g2 ∧ (0 ≤ t2 ∧ t2 < 41) ∧ (∀ k : Int, 0 ≤ k → k < 41 → g2 k = zs (zc1 f h k) 21) ∧ ∀ k : Int, 0 ≤ k → k < 41 → t2 < k → g2 k = 0)) := by
  refine zMet.intro (by decide) (Nat.le_of_ble_eq_true rfl) ?_
  intro Γ C E N
  show Zw Γ ω 0 0 0 [_, _, _, _, _] []
  have hqe : e ≠ q := z_neJO he hq
  have hbq : b ≠ q := z_neOO hb hq (by decide)
  have hbe : b ≠ e := z_neOJ hb he
  have haq : a ≠ q := z_neIO ha hq
  have hae : a ≠ e := z_neIJ ha he
  have hb2q : b2 ≠ q := z_neOO hb2 hq (by decide)
  have hb2e : b2 ≠ e := z_neOJ hb2 he
  have ha2q : a2 ≠ q := z_neIO ha2 hq
  have ha2e : a2 ≠ e := z_neIJ ha2 he
  refine z_aload_n (i := 0) (pc := 0) C rfl rfl dX1_loadBoth_0 ?_
  refine z_ldc2 (a := 1000000) (pc := 1) C (by decide +kernel) q_X1_42 dX1_loadBoth_1 ?_
  refine z_bipush (pc := 4) C (by decide +kernel) dX1_loadBoth_4 ?_
  refine z_callVv (pc := 6) C (c_X1_empty hq he) k_X1_28 zy_X1_empty rfl rfl hq rfl rfl ⟨(Nat.le_of_ble_eq_true rfl), (Nat.le_of_ble_eq_true rfl)⟩ (Nat.le_of_ble_eq_true rfl) dX1_loadBoth_6 ⟨rfl, rfl⟩ ⟨(Nat.le_of_ble_eq_true rfl), (Nat.le_of_ble_eq_true rfl)⟩ (fun ω' hp => ?_)
  subst hp
  refine z_iconst (pc := 9) C dX1_loadBoth_9 ?_
  refine z_istore_n (i := 3) (lv' := [_, _, _, _, _]) (pc := 10) C rfl (by decide) rfl rfl dX1_loadBoth_10 ?_
  have hz : ∀ k : Int, zL2 f h 0 0 k = 0 := fun k => by
    have : ¬ (0 ≤ k - ((0 : Nat) : Int) ∧ k - ((0 : Nat) : Int) < 0) := by omega
    unfold zL2
    rw [if_neg this]
    rfl
  exact lp_X1_loadBoth C E hb ha hf hb2 ha2 hh hqe hbq hbe haq hae hb2q hb2e ha2q ha2e 21 0 0 _ _ rfl (by omega) (by omega) (fun k k0 k1 => by
    have h2 : 0 ≤ k ∧ k < 41 := ⟨k0, k1⟩
    rw [hz]
    unfold zfill
    rw [if_pos h2]) (fun k k0 k1 k2 => hz k)
