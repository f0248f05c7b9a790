set_option maxRecDepth 100000 in
set_option maxHeartbeats 4000000 in
theorem lp_X4_order {Γ : zG} {l0 : Launch} {X : zX} {ω : zWd} {r c h wd : Nat} {u : Int} {g : Int → Int} {ro co ho wo : Nat} {uo : Int} {go : Int → Int} {row fr : Int} (C : Zc Γ l0 X rmX4_order 6 cX4_order RX4) (E : Ze Γ (zpi (fun v w => w = ω ∧ ((zv zL (fun k => g (row * wd + k)) wd < zv zL (fun k => go (fr * wo + k)) wd ∧ v = -1) ∨ (zv zL (fun k => g (row * wd + k)) wd = zv zL (fun k => go (fr * wo + k)) wd ∧ v = 0) ∨ (zv zL (fun k => go (fr * wo + k)) wd < zv zL (fun k => g (row * wd + k)) wd ∧ v = 1)))) 0 0 (some .int)) (hr : ω.1 r = some (zOb 4 [.int (zI h), .int (zI wd), .ref c, .int (zI u)])) (hc : ω.1 c = some (zAJ X (h * wd) g)) (hs : (0 < h ∧ h ≤ 256) ∧ (0 < wd ∧ wd ≤ 16) ∧ 0 ≤ u ∧ u ≤ h) (hro : ω.1 ro = some (zOb 4 [.int (zI ho), .int (zI wo), .ref co, .int (zI uo)])) (hco : ω.1 co = some (zAJ X (ho * wo) go)) (hso : (0 < ho ∧ ho ≤ 256) ∧ (0 < wo ∧ wo ≤ 16) ∧ 0 ≤ uo ∧ uo ≤ ho) (hww : wo = wd) (hrow : 0 ≤ row ∧ row < u) (hfr : 0 ≤ fr ∧ fr < uo) (hx : ∀ k : Int, 0 ≤ k → k < wd → 0 ≤ g (row * wd + k) ∧ g (row * wd + k) < zL) (hy : ∀ k : Int, 0 ≤ k → k < wd → 0 ≤ go (fr * wo + k) ∧ go (fr * wo + k) < zL) : ∀ (j : Nat) (o5 : Option Value), j ≤ wd → (∀ k : Int, (j : Int) ≤ k → k < wd → g (row * wd + k) = go (fr * wo + k)) → Zw Γ ω 0 0 15 [some (.ref r), some (.int (zI row)), some (.ref ro), some (.int (zI fr)), some (.int (zI ((j : Int) - 1))), o5] [] := by
  intro j
  induction j with
  | zero =>
    intro o5 hj hk
    refine z_iload (i := 4) (pc := 15) C rfl dX4_order_15 ?_
    refine z_if_lt (tgt := 53) (pc := 17) C dX4_order_17 (by decide) (fun h17 => ?_) (fun h17 => absurd h17 (by omega))
    refine z_iconst (pc := 53) C dX4_order_53 ?_
    exact z_iret (pc := 54) C E dX4_order_54 ⟨_, rfl, ⟨rfl, Or.inr (Or.inl ⟨zv_c (fun k a b => hk k (by omega) b), rfl⟩)⟩⟩
  | succ j ih =>
    intro o5 hj hk
    have e1 : ((j + 1 : Nat) : Int) - 1 = j := by omega
    rw [e1]
    have hxj := hx j (by omega) (by omega)
    have hyj := hy j (by omega) (by omega)
    have hz : zL = 1000000000000 := rfl
    have hl1 : g (row * wd + j) < go (fr * wo + j) → zv zL (fun k => g (row * wd + k)) wd < zv zL (fun k => go (fr * wo + k)) wd := fun q => zv_lt (by decide) (i := j) (by omega) hx hy (fun k a b => hk k (by omega) b) q
    have hl2 : go (fr * wo + j) < g (row * wd + j) → zv zL (fun k => go (fr * wo + k)) wd < zv zL (fun k => g (row * wd + k)) wd := fun q => zv_lt (by decide) (i := j) (by omega) hy hx (fun k a b => (hk k (by omega) b).symm) q
    rw [hz] at hxj hyj
    refine z_iload (i := 4) (pc := 15) C rfl dX4_order_15 ?_
    refine z_if_lt (tgt := 53) (pc := 17) C dX4_order_17 (by decide) (fun h17 => absurd h17 (by omega)) (fun h17 => ?_)
    refine z_aload_n (i := 0) (pc := 20) C rfl rfl dX4_order_20 ?_
    refine z_iload_n (i := 1) (pc := 21) C rfl rfl dX4_order_21 ?_
    refine z_iload (i := 4) (pc := 22) C rfl dX4_order_22 ?_
    refine z_callVl (pc := 24) C (c_X4_read hr hc hs) k_X4_44 zy_X4_read rfl rfl hr rfl rfl ⟨(Nat.le_of_ble_eq_true rfl), (Nat.le_of_ble_eq_true rfl)⟩ (Nat.le_of_ble_eq_true rfl) dX4_order_24 ⟨rfl, rfl⟩ ⟨(Nat.le_of_ble_eq_true rfl), (Nat.le_of_ble_eq_true rfl)⟩ (fun rv ω' hp => ?_)
    obtain ⟨rfl, hp1⟩ := hp
    have hv1 : rv = g (row * wd + j) := by
      rcases hp1 with q1 | q1
      · rw [q1.2.2.2]
      · omega
    subst hv1
    refine z_aload_n (i := 2) (pc := 27) C rfl rfl dX4_order_27 ?_
    refine z_iload_n (i := 3) (pc := 28) C rfl rfl dX4_order_28 ?_
    refine z_iload (i := 4) (pc := 29) C rfl dX4_order_29 ?_
    refine z_callVl (pc := 31) C (c_X4_read hro hco hso) k_X4_44 zy_X4_read rfl rfl hro rfl rfl ⟨(Nat.le_of_ble_eq_true rfl), (Nat.le_of_ble_eq_true rfl)⟩ (Nat.le_of_ble_eq_true rfl) dX4_order_31 ⟨rfl, rfl⟩ ⟨(Nat.le_of_ble_eq_true rfl), (Nat.le_of_ble_eq_true rfl)⟩ (fun rv ω' hp => ?_)
    obtain ⟨rfl, hp1⟩ := hp
    have hv2 : rv = go (fr * wo + j) := by
      rcases hp1 with q1 | q1
      · rw [q1.2.2.2]
      · omega
    subst hv2
    refine z_callSi (pc := 34) C (c_J13_compare_74951) k_X4_74 zy_J13_compare_74951.2 rfl rfl ⟨(Nat.le_of_ble_eq_true rfl), (Nat.le_of_ble_eq_true rfl)⟩ (Nat.le_of_ble_eq_true rfl) dX4_order_34 ⟨rfl, rfl⟩ ⟨(Nat.le_of_ble_eq_true rfl), (Nat.le_of_ble_eq_true rfl)⟩ (fun rv ω' hp => ?_)
    obtain ⟨rfl, hcm⟩ := hp
    refine z_istore (i := 5) (lv' := [_, _, _, _, _, _]) (pc := 37) C (by decide) rfl rfl dX4_order_37 ?_
    refine z_iload (i := 5) (pc := 39) C rfl dX4_order_39 ?_
    refine z_if_eq (tgt := 47) (pc := 41) C dX4_order_41 (by decide) (fun h41 => ?_) (fun h41 => ?_)
    · refine z_iinc (i := 4) (lv' := [_, _, _, _, _, _]) (pc := 47) C rfl (by decide) rfl rfl dX4_order_47 ?_
      refine z_goto (tgt := 15) (pc := 50) C dX4_order_50 (by decide) ?_
      rw [show ((j : Int) + -1) = (j : Int) - 1 by omega]
      exact ih _ (by omega) (fun k a b => by
        by_cases e2 : k = j
        · rw [e2]; omega
        · exact hk k (by omega) b)
    · refine z_iload (i := 5) (pc := 44) C rfl dX4_order_44 ?_
      exact z_iret (pc := 46) C E dX4_order_46 ⟨_, rfl, ⟨rfl, by
  rcases hcm with q | q | q
  · exact Or.inl ⟨hl1 q.1, q.2⟩
  · exfalso; omega
  · exact Or.inr (Or.inr ⟨hl2 q.1, q.2⟩)⟩⟩
set_option maxRecDepth 100000 in
set_option maxHeartbeats 4000000 in
theorem c_X4_order {l0 : Launch} {X : zX} {ω : zWd} {r c h wd : Nat} {u : Int} {g : Int → Int} {ro co ho wo : Nat} {uo : Int} {go : Int → Int} {row fr : Int} (hr : ω.1 r = some (zOb 4 [.int (zI h), .int (zI wd), .ref c, .int (zI u)])) (hc : ω.1 c = some (zAJ X (h * wd) g)) (hs : (0 < h ∧ h ≤ 256) ∧ (0 < wd ∧ wd ≤ 16) ∧ 0 ≤ u ∧ u ≤ h) (hro : ω.1 ro = some (zOb 4 [.int (zI ho), .int (zI wo), .ref co, .int (zI uo)])) (hco : ω.1 co = some (zAJ X (ho * wo) go)) (hso : (0 < ho ∧ ho ≤ 256) ∧ (0 < wo ∧ wo ≤ 16) ∧ 0 ≤ uo ∧ uo ≤ ho) (hww : wo = wd) (hrow : 0 ≤ row ∧ row < u) (hfr : 0 ≤ fr ∧ fr < uo) (hx : ∀ k : Int, 0 ≤ k → k < wd → 0 ≤ g (row * wd + k) ∧ g (row * wd + k) < zL) (hy : ∀ k : Int, 0 ≤ k → k < wd → 0 ≤ go (fr * wo + k) ∧ go (fr * wo + k) < zL) : zMet l0 yX4_order cX4_order 6 (some .int) rmX4_order X [.ref r, .int (zI row), .ref ro, .int (zI fr)] ω (zpi (fun v w => w = ω ∧ ((zv zL (fun k => g (row * wd + k)) wd < zv zL (fun k => go (fr * wo + k)) wd ∧ v = -1) ∨ (zv zL (fun k => g (row * wd + k)) wd = zv zL (fun k => go (fr * wo + k)) wd ∧ v = 0) ∨ (zv zL (fun k => go (fr * wo + k)) wd < zv zL (fun k => g (row * wd + k)) wd ∧ v = 1)))) := by
  refine zMet.intro (by decide) (Nat.le_of_ble_eq_true rfl) ?_
  intro Γ C E N
  show Zw Γ ω 0 0 0 [some _, some _, some _, some _, none, none] []
  refine z_aload_n (i := 0) (pc := 0) C rfl rfl dX4_order_0 ?_
  refine g_X4_21 (pc := 1) C hr rfl dX4_order_1 ?_
  refine z_aload_n (i := 2) (pc := 4) C rfl rfl dX4_order_4 ?_
  refine g_X4_21 (pc := 5) C hro rfl dX4_order_5 ?_
  refine z_callSi (pc := 8) C (c_J9_max_7cf53) k_X4_9 zy_J9_max_7cf53.2 rfl rfl ⟨(Nat.le_of_ble_eq_true rfl), (Nat.le_of_ble_eq_true rfl)⟩ (Nat.le_of_ble_eq_true rfl) dX4_order_8 ⟨rfl, rfl⟩ ⟨(Nat.le_of_ble_eq_true rfl), (Nat.le_of_ble_eq_true rfl)⟩ (fun rv ω' hp => ?_)
  obtain ⟨rfl, rfl⟩ := hp
  refine z_iconst (pc := 11) C dX4_order_11 ?_
  refine z_isub (pc := 12) C dX4_order_12 ?_
  refine z_istore (i := 4) (lv' := [_, _, _, _, _, _]) (pc := 13) C (by decide) rfl rfl dX4_order_13 ?_
  rw [show max (wd : Int) (wo : Int) - 1 = (wd : Int) - 1 by omega]
  exact lp_X4_order C E hr hc hs hro hco hso hww hrow hfr hx hy wd _ (by omega) (fun k a b => by omega)
/-- a figure of a limb is a figure of the number -/
theorem z_fig {x : Int → Int} {wd p : Nat} (hp : p < 12 * wd) (hx : ∀ k : Int, 0 ≤ k → k < wd → 0 ≤ x k ∧ x k < zL) : x ((p / 12 : Nat) : Int) / 10 ^ (p % 12) % 10 = zv zL x wd / 10 ^ p % 10 := by
  have h1 := zv_at (B := zL) (f := x) (by decide) (n := wd) (i := p / 12) (by omega) hx
  have e1 : (10 : Int) ^ p = zL ^ (p / 12) * 10 ^ (p % 12) := by
    have : (10 : Int) ^ p = 10 ^ (12 * (p / 12) + p % 12) := by congr 1; omega
    rw [this, Int.pow_add, Int.pow_mul]
    rfl
  have hp1 : (0 : Int) < zL ^ (p / 12) := zpw (by decide) _
  rw [e1, ← Int.ediv_ediv_of_nonneg (by omega)]
  generalize hY : zv zL x wd / zL ^ (p / 12) = Y at *
  rw [← h1]
  have h2 := Int.emod_add_mul_ediv Y zL
  have e3 : zL = 10 ^ (12 - p % 12 - 1) * 10 * 10 ^ (p % 12) := by
    have : (10 : Int) ^ (12 - p % 12 - 1) * 10 * 10 ^ (p % 12) = 10 ^ (12 - p % 12 - 1 + 1 + p % 12) := by rw [Int.pow_add, Int.pow_add]; simp
    rw [this, show 12 - p % 12 - 1 + 1 + p % 12 = 12 by omega]
    rfl
  have hp2 : (0 : Int) < 10 ^ (p % 12) := zpw (by decide) _
  have h3 : Y / 10 ^ (p % 12) = Y % zL / 10 ^ (p % 12) + Y / zL * 10 ^ (12 - p % 12 - 1) * 10 := by
    have e4 : Y = Y % zL + (Y / zL * 10 ^ (12 - p % 12 - 1) * 10) * 10 ^ (p % 12) := by
      have : zL * (Y / zL) = (Y / zL * 10 ^ (12 - p % 12 - 1) * 10) * 10 ^ (p % 12) := by
        generalize Y / zL = Z
        generalize (10 : Int) ^ (12 - p % 12 - 1) = A at *
        generalize (10 : Int) ^ (p % 12) = D at *
        rw [e3]
        grind
      omega
    generalize Y / zL * 10 ^ (12 - p % 12 - 1) * 10 = K at *
    conv => lhs; rw [e4]
    rw [Int.add_mul_ediv_right _ _ (by omega)]
  rw [h3, Int.add_mul_emod_self_right]
set_option maxRecDepth 100000 in
set_option maxHeartbeats 4000000 in
theorem lp_X4_figure {Γ : zG} {l0 : Launch} {X : zX} {ω : zWd} {r : Nat} {row : Int} {p e : Nat} {x0 : Int} (C : Zc Γ l0 X rmX4_figure 6 cX4_figure RX4) (hx0 : 0 ≤ x0 ∧ x0 < zL) (he : e ≤ 12) (K : Zw Γ ω 0 0 39 [some (.ref r), some (.int (zI row)), some (.int (zI p)), some (.long (zJ (x0 / 10 ^ e))), none, some (.int (zI 0))] []) : ∀ (i d : Nat), d + i = e → Zw Γ ω 0 0 22 [some (.ref r), some (.int (zI row)), some (.int (zI p)), some (.long (zJ (x0 / 10 ^ d))), none, some (.int (zI ((i : Nat) : Int)))] [] := by
  intro i
  induction i with
  | zero =>
    intro d hd
    have e1 : d = e := by omega
    subst e1
    refine z_iload (i := 5) (pc := 22) C rfl dX4_figure_22 ?_
    refine z_if_le (tgt := 39) (pc := 24) C dX4_figure_24 (by decide) (fun h24 => ?_) (fun h24 => absurd h24 (by omega))
    exact K
  | succ i ih =>
    intro d hd
    have hz : zL = 1000000000000 := rfl
    rw [hz] at hx0
    have hp1 : (0 : Int) < 10 ^ d := zpw (by decide) _
    have hb1 : x0 / 10 ^ d ≤ x0 := Int.ediv_le_self _ hx0.1
    have hb2 : 0 ≤ x0 / 10 ^ d := Int.ediv_nonneg hx0.1 (by omega)
    refine z_iload (i := 5) (pc := 22) C rfl dX4_figure_22 ?_
    refine z_if_le (tgt := 39) (pc := 24) C dX4_figure_24 (by decide) (fun h24 => absurd h24 (by omega)) (fun h24 => ?_)
    refine z_lload_n (i := 3) (pc := 27) C rfl rfl dX4_figure_27 ?_
    refine z_ldc2 (a := 10) (pc := 28) C (by decide +kernel) q_X4_80 dX4_figure_28 ?_
    refine z_ldiv (pc := 31) C (hd := dX4_figure_31) (k := ?_)
    refine z_lstore_n (i := 3) (lv' := [_, _, _, _, _, _]) (pc := 32) C rfl (by decide) rfl rfl dX4_figure_32 ?_
    refine z_iinc (i := 5) (lv' := [_, _, _, _, _, _]) (pc := 33) C rfl (by decide) rfl rfl dX4_figure_33 ?_
    refine z_goto (tgt := 22) (pc := 36) C dX4_figure_36 (by decide) ?_
    rw [show ((i + 1 : Nat) : Int) + -1 = (i : Int) by omega, Int.ediv_ediv_of_nonneg (by omega), show (10 : Int) ^ d * 10 = 10 ^ (d + 1) from (Int.pow_succ _ _).symm]
    exact ih (d + 1) (by omega)
set_option maxRecDepth 100000 in
set_option maxHeartbeats 4000000 in
theorem c_X4_figure {l0 : Launch} {X : zX} {ω : zWd} {r c h wd : Nat} {u : Int} {g : Int → Int} {row : Int} {p : Nat} (hr : ω.1 r = some (zOb 4 [.int (zI h), .int (zI wd), .ref c, .int (zI u)])) (hc : ω.1 c = some (zAJ X (h * wd) g)) (hs : (0 < h ∧ h ≤ 256) ∧ (0 < wd ∧ wd ≤ 16) ∧ 0 ≤ u ∧ u ≤ h) (hrow : 0 ≤ row ∧ row < u) (hp : p < 12 * wd) (hx : ∀ k : Int, 0 ≤ k → k < wd → 0 ≤ g (row * wd + k) ∧ g (row * wd + k) < zL) : zMet l0 yX4_figure cX4_figure 6 (some .int) rmX4_figure X [.ref r, .int (zI row), .int (zI (p : Int))] ω (zpi (fun v w => w = ω ∧ v = zv zL (fun k => g (row * wd + k)) wd / 10 ^ p % 10)) := by
  refine zMet.intro (by decide) (Nat.le_of_ble_eq_true rfl) ?_
  intro Γ C E N
  show Zw Γ ω 0 0 0 [some _, some _, some _, none, none, none] []
  have hz : zL = 1000000000000 := rfl
  have hxp := hx ((p / 12 : Nat) : Int) (by omega) (by omega)
  have hfg := z_fig hp hx
  have hp1 : (0 : Int) < 10 ^ (p % 12) := zpw (by decide) _
  have hb1 : g (row * wd + ((p / 12 : Nat) : Int)) / 10 ^ (p % 12) ≤ g (row * wd + ((p / 12 : Nat) : Int)) := Int.ediv_le_self _ hxp.1
  have hb2 : 0 ≤ g (row * wd + ((p / 12 : Nat) : Int)) / 10 ^ (p % 12) := Int.ediv_nonneg hxp.1 (by omega)
  refine z_iload_n (i := 2) (pc := 0) C rfl rfl dX4_figure_0 ?_
  refine z_if_ge (tgt := 6) (pc := 1) C dX4_figure_1 (by decide) (fun h1 => ?_) (fun h1 => absurd h1 (by omega))
  refine z_aload_n (i := 0) (pc := 6) C rfl rfl dX4_figure_6 ?_
  refine z_iload_n (i := 1) (pc := 7) C rfl rfl dX4_figure_7 ?_
  refine z_iload_n (i := 2) (pc := 8) C rfl rfl dX4_figure_8 ?_
  refine z_bipush (pc := 9) C (by decide +kernel) dX4_figure_9 ?_
  refine z_idiv (pc := 11) C (hd := dX4_figure_11) (k := ?_)
  refine z_callVl (pc := 12) C (c_X4_read hr hc hs) k_X4_44 zy_X4_read rfl rfl hr rfl rfl ⟨(Nat.le_of_ble_eq_true rfl), (Nat.le_of_ble_eq_true rfl)⟩ (Nat.le_of_ble_eq_true rfl) dX4_figure_12 ⟨rfl, rfl⟩ ⟨(Nat.le_of_ble_eq_true rfl), (Nat.le_of_ble_eq_true rfl)⟩ (fun rv ω' hp => ?_)
  obtain ⟨rfl, hp1⟩ := hp
  have hv1 : rv = g (row * wd + ((p / 12 : Nat) : Int)) := by
    rcases hp1 with q1 | q1
    · rw [q1.2.2.2]; congr 1
    · omega
  subst hv1
  refine z_lstore_n (i := 3) (lv' := [_, _, _, _, _, _]) (pc := 15) C rfl (by decide) rfl rfl dX4_figure_15 ?_
  refine z_iload_n (i := 2) (pc := 16) C rfl rfl dX4_figure_16 ?_
  refine z_bipush (pc := 17) C (by decide +kernel) dX4_figure_17 ?_
  refine z_irem (pc := 19) C (hd := dX4_figure_19) (k := ?_)
  refine z_istore (i := 5) (lv' := [_, _, _, _, _, _]) (pc := 20) C (by decide) rfl rfl dX4_figure_20 ?_
  have e3 : (p : Int) % 12 = ((p % 12 : Nat) : Int) := by omega
  rw [e3, show g (row * wd + ((p / 12 : Nat) : Int)) = g (row * wd + ((p / 12 : Nat) : Int)) / 10 ^ 0 by simp]
  refine lp_X4_figure (e := p % 12) C hxp (by omega) ?_ (p % 12) 0 (by omega)
  rw [hz] at hxp
  refine z_lload_n (i := 3) (pc := 39) C rfl rfl dX4_figure_39 ?_
  refine z_ldc2 (a := 10) (pc := 40) C (by decide +kernel) q_X4_80 dX4_figure_40 ?_
  refine z_lrem (pc := 43) C (hd := dX4_figure_43) (k := ?_)
  refine z_l2i (pc := 44) C dX4_figure_44 ?_
  exact z_iret (pc := 45) C E dX4_figure_45 ⟨_, rfl, ⟨rfl, hfg⟩⟩
set_option maxRecDepth 100000 in
set_option maxHeartbeats 4000000 in
theorem c_X4_figureN {l0 : Launch} {X : zX} {ω : zWd} {r c h wd : Nat} {u : Int} {g : Int → Int} {row p : Int} (hr : ω.1 r = some (zOb 4 [.int (zI h), .int (zI wd), .ref c, .int (zI u)])) (hc : ω.1 c = some (zAJ X (h * wd) g)) (hs : (0 < h ∧ h ≤ 256) ∧ (0 < wd ∧ wd ≤ 16) ∧ 0 ≤ u ∧ u ≤ h) (hp : p < 0 ∧ -1000000 ≤ p) : zMet l0 yX4_figure cX4_figure 6 (some .int) rmX4_figure X [.ref r, .int (zI row), .int (zI p)] ω (zpi (fun v w => w = ω ∧ v = 0)) := by
  refine zMet.intro (by decide) (Nat.le_of_ble_eq_true rfl) ?_
  intro Γ C E N
  show Zw Γ ω 0 0 0 [some _, some _, some _, none, none, none] []
  refine z_iload_n (i := 2) (pc := 0) C rfl rfl dX4_figure_0 ?_
  refine z_if_ge (tgt := 6) (pc := 1) C dX4_figure_1 (by decide) (fun h1 => absurd h1 (by omega)) (fun h1 => ?_)
  refine z_iconst (pc := 4) C dX4_figure_4 ?_
  exact z_iret (pc := 5) C E dX4_figure_5 ⟨_, rfl, ⟨rfl, rfl⟩⟩
