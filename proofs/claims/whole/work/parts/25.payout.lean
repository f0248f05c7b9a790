/-! PAYING OUT: eleven cells from a on: the object, claims, unit (a + 3, a + 4), rival (a + 5, a + 6), now and next -/
def zLw (wt : Int → Int) (p : Int) (V : Int → Int) (u : Int) : Int := zs (fun s => wt s * V (u + p - s)) 41
def zVb (wt : Int → Int) (p U : Int) (V : Int → Int) : Nat → Int
  | 0 => zLw wt p V 0
  | u + 1 => max (zLw wt p V ((u + 1 : Nat) : Int)) (zVb wt p U V u + U)
def zPb (wt : Int → Int) (p U : Int) (V : Int → Int) : Nat → Int
  | 0 => 0
  | u + 1 => if zVb wt p U V u + U ≤ zLw wt p V ((u + 1 : Nat) : Int) then 0 else zPb wt p U V u + 1
theorem zLw_b {wt V : Int → Int} {p B u : Int} (hw : ∀ s : Int, 0 ≤ s → s < 41 → 0 ≤ wt s) (hs : zs wt 41 ≤ 1000000) (hB : 0 ≤ B) (hV : ∀ v : Int, v ≤ u + p → 0 ≤ V v ∧ V v ≤ B) : 0 ≤ zLw wt p V u ∧ zLw wt p V u ≤ 1000000 * B := by
  have h := zs_m (w := wt) (S := fun s => V (u + p - s)) (B := B) (n := 41) (fun k a b => ⟨hw k a (by omega), hV _ (by omega)⟩)
  exact ⟨h.1, Int.le_trans h.2 (Int.mul_le_mul_of_nonneg_right hs hB)⟩
theorem zVb_b {wt V : Int → Int} {p B U : Int} {hi : Nat} (hw : ∀ s : Int, 0 ≤ s → s < 41 → 0 ≤ wt s) (hs : zs wt 41 ≤ 1000000) (hB : 0 ≤ B) (hU : 0 ≤ U) (hV : ∀ v : Int, v ≤ hi + p → 0 ≤ V v ∧ V v ≤ B) : ∀ u : Nat, u ≤ hi → 0 ≤ zVb wt p U V u ∧ zVb wt p U V u ≤ 1000000 * B + u * U
  | 0, _ => by
    have := zLw_b (u := 0) (p := p) hw hs hB (fun v h => hV v (by omega))
    show 0 ≤ zLw wt p V 0 ∧ zLw wt p V 0 ≤ _
    omega
  | u + 1, h => by
    have h1 := zVb_b hw hs hB hU hV u (by omega)
    have h2 := zLw_b (u := ((u + 1 : Nat) : Int)) (p := p) hw hs hB (fun v h => hV v (by omega))
    have e : ((u + 1 : Nat) : Int) * U = u * U + U := by rw [Int.natCast_succ, Int.add_mul, Int.one_mul]
    have h3 : 0 ≤ (u : Int) * U := Int.mul_nonneg (by omega) hU
    show 0 ≤ max _ _ ∧ max _ _ ≤ _
    rw [e]
    omega
theorem zmx4 {gn wt V : Int → Int} {un T fr : Int} (hV : zRV gn 4 un V) (hT : 0 ≤ T ∧ T < 41) (hw0 : ∀ s : Int, 0 ≤ s → s < 41 → T < s → wt s = 0) (hz : ∀ v : Int, v < 0 → V v = 0) (hfr : fr < un) :
    zv zL (fun k => zs (fun s => wt s * zSr gn ((4 : Nat) : Int) un (fr + -1 * s) k) (T.toNat + 1)) 4 = zs (fun s => wt s * V (fr - s)) 41 := by
  rw [zv_zs, zs_z (n := 41) (m := T.toNat + 1) (by omega) (fun k a b => by rw [hw0 k (by omega) b (by omega), Int.zero_mul])]
  refine zs_c (fun s a b => ?_)
  congr 1
  rw [show fr + -1 * s = fr - s by omega]
  unfold zSr
  by_cases h : 0 ≤ fr - s ∧ fr - s < un
  · simp only [h, and_self, if_true]
    exact hV.v h.1 h.2
  · rw [hz (fr - s) (by omega)]
    exact zv_0 (fun k _ _ => if_neg h)
set_option maxRecDepth 100000 in
set_option maxHeartbeats 4000000 in
theorem c_X3_payOne {l0 : Launch} {X : zX} {ω : zWd} {a rn rx : Nat} {ux u U : Int} {gu gr gx V : Int → Int} (hw : ω.1 a = some (zOb 3 [.ref (a + 1), .ref (a + 3), .ref (a + 5), .ref rn, .ref rx])) (hN : (rn = a + 7 ∧ rx = a + 9) ∨ (rn = a + 9 ∧ rx = a + 7)) (hu : ω.1 (a + 3) = some (zOb 4 [.int (zI ((1 : Nat) : Int)), .int (zI ((4 : Nat) : Int)), .ref (a + 4), .int (zI 1)])) (huc : ω.1 (a + 4) = some (zAJ X (1 * 4) gu)) (hr : ω.1 (a + 5) = some (zOb 4 [.int (zI ((1 : Nat) : Int)), .int (zI ((4 : Nat) : Int)), .ref (a + 6), .int (zI 1)])) (hrc : ω.1 (a + 6) = some (zAJ X (1 * 4) gr)) (hx : ω.1 rx = some (zOb 4 [.int (zI ((181 : Nat) : Int)), .int (zI ((4 : Nat) : Int)), .ref (rx + 1), .int (zI ux)])) (hxc : ω.1 (rx + 1) = some (zAJ X (181 * 4) gx)) (hU : zRV gu 4 1 (fun _ => U)) (hV : zRV gx 4 (u + 1) V) (hu1 : 1 ≤ u ∧ u < ux) (hux : 0 ≤ ux ∧ ux ≤ 181) (hb : 0 ≤ V (u - 1) + U ∧ V (u - 1) + U < zL ^ 4) : zMet l0 yX3_payOne cX3_payOne 2 (some .boolean) rmX3_payOne X [.ref a, .int (zI u)] ω (zpi (fun r w => ∃ gr2 gx2, w = zU (zU ω (a + 6) (zAJ X (1 * 4) gr2)) (rx + 1) (zAJ X (181 * 4) gx2) ∧ zRV gx2 4 (u + 1) (zup V u (max (V u) (V (u - 1) + U))) ∧ ((V (u - 1) + U ≤ V u ∧ r = 0) ∨ (V u < V (u - 1) + U ∧ r = 1)))) := by
  refine zMet.intro (by decide) (Nat.le_of_ble_eq_true rfl) ?_
  intro Γ C E N
  show Zw Γ ω 0 0 0 [some _, some _] []
  refine z_aload_n (i := 0) (pc := 0) C rfl rfl dX3_payOne_0 ?_
  refine g_X3_27 (pc := 1) C hw rfl dX3_payOne_1 ?_
  refine z_iconst (pc := 4) C dX3_payOne_4 ?_
  refine z_aload_n (i := 0) (pc := 5) C rfl rfl dX3_payOne_5 ?_
  refine g_X3_33 (pc := 6) C hw rfl dX3_payOne_6 ?_
  refine z_iload_n (i := 1) (pc := 9) C rfl rfl dX3_payOne_9 ?_
  refine z_iconst (pc := 10) C dX3_payOne_10 ?_
  refine z_isub (pc := 11) C dX3_payOne_11 ?_
  refine z_callVv (pc := 12) C (c_X4_copy hr hrc ⟨⟨by decide, by decide⟩, ⟨by decide, by decide⟩, by omega, by omega⟩ hx hxc ⟨⟨by decide, by decide⟩, ⟨by decide, by decide⟩, by omega, by omega⟩ (by omega)) k_X3_66 zy_X4_copy rfl rfl hr rfl rfl ⟨(Nat.le_of_ble_eq_true rfl), (Nat.le_of_ble_eq_true rfl)⟩ (Nat.le_of_ble_eq_true rfl) dX3_payOne_12 ⟨rfl, rfl⟩ ⟨(Nat.le_of_ble_eq_true rfl), (Nat.le_of_ble_eq_true rfl)⟩ (fun ω' hp => ?_)
  obtain ⟨g2, rfl, hg2⟩ := hp
  have hcv := zcopy_v hg2 (hV.at (r := u - 1) (by omega) (by omega)) (hV.v (r := u - 1) (by omega) (by omega)) (by decide)
  refine z_nm (fun ω2 hω2 => ?_)
  have w_ω2 := z_at hω2 (zU_n' (z_neOJ hw hrc) hw)
  have u_ω2 := z_at hω2 (zU_n' (z_neOJ hu hrc) hu)
  have uc_ω2 := z_at hω2 (zU_n' (by omega) huc)
  have r_ω2 := z_at hω2 (zU_n' (z_neOJ hr hrc) hr)
  have x_ω2 := z_at hω2 (zU_n' (z_neOJ hx hrc) hx)
  have xc_ω2 := z_at hω2 (zU_n' (by omega) hxc)
  have rc_ω2 := z_at hω2 (zU_s _ _ _)
  refine z_aload_n (i := 0) (pc := 15) C rfl rfl dX3_payOne_15 ?_
  refine g_X3_27 (pc := 16) C w_ω2 rfl dX3_payOne_16 ?_
  refine z_iconst (pc := 19) C dX3_payOne_19 ?_
  refine z_lconst (v := 1) (pc := 20) C (by decide +kernel) dX3_payOne_20 ?_
  refine z_aload_n (i := 0) (pc := 21) C rfl rfl dX3_payOne_21 ?_
  refine g_X3_23 (pc := 22) C w_ω2 rfl dX3_payOne_22 ?_
  refine z_iconst (pc := 25) C dX3_payOne_25 ?_
  refine z_lconst (v := 1) (pc := 26) C (by decide +kernel) dX3_payOne_26 ?_
  refine z_callVv (pc := 27) C (c_X4_combineA r_ω2 rc_ω2 ⟨⟨by decide, by decide⟩, ⟨by decide, by decide⟩, by omega, by omega⟩ u_ω2 uc_ω2 ⟨⟨by decide, by decide⟩, ⟨by decide, by decide⟩, by omega, by omega⟩ rfl (by omega) (by omega) (by omega) (fun k a b => ⟨hcv.1 k a b, (hU.at (by omega) (by omega)) k a b⟩) (by omega) (by omega)) k_X3_70 zy_X4_combine rfl rfl r_ω2 rfl rfl ⟨(Nat.le_of_ble_eq_true rfl), (Nat.le_of_ble_eq_true rfl)⟩ (Nat.le_of_ble_eq_true rfl) dX3_payOne_27 ⟨rfl, rfl⟩ ⟨(Nat.le_of_ble_eq_true rfl), (Nat.le_of_ble_eq_true rfl)⟩ (fun ω' hp => ?_)
  obtain ⟨g3, rfl, hg3⟩ := hp
  have hcv3 := zcomb_v hg3 hcv.2 (hU.v (by omega) (by omega)) (by omega)
  simp only [Int.mul_one] at hcv3
  have hR3 := zRV1 hcv3
  refine z_nm (fun ω3 hω3 => ?_)
  have w_ω3 := z_at hω3 (zU_n' (z_neOJ w_ω2 rc_ω2) w_ω2)
  have u_ω3 := z_at hω3 (zU_n' (z_neOJ u_ω2 rc_ω2) u_ω2)
  have uc_ω3 := z_at hω3 (zU_n' (by omega) uc_ω2)
  have r_ω3 := z_at hω3 (zU_n' (z_neOJ r_ω2 rc_ω2) r_ω2)
  have x_ω3 := z_at hω3 (zU_n' (z_neOJ x_ω2 rc_ω2) x_ω2)
  have xc_ω3 := z_at hω3 (zU_n' (by omega) xc_ω2)
  have rc_ω3 := z_at hω3 (zU_s _ _ _)
  refine z_aload_n (i := 0) (pc := 30) C rfl rfl dX3_payOne_30 ?_
  refine g_X3_33 (pc := 31) C w_ω3 rfl dX3_payOne_31 ?_
  refine z_iload_n (i := 1) (pc := 34) C rfl rfl dX3_payOne_34 ?_
  refine z_aload_n (i := 0) (pc := 35) C rfl rfl dX3_payOne_35 ?_
  refine g_X3_27 (pc := 36) C w_ω3 rfl dX3_payOne_36 ?_
  refine z_iconst (pc := 39) C dX3_payOne_39 ?_
  refine z_callVi (pc := 40) C (c_X4_order x_ω3 xc_ω3 ⟨⟨by decide, by decide⟩, ⟨by decide, by decide⟩, by omega, by omega⟩ r_ω3 rc_ω3 ⟨⟨by decide, by decide⟩, ⟨by decide, by decide⟩, by omega, by omega⟩ rfl (by omega) (by omega) (hV.at (r := u) (by omega) (by omega)) (hR3.at (by omega) (by omega))) k_X3_74 zy_X4_order rfl rfl x_ω3 rfl rfl ⟨(Nat.le_of_ble_eq_true rfl), (Nat.le_of_ble_eq_true rfl)⟩ (Nat.le_of_ble_eq_true rfl) dX3_payOne_40 ⟨rfl, rfl⟩ ⟨(Nat.le_of_ble_eq_true rfl), (Nat.le_of_ble_eq_true rfl)⟩ (fun rv ω' hp => ?_)
  obtain ⟨hw', hcmp⟩ := hp
  rw [hw']
  rw [hV.v (r := u) (by omega) (by omega), hR3.v (by omega) (by omega)] at hcmp
  have hω3' : ω3 = zU ω (a + 6) (zAJ X (1 * 4) g3) := by rw [hω3, hω2, zU_u]
  refine z_if_lt (tgt := 48) (pc := 43) C dX3_payOne_43 (by decide) (fun h43 => ?_) (fun h43 => ?_)
  · refine z_aload_n (i := 0) (pc := 48) C rfl rfl dX3_payOne_48 ?_
    refine g_X3_33 (pc := 49) C w_ω3 rfl dX3_payOne_49 ?_
    refine z_iload_n (i := 1) (pc := 52) C rfl rfl dX3_payOne_52 ?_
    refine z_aload_n (i := 0) (pc := 53) C rfl rfl dX3_payOne_53 ?_
    refine g_X3_27 (pc := 54) C w_ω3 rfl dX3_payOne_54 ?_
    refine z_iconst (pc := 57) C dX3_payOne_57 ?_
    refine z_callVv (pc := 58) C (c_X4_copy x_ω3 xc_ω3 ⟨⟨by decide, by decide⟩, ⟨by decide, by decide⟩, by omega, by omega⟩ r_ω3 rc_ω3 ⟨⟨by decide, by decide⟩, ⟨by decide, by decide⟩, by omega, by omega⟩ (by omega)) k_X3_66 zy_X4_copy rfl rfl x_ω3 rfl rfl ⟨(Nat.le_of_ble_eq_true rfl), (Nat.le_of_ble_eq_true rfl)⟩ (Nat.le_of_ble_eq_true rfl) dX3_payOne_58 ⟨rfl, rfl⟩ ⟨(Nat.le_of_ble_eq_true rfl), (Nat.le_of_ble_eq_true rfl)⟩ (fun ω' hp => ?_)
    obtain ⟨g4, rfl, hg4⟩ := hp
    have hcv4 := zcopy_v hg4 (hR3.at (by omega) (by omega)) (hR3.v (by omega) (by omega)) (by decide)
    refine z_iconst (pc := 61) C dX3_payOne_61 ?_
    exact z_zret (pc := 62) C E (by decide +kernel) dX3_payOne_62 ⟨_, rfl, ⟨g3, g4, by rw [hω3'], (hV.set (by omega) hg4 hcv4).c (fun r a b => by rw [show max (V u) (V (u - 1) + U) = V (u - 1) + U by omega]), Or.inr ⟨by omega, rfl⟩⟩⟩
  · refine z_iconst (pc := 46) C dX3_payOne_46 ?_
    exact z_zret (pc := 47) C E (by decide +kernel) dX3_payOne_47 ⟨_, rfl, ⟨g3, gx, by rw [← hω3', zU_id xc_ω3], hV.c (fun r a b => by
  by_cases e : r = u
  · subst e; rw [zup_s]; omega
  · rw [zup_n e]), Or.inl ⟨by omega, rfl⟩⟩⟩
set_option maxRecDepth 100000 in
set_option maxHeartbeats 4000000 in
theorem lp_X3_goBack {Γ : zG} {l0 : Launch} {X : zX} {ω : zWd} {a rn rx hi : Nat} {T Wh cp un U B p : Int} {wt gu gr gn gx V : Int → Int} (C : Zc Γ l0 X rmX3_goBack 5 cX3_goBack RX3) (hw : ω.1 a = some (zOb 3 [.ref (a + 1), .ref (a + 3), .ref (a + 5), .ref rn, .ref rx])) (hN : (rn = a + 7 ∧ rx = a + 9) ∨ (rn = a + 9 ∧ rx = a + 7)) (hq : ω.1 (a + 1) = some (zOb 1 [.ref (a + 2), .int (zI T), .long (zJ Wh), .int (zI cp)])) (he : ω.1 (a + 2) = some (zAJ X 41 wt)) (hu : ω.1 (a + 3) = some (zOb 4 [.int (zI ((1 : Nat) : Int)), .int (zI ((4 : Nat) : Int)), .ref (a + 4), .int (zI 1)])) (huc : ω.1 (a + 4) = some (zAJ X (1 * 4) gu)) (hr : ω.1 (a + 5) = some (zOb 4 [.int (zI ((1 : Nat) : Int)), .int (zI ((4 : Nat) : Int)), .ref (a + 6), .int (zI 1)])) (hrc : ω.1 (a + 6) = some (zAJ X (1 * 4) gr)) (hn : ω.1 rn = some (zOb 4 [.int (zI ((181 : Nat) : Int)), .int (zI ((4 : Nat) : Int)), .ref (rn + 1), .int (zI un)])) (hnc : ω.1 (rn + 1) = some (zAJ X (181 * 4) gn)) (hx : ω.1 rx = some (zOb 4 [.int (zI ((181 : Nat) : Int)), .int (zI ((4 : Nat) : Int)), .ref (rx + 1), .int (zI ((hi : Int) + 1))])) (hxc : ω.1 (rx + 1) = some (zAJ X (181 * 4) gx)) (hT : 0 ≤ T ∧ T < 41) (hwt : ∀ s : Int, 0 ≤ s → s < 41 → 0 ≤ wt s) (hw0 : ∀ s : Int, 0 ≤ s → s < 41 → T < s → wt s = 0) (hsum : zs wt 41 ≤ 1000000) (hp0 : 0 ≤ p ∧ p ≤ 20) (hhi : (hi : Int) + p < un ∧ hi ≤ 180) (hun : un ≤ 181) (hV : zRV gn 4 un V) (hV0 : ∀ v : Int, v < 0 → V v = 0) (hVb : ∀ v : Int, v ≤ hi + p → 0 ≤ V v ∧ V v ≤ B) (hB : 0 ≤ B ∧ 0 ≤ U ∧ 1000000 * B + 181 * U < zL ^ 4) (hU : zRV gu 4 1 (fun _ => U)) (K : ∀ (ω1 : zWd) (gi : Int → Int), (∃ gr2, ω1 = zU (zU ω (a + 6) (zAJ X (1 * 4) gr2)) (rx + 1) (zAJ X (181 * 4) gi)) → zRV gi 4 ((hi : Int) + 1) (fun v => zVb wt p U V v.toNat) → Zw Γ ω1 0 0 72 [some (.ref a), some (.int (zI (hi : Int))), some (.int (zI p)), some (.int (zI (zPb wt p U V hi))), some (.int (zI ((hi : Int) + 1)))] []) : ∀ (j i : Nat) (ω1 : zWd) (gi : Int → Int) (pay : Int), i + j = hi + 1 → (∃ gr2, ω1 = zU (zU ω (a + 6) (zAJ X (1 * 4) gr2)) (rx + 1) (zAJ X (181 * 4) gi)) → zRV gi 4 (i : Int) (fun v => zVb wt p U V v.toNat) → (0 < i → pay = zPb wt p U V (i - 1)) → Zw Γ ω1 0 0 15 [some (.ref a), some (.int (zI (hi : Int))), some (.int (zI p)), some (.int (zI pay)), some (.int (zI (i : Int)))] [] := by
  intro j
  induction j with
  | zero =>
    intro i ω1 gi pay hj hE hg hpay
    have e1 : i = hi + 1 := by omega
    subst e1
    have hp1 := hpay (by omega)
    rw [show hi + 1 - 1 = hi by omega] at hp1
    subst hp1
    refine z_iload (i := 4) (pc := 15) C rfl dX3_goBack_15 ?_
    refine z_iload_n (i := 1) (pc := 17) C rfl rfl dX3_goBack_17 ?_
    refine z_icmp_gt (tgt := 72) (pc := 18) C dX3_goBack_18 (by decide) (fun h18 => ?_) (fun h18 => absurd h18 (by omega))
    exact K ω1 gi hE hg
  | succ j ih =>
    intro i ω1 gi pay hj hE hg hpay
    obtain ⟨gr2, hω1⟩ := hE
    have hbV := zVb_b (hi := hi) (p := p) hwt hsum hB.1 hB.2.1 hVb
    have hLb := zLw_b (u := (i : Int)) (p := p) hwt hsum hB.1 (fun v h => hVb v (by omega))
    have htot := zmx4 (wt := wt) (T := T) (fr := (i : Int) + p) hV hT hw0 hV0 (by omega)
    have hsum2 : zs wt (T.toNat + 1) ≤ 1000000 := by
      rw [← zs_z (n := 41) (by omega) (fun k a b => hw0 k (by omega) b (by omega))]
      exact hsum
    have w_1 := z_at hω1 (zU_n' (by omega) (zU_n' (by omega) hw))
    have cl_1 := z_at hω1 (zU_n' (by omega) (zU_n' (by omega) hq))
    have ce_1 := z_at hω1 (zU_n' (by omega) (zU_n' (by omega) he))
    have u_1 := z_at hω1 (zU_n' (by omega) (zU_n' (by omega) hu))
    have uc_1 := z_at hω1 (zU_n' (by omega) (zU_n' (by omega) huc))
    have r_1 := z_at hω1 (zU_n' (by omega) (zU_n' (by omega) hr))
    have n_1 := z_at hω1 (zU_n' (by omega) (zU_n' (by omega) hn))
    have nc_1 := z_at hω1 (zU_n' (by omega) (zU_n' (by omega) hnc))
    have x_1 := z_at hω1 (zU_n' (by omega) (zU_n' (by omega) hx))
    have rc_1 := z_at hω1 (zU_n' (by omega) (zU_s _ _ _))
    have xc_1 := z_at hω1 (zU_s _ _ _)
    refine z_iload (i := 4) (pc := 15) C rfl dX3_goBack_15 ?_
    refine z_iload_n (i := 1) (pc := 17) C rfl rfl dX3_goBack_17 ?_
    refine z_icmp_gt (tgt := 72) (pc := 18) C dX3_goBack_18 (by decide) (fun h18 => absurd h18 (by omega)) (fun h18 => ?_)
    refine z_aload_n (i := 0) (pc := 21) C rfl rfl dX3_goBack_21 ?_
    refine g_X3_33 (pc := 22) C w_1 rfl dX3_goBack_22 ?_
    refine z_iload (i := 4) (pc := 25) C rfl dX3_goBack_25 ?_
    refine z_aload_n (i := 0) (pc := 27) C rfl rfl dX3_goBack_27 ?_
    refine g_X3_30 (pc := 28) C w_1 rfl dX3_goBack_28 ?_
    refine z_iload (i := 4) (pc := 31) C rfl dX3_goBack_31 ?_
    refine z_iload_n (i := 2) (pc := 33) C rfl rfl dX3_goBack_33 ?_
    refine z_iadd (pc := 34) C dX3_goBack_34 ?_
    refine z_iconst (pc := 35) C dX3_goBack_35 ?_
    refine z_aload_n (i := 0) (pc := 36) C rfl rfl dX3_goBack_36 ?_
    refine g_X3_12 (pc := 37) C w_1 rfl dX3_goBack_37 ?_
    refine z_iconst (pc := 40) C dX3_goBack_40 ?_
    refine z_callVv (pc := 41) C (c_X4_mix (mn := 4) x_1 xc_1 ⟨⟨by decide, by decide⟩, ⟨by decide, by decide⟩, by omega, by omega⟩ n_1 nc_1 ⟨⟨by decide, by decide⟩, ⟨by decide, by decide⟩, by omega, by omega⟩ cl_1 ce_1 hT (by omega) (by omega) (by omega) (by omega) (by omega) (by omega) (Or.inr rfl) (by omega) hwt hsum2 (fun rr k a b c d => (hV.at a b) k c d)) k_X3_58 zy_X4_mix rfl rfl x_1 rfl rfl ⟨(Nat.le_of_ble_eq_true rfl), (Nat.le_of_ble_eq_true rfl)⟩ (Nat.le_of_ble_eq_true rfl) dX3_goBack_41 ⟨rfl, rfl⟩ ⟨(Nat.le_of_ble_eq_true rfl), (Nat.le_of_ble_eq_true rfl)⟩ (fun ω' hp => ?_)
    obtain ⟨g3, rfl, hg3⟩ := hp
    have hmv := zmix_v (h := 181) hg3 (by omega) (by omega) (fun r k _ _ c d => by omega) (by rw [htot]; show 0 ≤ zLw wt p V i ∧ zLw wt p V i < _; have : 0 ≤ 181 * U := by omega
                                                                                              omega)
    rw [htot] at hmv
    have hV3 : zRV g3 4 ((i : Int) + 1) (zup (fun v => zVb wt p U V v.toNat) i (zLw wt p V i)) := ((hg.kp (by omega) hg3 (by omega)).c (fun r a b => by rw [zup_n (show r ≠ (i : Int) by omega)])).ext (by rw [zup_s]; exact hmv)
    refine z_nm (fun ω2 hω2 => ?_)
    have w_ω2 := z_at hω2 (zU_n' (z_neOJ w_1 xc_1) w_1)
    have cl_ω2 := z_at hω2 (zU_n' (z_neOJ cl_1 xc_1) cl_1)
    have ce_ω2 := z_at hω2 (zU_n' (by omega) ce_1)
    have u_ω2 := z_at hω2 (zU_n' (z_neOJ u_1 xc_1) u_1)
    have uc_ω2 := z_at hω2 (zU_n' (by omega) uc_1)
    have r_ω2 := z_at hω2 (zU_n' (z_neOJ r_1 xc_1) r_1)
    have n_ω2 := z_at hω2 (zU_n' (z_neOJ n_1 xc_1) n_1)
    have nc_ω2 := z_at hω2 (zU_n' (by omega) nc_1)
    have x_ω2 := z_at hω2 (zU_n' (z_neOJ x_1 xc_1) x_1)
    have rc_ω2 := z_at hω2 (zU_n' (by omega) rc_1)
    have xc_ω2 := z_at hω2 (zU_s _ _ _)
    have hω2' : ω2 = zU (zU ω (a + 6) (zAJ X (1 * 4) gr2)) (rx + 1) (zAJ X (181 * 4) g3) := by rw [hω2, hω1, zU_u]
    refine z_iload (i := 4) (pc := 44) C rfl dX3_goBack_44 ?_
    refine z_if_eq (tgt := 58) (pc := 46) C dX3_goBack_46 (by decide) (fun h46 => ?_) (fun h46 => ?_)
    · have hi0 : i = 0 := by omega
      have hE4 : ∃ gr2, ω2 = zU (zU ω (a + 6) (zAJ X (1 * 4) gr2)) (rx + 1) (zAJ X (181 * 4) g3) := ⟨gr2, hω2'⟩
      have hV5 : zRV g3 4 ((i : Int) + 1) (fun v => zVb wt p U V v.toNat) := hV3.c (fun r a b => by
        have e : r = i := by omega
        subst e
        rw [zup_s, Int.toNat_natCast, hi0]
        rfl)
      have hpe : 0 = zPb wt p U V i := by rw [hi0]; rfl
      refine z_iconst (pc := 58) C dX3_goBack_58 ?_
      refine z_goto (tgt := 65) (pc := 59) C dX3_goBack_59 (by decide) ?_
      refine z_istore_n (i := 3) (lv' := [_, _, _, _, _]) (pc := 65) C rfl (by decide) rfl rfl dX3_goBack_65 ?_
      refine z_iinc (i := 4) (lv' := [_, _, _, _, _]) (pc := 66) C rfl (by decide) rfl rfl dX3_goBack_66 ?_
      refine z_goto (tgt := 15) (pc := 69) C dX3_goBack_69 (by decide) ?_
      exact ih (i + 1) _ _ _ (by omega) hE4 hV5 (fun _ => hpe)
    · refine z_aload_n (i := 0) (pc := 49) C rfl rfl dX3_goBack_49 ?_
      refine z_iload (i := 4) (pc := 50) C rfl dX3_goBack_50 ?_
      refine z_callVi (pc := 52) C (c_X3_payOne (U := U) w_ω2 hN u_ω2 uc_ω2 r_ω2 rc_ω2 x_ω2 xc_ω2 hU hV3 (by omega) (by omega) (by rw [zup_n (by omega)]; have := hbV ((i : Int) - 1).toNat (by omega); have : (((i : Int) - 1).toNat : Int) * U ≤ 180 * U := Int.mul_le_mul_of_nonneg_right (by omega) hB.2.1; omega)) k_X3_62 zy_X3_payOne rfl rfl w_ω2 rfl rfl ⟨(Nat.le_of_ble_eq_true rfl), (Nat.le_of_ble_eq_true rfl)⟩ (Nat.le_of_ble_eq_true rfl) dX3_goBack_52 ⟨rfl, rfl⟩ ⟨(Nat.le_of_ble_eq_true rfl), (Nat.le_of_ble_eq_true rfl)⟩ (fun rv ω' hp => ?_)
      obtain ⟨gr3, g4, rfl, hV4, hcase⟩ := hp
      rw [zup_s, zup_n (by omega)] at hcase hV4
      have e4 : zVb wt p U V i = max (zLw wt p V i) (zVb wt p U V ((i : Int) - 1).toNat + U) := by
        obtain ⟨i', rfl⟩ : ∃ i', i = i' + 1 := ⟨i - 1, by omega⟩
        rw [show (((i' + 1 : Nat) : Int) - 1).toNat = i' by omega]
        rfl
      have e5 : zPb wt p U V i = if zVb wt p U V ((i : Int) - 1).toNat + U ≤ zLw wt p V i then 0 else zPb wt p U V (i - 1) + 1 := by
        obtain ⟨i', rfl⟩ : ∃ i', i = i' + 1 := ⟨i - 1, by omega⟩
        rw [show (((i' + 1 : Nat) : Int) - 1).toNat = i' by omega, show i' + 1 - 1 = i' by omega]
        rfl
      have hV5 : zRV g4 4 ((i : Int) + 1) (fun v => zVb wt p U V v.toNat) := hV4.c (fun r a b => by
        by_cases e : r = i
        · subst e; rw [zup_s, Int.toNat_natCast, e4]
        · rw [zup_n e, zup_n e])
      have hE4 : ∃ gr2, zU (zU ω2 (a + 6) (zAJ X (1 * 4) gr3)) (rx + 1) (zAJ X (181 * 4) g4) = zU (zU ω (a + 6) (zAJ X (1 * 4) gr2)) (rx + 1) (zAJ X (181 * 4) g4) := ⟨gr3, by rw [hω2', zU_c (a := rx + 1) (b := a + 6) (by omega), zU_u, zU_u]⟩
      refine z_if_ne (tgt := 62) (pc := 55) C dX3_goBack_55 (by decide) (fun h55 => ?_) (fun h55 => ?_)
      · have hpe : pay + 1 = zPb wt p U V i := by rw [e5, if_neg (by omega), hpay (by omega)]
        refine z_iload_n (i := 3) (pc := 62) C rfl rfl dX3_goBack_62 ?_
        refine z_iconst (pc := 63) C dX3_goBack_63 ?_
        refine z_iadd (pc := 64) C dX3_goBack_64 ?_
        refine z_istore_n (i := 3) (lv' := [_, _, _, _, _]) (pc := 65) C rfl (by decide) rfl rfl dX3_goBack_65 ?_
        refine z_iinc (i := 4) (lv' := [_, _, _, _, _]) (pc := 66) C rfl (by decide) rfl rfl dX3_goBack_66 ?_
        refine z_goto (tgt := 15) (pc := 69) C dX3_goBack_69 (by decide) ?_
        exact ih (i + 1) _ _ _ (by omega) hE4 hV5 (fun _ => hpe)
      · have hpe : 0 = zPb wt p U V i := by rw [e5, if_pos (by omega)]
        refine z_iconst (pc := 58) C dX3_goBack_58 ?_
        refine z_goto (tgt := 65) (pc := 59) C dX3_goBack_59 (by decide) ?_
        refine z_istore_n (i := 3) (lv' := [_, _, _, _, _]) (pc := 65) C rfl (by decide) rfl rfl dX3_goBack_65 ?_
        refine z_iinc (i := 4) (lv' := [_, _, _, _, _]) (pc := 66) C rfl (by decide) rfl rfl dX3_goBack_66 ?_
        refine z_goto (tgt := 15) (pc := 69) C dX3_goBack_69 (by decide) ?_
        exact ih (i + 1) _ _ _ (by omega) hE4 hV5 (fun _ => hpe)
