theorem z_qr {x P q r : Int} (h : x = q * P + r) (h0 : 0 ≤ r) (h1 : r < P) : x / P = q ∧ x % P = r := by
  have hP : 0 < P := by omega
  have e : x = r + q * P := by omega
  rw [e]
  exact ⟨by rw [Int.add_mul_ediv_right _ _ (by omega), Int.ediv_eq_zero_of_lt h0 h1, Int.zero_add], by rw [Int.add_mul_emod_self_right, Int.emod_eq_of_lt h0 h1]⟩
set_option maxRecDepth 100000 in
set_option maxHeartbeats 4000000 in
theorem lp_X2_nextFigure {Γ : zG} {l0 : Launch} {X : zX} {ω : zWd} {a : Nat} {gpw grs : Int → Int} {r0 P : Int} (C : Zc Γ l0 X rmX2_nextFigure 4 cX2_nextFigure RX2) (E : Ze Γ (zpl (fun r w => ∃ g2, w = zU ω (a + 8) (zAJ X (1 * 16) g2) ∧ r = r0 * 10 / P ∧ zRV g2 16 1 (fun _ => r0 * 10 % P))) 0 0 (some .long)) (hw : ω.1 a = some (zOb 2 [.ref (a + 1), .ref (a + 3), .ref (a + 5), .ref (a + 7)])) (hpw : ω.1 (a + 5) = some (zOb 4 [.int (zI ((1 : Nat) : Int)), .int (zI ((16 : Nat) : Int)), .ref (a + 6), .int (zI 1)])) (hpwc : ω.1 (a + 6) = some (zAJ X (1 * 16) gpw)) (hrs : ω.1 (a + 7) = some (zOb 4 [.int (zI ((1 : Nat) : Int)), .int (zI ((16 : Nat) : Int)), .ref (a + 8), .int (zI 1)])) (hrsc : ω.1 (a + 8) = some (zAJ X (1 * 16) grs)) (hP : zRV gpw 16 1 (fun _ => P)) (hr0 : 0 ≤ r0 ∧ r0 < P) (hPb : P ≤ 10 ^ 183) : ∀ (j i : Nat) (gi : Int → Int), i + j = 9 → 0 ≤ r0 * 10 - i * P → zRV gi 16 1 (fun _ => r0 * 10 - i * P) → Zw Γ (zU ω (a + 8) (zAJ X (1 * 16) gi)) 0 0 16 [some (.ref a), some (.long (zJ (i : Int))), none, some (.int (zI (i : Int)))] [] := by
  intro j
  induction j with
  | zero =>
    intro i gi hj h0 hg
    have e1 : i = 9 := by omega
    subst e1
    have hq := z_qr (x := r0 * 10) (P := P) (q := 9) (r := r0 * 10 - 9 * P) (by omega) (by omega) (by omega)
    refine z_iload_n (i := 3) (pc := 16) C rfl rfl dX2_nextFigure_16 ?_
    refine z_bipush (pc := 17) C (by decide +kernel) dX2_nextFigure_17 ?_
    refine z_icmp_ge (tgt := 65) (pc := 19) C dX2_nextFigure_19 (by decide) (fun h19 => ?_) (fun h19 => absurd h19 (by omega))
    refine z_lload_n (i := 1) (pc := 65) C rfl rfl dX2_nextFigure_65 ?_
    exact z_lret (pc := 66) C E dX2_nextFigure_66 ⟨_, rfl, ⟨gi, rfl, hq.1.symm, hg.c (fun r _ _ => hq.2.symm)⟩⟩
  | succ j ih =>
    intro i gi hj h0 hg
    have e9 : ((i + 1 : Nat) : Int) * P = i * P + P := by rw [Int.natCast_succ, Int.add_mul, Int.one_mul]
    have h192 : (10 : Int) ^ 183 * 10 < zL ^ 16 := by decide
    refine z_iload_n (i := 3) (pc := 16) C rfl rfl dX2_nextFigure_16 ?_
    refine z_bipush (pc := 17) C (by decide +kernel) dX2_nextFigure_17 ?_
    refine z_icmp_ge (tgt := 65) (pc := 19) C dX2_nextFigure_19 (by decide) (fun h19 => absurd h19 (by omega)) (fun h19 => ?_)
    refine z_aload_n (i := 0) (pc := 22) C rfl rfl dX2_nextFigure_22 ?_
    refine g_X2_26 (pc := 23) C (zU_n' (z_neOJ hw hrsc) hw) rfl dX2_nextFigure_23 ?_
    refine z_iconst (pc := 26) C dX2_nextFigure_26 ?_
    refine z_aload_n (i := 0) (pc := 27) C rfl rfl dX2_nextFigure_27 ?_
    refine g_X2_23 (pc := 28) C (zU_n' (z_neOJ hw hrsc) hw) rfl dX2_nextFigure_28 ?_
    refine z_iconst (pc := 31) C dX2_nextFigure_31 ?_
    refine z_callVi (pc := 32) C (c_X4_order (zU_n' (z_neOJ hrs hrsc) hrs) (zU_s _ _ _) ⟨⟨by decide, by decide⟩, ⟨by decide, by decide⟩, by omega, by omega⟩ (zU_n' (z_neOJ hpw hrsc) hpw) (zU_n' (by omega) hpwc) ⟨⟨by decide, by decide⟩, ⟨by decide, by decide⟩, by omega, by omega⟩ rfl (by omega) (by omega) (hg.at (by omega) (by omega)) (hP.at (by omega) (by omega))) k_X2_71 zy_X4_order rfl rfl (zU_n' (z_neOJ hrs hrsc) hrs) rfl rfl ⟨(Nat.le_of_ble_eq_true rfl), (Nat.le_of_ble_eq_true rfl)⟩ (Nat.le_of_ble_eq_true rfl) dX2_nextFigure_32 ⟨rfl, rfl⟩ ⟨(Nat.le_of_ble_eq_true rfl), (Nat.le_of_ble_eq_true rfl)⟩ (fun rv ω' hp => ?_)
    obtain ⟨hw', hcmp⟩ := hp
    rw [hw']
    rw [hg.v (by omega) (by omega), hP.v (by omega) (by omega)] at hcmp
    refine z_if_lt (tgt := 65) (pc := 35) C dX2_nextFigure_35 (by decide) (fun h35 => ?_) (fun h35 => ?_)
    · have hq := z_qr (x := r0 * 10) (P := P) (q := i) (r := r0 * 10 - i * P) (by omega) (by omega) (by omega)
      refine z_lload_n (i := 1) (pc := 65) C rfl rfl dX2_nextFigure_65 ?_
      exact z_lret (pc := 66) C E dX2_nextFigure_66 ⟨_, rfl, ⟨gi, rfl, hq.1.symm, hg.c (fun r _ _ => hq.2.symm)⟩⟩
    · refine z_aload_n (i := 0) (pc := 38) C rfl rfl dX2_nextFigure_38 ?_
      refine g_X2_26 (pc := 39) C (zU_n' (z_neOJ hw hrsc) hw) rfl dX2_nextFigure_39 ?_
      refine z_iconst (pc := 42) C dX2_nextFigure_42 ?_
      refine z_lconst (v := 1) (pc := 43) C (by decide +kernel) dX2_nextFigure_43 ?_
      refine z_aload_n (i := 0) (pc := 44) C rfl rfl dX2_nextFigure_44 ?_
      refine g_X2_23 (pc := 45) C (zU_n' (z_neOJ hw hrsc) hw) rfl dX2_nextFigure_45 ?_
      refine z_iconst (pc := 48) C dX2_nextFigure_48 ?_
      refine z_ldc2 (a := -1) (pc := 49) C (by decide +kernel) q_X2_53 dX2_nextFigure_49 ?_
      refine z_callVv (pc := 52) C (c_X4_combineA (zU_n' (z_neOJ hrs hrsc) hrs) (zU_s _ _ _) ⟨⟨by decide, by decide⟩, ⟨by decide, by decide⟩, by omega, by omega⟩ (zU_n' (z_neOJ hpw hrsc) hpw) (zU_n' (by omega) hpwc) ⟨⟨by decide, by decide⟩, ⟨by decide, by decide⟩, by omega, by omega⟩ rfl (by omega) (by omega) (by omega) (fun k a b => ⟨(hg.at (by omega) (by omega)) k a b, (hP.at (by omega) (by omega)) k a b⟩) (by omega) (by omega)) k_X2_49 zy_X4_combine rfl rfl (zU_n' (z_neOJ hrs hrsc) hrs) rfl rfl ⟨(Nat.le_of_ble_eq_true rfl), (Nat.le_of_ble_eq_true rfl)⟩ (Nat.le_of_ble_eq_true rfl) dX2_nextFigure_52 ⟨rfl, rfl⟩ ⟨(Nat.le_of_ble_eq_true rfl), (Nat.le_of_ble_eq_true rfl)⟩ (fun ω' hp => ?_)
      obtain ⟨g3, rfl, hg3⟩ := hp
      have hi0 : 0 ≤ (i : Int) * P := Int.mul_nonneg (by omega) (by omega)
      have hcv := zcomb_v hg3 (hg.v (by omega) (by omega)) (hP.v (by omega) (by omega)) (by omega)
      rw [zU_u]
      refine z_lload_n (i := 1) (pc := 55) C rfl rfl dX2_nextFigure_55 ?_
      refine z_lconst (v := 1) (pc := 56) C (by decide +kernel) dX2_nextFigure_56 ?_
      refine z_ladd (pc := 57) C dX2_nextFigure_57 ?_
      refine z_lstore_n (i := 1) (lv' := [_, _, _, _]) (pc := 58) C rfl (by decide) rfl rfl dX2_nextFigure_58 ?_
      refine z_iinc (i := 3) (lv' := [_, _, _, _]) (pc := 59) C rfl (by decide) rfl rfl dX2_nextFigure_59 ?_
      refine z_goto (tgt := 16) (pc := 62) C dX2_nextFigure_62 (by decide) ?_
      exact ih (i + 1) g3 (by omega) (by omega) ((zRV1 hcv).c (fun r _ _ => by omega))
set_option maxRecDepth 100000 in
set_option maxHeartbeats 4000000 in
theorem c_X2_nextFigure {l0 : Launch} {X : zX} {ω : zWd} {a : Nat} {gpw grs : Int → Int} {r0 P : Int} (hw : ω.1 a = some (zOb 2 [.ref (a + 1), .ref (a + 3), .ref (a + 5), .ref (a + 7)])) (hpw : ω.1 (a + 5) = some (zOb 4 [.int (zI ((1 : Nat) : Int)), .int (zI ((16 : Nat) : Int)), .ref (a + 6), .int (zI 1)])) (hpwc : ω.1 (a + 6) = some (zAJ X (1 * 16) gpw)) (hrs : ω.1 (a + 7) = some (zOb 4 [.int (zI ((1 : Nat) : Int)), .int (zI ((16 : Nat) : Int)), .ref (a + 8), .int (zI 1)])) (hrsc : ω.1 (a + 8) = some (zAJ X (1 * 16) grs)) (hR : zRV grs 16 1 (fun _ => r0)) (hP : zRV gpw 16 1 (fun _ => P)) (hr0 : 0 ≤ r0 ∧ r0 < P) (hPb : P ≤ 10 ^ 183) : zMet l0 yX2_nextFigure cX2_nextFigure 4 (some .long) rmX2_nextFigure X [.ref a] ω (zpl (fun r w => ∃ g2, w = zU ω (a + 8) (zAJ X (1 * 16) g2) ∧ r = r0 * 10 / P ∧ zRV g2 16 1 (fun _ => r0 * 10 % P))) := by
  refine zMet.intro (by decide) (Nat.le_of_ble_eq_true rfl) ?_
  intro Γ C E N
  show Zw Γ ω 0 0 0 [some _, none, none, none] []
  have h192 : (10 : Int) ^ 183 * 10 < zL ^ 16 := by decide
  refine z_aload_n (i := 0) (pc := 0) C rfl rfl dX2_nextFigure_0 ?_
  refine g_X2_26 (pc := 1) C hw rfl dX2_nextFigure_1 ?_
  refine z_iconst (pc := 4) C dX2_nextFigure_4 ?_
  refine z_ldc2 (a := 10) (pc := 5) C (by decide +kernel) q_X2_69 dX2_nextFigure_5 ?_
  refine z_lconst (v := 0) (pc := 8) C (by decide +kernel) dX2_nextFigure_8 ?_
  refine z_callVv (pc := 9) C (c_X4_times hrs hrsc ⟨⟨by decide, by decide⟩, ⟨by decide, by decide⟩, by omega, by omega⟩ (by omega) (hR.at (by omega) (by omega)) (by omega) (by omega)) k_X2_55 zy_X4_times rfl rfl hrs rfl rfl ⟨(Nat.le_of_ble_eq_true rfl), (Nat.le_of_ble_eq_true rfl)⟩ (Nat.le_of_ble_eq_true rfl) dX2_nextFigure_9 ⟨rfl, rfl⟩ ⟨(Nat.le_of_ble_eq_true rfl), (Nat.le_of_ble_eq_true rfl)⟩ (fun ω' hp => ?_)
  obtain ⟨g2, rfl, hg2⟩ := hp
  have htv := ztimes_v hg2 (hR.v (by omega) (by omega)) (by omega)
  refine z_lconst (v := 0) (pc := 12) C (by decide +kernel) dX2_nextFigure_12 ?_
  refine z_lstore_n (i := 1) (lv' := [_, _, _, _]) (pc := 13) C rfl (by decide) rfl rfl dX2_nextFigure_13 ?_
  refine z_iconst (pc := 14) C dX2_nextFigure_14 ?_
  refine z_istore_n (i := 3) (lv' := [_, _, _, _]) (pc := 15) C rfl (by decide) rfl rfl dX2_nextFigure_15 ?_
  exact lp_X2_nextFigure C E hw hpw hpwc hrs hrsc hP hr0 hPb 9 0 g2 (by omega) (by omega) ((zRV1 htv).c (fun r _ _ => by omega))
