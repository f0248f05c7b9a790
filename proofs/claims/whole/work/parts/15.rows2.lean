set_option maxRecDepth 100000 in
set_option maxHeartbeats 4000000 in
theorem lp_X4_times {Γ : zG} {l0 : Launch} {X : zX} {ω : zWd} {r c h wd : Nat} {u : Int} {g : Int → Int} {row q pl : Int} (C : Zc Γ l0 X rmX4_times 9 cX4_times RX4) (E : Ze Γ (zpv (fun w => ∃ g2, w = zU ω c (zAJ X (h * wd) g2) ∧ zRS g g2 row wd wd (ztl (fun k => g (row * wd + k)) q pl))) 0 0 none) (hr : ω.1 r = some (zOb 4 [.int (zI h), .int (zI wd), .ref c, .int (zI u)])) (hc : ω.1 c = some (zAJ X (h * wd) g)) (hs : (0 < h ∧ h ≤ 256) ∧ (0 < wd ∧ wd ≤ 16) ∧ 0 ≤ u ∧ u ≤ h) (hrc : r ≠ c) (hrow : 0 ≤ row ∧ row < u) (hx : ∀ k : Int, 0 ≤ k → k < wd → 0 ≤ g (row * wd + k) ∧ g (row * wd + k) < zL) (hq : 0 ≤ q ∧ q ≤ 1000000) (hp : 0 ≤ pl ∧ pl ≤ 1000000) : ∀ (j i : Nat) (gi : Int → Int), i + j = wd → zRS g gi row wd i (ztl (fun k => g (row * wd + k)) q pl) → Zw Γ (zU ω c (zAJ X (h * wd) gi)) 0 0 7 [some (.ref r), some (.int (zI row)), some (.long (zJ q)), none, some (.long (zJ pl)), none, some (.long (zJ (zcr (fun k => g (row * wd + k)) q pl i))), none, some (.int (zI ((i : Nat) : Int)))] [] := by
  intro j
  induction j with
  | zero =>
    intro i gi hj hg
    have e1 : i = wd := by omega
    subst e1
    refine z_iload (i := 8) (pc := 7) C rfl dX4_times_7 ?_
    refine z_aload_n (i := 0) (pc := 9) C rfl rfl dX4_times_9 ?_
    refine g_X4_21 (pc := 10) C (zU_n' hrc hr) rfl dX4_times_10 ?_
    refine z_icmp_ge (tgt := 57) (pc := 13) C dX4_times_13 (by decide) (fun h13 => ?_) (fun h13 => absurd h13 (by omega))
    exact z_vret (pc := 57) C E dX4_times_57 ⟨rfl, ⟨gi, rfl, hg⟩⟩
  | succ j ih =>
    intro i gi hj hg
    have hr1 : (zU ω c (zAJ X (h * wd) gi)).1 r = _ := zU_n' hrc hr
    have hxi := hx i (by omega) (by omega)
    have hcb := zcr_b (x := (fun k => g (row * wd + k))) (n := i) (by decide) hq hp (fun k a b => hx k a (by omega))
    have h3 : 0 ≤ g (row * wd + i) * q := Int.mul_nonneg hxi.1 hq.1
    have h4 : g (row * wd + i) * q ≤ zL * 1000000 := Int.mul_le_mul (by omega) hq.2 hq.1 (by decide)
    have hz : zL = 1000000000000 := rfl
    have hgi : gi (row * wd + i) = g (row * wd + i) := hg.2 _ (Or.inr (by omega))
    rw [hz] at hxi h4
    refine z_iload (i := 8) (pc := 7) C rfl dX4_times_7 ?_
    refine z_aload_n (i := 0) (pc := 9) C rfl rfl dX4_times_9 ?_
    refine g_X4_21 (pc := 10) C (zU_n' hrc hr) rfl dX4_times_10 ?_
    refine z_icmp_ge (tgt := 57) (pc := 13) C dX4_times_13 (by decide) (fun h13 => absurd h13 (by omega)) (fun h13 => ?_)
    refine z_lload (i := 6) (pc := 16) C rfl dX4_times_16 ?_
    refine z_aload_n (i := 0) (pc := 18) C rfl rfl dX4_times_18 ?_
    refine z_iload_n (i := 1) (pc := 19) C rfl rfl dX4_times_19 ?_
    refine z_iload (i := 8) (pc := 20) C rfl dX4_times_20 ?_
    refine z_callVl (pc := 22) C (c_X4_read hr1 (zU_s _ _ _) hs) k_X4_44 zy_X4_read rfl rfl (zU_n' hrc hr) rfl rfl ⟨(Nat.le_of_ble_eq_true rfl), (Nat.le_of_ble_eq_true rfl)⟩ (Nat.le_of_ble_eq_true rfl) dX4_times_22 ⟨rfl, rfl⟩ ⟨(Nat.le_of_ble_eq_true rfl), (Nat.le_of_ble_eq_true rfl)⟩ (fun rv ω' hp => ?_)
    obtain ⟨rfl, hp1⟩ := hp
    have hv : rv = g (row * wd + i) := by
      rcases hp1 with q1 | q1
      · rw [q1.2.2.2, hgi]
      · omega
    subst hv
    refine z_lload_n (i := 2) (pc := 25) C rfl rfl dX4_times_25 ?_
    refine z_lmul (pc := 26) C dX4_times_26 ?_
    refine z_ladd (pc := 27) C dX4_times_27 ?_
    refine z_lstore (i := 6) (lv' := [_, _, _, _, _, _, _, _, _]) (pc := 28) C (by decide) rfl rfl dX4_times_28 ?_
    refine z_aload_n (i := 0) (pc := 30) C rfl rfl dX4_times_30 ?_
    refine z_iload_n (i := 1) (pc := 31) C rfl rfl dX4_times_31 ?_
    refine z_iload (i := 8) (pc := 32) C rfl dX4_times_32 ?_
    refine z_lload (i := 6) (pc := 34) C rfl dX4_times_34 ?_
    refine z_ldc2 (a := 1000000000000) (pc := 36) C (by decide +kernel) q_X4_48 dX4_times_36 ?_
    refine z_lrem (pc := 39) C (hd := dX4_times_39) (k := ?_)
    refine z_callVv (pc := 40) C (c_X4_write hr1 (zU_s _ _ _) hs) k_X4_40 zy_X4_write rfl rfl (zU_n' hrc hr) rfl rfl ⟨(Nat.le_of_ble_eq_true rfl), (Nat.le_of_ble_eq_true rfl)⟩ (Nat.le_of_ble_eq_true rfl) dX4_times_40 ⟨rfl, rfl⟩ ⟨(Nat.le_of_ble_eq_true rfl), (Nat.le_of_ble_eq_true rfl)⟩ (fun ω' hp => ?_)
    subst hp
    rw [zU_u]
    refine z_lload (i := 6) (pc := 43) C rfl dX4_times_43 ?_
    refine z_ldc2 (a := 1000000000000) (pc := 45) C (by decide +kernel) q_X4_48 dX4_times_45 ?_
    refine z_ldiv (pc := 48) C (hd := dX4_times_48) (k := ?_)
    refine z_lstore (i := 6) (lv' := [_, _, _, _, _, _, _, _, _]) (pc := 49) C (by decide) rfl rfl dX4_times_49 ?_
    refine z_iinc (i := 8) (lv' := [_, _, _, _, _, _, _, _, _]) (pc := 51) C rfl (by decide) rfl rfl dX4_times_51 ?_
    refine z_goto (tgt := 7) (pc := 54) C dX4_times_54 (by decide) ?_
    exact ih (i + 1) _ (by omega) (zRS_s hg (by omega) rfl)
set_option maxRecDepth 100000 in
set_option maxHeartbeats 4000000 in
theorem c_X4_times {l0 : Launch} {X : zX} {ω : zWd} {r c h wd : Nat} {u : Int} {g : Int → Int} {row q pl : Int} (hr : ω.1 r = some (zOb 4 [.int (zI h), .int (zI wd), .ref c, .int (zI u)])) (hc : ω.1 c = some (zAJ X (h * wd) g)) (hs : (0 < h ∧ h ≤ 256) ∧ (0 < wd ∧ wd ≤ 16) ∧ 0 ≤ u ∧ u ≤ h) (hrow : 0 ≤ row ∧ row < u) (hx : ∀ k : Int, 0 ≤ k → k < wd → 0 ≤ g (row * wd + k) ∧ g (row * wd + k) < zL) (hq : 0 ≤ q ∧ q ≤ 1000000) (hp : 0 ≤ pl ∧ pl ≤ 1000000) : zMet l0 yX4_times cX4_times 9 none rmX4_times X [.ref r, .int (zI row), .long (zJ q), .long (zJ pl)] ω (zpv (fun w => ∃ g2, w = zU ω c (zAJ X (h * wd) g2) ∧ zRS g g2 row wd wd (ztl (fun k => g (row * wd + k)) q pl))) := by
  refine zMet.intro (by decide) (Nat.le_of_ble_eq_true rfl) ?_
  intro Γ C E N
  show Zw Γ ω 0 0 0 [_, _, _, _, _, _, _, _, _] []
  have hrc : r ≠ c := z_neOJ hr hc
  refine z_lload (i := 4) (pc := 0) C rfl dX4_times_0 ?_
  refine z_lstore (i := 6) (lv' := [_, _, _, _, _, _, _, _, _]) (pc := 2) C (by decide) rfl rfl dX4_times_2 ?_
  refine z_iconst (pc := 4) C dX4_times_4 ?_
  refine z_istore (i := 8) (lv' := [_, _, _, _, _, _, _, _, _]) (pc := 5) C (by decide) rfl rfl dX4_times_5 ?_
  have hw : ω = zU ω c (zAJ X (h * wd) g) := (zU_id hc).symm
  rw [hw]
  exact lp_X4_times C E hr hc hs hrc hrow hx hq hp wd 0 g (by omega) zRS_0
set_option maxRecDepth 100000 in
set_option maxHeartbeats 4000000 in
theorem lp_X4_combineA {Γ : zG} {l0 : Launch} {X : zX} {ω : zWd} {r c h wd : Nat} {u : Int} {g : Int → Int} {ro co ho wo : Nat} {uo : Int} {go : Int → Int} {row fr q v : Int} (C : Zc Γ l0 X rmX4_combine 11 cX4_combine RX4) (E : Ze Γ (zpv (fun w => ∃ g2, w = zU ω c (zAJ X (h * wd) g2) ∧ zRS g g2 row wd wd (zcl (fun k => g (row * wd + k)) (fun k => go (fr * wo + k)) q v))) 0 0 none) (hr : ω.1 r = some (zOb 4 [.int (zI h), .int (zI wd), .ref c, .int (zI u)])) (hc : ω.1 c = some (zAJ X (h * wd) g)) (hs : (0 < h ∧ h ≤ 256) ∧ (0 < wd ∧ wd ≤ 16) ∧ 0 ≤ u ∧ u ≤ h) (hro : ω.1 ro = some (zOb 4 [.int (zI ho), .int (zI wo), .ref co, .int (zI uo)])) (hco : ω.1 co = some (zAJ X (ho * wo) go)) (hso : (0 < ho ∧ ho ≤ 256) ∧ (0 < wo ∧ wo ≤ 16) ∧ 0 ≤ uo ∧ uo ≤ ho) (hww : wo = wd) (hrc : r ≠ c) (hroc : ro ≠ c) (hcc : co ≠ c) (hrow : 0 ≤ row ∧ row < u) (hfr : 0 ≤ fr ∧ fr < uo) (hx : ∀ k : Int, 0 ≤ k → k < wd → (0 ≤ g (row * wd + k) ∧ g (row * wd + k) < zL) ∧ 0 ≤ go (fr * wo + k) ∧ go (fr * wo + k) < zL) (hq : 0 ≤ q ∧ q ≤ 1000) (hv : -1000 ≤ v ∧ v ≤ 1000) : ∀ (j i : Nat) (gi : Int → Int), i + j = wd → zRS g gi row wd i (zcl (fun k => g (row * wd + k)) (fun k => go (fr * wo + k)) q v) → Zw Γ (zU ω c (zAJ X (h * wd) gi)) 0 0 6 [some (.ref r), some (.int (zI row)), some (.long (zJ q)), none, some (.ref ro), some (.int (zI fr)), some (.long (zJ v)), none, some (.long (zJ (zcr2 (fun k => g (row * wd + k)) (fun k => go (fr * wo + k)) q v i))), none, some (.int (zI ((i : Nat) : Int)))] [] := by
  intro j
  induction j with
  | zero =>
    intro i gi hj hg
    have e1 : i = wd := by omega
    subst e1
    refine z_iload (i := 10) (pc := 6) C rfl dX4_combine_6 ?_
    refine z_aload_n (i := 0) (pc := 8) C rfl rfl dX4_combine_8 ?_
    refine g_X4_21 (pc := 9) C (zU_n' hrc hr) rfl dX4_combine_9 ?_
    refine z_icmp_ge (tgt := 73) (pc := 12) C dX4_combine_12 (by decide) (fun h12 => ?_) (fun h12 => absurd h12 (by omega))
    exact z_vret (pc := 73) C E dX4_combine_73 ⟨rfl, ⟨gi, rfl, hg⟩⟩
  | succ j ih =>
    intro i gi hj hg
    have hr1 : (zU ω c (zAJ X (h * wd) gi)).1 r = _ := zU_n' hrc hr
    obtain ⟨hxi, hyi⟩ := hx i (by omega) (by omega)
    have hcb := zcr2_b (x := (fun k => g (row * wd + k))) (y := (fun k => go (fr * wo + k))) (n := i) hq hv (fun k a b => hx k a (by omega))
    have h3 : 0 ≤ g (row * wd + i) * q := Int.mul_nonneg hxi.1 hq.1
    have h4 : g (row * wd + i) * q ≤ zL * 1000 := Int.mul_le_mul (by omega) hq.2 hq.1 (by decide)
    have h5 : go (fr * wo + i) * v ≤ go (fr * wo + i) * 1000 := Int.mul_le_mul_of_nonneg_left hv.2 hyi.1
    have h6 : go (fr * wo + i) * (-1000) ≤ go (fr * wo + i) * v := Int.mul_le_mul_of_nonneg_left hv.1 hyi.1
    have hz : zL = 1000000000000 := rfl
    have hgi : gi (row * wd + i) = g (row * wd + i) := hg.2 _ (Or.inr (by omega))
    rw [hz] at hxi hyi h4
    have hro1 : (zU ω c (zAJ X (h * wd) gi)).1 ro = _ := zU_n' hroc hro
    have hco1 : (zU ω c (zAJ X (h * wd) gi)).1 co = _ := zU_n' hcc hco
    refine z_iload (i := 10) (pc := 6) C rfl dX4_combine_6 ?_
    refine z_aload_n (i := 0) (pc := 8) C rfl rfl dX4_combine_8 ?_
    refine g_X4_21 (pc := 9) C (zU_n' hrc hr) rfl dX4_combine_9 ?_
    refine z_icmp_ge (tgt := 73) (pc := 12) C dX4_combine_12 (by decide) (fun h12 => absurd h12 (by omega)) (fun h12 => ?_)
    refine z_lload (i := 8) (pc := 15) C rfl dX4_combine_15 ?_
    refine z_aload_n (i := 0) (pc := 17) C rfl rfl dX4_combine_17 ?_
    refine z_iload_n (i := 1) (pc := 18) C rfl rfl dX4_combine_18 ?_
    refine z_iload (i := 10) (pc := 19) C rfl dX4_combine_19 ?_
    refine z_callVl (pc := 21) C (c_X4_read hr1 (zU_s _ _ _) hs) k_X4_44 zy_X4_read rfl rfl (zU_n' hrc hr) rfl rfl ⟨(Nat.le_of_ble_eq_true rfl), (Nat.le_of_ble_eq_true rfl)⟩ (Nat.le_of_ble_eq_true rfl) dX4_combine_21 ⟨rfl, rfl⟩ ⟨(Nat.le_of_ble_eq_true rfl), (Nat.le_of_ble_eq_true rfl)⟩ (fun rv ω' hp => ?_)
    obtain ⟨rfl, hp1⟩ := hp
    have hv1 : rv = g (row * wd + i) := by
      rcases hp1 with q1 | q1
      · rw [q1.2.2.2, hgi]
      · omega
    subst hv1
    refine z_lload_n (i := 2) (pc := 24) C rfl rfl dX4_combine_24 ?_
    refine z_lmul (pc := 25) C dX4_combine_25 ?_
    refine z_aload (i := 4) (pc := 26) C rfl dX4_combine_26 ?_
    refine z_iload (i := 5) (pc := 28) C rfl dX4_combine_28 ?_
    refine z_iload (i := 10) (pc := 30) C rfl dX4_combine_30 ?_
    refine z_callVl (pc := 32) C (c_X4_read hro1 hco1 hso) k_X4_44 zy_X4_read rfl rfl (zU_n' hroc hro) rfl rfl ⟨(Nat.le_of_ble_eq_true rfl), (Nat.le_of_ble_eq_true rfl)⟩ (Nat.le_of_ble_eq_true rfl) dX4_combine_32 ⟨rfl, rfl⟩ ⟨(Nat.le_of_ble_eq_true rfl), (Nat.le_of_ble_eq_true rfl)⟩ (fun rv ω' hp => ?_)
    obtain ⟨rfl, hp1⟩ := hp
    have hv2 : rv = go (fr * wo + i) := by
      rcases hp1 with q1 | q1
      · rw [q1.2.2.2]
      · omega
    subst hv2
    refine z_lload (i := 6) (pc := 35) C rfl dX4_combine_35 ?_
    refine z_lmul (pc := 37) C dX4_combine_37 ?_
    refine z_ladd (pc := 38) C dX4_combine_38 ?_
    refine z_ladd (pc := 39) C dX4_combine_39 ?_
    refine z_lstore (i := 8) (lv' := [_, _, _, _, _, _, _, _, _, _, _]) (pc := 40) C (by decide) rfl rfl dX4_combine_40 ?_
    refine z_aload_n (i := 0) (pc := 42) C rfl rfl dX4_combine_42 ?_
    refine z_iload_n (i := 1) (pc := 43) C rfl rfl dX4_combine_43 ?_
    refine z_iload (i := 10) (pc := 44) C rfl dX4_combine_44 ?_
    refine z_lload (i := 8) (pc := 46) C rfl dX4_combine_46 ?_
    refine z_ldc2 (a := 1000000000000) (pc := 48) C (by decide +kernel) q_X4_48 dX4_combine_48 ?_
    refine z_callSl (pc := 51) C (c_J9_floorMod_f86c9) k_X4_50 zy_J9_floorMod_f86c9.2 rfl rfl ⟨(Nat.le_of_ble_eq_true rfl), (Nat.le_of_ble_eq_true rfl)⟩ (Nat.le_of_ble_eq_true rfl) dX4_combine_51 ⟨rfl, rfl⟩ ⟨(Nat.le_of_ble_eq_true rfl), (Nat.le_of_ble_eq_true rfl)⟩ (fun rv ω' hp => ?_)
    obtain ⟨rfl, rfl⟩ := hp
    refine z_callVv (pc := 54) C (c_X4_write hr1 (zU_s _ _ _) hs) k_X4_40 zy_X4_write rfl rfl (zU_n' hrc hr) rfl rfl ⟨(Nat.le_of_ble_eq_true rfl), (Nat.le_of_ble_eq_true rfl)⟩ (Nat.le_of_ble_eq_true rfl) dX4_combine_54 ⟨rfl, rfl⟩ ⟨(Nat.le_of_ble_eq_true rfl), (Nat.le_of_ble_eq_true rfl)⟩ (fun ω' hp => ?_)
    subst hp
    rw [zU_u]
    refine z_lload (i := 8) (pc := 57) C rfl dX4_combine_57 ?_
    refine z_ldc2 (a := 1000000000000) (pc := 59) C (by decide +kernel) q_X4_48 dX4_combine_59 ?_
    refine z_callSl (pc := 62) C (c_J9_floorDiv_f86c9) k_X4_54 zy_J9_floorDiv_f86c9.2 rfl rfl ⟨(Nat.le_of_ble_eq_true rfl), (Nat.le_of_ble_eq_true rfl)⟩ (Nat.le_of_ble_eq_true rfl) dX4_combine_62 ⟨rfl, rfl⟩ ⟨(Nat.le_of_ble_eq_true rfl), (Nat.le_of_ble_eq_true rfl)⟩ (fun rv ω' hp => ?_)
    obtain ⟨rfl, rfl⟩ := hp
    refine z_lstore (i := 8) (lv' := [_, _, _, _, _, _, _, _, _, _, _]) (pc := 65) C (by decide) rfl rfl dX4_combine_65 ?_
    refine z_iinc (i := 10) (lv' := [_, _, _, _, _, _, _, _, _, _, _]) (pc := 67) C rfl (by decide) rfl rfl dX4_combine_67 ?_
    refine z_goto (tgt := 6) (pc := 70) C dX4_combine_70 (by decide) ?_
    exact ih (i + 1) _ (by omega) (zRS_s hg (by omega) rfl)
set_option maxRecDepth 100000 in
set_option maxHeartbeats 4000000 in
theorem c_X4_combineA {l0 : Launch} {X : zX} {ω : zWd} {r c h wd : Nat} {u : Int} {g : Int → Int} {ro co ho wo : Nat} {uo : Int} {go : Int → Int} {row fr q v : Int} (hr : ω.1 r = some (zOb 4 [.int (zI h), .int (zI wd), .ref c, .int (zI u)])) (hc : ω.1 c = some (zAJ X (h * wd) g)) (hs : (0 < h ∧ h ≤ 256) ∧ (0 < wd ∧ wd ≤ 16) ∧ 0 ≤ u ∧ u ≤ h) (hro : ω.1 ro = some (zOb 4 [.int (zI ho), .int (zI wo), .ref co, .int (zI uo)])) (hco : ω.1 co = some (zAJ X (ho * wo) go)) (hso : (0 < ho ∧ ho ≤ 256) ∧ (0 < wo ∧ wo ≤ 16) ∧ 0 ≤ uo ∧ uo ≤ ho) (hww : wo = wd) (hcc : co ≠ c) (hrow : 0 ≤ row ∧ row < u) (hfr : 0 ≤ fr ∧ fr < uo) (hx : ∀ k : Int, 0 ≤ k → k < wd → (0 ≤ g (row * wd + k) ∧ g (row * wd + k) < zL) ∧ 0 ≤ go (fr * wo + k) ∧ go (fr * wo + k) < zL) (hq : 0 ≤ q ∧ q ≤ 1000) (hv : -1000 ≤ v ∧ v ≤ 1000) : zMet l0 yX4_combine cX4_combine 11 none rmX4_combine X [.ref r, .int (zI row), .long (zJ q), .ref ro, .int (zI fr), .long (zJ v)] ω (zpv (fun w => ∃ g2, w = zU ω c (zAJ X (h * wd) g2) ∧ zRS g g2 row wd wd (zcl (fun k => g (row * wd + k)) (fun k => go (fr * wo + k)) q v))) := by
  refine zMet.intro (by decide) (Nat.le_of_ble_eq_true rfl) ?_
  intro Γ C E N
  show Zw Γ ω 0 0 0 [_, _, _, _, _, _, _, _, _, _, _] []
  have hrc : r ≠ c := z_neOJ hr hc
  have hroc : ro ≠ c := z_neOJ hro hc
  refine z_lconst (v := 0) (pc := 0) C (by decide +kernel) dX4_combine_0 ?_
  refine z_lstore (i := 8) (lv' := [_, _, _, _, _, _, _, _, _, _, _]) (pc := 1) C (by decide) rfl rfl dX4_combine_1 ?_
  refine z_iconst (pc := 3) C dX4_combine_3 ?_
  refine z_istore (i := 10) (lv' := [_, _, _, _, _, _, _, _, _, _, _]) (pc := 4) C (by decide) rfl rfl dX4_combine_4 ?_
  have hw : ω = zU ω c (zAJ X (h * wd) g) := (zU_id hc).symm
  rw [hw]
  exact lp_X4_combineA C E hr hc hs hro hco hso hww hrc hroc hcc hrow hfr hx hq hv wd 0 g (by omega) zRS_0
set_option maxRecDepth 100000 in
set_option maxHeartbeats 4000000 in
theorem lp_X4_combineB {Γ : zG} {l0 : Launch} {X : zX} {ω : zWd} {r c h wd : Nat} {u : Int} {g : Int → Int} {row fr q v : Int} (C : Zc Γ l0 X rmX4_combine 11 cX4_combine RX4) (E : Ze Γ (zpv (fun w => ∃ g2, w = zU ω c (zAJ X (h * wd) g2) ∧ zRS g g2 row wd wd (zcl (fun k => g (row * wd + k)) (fun k => g (fr * wd + k)) q v))) 0 0 none) (hr : ω.1 r = some (zOb 4 [.int (zI h), .int (zI wd), .ref c, .int (zI u)])) (hc : ω.1 c = some (zAJ X (h * wd) g)) (hs : (0 < h ∧ h ≤ 256) ∧ (0 < wd ∧ wd ≤ 16) ∧ 0 ≤ u ∧ u ≤ h)  (hrc : r ≠ c) (hrow : 0 ≤ row ∧ row < u) (hfr : 0 ≤ fr ∧ fr < u) (hrf : fr ≠ row) (hx : ∀ k : Int, 0 ≤ k → k < wd → (0 ≤ g (row * wd + k) ∧ g (row * wd + k) < zL) ∧ 0 ≤ g (fr * wd + k) ∧ g (fr * wd + k) < zL) (hq : 0 ≤ q ∧ q ≤ 1000) (hv : -1000 ≤ v ∧ v ≤ 1000) : ∀ (j i : Nat) (gi : Int → Int), i + j = wd → zRS g gi row wd i (zcl (fun k => g (row * wd + k)) (fun k => g (fr * wd + k)) q v) → Zw Γ (zU ω c (zAJ X (h * wd) gi)) 0 0 6 [some (.ref r), some (.int (zI row)), some (.long (zJ q)), none, some (.ref r), some (.int (zI fr)), some (.long (zJ v)), none, some (.long (zJ (zcr2 (fun k => g (row * wd + k)) (fun k => g (fr * wd + k)) q v i))), none, some (.int (zI ((i : Nat) : Int)))] [] := by
  intro j
  induction j with
  | zero =>
    intro i gi hj hg
    have e1 : i = wd := by omega
    subst e1
    refine z_iload (i := 10) (pc := 6) C rfl dX4_combine_6 ?_
    refine z_aload_n (i := 0) (pc := 8) C rfl rfl dX4_combine_8 ?_
    refine g_X4_21 (pc := 9) C (zU_n' hrc hr) rfl dX4_combine_9 ?_
    refine z_icmp_ge (tgt := 73) (pc := 12) C dX4_combine_12 (by decide) (fun h12 => ?_) (fun h12 => absurd h12 (by omega))
    exact z_vret (pc := 73) C E dX4_combine_73 ⟨rfl, ⟨gi, rfl, hg⟩⟩
  | succ j ih =>
    intro i gi hj hg
    have hr1 : (zU ω c (zAJ X (h * wd) gi)).1 r = _ := zU_n' hrc hr
    obtain ⟨hxi, hyi⟩ := hx i (by omega) (by omega)
    have hcb := zcr2_b (x := (fun k => g (row * wd + k))) (y := (fun k => g (fr * wd + k))) (n := i) hq hv (fun k a b => hx k a (by omega))
    have h3 : 0 ≤ g (row * wd + i) * q := Int.mul_nonneg hxi.1 hq.1
    have h4 : g (row * wd + i) * q ≤ zL * 1000 := Int.mul_le_mul (by omega) hq.2 hq.1 (by decide)
    have h5 : g (fr * wd + i) * v ≤ g (fr * wd + i) * 1000 := Int.mul_le_mul_of_nonneg_left hv.2 hyi.1
    have h6 : g (fr * wd + i) * (-1000) ≤ g (fr * wd + i) * v := Int.mul_le_mul_of_nonneg_left hv.1 hyi.1
    have hz : zL = 1000000000000 := rfl
    have hgi : gi (row * wd + i) = g (row * wd + i) := hg.2 _ (Or.inr (by omega))
    rw [hz] at hxi hyi h4
    have hap := z_ap (w := wd) hrf (by omega)
    have hgf : gi (fr * wd + i) = g (fr * wd + i) := hg.2 _ (by omega)
    refine z_iload (i := 10) (pc := 6) C rfl dX4_combine_6 ?_
    refine z_aload_n (i := 0) (pc := 8) C rfl rfl dX4_combine_8 ?_
    refine g_X4_21 (pc := 9) C (zU_n' hrc hr) rfl dX4_combine_9 ?_
    refine z_icmp_ge (tgt := 73) (pc := 12) C dX4_combine_12 (by decide) (fun h12 => absurd h12 (by omega)) (fun h12 => ?_)
    refine z_lload (i := 8) (pc := 15) C rfl dX4_combine_15 ?_
    refine z_aload_n (i := 0) (pc := 17) C rfl rfl dX4_combine_17 ?_
    refine z_iload_n (i := 1) (pc := 18) C rfl rfl dX4_combine_18 ?_
    refine z_iload (i := 10) (pc := 19) C rfl dX4_combine_19 ?_
    refine z_callVl (pc := 21) C (c_X4_read hr1 (zU_s _ _ _) hs) k_X4_44 zy_X4_read rfl rfl (zU_n' hrc hr) rfl rfl ⟨(Nat.le_of_ble_eq_true rfl), (Nat.le_of_ble_eq_true rfl)⟩ (Nat.le_of_ble_eq_true rfl) dX4_combine_21 ⟨rfl, rfl⟩ ⟨(Nat.le_of_ble_eq_true rfl), (Nat.le_of_ble_eq_true rfl)⟩ (fun rv ω' hp => ?_)
    obtain ⟨rfl, hp1⟩ := hp
    have hv1 : rv = g (row * wd + i) := by
      rcases hp1 with q1 | q1
      · rw [q1.2.2.2, hgi]
      · omega
    subst hv1
    refine z_lload_n (i := 2) (pc := 24) C rfl rfl dX4_combine_24 ?_
    refine z_lmul (pc := 25) C dX4_combine_25 ?_
    refine z_aload (i := 4) (pc := 26) C rfl dX4_combine_26 ?_
    refine z_iload (i := 5) (pc := 28) C rfl dX4_combine_28 ?_
    refine z_iload (i := 10) (pc := 30) C rfl dX4_combine_30 ?_
    refine z_callVl (pc := 32) C (c_X4_read hr1 (zU_s _ _ _) hs) k_X4_44 zy_X4_read rfl rfl (zU_n' hrc hr) rfl rfl ⟨(Nat.le_of_ble_eq_true rfl), (Nat.le_of_ble_eq_true rfl)⟩ (Nat.le_of_ble_eq_true rfl) dX4_combine_32 ⟨rfl, rfl⟩ ⟨(Nat.le_of_ble_eq_true rfl), (Nat.le_of_ble_eq_true rfl)⟩ (fun rv ω' hp => ?_)
    obtain ⟨rfl, hp1⟩ := hp
    have hv2 : rv = g (fr * wd + i) := by
      rcases hp1 with q1 | q1
      · rw [q1.2.2.2, hgf]
      · omega
    subst hv2
    refine z_lload (i := 6) (pc := 35) C rfl dX4_combine_35 ?_
    refine z_lmul (pc := 37) C dX4_combine_37 ?_
    refine z_ladd (pc := 38) C dX4_combine_38 ?_
    refine z_ladd (pc := 39) C dX4_combine_39 ?_
    refine z_lstore (i := 8) (lv' := [_, _, _, _, _, _, _, _, _, _, _]) (pc := 40) C (by decide) rfl rfl dX4_combine_40 ?_
    refine z_aload_n (i := 0) (pc := 42) C rfl rfl dX4_combine_42 ?_
    refine z_iload_n (i := 1) (pc := 43) C rfl rfl dX4_combine_43 ?_
    refine z_iload (i := 10) (pc := 44) C rfl dX4_combine_44 ?_
    refine z_lload (i := 8) (pc := 46) C rfl dX4_combine_46 ?_
    refine z_ldc2 (a := 1000000000000) (pc := 48) C (by decide +kernel) q_X4_48 dX4_combine_48 ?_
    refine z_callSl (pc := 51) C (c_J9_floorMod_f86c9) k_X4_50 zy_J9_floorMod_f86c9.2 rfl rfl ⟨(Nat.le_of_ble_eq_true rfl), (Nat.le_of_ble_eq_true rfl)⟩ (Nat.le_of_ble_eq_true rfl) dX4_combine_51 ⟨rfl, rfl⟩ ⟨(Nat.le_of_ble_eq_true rfl), (Nat.le_of_ble_eq_true rfl)⟩ (fun rv ω' hp => ?_)
    obtain ⟨rfl, rfl⟩ := hp
    refine z_callVv (pc := 54) C (c_X4_write hr1 (zU_s _ _ _) hs) k_X4_40 zy_X4_write rfl rfl (zU_n' hrc hr) rfl rfl ⟨(Nat.le_of_ble_eq_true rfl), (Nat.le_of_ble_eq_true rfl)⟩ (Nat.le_of_ble_eq_true rfl) dX4_combine_54 ⟨rfl, rfl⟩ ⟨(Nat.le_of_ble_eq_true rfl), (Nat.le_of_ble_eq_true rfl)⟩ (fun ω' hp => ?_)
    subst hp
    rw [zU_u]
    refine z_lload (i := 8) (pc := 57) C rfl dX4_combine_57 ?_
    refine z_ldc2 (a := 1000000000000) (pc := 59) C (by decide +kernel) q_X4_48 dX4_combine_59 ?_
    refine z_callSl (pc := 62) C (c_J9_floorDiv_f86c9) k_X4_54 zy_J9_floorDiv_f86c9.2 rfl rfl ⟨(Nat.le_of_ble_eq_true rfl), (Nat.le_of_ble_eq_true rfl)⟩ (Nat.le_of_ble_eq_true rfl) dX4_combine_62 ⟨rfl, rfl⟩ ⟨(Nat.le_of_ble_eq_true rfl), (Nat.le_of_ble_eq_true rfl)⟩ (fun rv ω' hp => ?_)
    obtain ⟨rfl, rfl⟩ := hp
    refine z_lstore (i := 8) (lv' := [_, _, _, _, _, _, _, _, _, _, _]) (pc := 65) C (by decide) rfl rfl dX4_combine_65 ?_
    refine z_iinc (i := 10) (lv' := [_, _, _, _, _, _, _, _, _, _, _]) (pc := 67) C rfl (by decide) rfl rfl dX4_combine_67 ?_
    refine z_goto (tgt := 6) (pc := 70) C dX4_combine_70 (by decide) ?_
    exact ih (i + 1) _ (by omega) (zRS_s hg (by omega) rfl)
set_option maxRecDepth 100000 in
set_option maxHeartbeats 4000000 in
theorem c_X4_combineB {l0 : Launch} {X : zX} {ω : zWd} {r c h wd : Nat} {u : Int} {g : Int → Int} {row fr q v : Int} (hr : ω.1 r = some (zOb 4 [.int (zI h), .int (zI wd), .ref c, .int (zI u)])) (hc : ω.1 c = some (zAJ X (h * wd) g)) (hs : (0 < h ∧ h ≤ 256) ∧ (0 < wd ∧ wd ≤ 16) ∧ 0 ≤ u ∧ u ≤ h)  (hrow : 0 ≤ row ∧ row < u) (hfr : 0 ≤ fr ∧ fr < u) (hrf : fr ≠ row) (hx : ∀ k : Int, 0 ≤ k → k < wd → (0 ≤ g (row * wd + k) ∧ g (row * wd + k) < zL) ∧ 0 ≤ g (fr * wd + k) ∧ g (fr * wd + k) < zL) (hq : 0 ≤ q ∧ q ≤ 1000) (hv : -1000 ≤ v ∧ v ≤ 1000) : zMet l0 yX4_combine cX4_combine 11 none rmX4_combine X [.ref r, .int (zI row), .long (zJ q), .ref r, .int (zI fr), .long (zJ v)] ω (zpv (fun w => ∃ g2, w = zU ω c (zAJ X (h * wd) g2) ∧ zRS g g2 row wd wd (zcl (fun k => g (row * wd + k)) (fun k => g (fr * wd + k)) q v))) := by
  refine zMet.intro (by decide) (Nat.le_of_ble_eq_true rfl) ?_
  intro Γ C E N
  show Zw Γ ω 0 0 0 [_, _, _, _, _, _, _, _, _, _, _] []
  have hrc : r ≠ c := z_neOJ hr hc
  refine z_lconst (v := 0) (pc := 0) C (by decide +kernel) dX4_combine_0 ?_
  refine z_lstore (i := 8) (lv' := [_, _, _, _, _, _, _, _, _, _, _]) (pc := 1) C (by decide) rfl rfl dX4_combine_1 ?_
  refine z_iconst (pc := 3) C dX4_combine_3 ?_
  refine z_istore (i := 10) (lv' := [_, _, _, _, _, _, _, _, _, _, _]) (pc := 4) C (by decide) rfl rfl dX4_combine_4 ?_
  have hw : ω = zU ω c (zAJ X (h * wd) g) := (zU_id hc).symm
  rw [hw]
  exact lp_X4_combineB C E hr hc hs hrc hrow hfr hrf hx hq hv wd 0 g (by omega) zRS_0
