/-! RUIN FOR EVER: nine cells from a on: the object, stays (a + 1, a + 2), sum, power, rest -/
def zHo (x : Int → Int) (f : Int) (K : Nat) : Nat → Int
  | 0 => 0
  | q + 1 => zHo x f K q * f + x ((K : Int) - 1 - q)
theorem zHo_v (x : Int → Int) (f : Int) (K : Nat) : ∀ q : Nat, q ≤ K → zHo x f K q * f ^ (K - q) + zs (fun j => x j * f ^ j.toNat) (K - q) = zs (fun j => x j * f ^ j.toNat) K
  | 0, _ => by simp [zHo]
  | q + 1, h => by
    have ih := zHo_v x f K q (by omega)
    have e : K - q = (K - (q + 1)) + 1 := by omega
    rw [e] at ih
    have e2 : zs (fun j => x j * f ^ j.toNat) (K - (q + 1) + 1) = zs (fun j => x j * f ^ j.toNat) (K - (q + 1)) + x ((K : Int) - 1 - q) * f ^ (K - (q + 1)) := by
      show _ + x ((K - (q + 1) : Nat) : Int) * f ^ ((K - (q + 1) : Nat) : Int).toNat = _
      rw [Int.toNat_natCast, show ((K - (q + 1) : Nat) : Int) = (K : Int) - 1 - q by omega]
    rw [e2, Int.pow_succ] at ih
    rw [← ih]
    show (zHo x f K q * f + x ((K : Int) - 1 - q)) * f ^ (K - (q + 1)) + _ = _
    grind
theorem zHo_e (x : Int → Int) (f : Int) (K : Nat) : zHo x f K K = zs (fun j => x j * f ^ j.toNat) K := by
  have := zHo_v x f K K (Nat.le_refl _)
  simpa [zs] using this
/-- the sum in the law of what stays -/
def zEs (F D : Int → Int) (u : Nat) : Int := zs (fun j => (D ((u : Int) - 1 - j) * F (j + 1)) * F 0 ^ j.toNat) (min u 20)
set_option maxRecDepth 100000 in
set_option maxHeartbeats 4000000 in
theorem lp_X2_sumUp {Γ : zG} {l0 : Launch} {X : zX} {ω : zWd} {a b bs u : Nat} {gst gsm F D : Int → Int} (C : Zc Γ l0 X rmX2_sumUp 4 cX2_sumUp RX2) (E : Ze Γ (zpv (fun w => ∃ g2, w = zU ω (a + 4) (zAJ X (1 * 16) g2) ∧ zRV g2 16 1 (fun _ => zEs F D u))) 0 0 none) (hw : ω.1 a = some (zOb 2 [.ref (a + 1), .ref (a + 3), .ref (a + 5), .ref (a + 7)])) (hst : ω.1 (a + 1) = some (zOb 4 [.int (zI ((61 : Nat) : Int)), .int (zI ((16 : Nat) : Int)), .ref (a + 2), .int (zI 61)])) (hstc : ω.1 (a + 2) = some (zAJ X (61 * 16) gst)) (hsm : ω.1 (a + 3) = some (zOb 4 [.int (zI ((1 : Nat) : Int)), .int (zI ((16 : Nat) : Int)), .ref (a + 4), .int (zI 1)])) (hsmc : ω.1 (a + 4) = some (zAJ X (1 * 16) gsm)) (hb : ω.1 b = some (zOb 0 [.ref bs])) (hbc : ω.1 bs = some (zAI X 21 F)) (hF : zBk F) (ob1 : b < a ∨ a + 9 ≤ b) (ob2 : bs < a ∨ a + 9 ≤ bs) (hu : 1 ≤ u ∧ u ≤ 60) (hV : zRV gst 16 u D) (hH : ∀ q : Nat, q ≤ min u 20 → 0 ≤ zHo (fun j => D ((u : Int) - 1 - j) * F (j + 1)) (F 0) (min u 20) q ∧ zHo (fun j => D ((u : Int) - 1 - j) * F (j + 1)) (F 0) (min u 20) q < zL ^ 16) : ∀ (j q : Nat) (gi : Int → Int), q + j = min u 20 → zRV gi 16 1 (fun _ => zHo (fun j => D ((u : Int) - 1 - j) * F (j + 1)) (F 0) (min u 20) q) → Zw Γ (zU ω (a + 4) (zAJ X (1 * 16) gi)) 0 0 16 [some (.ref a), some (.ref b), some (.int (zI (u : Int))), some (.int (zI (((min u 20 : Nat) : Int) - q)))] [] := by
  intro j
  induction j with
  | zero =>
    intro q gi hj hg
    have e1 : q = min u 20 := by omega
    subst e1
    refine z_iload_n (i := 3) (pc := 16) C rfl rfl dX2_sumUp_16 ?_
    refine z_iconst (pc := 17) C dX2_sumUp_17 ?_
    refine z_icmp_lt (tgt := 54) (pc := 18) C dX2_sumUp_18 (by decide) (fun h18 => ?_) (fun h18 => absurd h18 (by omega))
    exact z_vret (pc := 54) C E dX2_sumUp_54 ⟨rfl, ⟨gi, rfl, hg.c (fun r _ _ => zHo_e _ _ _)⟩⟩
  | succ j ih =>
    intro q gi hj hg
    have hf0 := hF 0 (by omega) (by omega)
    have hfk := hF (((min u 20 : Nat) : Int) - q) (by omega) (by omega)
    have hDr := hV.at (r := (u : Int) - (((min u 20 : Nat) : Int) - q)) (by omega) (by omega)
    have hDv := hV.v (r := (u : Int) - (((min u 20 : Nat) : Int) - q)) (by omega) (by omega)
    refine z_iload_n (i := 3) (pc := 16) C rfl rfl dX2_sumUp_16 ?_
    refine z_iconst (pc := 17) C dX2_sumUp_17 ?_
    refine z_icmp_lt (tgt := 54) (pc := 18) C dX2_sumUp_18 (by decide) (fun h18 => absurd h18 (by omega)) (fun h18 => ?_)
    refine z_aload_n (i := 0) (pc := 21) C rfl rfl dX2_sumUp_21 ?_
    refine g_X2_20 (pc := 22) C (zU_n' (z_neOJ hw hsmc) hw) rfl dX2_sumUp_22 ?_
    refine z_iconst (pc := 25) C dX2_sumUp_25 ?_
    refine z_aload_n (i := 1) (pc := 26) C rfl rfl dX2_sumUp_26 ?_
    refine z_iconst (pc := 27) C dX2_sumUp_27 ?_
    refine z_callVi (pc := 28) C (c_X0_read (zU_n' (z_neOJ hb hsmc) hb) (zU_n' (z_neIJ hbc hsmc) hbc)) k_X2_39 zy_X0_read rfl rfl (zU_n' (z_neOJ hb hsmc) hb) rfl rfl ⟨(Nat.le_of_ble_eq_true rfl), (Nat.le_of_ble_eq_true rfl)⟩ (Nat.le_of_ble_eq_true rfl) dX2_sumUp_28 ⟨rfl, rfl⟩ ⟨(Nat.le_of_ble_eq_true rfl), (Nat.le_of_ble_eq_true rfl)⟩ (fun rv ω' hp => ?_)
    obtain ⟨hw', rfl⟩ := hp
    rw [hw']
    refine z_i2l (pc := 31) C (hd := dX2_sumUp_31) (k := ?_)
    refine z_aload_n (i := 0) (pc := 32) C rfl rfl dX2_sumUp_32 ?_
    refine g_X2_14 (pc := 33) C (zU_n' (z_neOJ hw hsmc) hw) rfl dX2_sumUp_33 ?_
    refine z_iload_n (i := 2) (pc := 36) C rfl rfl dX2_sumUp_36 ?_
    refine z_iload_n (i := 3) (pc := 37) C rfl rfl dX2_sumUp_37 ?_
    refine z_isub (pc := 38) C dX2_sumUp_38 ?_
    refine z_aload_n (i := 1) (pc := 39) C rfl rfl dX2_sumUp_39 ?_
    refine z_iload_n (i := 3) (pc := 40) C rfl rfl dX2_sumUp_40 ?_
    refine z_callVi (pc := 41) C (c_X0_read (zU_n' (z_neOJ hb hsmc) hb) (zU_n' (z_neIJ hbc hsmc) hbc)) k_X2_39 zy_X0_read rfl rfl (zU_n' (z_neOJ hb hsmc) hb) rfl rfl ⟨(Nat.le_of_ble_eq_true rfl), (Nat.le_of_ble_eq_true rfl)⟩ (Nat.le_of_ble_eq_true rfl) dX2_sumUp_41 ⟨rfl, rfl⟩ ⟨(Nat.le_of_ble_eq_true rfl), (Nat.le_of_ble_eq_true rfl)⟩ (fun rv ω' hp => ?_)
    obtain ⟨hw', rfl⟩ := hp
    rw [hw']
    refine z_i2l (pc := 44) C (hd := dX2_sumUp_44) (k := ?_)
    refine z_callVv (pc := 45) C (c_X4_combineA (zU_n' (z_neOJ hsm hsmc) hsm) (zU_s _ _ _) ⟨⟨by decide, by decide⟩, ⟨by decide, by decide⟩, by omega, by omega⟩ (zU_n' (z_neOJ hst hsmc) hst) (zU_n' (by omega) hstc) ⟨⟨by decide, by decide⟩, ⟨by decide, by decide⟩, by omega, by omega⟩ rfl (by omega) (by omega) (by omega) (fun k a b => ⟨(hg.at (by omega) (by omega)) k a b, hDr k a b⟩) (by omega) (by omega)) k_X2_49 zy_X4_combine rfl rfl (zU_n' (z_neOJ hsm hsmc) hsm) rfl rfl ⟨(Nat.le_of_ble_eq_true rfl), (Nat.le_of_ble_eq_true rfl)⟩ (Nat.le_of_ble_eq_true rfl) dX2_sumUp_45 ⟨rfl, rfl⟩ ⟨(Nat.le_of_ble_eq_true rfl), (Nat.le_of_ble_eq_true rfl)⟩ (fun ω' hp => ?_)
    obtain ⟨g2, rfl, hg2⟩ := hp
    have hb2 := hH (q + 1) (by omega)
    have e3 : zHo (fun j => D ((u : Int) - 1 - j) * F (j + 1)) (F 0) (min u 20) (q + 1) = zHo (fun j => D ((u : Int) - 1 - j) * F (j + 1)) (F 0) (min u 20) q * F 0 + D ((u : Int) - (((min u 20 : Nat) : Int) - q)) * F (((min u 20 : Nat) : Int) - q) := by
      show zHo _ _ _ q * F 0 + D ((u : Int) - 1 - (((min u 20 : Nat) : Int) - 1 - q)) * F ((((min u 20 : Nat) : Int) - 1 - q) + 1) = _
      rw [show (u : Int) - 1 - (((min u 20 : Nat) : Int) - 1 - q) = (u : Int) - (((min u 20 : Nat) : Int) - q) by omega, show (((min u 20 : Nat) : Int) - 1 - q) + 1 = ((min u 20 : Nat) : Int) - q by omega]
    rw [e3] at hb2
    have hcv := zcomb_v hg2 (hg.v (by omega) (by omega)) hDv hb2
    rw [← e3] at hcv
    rw [zU_u]
    refine z_iinc (i := 3) (lv' := [_, _, _, _]) (pc := 48) C rfl (by decide) rfl rfl dX2_sumUp_48 ?_
    refine z_goto (tgt := 16) (pc := 51) C dX2_sumUp_51 (by decide) ?_
    rw [show ((min u 20 : Nat) : Int) - (q : Int) + -1 = ((min u 20 : Nat) : Int) - ((q + 1 : Nat) : Int) by omega]
    exact ih (q + 1) g2 (by omega) (zRV1 hcv)
set_option maxRecDepth 100000 in
set_option maxHeartbeats 4000000 in
theorem c_X2_sumUp {l0 : Launch} {X : zX} {ω : zWd} {a b bs u : Nat} {gst gsm F D : Int → Int} (hw : ω.1 a = some (zOb 2 [.ref (a + 1), .ref (a + 3), .ref (a + 5), .ref (a + 7)])) (hst : ω.1 (a + 1) = some (zOb 4 [.int (zI ((61 : Nat) : Int)), .int (zI ((16 : Nat) : Int)), .ref (a + 2), .int (zI 61)])) (hstc : ω.1 (a + 2) = some (zAJ X (61 * 16) gst)) (hsm : ω.1 (a + 3) = some (zOb 4 [.int (zI ((1 : Nat) : Int)), .int (zI ((16 : Nat) : Int)), .ref (a + 4), .int (zI 1)])) (hsmc : ω.1 (a + 4) = some (zAJ X (1 * 16) gsm)) (hb : ω.1 b = some (zOb 0 [.ref bs])) (hbc : ω.1 bs = some (zAI X 21 F)) (hF : zBk F) (ob1 : b < a ∨ a + 9 ≤ b) (ob2 : bs < a ∨ a + 9 ≤ bs) (hu : 1 ≤ u ∧ u ≤ 60) (hV : zRV gst 16 u D) (hH : ∀ q : Nat, q ≤ min u 20 → 0 ≤ zHo (fun j => D ((u : Int) - 1 - j) * F (j + 1)) (F 0) (min u 20) q ∧ zHo (fun j => D ((u : Int) - 1 - j) * F (j + 1)) (F 0) (min u 20) q < zL ^ 16) : zMet l0 yX2_sumUp cX2_sumUp 4 none rmX2_sumUp X [.ref a, .ref b, .int (zI (u : Int))] ω (zpv (fun w => ∃ g2, w = zU ω (a + 4) (zAJ X (1 * 16) g2) ∧ zRV g2 16 1 (fun _ => zEs F D u))) := by
  refine zMet.intro (by decide) (Nat.le_of_ble_eq_true rfl) ?_
  intro Γ C E N
  show Zw Γ ω 0 0 0 [some _, some _, some _, none] []
  refine z_aload_n (i := 0) (pc := 0) C rfl rfl dX2_sumUp_0 ?_
  refine g_X2_20 (pc := 1) C hw rfl dX2_sumUp_1 ?_
  refine z_iconst (pc := 4) C dX2_sumUp_4 ?_
  refine z_lconst (v := 0) (pc := 5) C (by decide +kernel) dX2_sumUp_5 ?_
  refine z_callVv (pc := 6) C (c_X4_put hsm hsmc ⟨⟨by decide, by decide⟩, ⟨by decide, by decide⟩, by omega, by omega⟩) k_X2_35 zy_X4_put rfl rfl hsm rfl rfl ⟨(Nat.le_of_ble_eq_true rfl), (Nat.le_of_ble_eq_true rfl)⟩ (Nat.le_of_ble_eq_true rfl) dX2_sumUp_6 ⟨rfl, rfl⟩ ⟨(Nat.le_of_ble_eq_true rfl), (Nat.le_of_ble_eq_true rfl)⟩ (fun ω' hp => ?_)
  obtain ⟨g2, rfl, hg2⟩ := hp
  have hpv := zput_v (by decide) hg2 (by decide)
  refine z_iload_n (i := 2) (pc := 9) C rfl rfl dX2_sumUp_9 ?_
  refine z_bipush (pc := 10) C (by decide +kernel) dX2_sumUp_10 ?_
  refine z_callSi (pc := 12) C (c_J9_min_7cf53) k_X2_63 zy_J9_min_7cf53.2 rfl rfl ⟨(Nat.le_of_ble_eq_true rfl), (Nat.le_of_ble_eq_true rfl)⟩ (Nat.le_of_ble_eq_true rfl) dX2_sumUp_12 ⟨rfl, rfl⟩ ⟨(Nat.le_of_ble_eq_true rfl), (Nat.le_of_ble_eq_true rfl)⟩ (fun rv ω' hp => ?_)
  obtain ⟨hw', rfl⟩ := hp
  rw [hw', show min (u : Int) 20 = ((min u 20 : Nat) : Int) - ((0 : Nat) : Int) by omega]
  refine z_istore_n (i := 3) (lv' := [_, _, _, _]) (pc := 15) C rfl (by decide) rfl rfl dX2_sumUp_15 ?_
  exact lp_X2_sumUp C E hw hst hstc hsm hsmc hb hbc hF ob1 ob2 hu hV hH (min u 20) 0 g2 (by omega) (zRV1 hpv)
