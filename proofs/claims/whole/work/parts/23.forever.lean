/-! RUIN FOR EVER: nine cells from a on: the object, stays (a + 1, a + 2), sum, power, rest -/
def zHo (x : Int → Int) (f : Int) (K : Nat) : Nat → Int
  | 0 => 0
  | q + 1 => zHo x f K q * f + x ((K : Int) - 1 - q)
theorem zHo_v (x : Int → Int) (f : Int) (K : Nat) : ∀ q : Nat, q ≤ K → zHo x f K q * f ^ (K - q) + zs (fun j => x j * f ^ j.toNat) (K - q) = zs (fun j => x j * f ^ j.toNat) K
  | 0, _ => by simp [zHo]
  | q + 1, h => by
    have ih := zHo_v x f K q (by omega)
    have e : K - q = (K - (q + 1)) + 1 := by omega
    rw [e] at ih
    have e2 : zs (fun j => x j * f ^ j.toNat) (K - (q + 1) + 1) = zs (fun j => x j * f ^ j.toNat) (K - (q + 1)) + x ((K : Int) - 1 - q) * f ^ (K - (q + 1)) := by
      show _ + x ((K - (q + 1) : Nat) : Int) * f ^ ((K - (q + 1) : Nat) : Int).toNat = _
      rw [Int.toNat_natCast, show ((K - (q + 1) : Nat) : Int) = (K : Int) - 1 - q by omega]
    rw [e2, Int.pow_succ] at ih
    rw [← ih]
    show (zHo x f K q * f + x ((K : Int) - 1 - q)) * f ^ (K - (q + 1)) + _ = _
    grind
theorem zHo_e (x : Int → Int) (f : Int) (K : Nat) : zHo x f K K = zs (fun j => x j * f ^ j.toNat) K := by
  have := zHo_v x f K K (Nat.le_refl _)
  simpa [zs] using this
/-- the sum in the law of what stays -/
def zEs (F D : Int → Int) (u : Nat) : Int := zs (fun j => (D ((u : Int) - 1 - j) * F (j + 1)) * F 0 ^ j.toNat) (min u 20)
set_option maxRecDepth 100000 in
set_option maxHeartbeats 4000000 in
theorem lp_X2_sumUp {Γ : zG} {l0 : Launch} {X : zX} {ω : zWd} {a b bs u : Nat} {gst gsm F D : Int → Int} (C : Zc Γ l0 X rmX2_sumUp 4 cX2_sumUp RX2) (E : Ze Γ (zpv (fun w => ∃ g2, w = zU ω (a + 4) (zAJ X (1 * 16) g2) ∧ zRV g2 16 1 (fun _ => zEs F D u))) 0 0 none) (hw : ω.1 a = some (zOb 2 [.ref (a + 1), .ref (a + 3), .ref (a + 5), .ref (a + 7)])) (hst : ω.1 (a + 1) = some (zOb 4 [.int (zI ((61 : Nat) : Int)), .int (zI ((16 : Nat) : Int)), .ref (a + 2), .int (zI 61)])) (hstc : ω.1 (a + 2) = some (zAJ X (61 * 16) gst)) (hsm : ω.1 (a + 3) = some (zOb 4 [.int (zI ((1 : Nat) : Int)), .int (zI ((16 : Nat) : Int)), .ref (a + 4), .int (zI 1)])) (hsmc : ω.1 (a + 4) = some (zAJ X (1 * 16) gsm)) (hb : ω.1 b = some (zOb 0 [.ref bs])) (hbc : ω.1 bs = some (zAI X 21 F)) (hF : zBk F) (ob1 : b < a ∨ a + 9 ≤ b) (ob2 : bs < a ∨ a + 9 ≤ bs) (hu : 1 ≤ u ∧ u ≤ 60) (hV : zRV gst 16 u D) (hH : ∀ q : Nat, q ≤ min u 20 → 0 ≤ zHo (fun j => D ((u : Int) - 1 - j) * F (j + 1)) (F 0) (min u 20) q ∧ zHo (fun j => D ((u : Int) - 1 - j) * F (j + 1)) (F 0) (min u 20) q < zL ^ 16) : ∀ (j q : Nat) (gi : Int → Int), q + j = min u 20 → zRV gi 16 1 (fun _ => zHo (fun j => D ((u : Int) - 1 - j) * F (j + 1)) (F 0) (min u 20) q) → Zw Γ (zU ω (a + 4) (zAJ X (1 * 16) gi)) 0 0 16 [some (.ref a), some (.ref b), some (.int (zI (u : Int))), some (.int (zI (((min u 20 : Nat) : Int) - q)))] [] := by
  intro j
  induction j with
  | zero =>
    intro q gi hj hg
    have e1 : q = min u 20 := by omega
    subst e1
    refine z_iload_n (i := 3) (pc := 16) C rfl rfl dX2_sumUp_16 ?_
    refine z_iconst (pc := 17) C dX2_sumUp_17 ?_
    refine z_icmp_lt (tgt := 54) (pc := 18) C dX2_sumUp_18 (by decide) (fun h18 => ?_) (fun h18 => absurd h18 (by omega))
    exact z_vret (pc := 54) C E dX2_sumUp_54 ⟨rfl, ⟨gi, rfl, hg.c (fun r _ _ => zHo_e _ _ _)⟩⟩
  | succ j ih =>
    intro q gi hj hg
    have hf0 := hF 0 (by omega) (by omega)
    have hfk := hF (((min u 20 : Nat) : Int) - q) (by omega) (by omega)
    have hDr := hV.at (r := (u : Int) - (((min u 20 : Nat) : Int) - q)) (by omega) (by omega)
    have hDv := hV.v (r := (u : Int) - (((min u 20 : Nat) : Int) - q)) (by omega) (by omega)
    refine z_iload_n (i := 3) (pc := 16) C rfl rfl dX2_sumUp_16 ?_
    refine z_iconst (pc := 17) C dX2_sumUp_17 ?_
    refine z_icmp_lt (tgt := 54) (pc := 18) C dX2_sumUp_18 (by decide) (fun h18 => absurd h18 (by omega)) (fun h18 => ?_)
    refine z_aload_n (i := 0) (pc := 21) C rfl rfl dX2_sumUp_21 ?_
    refine g_X2_20 (pc := 22) C (zU_n' (z_neOJ hw hsmc) hw) rfl dX2_sumUp_22 ?_
    refine z_iconst (pc := 25) C dX2_sumUp_25 ?_
    refine z_aload_n (i := 1) (pc := 26) C rfl rfl dX2_sumUp_26 ?_
    refine z_iconst (pc := 27) C dX2_sumUp_27 ?_
    refine z_callVi (pc := 28) C (c_X0_read (zU_n' (z_neOJ hb hsmc) hb) (zU_n' (z_neIJ hbc hsmc) hbc)) k_X2_39 zy_X0_read rfl rfl (zU_n' (z_neOJ hb hsmc) hb) rfl rfl ⟨(Nat.le_of_ble_eq_true rfl), (Nat.le_of_ble_eq_true rfl)⟩ (Nat.le_of_ble_eq_true rfl) dX2_sumUp_28 ⟨rfl, rfl⟩ ⟨(Nat.le_of_ble_eq_true rfl), (Nat.le_of_ble_eq_true rfl)⟩ (fun rv ω' hp => ?_)
    obtain ⟨hw', rfl⟩ := hp
    rw [hw']
    refine z_i2l (pc := 31) C (hd := dX2_sumUp_31) (k := ?_)
    refine z_aload_n (i := 0) (pc := 32) C rfl rfl dX2_sumUp_32 ?_
    refine g_X2_14 (pc := 33) C (zU_n' (z_neOJ hw hsmc) hw) rfl dX2_sumUp_33 ?_
    refine z_iload_n (i := 2) (pc := 36) C rfl rfl dX2_sumUp_36 ?_
    refine z_iload_n (i := 3) (pc := 37) C rfl rfl dX2_sumUp_37 ?_
    refine z_isub (pc := 38) C dX2_sumUp_38 ?_
    refine z_aload_n (i := 1) (pc := 39) C rfl rfl dX2_sumUp_39 ?_
    refine z_iload_n (i := 3) (pc := 40) C rfl rfl dX2_sumUp_40 ?_
    refine z_callVi (pc := 41) C (c_X0_read (zU_n' (z_neOJ hb hsmc) hb) (zU_n' (z_neIJ hbc hsmc) hbc)) k_X2_39 zy_X0_read rfl rfl (zU_n' (z_neOJ hb hsmc) hb) rfl rfl ⟨(Nat.le_of_ble_eq_true rfl), (Nat.le_of_ble_eq_true rfl)⟩ (Nat.le_of_ble_eq_true rfl) dX2_sumUp_41 ⟨rfl, rfl⟩ ⟨(Nat.le_of_ble_eq_true rfl), (Nat.le_of_ble_eq_true rfl)⟩ (fun rv ω' hp => ?_)
    obtain ⟨hw', rfl⟩ := hp
    rw [hw']
    refine z_i2l (pc := 44) C (hd := dX2_sumUp_44) (k := ?_)
    refine z_callVv (pc := 45) C (c_X4_combineA (zU_n' (z_neOJ hsm hsmc) hsm) (zU_s _ _ _) ⟨⟨by decide, by decide⟩, ⟨by decide, by decide⟩, by omega, by omega⟩ (zU_n' (z_neOJ hst hsmc) hst) (zU_n' (by omega) hstc) ⟨⟨by decide, by decide⟩, ⟨by decide, by decide⟩, by omega, by omega⟩ rfl (by omega) (by omega) (by omega) (fun k a b => ⟨(hg.at (by omega) (by omega)) k a b, hDr k a b⟩) (by omega) (by omega)) k_X2_49 zy_X4_combine rfl rfl (zU_n' (z_neOJ hsm hsmc) hsm) rfl rfl ⟨(Nat.le_of_ble_eq_true rfl), (Nat.le_of_ble_eq_true rfl)⟩ (Nat.le_of_ble_eq_true rfl) dX2_sumUp_45 ⟨rfl, rfl⟩ ⟨(Nat.le_of_ble_eq_true rfl), (Nat.le_of_ble_eq_true rfl)⟩ (fun ω' hp => ?_)
    obtain ⟨g2, rfl, hg2⟩ := hp
    have hb2 := hH (q + 1) (by omega)
    have e3 : zHo (fun j => D ((u : Int) - 1 - j) * F (j + 1)) (F 0) (min u 20) (q + 1) = zHo (fun j => D ((u : Int) - 1 - j) * F (j + 1)) (F 0) (min u 20) q * F 0 + D ((u : Int) - (((min u 20 : Nat) : Int) - q)) * F (((min u 20 : Nat) : Int) - q) := by
      show zHo _ _ _ q * F 0 + D ((u : Int) - 1 - (((min u 20 : Nat) : Int) - 1 - q)) * F ((((min u 20 : Nat) : Int) - 1 - q) + 1) = _
      rw [show (u : Int) - 1 - (((min u 20 : Nat) : Int) - 1 - q) = (u : Int) - (((min u 20 : Nat) : Int) - q) by omega, show (((min u 20 : Nat) : Int) - 1 - q) + 1 = ((min u 20 : Nat) : Int) - q by omega]
    rw [e3] at hb2
    have hcv := zcomb_v hg2 (hg.v (by omega) (by omega)) hDv hb2
    rw [← e3] at hcv
    rw [zU_u]
    refine z_iinc (i := 3) (lv' := [_, _, _, _]) (pc := 48) C rfl (by decide) rfl rfl dX2_sumUp_48 ?_
    refine z_goto (tgt := 16) (pc := 51) C dX2_sumUp_51 (by decide) ?_
    rw [show ((min u 20 : Nat) : Int) - (q : Int) + -1 = ((min u 20 : Nat) : Int) - ((q + 1 : Nat) : Int) by omega]
    exact ih (q + 1) g2 (by omega) (zRV1 hcv)
set_option maxRecDepth 100000 in
set_option maxHeartbeats 4000000 in
theorem c_X2_sumUp {l0 : Launch} {X : zX} {ω : zWd} {a b bs u : Nat} {gst gsm F D : Int → Int} (hw : ω.1 a = some (zOb 2 [.ref (a + 1), .ref (a + 3), .ref (a + 5), .ref (a + 7)])) (hst : ω.1 (a + 1) = some (zOb 4 [.int (zI ((61 : Nat) : Int)), .int (zI ((16 : Nat) : Int)), .ref (a + 2), .int (zI 61)])) (hstc : ω.1 (a + 2) = some (zAJ X (61 * 16) gst)) (hsm : ω.1 (a + 3) = some (zOb 4 [.int (zI ((1 : Nat) : Int)), .int (zI ((16 : Nat) : Int)), .ref (a + 4), .int (zI 1)])) (hsmc : ω.1 (a + 4) = some (zAJ X (1 * 16) gsm)) (hb : ω.1 b = some (zOb 0 [.ref bs])) (hbc : ω.1 bs = some (zAI X 21 F)) (hF : zBk F) (ob1 : b < a ∨ a + 9 ≤ b) (ob2 : bs < a ∨ a + 9 ≤ bs) (hu : 1 ≤ u ∧ u ≤ 60) (hV : zRV gst 16 u D) (hH : ∀ q : Nat, q ≤ min u 20 → 0 ≤ zHo (fun j => D ((u : Int) - 1 - j) * F (j + 1)) (F 0) (min u 20) q ∧ zHo (fun j => D ((u : Int) - 1 - j) * F (j + 1)) (F 0) (min u 20) q < zL ^ 16) : zMet l0 yX2_sumUp cX2_sumUp 4 none rmX2_sumUp X [.ref a, .ref b, .int (zI (u : Int))] ω (zpv (fun w => ∃ g2, w = zU ω (a + 4) (zAJ X (1 * 16) g2) ∧ zRV g2 16 1 (fun _ => zEs F D u))) := by
  refine zMet.intro (by decide) (Nat.le_of_ble_eq_true rfl) ?_
  intro Γ C E N
  show Zw Γ ω 0 0 0 [some _, some _, some _, none] []
  refine z_aload_n (i := 0) (pc := 0) C rfl rfl dX2_sumUp_0 ?_
  refine g_X2_20 (pc := 1) C hw rfl dX2_sumUp_1 ?_
  refine z_iconst (pc := 4) C dX2_sumUp_4 ?_
  refine z_lconst (v := 0) (pc := 5) C (by decide +kernel) dX2_sumUp_5 ?_
  refine z_callVv (pc := 6) C (c_X4_put hsm hsmc ⟨⟨by decide, by decide⟩, ⟨by decide, by decide⟩, by omega, by omega⟩) k_X2_35 zy_X4_put rfl rfl hsm rfl rfl ⟨(Nat.le_of_ble_eq_true rfl), (Nat.le_of_ble_eq_true rfl)⟩ (Nat.le_of_ble_eq_true rfl) dX2_sumUp_6 ⟨rfl, rfl⟩ ⟨(Nat.le_of_ble_eq_true rfl), (Nat.le_of_ble_eq_true rfl)⟩ (fun ω' hp => ?_)
  obtain ⟨g2, rfl, hg2⟩ := hp
  have hpv := zput_v (by decide) hg2 (by decide)
  refine z_iload_n (i := 2) (pc := 9) C rfl rfl dX2_sumUp_9 ?_
  refine z_bipush (pc := 10) C (by decide +kernel) dX2_sumUp_10 ?_
  refine z_callSi (pc := 12) C (c_J9_min_7cf53) k_X2_63 zy_J9_min_7cf53.2 rfl rfl ⟨(Nat.le_of_ble_eq_true rfl), (Nat.le_of_ble_eq_true rfl)⟩ (Nat.le_of_ble_eq_true rfl) dX2_sumUp_12 ⟨rfl, rfl⟩ ⟨(Nat.le_of_ble_eq_true rfl), (Nat.le_of_ble_eq_true rfl)⟩ (fun rv ω' hp => ?_)
  obtain ⟨hw', rfl⟩ := hp
  rw [hw', show min (u : Int) 20 = ((min u 20 : Nat) : Int) - ((0 : Nat) : Int) by omega]
  refine z_istore_n (i := 3) (lv' := [_, _, _, _]) (pc := 15) C rfl (by decide) rfl rfl dX2_sumUp_15 ?_
  exact lp_X2_sumUp C E hw hst hstc hsm hsmc hb hbc hF ob1 ob2 hu hV hH (min u 20) 0 g2 (by omega) (zRV1 hpv)
theorem zRV.kp {g g2 G : Int → Int} {wd : Nat} {u row i : Int} {V : Int → Int} (h : zRV g wd u V) (hi : 0 ≤ i ∧ i ≤ wd) (hs : zRS g g2 row wd i G) (hr : u ≤ row ∨ row < 0) : zRV g2 wd u V := by
  intro r a b
  obtain ⟨h1, h2⟩ := h r a b
  have e : r ≠ row := by omega
  refine ⟨fun k k0 k1 => by rw [zRS_out hs hi e k0 k1]; exact h1 k k0 k1, ?_⟩
  rw [← h2]
  exact zv_c (fun k k0 k1 => zRS_out hs hi e k0 k1)
theorem zRV.ext {g : Int → Int} {wd : Nat} {u : Int} {V : Int → Int} (h : zRV g wd u V) (hr : (∀ k : Int, 0 ≤ k → k < wd → 0 ≤ g (u * wd + k) ∧ g (u * wd + k) < zL) ∧ zv zL (fun k => g (u * wd + k)) wd = V u) : zRV g wd (u + 1) V := by
  intro r a b
  by_cases e : r = u
  · rw [e]; exact hr
  · exact h r a (by omega)
def zFv (X : zX) (ω : zWd) (a : Nat) (gst gsm gpw grs : Int → Int) : Prop := ω.1 a = some (zOb 2 [.ref (a + 1), .ref (a + 3), .ref (a + 5), .ref (a + 7)]) ∧ ω.1 (a + 1) = some (zOb 4 [.int (zI ((61 : Nat) : Int)), .int (zI ((16 : Nat) : Int)), .ref (a + 2), .int (zI 61)]) ∧ ω.1 (a + 2) = some (zAJ X (61 * 16) gst) ∧ ω.1 (a + 3) = some (zOb 4 [.int (zI ((1 : Nat) : Int)), .int (zI ((16 : Nat) : Int)), .ref (a + 4), .int (zI 1)]) ∧ ω.1 (a + 4) = some (zAJ X (1 * 16) gsm) ∧ ω.1 (a + 5) = some (zOb 4 [.int (zI ((1 : Nat) : Int)), .int (zI ((16 : Nat) : Int)), .ref (a + 6), .int (zI 1)]) ∧ ω.1 (a + 6) = some (zAJ X (1 * 16) gpw) ∧ ω.1 (a + 7) = some (zOb 4 [.int (zI ((1 : Nat) : Int)), .int (zI ((16 : Nat) : Int)), .ref (a + 8), .int (zI 1)]) ∧ ω.1 (a + 8) = some (zAJ X (1 * 16) grs)
theorem zpow_le {f : Int} (hf : 0 ≤ f ∧ f ≤ 1000) {v : Nat} (hv : v ≤ 61) : f ^ v ≤ 10 ^ 183 := by
  have h1 : ∀ v : Nat, 0 ≤ f ^ v ∧ f ^ v ≤ 1000 ^ v := by
    intro v
    induction v with
    | zero => simp
    | succ v ih =>
      rw [Int.pow_succ, Int.pow_succ]
      exact ⟨Int.mul_nonneg ih.1 hf.1, Int.mul_le_mul ih.2 hf.2 hf.1 (Int.le_trans ih.1 ih.2)⟩
  have h2 : (1000 : Int) ^ v = 10 ^ (3 * v) := by rw [Int.pow_mul]; rfl
  have h3 := (h1 v).2
  rw [h2] at h3
  exact Int.le_trans h3 (zp10 (by omega))
set_option maxRecDepth 100000 in
set_option maxHeartbeats 4000000 in
theorem lp_X2_work {Γ : zG} {l0 : Launch} {X : zX} {ω0 : zWd} {a b bs pu : Nat} {F D : Int → Int} (C : Zc Γ l0 X rmX2_work 4 cX2_work RX2) (E : Ze Γ (zpv (fun w => ∃ gst2 gsm2 gpw2 grs2, zOut a (a + 9) ω0 w ∧ zFv X w a gst2 gsm2 gpw2 grs2 ∧ zRV gpw2 16 1 (fun _ => F 0 ^ (pu + 1)) ∧ zRV grs2 16 1 (fun _ => F 0 ^ (pu + 1) - D pu))) 0 0 none) (hb : ω0.1 b = some (zOb 0 [.ref bs])) (hbc : ω0.1 bs = some (zAI X 21 F)) (hF : zBk F) (ob1 : b < a ∨ a + 9 ≤ b) (ob2 : bs < a ∨ a + 9 ≤ bs) (hpu : pu ≤ 60) (hM : zst F 0 < 1000 ∧ 0 ≤ zst F 0) (hD0 : D 0 = 1000 - zst F 0) (hDs : ∀ u : Nat, 1 ≤ u → u ≤ pu → D u = D ((u : Int) - 1) * 1000 - zEs F D u) (hDb : ∀ u : Nat, u ≤ pu → 0 ≤ D u ∧ D u ≤ F 0 ^ (u + 1)) (hH : ∀ u : Nat, 1 ≤ u → u ≤ pu → ∀ q : Nat, q ≤ min u 20 → 0 ≤ zHo (fun j => D ((u : Int) - 1 - j) * F (j + 1)) (F 0) (min u 20) q ∧ zHo (fun j => D ((u : Int) - 1 - j) * F (j + 1)) (F 0) (min u 20) q < zL ^ 16) : ∀ (j u : Nat) (ω : zWd) (gst gsm gpw grs : Int → Int), 1 ≤ u → u + j = pu + 1 → zOut a (a + 9) ω0 ω → zFv X ω a gst gsm gpw grs → zRV gst 16 u D → zRV gpw 16 1 (fun _ => F 0 ^ u) → Zw Γ ω 0 0 33 [some (.ref a), some (.ref b), some (.int (zI (pu : Int))), some (.int (zI (u : Int)))] [] := by
  intro j
  induction j with
  | zero =>
    intro u ω gst gsm gpw grs hu1 hj hout hW hV hP
    have e1 : u = pu + 1 := by omega
    subst e1
    obtain ⟨hw, hst, hstc, hsm, hsmc, hpw, hpwc, hrs, hrsc⟩ := hW
    have hf0 := hF 0 (by omega) (by omega)
    have hpb : ∀ v : Nat, v ≤ 61 → 0 ≤ F 0 ^ v ∧ F 0 ^ v ≤ 10 ^ 183 := fun v hv => ⟨Int.pow_nonneg hf0.1, zpow_le hf0 hv⟩
    have h192 : (10 : Int) ^ 183 * 1000 < zL ^ 16 := by decide
    have hDp := hDb pu (by omega)
    have hPp := hpb (pu + 1) (by omega)
    refine z_iload_n (i := 3) (pc := 33) C rfl rfl dX2_work_33 ?_
    refine z_iload_n (i := 2) (pc := 34) C rfl rfl dX2_work_34 ?_
    refine z_icmp_gt (tgt := 110) (pc := 35) C dX2_work_35 (by decide) (fun h35 => ?_) (fun h35 => absurd h35 (by omega))
    refine z_aload_n (i := 0) (pc := 110) C rfl rfl dX2_work_110 ?_
    refine g_X2_26 (pc := 111) C hw rfl dX2_work_111 ?_
    refine z_iconst (pc := 114) C dX2_work_114 ?_
    refine z_aload_n (i := 0) (pc := 115) C rfl rfl dX2_work_115 ?_
    refine g_X2_23 (pc := 116) C hw rfl dX2_work_116 ?_
    refine z_iconst (pc := 119) C dX2_work_119 ?_
    refine z_callVv (pc := 120) C (c_X4_copy hrs hrsc ⟨⟨by decide, by decide⟩, ⟨by decide, by decide⟩, by omega, by omega⟩ hpw hpwc ⟨⟨by decide, by decide⟩, ⟨by decide, by decide⟩, by omega, by omega⟩ (by omega)) k_X2_59 zy_X4_copy rfl rfl hrs rfl rfl ⟨(Nat.le_of_ble_eq_true rfl), (Nat.le_of_ble_eq_true rfl)⟩ (Nat.le_of_ble_eq_true rfl) dX2_work_120 ⟨rfl, rfl⟩ ⟨(Nat.le_of_ble_eq_true rfl), (Nat.le_of_ble_eq_true rfl)⟩ (fun ω' hp => ?_)
    obtain ⟨g2, rfl, hg2⟩ := hp
    have hcv := zcopy_v hg2 (hP.at (by omega) (by omega)) (hP.v (by omega) (by omega)) (by decide)
    have hR1 := zRV1 hcv
    refine z_nm (fun ω2 hω2 => ?_)
    have w_ω2 := z_at hω2 (zU_n' (z_neOJ hw hrsc) hw)
    have st_ω2 := z_at hω2 (zU_n' (z_neOJ hst hrsc) hst)
    have stc_ω2 := z_at hω2 (zU_n' (by omega) hstc)
    have sm_ω2 := z_at hω2 (zU_n' (z_neOJ hsm hrsc) hsm)
    have smc_ω2 := z_at hω2 (zU_n' (by omega) hsmc)
    have pw_ω2 := z_at hω2 (zU_n' (z_neOJ hpw hrsc) hpw)
    have pwc_ω2 := z_at hω2 (zU_n' (by omega) hpwc)
    have rs_ω2 := z_at hω2 (zU_n' (z_neOJ hrs hrsc) hrs)
    have rsc_ω2 := z_at hω2 (zU_s _ _ _)
    refine z_aload_n (i := 0) (pc := 123) C rfl rfl dX2_work_123 ?_
    refine g_X2_26 (pc := 124) C w_ω2 rfl dX2_work_124 ?_
    refine z_iconst (pc := 127) C dX2_work_127 ?_
    refine z_lconst (v := 1) (pc := 128) C (by decide +kernel) dX2_work_128 ?_
    refine z_aload_n (i := 0) (pc := 129) C rfl rfl dX2_work_129 ?_
    refine g_X2_14 (pc := 130) C w_ω2 rfl dX2_work_130 ?_
    refine z_iload_n (i := 2) (pc := 133) C rfl rfl dX2_work_133 ?_
    refine z_ldc2 (a := -1) (pc := 134) C (by decide +kernel) q_X2_53 dX2_work_134 ?_
    refine z_callVv (pc := 137) C (c_X4_combineA rs_ω2 rsc_ω2 ⟨⟨by decide, by decide⟩, ⟨by decide, by decide⟩, by omega, by omega⟩ st_ω2 stc_ω2 ⟨⟨by decide, by decide⟩, ⟨by decide, by decide⟩, by omega, by omega⟩ rfl (by omega) (by omega) (by omega) (fun k a b => ⟨(hR1.at (by omega) (by omega)) k a b, (hV.at (r := pu) (by omega) (by omega)) k a b⟩) (by omega) (by omega)) k_X2_49 zy_X4_combine rfl rfl rs_ω2 rfl rfl ⟨(Nat.le_of_ble_eq_true rfl), (Nat.le_of_ble_eq_true rfl)⟩ (Nat.le_of_ble_eq_true rfl) dX2_work_137 ⟨rfl, rfl⟩ ⟨(Nat.le_of_ble_eq_true rfl), (Nat.le_of_ble_eq_true rfl)⟩ (fun ω' hp => ?_)
    obtain ⟨g3, rfl, hg3⟩ := hp
    have hcv3 := zcomb_v hg3 (hR1.v (by omega) (by omega)) (hV.v (r := pu) (by omega) (by omega)) (by omega)
    exact z_vret (pc := 140) C E dX2_work_140 ⟨rfl, ⟨gst, gsm, gpw, g3, by rw [hω2]; exact (hout.u (by omega) (by omega)).u (by omega) (by omega), ⟨(zU_n' (z_neOJ w_ω2 rsc_ω2) w_ω2), (zU_n' (z_neOJ st_ω2 rsc_ω2) st_ω2), (zU_n' (by omega) stc_ω2), (zU_n' (z_neOJ sm_ω2 rsc_ω2) sm_ω2), (zU_n' (by omega) smc_ω2), (zU_n' (z_neOJ pw_ω2 rsc_ω2) pw_ω2), (zU_n' (by omega) pwc_ω2), (zU_n' (z_neOJ rs_ω2 rsc_ω2) rs_ω2), (zU_s _ _ _)⟩, hP, (zRV1 hcv3).c (fun r _ _ => by omega)⟩⟩
  | succ j ih =>
    intro u ω gst gsm gpw grs hu1 hj hout hW hV hP
    obtain ⟨hw, hst, hstc, hsm, hsmc, hpw, hpwc, hrs, hrsc⟩ := hW
    have hf0 := hF 0 (by omega) (by omega)
    have hpb : ∀ v : Nat, v ≤ 61 → 0 ≤ F 0 ^ v ∧ F 0 ^ v ≤ 10 ^ 183 := fun v hv => ⟨Int.pow_nonneg hf0.1, zpow_le hf0 hv⟩
    have h192 : (10 : Int) ^ 183 * 1000 < zL ^ 16 := by decide
    have hb1 := hout.at (b := b) ob1 hb
    have hbc1 := hout.at (b := bs) ob2 hbc
    have hDu := hDb u (by omega)
    have hDu1 := hDb (u - 1) (by omega)
    rw [show ((u - 1 : Nat) : Int) = (u : Int) - 1 by omega] at hDu1
    have hPu := hpb (u + 1) (by omega)
    have hPu1 := hpb u (by omega)
    have hPu2 := hpb (u - 1 + 1) (by omega)
    have hDe := hDs u hu1 (by omega)
    have hpm : F 0 ^ u * F 0 ≤ 10 ^ 183 * 1000 := Int.mul_le_mul hPu1.2 hf0.2 hf0.1 (by decide)
    have hpm0 : 0 ≤ F 0 ^ u * F 0 := Int.mul_nonneg hPu1.1 hf0.1
    refine z_iload_n (i := 3) (pc := 33) C rfl rfl dX2_work_33 ?_
    refine z_iload_n (i := 2) (pc := 34) C rfl rfl dX2_work_34 ?_
    refine z_icmp_gt (tgt := 110) (pc := 35) C dX2_work_35 (by decide) (fun h35 => absurd h35 (by omega)) (fun h35 => ?_)
    refine z_aload_n (i := 0) (pc := 38) C rfl rfl dX2_work_38 ?_
    refine z_aload_n (i := 1) (pc := 39) C rfl rfl dX2_work_39 ?_
    refine z_iload_n (i := 3) (pc := 40) C rfl rfl dX2_work_40 ?_
    refine z_callVv (pc := 41) C (c_X2_sumUp hw hst hstc hsm hsmc hb1 hbc1 hF ob1 ob2 (by omega) hV (hH u hu1 (by omega))) k_X2_43 zy_X2_sumUp rfl rfl hw rfl rfl ⟨(Nat.le_of_ble_eq_true rfl), (Nat.le_of_ble_eq_true rfl)⟩ (Nat.le_of_ble_eq_true rfl) dX2_work_41 ⟨rfl, rfl⟩ ⟨(Nat.le_of_ble_eq_true rfl), (Nat.le_of_ble_eq_true rfl)⟩ (fun ω' hp => ?_)
    obtain ⟨gsm2, rfl, hSv⟩ := hp
    refine z_nm (fun ω2 hω2 => ?_)
    have w_ω2 := z_at hω2 (zU_n' (z_neOJ hw hsmc) hw)
    have st_ω2 := z_at hω2 (zU_n' (z_neOJ hst hsmc) hst)
    have stc_ω2 := z_at hω2 (zU_n' (by omega) hstc)
    have sm_ω2 := z_at hω2 (zU_n' (z_neOJ hsm hsmc) hsm)
    have pw_ω2 := z_at hω2 (zU_n' (z_neOJ hpw hsmc) hpw)
    have pwc_ω2 := z_at hω2 (zU_n' (by omega) hpwc)
    have rs_ω2 := z_at hω2 (zU_n' (z_neOJ hrs hsmc) hrs)
    have rsc_ω2 := z_at hω2 (zU_n' (by omega) hrsc)
    have b_ω2 := z_at hω2 (zU_n' (z_neOJ hb1 hsmc) hb1)
    have bs_ω2 := z_at hω2 (zU_n' (z_neIJ hbc1 hsmc) hbc1)
    have smc_ω2 := z_at hω2 (zU_s _ _ _)
    refine z_aload_n (i := 0) (pc := 44) C rfl rfl dX2_work_44 ?_
    refine g_X2_14 (pc := 45) C w_ω2 rfl dX2_work_45 ?_
    refine z_iload_n (i := 3) (pc := 48) C rfl rfl dX2_work_48 ?_
    refine z_lconst (v := 0) (pc := 49) C (by decide +kernel) dX2_work_49 ?_
    refine z_callVv (pc := 50) C (c_X4_put st_ω2 stc_ω2 ⟨⟨by decide, by decide⟩, ⟨by decide, by decide⟩, by omega, by omega⟩) k_X2_35 zy_X4_put rfl rfl st_ω2 rfl rfl ⟨(Nat.le_of_ble_eq_true rfl), (Nat.le_of_ble_eq_true rfl)⟩ (Nat.le_of_ble_eq_true rfl) dX2_work_50 ⟨rfl, rfl⟩ ⟨(Nat.le_of_ble_eq_true rfl), (Nat.le_of_ble_eq_true rfl)⟩ (fun ω' hp => ?_)
    obtain ⟨g3, rfl, hg3⟩ := hp
    have hpv := zput_v (by decide) hg3 (by decide)
    have hV3 := hV.kp (by omega) hg3 (by omega)
    refine z_nm (fun ω3 hω3 => ?_)
    have w_ω3 := z_at hω3 (zU_n' (z_neOJ w_ω2 stc_ω2) w_ω2)
    have st_ω3 := z_at hω3 (zU_n' (z_neOJ st_ω2 stc_ω2) st_ω2)
    have sm_ω3 := z_at hω3 (zU_n' (z_neOJ sm_ω2 stc_ω2) sm_ω2)
    have pw_ω3 := z_at hω3 (zU_n' (z_neOJ pw_ω2 stc_ω2) pw_ω2)
    have pwc_ω3 := z_at hω3 (zU_n' (by omega) pwc_ω2)
    have rs_ω3 := z_at hω3 (zU_n' (z_neOJ rs_ω2 stc_ω2) rs_ω2)
    have rsc_ω3 := z_at hω3 (zU_n' (by omega) rsc_ω2)
    have b_ω3 := z_at hω3 (zU_n' (z_neOJ b_ω2 stc_ω2) b_ω2)
    have bs_ω3 := z_at hω3 (zU_n' (z_neIJ bs_ω2 stc_ω2) bs_ω2)
    have smc_ω3 := z_at hω3 (zU_n' (by omega) smc_ω2)
    have stc_ω3 := z_at hω3 (zU_s _ _ _)
    refine z_aload_n (i := 0) (pc := 53) C rfl rfl dX2_work_53 ?_
    refine g_X2_14 (pc := 54) C w_ω3 rfl dX2_work_54 ?_
    refine z_iload_n (i := 3) (pc := 57) C rfl rfl dX2_work_57 ?_
    refine z_lconst (v := 1) (pc := 58) C (by decide +kernel) dX2_work_58 ?_
    refine z_aload_n (i := 0) (pc := 59) C rfl rfl dX2_work_59 ?_
    refine g_X2_14 (pc := 60) C w_ω3 rfl dX2_work_60 ?_
    refine z_iload_n (i := 3) (pc := 63) C rfl rfl dX2_work_63 ?_
    refine z_iconst (pc := 64) C dX2_work_64 ?_
    refine z_isub (pc := 65) C dX2_work_65 ?_
    refine z_ldc2 (a := 1000) (pc := 66) C (by decide +kernel) q_X2_47 dX2_work_66 ?_
    refine z_callVv (pc := 69) C (c_X4_combineB st_ω3 stc_ω3 ⟨⟨by decide, by decide⟩, ⟨by decide, by decide⟩, by omega, by omega⟩ (by omega) (by omega) (by omega) (fun k a b => ⟨hpv.1 k a b, (hV3.at (r := (u : Int) - 1) (by omega) (by omega)) k a b⟩) (by omega) (by omega)) k_X2_49 zy_X4_combine rfl rfl st_ω3 rfl rfl ⟨(Nat.le_of_ble_eq_true rfl), (Nat.le_of_ble_eq_true rfl)⟩ (Nat.le_of_ble_eq_true rfl) dX2_work_69 ⟨rfl, rfl⟩ ⟨(Nat.le_of_ble_eq_true rfl), (Nat.le_of_ble_eq_true rfl)⟩ (fun ω' hp => ?_)
    obtain ⟨g4, rfl, hg4⟩ := hp
    have hcv4 := zcomb_v hg4 hpv.2 (hV3.v (r := (u : Int) - 1) (by omega) (by omega)) (by omega)
    have hV4 := hV3.kp (by omega) hg4 (by omega)
    refine z_nm (fun ω4 hω4 => ?_)
    have w_ω4 := z_at hω4 (zU_n' (z_neOJ w_ω3 stc_ω3) w_ω3)
    have st_ω4 := z_at hω4 (zU_n' (z_neOJ st_ω3 stc_ω3) st_ω3)
    have sm_ω4 := z_at hω4 (zU_n' (z_neOJ sm_ω3 stc_ω3) sm_ω3)
    have pw_ω4 := z_at hω4 (zU_n' (z_neOJ pw_ω3 stc_ω3) pw_ω3)
    have pwc_ω4 := z_at hω4 (zU_n' (by omega) pwc_ω3)
    have rs_ω4 := z_at hω4 (zU_n' (z_neOJ rs_ω3 stc_ω3) rs_ω3)
    have rsc_ω4 := z_at hω4 (zU_n' (by omega) rsc_ω3)
    have b_ω4 := z_at hω4 (zU_n' (z_neOJ b_ω3 stc_ω3) b_ω3)
    have bs_ω4 := z_at hω4 (zU_n' (z_neIJ bs_ω3 stc_ω3) bs_ω3)
    have smc_ω4 := z_at hω4 (zU_n' (by omega) smc_ω3)
    have stc_ω4 := z_at hω4 (zU_s _ _ _)
    refine z_aload_n (i := 0) (pc := 72) C rfl rfl dX2_work_72 ?_
    refine g_X2_14 (pc := 73) C w_ω4 rfl dX2_work_73 ?_
    refine z_iload_n (i := 3) (pc := 76) C rfl rfl dX2_work_76 ?_
    refine z_lconst (v := 1) (pc := 77) C (by decide +kernel) dX2_work_77 ?_
    refine z_aload_n (i := 0) (pc := 78) C rfl rfl dX2_work_78 ?_
    refine g_X2_20 (pc := 79) C w_ω4 rfl dX2_work_79 ?_
    refine z_iconst (pc := 82) C dX2_work_82 ?_
    refine z_ldc2 (a := -1) (pc := 83) C (by decide +kernel) q_X2_53 dX2_work_83 ?_
    refine z_callVv (pc := 86) C (c_X4_combineA st_ω4 stc_ω4 ⟨⟨by decide, by decide⟩, ⟨by decide, by decide⟩, by omega, by omega⟩ sm_ω4 smc_ω4 ⟨⟨by decide, by decide⟩, ⟨by decide, by decide⟩, by omega, by omega⟩ rfl (by omega) (by omega) (by omega) (fun k a b => ⟨hcv4.1 k a b, (hSv.at (by omega) (by omega)) k a b⟩) (by omega) (by omega)) k_X2_49 zy_X4_combine rfl rfl st_ω4 rfl rfl ⟨(Nat.le_of_ble_eq_true rfl), (Nat.le_of_ble_eq_true rfl)⟩ (Nat.le_of_ble_eq_true rfl) dX2_work_86 ⟨rfl, rfl⟩ ⟨(Nat.le_of_ble_eq_true rfl), (Nat.le_of_ble_eq_true rfl)⟩ (fun ω' hp => ?_)
    obtain ⟨g5, rfl, hg5⟩ := hp
    have hcv5 := zcomb_v hg5 hcv4.2 (hSv.v (by omega) (by omega)) (by omega)
    have hV5 := hV4.kp (by omega) hg5 (by omega)
    refine z_nm (fun ω5 hω5 => ?_)
    have w_ω5 := z_at hω5 (zU_n' (z_neOJ w_ω4 stc_ω4) w_ω4)
    have st_ω5 := z_at hω5 (zU_n' (z_neOJ st_ω4 stc_ω4) st_ω4)
    have sm_ω5 := z_at hω5 (zU_n' (z_neOJ sm_ω4 stc_ω4) sm_ω4)
    have pw_ω5 := z_at hω5 (zU_n' (z_neOJ pw_ω4 stc_ω4) pw_ω4)
    have pwc_ω5 := z_at hω5 (zU_n' (by omega) pwc_ω4)
    have rs_ω5 := z_at hω5 (zU_n' (z_neOJ rs_ω4 stc_ω4) rs_ω4)
    have rsc_ω5 := z_at hω5 (zU_n' (by omega) rsc_ω4)
    have b_ω5 := z_at hω5 (zU_n' (z_neOJ b_ω4 stc_ω4) b_ω4)
    have bs_ω5 := z_at hω5 (zU_n' (z_neIJ bs_ω4 stc_ω4) bs_ω4)
    have smc_ω5 := z_at hω5 (zU_n' (by omega) smc_ω4)
    have stc_ω5 := z_at hω5 (zU_s _ _ _)
    refine z_aload_n (i := 0) (pc := 89) C rfl rfl dX2_work_89 ?_
    refine g_X2_23 (pc := 90) C w_ω5 rfl dX2_work_90 ?_
    refine z_iconst (pc := 93) C dX2_work_93 ?_
    refine z_aload_n (i := 1) (pc := 94) C rfl rfl dX2_work_94 ?_
    refine z_iconst (pc := 95) C dX2_work_95 ?_
    refine z_callVi (pc := 96) C (c_X0_read b_ω5 bs_ω5) k_X2_39 zy_X0_read rfl rfl b_ω5 rfl rfl ⟨(Nat.le_of_ble_eq_true rfl), (Nat.le_of_ble_eq_true rfl)⟩ (Nat.le_of_ble_eq_true rfl) dX2_work_96 ⟨rfl, rfl⟩ ⟨(Nat.le_of_ble_eq_true rfl), (Nat.le_of_ble_eq_true rfl)⟩ (fun rv ω' hp => ?_)
    obtain ⟨hw', rfl⟩ := hp
    rw [hw']
    refine z_i2l (pc := 99) C (hd := dX2_work_99) (k := ?_)
    refine z_lconst (v := 0) (pc := 100) C (by decide +kernel) dX2_work_100 ?_
    refine z_callVv (pc := 101) C (c_X4_times pw_ω5 pwc_ω5 ⟨⟨by decide, by decide⟩, ⟨by decide, by decide⟩, by omega, by omega⟩ (by omega) (hP.at (by omega) (by omega)) (by omega) (by omega)) k_X2_55 zy_X4_times rfl rfl pw_ω5 rfl rfl ⟨(Nat.le_of_ble_eq_true rfl), (Nat.le_of_ble_eq_true rfl)⟩ (Nat.le_of_ble_eq_true rfl) dX2_work_101 ⟨rfl, rfl⟩ ⟨(Nat.le_of_ble_eq_true rfl), (Nat.le_of_ble_eq_true rfl)⟩ (fun ω' hp => ?_)
    obtain ⟨g6, rfl, hg6⟩ := hp
    have htv := ztimes_v hg6 (hP.v (by omega) (by omega)) (by omega)
    refine z_iinc (i := 3) (lv' := [_, _, _, _]) (pc := 104) C rfl (by decide) rfl rfl dX2_work_104 ?_
    refine z_goto (tgt := 33) (pc := 107) C dX2_work_107 (by decide) ?_
    refine ih (u + 1) _ g5 gsm2 g6 grs (by omega) (by omega) (by rw [hω5, hω4, hω3, hω2]; exact ((((hout.u (by omega) (by omega)).u (by omega) (by omega)).u (by omega) (by omega)).u (by omega) (by omega)).u (by omega) (by omega)) ⟨(zU_n' (z_neOJ w_ω5 pwc_ω5) w_ω5), (zU_n' (z_neOJ st_ω5 pwc_ω5) st_ω5), (zU_n' (by omega) stc_ω5), (zU_n' (z_neOJ sm_ω5 pwc_ω5) sm_ω5), (zU_n' (by omega) smc_ω5), (zU_n' (z_neOJ pw_ω5 pwc_ω5) pw_ω5), (zU_s _ _ _), (zU_n' (z_neOJ rs_ω5 pwc_ω5) rs_ω5), (zU_n' (by omega) rsc_ω5)⟩ (hV5.ext ⟨hcv5.1, by rw [hcv5.2]; omega⟩) ((zRV1 htv).c (fun r _ _ => by rw [Int.add_zero, Int.pow_succ]))
set_option maxRecDepth 100000 in
set_option maxHeartbeats 4000000 in
theorem c_X2_work {l0 : Launch} {X : zX} {ω : zWd} {a b bs pu : Nat} {gst gsm gpw grs F D : Int → Int} (hW : zFv X ω a gst gsm gpw grs) (hb : ω.1 b = some (zOb 0 [.ref bs])) (hbc : ω.1 bs = some (zAI X 21 F)) (hF : zBk F) (ob1 : b < a ∨ a + 9 ≤ b) (ob2 : bs < a ∨ a + 9 ≤ bs) (hpu : pu ≤ 60) (hM : zst F 0 < 1000 ∧ 0 ≤ zst F 0) (hD0 : D 0 = 1000 - zst F 0) (hDs : ∀ u : Nat, 1 ≤ u → u ≤ pu → D u = D ((u : Int) - 1) * 1000 - zEs F D u) (hDb : ∀ u : Nat, u ≤ pu → 0 ≤ D u ∧ D u ≤ F 0 ^ (u + 1)) (hH : ∀ u : Nat, 1 ≤ u → u ≤ pu → ∀ q : Nat, q ≤ min u 20 → 0 ≤ zHo (fun j => D ((u : Int) - 1 - j) * F (j + 1)) (F 0) (min u 20) q ∧ zHo (fun j => D ((u : Int) - 1 - j) * F (j + 1)) (F 0) (min u 20) q < zL ^ 16) : zMet l0 yX2_work cX2_work 4 none rmX2_work X [.ref a, .ref b, .int (zI (pu : Int))] ω (zpv (fun w => ∃ gst2 gsm2 gpw2 grs2, zOut a (a + 9) ω w ∧ zFv X w a gst2 gsm2 gpw2 grs2 ∧ zRV gpw2 16 1 (fun _ => F 0 ^ (pu + 1)) ∧ zRV grs2 16 1 (fun _ => F 0 ^ (pu + 1) - D pu))) := by
  refine zMet.intro (by decide) (Nat.le_of_ble_eq_true rfl) ?_
  intro Γ C E N
  show Zw Γ ω 0 0 0 [some _, some _, some _, none] []
  obtain ⟨hw, hst, hstc, hsm, hsmc, hpw, hpwc, hrs, hrsc⟩ := hW
  have hf0 := hF 0 (by omega) (by omega)
  have hzL : zL = 1000000000000 := rfl
  refine z_aload_n (i := 0) (pc := 0) C rfl rfl dX2_work_0 ?_
  refine g_X2_14 (pc := 1) C hw rfl dX2_work_1 ?_
  refine z_iconst (pc := 4) C dX2_work_4 ?_
  refine z_sipush (pc := 5) C (by decide +kernel) dX2_work_5 ?_
  refine z_aload_n (i := 1) (pc := 8) C rfl rfl dX2_work_8 ?_
  refine z_callVi (pc := 9) C (c_X0_mean hb hbc) k_X2_29 zy_X0_mean rfl rfl hb rfl rfl ⟨(Nat.le_of_ble_eq_true rfl), (Nat.le_of_ble_eq_true rfl)⟩ (Nat.le_of_ble_eq_true rfl) dX2_work_9 ⟨rfl, rfl⟩ ⟨(Nat.le_of_ble_eq_true rfl), (Nat.le_of_ble_eq_true rfl)⟩ (fun rv ω' hp => ?_)
  obtain ⟨hw', rfl⟩ := hp
  rw [hw']
  refine z_isub (pc := 12) C dX2_work_12 ?_
  refine z_i2l (pc := 13) C (hd := dX2_work_13) (k := ?_)
  refine z_callVv (pc := 14) C (c_X4_put hst hstc ⟨⟨by decide, by decide⟩, ⟨by decide, by decide⟩, by omega, by omega⟩) k_X2_35 zy_X4_put rfl rfl hst rfl rfl ⟨(Nat.le_of_ble_eq_true rfl), (Nat.le_of_ble_eq_true rfl)⟩ (Nat.le_of_ble_eq_true rfl) dX2_work_14 ⟨rfl, rfl⟩ ⟨(Nat.le_of_ble_eq_true rfl), (Nat.le_of_ble_eq_true rfl)⟩ (fun ω' hp => ?_)
  obtain ⟨g2, rfl, hg2⟩ := hp
  have hpv := zput_v (by decide) hg2 (by omega)
  refine z_nm (fun ω2 hω2 => ?_)
  have w_ω2 := z_at hω2 (zU_n' (z_neOJ hw hstc) hw)
  have st_ω2 := z_at hω2 (zU_n' (z_neOJ hst hstc) hst)
  have sm_ω2 := z_at hω2 (zU_n' (z_neOJ hsm hstc) hsm)
  have smc_ω2 := z_at hω2 (zU_n' (by omega) hsmc)
  have pw_ω2 := z_at hω2 (zU_n' (z_neOJ hpw hstc) hpw)
  have pwc_ω2 := z_at hω2 (zU_n' (by omega) hpwc)
  have rs_ω2 := z_at hω2 (zU_n' (z_neOJ hrs hstc) hrs)
  have rsc_ω2 := z_at hω2 (zU_n' (by omega) hrsc)
  have b_ω2 := z_at hω2 (zU_n' (z_neOJ hb hstc) hb)
  have bs_ω2 := z_at hω2 (zU_n' (z_neIJ hbc hstc) hbc)
  have stc_ω2 := z_at hω2 (zU_s _ _ _)
  refine z_aload_n (i := 0) (pc := 17) C rfl rfl dX2_work_17 ?_
  refine g_X2_23 (pc := 18) C w_ω2 rfl dX2_work_18 ?_
  refine z_iconst (pc := 21) C dX2_work_21 ?_
  refine z_aload_n (i := 1) (pc := 22) C rfl rfl dX2_work_22 ?_
  refine z_iconst (pc := 23) C dX2_work_23 ?_
  refine z_callVi (pc := 24) C (c_X0_read b_ω2 bs_ω2) k_X2_39 zy_X0_read rfl rfl b_ω2 rfl rfl ⟨(Nat.le_of_ble_eq_true rfl), (Nat.le_of_ble_eq_true rfl)⟩ (Nat.le_of_ble_eq_true rfl) dX2_work_24 ⟨rfl, rfl⟩ ⟨(Nat.le_of_ble_eq_true rfl), (Nat.le_of_ble_eq_true rfl)⟩ (fun rv ω' hp => ?_)
  obtain ⟨hw', rfl⟩ := hp
  rw [hw']
  refine z_i2l (pc := 27) C (hd := dX2_work_27) (k := ?_)
  refine z_callVv (pc := 28) C (c_X4_put pw_ω2 pwc_ω2 ⟨⟨by decide, by decide⟩, ⟨by decide, by decide⟩, by omega, by omega⟩) k_X2_35 zy_X4_put rfl rfl pw_ω2 rfl rfl ⟨(Nat.le_of_ble_eq_true rfl), (Nat.le_of_ble_eq_true rfl)⟩ (Nat.le_of_ble_eq_true rfl) dX2_work_28 ⟨rfl, rfl⟩ ⟨(Nat.le_of_ble_eq_true rfl), (Nat.le_of_ble_eq_true rfl)⟩ (fun ω' hp => ?_)
  obtain ⟨g3, rfl, hg3⟩ := hp
  have hpv3 := zput_v (by decide) hg3 (by omega)
  refine z_iconst (pc := 31) C dX2_work_31 ?_
  refine z_istore_n (i := 3) (lv' := [_, _, _, _]) (pc := 32) C rfl (by decide) rfl rfl dX2_work_32 ?_
  exact lp_X2_work C E hb hbc hF ob1 ob2 hpu hM hD0 hDs hDb hH pu 1 _ g2 gsm g3 grs (by omega) (by omega) (by rw [hω2]; exact (zOut.rf.u (by omega) (by omega)).u (by omega) (by omega)) ⟨(zU_n' (z_neOJ w_ω2 pwc_ω2) w_ω2), (zU_n' (z_neOJ st_ω2 pwc_ω2) st_ω2), (zU_n' (by omega) stc_ω2), (zU_n' (z_neOJ sm_ω2 pwc_ω2) sm_ω2), (zU_n' (by omega) smc_ω2), (zU_n' (z_neOJ pw_ω2 pwc_ω2) pw_ω2), (zU_s _ _ _), (zU_n' (z_neOJ rs_ω2 pwc_ω2) rs_ω2), (zU_n' (by omega) rsc_ω2)⟩ ((zRV1 hpv).c (fun r a b => by rw [show r = 0 by omega, hD0])) ((zRV1 hpv3).c (fun r _ _ => by rw [Int.pow_succ, Int.pow_zero, Int.one_mul]))
