/-- a world gets a name -/
theorem z_nm {Γ : zG} {ω : zWd} {cells slots pc : Nat} {lv : List (Option Value)} {st : List Value} (h : ∀ ω2, ω2 = ω → Zw Γ ω2 cells slots pc lv st) : Zw Γ ω cells slots pc lv st := h ω rfl
theorem z_at {ω ω2 : zWd} (h : ω2 = ω) {a : Nat} {y : Option va_E} (t : ω.1 a = y) : ω2.1 a = y := by rw [h]; exact t
/-! THE WALK: eleven cells from a on: the object, claims (a + 1, a + 2), fallen (a + 3, a + 4), sum (a + 5, a + 6), now and next (a + 7 .. a + 10, in either order) -/
def zStp (wt : Int → Int) (p : Int) (Av : Int → Int) : Int → Int := fun v => if v < 0 then 0 else zs (fun s => wt s * Av (v - p + s)) 41
def zFal (wt : Int → Int) (p : Int) (Av : Int → Int) (d : Int) : Int := zs (fun s => wt s * Av (-d - p + s)) 41
theorem zsum_b {wt Av φ : Int → Int} {n cp : Nat} (hw : ∀ s : Int, 0 ≤ s → s < 41 → 0 ≤ wt s) (hs : zs wt 41 = 10 ^ cp) (hA : ∀ v, 0 ≤ Av v ∧ Av v ≤ 10 ^ n) : 0 ≤ zs (fun s => wt s * Av (φ s)) 41 ∧ zs (fun s => wt s * Av (φ s)) 41 ≤ 10 ^ (n + cp) := by
  have h := zs_m (w := wt) (S := fun s => Av (φ s)) (B := 10 ^ n) (n := 41) (fun k a b => ⟨hw k a (by omega), hA _⟩)
  rw [hs, ← Int.pow_add, Nat.add_comm] at h
  exact h
theorem zmx {gn wt Av : Int → Int} {un T fr : Int} {mn n : Nat} (hV : zRV gn 11 un Av) (hU : zUp gn 11 256 ((n / 12 + 1 : Nat) : Int)) (hu : un ≤ 256) (hm : n / 12 + 1 ≤ mn) (hm2 : mn ≤ 11) (hT : 0 ≤ T ∧ T < 41) (hw0 : ∀ s : Int, 0 ≤ s → s < 41 → T < s → wt s = 0) (hz : ∀ s : Int, 0 ≤ s → s ≤ T → ¬ (0 ≤ fr + s ∧ fr + s < un) → Av (fr + s) = 0) :
    zv zL (fun k => zs (fun s => wt s * zSr gn ((11 : Nat) : Int) un (fr + 1 * s) k) (T.toNat + 1)) mn = zs (fun s => wt s * Av (fr + s)) 41 := by
  rw [zv_zs, zs_z (n := 41) (m := T.toNat + 1) (by omega) (fun k a b => by rw [hw0 k (by omega) b (by omega), Int.zero_mul])]
  refine zs_c (fun s a b => ?_)
  congr 1
  rw [Int.one_mul]
  unfold zSr
  by_cases h : 0 ≤ fr + s ∧ fr + s < un
  · simp only [h, and_self, if_true]
    rw [← hV.v h.1 h.2]
    exact (zv_z (n := 11) hm2 (fun k k0 k1 => hU (fr + s) k h.1 (by omega) (by omega) k1)).symm
  · rw [hz s a (by omega) h]
    exact zv_0 (fun k _ _ => if_neg h)
/-- limbs enough -/
theorem zlim (n cp : Nat) : ((10 : Int) ^ (n + cp)) < zL ^ ((n + cp) / 12 + 1) := by
  rw [zL_pow]
  exact zp10l (by omega)
set_option maxRecDepth 100000 in
set_option maxHeartbeats 4000000 in
theorem c_X5_nextLimbs {l0 : Launch} {X : zX} {ω : zWd} {a rn rx : Nat} {p l R T Wh : Int} {n cp : Nat} (hw : ω.1 a = some (zOb 5 [.ref (a + 1), .ref (a + 3), .ref (a + 5), .ref rn, .ref rx, .int (zI p), .int (zI l), .int (zI R), .int (zI (n : Int))])) (hq : ω.1 (a + 1) = some (zOb 1 [.ref (a + 2), .int (zI T), .long (zJ Wh), .int (zI (cp : Int))])) (hnc2 : n + cp ≤ 120) : zMet l0 yX5_nextLimbs cX5_nextLimbs 1 (some .int) rmX5_nextLimbs X [.ref a] ω (zpi (fun r w => w = ω ∧ r = (((n + cp) / 12 + 1 : Nat) : Int))) := by
  refine zMet.intro (by decide) (Nat.le_of_ble_eq_true rfl) ?_
  intro Γ C E N
  show Zw Γ ω 0 0 0 [some _] []
  refine z_aload_n (i := 0) (pc := 0) C rfl rfl dX5_nextLimbs_0 ?_
  refine g_X5_46 (pc := 1) C hw rfl dX5_nextLimbs_1 ?_
  refine z_aload_n (i := 0) (pc := 4) C rfl rfl dX5_nextLimbs_4 ?_
  refine g_X5_12 (pc := 5) C hw rfl dX5_nextLimbs_5 ?_
  refine g_X5_74 (pc := 8) C hq rfl dX5_nextLimbs_8 ?_
  refine z_iadd (pc := 11) C dX5_nextLimbs_11 ?_
  refine z_bipush (pc := 12) C (by decide +kernel) dX5_nextLimbs_12 ?_
  refine z_idiv (pc := 14) C (hd := dX5_nextLimbs_14) (k := ?_)
  refine z_iconst (pc := 15) C dX5_nextLimbs_15 ?_
  refine z_iadd (pc := 16) C dX5_nextLimbs_16 ?_
  exact z_iret (pc := 17) C E dX5_nextLimbs_17 ⟨_, rfl, ⟨rfl, by omega⟩⟩
theorem z_lt {l d : Int} (hl : 0 ≤ l ∧ l ≤ 40) (hd : -41 ≤ d ∧ d ≤ 41) : -1640 ≤ l * d ∧ l * d ≤ 1640 := by
  have h1 : l * d ≤ l * 41 := Int.mul_le_mul_of_nonneg_left hd.2 hl.1
  have h2 : l * (-41) ≤ l * d := Int.mul_le_mul_of_nonneg_left hd.1 hl.1
  omega
set_option maxRecDepth 100000 in
set_option maxHeartbeats 4000000 in
theorem c_X5_liveRows {l0 : Launch} {X : zX} {ω : zWd} {a rn rx : Nat} {p l R T Wh : Int} {n cp : Nat} (hw : ω.1 a = some (zOb 5 [.ref (a + 1), .ref (a + 3), .ref (a + 5), .ref rn, .ref rx, .int (zI p), .int (zI l), .int (zI R), .int (zI (n : Int))])) (hq : ω.1 (a + 1) = some (zOb 1 [.ref (a + 2), .int (zI T), .long (zJ Wh), .int (zI (cp : Int))])) (hp0 : 0 ≤ p ∧ p ≤ 20) (hl : 0 ≤ l ∧ l ≤ 40) (hR : 0 ≤ R ∧ R ≤ 100000) (hT : 0 ≤ T ∧ T < 41) : zMet l0 yX5_liveRows cX5_liveRows 1 (some .int) rmX5_liveRows X [.ref a] ω (zpi (fun r w => w = ω ∧ r = min (R + 1) (l * (T - p)))) := by
  refine zMet.intro (by decide) (Nat.le_of_ble_eq_true rfl) ?_
  intro Γ C E N
  show Zw Γ ω 0 0 0 [some _] []
  have hb := z_lt (l := l) (d := T - p) hl (by omega)
  refine z_aload_n (i := 0) (pc := 0) C rfl rfl dX5_liveRows_0 ?_
  refine g_X5_43 (pc := 1) C hw rfl dX5_liveRows_1 ?_
  refine z_iconst (pc := 4) C dX5_liveRows_4 ?_
  refine z_iadd (pc := 5) C dX5_liveRows_5 ?_
  refine z_aload_n (i := 0) (pc := 6) C rfl rfl dX5_liveRows_6 ?_
  refine g_X5_40 (pc := 7) C hw rfl dX5_liveRows_7 ?_
  refine z_aload_n (i := 0) (pc := 10) C rfl rfl dX5_liveRows_10 ?_
  refine g_X5_12 (pc := 11) C hw rfl dX5_liveRows_11 ?_
  refine g_X5_83 (pc := 14) C hq rfl dX5_liveRows_14 ?_
  refine z_aload_n (i := 0) (pc := 17) C rfl rfl dX5_liveRows_17 ?_
  refine g_X5_36 (pc := 18) C hw rfl dX5_liveRows_18 ?_
  refine z_isub (pc := 21) C dX5_liveRows_21 ?_
  refine z_imul (pc := 22) C dX5_liveRows_22 ?_
  refine z_callSi (pc := 23) C (c_J9_min_7cf53) k_X5_96 zy_J9_min_7cf53.2 rfl rfl ⟨(Nat.le_of_ble_eq_true rfl), (Nat.le_of_ble_eq_true rfl)⟩ (Nat.le_of_ble_eq_true rfl) dX5_liveRows_23 ⟨rfl, rfl⟩ ⟨(Nat.le_of_ble_eq_true rfl), (Nat.le_of_ble_eq_true rfl)⟩ (fun rv ω' hp => ?_)
  obtain ⟨rfl, rfl⟩ := hp
  exact z_iret (pc := 26) C E dX5_liveRows_26 ⟨_, rfl, ⟨rfl, rfl⟩⟩
set_option maxRecDepth 100000 in
set_option maxHeartbeats 4000000 in
theorem c_X5_fall {l0 : Launch} {X : zX} {ω : zWd} {a rn rx : Nat} {p l R T Wh un : Int} {n cp : Nat} {wt gf gn Av : Int → Int} {d : Int} (hw : ω.1 a = some (zOb 5 [.ref (a + 1), .ref (a + 3), .ref (a + 5), .ref rn, .ref rx, .int (zI p), .int (zI l), .int (zI R), .int (zI (n : Int))])) (hN : (rn = a + 7 ∧ rx = a + 9) ∨ (rn = a + 9 ∧ rx = a + 7)) (hq : ω.1 (a + 1) = some (zOb 1 [.ref (a + 2), .int (zI T), .long (zJ Wh), .int (zI (cp : Int))])) (he : ω.1 (a + 2) = some (zAJ X 41 wt)) (hf : ω.1 (a + 3) = some (zOb 4 [.int (zI ((1 : Nat) : Int)), .int (zI ((11 : Nat) : Int)), .ref (a + 4), .int (zI 1)])) (hfc : ω.1 (a + 4) = some (zAJ X (1 * 11) gf)) (hn : ω.1 rn = some (zOb 4 [.int (zI ((256 : Nat) : Int)), .int (zI ((11 : Nat) : Int)), .ref (rn + 1), .int (zI un)])) (hnc : ω.1 (rn + 1) = some (zAJ X (256 * 11) gn)) (hp0 : 0 ≤ p ∧ p ≤ 20) (hl : 0 ≤ l ∧ l ≤ 40) (hR : 0 ≤ R ∧ R ≤ 1000) (hT : 0 ≤ T ∧ T < 41) (hnc2 : n + cp ≤ 120) (hwt : ∀ s : Int, 0 ≤ s → s < 41 → 0 ≤ wt s) (hw0 : ∀ s : Int, 0 ≤ s → s < 41 → T < s → wt s = 0) (hsum : zs wt 41 = 10 ^ cp) (hcp : cp ≤ 6) (hA : ∀ v, 0 ≤ Av v ∧ Av v ≤ 10 ^ n) (hA0 : ∀ v : Int, (v < 0 ∨ R + 1 ≤ v) → Av v = 0) (hV : zRV gn 11 un Av) (hUn : zUp gn 11 256 ((n / 12 + 1 : Nat) : Int)) (hU : un = max (min (R + 1) (l * (T - p))) 0) (hu : 0 ≤ un ∧ un ≤ 256) (hUf : zUp gf 11 1 (((n + cp) / 12 + 1 : Nat) : Int)) (hd : 1 ≤ d ∧ d ≤ 100) (hl1 : 1 ≤ l) : zMet l0 yX5_fall cX5_fall 2 none rmX5_fall X [.ref a, .int (zI d)] ω (zpv (fun w => ∃ gf2, w = zU ω (a + 4) (zAJ X (1 * 11) gf2) ∧ zUp gf2 11 1 (((n + cp) / 12 + 1 : Nat) : Int) ∧ zRV gf2 11 1 (fun _ => zFal wt p Av d))) := by
  refine zMet.intro (by decide) (Nat.le_of_ble_eq_true rfl) ?_
  intro Γ C E N
  show Zw Γ ω 0 0 0 [some _, some _] []
  have hz : ∀ s : Int, 0 ≤ s → s ≤ T → ¬ (0 ≤ -d - p + s ∧ -d - p + s < un) → Av (-d - p + s) = 0 := by
    intro s s0 s1 hno
    by_cases h1 : -d - p + s < 0
    · exact hA0 _ (Or.inl h1)
    · have h2 : 1 * (T - p) ≤ l * (T - p) := Int.mul_le_mul_of_nonneg_right hl1 (by omega)
      exact hA0 _ (Or.inr (by omega))
  have hmm : n / 12 + 1 ≤ (n + cp) / 12 + 1 := by have := Nat.div_le_div_right (c := 12) (Nat.le_add_right n cp); omega
  have hm11 : (n + cp) / 12 + 1 ≤ 11 := by omega
  have htot := zmx (wt := wt) (T := T) (fr := -d - p) (mn := (n + cp) / 12 + 1) (n := n) hV hUn hu.2 hmm hm11 hT hw0 hz
  have hbd := zsum_b (φ := fun s => -d - p + s) hwt hsum hA
  have hlim := zlim n cp
  have hsum2 : zs wt (T.toNat + 1) ≤ 1000000 := by
    rw [← zs_z (n := 41) (by omega) (fun k a b => hw0 k (by omega) b (by omega)), hsum]
    exact zp10 (m := cp) (n := 6) hcp
  refine z_aload_n (i := 0) (pc := 0) C rfl rfl dX5_fall_0 ?_
  refine g_X5_23 (pc := 1) C hw rfl dX5_fall_1 ?_
  refine z_iconst (pc := 4) C dX5_fall_4 ?_
  refine z_aload_n (i := 0) (pc := 5) C rfl rfl dX5_fall_5 ?_
  refine g_X5_30 (pc := 6) C hw rfl dX5_fall_6 ?_
  refine z_iload_n (i := 1) (pc := 9) C rfl rfl dX5_fall_9 ?_
  refine z_ineg (pc := 10) C dX5_fall_10 ?_
  refine z_aload_n (i := 0) (pc := 11) C rfl rfl dX5_fall_11 ?_
  refine g_X5_36 (pc := 12) C hw rfl dX5_fall_12 ?_
  refine z_isub (pc := 15) C dX5_fall_15 ?_
  refine z_iconst (pc := 16) C dX5_fall_16 ?_
  refine z_aload_n (i := 0) (pc := 17) C rfl rfl dX5_fall_17 ?_
  refine g_X5_12 (pc := 18) C hw rfl dX5_fall_18 ?_
  refine z_aload_n (i := 0) (pc := 21) C rfl rfl dX5_fall_21 ?_
  refine z_callVi (pc := 22) C (c_X5_nextLimbs hw hq hnc2) k_X5_64 zy_X5_nextLimbs rfl rfl hw rfl rfl ⟨(Nat.le_of_ble_eq_true rfl), (Nat.le_of_ble_eq_true rfl)⟩ (Nat.le_of_ble_eq_true rfl) dX5_fall_22 ⟨rfl, rfl⟩ ⟨(Nat.le_of_ble_eq_true rfl), (Nat.le_of_ble_eq_true rfl)⟩ (fun rv ω' hp => ?_)
  obtain ⟨rfl, rfl⟩ := hp
  refine z_callVv (pc := 25) C (c_X4_mix (mn := (n + cp) / 12 + 1) hf hfc ⟨⟨by decide, by decide⟩, ⟨by decide, by decide⟩, by omega, by omega⟩ hn hnc ⟨⟨by decide, by decide⟩, ⟨by decide, by decide⟩, by omega, by omega⟩ hq he hT (by omega) (by omega) (by omega) (by omega) (by omega) (by omega) (Or.inl rfl) (by omega) hwt hsum2 (fun rr k a b c d => (hV.at a b) k c d)) k_X5_67 zy_X4_mix rfl rfl hf rfl rfl ⟨(Nat.le_of_ble_eq_true rfl), (Nat.le_of_ble_eq_true rfl)⟩ (Nat.le_of_ble_eq_true rfl) dX5_fall_25 ⟨rfl, rfl⟩ ⟨(Nat.le_of_ble_eq_true rfl), (Nat.le_of_ble_eq_true rfl)⟩ (fun ω' hp => ?_)
  obtain ⟨gf2, rfl, hg2⟩ := hp
  have hmv := zmix_v (h := 1) hg2 (by omega) (by omega) hUf (by rw [htot]; omega)
  rw [htot] at hmv
  exact z_vret (pc := 28) C E dX5_fall_28 ⟨rfl, ⟨gf2, rfl, hUf.set (by omega) hg2, fun r a b => by rw [show r = 0 by omega]; exact hmv⟩⟩
set_option maxRecDepth 100000 in
set_option maxHeartbeats 4000000 in
theorem lp_X5_tick {Γ : zG} {l0 : Launch} {X : zX} {ω : zWd} {a rn rx : Nat} {p T Wh un ux : Int} {n cp : Nat} {wt gn gx Av : Int → Int} {l2 R2 : Int} (C : Zc Γ l0 X rmX5_tick 3 cX5_tick RX5) (hw : ω.1 a = some (zOb 5 [.ref (a + 1), .ref (a + 3), .ref (a + 5), .ref rn, .ref rx, .int (zI p), .int (zI l2), .int (zI R2), .int (zI (n : Int))])) (hN : (rn = a + 7 ∧ rx = a + 9) ∨ (rn = a + 9 ∧ rx = a + 7)) (hq : ω.1 (a + 1) = some (zOb 1 [.ref (a + 2), .int (zI T), .long (zJ Wh), .int (zI (cp : Int))])) (he : ω.1 (a + 2) = some (zAJ X 41 wt)) (hn : ω.1 rn = some (zOb 4 [.int (zI ((256 : Nat) : Int)), .int (zI ((11 : Nat) : Int)), .ref (rn + 1), .int (zI un)])) (hnc : ω.1 (rn + 1) = some (zAJ X (256 * 11) gn)) (hx : ω.1 rx = some (zOb 4 [.int (zI ((256 : Nat) : Int)), .int (zI ((11 : Nat) : Int)), .ref (rx + 1), .int (zI ux)])) (hxc : ω.1 (rx + 1) = some (zAJ X (256 * 11) gx)) (hp0 : 0 ≤ p ∧ p ≤ 20) (hT : 0 ≤ T ∧ T < 41) (hnc2 : n + cp ≤ 120) (hwt : ∀ s : Int, 0 ≤ s → s < 41 → 0 ≤ wt s) (hw0 : ∀ s : Int, 0 ≤ s → s < 41 → T < s → wt s = 0) (hsum : zs wt 41 = 10 ^ cp) (hcp : cp ≤ 6) (hA : ∀ v, 0 ≤ Av v ∧ Av v ≤ 10 ^ n) (hV : zRV gn 11 un Av) (hUn : zUp gn 11 256 ((n / 12 + 1 : Nat) : Int)) (hu : 0 ≤ un ∧ un ≤ 256) (hu2 : 0 ≤ ux ∧ ux ≤ 256) (hz : ∀ v : Int, 0 ≤ v → v < ux → ∀ s : Int, 0 ≤ s → s ≤ T → ¬ (0 ≤ v - p + s ∧ v - p + s < un) → Av (v - p + s) = 0) (K : ∀ gi : Int → Int, zRV gi 11 ux (zStp wt p Av) → zUp gi 11 256 (((n + cp) / 12 + 1 : Nat) : Int) → Zw Γ (zU ω (rx + 1) (zAJ X (256 * 11) gi)) 0 0 82 [some (.ref a), some (.int (zI (((n + cp) / 12 + 1 : Nat) : Int))), some (.int (zI ux))] []) : ∀ (j i : Nat) (gi : Int → Int), (i : Int) + j = ux → (∀ r : Int, 0 ≤ r → r < (i : Int) → (∀ k : Int, 0 ≤ k → k < ((11 : Nat) : Int) → 0 ≤ gi (r * ((11 : Nat) : Int) + k) ∧ gi (r * ((11 : Nat) : Int) + k) < zL) ∧ zv zL (fun k => gi (r * ((11 : Nat) : Int) + k)) 11 = zStp wt p Av r) → zUp gi 11 256 (((n + cp) / 12 + 1 : Nat) : Int) → Zw Γ (zU ω (rx + 1) (zAJ X (256 * 11) gi)) 0 0 41 [some (.ref a), some (.int (zI (((n + cp) / 12 + 1 : Nat) : Int))), some (.int (zI ((i : Nat) : Int)))] [] := by
  intro j
  induction j with
  | zero =>
    intro i gi hj hg hup
    have e1 : ((i : Nat) : Int) = ux := by omega
    rw [e1] at hg ⊢
    refine z_iload_n (i := 2) (pc := 41) C rfl rfl dX5_tick_41 ?_
    refine z_aload_n (i := 0) (pc := 42) C rfl rfl dX5_tick_42 ?_
    refine g_X5_33 (pc := 43) C (zU_n' (z_neOJ hw hxc) hw) rfl dX5_tick_43 ?_
    refine g_X5_71 (pc := 46) C (zU_n' (z_neOJ hx hxc) hx) rfl dX5_tick_46 ?_
    refine z_icmp_ge (tgt := 82) (pc := 49) C dX5_tick_49 (by decide) (fun h49 => ?_) (fun h49 => absurd h49 (by omega))
    exact K gi hg hup
  | succ j ih =>
    intro i gi hj hg hup
    have hmm : n / 12 + 1 ≤ (n + cp) / 12 + 1 := by have := Nat.div_le_div_right (c := 12) (Nat.le_add_right n cp); omega
    have hm11 : (n + cp) / 12 + 1 ≤ 11 := by omega
    have htot := zmx (wt := wt) (T := T) (fr := (i : Int) - p) (mn := (n + cp) / 12 + 1) (n := n) hV hUn hu.2 hmm hm11 hT hw0 (hz i (by omega) (by omega))
    have hbd := zsum_b (φ := fun s => (i : Int) - p + s) hwt hsum hA
    have hlim := zlim n cp
    have hsum2 : zs wt (T.toNat + 1) ≤ 1000000 := by
      rw [← zs_z (n := 41) (by omega) (fun k a b => hw0 k (by omega) b (by omega)), hsum]
      exact zp10 (m := cp) (n := 6) hcp
    refine z_iload_n (i := 2) (pc := 41) C rfl rfl dX5_tick_41 ?_
    refine z_aload_n (i := 0) (pc := 42) C rfl rfl dX5_tick_42 ?_
    refine g_X5_33 (pc := 43) C (zU_n' (z_neOJ hw hxc) hw) rfl dX5_tick_43 ?_
    refine g_X5_71 (pc := 46) C (zU_n' (z_neOJ hx hxc) hx) rfl dX5_tick_46 ?_
    refine z_icmp_ge (tgt := 82) (pc := 49) C dX5_tick_49 (by decide) (fun h49 => absurd h49 (by omega)) (fun h49 => ?_)
    refine z_aload_n (i := 0) (pc := 52) C rfl rfl dX5_tick_52 ?_
    refine g_X5_33 (pc := 53) C (zU_n' (z_neOJ hw hxc) hw) rfl dX5_tick_53 ?_
    refine z_iload_n (i := 2) (pc := 56) C rfl rfl dX5_tick_56 ?_
    refine z_aload_n (i := 0) (pc := 57) C rfl rfl dX5_tick_57 ?_
    refine g_X5_30 (pc := 58) C (zU_n' (z_neOJ hw hxc) hw) rfl dX5_tick_58 ?_
    refine z_iload_n (i := 2) (pc := 61) C rfl rfl dX5_tick_61 ?_
    refine z_aload_n (i := 0) (pc := 62) C rfl rfl dX5_tick_62 ?_
    refine g_X5_36 (pc := 63) C (zU_n' (z_neOJ hw hxc) hw) rfl dX5_tick_63 ?_
    refine z_isub (pc := 66) C dX5_tick_66 ?_
    refine z_iconst (pc := 67) C dX5_tick_67 ?_
    refine z_aload_n (i := 0) (pc := 68) C rfl rfl dX5_tick_68 ?_
    refine g_X5_12 (pc := 69) C (zU_n' (z_neOJ hw hxc) hw) rfl dX5_tick_69 ?_
    refine z_iload_n (i := 1) (pc := 72) C rfl rfl dX5_tick_72 ?_
    refine z_callVv (pc := 73) C (c_X4_mix (mn := (n + cp) / 12 + 1) (zU_n' (z_neOJ hx hxc) hx) (zU_s _ _ _) ⟨⟨by decide, by decide⟩, ⟨by decide, by decide⟩, by omega, by omega⟩ (zU_n' (z_neOJ hn hxc) hn) (zU_n' (by omega) hnc) ⟨⟨by decide, by decide⟩, ⟨by decide, by decide⟩, by omega, by omega⟩ (zU_n' (z_neOJ hq hxc) hq) (zU_n' (by omega) he) hT (by omega) (by omega) (by omega) (by omega) (by omega) (by omega) (Or.inl rfl) (by omega) hwt hsum2 (fun rr k a b c d => (hV.at a b) k c d)) k_X5_67 zy_X4_mix rfl rfl (zU_n' (z_neOJ hx hxc) hx) rfl rfl ⟨(Nat.le_of_ble_eq_true rfl), (Nat.le_of_ble_eq_true rfl)⟩ (Nat.le_of_ble_eq_true rfl) dX5_tick_73 ⟨rfl, rfl⟩ ⟨(Nat.le_of_ble_eq_true rfl), (Nat.le_of_ble_eq_true rfl)⟩ (fun ω' hp => ?_)
    obtain ⟨g3, rfl, hg3⟩ := hp
    have hmv := zmix_v (h := 256) hg3 (by omega) (by omega) (hup) (by rw [htot]; omega)
    rw [htot] at hmv
    rw [zU_u]
    refine z_iinc (i := 2) (lv' := [_, _, _]) (pc := 76) C rfl (by decide) rfl rfl dX5_tick_76 ?_
    refine z_goto (tgt := 41) (pc := 79) C dX5_tick_79 (by decide) ?_
    refine ih (i + 1) g3 (by omega) (fun r a b => ?_) (hup.set (by omega) hg3)
    by_cases e2 : r = i
    · subst e2
      refine ⟨hmv.1, hmv.2.trans ?_⟩
      unfold zStp
      rw [if_neg (by omega)]
    · obtain ⟨q1, q2⟩ := hg r a (by omega)
      refine ⟨fun k k0 k1 => by rw [zRS_out hg3 (by omega) e2 k0 k1]; exact q1 k k0 k1, ?_⟩
      rw [← q2]
      exact zv_c (fun k k0 k1 => zRS_out hg3 (by omega) e2 k0 k1)
set_option maxRecDepth 100000 in
set_option maxHeartbeats 4000000 in
theorem c_X5_tick {l0 : Launch} {X : zX} {ω : zWd} {a rn rx : Nat} {p l R T Wh un ux : Int} {n cp : Nat} {wt gn gx Av : Int → Int} (hw : ω.1 a = some (zOb 5 [.ref (a + 1), .ref (a + 3), .ref (a + 5), .ref rn, .ref rx, .int (zI p), .int (zI l), .int (zI R), .int (zI (n : Int))])) (hN : (rn = a + 7 ∧ rx = a + 9) ∨ (rn = a + 9 ∧ rx = a + 7)) (hq : ω.1 (a + 1) = some (zOb 1 [.ref (a + 2), .int (zI T), .long (zJ Wh), .int (zI (cp : Int))])) (he : ω.1 (a + 2) = some (zAJ X 41 wt)) (hn : ω.1 rn = some (zOb 4 [.int (zI ((256 : Nat) : Int)), .int (zI ((11 : Nat) : Int)), .ref (rn + 1), .int (zI un)])) (hnc : ω.1 (rn + 1) = some (zAJ X (256 * 11) gn)) (hx : ω.1 rx = some (zOb 4 [.int (zI ((256 : Nat) : Int)), .int (zI ((11 : Nat) : Int)), .ref (rx + 1), .int (zI ux)])) (hxc : ω.1 (rx + 1) = some (zAJ X (256 * 11) gx)) (hp0 : 0 ≤ p ∧ p ≤ 20) (hl : 0 ≤ l ∧ l ≤ 40) (hR : 0 ≤ R ∧ R ≤ 1000) (hT : 0 ≤ T ∧ T < 41) (hnc2 : n + cp ≤ 120) (hwt : ∀ s : Int, 0 ≤ s → s < 41 → 0 ≤ wt s) (hw0 : ∀ s : Int, 0 ≤ s → s < 41 → T < s → wt s = 0) (hsum : zs wt 41 = 10 ^ cp) (hcp : cp ≤ 6) (hA : ∀ v, 0 ≤ Av v ∧ Av v ≤ 10 ^ n) (hA0 : ∀ v : Int, (v < 0 ∨ R + 1 ≤ v) → Av v = 0) (hV : zRV gn 11 un Av) (hUn : zUp gn 11 256 ((n / 12 + 1 : Nat) : Int)) (hU : un = max (min (R + 1) (l * (T - p))) 0) (hu : 0 ≤ un ∧ un ≤ 256) (hUx : zUp gx 11 256 ((n / 12 + 1 : Nat) : Int)) (hux : 0 ≤ ux ∧ ux ≤ 256) (hl1 : 1 ≤ l) (hcap : min (R + p + 1) ((l - 1) * (T - p)) ≤ 256) : zMet l0 yX5_tick cX5_tick 3 none rmX5_tick X [.ref a] ω (zpv (fun w => ∃ gx2 u2, w = zU (zU (zU ω rx (zOb 4 [.int (zI ((256 : Nat) : Int)), .int (zI ((11 : Nat) : Int)), .ref (rx + 1), .int (zI u2)])) (rx + 1) (zAJ X (256 * 11) gx2)) a (zOb 5 [.ref (a + 1), .ref (a + 3), .ref (a + 5), .ref rx, .ref rn, .int (zI p), .int (zI (l - 1)), .int (zI (R + p)), .int (zI (n + cp : Int))]) ∧ u2 = max (min (R + p + 1) ((l - 1) * (T - p))) 0 ∧ (0 ≤ u2 ∧ u2 ≤ 256) ∧ zRV gx2 11 u2 (zStp wt p Av) ∧ zUp gx2 11 256 (((n + cp) / 12 + 1 : Nat) : Int))) := by
  refine zMet.intro (by decide) (Nat.le_of_ble_eq_true rfl) ?_
  intro Γ C E N
  show Zw Γ ω 0 0 0 [some _, none, none] []
  have hz : ∀ v : Int, 0 ≤ v → v < max (min (R + p + 1) ((l - 1) * (T - p))) 0 → ∀ s : Int, 0 ≤ s → s ≤ T → ¬ (0 ≤ v - p + s ∧ v - p + s < un) → Av (v - p + s) = 0 := by
    intro v v0 v1 s s0 s1 hno
    have e : (l - 1) * (T - p) = l * (T - p) - (T - p) := by rw [Int.sub_mul, Int.one_mul]
    by_cases h1 : v - p + s < 0
    · exact hA0 _ (Or.inl h1)
    · exact hA0 _ (Or.inr (by omega))
  have hmm : n / 12 + 1 ≤ (n + cp) / 12 + 1 := by have := Nat.div_le_div_right (c := 12) (Nat.le_add_right n cp); omega
  refine z_aload_n (i := 0) (pc := 0) C rfl rfl dX5_tick_0 ?_
  refine z_callVi (pc := 1) C (c_X5_nextLimbs hw hq hnc2) k_X5_64 zy_X5_nextLimbs rfl rfl hw rfl rfl ⟨(Nat.le_of_ble_eq_true rfl), (Nat.le_of_ble_eq_true rfl)⟩ (Nat.le_of_ble_eq_true rfl) dX5_tick_1 ⟨rfl, rfl⟩ ⟨(Nat.le_of_ble_eq_true rfl), (Nat.le_of_ble_eq_true rfl)⟩ (fun rv ω' hp => ?_)
  obtain ⟨rfl, rfl⟩ := hp
  refine z_istore_n (i := 1) (lv' := [_, _, _]) (pc := 4) C rfl (by decide) rfl rfl dX5_tick_4 ?_
  refine z_aload_n (i := 0) (pc := 5) C rfl rfl dX5_tick_5 ?_
  refine z_dup (pc := 6) C rfl dX5_tick_6 ?_
  refine g_X5_40 (pc := 7) C hw rfl dX5_tick_7 ?_
  refine z_iconst (pc := 10) C dX5_tick_10 ?_
  refine z_isub (pc := 11) C dX5_tick_11 ?_
  refine p_X5_40 (pc := 12) C hw (Nat.le_of_ble_eq_true rfl) dX5_tick_12 ?_
  refine z_aload_n (i := 0) (pc := 15) C rfl rfl dX5_tick_15 ?_
  refine z_dup (pc := 16) C rfl dX5_tick_16 ?_
  refine g_X5_43 (pc := 17) C (zU_s _ _ _) rfl dX5_tick_17 ?_
  refine z_aload_n (i := 0) (pc := 20) C rfl rfl dX5_tick_20 ?_
  refine g_X5_36 (pc := 21) C (zU_s _ _ _) rfl dX5_tick_21 ?_
  refine z_iadd (pc := 24) C dX5_tick_24 ?_
  refine p_X5_43 (pc := 25) C (zU_s _ _ _) (Nat.le_of_ble_eq_true rfl) dX5_tick_25 ?_
  rw [zU_u]
  show Zw Γ (zU ω' a (zOb 5 [.ref (a + 1), .ref (a + 3), .ref (a + 5), .ref rn, .ref rx, .int (zI p), .int (zI (l - 1)), .int (zI (R + p)), .int (zI (n : Int))])) 0 0 _ _ _
  refine z_nm (fun ω2 hω2 => ?_)
  have cl_ω2 := z_at hω2 (zU_n' (by omega) hq)
  have ce_ω2 := z_at hω2 (zU_n' (by omega) he)
  have n_ω2 := z_at hω2 (zU_n' (by omega) hn)
  have nc_ω2 := z_at hω2 (zU_n' (by omega) hnc)
  have x_ω2 := z_at hω2 (zU_n' (by omega) hx)
  have xc_ω2 := z_at hω2 (zU_n' (by omega) hxc)
  have w_ω2 := z_at hω2 (zU_s _ _ _)
  refine z_aload_n (i := 0) (pc := 28) C rfl rfl dX5_tick_28 ?_
  refine g_X5_33 (pc := 29) C w_ω2 rfl dX5_tick_29 ?_
  refine z_aload_n (i := 0) (pc := 32) C rfl rfl dX5_tick_32 ?_
  refine z_callVi (pc := 33) C (c_X5_liveRows w_ω2 cl_ω2 hp0 (by omega) (by omega) hT) k_X5_52 zy_X5_liveRows rfl rfl w_ω2 rfl rfl ⟨(Nat.le_of_ble_eq_true rfl), (Nat.le_of_ble_eq_true rfl)⟩ (Nat.le_of_ble_eq_true rfl) dX5_tick_33 ⟨rfl, rfl⟩ ⟨(Nat.le_of_ble_eq_true rfl), (Nat.le_of_ble_eq_true rfl)⟩ (fun rv ω' hp => ?_)
  obtain ⟨rfl, rfl⟩ := hp
  have hb := z_lt (l := l - 1) (d := T - p) (by omega) (by omega)
  refine z_callVv (pc := 36) C (c_X4_open x_ω2 xc_ω2 ⟨⟨by decide, by decide⟩, ⟨by decide, by decide⟩, by omega, by omega⟩) k_X5_56 zy_X4_open rfl rfl x_ω2 rfl rfl ⟨(Nat.le_of_ble_eq_true rfl), (Nat.le_of_ble_eq_true rfl)⟩ (Nat.le_of_ble_eq_true rfl) dX5_tick_36 ⟨rfl, rfl⟩ ⟨(Nat.le_of_ble_eq_true rfl), (Nat.le_of_ble_eq_true rfl)⟩ (fun ω' hp => ?_)
  subst hp
  rw [show max (min (min (R + p + 1) ((l - 1) * (T - p))) ((256 : Nat) : Int)) 0 = max (min (R + p + 1) ((l - 1) * (T - p))) 0 by omega]
  generalize hu2 : max (min (R + p + 1) ((l - 1) * (T - p))) 0 = u2 at hz ⊢
  have hw2 : u2 = max (min (R + p + 1) ((l - 1) * (T - p))) 0 := hu2.symm
  refine z_nm (fun ω3 hω3 => ?_)
  have cl_ω3 := z_at hω3 (zU_n' (z_neOO cl_ω2 x_ω2 (by decide)) cl_ω2)
  have ce_ω3 := z_at hω3 (zU_n' (z_neJO ce_ω2 x_ω2) ce_ω2)
  have n_ω3 := z_at hω3 (zU_n' (by omega) n_ω2)
  have nc_ω3 := z_at hω3 (zU_n' (z_neJO nc_ω2 x_ω2) nc_ω2)
  have xc_ω3 := z_at hω3 (zU_n' (z_neJO xc_ω2 x_ω2) xc_ω2)
  have w_ω3 := z_at hω3 (zU_n' (z_neOO w_ω2 x_ω2 (by decide)) w_ω2)
  have x_ω3 := z_at hω3 (zU_s _ _ _)
  refine z_iconst (pc := 39) C dX5_tick_39 ?_
  refine z_istore_n (i := 2) (lv' := [_, _, _]) (pc := 40) C rfl (by decide) rfl rfl dX5_tick_40 ?_
  rw [← zU_id xc_ω3]
  refine lp_X5_tick C w_ω3 hN cl_ω3 ce_ω3 n_ω3 nc_ω3 x_ω3 xc_ω3 hp0 hT hnc2 hwt hw0 hsum hcp hA hV hUn hu (by omega) hz ?_ u2.toNat 0 gx (by omega) (fun r a b => by omega) (hUx.mono (by omega))
  intro gi hgi hupi
  refine z_aload_n (i := 0) (pc := 82) C rfl rfl dX5_tick_82 ?_
  refine z_dup (pc := 83) C rfl dX5_tick_83 ?_
  refine g_X5_46 (pc := 84) C (zU_n' (z_neOJ w_ω3 xc_ω3) w_ω3) rfl dX5_tick_84 ?_
  refine z_aload_n (i := 0) (pc := 87) C rfl rfl dX5_tick_87 ?_
  refine g_X5_12 (pc := 88) C (zU_n' (z_neOJ w_ω3 xc_ω3) w_ω3) rfl dX5_tick_88 ?_
  refine g_X5_74 (pc := 91) C (zU_n' (z_neOJ cl_ω3 xc_ω3) cl_ω3) rfl dX5_tick_91 ?_
  refine z_iadd (pc := 94) C dX5_tick_94 ?_
  refine p_X5_46 (pc := 95) C (zU_n' (z_neOJ w_ω3 xc_ω3) w_ω3) (Nat.le_of_ble_eq_true rfl) dX5_tick_95 ?_
  refine z_aload_n (i := 0) (pc := 98) C rfl rfl dX5_tick_98 ?_
  refine g_X5_30 (pc := 99) C (zU_s _ _ _) rfl dX5_tick_99 ?_
  refine z_astore_n (i := 2) (lv' := [_, _, _]) (pc := 102) C rfl (by decide) rfl rfl dX5_tick_102 ?_
  refine z_aload_n (i := 0) (pc := 103) C rfl rfl dX5_tick_103 ?_
  refine z_aload_n (i := 0) (pc := 104) C rfl rfl dX5_tick_104 ?_
  refine g_X5_33 (pc := 105) C (zU_s _ _ _) rfl dX5_tick_105 ?_
  refine p_X5_30 (pc := 108) C (zU_s _ _ _) (Nat.le_of_ble_eq_true rfl) dX5_tick_108 ?_
  refine z_aload_n (i := 0) (pc := 111) C rfl rfl dX5_tick_111 ?_
  refine z_aload_n (i := 2) (pc := 112) C rfl rfl dX5_tick_112 ?_
  refine p_X5_33 (pc := 113) C (zU_s _ _ _) (Nat.le_of_ble_eq_true rfl) dX5_tick_113 ?_
  exact z_vret (pc := 116) C E dX5_tick_116 ⟨rfl, ⟨gi, u2, by
  rw [zU_u, zU_u, hω3, hω2, zU_c (a := a) (b := rx) (by omega), zU_c (a := a) (b := rx + 1) (by omega), zU_u]
  rfl, hw2, by omega, hgi, hupi⟩⟩
