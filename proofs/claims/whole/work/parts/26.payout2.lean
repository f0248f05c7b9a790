def zPw (X : zX) (ω : zWd) (a : Nat) (T Wh cp : Int) (wt gu gn : Int → Int) (un : Int) (nr : Nat) : Prop := ∃ (rx : Nat) (ux : Int) (gr gx : Int → Int), ω.1 a = some (zOb 3 [.ref (a + 1), .ref (a + 3), .ref (a + 5), .ref nr, .ref rx]) ∧ ((nr = a + 7 ∧ rx = a + 9) ∨ (nr = a + 9 ∧ rx = a + 7)) ∧ ω.1 (a + 1) = some (zOb 1 [.ref (a + 2), .int (zI T), .long (zJ Wh), .int (zI cp)]) ∧ ω.1 (a + 2) = some (zAJ X 41 wt) ∧ ω.1 (a + 3) = some (zOb 4 [.int (zI ((1 : Nat) : Int)), .int (zI ((4 : Nat) : Int)), .ref (a + 4), .int (zI 1)]) ∧ ω.1 (a + 4) = some (zAJ X (1 * 4) gu) ∧ ω.1 (a + 5) = some (zOb 4 [.int (zI ((1 : Nat) : Int)), .int (zI ((4 : Nat) : Int)), .ref (a + 6), .int (zI 1)]) ∧ ω.1 (a + 6) = some (zAJ X (1 * 4) gr) ∧ ω.1 nr = some (zOb 4 [.int (zI ((181 : Nat) : Int)), .int (zI ((4 : Nat) : Int)), .ref (nr + 1), .int (zI un)]) ∧ ω.1 (nr + 1) = some (zAJ X (181 * 4) gn) ∧ ω.1 rx = some (zOb 4 [.int (zI ((181 : Nat) : Int)), .int (zI ((4 : Nat) : Int)), .ref (rx + 1), .int (zI ux)]) ∧ ω.1 (rx + 1) = some (zAJ X (181 * 4) gx) ∧ (0 ≤ un ∧ un ≤ 181) ∧ (0 ≤ ux ∧ ux ≤ 181)
set_option maxRecDepth 100000 in
set_option maxHeartbeats 4000000 in
theorem c_X3_goBack {l0 : Launch} {X : zX} {ω : zWd} {a rn hi : Nat} {T Wh cp un U B p : Int} {wt gu gn V : Int → Int} (hW : zPw X ω a T Wh cp wt gu gn un rn) (hT : 0 ≤ T ∧ T < 41) (hwt : ∀ s : Int, 0 ≤ s → s < 41 → 0 ≤ wt s) (hw0 : ∀ s : Int, 0 ≤ s → s < 41 → T < s → wt s = 0) (hsum : zs wt 41 ≤ 1000000) (hp0 : 0 ≤ p ∧ p ≤ 20) (hhi : (hi : Int) + p < un ∧ hi ≤ 180) (hV : zRV gn 4 un V) (hV0 : ∀ v : Int, v < 0 → V v = 0) (hVb : ∀ v : Int, v ≤ hi + p → 0 ≤ V v ∧ V v ≤ B) (hB : 0 ≤ B ∧ 0 ≤ U ∧ 1000000 * B + 181 * U < zL ^ 4) (hU : zRV gu 4 1 (fun _ => U)) : zMet l0 yX3_goBack cX3_goBack 5 (some .int) rmX3_goBack X [.ref a, .int (zI (hi : Int)), .int (zI p)] ω (zpi (fun r w => ∃ gx2 rn2, zOut a (a + 11) ω w ∧ zPw X w a T Wh cp wt gu gx2 ((hi : Int) + 1) rn2 ∧ zRV gx2 4 ((hi : Int) + 1) (fun v => zVb wt p U V v.toNat) ∧ r = zPb wt p U V hi)) := by
  refine zMet.intro (by decide) (Nat.le_of_ble_eq_true rfl) ?_
  intro Γ C E N
  show Zw Γ ω 0 0 0 [some _, some _, some _, none, none] []
  obtain ⟨rx, ux, gr, gx, hw, hN, hq, he, hu, huc, hr, hrc, hn, hnc, hx, hxc, hun2, hux⟩ := hW
  refine z_iconst (pc := 0) C dX3_goBack_0 ?_
  refine z_istore_n (i := 3) (lv' := [_, _, _, _, _]) (pc := 1) C rfl (by decide) rfl rfl dX3_goBack_1 ?_
  refine z_aload_n (i := 0) (pc := 2) C rfl rfl dX3_goBack_2 ?_
  refine g_X3_33 (pc := 3) C hw rfl dX3_goBack_3 ?_
  refine z_iload_n (i := 1) (pc := 6) C rfl rfl dX3_goBack_6 ?_
  refine z_iconst (pc := 7) C dX3_goBack_7 ?_
  refine z_iadd (pc := 8) C dX3_goBack_8 ?_
  refine z_callVv (pc := 9) C (c_X4_open hx hxc ⟨⟨by decide, by decide⟩, ⟨by decide, by decide⟩, by omega, by omega⟩) k_X3_40 zy_X4_open rfl rfl hx rfl rfl ⟨(Nat.le_of_ble_eq_true rfl), (Nat.le_of_ble_eq_true rfl)⟩ (Nat.le_of_ble_eq_true rfl) dX3_goBack_9 ⟨rfl, rfl⟩ ⟨(Nat.le_of_ble_eq_true rfl), (Nat.le_of_ble_eq_true rfl)⟩ (fun ω' hp => ?_)
  subst hp
  rw [show max (min ((hi : Int) + 1) ((181 : Nat) : Int)) 0 = (hi : Int) + 1 by omega]
  refine z_nm (fun ω2 hω2 => ?_)
  have w_ω2 := z_at hω2 (zU_n' (z_neOO hw hx (by decide)) hw)
  have cl_ω2 := z_at hω2 (zU_n' (z_neOO hq hx (by decide)) hq)
  have ce_ω2 := z_at hω2 (zU_n' (z_neJO he hx) he)
  have u_ω2 := z_at hω2 (zU_n' (by omega) hu)
  have uc_ω2 := z_at hω2 (zU_n' (z_neJO huc hx) huc)
  have r_ω2 := z_at hω2 (zU_n' (by omega) hr)
  have rc_ω2 := z_at hω2 (zU_n' (z_neJO hrc hx) hrc)
  have n_ω2 := z_at hω2 (zU_n' (by omega) hn)
  have nc_ω2 := z_at hω2 (zU_n' (z_neJO hnc hx) hnc)
  have xc_ω2 := z_at hω2 (zU_n' (z_neJO hxc hx) hxc)
  have x_ω2 := z_at hω2 (zU_s _ _ _)
  refine z_iconst (pc := 12) C dX3_goBack_12 ?_
  refine z_istore (i := 4) (lv' := [_, _, _, _, _]) (pc := 13) C (by decide) rfl rfl dX3_goBack_13 ?_
  refine lp_X3_goBack C w_ω2 hN cl_ω2 ce_ω2 u_ω2 uc_ω2 r_ω2 rc_ω2 n_ω2 nc_ω2 x_ω2 xc_ω2 hT hwt hw0 hsum hp0 hhi (by omega) hV hV0 hVb hB hU ?_ (hi + 1) 0 ω2 gx _ (by omega) ⟨gr, by rw [zU_id rc_ω2, zU_id xc_ω2]⟩ (fun r a b => by omega) (fun h => by omega)
  intro ω3 gi hE hgi
  obtain ⟨gr2, hω3⟩ := hE
  have w_3 := z_at hω3 (zU_n' (by omega) (zU_n' (by omega) w_ω2))
  have cl_3 := z_at hω3 (zU_n' (by omega) (zU_n' (by omega) cl_ω2))
  have ce_3 := z_at hω3 (zU_n' (by omega) (zU_n' (by omega) ce_ω2))
  have u_3 := z_at hω3 (zU_n' (by omega) (zU_n' (by omega) u_ω2))
  have uc_3 := z_at hω3 (zU_n' (by omega) (zU_n' (by omega) uc_ω2))
  have r_3 := z_at hω3 (zU_n' (by omega) (zU_n' (by omega) r_ω2))
  have n_3 := z_at hω3 (zU_n' (by omega) (zU_n' (by omega) n_ω2))
  have nc_3 := z_at hω3 (zU_n' (by omega) (zU_n' (by omega) nc_ω2))
  have x_3 := z_at hω3 (zU_n' (by omega) (zU_n' (by omega) x_ω2))
  have rc_3 := z_at hω3 (zU_n' (by omega) (zU_s _ _ _))
  have xc_3 := z_at hω3 (zU_s _ _ _)
  refine z_aload_n (i := 0) (pc := 72) C rfl rfl dX3_goBack_72 ?_
  refine g_X3_30 (pc := 73) C w_3 rfl dX3_goBack_73 ?_
  refine z_astore (i := 4) (lv' := [_, _, _, _, _]) (pc := 76) C (by decide) rfl rfl dX3_goBack_76 ?_
  refine z_aload_n (i := 0) (pc := 78) C rfl rfl dX3_goBack_78 ?_
  refine z_aload_n (i := 0) (pc := 79) C rfl rfl dX3_goBack_79 ?_
  refine g_X3_33 (pc := 80) C w_3 rfl dX3_goBack_80 ?_
  refine p_X3_30 (pc := 83) C w_3 (Nat.le_of_ble_eq_true rfl) dX3_goBack_83 ?_
  refine z_aload_n (i := 0) (pc := 86) C rfl rfl dX3_goBack_86 ?_
  refine z_aload (i := 4) (pc := 87) C rfl dX3_goBack_87 ?_
  refine p_X3_33 (pc := 89) C (zU_s _ _ _) (Nat.le_of_ble_eq_true rfl) dX3_goBack_89 ?_
  refine z_iload_n (i := 3) (pc := 92) C rfl rfl dX3_goBack_92 ?_
  exact z_iret (pc := 93) C E dX3_goBack_93 ⟨_, rfl, ⟨gi, rx, by rw [zU_u, hω3, hω2]; exact (((zOut.rf.u (by omega) (by omega)).u (by omega) (by omega)).u (by omega) (by omega)).u (by omega) (by omega), ⟨rn, un, gr2, gn, (zU_s _ _ _), by omega, (zU_n' (by omega) (zU_n' (by omega) cl_3)), (zU_n' (by omega) (zU_n' (by omega) ce_3)), (zU_n' (by omega) (zU_n' (by omega) u_3)), (zU_n' (by omega) (zU_n' (by omega) uc_3)), (zU_n' (by omega) (zU_n' (by omega) r_3)), (zU_n' (by omega) (zU_n' (by omega) rc_3)), (zU_n' (by omega) (zU_n' (by omega) x_3)), (zU_n' (by omega) (zU_n' (by omega) xc_3)), (zU_n' (by omega) (zU_n' (by omega) n_3)), (zU_n' (by omega) (zU_n' (by omega) nc_3)), by omega, by omega⟩, hgi, rfl⟩⟩
/-- what a purse is worth with t ticks left -/
def zWv (wt : Int → Int) (p : Int) : Nat → Int → Int
  | 0 => fun v => if v < 0 then 0 else v
  | t + 1 => fun v => if v < 0 then 0 else zVb wt p (10 ^ (6 * (t + 1))) (zWv wt p t) v.toNat
def zPy (wt : Int → Int) (p : Int) (pu : Nat) : Nat → Int
  | 0 => pu
  | t + 1 => zPb wt p (10 ^ (6 * (t + 1))) (zWv wt p t) pu
theorem zWv_b {wt : Int → Int} {p : Int} (hw : ∀ s : Int, 0 ≤ s → s < 41 → 0 ≤ wt s) (hs : zs wt 41 ≤ 1000000) (hp : 0 ≤ p) : ∀ (t : Nat) (v : Int), 0 ≤ zWv wt p t v ∧ (0 ≤ v → zWv wt p t v ≤ (v + t * p) * 10 ^ (6 * t)) ∧ (v < 0 → zWv wt p t v = 0)
  | 0, v => by
    show 0 ≤ (if v < 0 then 0 else v) ∧ _
    refine ⟨by split <;> omega, fun h => ?_, fun h => if_pos h⟩
    show (if v < 0 then 0 else v) ≤ (v + ((0 : Nat) : Int) * p) * 10 ^ 0
    rw [if_neg (by omega), Int.pow_zero, Int.mul_one]
    simp
  | t + 1, v => by
    have ih := zWv_b hw hs hp t
    have hP : (0 : Int) < 10 ^ (6 * t) := zpw (by decide) _
    have e6 : (10 : Int) ^ (6 * (t + 1)) = 10 ^ (6 * t) * 1000000 := by rw [show 6 * (t + 1) = 6 * t + 6 by omega, Int.pow_add]; rfl
    have hL : ∀ u : Nat, 0 ≤ zLw wt p (zWv wt p t) u ∧ zLw wt p (zWv wt p t) u ≤ ((u : Int) + ((t + 1 : Nat) : Int) * p) * 10 ^ (6 * (t + 1)) := by
      intro u
      have hq : 0 ≤ (u : Int) + ((t + 1 : Nat) : Int) * p := Int.add_nonneg (by omega) (Int.mul_nonneg (by omega) hp)
      have h := zLw_b (wt := wt) (V := zWv wt p t) (p := p) (u := (u : Int)) (B := ((u : Int) + ((t + 1 : Nat) : Int) * p) * 10 ^ (6 * t)) hw hs (Int.mul_nonneg hq (by omega)) (fun v hv => ⟨(ih v).1, by
        rcases Int.lt_or_le v 0 with h0 | h0
        · rw [(ih v).2.2 h0]
          exact Int.mul_nonneg hq (by omega)
        · refine Int.le_trans ((ih v).2.1 h0) (Int.mul_le_mul_of_nonneg_right ?_ (by omega))
          have : ((t + 1 : Nat) : Int) * p = t * p + p := by rw [Int.natCast_succ, Int.add_mul, Int.one_mul]
          omega⟩)
      refine ⟨h.1, Int.le_trans h.2 ?_⟩
      rw [e6]
      generalize (u : Int) + ((t + 1 : Nat) : Int) * p = A
      generalize (10 : Int) ^ (6 * t) = D
      have : 1000000 * (A * D) = A * (D * 1000000) := by grind
      omega
    have hb : ∀ u : Nat, 0 ≤ zVb wt p (10 ^ (6 * (t + 1))) (zWv wt p t) u ∧ zVb wt p (10 ^ (6 * (t + 1))) (zWv wt p t) u ≤ ((u : Int) + ((t + 1 : Nat) : Int) * p) * 10 ^ (6 * (t + 1)) := by
      intro u
      induction u with
      | zero => exact hL 0
      | succ u ihu =>
        have h1 := hL (u + 1)
        have hP2 : (0 : Int) < 10 ^ (6 * (t + 1)) := zpw (by decide) _
        have e7 : (((u + 1 : Nat) : Int) + ((t + 1 : Nat) : Int) * p) * 10 ^ (6 * (t + 1)) = ((u : Int) + ((t + 1 : Nat) : Int) * p) * 10 ^ (6 * (t + 1)) + 10 ^ (6 * (t + 1)) := by
          rw [Int.natCast_succ u]
          generalize ((t + 1 : Nat) : Int) * p = A
          generalize (10 : Int) ^ (6 * (t + 1)) = D
          grind
        show 0 ≤ max _ _ ∧ max _ _ ≤ _
        rw [e7] at h1 ⊢
        omega
    show 0 ≤ (if v < 0 then 0 else zVb wt p (10 ^ (6 * (t + 1))) (zWv wt p t) v.toNat) ∧ _
    refine ⟨by split
               · omega
               · exact (hb _).1, fun h => ?_, fun h => if_pos h⟩
    show (if v < 0 then 0 else zVb wt p (10 ^ (6 * (t + 1))) (zWv wt p t) v.toNat) ≤ _
    rw [if_neg (by omega)]
    have := (hb v.toNat).2
    rw [show ((v.toNat : Nat) : Int) = v by omega] at this
    exact this
set_option maxRecDepth 100000 in
set_option maxHeartbeats 4000000 in
theorem lp_X3_work2 {Γ : zG} {l0 : Launch} {X : zX} {a pu n : Nat} {T Wh cp p : Int} {wt : Int → Int} {ω0 : zWd} (C : Zc Γ l0 X rmX3_work 6 cX3_work RX3) (E : Ze Γ (zpi (fun r w => ∃ gu2 gn2 un2 rn2, zOut a (a + 11) ω0 w ∧ zPw X w a T Wh cp wt gu2 gn2 un2 rn2 ∧ (pu : Int) < un2 ∧ zRV gn2 4 un2 (zWv wt p n) ∧ r = zPy wt p pu n)) 0 0 (some .int)) (hT : 0 ≤ T ∧ T < 41) (hwt : ∀ s : Int, 0 ≤ s → s < 41 → 0 ≤ wt s) (hw0 : ∀ s : Int, 0 ≤ s → s < 41 → T < s → wt s = 0) (hsum : zs wt 41 ≤ 1000000) (hp0 : 0 ≤ p ∧ p ≤ 20) (hpu : pu ≤ 60) (hn6 : n ≤ 6) : ∀ (j t : Nat) (ω : zWd) (gu gn : Int → Int) (rn : Nat) (un pay : Int), t + j = n → un = (pu : Int) + ((n : Int) - t) * p + 1 → zOut a (a + 11) ω0 ω → zPw X ω a T Wh cp wt gu gn un rn → zRV gu 4 1 (fun _ => 10 ^ (6 * t)) → zRV gn 4 un (zWv wt p t) → (t = n → pay = zPy wt p pu t) → Zw Γ ω 0 0 62 [some (.ref a), some (.int (zI (pu : Int))), some (.int (zI p)), some (.int (zI (n : Int))), some (.int (zI pay)), some (.int (zI ((t : Int) + 1)))] [] := by
  intro j
  induction j with
  | zero =>
    intro t ω gu gn rn un pay hj hune hout hW hU hV hpay
    have e1 : t = n := by omega
    subst e1
    rw [Int.sub_self, Int.zero_mul] at hune
    refine z_iload (i := 5) (pc := 62) C rfl dX3_work_62 ?_
    refine z_iload_n (i := 3) (pc := 64) C rfl rfl dX3_work_64 ?_
    refine z_icmp_gt (tgt := 101) (pc := 65) C dX3_work_65 (by decide) (fun h65 => ?_) (fun h65 => absurd h65 (by omega))
    refine z_iload (i := 4) (pc := 101) C rfl dX3_work_101 ?_
    exact z_iret (pc := 103) C E dX3_work_103 ⟨_, rfl, ⟨gu, gn, un, rn, hout, hW, by omega, hV, hpay rfl⟩⟩
  | succ j ih =>
    intro t ω gu gn rn un pay hj hune hout hW hU hV hpay
    have hW0 := hW
    obtain ⟨rx, ux, gr, gx, hw, hN, hq, he, hu, huc, hr, hrc, hn, hnc, hx, hxc, hun2, hux⟩ := hW
    have hVv := zWv_b hwt hsum hp0.1 t
    have hP1 : (0 : Int) < 10 ^ (6 * t) := zpw (by decide) _
    have hP36 : (10 : Int) ^ (6 * t) ≤ 10 ^ 30 := zp10 (by omega)
    have e6 : (10 : Int) ^ (6 * (t + 1)) = 10 ^ (6 * t) * 1000000 := by rw [show 6 * (t + 1) = 6 * t + 6 by omega, Int.pow_add]; rfl
    have h48 : 361 * ((10 : Int) ^ 30 * 1000000) < zL ^ 4 := by decide
    have hnt : ((n : Int) - t) * p = ((n : Int) - (t + 1)) * p + p := by rw [show (n : Int) - t = ((n : Int) - (t + 1)) + 1 by omega, Int.add_mul, Int.one_mul]
    have hnt0 : 0 ≤ ((n : Int) - (t + 1)) * p := Int.mul_nonneg (by omega) hp0.1
    have htp : (t : Int) * p + (((n : Int) - (t + 1)) * p + p) = n * p := by rw [← hnt, ← Int.add_mul]; congr 1; omega
    have htp0 : 0 ≤ (t : Int) * p := Int.mul_nonneg (by omega) hp0.1
    have hnp : (n : Int) * p ≤ 6 * 20 := Int.mul_le_mul (by omega) hp0.2 hp0.1 (by omega)
    obtain ⟨hi, hhi⟩ : ∃ hi : Nat, (hi : Int) = (pu : Int) + ((n : Int) - (t + 1)) * p := ⟨((pu : Int) + ((n : Int) - (t + 1)) * p).toNat, by omega⟩
    have hVB : ∀ v : Int, v ≤ hi + p → 0 ≤ zWv wt p t v ∧ zWv wt p t v ≤ 180 * 10 ^ (6 * t) := by
      intro v hv
      refine ⟨(hVv v).1, ?_⟩
      rcases Int.lt_or_le v 0 with h0 | h0
      · rw [(hVv v).2.2 h0]; omega
      · exact Int.le_trans ((hVv v).2.1 h0) (Int.mul_le_mul_of_nonneg_right (by omega) (by omega))
    refine z_iload (i := 5) (pc := 62) C rfl dX3_work_62 ?_
    refine z_iload_n (i := 3) (pc := 64) C rfl rfl dX3_work_64 ?_
    refine z_icmp_gt (tgt := 101) (pc := 65) C dX3_work_65 (by decide) (fun h65 => absurd h65 (by omega)) (fun h65 => ?_)
    refine z_aload_n (i := 0) (pc := 68) C rfl rfl dX3_work_68 ?_
    refine g_X3_23 (pc := 69) C hw rfl dX3_work_69 ?_
    refine z_iconst (pc := 72) C dX3_work_72 ?_
    refine z_ldc2 (a := 1000000) (pc := 73) C (by decide +kernel) q_X3_48 dX3_work_73 ?_
    refine z_lconst (v := 0) (pc := 76) C (by decide +kernel) dX3_work_76 ?_
    refine z_callVv (pc := 77) C (c_X4_times hu huc ⟨⟨by decide, by decide⟩, ⟨by decide, by decide⟩, by omega, by omega⟩ (by omega) (hU.at (by omega) (by omega)) (by omega) (by omega)) k_X3_50 zy_X4_times rfl rfl hu rfl rfl ⟨(Nat.le_of_ble_eq_true rfl), (Nat.le_of_ble_eq_true rfl)⟩ (Nat.le_of_ble_eq_true rfl) dX3_work_77 ⟨rfl, rfl⟩ ⟨(Nat.le_of_ble_eq_true rfl), (Nat.le_of_ble_eq_true rfl)⟩ (fun ω' hp => ?_)
    obtain ⟨g2, rfl, hg2⟩ := hp
    have htv := ztimes_v hg2 (hU.v (by omega) (by omega)) (by omega)
    rw [Int.add_zero, ← e6] at htv
    have hU2 := zRV1 htv
    refine z_nm (fun ω2 hω2 => ?_)
    have w_ω2 := z_at hω2 (zU_n' (z_neOJ hw huc) hw)
    have cl_ω2 := z_at hω2 (zU_n' (z_neOJ hq huc) hq)
    have ce_ω2 := z_at hω2 (zU_n' (by omega) he)
    have u_ω2 := z_at hω2 (zU_n' (z_neOJ hu huc) hu)
    have r_ω2 := z_at hω2 (zU_n' (z_neOJ hr huc) hr)
    have rc_ω2 := z_at hω2 (zU_n' (by omega) hrc)
    have n_ω2 := z_at hω2 (zU_n' (z_neOJ hn huc) hn)
    have nc_ω2 := z_at hω2 (zU_n' (by omega) hnc)
    have x_ω2 := z_at hω2 (zU_n' (z_neOJ hx huc) hx)
    have xc_ω2 := z_at hω2 (zU_n' (by omega) hxc)
    have uc_ω2 := z_at hω2 (zU_s _ _ _)
    have hW2 : zPw X ω2 a T Wh cp wt g2 gn un rn := ⟨rx, ux, gr, gx, w_ω2, hN, cl_ω2, ce_ω2, u_ω2, uc_ω2, r_ω2, rc_ω2, n_ω2, nc_ω2, x_ω2, xc_ω2, hun2, hux⟩
    have hout2 : zOut a (a + 11) ω0 ω2 := by rw [hω2]; exact hout.u (by omega) (by omega)
    refine z_aload_n (i := 0) (pc := 80) C rfl rfl dX3_work_80 ?_
    refine z_iload_n (i := 1) (pc := 81) C rfl rfl dX3_work_81 ?_
    refine z_iload_n (i := 3) (pc := 82) C rfl rfl dX3_work_82 ?_
    refine z_iload (i := 5) (pc := 83) C rfl dX3_work_83 ?_
    refine z_isub (pc := 85) C dX3_work_85 ?_
    refine z_iload_n (i := 2) (pc := 86) C rfl rfl dX3_work_86 ?_
    refine z_imul (pc := 87) C dX3_work_87 ?_
    refine z_iadd (pc := 88) C dX3_work_88 ?_
    rw [show (pu : Int) + ((n : Int) - ((t : Int) + 1)) * p = (hi : Int) by omega]
    refine z_iload_n (i := 2) (pc := 89) C rfl rfl dX3_work_89 ?_
    refine z_callVi (pc := 90) C (c_X3_goBack (hi := hi) (U := 10 ^ (6 * (t + 1))) (B := 180 * 10 ^ (6 * t)) hW2 hT hwt hw0 hsum hp0 (by omega) hV (fun v hv => (hVv v).2.2 hv) hVB (by omega) hU2) k_X3_54 zy_X3_goBack rfl rfl w_ω2 rfl rfl ⟨(Nat.le_of_ble_eq_true rfl), (Nat.le_of_ble_eq_true rfl)⟩ (Nat.le_of_ble_eq_true rfl) dX3_work_90 ⟨rfl, rfl⟩ ⟨(Nat.le_of_ble_eq_true rfl), (Nat.le_of_ble_eq_true rfl)⟩ (fun rv ω' hp => ?_)
    obtain ⟨gx2, rn2, hout3, hW3, hV3, rfl⟩ := hp
    refine z_istore (i := 4) (lv' := [_, _, _, _, _, _]) (pc := 93) C (by decide) rfl rfl dX3_work_93 ?_
    refine z_iinc (i := 5) (lv' := [_, _, _, _, _, _]) (pc := 95) C rfl (by decide) rfl rfl dX3_work_95 ?_
    refine z_goto (tgt := 62) (pc := 98) C dX3_work_98 (by decide) ?_
    exact ih (t + 1) _ g2 gx2 rn2 ((hi : Int) + 1) _ (by omega) (by rw [hhi]; rfl) (hout2.tr hout3) hW3 hU2 (hV3.c (fun r a b => by show _ = (if r < 0 then 0 else _); rw [if_neg (by omega)])) (fun hn => by
      rw [show hi = pu by subst hn; rw [show ((t + 1 : Nat) : Int) - ((t : Int) + 1) = 0 by omega, Int.zero_mul] at hhi; omega]
      rfl)
set_option maxRecDepth 100000 in
set_option maxHeartbeats 4000000 in
theorem lp_X3_work1 {Γ : zG} {l0 : Launch} {X : zX} {ω : zWd} {a rn rxx N : Nat} {g0 : Int → Int} {x1 x2 x3 x4 : Int} (C : Zc Γ l0 X rmX3_work 6 cX3_work RX3) (hN : N ≤ 181) (ha : rn ≠ a) (ha2 : rn + 1 ≠ a) (hw : ω.1 a = some (zOb 3 [.ref (a + 1), .ref (a + 3), .ref (a + 5), .ref rn, .ref (rxx)])) (hn : ω.1 rn = some (zOb 4 [.int (zI ((181 : Nat) : Int)), .int (zI ((4 : Nat) : Int)), .ref (rn + 1), .int (zI (N : Int))])) (hnc : ω.1 (rn + 1) = some (zAJ X (181 * 4) g0)) (K : ∀ gi : Int → Int, zRV gi 4 N (fun v => v) → Zw Γ (zU ω (rn + 1) (zAJ X (181 * 4) gi)) 0 0 59 [some (.ref a), some (.int (zI x1)), some (.int (zI x2)), some (.int (zI x3)), some (.int (zI x4)), some (.int (zI (N : Int)))] []) : ∀ (j i : Nat) (gi : Int → Int), i + j = N → zRV gi 4 i (fun v => v) → Zw Γ (zU ω (rn + 1) (zAJ X (181 * 4) gi)) 0 0 29 [some (.ref a), some (.int (zI x1)), some (.int (zI x2)), some (.int (zI x3)), some (.int (zI x4)), some (.int (zI (i : Int)))] [] := by
  intro j
  induction j with
  | zero =>
    intro i gi hj hg
    have e1 : i = N := by omega
    subst e1
    refine z_iload (i := 5) (pc := 29) C rfl dX3_work_29 ?_
    refine z_aload_n (i := 0) (pc := 31) C rfl rfl dX3_work_31 ?_
    refine g_X3_30 (pc := 32) C (zU_n' (Ne.symm ha2) hw) rfl dX3_work_32 ?_
    refine g_X3_44 (pc := 35) C (zU_n' (by omega) hn) rfl dX3_work_35 ?_
    refine z_icmp_ge (tgt := 59) (pc := 38) C dX3_work_38 (by decide) (fun h38 => ?_) (fun h38 => absurd h38 (by omega))
    exact K gi hg
  | succ j ih =>
    intro i gi hj hg
    have hzL : zL = 1000000000000 := rfl
    refine z_iload (i := 5) (pc := 29) C rfl dX3_work_29 ?_
    refine z_aload_n (i := 0) (pc := 31) C rfl rfl dX3_work_31 ?_
    refine g_X3_30 (pc := 32) C (zU_n' (Ne.symm ha2) hw) rfl dX3_work_32 ?_
    refine g_X3_44 (pc := 35) C (zU_n' (by omega) hn) rfl dX3_work_35 ?_
    refine z_icmp_ge (tgt := 59) (pc := 38) C dX3_work_38 (by decide) (fun h38 => absurd h38 (by omega)) (fun h38 => ?_)
    refine z_aload_n (i := 0) (pc := 41) C rfl rfl dX3_work_41 ?_
    refine g_X3_30 (pc := 42) C (zU_n' (Ne.symm ha2) hw) rfl dX3_work_42 ?_
    refine z_iload (i := 5) (pc := 45) C rfl dX3_work_45 ?_
    refine z_iload (i := 5) (pc := 47) C rfl dX3_work_47 ?_
    refine z_i2l (pc := 49) C (hd := dX3_work_49) (k := ?_)
    refine z_callVv (pc := 50) C (c_X4_put (zU_n' (by omega) hn) (zU_s _ _ _) ⟨⟨by decide, by decide⟩, ⟨by decide, by decide⟩, by omega, by omega⟩) k_X3_36 zy_X4_put rfl rfl (zU_n' (by omega) hn) rfl rfl ⟨(Nat.le_of_ble_eq_true rfl), (Nat.le_of_ble_eq_true rfl)⟩ (Nat.le_of_ble_eq_true rfl) dX3_work_50 ⟨rfl, rfl⟩ ⟨(Nat.le_of_ble_eq_true rfl), (Nat.le_of_ble_eq_true rfl)⟩ (fun ω' hp => ?_)
    obtain ⟨g2, rfl, hg2⟩ := hp
    have hpv := zput_v (by decide) hg2 (by omega)
    rw [zU_u]
    refine z_iinc (i := 5) (lv' := [_, _, _, _, _, _]) (pc := 53) C rfl (by decide) rfl rfl dX3_work_53 ?_
    refine z_goto (tgt := 29) (pc := 56) C dX3_work_56 (by decide) ?_
    exact ih (i + 1) g2 (by omega) ((hg.kp (by omega) hg2 (by omega)).ext hpv)
set_option maxRecDepth 100000 in
set_option maxHeartbeats 4000000 in
theorem c_X3_work {l0 : Launch} {X : zX} {a pu n : Nat} {T Wh cp p : Int} {wt : Int → Int} {ω : zWd} {gu gn : Int → Int} {un : Int} {rn : Nat} (hW : zPw X ω a T Wh cp wt gu gn un rn) (hT : 0 ≤ T ∧ T < 41) (hwt : ∀ s : Int, 0 ≤ s → s < 41 → 0 ≤ wt s) (hw0 : ∀ s : Int, 0 ≤ s → s < 41 → T < s → wt s = 0) (hsum : zs wt 41 ≤ 1000000) (hp0 : 0 ≤ p ∧ p ≤ 20) (hpu : pu ≤ 60) (hn6 : n ≤ 6) : zMet l0 yX3_work cX3_work 6 (some .int) rmX3_work X [.ref a, .int (zI (pu : Int)), .int (zI p), .int (zI (n : Int))] ω (zpi (fun r w => ∃ gu2 gn2 un2 rn2, zOut a (a + 11) ω w ∧ zPw X w a T Wh cp wt gu2 gn2 un2 rn2 ∧ (pu : Int) < un2 ∧ zRV gn2 4 un2 (zWv wt p n) ∧ r = zPy wt p pu n)) := by
  refine zMet.intro (by decide) (Nat.le_of_ble_eq_true rfl) ?_
  intro Γ C E N
  show Zw Γ ω 0 0 0 [some _, some _, some _, some _, none, none] []
  obtain ⟨rx, ux, gr, gx, hw, hN, hq, he, hu, huc, hr, hrc, hn, hnc, hx, hxc, hun2, hux⟩ := hW
  have hnp : (n : Int) * p ≤ 6 * 20 := Int.mul_le_mul (by omega) hp0.2 hp0.1 (by omega)
  have hnp0 : 0 ≤ (n : Int) * p := Int.mul_nonneg (by omega) hp0.1
  obtain ⟨N, hNe⟩ : ∃ N : Nat, (N : Int) = (pu : Int) + (n : Int) * p + 1 := ⟨((pu : Int) + (n : Int) * p + 1).toNat, by omega⟩
  refine z_iload_n (i := 1) (pc := 0) C rfl rfl dX3_work_0 ?_
  refine z_istore (i := 4) (lv' := [_, _, _, _, _, _]) (pc := 1) C (by decide) rfl rfl dX3_work_1 ?_
  refine z_aload_n (i := 0) (pc := 3) C rfl rfl dX3_work_3 ?_
  refine g_X3_23 (pc := 4) C hw rfl dX3_work_4 ?_
  refine z_iconst (pc := 7) C dX3_work_7 ?_
  refine z_lconst (v := 1) (pc := 8) C (by decide +kernel) dX3_work_8 ?_
  refine z_callVv (pc := 9) C (c_X4_put hu huc ⟨⟨by decide, by decide⟩, ⟨by decide, by decide⟩, by omega, by omega⟩) k_X3_36 zy_X4_put rfl rfl hu rfl rfl ⟨(Nat.le_of_ble_eq_true rfl), (Nat.le_of_ble_eq_true rfl)⟩ (Nat.le_of_ble_eq_true rfl) dX3_work_9 ⟨rfl, rfl⟩ ⟨(Nat.le_of_ble_eq_true rfl), (Nat.le_of_ble_eq_true rfl)⟩ (fun ω' hp => ?_)
  obtain ⟨g2, rfl, hg2⟩ := hp
  have hpv := zput_v (by decide) hg2 (by decide)
  refine z_nm (fun ω2 hω2 => ?_)
  have w_ω2 := z_at hω2 (zU_n' (z_neOJ hw huc) hw)
  have cl_ω2 := z_at hω2 (zU_n' (z_neOJ hq huc) hq)
  have ce_ω2 := z_at hω2 (zU_n' (by omega) he)
  have u_ω2 := z_at hω2 (zU_n' (z_neOJ hu huc) hu)
  have r_ω2 := z_at hω2 (zU_n' (z_neOJ hr huc) hr)
  have rc_ω2 := z_at hω2 (zU_n' (by omega) hrc)
  have n_ω2 := z_at hω2 (zU_n' (z_neOJ hn huc) hn)
  have nc_ω2 := z_at hω2 (zU_n' (by omega) hnc)
  have x_ω2 := z_at hω2 (zU_n' (z_neOJ hx huc) hx)
  have xc_ω2 := z_at hω2 (zU_n' (by omega) hxc)
  have uc_ω2 := z_at hω2 (zU_s _ _ _)
  refine z_aload_n (i := 0) (pc := 12) C rfl rfl dX3_work_12 ?_
  refine g_X3_30 (pc := 13) C w_ω2 rfl dX3_work_13 ?_
  refine z_iload_n (i := 1) (pc := 16) C rfl rfl dX3_work_16 ?_
  refine z_iload_n (i := 3) (pc := 17) C rfl rfl dX3_work_17 ?_
  refine z_iload_n (i := 2) (pc := 18) C rfl rfl dX3_work_18 ?_
  refine z_imul (pc := 19) C dX3_work_19 ?_
  refine z_iadd (pc := 20) C dX3_work_20 ?_
  refine z_iconst (pc := 21) C dX3_work_21 ?_
  refine z_iadd (pc := 22) C dX3_work_22 ?_
  refine z_callVv (pc := 23) C (c_X4_open n_ω2 nc_ω2 ⟨⟨by decide, by decide⟩, ⟨by decide, by decide⟩, by omega, by omega⟩) k_X3_40 zy_X4_open rfl rfl n_ω2 rfl rfl ⟨(Nat.le_of_ble_eq_true rfl), (Nat.le_of_ble_eq_true rfl)⟩ (Nat.le_of_ble_eq_true rfl) dX3_work_23 ⟨rfl, rfl⟩ ⟨(Nat.le_of_ble_eq_true rfl), (Nat.le_of_ble_eq_true rfl)⟩ (fun ω' hp => ?_)
  subst hp
  rw [show max (min ((pu : Int) + (n : Int) * p + 1) ((181 : Nat) : Int)) 0 = (N : Int) by omega]
  refine z_nm (fun ω3 hω3 => ?_)
  have w_ω3 := z_at hω3 (zU_n' (z_neOO w_ω2 n_ω2 (by decide)) w_ω2)
  have cl_ω3 := z_at hω3 (zU_n' (z_neOO cl_ω2 n_ω2 (by decide)) cl_ω2)
  have ce_ω3 := z_at hω3 (zU_n' (z_neJO ce_ω2 n_ω2) ce_ω2)
  have u_ω3 := z_at hω3 (zU_n' (by omega) u_ω2)
  have r_ω3 := z_at hω3 (zU_n' (by omega) r_ω2)
  have rc_ω3 := z_at hω3 (zU_n' (z_neJO rc_ω2 n_ω2) rc_ω2)
  have nc_ω3 := z_at hω3 (zU_n' (z_neJO nc_ω2 n_ω2) nc_ω2)
  have x_ω3 := z_at hω3 (zU_n' (by omega) x_ω2)
  have xc_ω3 := z_at hω3 (zU_n' (z_neJO xc_ω2 n_ω2) xc_ω2)
  have uc_ω3 := z_at hω3 (zU_n' (z_neJO uc_ω2 n_ω2) uc_ω2)
  have n_ω3 := z_at hω3 (zU_s _ _ _)
  refine z_iconst (pc := 26) C dX3_work_26 ?_
  refine z_istore (i := 5) (lv' := [_, _, _, _, _, _]) (pc := 27) C (by decide) rfl rfl dX3_work_27 ?_
  rw [← zU_id nc_ω3]
  refine lp_X3_work1 C (by omega) (by omega) (by omega) w_ω3 n_ω3 nc_ω3 ?_ N 0 gn (by omega) (fun r a b => by omega)
  intro gi hgi
  refine z_iconst (pc := 59) C dX3_work_59 ?_
  refine z_istore (i := 5) (lv' := [_, _, _, _, _, _]) (pc := 60) C (by decide) rfl rfl dX3_work_60 ?_
  exact lp_X3_work2 (ω0 := ω) C E hT hwt hw0 hsum hp0 hpu hn6 n 0 _ g2 gi rn (N : Int) _ (by omega) (by rw [hNe]; simp) (by rw [hω3, hω2]; exact ((zOut.rf.u (by omega) (by omega)).u (by omega) (by omega)).u (by omega) (by omega)) ⟨rx, ux, gr, gx, (zU_n' (by omega) w_ω3), hN, (zU_n' (by omega) cl_ω3), (zU_n' (by omega) ce_ω3), (zU_n' (by omega) u_ω3), (zU_n' (by omega) uc_ω3), (zU_n' (by omega) r_ω3), (zU_n' (by omega) rc_ω3), (zU_n' (by omega) n_ω3), (zU_s _ _ _), (zU_n' (by omega) x_ω3), (zU_n' (by omega) xc_ω3), by omega, hux⟩ (zRV1 hpv) (hgi.c (fun r a b => by show r = (if r < 0 then 0 else r); rw [if_neg (by omega)])) (fun _ => rfl)
