/-- a small number has no high limbs -/
theorem zv_up {f : Int → Int} {n m : Nat} (hf : ∀ k : Int, 0 ≤ k → k < n → 0 ≤ f k ∧ f k < zL) (h : zv zL f n < zL ^ m) (k : Int) (h1 : (m : Int) ≤ k) (h2 : k < n) : f k = 0 := by
  have h0 := zv_b (B := zL) (by decide) hf
  have h3 := zv_at (B := zL) (f := f) (by decide) (n := n) (i := k.toNat) (by omega) hf
  rw [show ((k.toNat : Nat) : Int) = k by omega] at h3
  have h4 : zL ^ m ≤ zL ^ k.toNat := by rw [zL_pow, zL_pow]; exact zp10 (by omega)
  rw [Int.ediv_eq_zero_of_lt h0.1 (by omega)] at h3
  rw [← h3]
  rfl
set_option maxRecDepth 100000 in
set_option maxHeartbeats 4000000 in
theorem c_X5_begin {l0 : Launch} {X : zX} {ω : zWd} {a ro co : Nat} {p l pu T Wh w0 : Int} {wp cp : Nat} {wt go : Int → Int} (hW : zWq X ω a T Wh cp wt) (hro : ω.1 ro = some (zOb 4 [.int (zI ((1 : Nat) : Int)), .int (zI ((11 : Nat) : Int)), .ref co, .int (zI 1)])) (hco : ω.1 co = some (zAJ X (1 * 11) go)) (hgo : zRV go 11 1 (fun _ => w0)) (ho1 : ro < a ∨ a + 11 ≤ ro) (ho2 : co < a ∨ a + 11 ≤ co) (hw0 : 0 ≤ w0 ∧ w0 ≤ 10 ^ wp) (hp0 : 0 ≤ p ∧ p ≤ 20) (hl : 0 ≤ l ∧ l ≤ 40) (hpu : 0 ≤ pu ∧ pu ≤ 1000) (hT : 0 ≤ T ∧ T < 41) (hcap : min (pu + 1) (l * (T - p)) ≤ 256) (hwp : wp + cp ≤ 120) : zMet l0 yX5_begin cX5_begin 6 none rmX5_begin X [.ref a, .int (zI pu), .int (zI p), .int (zI l), .ref ro, .int (zI (wp : Int))] ω (zpv (fun w => ∃ gf2 gs2, zOut a (a + 11) ω w ∧ zWk X w a p l pu wp T Wh cp wt (fun v => if v = pu then w0 else 0) gf2 gs2)) := by
  refine zMet.intro (by decide) (Nat.le_of_ble_eq_true rfl) ?_
  intro Γ C E N
  show Zw Γ ω 0 0 0 [some _, some _, some _, some _, some _, some _] []
  obtain ⟨rn, rx, p1, l1, R1, n1, un, ux, gf, gs, gn, gx, hw, hN, hq, he, hf, hfc, hs, hsc, hn, hnc, hx, hxc, hu, hux⟩ := hW
  have hb := z_lt (l := l) (d := T - p) hl (by omega)
  refine z_aload_n (i := 0) (pc := 0) C rfl rfl dX5_begin_0 ?_
  refine z_iload_n (i := 2) (pc := 1) C rfl rfl dX5_begin_1 ?_
  refine p_X5_36 (pc := 2) C hw (Nat.le_of_ble_eq_true rfl) dX5_begin_2 ?_
  refine z_aload_n (i := 0) (pc := 5) C rfl rfl dX5_begin_5 ?_
  refine z_iload_n (i := 3) (pc := 6) C rfl rfl dX5_begin_6 ?_
  refine p_X5_40 (pc := 7) C (zU_s _ _ _) (Nat.le_of_ble_eq_true rfl) dX5_begin_7 ?_
  refine z_aload_n (i := 0) (pc := 10) C rfl rfl dX5_begin_10 ?_
  refine z_iload_n (i := 1) (pc := 11) C rfl rfl dX5_begin_11 ?_
  refine p_X5_43 (pc := 12) C (zU_s _ _ _) (Nat.le_of_ble_eq_true rfl) dX5_begin_12 ?_
  refine z_aload_n (i := 0) (pc := 15) C rfl rfl dX5_begin_15 ?_
  refine z_iload (i := 5) (pc := 16) C rfl dX5_begin_16 ?_
  refine p_X5_46 (pc := 18) C (zU_s _ _ _) (Nat.le_of_ble_eq_true rfl) dX5_begin_18 ?_
  rw [zU_u, zU_u, zU_u]
  show Zw Γ (zU ω a (zOb 5 [.ref (a + 1), .ref (a + 3), .ref (a + 5), .ref rn, .ref rx, .int (zI p), .int (zI l), .int (zI pu), .int (zI (wp : Int))])) 0 0 _ _ _
  refine z_nm (fun ω2 hω2 => ?_)
  have cl_ω2 := z_at hω2 (zU_n' (by omega) hq)
  have ce_ω2 := z_at hω2 (zU_n' (by omega) he)
  have f_ω2 := z_at hω2 (zU_n' (by omega) hf)
  have fc_ω2 := z_at hω2 (zU_n' (by omega) hfc)
  have s_ω2 := z_at hω2 (zU_n' (by omega) hs)
  have sc_ω2 := z_at hω2 (zU_n' (by omega) hsc)
  have n_ω2 := z_at hω2 (zU_n' (by omega) hn)
  have nc_ω2 := z_at hω2 (zU_n' (by omega) hnc)
  have x_ω2 := z_at hω2 (zU_n' (by omega) hx)
  have xc_ω2 := z_at hω2 (zU_n' (by omega) hxc)
  have ro_ω2 := z_at hω2 (zU_n' (by omega) hro)
  have co_ω2 := z_at hω2 (zU_n' (by omega) hco)
  have w_ω2 := z_at hω2 (zU_s _ _ _)
  refine z_aload_n (i := 0) (pc := 21) C rfl rfl dX5_begin_21 ?_
  refine g_X5_23 (pc := 22) C w_ω2 rfl dX5_begin_22 ?_
  refine z_callVv (pc := 25) C (c_X4_wipe f_ω2 fc_ω2 ⟨⟨by decide, by decide⟩, ⟨by decide, by decide⟩, by omega, by omega⟩) k_X5_49 zy_X4_wipe rfl rfl f_ω2 rfl rfl ⟨(Nat.le_of_ble_eq_true rfl), (Nat.le_of_ble_eq_true rfl)⟩ (Nat.le_of_ble_eq_true rfl) dX5_begin_25 ⟨rfl, rfl⟩ ⟨(Nat.le_of_ble_eq_true rfl), (Nat.le_of_ble_eq_true rfl)⟩ (fun ω' hp => ?_)
  subst hp
  refine z_nm (fun ω3 hω3 => ?_)
  have cl_ω3 := z_at hω3 (zU_n' (z_neOJ cl_ω2 fc_ω2) cl_ω2)
  have ce_ω3 := z_at hω3 (zU_n' (by omega) ce_ω2)
  have f_ω3 := z_at hω3 (zU_n' (z_neOJ f_ω2 fc_ω2) f_ω2)
  have s_ω3 := z_at hω3 (zU_n' (z_neOJ s_ω2 fc_ω2) s_ω2)
  have sc_ω3 := z_at hω3 (zU_n' (by omega) sc_ω2)
  have n_ω3 := z_at hω3 (zU_n' (z_neOJ n_ω2 fc_ω2) n_ω2)
  have nc_ω3 := z_at hω3 (zU_n' (by omega) nc_ω2)
  have x_ω3 := z_at hω3 (zU_n' (z_neOJ x_ω2 fc_ω2) x_ω2)
  have xc_ω3 := z_at hω3 (zU_n' (by omega) xc_ω2)
  have ro_ω3 := z_at hω3 (zU_n' (z_neOJ ro_ω2 fc_ω2) ro_ω2)
  have co_ω3 := z_at hω3 (zU_n' (by omega) co_ω2)
  have w_ω3 := z_at hω3 (zU_n' (z_neOJ w_ω2 fc_ω2) w_ω2)
  have fc_ω3 := z_at hω3 (zU_s _ _ _)
  refine z_aload_n (i := 0) (pc := 28) C rfl rfl dX5_begin_28 ?_
  refine g_X5_30 (pc := 29) C w_ω3 rfl dX5_begin_29 ?_
  refine z_callVv (pc := 32) C (c_X4_wipe n_ω3 nc_ω3 ⟨⟨by decide, by decide⟩, ⟨by decide, by decide⟩, by omega, by omega⟩) k_X5_49 zy_X4_wipe rfl rfl n_ω3 rfl rfl ⟨(Nat.le_of_ble_eq_true rfl), (Nat.le_of_ble_eq_true rfl)⟩ (Nat.le_of_ble_eq_true rfl) dX5_begin_32 ⟨rfl, rfl⟩ ⟨(Nat.le_of_ble_eq_true rfl), (Nat.le_of_ble_eq_true rfl)⟩ (fun ω' hp => ?_)
  subst hp
  refine z_nm (fun ω4 hω4 => ?_)
  have cl_ω4 := z_at hω4 (zU_n' (z_neOJ cl_ω3 nc_ω3) cl_ω3)
  have ce_ω4 := z_at hω4 (zU_n' (by omega) ce_ω3)
  have f_ω4 := z_at hω4 (zU_n' (z_neOJ f_ω3 nc_ω3) f_ω3)
  have s_ω4 := z_at hω4 (zU_n' (z_neOJ s_ω3 nc_ω3) s_ω3)
  have sc_ω4 := z_at hω4 (zU_n' (by omega) sc_ω3)
  have n_ω4 := z_at hω4 (zU_n' (z_neOJ n_ω3 nc_ω3) n_ω3)
  have x_ω4 := z_at hω4 (zU_n' (z_neOJ x_ω3 nc_ω3) x_ω3)
  have xc_ω4 := z_at hω4 (zU_n' (by omega) xc_ω3)
  have ro_ω4 := z_at hω4 (zU_n' (z_neOJ ro_ω3 nc_ω3) ro_ω3)
  have co_ω4 := z_at hω4 (zU_n' (by omega) co_ω3)
  have w_ω4 := z_at hω4 (zU_n' (z_neOJ w_ω3 nc_ω3) w_ω3)
  have fc_ω4 := z_at hω4 (zU_n' (by omega) fc_ω3)
  have nc_ω4 := z_at hω4 (zU_s _ _ _)
  refine z_aload_n (i := 0) (pc := 35) C rfl rfl dX5_begin_35 ?_
  refine g_X5_33 (pc := 36) C w_ω4 rfl dX5_begin_36 ?_
  refine z_callVv (pc := 39) C (c_X4_wipe x_ω4 xc_ω4 ⟨⟨by decide, by decide⟩, ⟨by decide, by decide⟩, by omega, by omega⟩) k_X5_49 zy_X4_wipe rfl rfl x_ω4 rfl rfl ⟨(Nat.le_of_ble_eq_true rfl), (Nat.le_of_ble_eq_true rfl)⟩ (Nat.le_of_ble_eq_true rfl) dX5_begin_39 ⟨rfl, rfl⟩ ⟨(Nat.le_of_ble_eq_true rfl), (Nat.le_of_ble_eq_true rfl)⟩ (fun ω' hp => ?_)
  subst hp
  refine z_nm (fun ω5 hω5 => ?_)
  have cl_ω5 := z_at hω5 (zU_n' (z_neOJ cl_ω4 xc_ω4) cl_ω4)
  have ce_ω5 := z_at hω5 (zU_n' (by omega) ce_ω4)
  have f_ω5 := z_at hω5 (zU_n' (z_neOJ f_ω4 xc_ω4) f_ω4)
  have s_ω5 := z_at hω5 (zU_n' (z_neOJ s_ω4 xc_ω4) s_ω4)
  have sc_ω5 := z_at hω5 (zU_n' (by omega) sc_ω4)
  have n_ω5 := z_at hω5 (zU_n' (z_neOJ n_ω4 xc_ω4) n_ω4)
  have x_ω5 := z_at hω5 (zU_n' (z_neOJ x_ω4 xc_ω4) x_ω4)
  have ro_ω5 := z_at hω5 (zU_n' (z_neOJ ro_ω4 xc_ω4) ro_ω4)
  have co_ω5 := z_at hω5 (zU_n' (by omega) co_ω4)
  have w_ω5 := z_at hω5 (zU_n' (z_neOJ w_ω4 xc_ω4) w_ω4)
  have fc_ω5 := z_at hω5 (zU_n' (by omega) fc_ω4)
  have nc_ω5 := z_at hω5 (zU_n' (by omega) nc_ω4)
  have xc_ω5 := z_at hω5 (zU_s _ _ _)
  refine z_aload_n (i := 0) (pc := 42) C rfl rfl dX5_begin_42 ?_
  refine g_X5_30 (pc := 43) C w_ω5 rfl dX5_begin_43 ?_
  refine z_aload_n (i := 0) (pc := 46) C rfl rfl dX5_begin_46 ?_
  refine z_callVi (pc := 47) C (c_X5_liveRows w_ω5 cl_ω5 hp0 hl (by omega) hT) k_X5_52 zy_X5_liveRows rfl rfl w_ω5 rfl rfl ⟨(Nat.le_of_ble_eq_true rfl), (Nat.le_of_ble_eq_true rfl)⟩ (Nat.le_of_ble_eq_true rfl) dX5_begin_47 ⟨rfl, rfl⟩ ⟨(Nat.le_of_ble_eq_true rfl), (Nat.le_of_ble_eq_true rfl)⟩ (fun rv ω' hp => ?_)
  obtain ⟨hw', rfl⟩ := hp
  rw [hw']
  refine z_callVv (pc := 50) C (c_X4_open n_ω5 nc_ω5 ⟨⟨by decide, by decide⟩, ⟨by decide, by decide⟩, by omega, by omega⟩) k_X5_56 zy_X4_open rfl rfl n_ω5 rfl rfl ⟨(Nat.le_of_ble_eq_true rfl), (Nat.le_of_ble_eq_true rfl)⟩ (Nat.le_of_ble_eq_true rfl) dX5_begin_50 ⟨rfl, rfl⟩ ⟨(Nat.le_of_ble_eq_true rfl), (Nat.le_of_ble_eq_true rfl)⟩ (fun ω' hp => ?_)
  subst hp
  rw [show max (min (min (pu + 1) (l * (T - p))) ((256 : Nat) : Int)) 0 = max (min (pu + 1) (l * (T - p))) 0 by omega]
  generalize hu2' : max (min (pu + 1) (l * (T - p))) 0 = u2
  have hu2 : u2 = max (min (pu + 1) (l * (T - p))) 0 := hu2'.symm
  refine z_nm (fun ω6 hω6 => ?_)
  have cl_ω6 := z_at hω6 (zU_n' (z_neOO cl_ω5 n_ω5 (by decide)) cl_ω5)
  have ce_ω6 := z_at hω6 (zU_n' (z_neJO ce_ω5 n_ω5) ce_ω5)
  have f_ω6 := z_at hω6 (zU_n' (by omega) f_ω5)
  have s_ω6 := z_at hω6 (zU_n' (by omega) s_ω5)
  have sc_ω6 := z_at hω6 (zU_n' (z_neJO sc_ω5 n_ω5) sc_ω5)
  have x_ω6 := z_at hω6 (zU_n' (by omega) x_ω5)
  have ro_ω6 := z_at hω6 (zU_n' (by omega) ro_ω5)
  have co_ω6 := z_at hω6 (zU_n' (z_neJO co_ω5 n_ω5) co_ω5)
  have w_ω6 := z_at hω6 (zU_n' (z_neOO w_ω5 n_ω5 (by decide)) w_ω5)
  have fc_ω6 := z_at hω6 (zU_n' (z_neJO fc_ω5 n_ω5) fc_ω5)
  have nc_ω6 := z_at hω6 (zU_n' (z_neJO nc_ω5 n_ω5) nc_ω5)
  have xc_ω6 := z_at hω6 (zU_n' (z_neJO xc_ω5 n_ω5) xc_ω5)
  have n_ω6 := z_at hω6 (zU_s _ _ _)
  have hout : zOut a (a + 11) ω ω6 := by
    rw [hω6, hω5, hω4, hω3, hω2]
    exact ((((zOut.rf.u (by omega) (by omega)).u (by omega) (by omega)).u (by omega) (by omega)).u (by omega) (by omega)).u (by omega) (by omega)
  refine z_aload_n (i := 0) (pc := 53) C rfl rfl dX5_begin_53 ?_
  refine g_X5_30 (pc := 54) C w_ω6 rfl dX5_begin_54 ?_
  refine z_iload_n (i := 1) (pc := 57) C rfl rfl dX5_begin_57 ?_
  refine z_aload (i := 4) (pc := 58) C rfl dX5_begin_58 ?_
  refine z_iconst (pc := 60) C dX5_begin_60 ?_
  by_cases hc : pu < u2
  · refine z_callVv (pc := 61) C (c_X4_copy n_ω6 nc_ω6 ⟨⟨by decide, by decide⟩, ⟨by decide, by decide⟩, by omega, by omega⟩ ro_ω6 co_ω6 ⟨⟨by decide, by decide⟩, ⟨by decide, by decide⟩, by omega, by omega⟩ (by omega)) k_X5_60 zy_X4_copy rfl rfl n_ω6 rfl rfl ⟨(Nat.le_of_ble_eq_true rfl), (Nat.le_of_ble_eq_true rfl)⟩ (Nat.le_of_ble_eq_true rfl) dX5_begin_61 ⟨rfl, rfl⟩ ⟨(Nat.le_of_ble_eq_true rfl), (Nat.le_of_ble_eq_true rfl)⟩ (fun ω' hp => ?_)
    obtain ⟨g2, rfl, hg2⟩ := hp
    have hcv := zcopy_v hg2 (hgo.at (by omega) (by omega)) (hgo.v (by omega) (by omega)) (by decide)
    exact z_vret (pc := 64) C E dX5_begin_64 ⟨rfl, (by
  refine ⟨_, _, hout.u (by omega) (by omega), rn, rx, u2, ux, _, _, (zU_n' (z_neOJ w_ω6 nc_ω6) w_ω6), hN, (zU_n' (z_neOJ cl_ω6 nc_ω6) cl_ω6), (zU_n' (by omega) ce_ω6), (zU_n' (z_neOJ f_ω6 nc_ω6) f_ω6), (zU_n' (by omega) fc_ω6), (zU_n' (z_neOJ s_ω6 nc_ω6) s_ω6), (zU_n' (by omega) sc_ω6), (zU_n' (z_neOJ n_ω6 nc_ω6) n_ω6), (zU_s _ _ _), (zU_n' (z_neOJ x_ω6 nc_ω6) x_ω6), (zU_n' (by omega) xc_ω6), by omega, hux, ((zfill_RV (by omega)).set (by omega) hg2 hcv).c (fun r a b => rfl), fun r k a b c d => by
    by_cases e : r = pu
    · subst e; refine (hg2.1 k (by omega) d).trans ((if_pos d).trans ?_); exact zv_up (m := wp / 12 + 1) (hgo.at (by omega) (by omega)) (by rw [hgo.v (by omega) (by omega)]; have := zlim wp 0; simp only [Nat.add_zero] at this; omega) k c d
    · rw [zRS_out hg2 (by omega) e (by omega) d]; exact zfill_at a b (by omega) d, hu2, zfill_Up (by omega), zfill_Up (by omega)⟩)⟩
  · refine z_callVv (pc := 61) C (c_X4_copyN n_ω6 nc_ω6 ⟨⟨by decide, by decide⟩, ⟨by decide, by decide⟩, by omega, by omega⟩ ro_ω6 co_ω6 ⟨⟨by decide, by decide⟩, ⟨by decide, by decide⟩, by omega, by omega⟩ (by omega) (by omega)) k_X5_60 zy_X4_copy rfl rfl n_ω6 rfl rfl ⟨(Nat.le_of_ble_eq_true rfl), (Nat.le_of_ble_eq_true rfl)⟩ (Nat.le_of_ble_eq_true rfl) dX5_begin_61 ⟨rfl, rfl⟩ ⟨(Nat.le_of_ble_eq_true rfl), (Nat.le_of_ble_eq_true rfl)⟩ (fun ω' hp => ?_)
    subst hp
    exact z_vret (pc := 64) C E dX5_begin_64 ⟨rfl, (by
  refine ⟨_, _, hout, rn, rx, u2, ux, _, _, w_ω6, hN, cl_ω6, ce_ω6, f_ω6, fc_ω6, s_ω6, sc_ω6, n_ω6, nc_ω6, x_ω6, xc_ω6, by omega, hux, (zfill_RV (by omega)).c (fun r a b => by rw [if_neg (by omega)]), zfill_Up (by omega), hu2, zfill_Up (by omega), zfill_Up (by omega)⟩)⟩
