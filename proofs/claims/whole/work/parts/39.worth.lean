theorem zPw.cl {X : zX} {ω : zWd} {a : Nat} {T Wh cp t2 w2 p2 : Int} {wt g2 gu gn : Int → Int} {un : Int} {rn : Nat} (h : zPw X ω a T Wh cp wt gu gn un rn) : zPw X (zCl X ω (a + 1) (a + 2) t2 w2 p2 g2) a t2 w2 p2 g2 gu gn un rn := by
  obtain ⟨rx, ux, gr, gx, h1, h2, h3, h4, h5, h6, h7, h8, h9, h10, h11, h12, h13⟩ := h
  have k : ∀ b y, b ≠ a + 1 → b ≠ a + 2 → ω.1 b = y → (zCl X ω (a + 1) (a + 2) t2 w2 p2 g2).1 b = y := fun b y q1 q2 t => by rw [zCl_n q1 q2]; exact t
  exact ⟨rx, ux, gr, gx, k _ _ (by omega) (by omega) h1, h2, zCl_q, zCl_e (by omega), k _ _ (by omega) (by omega) h5, k _ _ (by omega) (by omega) h6, k _ _ (by omega) (by omega) h7, k _ _ (by omega) (by omega) h8, k _ _ (by omega) (by omega) h9, k _ _ (by omega) (by omega) h10, k _ _ (by omega) (by omega) h11, k _ _ (by omega) (by omega) h12, h13⟩
def zwk (f : Int → Int) (c : Int) : Int → Int := fun s => if 0 ≤ s ∧ s < 21 then c * f s else 0
theorem zwk_s {f : Int → Int} {c : Int} : zs (zwk f c) 41 = c * zs f 21 := by
  rw [zs_z (f := zwk f c) (m := 21) (by omega) (fun k a b => if_neg (by omega)), ← zs_mulc]
  exact zs_c (fun k a b => if_pos ⟨a, by omega⟩)
theorem zLw_c {w1 w2 : Int → Int} (h : ∀ s : Int, 0 ≤ s → s < 41 → w1 s = w2 s) (p : Int) (V : Int → Int) (u : Int) : zLw w1 p V u = zLw w2 p V u := zs_c (fun k a b => by rw [h k a (by omega)])
theorem zVb_c {w1 w2 : Int → Int} (h : ∀ s : Int, 0 ≤ s → s < 41 → w1 s = w2 s) (p U : Int) (V : Int → Int) : ∀ u : Nat, zVb w1 p U V u = zVb w2 p U V u
  | 0 => zLw_c h p V 0
  | u + 1 => by show max _ _ = max _ _; rw [zLw_c h, zVb_c h p U V u]
theorem zPb_c {w1 w2 : Int → Int} (h : ∀ s : Int, 0 ≤ s → s < 41 → w1 s = w2 s) (p U : Int) (V : Int → Int) : ∀ u : Nat, zPb w1 p U V u = zPb w2 p U V u
  | 0 => rfl
  | u + 1 => by unfold zPb; rw [zLw_c h, zVb_c h, zPb_c h p U V u]
theorem zWv_c {w1 w2 : Int → Int} (h : ∀ s : Int, 0 ≤ s → s < 41 → w1 s = w2 s) (p : Int) : ∀ n : Nat, zWv w1 p n = zWv w2 p n
  | 0 => rfl
  | n + 1 => by funext v; unfold zWv; rw [zWv_c h p n, zVb_c h]
theorem zPy_c {w1 w2 : Int → Int} (h : ∀ s : Int, 0 ≤ s → s < 41 → w1 s = w2 s) (p : Int) (pu : Nat) (n : Nat) : zPy w1 p pu n = zPy w2 p pu n := by
  cases n with
  | zero => rfl
  | succ n => show zPb _ _ _ _ _ = zPb _ _ _ _ _; rw [zWv_c h, zPb_c h]
set_option maxRecDepth 100000 in
set_option maxHeartbeats 4000000 in
theorem c_X6_worth {l0 : Launch} {X : zX} {x : Nat} {bk : Nat → Int → Int} {nv : Int} {np : Nat} {tv dv : Int → Int} {rt : Nat} {pu p b kp n : Int} {ω : zWd} (hR : zRH X ω x bk nv np tv dv rt) (hpur : -2147483648 ≤ pu ∧ pu < 2147483648) (hpr : -2147483648 ≤ p ∧ p < 2147483648) (hbr : -2147483648 ≤ b ∧ b < 2147483648) (hkpr : -2147483648 ≤ kp ∧ kp < 2147483648) (hnr : -2147483648 ≤ n ∧ n < 2147483648) : zMet l0 yX6_worth cX6_worth 8 (some .int) rmX6_worth X [.ref x, .int (zI pu), .int (zI p), .int (zI b), .int (zI kp), .int (zI n)] ω (zpi (fun r w => zOut x (x + 58) ω w ∧ (((zRt bk b ∧ (0 ≤ pu ∧ pu ≤ 60) ∧ (0 ≤ p ∧ p ≤ 20) ∧ (0 ≤ kp ∧ kp ≤ 1000) ∧ (0 ≤ n ∧ n ≤ 6)) ∧ r = zPy (zwk (bk b.toNat) kp) p pu.toNat n.toNat ∧ zRH X w x bk (zWv (zwk (bk b.toNat) kp) p n.toNat pu) (6 * n.toNat) tv dv rt) ∨ (¬ (zRt bk b ∧ (0 ≤ pu ∧ pu ≤ 60) ∧ (0 ≤ p ∧ p ≤ 20) ∧ (0 ≤ kp ∧ kp ≤ 1000) ∧ (0 ≤ n ∧ n ≤ 6)) ∧ r = -1 ∧ zRH X w x bk nv np tv dv rt)))) := by
  refine zMet.intro (by decide) (Nat.le_of_ble_eq_true rfl) ?_
  intro Γ C E N
  show Zw Γ ω 0 0 0 [some _, some _, some _, some _, some _, some _, none, none] []
  have hR0 := hR
  obtain ⟨gm, gN, gB, gT, gD, hX, hBs, hMv, hWk, hPk, hFv, hNu, hNc, hBo, hBc, hTk, hTc, hDp, hDc, hBk, hbk, hVN, hVT, hVD⟩ := hR
  refine z_aload_n (i := 0) (pc := 0) C rfl rfl dX6_worth_0 ?_
  refine z_iload_n (i := 3) (pc := 1) C rfl rfl dX6_worth_1 ?_
  refine z_callVq (pc := 2) C (c_X6_findRight hR0 hbr) k_X6_81 zy_X6_findRight rfl rfl hX rfl rfl ⟨(Nat.le_of_ble_eq_true rfl), (Nat.le_of_ble_eq_true rfl)⟩ (Nat.le_of_ble_eq_true rfl) dX6_worth_2 ⟨rfl, rfl⟩ ⟨(Nat.le_of_ble_eq_true rfl), (Nat.le_of_ble_eq_true rfl)⟩ (fun rv ω' hp => ?_)
  obtain ⟨hw', hp⟩ := hp
  rw [hw']
  clear hw'
  rcases hp with ⟨hyes, rfl⟩ | ⟨hno, rfl⟩
  · obtain ⟨b0, b1, bs⟩ := id hyes
    refine z_astore (i := 6) (lv' := [_, _, _, _, _, _, _, _]) (pc := 5) C (by decide) rfl rfl dX6_worth_5 ?_
    refine z_aload (i := 6) (pc := 7) C rfl dX6_worth_7 ?_
    refine z_ifnull (pc := 9) C dX6_worth_9 ?_
    refine z_iload_n (i := 1) (pc := 12) C rfl rfl dX6_worth_12 ?_
    refine z_iconst (pc := 13) C dX6_worth_13 ?_
    refine z_bipush (pc := 14) C (by decide +kernel) dX6_worth_14 ?_
    refine z_callSi (pc := 16) C (c_X6_isWithin) k_X6_70 zy_X6_isWithin.2 rfl rfl ⟨(Nat.le_of_ble_eq_true rfl), (Nat.le_of_ble_eq_true rfl)⟩ (Nat.le_of_ble_eq_true rfl) dX6_worth_16 ⟨rfl, rfl⟩ ⟨(Nat.le_of_ble_eq_true rfl), (Nat.le_of_ble_eq_true rfl)⟩ (fun rv ω' hp => ?_)
    obtain ⟨hw', hi⟩ := hp
    rw [hw']
    clear hw'
    refine z_if_eq (tgt := 55) (pc := 19) C dX6_worth_19 (by decide) (fun h19 => ?_) (fun h19 => ?_)
    · refine z_iconst (pc := 55) C dX6_worth_55 ?_
      exact z_iret (pc := 56) C E dX6_worth_56 ⟨_, rfl, ⟨zOut.rf, Or.inr ⟨by first | exact (fun h => hno h.1) | exact (fun h => by have := h.2; omega), rfl, hR0⟩⟩⟩
    · refine z_iload_n (i := 2) (pc := 22) C rfl rfl dX6_worth_22 ?_
      refine z_iconst (pc := 23) C dX6_worth_23 ?_
      refine z_bipush (pc := 24) C (by decide +kernel) dX6_worth_24 ?_
      refine z_callSi (pc := 26) C (c_X6_isWithin) k_X6_70 zy_X6_isWithin.2 rfl rfl ⟨(Nat.le_of_ble_eq_true rfl), (Nat.le_of_ble_eq_true rfl)⟩ (Nat.le_of_ble_eq_true rfl) dX6_worth_26 ⟨rfl, rfl⟩ ⟨(Nat.le_of_ble_eq_true rfl), (Nat.le_of_ble_eq_true rfl)⟩ (fun rv ω' hp => ?_)
      obtain ⟨hw', hi2⟩ := hp
      rw [hw']
      clear hw'
      refine z_if_eq (tgt := 55) (pc := 29) C dX6_worth_29 (by decide) (fun h29 => ?_) (fun h29 => ?_)
      · refine z_iconst (pc := 55) C dX6_worth_55 ?_
        exact z_iret (pc := 56) C E dX6_worth_56 ⟨_, rfl, ⟨zOut.rf, Or.inr ⟨by first | exact (fun h => hno h.1) | exact (fun h => by have := h.2; omega), rfl, hR0⟩⟩⟩
      · refine z_iload (i := 4) (pc := 32) C rfl dX6_worth_32 ?_
        refine z_iconst (pc := 34) C dX6_worth_34 ?_
        refine z_sipush (pc := 35) C (by decide +kernel) dX6_worth_35 ?_
        refine z_callSi (pc := 38) C (c_X6_isWithin) k_X6_70 zy_X6_isWithin.2 rfl rfl ⟨(Nat.le_of_ble_eq_true rfl), (Nat.le_of_ble_eq_true rfl)⟩ (Nat.le_of_ble_eq_true rfl) dX6_worth_38 ⟨rfl, rfl⟩ ⟨(Nat.le_of_ble_eq_true rfl), (Nat.le_of_ble_eq_true rfl)⟩ (fun rv ω' hp => ?_)
        obtain ⟨hw', hi3⟩ := hp
        rw [hw']
        clear hw'
        refine z_if_eq (tgt := 55) (pc := 41) C dX6_worth_41 (by decide) (fun h41 => ?_) (fun h41 => ?_)
        · refine z_iconst (pc := 55) C dX6_worth_55 ?_
          exact z_iret (pc := 56) C E dX6_worth_56 ⟨_, rfl, ⟨zOut.rf, Or.inr ⟨by first | exact (fun h => hno h.1) | exact (fun h => by have := h.2; omega), rfl, hR0⟩⟩⟩
        · refine z_iload (i := 5) (pc := 44) C rfl dX6_worth_44 ?_
          refine z_iconst (pc := 46) C dX6_worth_46 ?_
          refine z_bipush (pc := 47) C (by decide +kernel) dX6_worth_47 ?_
          refine z_callSi (pc := 49) C (c_X6_isWithin) k_X6_70 zy_X6_isWithin.2 rfl rfl ⟨(Nat.le_of_ble_eq_true rfl), (Nat.le_of_ble_eq_true rfl)⟩ (Nat.le_of_ble_eq_true rfl) dX6_worth_49 ⟨rfl, rfl⟩ ⟨(Nat.le_of_ble_eq_true rfl), (Nat.le_of_ble_eq_true rfl)⟩ (fun rv ω' hp => ?_)
          obtain ⟨hw', hi4⟩ := hp
          rw [hw']
          clear hw'
          refine z_if_ne (tgt := 57) (pc := 52) C dX6_worth_52 (by decide) (fun h52 => ?_) (fun h52 => ?_)
          · obtain ⟨T0, Wh0, cp0, wt0, gu0, gn0, un0, rn0, hPw⟩ := hPk
            obtain ⟨rx, ux, gr, gx, hw, hN, hq, he, hu, huc, hv, hvc, hn, hnc, hx, hxc, hun, hux⟩ := id hPw
            refine z_aload_n (i := 0) (pc := 57) C rfl rfl dX6_worth_57 ?_
            refine g_X6_29 (pc := 58) C hX rfl dX6_worth_58 ?_
            refine g_X6_160 (pc := 61) C hw rfl dX6_worth_61 ?_
            refine z_aload (i := 6) (pc := 64) C rfl dX6_worth_64 ?_
            refine z_iload (i := 4) (pc := 66) C rfl dX6_worth_66 ?_
            refine z_callVv (pc := 68) C (c_X1_loadOne hq he (hBk b.toNat (by omega)).1 (hBk b.toNat (by omega)).2 (hbk b.toNat (by omega)) (by omega)) k_X6_124 zy_X1_loadOne rfl rfl hq rfl rfl ⟨(Nat.le_of_ble_eq_true rfl), (Nat.le_of_ble_eq_true rfl)⟩ (Nat.le_of_ble_eq_true rfl) dX6_worth_68 ⟨rfl, rfl⟩ ⟨(Nat.le_of_ble_eq_true rfl), (Nat.le_of_ble_eq_true rfl)⟩ (fun ω' hp => ?_)
            obtain ⟨T2, wt2, hwe, hT2, hw1, hw2, hw3⟩ := hp
            have hfb := hbk b.toNat (by omega)
            have hPw2 := hPw.cl (t2 := T2) (w2 := 1000) (p2 := 3) (g2 := wt2)
            have hR := hR0.pk (zCl_out (a := x + 14) (t2 := T2) (w2 := 1000) (p2 := 3) (g2 := wt2) (by omega) (by omega)) ⟨_, _, _, _, _, _, _, _, hPw2⟩
            have hout2 := zCl_out (X := X) (ω := ω) (a := x + 14) (t2 := T2) (w2 := 1000) (p2 := 3) (g2 := wt2) (lo := x) (hi := x + 58) (by omega) (by omega)
            rw [← hwe] at hPw2 hR hout2
            clear hwe
            have hww2 : ∀ s : Int, 0 ≤ s → s < 41 → wt2 s = (zwk (bk b.toNat) kp) s := fun s a c => by
              unfold zwk
              by_cases e : s < 21
              · rw [hw1 s a e, if_pos ⟨a, e⟩]
              · rw [hw2 s a c (by omega), if_neg (by omega)]
            have hwt2 : ∀ s : Int, 0 ≤ s → s < 41 → 0 ≤ wt2 s := fun s a c => by
              by_cases e : s < 21
              · rw [hw1 s a e]; exact Int.mul_nonneg (by omega) (hfb s a (by omega)).1
              · rw [hw2 s a c (by omega)]; omega
            have hsum2 : zs wt2 41 ≤ 1000000 := by rw [zs_c (g := (zwk (bk b.toNat) kp)) (fun k a c => hww2 k a (by omega)), zwk_s, bs]; omega
            have hR1 := hR
            obtain ⟨gm, gN, gB, gT, gD, hX, hBs, hMv, hWk, hPk, hFv, hNu, hNc, hBo, hBc, hTk, hTc, hDp, hDc, hBk, hbk, hVN, hVT, hVD⟩ := hR
            obtain ⟨rx, ux, gr, gx, hw, hN, hq, he, hu, huc, hv, hvc, hn, hnc, hx, hxc, hun, hux⟩ := id hPw2
            refine z_aload_n (i := 0) (pc := 71) C rfl rfl dX6_worth_71 ?_
            refine g_X6_29 (pc := 72) C hX rfl dX6_worth_72 ?_
            refine z_iload_n (i := 1) (pc := 75) C rfl rfl dX6_worth_75 ?_
            refine z_iload_n (i := 2) (pc := 76) C rfl rfl dX6_worth_76 ?_
            refine z_iload (i := 5) (pc := 77) C rfl dX6_worth_77 ?_
            obtain ⟨k, rfl⟩ := Int.eq_ofNat_of_zero_le (show 0 ≤ pu by omega)
            obtain ⟨j, rfl⟩ := Int.eq_ofNat_of_zero_le (show 0 ≤ n by omega)
            refine z_callVi (pc := 79) C (c_X3_work hPw2 (by omega) hwt2 hw3 hsum2 (by omega) (by omega) (by omega)) k_X6_161 zy_X3_work rfl rfl hw rfl rfl ⟨(Nat.le_of_ble_eq_true rfl), (Nat.le_of_ble_eq_true rfl)⟩ (Nat.le_of_ble_eq_true rfl) dX6_worth_79 ⟨rfl, rfl⟩ ⟨(Nat.le_of_ble_eq_true rfl), (Nat.le_of_ble_eq_true rfl)⟩ (fun rv ω' hp => ?_)
            obtain ⟨gu3, gn3, un3, rn3, hout3, hPw3, hun3, hgv3, hrv⟩ := hp
            have hR := hR1.pk (hout3.w (by omega) (by omega)) ⟨_, _, _, _, _, _, _, _, hPw3⟩
            have hR2 := hR
            obtain ⟨gm, gN, gB, gT, gD, hX, hBs, hMv, hWk, hPk, hFv, hNu, hNc, hBo, hBc, hTk, hTc, hDp, hDc, hBk, hbk, hVN, hVT, hVD⟩ := hR
            obtain ⟨rx, ux, gr, gx, hw, hN, hq, he, hu, huc, hv, hvc, hn, hnc, hx, hxc, hun, hux⟩ := id hPw3
            refine z_istore (i := 7) (lv' := [_, _, _, _, _, _, _, _]) (pc := 82) C (by decide) rfl rfl dX6_worth_82 ?_
            refine z_aload_n (i := 0) (pc := 84) C rfl rfl dX6_worth_84 ?_
            refine g_X6_45 (pc := 85) C hX rfl dX6_worth_85 ?_
            refine z_iconst (pc := 88) C dX6_worth_88 ?_
            refine z_aload_n (i := 0) (pc := 89) C rfl rfl dX6_worth_89 ?_
            refine g_X6_29 (pc := 90) C hX rfl dX6_worth_90 ?_
            refine g_X6_164 (pc := 93) C hw rfl dX6_worth_93 ?_
            refine z_iload_n (i := 1) (pc := 96) C rfl rfl dX6_worth_96 ?_
            refine z_callVv (pc := 97) C (c_X4_copy hNu hNc ⟨⟨by decide, by decide⟩, ⟨by decide, by decide⟩, by omega, by omega⟩ hn hnc ⟨⟨by decide, by decide⟩, ⟨by decide, by decide⟩, by omega, by omega⟩ (by omega)) k_X6_167 zy_X4_copy rfl rfl hNu rfl rfl ⟨(Nat.le_of_ble_eq_true rfl), (Nat.le_of_ble_eq_true rfl)⟩ (Nat.le_of_ble_eq_true rfl) dX6_worth_97 ⟨rfl, rfl⟩ ⟨(Nat.le_of_ble_eq_true rfl), (Nat.le_of_ble_eq_true rfl)⟩ (fun ω' hp => ?_)
            obtain ⟨g4, rfl, hg4⟩ := hp
            have hcv := zcopy_v hg4 (hgv3.at (by omega) (by omega)) (hgv3.v (r := (k : Int)) (by omega) (by omega)) (by decide)
            refine z_aload_n (i := 0) (pc := 100) C rfl rfl dX6_worth_100 ?_
            refine z_bipush (pc := 101) C (by decide +kernel) dX6_worth_101 ?_
            refine z_iload (i := 5) (pc := 103) C rfl dX6_worth_103 ?_
            refine z_imul (pc := 105) C dX6_worth_105 ?_
            rw [show (6 : Int) * (j : Int) = ((6 * j : Nat) : Int) by omega]
            refine p_X6_58 (pc := 106) C (zU_n' (by omega) hX) (Nat.le_of_ble_eq_true rfl) dX6_worth_106 ?_
            refine z_iload (i := 7) (pc := 109) C rfl dX6_worth_109 ?_
            exact z_iret (pc := 111) C E dX6_worth_111 ⟨_, rfl, ⟨((hout2.tr (hout3.w (by omega) (by omega))).u (by omega) (by omega)).u (by omega) (by omega), Or.inl ⟨⟨hyes, by omega, by omega, by omega, by omega⟩, (by rw [hrv, zPy_c hww2]; rfl), by
  rw [← zWv_c hww2]
  exact (hR2.nu (zRV1 hcv)).ob (np2 := 6 * j)⟩⟩⟩
          · refine z_iconst (pc := 55) C dX6_worth_55 ?_
            exact z_iret (pc := 56) C E dX6_worth_56 ⟨_, rfl, ⟨zOut.rf, Or.inr ⟨by first | exact (fun h => hno h.1) | exact (fun h => by have := h.2; omega), rfl, hR0⟩⟩⟩
  · refine z_astoreN (i := 6) (lv' := [_, _, _, _, _, _, _, _]) (pc := 5) C (by decide) rfl rfl dX6_worth_5 ?_
    refine z_aloadN (i := 6) (pc := 7) C rfl dX6_worth_7 ?_
    refine z_ifnullN (tgt := 55) (pc := 9) C dX6_worth_9 (by decide) ?_
    refine z_iconst (pc := 55) C dX6_worth_55 ?_
    exact z_iret (pc := 56) C E dX6_worth_56 ⟨_, rfl, ⟨zOut.rf, Or.inr ⟨by first | exact (fun h => hno h.1) | exact (fun h => by have := h.2; omega), rfl, hR0⟩⟩⟩
