/-- the condition of a just premium -/
def zEn (f : Int → Int) (pu mi : Int) (n : Nat) (p : Int) : Prop := zSm (zwt f) p 1000 (zdl pu 1) n * 1000000 ≤ mi * 1000 ^ n
theorem zEn_mono {wt : Int → Int} {mi : Int} {pu n : Nat} (hw : ∀ s : Int, 0 ≤ s → s < 41 → 0 ≤ wt s) (hs : zs wt 41 = 10 ^ 3) {p q : Int} (hp : 0 ≤ p) (hpq : p ≤ q) (h : zSm wt p 1000 (zdl pu 1) n * 1000000 ≤ mi * 1000 ^ n) : zSm wt q 1000 (zdl pu 1) n * 1000000 ≤ mi * 1000 ^ n := by
  have h1 := zsurv (wt := wt) (p := p) (w := 1) (pu := pu) hp n
  have h2 := zsurv (wt := wt) (p := q) (w := 1) (pu := pu) (by omega) n
  have h3 := (zSv_mono hw hpq n pu pu (Int.le_refl _)).2
  rw [hs] at h1 h2
  have e : (10 : Int) ^ 3 = 1000 := rfl
  rw [e] at h1 h2
  omega
theorem zEn_top {wt : Int → Int} {mi T : Int} {pu n : Nat} (hmi : 0 ≤ mi) (hT : T < 21) (hw0 : ∀ s : Int, 0 ≤ s → s < 41 → T < s → wt s = 0) (hs : zs wt 41 = 10 ^ 3) : zSm wt 20 1000 (zdl pu 1) n * 1000000 ≤ mi * 1000 ^ n := by
  have h1 := zsurv (wt := wt) (p := 20) (w := 1) (pu := pu) (by decide) n
  rw [zSv_top hT hw0 n pu (by omega), hs] at h1
  have e : (10 : Int) ^ 3 = 1000 := rfl
  rw [e] at h1
  have h0 : 0 ≤ mi * 1000 ^ n := Int.mul_nonneg hmi (Int.le_of_lt (zpw (by decide) _))
  omega
set_option maxRecDepth 100000 in
set_option maxHeartbeats 4000000 in
theorem c_X6_just {l0 : Launch} {X : zX} {x : Nat} {bk : Nat → Int → Int} {nv : Int} {np : Nat} {tv dv : Int → Int} {rt : Nat} {pu b n mi : Int} {ω : zWd} (hR : zRH X ω x bk nv np tv dv rt) (hpur : -2147483648 ≤ pu ∧ pu < 2147483648) (hbr : -2147483648 ≤ b ∧ b < 2147483648) (hnr : -2147483648 ≤ n ∧ n < 2147483648) (hmir : -2147483648 ≤ mi ∧ mi < 2147483648) : zMet l0 yX6_just cX6_just 6 (some .int) rmX6_just X [.ref x, .int (zI pu), .int (zI b), .int (zI n), .int (zI mi)] ω (zpi (fun r w => zOut x (x + 58) ω w ∧ zRH X w x bk nv np tv dv rt ∧ (((zRt bk b ∧ (0 ≤ pu ∧ pu ≤ 100) ∧ (1 ≤ n ∧ n ≤ 12) ∧ (0 ≤ mi ∧ mi ≤ 1000000)) ∧ (0 ≤ r ∧ r ≤ 20) ∧ zEn (bk b.toNat) pu mi n.toNat r ∧ ∀ p : Int, 0 ≤ p → p < r → ¬ zEn (bk b.toNat) pu mi n.toNat p) ∨ (¬ (zRt bk b ∧ (0 ≤ pu ∧ pu ≤ 100) ∧ (1 ≤ n ∧ n ≤ 12) ∧ (0 ≤ mi ∧ mi ≤ 1000000)) ∧ r = -1)))) := by
  refine zMet.intro (by decide) (Nat.le_of_ble_eq_true rfl) ?_
  intro Γ C E N
  show Zw Γ ω 0 0 0 [some _, some _, some _, some _, some _, none] []
  have hR0 := hR
  obtain ⟨gm, gN, gB, gT, gD, hX, hBs, hMv, hWk, hPk, hFv, hNu, hNc, hBo, hBc, hTk, hTc, hDp, hDc, hBk, hbk, hVN, hVT, hVD⟩ := hR
  refine z_aload_n (i := 0) (pc := 0) C rfl rfl dX6_just_0 ?_
  refine z_iload_n (i := 2) (pc := 1) C rfl rfl dX6_just_1 ?_
  refine z_callVq (pc := 2) C (c_X6_findRight hR0 hbr) k_X6_81 zy_X6_findRight rfl rfl hX rfl rfl ⟨(Nat.le_of_ble_eq_true rfl), (Nat.le_of_ble_eq_true rfl)⟩ (Nat.le_of_ble_eq_true rfl) dX6_just_2 ⟨rfl, rfl⟩ ⟨(Nat.le_of_ble_eq_true rfl), (Nat.le_of_ble_eq_true rfl)⟩ (fun rv ω' hp => ?_)
  obtain ⟨hw', hp⟩ := hp
  rw [hw']
  clear hw'
  rcases hp with ⟨hyes, rfl⟩ | ⟨hno, rfl⟩
  · obtain ⟨b0, b1, bs⟩ := id hyes
    refine z_astore (i := 5) (lv' := [_, _, _, _, _, _]) (pc := 5) C (by decide) rfl rfl dX6_just_5 ?_
    refine z_aload (i := 5) (pc := 7) C rfl dX6_just_7 ?_
    refine z_ifnull (pc := 9) C dX6_just_9 ?_
    refine z_iload_n (i := 1) (pc := 12) C rfl rfl dX6_just_12 ?_
    refine z_iconst (pc := 13) C dX6_just_13 ?_
    refine z_bipush (pc := 14) C (by decide +kernel) dX6_just_14 ?_
    refine z_callSi (pc := 16) C (c_X6_isWithin) k_X6_70 zy_X6_isWithin.2 rfl rfl ⟨(Nat.le_of_ble_eq_true rfl), (Nat.le_of_ble_eq_true rfl)⟩ (Nat.le_of_ble_eq_true rfl) dX6_just_16 ⟨rfl, rfl⟩ ⟨(Nat.le_of_ble_eq_true rfl), (Nat.le_of_ble_eq_true rfl)⟩ (fun rv ω' hp => ?_)
    obtain ⟨hw', hi⟩ := hp
    rw [hw']
    clear hw'
    refine z_if_eq (tgt := 43) (pc := 19) C dX6_just_19 (by decide) (fun h19 => ?_) (fun h19 => ?_)
    · refine z_iconst (pc := 43) C dX6_just_43 ?_
      exact z_iret (pc := 44) C E dX6_just_44 ⟨_, rfl, ⟨zOut.rf, hR0, Or.inr ⟨by first | exact (fun h => hno h.1) | exact (fun h => by have := h.2; omega), rfl⟩⟩⟩
    · refine z_iload_n (i := 3) (pc := 22) C rfl rfl dX6_just_22 ?_
      refine z_iconst (pc := 23) C dX6_just_23 ?_
      refine z_bipush (pc := 24) C (by decide +kernel) dX6_just_24 ?_
      refine z_callSi (pc := 26) C (c_X6_isWithin) k_X6_70 zy_X6_isWithin.2 rfl rfl ⟨(Nat.le_of_ble_eq_true rfl), (Nat.le_of_ble_eq_true rfl)⟩ (Nat.le_of_ble_eq_true rfl) dX6_just_26 ⟨rfl, rfl⟩ ⟨(Nat.le_of_ble_eq_true rfl), (Nat.le_of_ble_eq_true rfl)⟩ (fun rv ω' hp => ?_)
      obtain ⟨hw', hi2⟩ := hp
      rw [hw']
      clear hw'
      refine z_if_eq (tgt := 43) (pc := 29) C dX6_just_29 (by decide) (fun h29 => ?_) (fun h29 => ?_)
      · refine z_iconst (pc := 43) C dX6_just_43 ?_
        exact z_iret (pc := 44) C E dX6_just_44 ⟨_, rfl, ⟨zOut.rf, hR0, Or.inr ⟨by first | exact (fun h => hno h.1) | exact (fun h => by have := h.2; omega), rfl⟩⟩⟩
      · refine z_iload (i := 4) (pc := 32) C rfl dX6_just_32 ?_
        refine z_iconst (pc := 34) C dX6_just_34 ?_
        refine z_ldc (a := 1000000) (pc := 35) C (by decide +kernel) q_X6_180 dX6_just_35 ?_
        refine z_callSi (pc := 37) C (c_X6_isWithin) k_X6_70 zy_X6_isWithin.2 rfl rfl ⟨(Nat.le_of_ble_eq_true rfl), (Nat.le_of_ble_eq_true rfl)⟩ (Nat.le_of_ble_eq_true rfl) dX6_just_37 ⟨rfl, rfl⟩ ⟨(Nat.le_of_ble_eq_true rfl), (Nat.le_of_ble_eq_true rfl)⟩ (fun rv ω' hp => ?_)
        obtain ⟨hw', hi3⟩ := hp
        rw [hw']
        clear hw'
        refine z_if_ne (tgt := 45) (pc := 40) C dX6_just_40 (by decide) (fun h40 => ?_) (fun h40 => ?_)
        · obtain ⟨T0, Wh0, cp0, wt0, hWq⟩ := hWk
          obtain ⟨rn, rx, p1, l1, R1, n1, un, ux, gf, gs, gn, gx, hw, hN, hq, he, hwrest⟩ := id hWq
          have hout1 : zOut x (x + 58) ω ω := zOut.rf
          refine z_aload_n (i := 0) (pc := 45) C rfl rfl dX6_just_45 ?_
          refine g_X6_22 (pc := 46) C hX rfl dX6_just_46 ?_
          refine g_X6_120 (pc := 49) C hw rfl dX6_just_49 ?_
          refine z_aload (i := 5) (pc := 52) C rfl dX6_just_52 ?_
          refine z_iconst (pc := 54) C dX6_just_54 ?_
          refine z_callVv (pc := 55) C (c_X1_loadOne hq he (hBk b.toNat (by omega)).1 (hBk b.toNat (by omega)).2 (hbk b.toNat (by omega)) (by omega)) k_X6_124 zy_X1_loadOne rfl rfl hq rfl rfl ⟨(Nat.le_of_ble_eq_true rfl), (Nat.le_of_ble_eq_true rfl)⟩ (Nat.le_of_ble_eq_true rfl) dX6_just_55 ⟨rfl, rfl⟩ ⟨(Nat.le_of_ble_eq_true rfl), (Nat.le_of_ble_eq_true rfl)⟩ (fun ω' hp => ?_)
          obtain ⟨T2, wt2, hwe, hT2, hw1, hw2, hw32⟩ := hp
          have hfb := hbk b.toNat (by omega)
          have hWq2 := hWq.cl (t2 := T2) (w2 := 1000) (p2 := 3) (g2 := wt2)
          have hR := hR0.wk (zCl_out (a := x + 3) (t2 := T2) (w2 := 1000) (p2 := 3) (g2 := wt2) (by omega) (by omega)) ⟨_, _, _, _, hWq2⟩
          have hout2 := hout1.tr (zCl_out (X := X) (a := x + 3) (t2 := T2) (w2 := 1000) (p2 := 3) (g2 := wt2) (lo := x) (hi := x + 58) (by omega) (by omega))
          rw [← hwe] at hWq2 hR hout2
          clear hwe
          have hwt2 : ∀ s : Int, 0 ≤ s → s < 41 → 0 ≤ wt2 s := fun s a c => by
            by_cases e : s < 21
            · rw [hw1 s a e, Int.one_mul]; exact (hfb s a (by omega)).1
            · rw [hw2 s a c (by omega)]; omega
          have hww2 : ∀ s : Int, 0 ≤ s → s < 41 → wt2 s = zwt (bk b.toNat) s := fun s a c => by
            unfold zwt
            by_cases e : s < 21
            · rw [hw1 s a e, Int.one_mul, if_pos ⟨a, e⟩]
            · rw [hw2 s a c (by omega), if_neg (by omega)]
          have hsum2 : zs wt2 41 = 10 ^ 3 := by rw [zs_c (g := zwt (bk b.toNat)) (fun k a c => hww2 k a (by omega)), zwt_s, bs]; rfl
          have hRl2 := hR
          obtain ⟨gm, gN, gB, gT, gD, hX, hBs, hMv, hWk, hPk, hFv, hNu, hNc, hBo, hBc, hTk, hTc, hDp, hDc, hBk, hbk, hVN, hVT, hVD⟩ := hR
          obtain ⟨rn, rx, p1, l1, R1, n1, un, ux, gf, gs, gn, gx, hw, hN, hq, he, hwrest⟩ := id hWq2
          refine z_aload_n (i := 0) (pc := 58) C rfl rfl dX6_just_58 ?_
          refine z_iload_n (i := 1) (pc := 59) C rfl rfl dX6_just_59 ?_
          refine z_iload_n (i := 3) (pc := 60) C rfl rfl dX6_just_60 ?_
          refine z_iload (i := 4) (pc := 61) C rfl dX6_just_61 ?_
          obtain ⟨k, rfl⟩ := Int.eq_ofNat_of_zero_le (show 0 ≤ pu by omega)
          obtain ⟨j, rfl⟩ := Int.eq_ofNat_of_zero_le (show 0 ≤ n by omega)
          refine z_callVi (pc := 63) C (c_X6_findPremium (T := T2) (wt := wt2) hWq2 hRl2 (by omega) (by omega) (by omega) hT2 hwt2 hw32 hsum2 (fun p q p0 pq q1 h => zEn_mono hwt2 hsum2 p0 pq h) (zEn_top (by omega) hT2.2 hw32 hsum2)) k_X6_181 zy_X6_findPremium rfl rfl hX rfl rfl ⟨(Nat.le_of_ble_eq_true rfl), (Nat.le_of_ble_eq_true rfl)⟩ (Nat.le_of_ble_eq_true rfl) dX6_just_63 ⟨rfl, rfl⟩ ⟨(Nat.le_of_ble_eq_true rfl), (Nat.le_of_ble_eq_true rfl)⟩ (fun rv ω' hp => ?_)
          obtain ⟨houta, hWk, hR, hr, hen, hmin⟩ := hp
          exact z_iret (pc := 66) C E dX6_just_66 ⟨_, rfl, ⟨hout2.tr houta, hR, Or.inl ⟨⟨hyes, by omega, by omega, by omega⟩, hr, (by unfold zEn; rw [← zSm_c hww2]; exact hen), fun p p0 p1 h => hmin p p0 p1 (by unfold zEn at h; rw [← zSm_c hww2] at h; exact h)⟩⟩⟩
        · refine z_iconst (pc := 43) C dX6_just_43 ?_
          exact z_iret (pc := 44) C E dX6_just_44 ⟨_, rfl, ⟨zOut.rf, hR0, Or.inr ⟨by first | exact (fun h => hno h.1) | exact (fun h => by have := h.2; omega), rfl⟩⟩⟩
  · refine z_astoreN (i := 5) (lv' := [_, _, _, _, _, _]) (pc := 5) C (by decide) rfl rfl dX6_just_5 ?_
    refine z_aloadN (i := 5) (pc := 7) C rfl dX6_just_7 ?_
    refine z_ifnullN (tgt := 43) (pc := 9) C dX6_just_9 (by decide) ?_
    refine z_iconst (pc := 43) C dX6_just_43 ?_
    exact z_iret (pc := 44) C E dX6_just_44 ⟨_, rfl, ⟨zOut.rf, hR0, Or.inr ⟨by first | exact (fun h => hno h.1) | exact (fun h => by have := h.2; omega), rfl⟩⟩⟩
