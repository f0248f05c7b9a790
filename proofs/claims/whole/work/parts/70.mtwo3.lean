set_option maxRecDepth 100000 in
set_option maxHeartbeats 4000000 in
theorem c_X7_twoN {l0 : Launch} {X : zX} {ω : zWd} {m : Nat} {bk : Nat → Int → Int} {nv : Int} {bh : Nat} {tv dv : Nat → Int} {rt c : Nat} {wh b b2 n gv : Int} (hR : zMD X ω m bk nv bh tv dv rt c) (hwhr : -2147483648 ≤ wh ∧ wh < 2147483648) (hbr : -2147483648 ≤ b ∧ b < 2147483648) (hb2r : -2147483648 ≤ b2 ∧ b2 < 2147483648) (hnr : -2147483648 ≤ n ∧ n < 2147483648) (hno : ¬ (zRt bk b ∧ zRt bk b2 ∧ (0 ≤ wh ∧ wh ≤ 65535) ∧ (1 ≤ n ∧ n ≤ 5) ∧ (wh % 16 ≤ 12 ∧ wh / 16 % 16 ≤ 12 ∧ wh / 256 % 16 ≤ 6 ∧ wh / 4096 % 16 ≤ 6))) : zMet l0 yX7_two cX7_two 13 (some .boolean) rmX7_two X [.ref m, .int (zI wh), .int (zI b), .int (zI b2), .int (zI n), .int (zI gv)] ω (zpi (fun r w => w = ω ∧ r = 0)) := by
  refine zMet.intro (by decide) (Nat.le_of_ble_eq_true rfl) ?_
  intro Γ C E N
  show Zw Γ ω 0 0 0 [some _, some _, some _, some _, some _, some _, none, none, none, none, none, none, none] []
  obtain ⟨gN, gm, g1, g2, g3, g4, g5, g6, g7, hM, hPt, hNu, hTk, hDp, hMd, hOn, hAl, hNx, hRa, hRb, hSu, hBn, hDd, hPw, hPr, hRe, hWo, hLa, hBe, hOt, hBt, hbk, hVn⟩ := hR
  refine z_iload_n (i := 1) (pc := 0) C rfl rfl dX7_two_0 ?_
  refine z_bipush (pc := 1) C (by decide +kernel) dX7_two_1 ?_
  refine z_iand (pc := 3) C dX7_two_3 ?_
  rw [z_and15 hwhr]
  refine z_istore (i := 6) (lv' := [_, _, _, _, _, _, _, _, _, _, _, _, _]) (pc := 4) C (by decide) rfl rfl dX7_two_4 ?_
  refine z_iload_n (i := 1) (pc := 6) C rfl rfl dX7_two_6 ?_
  refine z_iconst (pc := 7) C dX7_two_7 ?_
  refine z_ishr (pc := 8) C dX7_two_8 ?_
  rw [z_shr4 hwhr]
  refine z_bipush (pc := 9) C (by decide +kernel) dX7_two_9 ?_
  refine z_iand (pc := 11) C dX7_two_11 ?_
  rw [z_and15 (by omega)]
  refine z_istore (i := 7) (lv' := [_, _, _, _, _, _, _, _, _, _, _, _, _]) (pc := 12) C (by decide) rfl rfl dX7_two_12 ?_
  refine z_iload_n (i := 1) (pc := 14) C rfl rfl dX7_two_14 ?_
  refine z_bipush (pc := 15) C (by decide +kernel) dX7_two_15 ?_
  refine z_ishr (pc := 17) C dX7_two_17 ?_
  rw [z_shr8 hwhr]
  refine z_bipush (pc := 18) C (by decide +kernel) dX7_two_18 ?_
  refine z_iand (pc := 20) C dX7_two_20 ?_
  rw [z_and15 (by omega)]
  refine z_istore (i := 8) (lv' := [_, _, _, _, _, _, _, _, _, _, _, _, _]) (pc := 21) C (by decide) rfl rfl dX7_two_21 ?_
  refine z_iload_n (i := 1) (pc := 23) C rfl rfl dX7_two_23 ?_
  refine z_bipush (pc := 24) C (by decide +kernel) dX7_two_24 ?_
  refine z_ishr (pc := 26) C dX7_two_26 ?_
  rw [z_shr12 hwhr]
  refine z_bipush (pc := 27) C (by decide +kernel) dX7_two_27 ?_
  refine z_iand (pc := 29) C dX7_two_29 ?_
  rw [z_and15 (by omega)]
  refine z_istore (i := 9) (lv' := [_, _, _, _, _, _, _, _, _, _, _, _, _]) (pc := 30) C (by decide) rfl rfl dX7_two_30 ?_
  refine z_iload_n (i := 1) (pc := 32) C rfl rfl dX7_two_32 ?_
  refine z_iconst (pc := 33) C dX7_two_33 ?_
  refine z_ldc (a := 65535) (pc := 34) C (by decide +kernel) q_X7_169 dX7_two_34 ?_
  refine z_callSi (pc := 36) C (c_X7_in) k_X7_80 zy_X7_in.2 rfl rfl ⟨(Nat.le_of_ble_eq_true rfl), (Nat.le_of_ble_eq_true rfl)⟩ (Nat.le_of_ble_eq_true rfl) dX7_two_36 ⟨rfl, rfl⟩ ⟨(Nat.le_of_ble_eq_true rfl), (Nat.le_of_ble_eq_true rfl)⟩ (fun rv ω' hp => ?_)
  obtain ⟨hw', hi1⟩ := hp
  rw [hw']
  clear hw'
  refine z_if_eq (tgt := 96) (pc := 39) C dX7_two_39 (by decide) (fun h39 => ?_) (fun h39 => ?_)
  · refine z_iconst (pc := 96) C dX7_two_96 ?_
    exact z_zret (pc := 97) C E (by decide +kernel) dX7_two_97 ⟨_, rfl, ⟨rfl, rfl⟩⟩
  · refine z_iload (i := 6) (pc := 42) C rfl dX7_two_42 ?_
    refine z_bipush (pc := 44) C (by decide +kernel) dX7_two_44 ?_
    refine z_icmp_gt (tgt := 96) (pc := 46) C dX7_two_46 (by decide) (fun h46 => ?_) (fun h46 => ?_)
    · refine z_iconst (pc := 96) C dX7_two_96 ?_
      exact z_zret (pc := 97) C E (by decide +kernel) dX7_two_97 ⟨_, rfl, ⟨rfl, rfl⟩⟩
    · refine z_iload (i := 7) (pc := 49) C rfl dX7_two_49 ?_
      refine z_bipush (pc := 51) C (by decide +kernel) dX7_two_51 ?_
      refine z_icmp_gt (tgt := 96) (pc := 53) C dX7_two_53 (by decide) (fun h53 => ?_) (fun h53 => ?_)
      · refine z_iconst (pc := 96) C dX7_two_96 ?_
        exact z_zret (pc := 97) C E (by decide +kernel) dX7_two_97 ⟨_, rfl, ⟨rfl, rfl⟩⟩
      · refine z_iload (i := 8) (pc := 56) C rfl dX7_two_56 ?_
        refine z_bipush (pc := 58) C (by decide +kernel) dX7_two_58 ?_
        refine z_icmp_gt (tgt := 96) (pc := 60) C dX7_two_60 (by decide) (fun h60 => ?_) (fun h60 => ?_)
        · refine z_iconst (pc := 96) C dX7_two_96 ?_
          exact z_zret (pc := 97) C E (by decide +kernel) dX7_two_97 ⟨_, rfl, ⟨rfl, rfl⟩⟩
        · refine z_iload (i := 9) (pc := 63) C rfl dX7_two_63 ?_
          refine z_bipush (pc := 65) C (by decide +kernel) dX7_two_65 ?_
          refine z_icmp_gt (tgt := 96) (pc := 67) C dX7_two_67 (by decide) (fun h67 => ?_) (fun h67 => ?_)
          · refine z_iconst (pc := 96) C dX7_two_96 ?_
            exact z_zret (pc := 97) C E (by decide +kernel) dX7_two_97 ⟨_, rfl, ⟨rfl, rfl⟩⟩
          · refine z_aload_n (i := 0) (pc := 70) C rfl rfl dX7_two_70 ?_
            refine z_iload_n (i := 2) (pc := 71) C rfl rfl dX7_two_71 ?_
            refine z_callVi (pc := 72) C (c_X7_isRight hM hPt hbk hbr) k_X7_88 zy_X7_isRight rfl rfl hM rfl rfl ⟨(Nat.le_of_ble_eq_true rfl), (Nat.le_of_ble_eq_true rfl)⟩ (Nat.le_of_ble_eq_true rfl) dX7_two_72 ⟨rfl, rfl⟩ ⟨(Nat.le_of_ble_eq_true rfl), (Nat.le_of_ble_eq_true rfl)⟩ (fun rv ω' hp => ?_)
            obtain ⟨hw', hq1⟩ := hp
            rw [hw']
            clear hw'
            have hq1r : rv = 0 ∨ rv = 1 := by rcases hq1 with h | h <;> omega
            refine z_if_eq (tgt := 96) (pc := 75) C dX7_two_75 (by decide) (fun h75 => ?_) (fun h75 => ?_)
            · refine z_iconst (pc := 96) C dX7_two_96 ?_
              exact z_zret (pc := 97) C E (by decide +kernel) dX7_two_97 ⟨_, rfl, ⟨rfl, rfl⟩⟩
            · have hq1y : zRt bk b := by rcases hq1 with h | h; (· exact h.1); (· omega)
              refine z_aload_n (i := 0) (pc := 78) C rfl rfl dX7_two_78 ?_
              refine z_iload_n (i := 3) (pc := 79) C rfl rfl dX7_two_79 ?_
              refine z_callVi (pc := 80) C (c_X7_isRight hM hPt hbk hb2r) k_X7_88 zy_X7_isRight rfl rfl hM rfl rfl ⟨(Nat.le_of_ble_eq_true rfl), (Nat.le_of_ble_eq_true rfl)⟩ (Nat.le_of_ble_eq_true rfl) dX7_two_80 ⟨rfl, rfl⟩ ⟨(Nat.le_of_ble_eq_true rfl), (Nat.le_of_ble_eq_true rfl)⟩ (fun rv ω' hp => ?_)
              obtain ⟨hw', hq2⟩ := hp
              rw [hw']
              clear hw'
              have hq2r : rv = 0 ∨ rv = 1 := by rcases hq2 with h | h <;> omega
              refine z_if_eq (tgt := 96) (pc := 83) C dX7_two_83 (by decide) (fun h83 => ?_) (fun h83 => ?_)
              · refine z_iconst (pc := 96) C dX7_two_96 ?_
                exact z_zret (pc := 97) C E (by decide +kernel) dX7_two_97 ⟨_, rfl, ⟨rfl, rfl⟩⟩
              · have hq2y : zRt bk b2 := by rcases hq2 with h | h; (· exact h.1); (· omega)
                refine z_iload (i := 4) (pc := 86) C rfl dX7_two_86 ?_
                refine z_iconst (pc := 88) C dX7_two_88 ?_
                refine z_iconst (pc := 89) C dX7_two_89 ?_
                refine z_callSi (pc := 90) C (c_X7_in) k_X7_80 zy_X7_in.2 rfl rfl ⟨(Nat.le_of_ble_eq_true rfl), (Nat.le_of_ble_eq_true rfl)⟩ (Nat.le_of_ble_eq_true rfl) dX7_two_90 ⟨rfl, rfl⟩ ⟨(Nat.le_of_ble_eq_true rfl), (Nat.le_of_ble_eq_true rfl)⟩ (fun rv ω' hp => ?_)
                obtain ⟨hw', hi2⟩ := hp
                rw [hw']
                clear hw'
                refine z_if_ne (tgt := 98) (pc := 93) C dX7_two_93 (by decide) (fun h93 => ?_) (fun h93 => ?_)
                · exact absurd ⟨hq1y, hq2y, by omega, by omega, by omega⟩ hno
                · refine z_iconst (pc := 96) C dX7_two_96 ?_
                  exact z_zret (pc := 97) C E (by decide +kernel) dX7_two_97 ⟨_, rfl, ⟨rfl, rfl⟩⟩
set_option maxRecDepth 100000 in
set_option maxHeartbeats 4000000 in
theorem c_X7_twoY {l0 : Launch} {X : zX} {ω : zWd} {m : Nat} {bk : Nat → Int → Int} {nv : Int} {bh : Nat} {tv dv : Nat → Int} {rt c : Nat} {wh b b2 n gv : Int} (hR : zMD X ω m bk nv bh tv dv rt c) (hc0 : c ≤ 3698) (hwhr : -2147483648 ≤ wh ∧ wh < 2147483648) (hbr : -2147483648 ≤ b ∧ b < 2147483648) (hb2r : -2147483648 ≤ b2 ∧ b2 < 2147483648) (hnr : -2147483648 ≤ n ∧ n < 2147483648) (hgv : gv = 0 ∨ gv = 1) (hyes : (zRt bk b ∧ zRt bk b2 ∧ (0 ≤ wh ∧ wh ≤ 65535) ∧ (1 ≤ n ∧ n ≤ 5) ∧ (wh % 16 ≤ 12 ∧ wh / 16 % 16 ≤ 12 ∧ wh / 256 % 16 ≤ 6 ∧ wh / 4096 % 16 ≤ 6))) : zMet l0 yX7_two cX7_two 13 (some .boolean) (rtX7_two c) X [.ref m, .int (zI wh), .int (zI b), .int (zI b2), .int (zI n), .int (zI gv)] ω (zpi (fun r w => r = 1 ∧ (∀ b : Nat, b < m → w.1 b = ω.1 b) ∧ zMD X w m bk (zTw (bk b.toNat) (bk b2.toNat) (wh % 16) (wh / 16 % 16) (wh / 256 % 16) (wh / 4096 % 16) n.toNat gv) (2 * n.toNat) tv dv rt 3698)) := by
  refine zMet.intro (by decide) (Nat.le_of_ble_eq_true rfl) ?_
  intro Γ C E N
  show Zw Γ ω 0 0 0 [some _, some _, some _, some _, some _, some _, none, none, none, none, none, none, none] []
  obtain ⟨hy1, hy2, hwh, hn, hw1, hw2, hw3, hw4⟩ := hyes
  obtain ⟨b0, b1, bs⟩ := id hy1
  obtain ⟨d0, d1, ds⟩ := id hy2
  obtain ⟨gN, gm, g1, g2, g3, g4, g5, g6, g7, hM, hPt, hNu, hTk, hDp, hMd, hOn, hAl, hNx, hRa, hRb, hSu, hBn, hDd, hPw, hPr, hRe, hWo, hLa, hBe, hOt, hBt, hbk, hVn⟩ := hR
  obtain ⟨n, rfl⟩ := Int.eq_ofNat_of_zero_le (show 0 ≤ n by omega)
  obtain ⟨a, ha⟩ := Int.eq_ofNat_of_zero_le (show 0 ≤ wh % 16 by omega)
  obtain ⟨e, he⟩ := Int.eq_ofNat_of_zero_le (show 0 ≤ wh / 16 % 16 by omega)
  obtain ⟨p, hp'⟩ := Int.eq_ofNat_of_zero_le (show 0 ≤ wh / 256 % 16 by omega)
  obtain ⟨q, hq'⟩ := Int.eq_ofNat_of_zero_le (show 0 ≤ wh / 4096 % 16 by omega)
  have hf1 := hbk b.toNat (by omega)
  have hf2 := hbk b2.toNat (by omega)
  refine z_iload_n (i := 1) (pc := 0) C rfl rfl dX7_two_0 ?_
  refine z_bipush (pc := 1) C (by decide +kernel) dX7_two_1 ?_
  refine z_iand (pc := 3) C dX7_two_3 ?_
  rw [z_and15 hwhr, ha]
  refine z_istore (i := 6) (lv' := [_, _, _, _, _, _, _, _, _, _, _, _, _]) (pc := 4) C (by decide) rfl rfl dX7_two_4 ?_
  refine z_iload_n (i := 1) (pc := 6) C rfl rfl dX7_two_6 ?_
  refine z_iconst (pc := 7) C dX7_two_7 ?_
  refine z_ishr (pc := 8) C dX7_two_8 ?_
  rw [z_shr4 hwhr]
  refine z_bipush (pc := 9) C (by decide +kernel) dX7_two_9 ?_
  refine z_iand (pc := 11) C dX7_two_11 ?_
  rw [z_and15 (by omega), he]
  refine z_istore (i := 7) (lv' := [_, _, _, _, _, _, _, _, _, _, _, _, _]) (pc := 12) C (by decide) rfl rfl dX7_two_12 ?_
  refine z_iload_n (i := 1) (pc := 14) C rfl rfl dX7_two_14 ?_
  refine z_bipush (pc := 15) C (by decide +kernel) dX7_two_15 ?_
  refine z_ishr (pc := 17) C dX7_two_17 ?_
  rw [z_shr8 hwhr]
  refine z_bipush (pc := 18) C (by decide +kernel) dX7_two_18 ?_
  refine z_iand (pc := 20) C dX7_two_20 ?_
  rw [z_and15 (by omega), hp']
  refine z_istore (i := 8) (lv' := [_, _, _, _, _, _, _, _, _, _, _, _, _]) (pc := 21) C (by decide) rfl rfl dX7_two_21 ?_
  refine z_iload_n (i := 1) (pc := 23) C rfl rfl dX7_two_23 ?_
  refine z_bipush (pc := 24) C (by decide +kernel) dX7_two_24 ?_
  refine z_ishr (pc := 26) C dX7_two_26 ?_
  rw [z_shr12 hwhr]
  refine z_bipush (pc := 27) C (by decide +kernel) dX7_two_27 ?_
  refine z_iand (pc := 29) C dX7_two_29 ?_
  rw [z_and15 (by omega), hq']
  refine z_istore (i := 9) (lv' := [_, _, _, _, _, _, _, _, _, _, _, _, _]) (pc := 30) C (by decide) rfl rfl dX7_two_30 ?_
  refine z_iload_n (i := 1) (pc := 32) C rfl rfl dX7_two_32 ?_
  refine z_iconst (pc := 33) C dX7_two_33 ?_
  refine z_ldc (a := 65535) (pc := 34) C (by decide +kernel) q_X7_169 dX7_two_34 ?_
  refine z_callSi (pc := 36) C (c_X7_in) k_X7_80 zy_X7_in.2 rfl rfl ⟨(Nat.le_of_ble_eq_true rfl), (Nat.le_of_ble_eq_true rfl)⟩ (Nat.le_of_ble_eq_true rfl) dX7_two_36 ⟨rfl, rfl⟩ ⟨Nat.zero_le _, Nat.zero_le _⟩ (fun rv ω' hp => ?_)
  obtain ⟨hw', hi1⟩ := hp
  rw [hw']
  clear hw'
  refine z_if_eq (tgt := 96) (pc := 39) C dX7_two_39 (by decide) (fun h39 => absurd h39 (by omega)) (fun h39 => ?_)
  refine z_iload (i := 6) (pc := 42) C rfl dX7_two_42 ?_
  refine z_bipush (pc := 44) C (by decide +kernel) dX7_two_44 ?_
  refine z_icmp_gt (tgt := 96) (pc := 46) C dX7_two_46 (by decide) (fun h46 => absurd h46 (by omega)) (fun h46 => ?_)
  refine z_iload (i := 7) (pc := 49) C rfl dX7_two_49 ?_
  refine z_bipush (pc := 51) C (by decide +kernel) dX7_two_51 ?_
  refine z_icmp_gt (tgt := 96) (pc := 53) C dX7_two_53 (by decide) (fun h53 => absurd h53 (by omega)) (fun h53 => ?_)
  refine z_iload (i := 8) (pc := 56) C rfl dX7_two_56 ?_
  refine z_bipush (pc := 58) C (by decide +kernel) dX7_two_58 ?_
  refine z_icmp_gt (tgt := 96) (pc := 60) C dX7_two_60 (by decide) (fun h60 => absurd h60 (by omega)) (fun h60 => ?_)
  refine z_iload (i := 9) (pc := 63) C rfl dX7_two_63 ?_
  refine z_bipush (pc := 65) C (by decide +kernel) dX7_two_65 ?_
  refine z_icmp_gt (tgt := 96) (pc := 67) C dX7_two_67 (by decide) (fun h67 => absurd h67 (by omega)) (fun h67 => ?_)
  refine z_aload_n (i := 0) (pc := 70) C rfl rfl dX7_two_70 ?_
  refine z_iload_n (i := 2) (pc := 71) C rfl rfl dX7_two_71 ?_
  refine z_callVi (pc := 72) C (c_X7_isRight hM hPt hbk hbr) k_X7_88 zy_X7_isRight rfl rfl hM rfl rfl ⟨(Nat.le_of_ble_eq_true rfl), (Nat.le_of_ble_eq_true rfl)⟩ (Nat.le_of_ble_eq_true rfl) dX7_two_72 ⟨rfl, rfl⟩ ⟨Nat.zero_le _, Nat.zero_le _⟩ (fun rv ω' hp => ?_)
  obtain ⟨hw', hq1⟩ := hp
  rw [hw']
  clear hw'
  have hq1r : rv = 0 ∨ rv = 1 := by rcases hq1 with h | h <;> omega
  have hq11 : rv = 1 := by rcases hq1 with h | h; (· exact h.2); (· exact absurd (by assumption) h.1)
  refine z_if_eq (tgt := 96) (pc := 75) C dX7_two_75 (by decide) (fun h75 => absurd h75 (by omega)) (fun h75 => ?_)
  refine z_aload_n (i := 0) (pc := 78) C rfl rfl dX7_two_78 ?_
  refine z_iload_n (i := 3) (pc := 79) C rfl rfl dX7_two_79 ?_
  refine z_callVi (pc := 80) C (c_X7_isRight hM hPt hbk hb2r) k_X7_88 zy_X7_isRight rfl rfl hM rfl rfl ⟨(Nat.le_of_ble_eq_true rfl), (Nat.le_of_ble_eq_true rfl)⟩ (Nat.le_of_ble_eq_true rfl) dX7_two_80 ⟨rfl, rfl⟩ ⟨Nat.zero_le _, Nat.zero_le _⟩ (fun rv ω' hp => ?_)
  obtain ⟨hw', hq2⟩ := hp
  rw [hw']
  clear hw'
  have hq2r : rv = 0 ∨ rv = 1 := by rcases hq2 with h | h <;> omega
  have hq21 : rv = 1 := by rcases hq2 with h | h; (· exact h.2); (· exact absurd (by assumption) h.1)
  refine z_if_eq (tgt := 96) (pc := 83) C dX7_two_83 (by decide) (fun h83 => absurd h83 (by omega)) (fun h83 => ?_)
  refine z_iload (i := 4) (pc := 86) C rfl dX7_two_86 ?_
  refine z_iconst (pc := 88) C dX7_two_88 ?_
  refine z_iconst (pc := 89) C dX7_two_89 ?_
  refine z_callSi (pc := 90) C (c_X7_in) k_X7_80 zy_X7_in.2 rfl rfl ⟨(Nat.le_of_ble_eq_true rfl), (Nat.le_of_ble_eq_true rfl)⟩ (Nat.le_of_ble_eq_true rfl) dX7_two_90 ⟨rfl, rfl⟩ ⟨Nat.zero_le _, Nat.zero_le _⟩ (fun rv ω' hp => ?_)
  obtain ⟨hw', hi2⟩ := hp
  rw [hw']
  clear hw'
  refine z_if_ne (tgt := 98) (pc := 93) C dX7_two_93 (by decide) (fun h93 => ?_) (fun h93 => absurd h93 (by omega))
  refine z_iconst (pc := 98) C dX7_two_98 ?_
  refine z_istore (i := 10) (lv' := [_, _, _, _, _, _, _, _, _, _, _, _, _]) (pc := 99) C (by decide) rfl rfl dX7_two_99 ?_
  have hZ := fun K => lz_two0 (ω0 := ω) (c0 := c) (n := n) (a := a) (e := e) (p := p) (q := q) (wh := wh) (b := b) (b2 := b2) (gv := gv) (o12 := none) (V := fun _ => 0) C hM (fun _ => rfl) K 43 0 ω c none (by omega) zLo.rf ((hBt.p (fun _ => 0)).h (by omega)) (by omega)
  rw [Nat.sub_self, Nat.mul_zero] at hZ
  refine hZ ?_
  clear hZ
  intro ω1 c1 oy1 hL1 hP1 hc1
  have hM1 := (hL1 m (by omega)).trans hM
  obtain ⟨hh, ff, p1, p2, p3, p4, p5, p6⟩ := id hP1
  refine z_aload_n (i := 0) (pc := 142) C rfl rfl dX7_two_142 ?_
  refine z_iconst (pc := 143) C dX7_two_143 ?_
  refine z_iload (i := 6) (pc := 144) C rfl dX7_two_144 ?_
  refine z_iload (i := 7) (pc := 146) C rfl dX7_two_146 ?_
  refine z_callVr (pc := 148) C (d_X7_pair0 hM1 (by omega) hP1 (a * 43 + e) (by omega) (by omega)) k_X7_170 zy_X7_pair rfl rfl hM1 rfl rfl ⟨(Nat.le_of_ble_eq_true rfl), (Nat.le_of_ble_eq_true rfl)⟩ (Nat.le_of_ble_eq_true rfl) dX7_two_148 ⟨rfl, rfl⟩ ⟨by show _ ≤ 3698 - c; omega, by show _ ≤ 72 * (3698 - c); omega⟩ (fun rv ω' hp => ?_)
  obtain ⟨hw', hq'⟩ := hp
  rw [hw', hq']
  clear hw' hq'
  refine z_iconst (pc := 151) C dX7_two_151 ?_
  refine z_iconst (pc := 152) C dX7_two_152 ?_
  refine z_iastore (pc := 153) C (p4 (a * 43 + e) (by omega)) dX7_two_153 ?_
  refine z_iconst (pc := 154) C dX7_two_154 ?_
  refine z_istore (i := 10) (lv' := [_, _, _, _, _, _, _, _, _, _, _, _, _]) (pc := 155) C (by decide) rfl rfl dX7_two_155 ?_
  have hP2 := hP1.u (k := a * 43 + e) (by omega) (zNm_1 (p6 (a * 43 + e) (by omega)))
  have hL2 : zLo m ω (zU ω1 (m + 2446 + (a * 43 + e)) (zAI X 72 (zup (ff (a * 43 + e)) 0 1))) := hL1.u (by omega)
  refine lp_twoT (n := n) (a := a) (e := e) (p := p) (q := q) (bk := bk) C hM hPt ⟨b0, b1⟩ ⟨d0, d1⟩ hf1 hf2 (by omega) hgv (by omega) (by omega) hc0 ?_ n 0 _ c1 _ _ _ (by omega) hL2 hP2 (by omega) (zIv_0 (by omega))
  intro ω3 V3 ox3 oy3 hL3 hP3 hi3
  have hM3 := (hL3 m (by omega)).trans hM
  have hNu3 := (hL3 (m + 10) (by omega)).trans hNu
  have hms : zs (fun k => V3 k.toNat) 1849 ≤ 1000 ^ 15 := by
    have h0 : zs (fun k => V3 k.toNat) 1849 = zP0 V3 (fun _ _ => 1) := zs_c (fun k a0 b0 => by (try dsimp only); rw [Int.mul_one])
    rw [h0]
    have h1 := hi3.2.1
    have h2 : (1000 : Int) ^ (3 * n) ≤ 1000 ^ 15 := by
      rw [show 15 = 3 * n + (15 - 3 * n) by omega, Int.pow_add]
      have h3 : (0 : Int) < 1000 ^ (3 * n) := zpw (by decide) _
      have h4 : (0 : Int) < 1000 ^ (15 - 3 * n) := zpw (by decide) _
      have h5 : (1000 : Int) ^ (3 * n) * 1 ≤ 1000 ^ (3 * n) * 1000 ^ (15 - 3 * n) := Int.mul_le_mul_of_nonneg_left (by omega) (by omega)
      omega
    omega
  have hfin : zs (fun k => V3 k.toNat) 1849 = (zTw (bk b.toNat) (bk b2.toNat) (wh % 16) (wh / 16 % 16) (wh / 256 % 16) (wh / 4096 % 16) ((n : Int)).toNat gv) := by
    have h0 : zs (fun k => V3 k.toNat) 1849 = zP0 V3 (fun _ _ => 1) := zs_c (fun k a0 b0 => by (try dsimp only); rw [Int.mul_one])
    have h1 := hi3.1
    rw [Nat.sub_self] at h1
    rw [h0, ha, he, hp', hq', zTw_v hf1 hf2 bs ds (by omega) (by omega) (by omega) (by omega), show ((n : Int)).toNat = n by omega]
    exact h1
  refine z_aload_n (i := 0) (pc := 350) C rfl rfl dX7_two_350 ?_
  refine g_X7_14 (pc := 351) C hM3 rfl dX7_two_351 ?_
  refine z_callSv (pc := 354) C (c_X7_zero hNu3) k_X7_112 zy_X7_zero.2 rfl rfl ⟨(Nat.le_of_ble_eq_true rfl), (Nat.le_of_ble_eq_true rfl)⟩ (Nat.le_of_ble_eq_true rfl) dX7_two_354 ⟨rfl, rfl⟩ ⟨by show _ ≤ 3698 - c; omega, by show _ ≤ 72 * (3698 - c); omega⟩ (fun ω' hp => ?_)
  obtain ⟨gz, rfl, hgz⟩ := hp
  refine z_iconst (pc := 357) C dX7_two_357 ?_
  refine z_istore (i := 10) (lv' := [_, _, _, _, _, _, _, _, _, _, _, _, _]) (pc := 358) C (by decide) rfl rfl dX7_two_358 ?_
  refine lp_twoN1 (ω1 := ω3) (V := V3) C hM3 hc0 hms ?_ 43 0 _ gz _ (by omega) (fun b hb h2 => zU_n h2) (hP3.lo (by omega)) ⟨zU_s _ _ _, hgz⟩
  intro ω4 gA4 oy4 hL4 hP4 hN4
  have hM4 := (hL4 m (by omega) (by omega)).trans hM3
  refine z_aload_n (i := 0) (pc := 408) C rfl rfl dX7_two_408 ?_
  refine z_iconst (pc := 409) C dX7_two_409 ?_
  refine z_iload (i := 4) (pc := 410) C rfl dX7_two_410 ?_
  refine z_imul (pc := 412) C dX7_two_412 ?_
  rw [show (2 : Int) * (n : Int) = ((2 * n : Nat) : Int) by omega]
  refine p_X7_143 (pc := 413) C hM4 (Nat.le_of_ble_eq_true rfl) dX7_two_413 ?_
  refine z_iconst (pc := 416) C dX7_two_416 ?_
  exact z_zret (pc := 417) C E (by decide +kernel) dX7_two_417 ⟨_, rfl, ⟨rfl, fun b hb => (zU_n (by omega)).trans ((hL4 b (by omega) (by omega)).trans (hL3 b (by omega))), by rw [show ((n : Int)).toNat = n by omega] at hfin ⊢; exact ⟨gA4, gm, g1, g2, g3, g4, g5, g6, g7, (zU_s _ _ _), (hPt.kp (fun b h1 h2 => ((zU_n (by omega)).trans ((hL4 b (by omega) (by omega)).trans (hL3 b (by omega)))))), (zU_n' (by omega) hN4.1), (hTk.kp (fun b h1 h2 => ((zU_n (by omega)).trans ((hL4 b (by omega) (by omega)).trans (hL3 b (by omega)))))), (hDp.kp (fun b h1 h2 => ((zU_n (by omega)).trans ((hL4 b (by omega) (by omega)).trans (hL3 b (by omega)))))), (by rw [((zU_n (by omega)).trans ((hL4 _ (by omega) (by omega)).trans (hL3 _ (by omega))))]; exact hMd), (by rw [((zU_n (by omega)).trans ((hL4 _ (by omega) (by omega)).trans (hL3 _ (by omega))))]; exact hOn), (hAl.kp (fun b h1 h2 => ((zU_n (by omega)).trans ((hL4 b (by omega) (by omega)).trans (hL3 b (by omega)))))), (hNx.kp (fun b h1 h2 => ((zU_n (by omega)).trans ((hL4 b (by omega) (by omega)).trans (hL3 b (by omega)))))), (hRa.kp (fun b h1 h2 => ((zU_n (by omega)).trans ((hL4 b (by omega) (by omega)).trans (hL3 b (by omega)))))), (hRb.kp (fun b h1 h2 => ((zU_n (by omega)).trans ((hL4 b (by omega) (by omega)).trans (hL3 b (by omega)))))), (by rw [((zU_n (by omega)).trans ((hL4 _ (by omega) (by omega)).trans (hL3 _ (by omega))))]; exact hSu), (by rw [((zU_n (by omega)).trans ((hL4 _ (by omega) (by omega)).trans (hL3 _ (by omega))))]; exact hBn), (hDd.kp (fun b h1 h2 => ((zU_n (by omega)).trans ((hL4 b (by omega) (by omega)).trans (hL3 b (by omega)))))), (hPw.kp (fun b h1 h2 => ((zU_n (by omega)).trans ((hL4 b (by omega) (by omega)).trans (hL3 b (by omega)))))), (by rw [((zU_n (by omega)).trans ((hL4 _ (by omega) (by omega)).trans (hL3 _ (by omega))))]; exact hPr), (by rw [((zU_n (by omega)).trans ((hL4 _ (by omega) (by omega)).trans (hL3 _ (by omega))))]; exact hRe), (hWo.kp (fun b h1 h2 => ((zU_n (by omega)).trans ((hL4 b (by omega) (by omega)).trans (hL3 b (by omega)))))), (hLa.kp (fun b h1 h2 => ((zU_n (by omega)).trans ((hL4 b (by omega) (by omega)).trans (hL3 b (by omega)))))), (by rw [((zU_n (by omega)).trans ((hL4 _ (by omega) (by omega)).trans (hL3 _ (by omega))))]; exact hBe), (by rw [((zU_n (by omega)).trans ((hL4 _ (by omega) (by omega)).trans (hL3 _ (by omega))))]; exact hOt), (hP4.lo (by omega)).b, hbk, (hN4.2.e hfin)⟩⟩⟩ (Nat.le_refl _) (Nat.le_refl _)
