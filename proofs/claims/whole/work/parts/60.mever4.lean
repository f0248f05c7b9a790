set_option maxRecDepth 100000 in
set_option maxHeartbeats 4000000 in
theorem c_X7_ever {l0 : Launch} {X : zX} {ω : zWd} {m : Nat} {bk : Nat → Int → Int} {nv : Int} {bh : Nat} {tv dv : Nat → Int} {rt c : Nat} {pu b : Int} (hR : zMD X ω m bk nv bh tv dv rt c) (hpur : -2147483648 ≤ pu ∧ pu < 2147483648) (hbr : -2147483648 ≤ b ∧ b < 2147483648) : zMet l0 yX7_ever cX7_ever 8 (some .boolean) rmX7_ever X [.ref m, .int (zI pu), .int (zI b)] ω (zpi (fun r w => zKp m ω w ∧ (((zRt bk b ∧ (0 ≤ pu ∧ pu ≤ 60)) ∧ r = 1 ∧ zMD X w m bk (zEvr (bk b.toNat) pu.toNat) 10 tv dv rt c) ∨ (¬ (zRt bk b ∧ (0 ≤ pu ∧ pu ≤ 60)) ∧ r = 0 ∧ zMD X w m bk nv bh tv dv rt c)))) := by
  refine zMet.intro (by decide) (Nat.le_of_ble_eq_true rfl) ?_
  intro Γ C E N
  show Zw Γ ω 0 0 0 [some _, some _, some _, none, none, none, none, none] []
  have hR0 := hR
  obtain ⟨gN, gm, g1, g2, g3, g4, g5, g6, g7, hM, hPt, hNu, hTk, hDp, hMd, hOn, hAl, hNx, hRa, hRb, hSu, hBn, hDd, hPw, hPr, hRe, hWo, hLa, hBe, hOt, hBt, hbk, hVn⟩ := hR
  refine z_iload_n (i := 1) (pc := 0) C rfl rfl dX7_ever_0 ?_
  refine z_iconst (pc := 1) C dX7_ever_1 ?_
  refine z_bipush (pc := 2) C (by decide +kernel) dX7_ever_2 ?_
  refine z_callSi (pc := 4) C (c_X7_in) k_X7_80 zy_X7_in.2 rfl rfl ⟨(Nat.le_of_ble_eq_true rfl), (Nat.le_of_ble_eq_true rfl)⟩ (Nat.le_of_ble_eq_true rfl) dX7_ever_4 ⟨rfl, rfl⟩ ⟨(Nat.le_of_ble_eq_true rfl), (Nat.le_of_ble_eq_true rfl)⟩ (fun rv ω' hp => ?_)
  obtain ⟨hw', hi⟩ := hp
  rw [hw']
  clear hw'
  refine z_if_eq (tgt := 18) (pc := 7) C dX7_ever_7 (by decide) (fun h7 => ?_) (fun h7 => ?_)
  · refine z_iconst (pc := 18) C dX7_ever_18 ?_
    exact z_zret (pc := 19) C E (by decide +kernel) dX7_ever_19 ⟨_, rfl, ⟨zKp.rf, Or.inr ⟨by first | exact (fun h => hno h.1) | exact (fun h => by have := h.2; omega), rfl, hR0⟩⟩⟩
  · refine z_aload_n (i := 0) (pc := 10) C rfl rfl dX7_ever_10 ?_
    refine z_iload_n (i := 2) (pc := 11) C rfl rfl dX7_ever_11 ?_
    refine z_callVi (pc := 12) C (c_X7_isRight hM hPt hbk hbr) k_X7_88 zy_X7_isRight rfl rfl hM rfl rfl ⟨(Nat.le_of_ble_eq_true rfl), (Nat.le_of_ble_eq_true rfl)⟩ (Nat.le_of_ble_eq_true rfl) dX7_ever_12 ⟨rfl, rfl⟩ ⟨(Nat.le_of_ble_eq_true rfl), (Nat.le_of_ble_eq_true rfl)⟩ (fun rv ω' hp => ?_)
    obtain ⟨hw', hp⟩ := hp
    rw [hw']
    clear hw'
    have hrr : rv = 0 ∨ rv = 1 := by rcases hp with h | h <;> omega
    refine z_if_ne (tgt := 20) (pc := 15) C dX7_ever_15 (by decide) (fun h15 => ?_) (fun h15 => ?_)
    · have hyes : zRt bk b := by rcases hp with h | h; (· exact h.1); (· omega)
      obtain ⟨b0, b1, bs⟩ := id hyes
      have hfb := hbk b.toNat (by omega)
      have hmb := zst_b hfb (d := 0) (by decide)
      have hf1b := hfb 1 (by decide) (by decide)
      refine z_aload_n (i := 0) (pc := 20) C rfl rfl dX7_ever_20 ?_
      refine g_X7_14 (pc := 21) C hM rfl dX7_ever_21 ?_
      refine z_callSv (pc := 24) C (c_X7_zero hNu) k_X7_112 zy_X7_zero.2 rfl rfl ⟨(Nat.le_of_ble_eq_true rfl), (Nat.le_of_ble_eq_true rfl)⟩ (Nat.le_of_ble_eq_true rfl) dX7_ever_24 ⟨rfl, rfl⟩ ⟨(Nat.le_of_ble_eq_true rfl), (Nat.le_of_ble_eq_true rfl)⟩ (fun ω' hp => ?_)
      obtain ⟨gz, rfl, hgz⟩ := hp
      refine z_aload_n (i := 0) (pc := 27) C rfl rfl dX7_ever_27 ?_
      refine z_bipush (pc := 28) C (by decide +kernel) dX7_ever_28 ?_
      refine p_X7_143 (pc := 30) C (zU_n' (by omega) hM) (Nat.le_of_ble_eq_true rfl) dX7_ever_30 ?_
      refine z_aload_n (i := 0) (pc := 33) C rfl rfl dX7_ever_33 ?_
      refine z_iload_n (i := 2) (pc := 34) C rfl rfl dX7_ever_34 ?_
      refine z_callVi (pc := 35) C (c_X7_mean (bh := 10) (sp := 72) (rt := rt) (zU_s _ _ _) ((hPt.kp (fun b h1 h2 => zU_n (by omega))).kp (fun b h1 h2 => zU_n (by omega))) hbk ⟨b0, b1⟩) k_X7_91 zy_X7_mean rfl rfl (zU_s _ _ _) rfl rfl ⟨(Nat.le_of_ble_eq_true rfl), (Nat.le_of_ble_eq_true rfl)⟩ (Nat.le_of_ble_eq_true rfl) dX7_ever_35 ⟨rfl, rfl⟩ ⟨(Nat.le_of_ble_eq_true rfl), (Nat.le_of_ble_eq_true rfl)⟩ (fun rv ω' hp => ?_)
      obtain ⟨hw', rfl⟩ := hp
      rw [hw']
      refine z_istore_n (i := 3) (lv' := [_, _, _, _, _, _, _, _]) (pc := 38) C rfl (by decide) rfl rfl dX7_ever_38 ?_
      refine z_iload_n (i := 3) (pc := 39) C rfl rfl dX7_ever_39 ?_
      refine z_sipush (pc := 40) C (by decide +kernel) dX7_ever_40 ?_
      refine z_icmp_lt (tgt := 70) (pc := 43) C dX7_ever_43 (by decide) (fun h43 => ?_) (fun h43 => ?_)
      · obtain ⟨k, rfl⟩ := Int.eq_ofNat_of_zero_le (show 0 ≤ pu by omega)
        have hMM : zst (bk b.toNat) 0 < 1000 := by omega
        have h01 := zF0_1 hfb bs hMM
        have hDb := zD_b hfb bs hMM
        have hS0 : zEv X ω (zU (zU ω (m + 10) (zAI X 72 gz)) m (zOb 7 (zMf m 10 rt 72))) m rt 0 0 (fun j => zD (bk b.toNat) j) 0 (fun j => bk b.toNat 0 ^ j) (fun _ => True) := ⟨gz, g2, g4, g5, ⟨fun b hb => (zU_n (by omega)).trans (zU_n (by omega)), rfl⟩, zU_s _ _ _, ⟨zU_n' (by omega) (zU_s _ _ _), hgz⟩, (hDd.kp (fun b h1 h2 => (zU_n (by omega)).trans (zU_n (by omega)))).w _, (hPw.kp (fun b h1 h2 => (zU_n (by omega)).trans (zU_n (by omega)))).w _, zU_n' (by omega) (zU_n' (by omega) hPr), ⟨zU_n' (by omega) (zU_n' (by omega) hRe), trivial⟩, zU_n' (by omega) (zU_n' (by omega) hSu)⟩
        refine z_nm (fun ωa hωa => ?_)
        have hSa : zEv X ω ωa m rt 0 0 (fun j => zD (bk b.toNat) j) 0 (fun j => bk b.toNat 0 ^ j) (fun _ => True) := by rw [hωa]; exact hS0
        obtain ⟨gN_, g2_, g4_, g5_, kF, kM, ⟨kN, kNv⟩, kD, kP, kR, ⟨kE, kEv⟩, kS⟩ := id hSa
        obtain ⟨fP, hP1, hP2⟩ := kP
        refine z_aload_n (i := 0) (pc := 70) C rfl rfl dX7_ever_70 ?_
        refine g_X7_55 (pc := 71) C kM rfl dX7_ever_71 ?_
        refine z_iconst (pc := 74) C dX7_ever_74 ?_
        refine z_aaload (pc := 75) C hP1.1 rfl dX7_ever_75 ?_
        refine z_iconst (pc := 76) C dX7_ever_76 ?_
        refine z_iconst (pc := 77) C dX7_ever_77 ?_
        refine z_callSv (pc := 78) C (c_X7_set_ (up := 0) (v := 1) (hP1.2 0 (by omega)) (by omega) (by omega)) k_X7_151 zy_X7_set_.2 rfl rfl ⟨(Nat.le_of_ble_eq_true rfl), (Nat.le_of_ble_eq_true rfl)⟩ (Nat.le_of_ble_eq_true rfl) dX7_ever_78 ⟨rfl, rfl⟩ ⟨(Nat.le_of_ble_eq_true rfl), (Nat.le_of_ble_eq_true rfl)⟩ (fun ω' hp => ?_)
        obtain ⟨gq, rfl, hgq⟩ := hp
        have hSb := hSa.px (g := gq) (by omega) (hgq.e (by (try dsimp only); rw [Int.pow_zero, Int.pow_zero, Int.mul_one]))
        refine z_iconst (pc := 81) C dX7_ever_81 ?_
        refine z_istore (i := 4) (lv' := [_, _, _, _, _, _, _, _]) (pc := 82) C (by decide) rfl rfl dX7_ever_82 ?_
        refine lp_everP C hPt hyes hfb hMM (by omega) ?_ (k + 1) 0 _ (by omega) hSb
        intro ωb hSc
        obtain ⟨gN_, g2_, g4_, g5_, kF, kM, ⟨kN, kNv⟩, kD, kP, kR, ⟨kE, kEv⟩, kS⟩ := id hSc
        obtain ⟨fD, hD1, hD2⟩ := kD
        refine z_aload_n (i := 0) (pc := 137) C rfl rfl dX7_ever_137 ?_
        refine g_X7_52 (pc := 138) C kM rfl dX7_ever_138 ?_
        refine z_iconst (pc := 141) C dX7_ever_141 ?_
        refine z_aaload (pc := 142) C hD1.1 rfl dX7_ever_142 ?_
        refine z_sipush (pc := 143) C (by decide +kernel) dX7_ever_143 ?_
        refine z_iload_n (i := 3) (pc := 146) C rfl rfl dX7_ever_146 ?_
        refine z_isub (pc := 147) C dX7_ever_147 ?_
        refine z_iconst (pc := 148) C dX7_ever_148 ?_
        refine z_callSv (pc := 149) C (c_X7_set_ (up := 0) (v := 1000 - zst (bk b.toNat) 0) (hD1.2 0 (by omega)) (by omega) (by omega)) k_X7_151 zy_X7_set_.2 rfl rfl ⟨(Nat.le_of_ble_eq_true rfl), (Nat.le_of_ble_eq_true rfl)⟩ (Nat.le_of_ble_eq_true rfl) dX7_ever_149 ⟨rfl, rfl⟩ ⟨(Nat.le_of_ble_eq_true rfl), (Nat.le_of_ble_eq_true rfl)⟩ (fun ω' hp => ?_)
        obtain ⟨gq2, rfl, hgq2⟩ := hp
        have hSd := hSc.dx (g := gq2) (by omega) (hgq2.e (by (try dsimp only); rw [Int.pow_zero, Int.mul_one]; exact (zD_0 _).symm))
        refine z_iconst (pc := 152) C dX7_ever_152 ?_
        refine z_istore (i := 4) (lv' := [_, _, _, _, _, _, _, _]) (pc := 153) C (by decide) rfl rfl dX7_ever_153 ?_
        refine lp_everD C hPt hyes hfb hMM (by omega) ?_ k 0 _ _ (by omega) hSd
        intro ωc o5c hSe
        obtain ⟨gN_, g2_, g4_, g5_, kF, kM, ⟨kN, kNv⟩, kD, kP, kR, ⟨kE, kEv⟩, kS⟩ := id hSe
        obtain ⟨fD, hD1, hD2⟩ := kD
        obtain ⟨fP, hP1, hP2⟩ := kP
        refine z_aload_n (i := 0) (pc := 317) C rfl rfl dX7_ever_317 ?_
        refine g_X7_55 (pc := 318) C kM rfl dX7_ever_318 ?_
        refine z_iload_n (i := 1) (pc := 321) C rfl rfl dX7_ever_321 ?_
        refine z_iconst (pc := 322) C dX7_ever_322 ?_
        refine z_iadd (pc := 323) C dX7_ever_323 ?_
        rw [show (k : Int) + 1 = ((k + 1 : Nat) : Int) by omega]
        refine z_aaload (pc := 324) C hP1.1 rfl dX7_ever_324 ?_
        refine z_aload_n (i := 0) (pc := 325) C rfl rfl dX7_ever_325 ?_
        refine g_X7_61 (pc := 326) C kM rfl dX7_ever_326 ?_
        refine z_callSv (pc := 329) C (c_X7_copy (hP1.2 (k + 1) (by omega)) (hP2 (k + 1) (by omega)) (by omega) kE) k_X7_124 zy_X7_copy.2 rfl rfl ⟨(Nat.le_of_ble_eq_true rfl), (Nat.le_of_ble_eq_true rfl)⟩ (Nat.le_of_ble_eq_true rfl) dX7_ever_329 ⟨rfl, rfl⟩ ⟨(Nat.le_of_ble_eq_true rfl), (Nat.le_of_ble_eq_true rfl)⟩ (fun ω' hp => ?_)
        obtain ⟨gc, rfl, hgc⟩ := hp
        refine z_aload_n (i := 0) (pc := 332) C rfl rfl dX7_ever_332 ?_
        refine g_X7_61 (pc := 333) C (zU_n' (by omega) kM) rfl dX7_ever_333 ?_
        refine z_aload_n (i := 0) (pc := 336) C rfl rfl dX7_ever_336 ?_
        refine g_X7_52 (pc := 337) C (zU_n' (by omega) kM) rfl dX7_ever_337 ?_
        refine z_iload_n (i := 1) (pc := 340) C rfl rfl dX7_ever_340 ?_
        refine z_aaload (pc := 341) C (zU_n' (by omega) hD1.1) rfl dX7_ever_341 ?_
        refine z_callSv (pc := 342) C (c_X7_take (zU_s _ _ _) hgc (zU_n' (by omega) (hD1.2 k (by omega))) (hD2 k (by omega)) (by omega) (hDb k).2) k_X7_163 zy_X7_take.2 rfl rfl ⟨(Nat.le_of_ble_eq_true rfl), (Nat.le_of_ble_eq_true rfl)⟩ (Nat.le_of_ble_eq_true rfl) dX7_ever_342 ⟨rfl, rfl⟩ ⟨(Nat.le_of_ble_eq_true rfl), (Nat.le_of_ble_eq_true rfl)⟩ (fun ω' hp => ?_)
        obtain ⟨gt, rfl, hgt⟩ := hp
        rw [zU_u]
        have hSf := hSe.re (g := gt) (Rp2 := fun g => zNm g (bk b.toNat 0 ^ (k + 1) - zD (bk b.toNat) k)) hgt
        refine z_bipush (pc := 345) C (by decide +kernel) dX7_ever_345 ?_
        refine z_istore (i := 4) (lv' := [_, _, _, _, _, _, _, _]) (pc := 347) C (by decide) rfl rfl dX7_ever_347 ?_
        have hSg : zEv X ω (zU ωc (m + 2078) (zAI X 72 gt)) m rt (0 * 1000 ^ 10) 0 (fun j => zD (bk b.toNat) j) (k + 2) (fun j => bk b.toNat 0 ^ j) (fun g => zNm g (bk b.toNat 0 ^ (k + 1) - zD (bk b.toNat) k)) := by
          obtain ⟨a1, a2, a3, a4, a5, a6, a7, a8, a9, a10⟩ := hSf
          exact ⟨a1, a2, a3, a4, a5, a6, ⟨a7.1, a7.2.e (by rw [Int.zero_mul])⟩, a8.s.w _, a9, a10⟩
        refine lp_everF (r0 := bk b.toNat 0 ^ (k + 1) - zD (bk b.toNat) k) C hPt hyes hfb hMM (by omega) ?_ 10 0 _ 0 _ _ _ _ (by omega) (by omega) (by have := hDb k; omega) (by rw [Int.pow_zero, Int.mul_one, Int.zero_mul, Int.zero_add]) hSg
        intro ωd N r o5d o6d o7d hr heq hSh
        obtain ⟨gNd, g2d, g4d, g5d, kF, kM, ⟨kN, kNv⟩, kD, kP, kR, ⟨kE, kEv⟩, kS⟩ := id hSh
        have hfin : N = zEvr (bk b.toNat) k := by
          unfold zEvr
          rw [if_neg (by omega), show (10 : Int) ^ 30 = 1000 ^ 10 by decide, ← heq]
          exact (z_qr rfl hr.1 hr.2).1.symm
        refine z_iconst (pc := 522) C dX7_ever_522 ?_
        exact z_zret (pc := 523) C E (by decide +kernel) dX7_ever_523 ⟨_, rfl, ⟨⟨fun b hb => kF.1 b (by omega), kF.2⟩, Or.inl ⟨⟨hyes, by omega⟩, rfl, ⟨gNd, gm, g1, g2d, g3, g4d, g5d, g6, g7, kM, (hPt.kp (fun b h1 h2 => (kF.1 _ (by omega)))), kN, (hTk.kp (fun b h1 h2 => (kF.1 _ (by omega)))), (hDp.kp (fun b h1 h2 => (kF.1 _ (by omega)))), (by rw [(kF.1 _ (by omega))]; exact hMd), (by rw [(kF.1 _ (by omega))]; exact hOn), (hAl.kp (fun b h1 h2 => (kF.1 _ (by omega)))), (hNx.kp (fun b h1 h2 => (kF.1 _ (by omega)))), (hRa.kp (fun b h1 h2 => (kF.1 _ (by omega)))), (hRb.kp (fun b h1 h2 => (kF.1 _ (by omega)))), kS, (by rw [(kF.1 _ (by omega))]; exact hBn), kD.s, kP.s, kR, kE, (hWo.kp (fun b h1 h2 => (kF.1 _ (by omega)))), (hLa.kp (fun b h1 h2 => (kF.1 _ (by omega)))), (by rw [(kF.1 _ (by omega))]; exact hBe), (by rw [(kF.1 _ (by omega))]; exact hOt), (hBt.kp (fun b h1 h2 => (kF.1 _ (by omega))) kF.2), hbk, (kNv.e hfin)⟩⟩⟩⟩
      · refine z_aload_n (i := 0) (pc := 46) C rfl rfl dX7_ever_46 ?_
        refine g_X7_11 (pc := 47) C (zU_s _ _ _) rfl dX7_ever_47 ?_
        refine z_iload_n (i := 2) (pc := 50) C rfl rfl dX7_ever_50 ?_
        refine z_aaload (pc := 51) C (zU_n' (by omega) (zU_n' (by omega) hPt.1)) rfl dX7_ever_51 ?_
        refine z_iconst (pc := 52) C dX7_ever_52 ?_
        refine z_iaload (pc := 53) C (zU_n' (by omega) (zU_n' (by omega) (hPt.2 b.toNat (by omega)))) dX7_ever_53 ?_
        refine z_sipush (pc := 54) C (by decide +kernel) dX7_ever_54 ?_
        refine z_icmp_eq (tgt := 68) (pc := 57) C dX7_ever_57 (by decide) (fun h57 => ?_) (fun h57 => ?_)
        · refine z_iconst (pc := 68) C dX7_ever_68 ?_
          exact z_zret (pc := 69) C E (by decide +kernel) dX7_ever_69 ⟨_, rfl, ⟨(zKp.rf.u (by omega)).u (by omega), Or.inl ⟨⟨hyes, by omega⟩, rfl, ⟨gz, gm, g1, g2, g3, g4, g5, g6, g7, (zU_s _ _ _), (hPt.kp (fun b h1 h2 => ((zU_n (by omega)).trans (zU_n (by omega))))), (zU_n' (by omega) (zU_s _ _ _)), (hTk.kp (fun b h1 h2 => ((zU_n (by omega)).trans (zU_n (by omega))))), (hDp.kp (fun b h1 h2 => ((zU_n (by omega)).trans (zU_n (by omega))))), (by rw [((zU_n (by omega)).trans (zU_n (by omega)))]; exact hMd), (by rw [((zU_n (by omega)).trans (zU_n (by omega)))]; exact hOn), (hAl.kp (fun b h1 h2 => ((zU_n (by omega)).trans (zU_n (by omega))))), (hNx.kp (fun b h1 h2 => ((zU_n (by omega)).trans (zU_n (by omega))))), (hRa.kp (fun b h1 h2 => ((zU_n (by omega)).trans (zU_n (by omega))))), (hRb.kp (fun b h1 h2 => ((zU_n (by omega)).trans (zU_n (by omega))))), (by rw [((zU_n (by omega)).trans (zU_n (by omega)))]; exact hSu), (by rw [((zU_n (by omega)).trans (zU_n (by omega)))]; exact hBn), (hDd.kp (fun b h1 h2 => ((zU_n (by omega)).trans (zU_n (by omega))))), (hPw.kp (fun b h1 h2 => ((zU_n (by omega)).trans (zU_n (by omega))))), (by rw [((zU_n (by omega)).trans (zU_n (by omega)))]; exact hPr), (by rw [((zU_n (by omega)).trans (zU_n (by omega)))]; exact hRe), (hWo.kp (fun b h1 h2 => ((zU_n (by omega)).trans (zU_n (by omega))))), (hLa.kp (fun b h1 h2 => ((zU_n (by omega)).trans (zU_n (by omega))))), (by rw [((zU_n (by omega)).trans (zU_n (by omega)))]; exact hBe), (by rw [((zU_n (by omega)).trans (zU_n (by omega)))]; exact hOt), (hBt.kp (fun b h1 h2 => ((zU_n (by omega)).trans (zU_n (by omega)))) rfl), hbk, (hgz.e (by unfold zEvr; rw [if_pos (by omega), if_pos (by omega)]))⟩⟩⟩⟩
        · refine z_aload_n (i := 0) (pc := 60) C rfl rfl dX7_ever_60 ?_
          refine g_X7_14 (pc := 61) C (zU_s _ _ _) rfl dX7_ever_61 ?_
          refine z_bipush (pc := 64) C (by decide +kernel) dX7_ever_64 ?_
          refine z_iconst (pc := 66) C dX7_ever_66 ?_
          refine z_iastore (pc := 67) C (zU_n' (by omega) (zU_s _ _ _)) dX7_ever_67 ?_
          have hn1 : zNm (zup gz 10 1) (1000 ^ 10) := by
            have h1 := hgz.up (m := 0) (by decide) 10 (by omega) (by omega)
            refine ⟨fun k a b => ?_, ?_⟩
            · by_cases e : k = 10
              · rw [e, zup_s]; decide
              · rw [zup_n e]; exact hgz.1 k a b
            · have h2 := zv_u1 (B := 1000) (g := gz) (i := 10) (v := 1) (n := 72) (by omega)
              have h3 : gz ((10 : Nat) : Int) = 0 := h1
              rw [h3, hgz.2] at h2
              exact h2
          refine z_iconst (pc := 68) C dX7_ever_68 ?_
          exact z_zret (pc := 69) C E (by decide +kernel) dX7_ever_69 ⟨_, rfl, ⟨((zKp.rf.u (by omega)).u (by omega)).u (by omega), Or.inl ⟨⟨hyes, by omega⟩, rfl, ⟨(zup gz 10 1), gm, g1, g2, g3, g4, g5, g6, g7, (zU_n' (by omega) (zU_s _ _ _)), (hPt.kp (fun b h1 h2 => ((zU_n (by omega)).trans ((zU_n (by omega)).trans (zU_n (by omega)))))), (zU_s _ _ _), (hTk.kp (fun b h1 h2 => ((zU_n (by omega)).trans ((zU_n (by omega)).trans (zU_n (by omega)))))), (hDp.kp (fun b h1 h2 => ((zU_n (by omega)).trans ((zU_n (by omega)).trans (zU_n (by omega)))))), (by rw [((zU_n (by omega)).trans ((zU_n (by omega)).trans (zU_n (by omega))))]; exact hMd), (by rw [((zU_n (by omega)).trans ((zU_n (by omega)).trans (zU_n (by omega))))]; exact hOn), (hAl.kp (fun b h1 h2 => ((zU_n (by omega)).trans ((zU_n (by omega)).trans (zU_n (by omega)))))), (hNx.kp (fun b h1 h2 => ((zU_n (by omega)).trans ((zU_n (by omega)).trans (zU_n (by omega)))))), (hRa.kp (fun b h1 h2 => ((zU_n (by omega)).trans ((zU_n (by omega)).trans (zU_n (by omega)))))), (hRb.kp (fun b h1 h2 => ((zU_n (by omega)).trans ((zU_n (by omega)).trans (zU_n (by omega)))))), (by rw [((zU_n (by omega)).trans ((zU_n (by omega)).trans (zU_n (by omega))))]; exact hSu), (by rw [((zU_n (by omega)).trans ((zU_n (by omega)).trans (zU_n (by omega))))]; exact hBn), (hDd.kp (fun b h1 h2 => ((zU_n (by omega)).trans ((zU_n (by omega)).trans (zU_n (by omega)))))), (hPw.kp (fun b h1 h2 => ((zU_n (by omega)).trans ((zU_n (by omega)).trans (zU_n (by omega)))))), (by rw [((zU_n (by omega)).trans ((zU_n (by omega)).trans (zU_n (by omega))))]; exact hPr), (by rw [((zU_n (by omega)).trans ((zU_n (by omega)).trans (zU_n (by omega))))]; exact hRe), (hWo.kp (fun b h1 h2 => ((zU_n (by omega)).trans ((zU_n (by omega)).trans (zU_n (by omega)))))), (hLa.kp (fun b h1 h2 => ((zU_n (by omega)).trans ((zU_n (by omega)).trans (zU_n (by omega)))))), (by rw [((zU_n (by omega)).trans ((zU_n (by omega)).trans (zU_n (by omega))))]; exact hBe), (by rw [((zU_n (by omega)).trans ((zU_n (by omega)).trans (zU_n (by omega))))]; exact hOt), (hBt.kp (fun b h1 h2 => ((zU_n (by omega)).trans ((zU_n (by omega)).trans (zU_n (by omega))))) rfl), hbk, (hn1.e (by unfold zEvr; rw [if_pos (by omega), if_neg (by omega)]; decide))⟩⟩⟩⟩
    · have hno : ¬ zRt bk b := by rcases hp with h | h; (· omega); (· exact h.1)
      refine z_iconst (pc := 18) C dX7_ever_18 ?_
      exact z_zret (pc := 19) C E (by decide +kernel) dX7_ever_19 ⟨_, rfl, ⟨zKp.rf, Or.inr ⟨by first | exact (fun h => hno h.1) | exact (fun h => by have := h.2; omega), rfl, hR0⟩⟩⟩
