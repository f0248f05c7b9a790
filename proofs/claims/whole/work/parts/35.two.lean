theorem z_and15 {a : Int} (h : -2147483648 ≤ a ∧ a < 2147483648) : zI a &&& zI 15 = zI (a % 16) := by
  rw [pk_and _ 4 (by decide +kernel)]
  have e : (zI a).toBitVec.toNat = (a % 4294967296).toNat := by
    show (BitVec.ofInt 32 a).toNat = _
    rw [BitVec.toNat_ofInt]; rfl
  rw [e]
  show Int32.ofNat _ = _
  rw [zI_n]
  congr 1
  omega
theorem z_shrk {a : Int} (h : -2147483648 ≤ a ∧ a < 2147483648) {s : Int32} (k : Nat) (hs : (s.toBitVec.smod 32).toNat = k) (hk : (zI a).toInt >>> k = a / 2 ^ k) (hb : -2147483648 ≤ a / 2 ^ k ∧ a / 2 ^ k < 2147483648) : zI a >>> s = zI (a / 2 ^ k) := by
  apply Int32.toInt_inj.mp
  rw [pk_shr _ _ k hs, hk, zI_t hb]
theorem z_shr4 {a : Int} (h : -2147483648 ≤ a ∧ a < 2147483648) : zI a >>> (zI 4 &&& 31) = zI (a / 16) := z_shrk h 4 (by decide +kernel) (by rw [zI_t h, Int.shiftRight_eq_div_pow]; rfl) (by omega)
theorem z_shr8 {a : Int} (h : -2147483648 ≤ a ∧ a < 2147483648) : zI a >>> (zI 8 &&& 31) = zI (a / 256) := z_shrk h 8 (by decide +kernel) (by rw [zI_t h, Int.shiftRight_eq_div_pow]; rfl) (by omega)
theorem z_shr12 {a : Int} (h : -2147483648 ≤ a ∧ a < 2147483648) : zI a >>> (zI 12 &&& 31) = zI (a / 4096) := z_shrk h 12 (by decide +kernel) (by rw [zI_t h, Int.shiftRight_eq_div_pow]; rfl) (by omega)
def zcv (f h : Int → Int) : Int → Int := fun k => zs (zc1 f h k) 21
theorem zcv_s {f h : Int → Int} : zs (zcv f h) 41 = zs f 21 * zs h 21 := by
  unfold zcv
  rw [zs_swap]
  rw [zs_c (g := fun a => zs h 21 * f a) (fun a a0 a1 => ?_), zs_mulc, Int.mul_comm]
  have e : ∀ k : Int, zc1 f h k a = f a * (fun v => if 0 ≤ v ∧ v < 21 then h v else 0) (k + -a) := fun k => by
    unfold zc1
    (try dsimp only)
    rw [show k + -a = k - a by omega]
    split <;> simp
  rw [zs_c (g := fun k => f a * (fun v => if 0 ≤ v ∧ v < 21 then h v else 0) (k + -a)) (fun k _ _ => e k), zs_mulc]
  have q := zs_split (A := fun v => if 0 ≤ v ∧ v < 21 then h v else 0) (K := 21) (fun v hv => if_neg (by omega)) (-a) 41 0 (by omega) (by omega)
  rw [show zs (fun d => (fun v => if 0 ≤ v ∧ v < 21 then h v else 0) (-a - 1 - d)) 0 = 0 from rfl, Int.add_zero] at q
  rw [q, zs_c (g := h) (fun k k0 k1 => if_pos ⟨k0, by omega⟩), Int.mul_comm]
theorem zcv_0 {f h : Int → Int} (hf : zBk f) (hh : zBk h) (k : Int) : 0 ≤ zcv f h k := by
  refine zs_nn (fun a a0 a1 => ?_)
  unfold zc1
  split
  · rename_i q
    exact Int.mul_nonneg (hf a a0 (by omega)).1 (hh _ q.1 (by omega)).1
  · omega
def zdl (pu w : Int) : Int → Int := fun v => if v = pu then w else 0
def zSt (wt : Int → Int) (p : Int) (pu cp n : Nat) (w : Int) : Int := w * (10 ^ cp) ^ n - zSm wt p (10 ^ cp) (zdl pu w) n
theorem zSt_b {wt : Int → Int} {p w : Int} {pu cp n np : Nat} (hp : 0 ≤ p) (hw : ∀ s : Int, 0 ≤ s → s < 41 → 0 ≤ wt s) (hs : zs wt 41 = 10 ^ cp) (h0 : 0 ≤ w ∧ w ≤ 10 ^ np) : 0 ≤ zSt wt p pu cp n w ∧ zSt wt p pu cp n w ≤ 10 ^ (np + n * cp) := by
  unfold zSt zdl
  have hle := zSm_le (wt := wt) (p := p) (w0 := w) (pu := pu) (n := 0) (c := cp) hp hw hs h0.1 n
  have hge := (zSm_b (n := np) (p := p) (Av := fun v => if v = ((pu : Nat) : Int) then w else 0) hw hs (fun v => by (try dsimp only); split <;> omega) n).1
  rw [Int.mul_comm] at hle
  have h3 : w * (10 ^ cp) ^ n ≤ 10 ^ (np + n * cp) := by
    rw [Int.pow_add, ← Int.pow_mul, Nat.mul_comm cp n]
    exact Int.mul_le_mul_of_nonneg_right h0.2 (Int.le_of_lt (zpw (by decide) _))
  omega
theorem zSt_c {w1 w2 : Int → Int} (h : ∀ s : Int, 0 ≤ s → s < 41 → w1 s = w2 s) (p : Int) (pu cp n : Nat) (w : Int) : zSt w1 p pu cp n w = zSt w2 p pu cp n w := by
  unfold zSt
  rw [zSm_c h]
def zTw (f h : Int → Int) (a b p q : Int) (n : Nat) (gv : Int) : Int := if gv = 0 then zSt (zwt h) q b.toNat 3 n (zSt (zwt f) p a.toNat 3 n 1) else zSt (zcv f h) (p + q) (a + b).toNat 6 n 1
theorem d_X6_stand {l0 : Launch} {X : zX} {x : Nat} {bk : Nat → Int → Int} {nv : Int} {np : Nat} {tv dv : Int → Int} {rt : Nat} {p T : Int} {pu n : Int} {cp : Nat} {wt : Int → Int} {ω : zWd} (hW : zWq X ω (x + 3) T (10 ^ cp) cp wt) (hR : zRH X ω x bk nv np tv dv rt) (hp0 : 0 ≤ p ∧ p ≤ 12) (hpu : 0 ≤ pu ∧ pu ≤ 24) (hn5 : 1 ≤ n ∧ n ≤ 5) (hT : 0 ≤ T ∧ T < 41) (hwt : ∀ s : Int, 0 ≤ s → s < 41 → 0 ≤ wt s) (hw0 : ∀ s : Int, 0 ≤ s → s < 41 → T < s → wt s = 0) (hsum : zs wt 41 = 10 ^ cp) (hcp : cp ≤ 6) (hnp : np ≤ 15) (hnv : 0 ≤ nv ∧ nv ≤ 10 ^ np) : zMet l0 yX6_stand cX6_stand 5 none rmX6_stand X [.ref x, .int (zI pu), .int (zI p), .int (zI n)] ω (zpv (fun w => zOut x (x + 58) ω w ∧ (∃ T2 Wh2 cp2 wt2, zWq X w (x + 3) T2 Wh2 cp2 wt2) ∧ zRH X w x bk (zSt wt p pu.toNat cp n.toNat nv) (np + n.toNat * cp) tv dv rt)) := by
  obtain ⟨k, rfl⟩ := Int.eq_ofNat_of_zero_le hpu.1
  obtain ⟨j, rfl⟩ := Int.eq_ofNat_of_zero_le (Int.le_trans (by decide) hn5.1)
  exact c_X6_stand (pu := k) (n := j) hW hR hp0 (by omega) (by omega) hT hwt hw0 hsum hcp hnp hnv
set_option maxRecDepth 100000 in
set_option maxHeartbeats 4000000 in
theorem c_X6_two {l0 : Launch} {X : zX} {x : Nat} {bk : Nat → Int → Int} {nv : Int} {np : Nat} {tv dv : Int → Int} {rt : Nat} {wh b b2 n gv : Int} {ω : zWd} (hR : zRH X ω x bk nv np tv dv rt) (hwhr : -2147483648 ≤ wh ∧ wh < 2147483648) (hbr : -2147483648 ≤ b ∧ b < 2147483648) (hb2r : -2147483648 ≤ b2 ∧ b2 < 2147483648) (hnr : -2147483648 ≤ n ∧ n < 2147483648) (hgv : gv = 0 ∨ gv = 1) : zMet l0 yX6_two cX6_two 12 (some .boolean) rmX6_two X [.ref x, .int (zI wh), .int (zI b), .int (zI b2), .int (zI n), .int (zI gv)] ω (zpi (fun r w => zOut x (x + 58) ω w ∧ (((zRt bk b ∧ zRt bk b2 ∧ (0 ≤ wh ∧ wh ≤ 65535) ∧ (1 ≤ n ∧ n ≤ 5) ∧ (wh % 16 ≤ 12 ∧ wh / 16 % 16 ≤ 12 ∧ wh / 256 % 16 ≤ 6 ∧ wh / 4096 % 16 ≤ 6)) ∧ r = 1 ∧ zRH X w x bk (zTw (bk b.toNat) (bk b2.toNat) (wh % 16) (wh / 16 % 16) (wh / 256 % 16) (wh / 4096 % 16) n.toNat gv) (6 * n.toNat) tv dv rt) ∨ (¬ (zRt bk b ∧ zRt bk b2 ∧ (0 ≤ wh ∧ wh ≤ 65535) ∧ (1 ≤ n ∧ n ≤ 5) ∧ (wh % 16 ≤ 12 ∧ wh / 16 % 16 ≤ 12 ∧ wh / 256 % 16 ≤ 6 ∧ wh / 4096 % 16 ≤ 6)) ∧ r = 0 ∧ zRH X w x bk nv np tv dv rt)))) := by
  refine zMet.intro (by decide) (Nat.le_of_ble_eq_true rfl) ?_
  intro Γ C E N
  show Zw Γ ω 0 0 0 [some _, some _, some _, some _, some _, some _, none, none, none, none, none, none] []
  have hR0 := hR
  obtain ⟨gm, gN, gB, gT, gD, hX, hBs, hMv, hWk, hPk, hFv, hNu, hNc, hBo, hBc, hTk, hTc, hDp, hDc, hBk, hbk, hVN, hVT, hVD⟩ := hR
  refine z_aload_n (i := 0) (pc := 0) C rfl rfl dX6_two_0 ?_
  refine z_iload_n (i := 2) (pc := 1) C rfl rfl dX6_two_1 ?_
  refine z_callVq (pc := 2) C (c_X6_findRight hR0 hbr) k_X6_81 zy_X6_findRight rfl rfl hX rfl rfl ⟨(Nat.le_of_ble_eq_true rfl), (Nat.le_of_ble_eq_true rfl)⟩ (Nat.le_of_ble_eq_true rfl) dX6_two_2 ⟨rfl, rfl⟩ ⟨(Nat.le_of_ble_eq_true rfl), (Nat.le_of_ble_eq_true rfl)⟩ (fun rv ω' hp => ?_)
  obtain ⟨hw', hp⟩ := hp
  rw [hw']
  clear hw'
  rcases hp with ⟨hyes, rfl⟩ | ⟨hno, rfl⟩
  · obtain ⟨b0, b1, bs⟩ := id hyes
    refine z_astore (i := 6) (lv' := [_, _, _, _, _, _, _, _, _, _, _, _]) (pc := 5) C (by decide) rfl rfl dX6_two_5 ?_
    refine z_aload_n (i := 0) (pc := 7) C rfl rfl dX6_two_7 ?_
    refine z_iload_n (i := 3) (pc := 8) C rfl rfl dX6_two_8 ?_
    refine z_callVq (pc := 9) C (c_X6_findRight hR0 hb2r) k_X6_81 zy_X6_findRight rfl rfl hX rfl rfl ⟨(Nat.le_of_ble_eq_true rfl), (Nat.le_of_ble_eq_true rfl)⟩ (Nat.le_of_ble_eq_true rfl) dX6_two_9 ⟨rfl, rfl⟩ ⟨(Nat.le_of_ble_eq_true rfl), (Nat.le_of_ble_eq_true rfl)⟩ (fun rv ω' hp => ?_)
    obtain ⟨hw', hp⟩ := hp
    rw [hw']
    clear hw'
    rcases hp with ⟨hyes2, rfl⟩ | ⟨hno2, rfl⟩
    · obtain ⟨c0, c1, cs⟩ := id hyes2
      refine z_astore (i := 7) (lv' := [_, _, _, _, _, _, _, _, _, _, _, _]) (pc := 12) C (by decide) rfl rfl dX6_two_12 ?_
      refine z_aload (i := 6) (pc := 14) C rfl dX6_two_14 ?_
      refine z_ifnull (pc := 16) C dX6_two_16 ?_
      refine z_aload (i := 7) (pc := 19) C rfl dX6_two_19 ?_
      refine z_ifnull (pc := 21) C dX6_two_21 ?_
      refine z_iload_n (i := 1) (pc := 24) C rfl rfl dX6_two_24 ?_
      refine z_iconst (pc := 25) C dX6_two_25 ?_
      refine z_ldc (a := 65535) (pc := 26) C (by decide +kernel) q_X6_171 dX6_two_26 ?_
      refine z_callSi (pc := 28) C (c_X6_isWithin) k_X6_70 zy_X6_isWithin.2 rfl rfl ⟨(Nat.le_of_ble_eq_true rfl), (Nat.le_of_ble_eq_true rfl)⟩ (Nat.le_of_ble_eq_true rfl) dX6_two_28 ⟨rfl, rfl⟩ ⟨(Nat.le_of_ble_eq_true rfl), (Nat.le_of_ble_eq_true rfl)⟩ (fun rv ω' hp => ?_)
      obtain ⟨hw', hi⟩ := hp
      rw [hw']
      clear hw'
      refine z_if_eq (tgt := 44) (pc := 31) C dX6_two_31 (by decide) (fun h31 => ?_) (fun h31 => ?_)
      · refine z_iconst (pc := 44) C dX6_two_44 ?_
        exact z_zret (pc := 45) C E (by decide +kernel) dX6_two_45 ⟨_, rfl, ⟨zOut.rf, Or.inr ⟨by first | exact (fun h => hno h.1) | exact (fun h => hno2 h.2.1) | exact (fun h => by have := h.2.2; omega), rfl, hR0⟩⟩⟩
      · refine z_iload (i := 4) (pc := 34) C rfl dX6_two_34 ?_
        refine z_iconst (pc := 36) C dX6_two_36 ?_
        refine z_iconst (pc := 37) C dX6_two_37 ?_
        refine z_callSi (pc := 38) C (c_X6_isWithin) k_X6_70 zy_X6_isWithin.2 rfl rfl ⟨(Nat.le_of_ble_eq_true rfl), (Nat.le_of_ble_eq_true rfl)⟩ (Nat.le_of_ble_eq_true rfl) dX6_two_38 ⟨rfl, rfl⟩ ⟨(Nat.le_of_ble_eq_true rfl), (Nat.le_of_ble_eq_true rfl)⟩ (fun rv ω' hp => ?_)
        obtain ⟨hw', hi2⟩ := hp
        rw [hw']
        clear hw'
        refine z_if_ne (tgt := 46) (pc := 41) C dX6_two_41 (by decide) (fun h41 => ?_) (fun h41 => ?_)
        · refine z_iload_n (i := 1) (pc := 46) C rfl rfl dX6_two_46 ?_
          refine z_bipush (pc := 47) C (by decide +kernel) dX6_two_47 ?_
          refine z_iand (pc := 49) C dX6_two_49 ?_
          rw [z_and15 hwhr]
          refine z_istore (i := 8) (lv' := [_, _, _, _, _, _, _, _, _, _, _, _]) (pc := 50) C (by decide) rfl rfl dX6_two_50 ?_
          refine z_iload_n (i := 1) (pc := 52) C rfl rfl dX6_two_52 ?_
          refine z_iconst (pc := 53) C dX6_two_53 ?_
          refine z_ishr (pc := 54) C dX6_two_54 ?_
          rw [z_shr4 hwhr]
          refine z_bipush (pc := 55) C (by decide +kernel) dX6_two_55 ?_
          refine z_iand (pc := 57) C dX6_two_57 ?_
          rw [z_and15 (by omega)]
          refine z_istore (i := 9) (lv' := [_, _, _, _, _, _, _, _, _, _, _, _]) (pc := 58) C (by decide) rfl rfl dX6_two_58 ?_
          refine z_iload_n (i := 1) (pc := 60) C rfl rfl dX6_two_60 ?_
          refine z_bipush (pc := 61) C (by decide +kernel) dX6_two_61 ?_
          refine z_ishr (pc := 63) C dX6_two_63 ?_
          rw [z_shr8 hwhr]
          refine z_bipush (pc := 64) C (by decide +kernel) dX6_two_64 ?_
          refine z_iand (pc := 66) C dX6_two_66 ?_
          rw [z_and15 (by omega)]
          refine z_istore (i := 10) (lv' := [_, _, _, _, _, _, _, _, _, _, _, _]) (pc := 67) C (by decide) rfl rfl dX6_two_67 ?_
          refine z_iload_n (i := 1) (pc := 69) C rfl rfl dX6_two_69 ?_
          refine z_bipush (pc := 70) C (by decide +kernel) dX6_two_70 ?_
          refine z_ishr (pc := 72) C dX6_two_72 ?_
          rw [z_shr12 hwhr]
          refine z_bipush (pc := 73) C (by decide +kernel) dX6_two_73 ?_
          refine z_iand (pc := 75) C dX6_two_75 ?_
          rw [z_and15 (by omega)]
          refine z_istore (i := 11) (lv' := [_, _, _, _, _, _, _, _, _, _, _, _]) (pc := 76) C (by decide) rfl rfl dX6_two_76 ?_
          refine z_iload (i := 8) (pc := 78) C rfl dX6_two_78 ?_
          refine z_bipush (pc := 80) C (by decide +kernel) dX6_two_80 ?_
          refine z_icmp_gt (tgt := 106) (pc := 82) C dX6_two_82 (by decide) (fun h82 => ?_) (fun h82 => ?_)
          · refine z_iconst (pc := 106) C dX6_two_106 ?_
            exact z_zret (pc := 107) C E (by decide +kernel) dX6_two_107 ⟨_, rfl, ⟨zOut.rf, Or.inr ⟨by first | exact (fun h => hno h.1) | exact (fun h => hno2 h.2.1) | exact (fun h => by have := h.2.2; omega), rfl, hR0⟩⟩⟩
          · refine z_iload (i := 9) (pc := 85) C rfl dX6_two_85 ?_
            refine z_bipush (pc := 87) C (by decide +kernel) dX6_two_87 ?_
            refine z_icmp_gt (tgt := 106) (pc := 89) C dX6_two_89 (by decide) (fun h89 => ?_) (fun h89 => ?_)
            · refine z_iconst (pc := 106) C dX6_two_106 ?_
              exact z_zret (pc := 107) C E (by decide +kernel) dX6_two_107 ⟨_, rfl, ⟨zOut.rf, Or.inr ⟨by first | exact (fun h => hno h.1) | exact (fun h => hno2 h.2.1) | exact (fun h => by have := h.2.2; omega), rfl, hR0⟩⟩⟩
            · refine z_iload (i := 10) (pc := 92) C rfl dX6_two_92 ?_
              refine z_bipush (pc := 94) C (by decide +kernel) dX6_two_94 ?_
              refine z_icmp_gt (tgt := 106) (pc := 96) C dX6_two_96 (by decide) (fun h96 => ?_) (fun h96 => ?_)
              · refine z_iconst (pc := 106) C dX6_two_106 ?_
                exact z_zret (pc := 107) C E (by decide +kernel) dX6_two_107 ⟨_, rfl, ⟨zOut.rf, Or.inr ⟨by first | exact (fun h => hno h.1) | exact (fun h => hno2 h.2.1) | exact (fun h => by have := h.2.2; omega), rfl, hR0⟩⟩⟩
              · refine z_iload (i := 11) (pc := 99) C rfl dX6_two_99 ?_
                refine z_bipush (pc := 101) C (by decide +kernel) dX6_two_101 ?_
                refine z_icmp_le (tgt := 108) (pc := 103) C dX6_two_103 (by decide) (fun h103 => ?_) (fun h103 => ?_)
                · refine z_aload_n (i := 0) (pc := 108) C rfl rfl dX6_two_108 ?_
                  refine z_lconst (v := 1) (pc := 109) C (by decide +kernel) dX6_two_109 ?_
                  refine z_callVv (pc := 110) C (c_X6_startNumber hR0 (by decide)) k_X6_116 zy_X6_startNumber rfl rfl hX rfl rfl ⟨(Nat.le_of_ble_eq_true rfl), (Nat.le_of_ble_eq_true rfl)⟩ (Nat.le_of_ble_eq_true rfl) dX6_two_110 ⟨rfl, rfl⟩ ⟨(Nat.le_of_ble_eq_true rfl), (Nat.le_of_ble_eq_true rfl)⟩ (fun ω' hp => ?_)
                  obtain ⟨⟨gs1, hs1⟩, hR⟩ := hp
                  have hout1 : zOut x (x + 58) ω ω' := by rw [hs1]; exact (zOut.rf.u (by omega) (by omega)).u (by omega) (by omega)
                  have hR1 := hR
                  obtain ⟨gm, gN, gB, gT, gD, hX, hBs, hMv, hWk, hPk, hFv, hNu, hNc, hBo, hBc, hTk, hTc, hDp, hDc, hBk, hbk, hVN, hVT, hVD⟩ := hR
                  obtain ⟨T0, Wh0, cp0, wt0, hWq⟩ := hWk
                  obtain ⟨rn, rx, p1, l1, R1, n1, un, ux, gf, gs, gn, gx, hw, hN, hq, he, hwrest⟩ := id hWq
                  refine z_iload (i := 5) (pc := 113) C rfl dX6_two_113 ?_
                  refine z_if_eq (tgt := 151) (pc := 115) C dX6_two_115 (by decide) (fun h115 => ?_) (fun h115 => ?_)
                  · refine z_aload_n (i := 0) (pc := 151) C rfl rfl dX6_two_151 ?_
                    refine g_X6_22 (pc := 152) C hX rfl dX6_two_152 ?_
                    refine g_X6_120 (pc := 155) C hw rfl dX6_two_155 ?_
                    refine z_aload (i := 6) (pc := 158) C rfl dX6_two_158 ?_
                    refine z_iconst (pc := 160) C dX6_two_160 ?_
                    refine z_callVv (pc := 161) C (c_X1_loadOne hq he (hBk b.toNat (by omega)).1 (hBk b.toNat (by omega)).2 (hbk b.toNat (by omega)) (by omega)) k_X6_124 zy_X1_loadOne rfl rfl hq rfl rfl ⟨(Nat.le_of_ble_eq_true rfl), (Nat.le_of_ble_eq_true rfl)⟩ (Nat.le_of_ble_eq_true rfl) dX6_two_161 ⟨rfl, rfl⟩ ⟨(Nat.le_of_ble_eq_true rfl), (Nat.le_of_ble_eq_true rfl)⟩ (fun ω' hp => ?_)
                    obtain ⟨T2, wt2, hwe, hT2, hw1, hw2, hw32⟩ := hp
                    have hfb := hbk b.toNat (by omega)
                    have hWq2 := hWq.cl (t2 := T2) (w2 := 1000) (p2 := 3) (g2 := wt2)
                    have hR := hR1.wk (zCl_out (a := x + 3) (t2 := T2) (w2 := 1000) (p2 := 3) (g2 := wt2) (by omega) (by omega)) ⟨_, _, _, _, hWq2⟩
                    have hout2 := hout1.tr (zCl_out (X := X) (a := x + 3) (t2 := T2) (w2 := 1000) (p2 := 3) (g2 := wt2) (lo := x) (hi := x + 58) (by omega) (by omega))
                    rw [← hwe] at hWq2 hR hout2
                    clear hwe
                    have hwt2 : ∀ s : Int, 0 ≤ s → s < 41 → 0 ≤ wt2 s := fun s a c => by
                      by_cases e : s < 21
                      · rw [hw1 s a e, Int.one_mul]; exact (hfb s a (by omega)).1
                      · rw [hw2 s a c (by omega)]; omega
                    have hww2 : ∀ s : Int, 0 ≤ s → s < 41 → wt2 s = zwt (bk b.toNat) s := fun s a c => by
                      unfold zwt
                      by_cases e : s < 21
                      · rw [hw1 s a e, Int.one_mul, if_pos ⟨a, e⟩]
                      · rw [hw2 s a c (by omega), if_neg (by omega)]
                    have hsum2 : zs wt2 41 = 10 ^ 3 := by rw [zs_c (g := zwt (bk b.toNat)) (fun k a c => hww2 k a (by omega)), zwt_s, bs]; rfl
                    have hRl2 := hR
                    obtain ⟨gm, gN, gB, gT, gD, hX, hBs, hMv, hWk, hPk, hFv, hNu, hNc, hBo, hBc, hTk, hTc, hDp, hDc, hBk, hbk, hVN, hVT, hVD⟩ := hR
                    obtain ⟨rn, rx, p1, l1, R1, n1, un, ux, gf, gs, gn, gx, hw, hN, hq, he, hwrest⟩ := id hWq2
                    refine z_aload_n (i := 0) (pc := 164) C rfl rfl dX6_two_164 ?_
                    refine z_iload (i := 8) (pc := 165) C rfl dX6_two_165 ?_
                    refine z_iload (i := 10) (pc := 167) C rfl dX6_two_167 ?_
                    refine z_iload (i := 4) (pc := 169) C rfl dX6_two_169 ?_
                    refine z_callVv (pc := 171) C (d_X6_stand (cp := 3) hWq2 hRl2 (by omega) (by omega) (by omega) (by omega) hwt2 hw32 hsum2 (by decide) (by omega) (by decide)) k_X6_176 zy_X6_stand rfl rfl hX rfl rfl ⟨(Nat.le_of_ble_eq_true rfl), (Nat.le_of_ble_eq_true rfl)⟩ (Nat.le_of_ble_eq_true rfl) dX6_two_171 ⟨rfl, rfl⟩ ⟨(Nat.le_of_ble_eq_true rfl), (Nat.le_of_ble_eq_true rfl)⟩ (fun ω' hp => ?_)
                    obtain ⟨houta, hWk, hR⟩ := hp
                    have hst := zSt_b (p := wh / 256 % 16) (pu := (wh % 16).toNat) (n := n.toNat) (np := 0) (w := 1) (by omega) hwt2 hsum2 (by decide)
                    have hout3 := hout2.tr houta
                    have hR1 := hR
                    obtain ⟨gm, gN, gB, gT, gD, hX, hBs, hMv, hWk, hPk, hFv, hNu, hNc, hBo, hBc, hTk, hTc, hDp, hDc, hBk, hbk, hVN, hVT, hVD⟩ := hR
                    obtain ⟨T0, Wh0, cp0, wt0, hWq⟩ := hWk
                    obtain ⟨rn, rx, p1, l1, R1, n1, un, ux, gf, gs, gn, gx, hw, hN, hq, he, hwrest⟩ := id hWq
                    refine z_aload_n (i := 0) (pc := 174) C rfl rfl dX6_two_174 ?_
                    refine g_X6_22 (pc := 175) C hX rfl dX6_two_175 ?_
                    refine g_X6_120 (pc := 178) C hw rfl dX6_two_178 ?_
                    refine z_aload (i := 7) (pc := 181) C rfl dX6_two_181 ?_
                    refine z_iconst (pc := 183) C dX6_two_183 ?_
                    refine z_callVv (pc := 184) C (c_X1_loadOne hq he (hBk b2.toNat (by omega)).1 (hBk b2.toNat (by omega)).2 (hbk b2.toNat (by omega)) (by omega)) k_X6_124 zy_X1_loadOne rfl rfl hq rfl rfl ⟨(Nat.le_of_ble_eq_true rfl), (Nat.le_of_ble_eq_true rfl)⟩ (Nat.le_of_ble_eq_true rfl) dX6_two_184 ⟨rfl, rfl⟩ ⟨(Nat.le_of_ble_eq_true rfl), (Nat.le_of_ble_eq_true rfl)⟩ (fun ω' hp => ?_)
                    obtain ⟨T4, wt4, hwe, hT4, hw1, hw2, hw34⟩ := hp
                    have hfb := hbk b2.toNat (by omega)
                    have hWq4 := hWq.cl (t2 := T4) (w2 := 1000) (p2 := 3) (g2 := wt4)
                    have hR := hR1.wk (zCl_out (a := x + 3) (t2 := T4) (w2 := 1000) (p2 := 3) (g2 := wt4) (by omega) (by omega)) ⟨_, _, _, _, hWq4⟩
                    have hout4 := hout3.tr (zCl_out (X := X) (a := x + 3) (t2 := T4) (w2 := 1000) (p2 := 3) (g2 := wt4) (lo := x) (hi := x + 58) (by omega) (by omega))
                    rw [← hwe] at hWq4 hR hout4
                    clear hwe
                    have hwt4 : ∀ s : Int, 0 ≤ s → s < 41 → 0 ≤ wt4 s := fun s a c => by
                      by_cases e : s < 21
                      · rw [hw1 s a e, Int.one_mul]; exact (hfb s a (by omega)).1
                      · rw [hw2 s a c (by omega)]; omega
                    have hww4 : ∀ s : Int, 0 ≤ s → s < 41 → wt4 s = zwt (bk b2.toNat) s := fun s a c => by
                      unfold zwt
                      by_cases e : s < 21
                      · rw [hw1 s a e, Int.one_mul, if_pos ⟨a, e⟩]
                      · rw [hw2 s a c (by omega), if_neg (by omega)]
                    have hsum4 : zs wt4 41 = 10 ^ 3 := by rw [zs_c (g := zwt (bk b2.toNat)) (fun k a c => hww4 k a (by omega)), zwt_s, cs]; rfl
                    have hRl4 := hR
                    obtain ⟨gm, gN, gB, gT, gD, hX, hBs, hMv, hWk, hPk, hFv, hNu, hNc, hBo, hBc, hTk, hTc, hDp, hDc, hBk, hbk, hVN, hVT, hVD⟩ := hR
                    obtain ⟨rn, rx, p1, l1, R1, n1, un, ux, gf, gs, gn, gx, hw, hN, hq, he, hwrest⟩ := id hWq4
                    refine z_aload_n (i := 0) (pc := 187) C rfl rfl dX6_two_187 ?_
                    refine z_iload (i := 9) (pc := 188) C rfl dX6_two_188 ?_
                    refine z_iload (i := 11) (pc := 190) C rfl dX6_two_190 ?_
                    refine z_iload (i := 4) (pc := 192) C rfl dX6_two_192 ?_
                    refine z_callVv (pc := 194) C (d_X6_stand (cp := 3) hWq4 hRl4 (by omega) (by omega) (by omega) (by omega) hwt4 hw34 hsum4 (by decide) (by omega) hst) k_X6_176 zy_X6_stand rfl rfl hX rfl rfl ⟨(Nat.le_of_ble_eq_true rfl), (Nat.le_of_ble_eq_true rfl)⟩ (Nat.le_of_ble_eq_true rfl) dX6_two_194 ⟨rfl, rfl⟩ ⟨(Nat.le_of_ble_eq_true rfl), (Nat.le_of_ble_eq_true rfl)⟩ (fun ω' hp => ?_)
                    obtain ⟨houta, hWk, hR⟩ := hp
                    have hout5 := hout4.tr houta
                    have hgv0 : gv = 0 := by omega
                    have hfin : zRH X ω' x bk (zTw (bk b.toNat) (bk b2.toNat) (wh % 16) (wh / 16 % 16) (wh / 256 % 16) (wh / 4096 % 16) n.toNat gv) (6 * n.toNat) tv dv rt := by
                      unfold zTw
                      rw [if_pos hgv0, ← zSt_c hww4, ← zSt_c hww2, show 6 * n.toNat = 0 + n.toNat * 3 + n.toNat * 3 by omega]
                      exact hR
                    refine z_iconst (pc := 197) C dX6_two_197 ?_
                    exact z_zret (pc := 198) C E (by decide +kernel) dX6_two_198 ⟨_, rfl, ⟨hout5, Or.inl ⟨⟨hyes, hyes2, by omega, by omega, by omega⟩, rfl, hfin⟩⟩⟩
                  · refine z_aload_n (i := 0) (pc := 118) C rfl rfl dX6_two_118 ?_
                    refine g_X6_22 (pc := 119) C hX rfl dX6_two_119 ?_
                    refine g_X6_120 (pc := 122) C hw rfl dX6_two_122 ?_
                    refine z_aload (i := 6) (pc := 125) C rfl dX6_two_125 ?_
                    refine z_aload (i := 7) (pc := 127) C rfl dX6_two_127 ?_
                    refine z_callVv (pc := 129) C (c_X1_loadBoth hq he (hBk b.toNat (by omega)).1 (hBk b.toNat (by omega)).2 (hbk b.toNat (by omega)) (hBk b2.toNat (by omega)).1 (hBk b2.toNat (by omega)).2 (hbk b2.toNat (by omega))) k_X6_172 zy_X1_loadBoth rfl rfl hq rfl rfl ⟨(Nat.le_of_ble_eq_true rfl), (Nat.le_of_ble_eq_true rfl)⟩ (Nat.le_of_ble_eq_true rfl) dX6_two_129 ⟨rfl, rfl⟩ ⟨(Nat.le_of_ble_eq_true rfl), (Nat.le_of_ble_eq_true rfl)⟩ (fun ω' hp => ?_)
                    obtain ⟨T2, wt2, hwe, hT2, hw1, hw32⟩ := hp
                    have hww2 : ∀ s : Int, 0 ≤ s → s < 41 → wt2 s = zcv (bk b.toNat) (bk b2.toNat) s := hw1
                    have hwt2 : ∀ s : Int, 0 ≤ s → s < 41 → 0 ≤ wt2 s := fun s a c => by
                      rw [hww2 s a c]
                      exact zcv_0 (hbk b.toNat (by omega)) (hbk b2.toNat (by omega)) s
                    have hsum2 : zs wt2 41 = 10 ^ 6 := by rw [zs_c (g := zcv (bk b.toNat) (bk b2.toNat)) (fun k a c => hww2 k a (by omega)), zcv_s, bs, cs]; rfl
                    have hWq2 := hWq.cl (t2 := T2) (w2 := 1000000) (p2 := 6) (g2 := wt2)
                    have hR := hR1.wk (zCl_out (a := x + 3) (t2 := T2) (w2 := 1000000) (p2 := 6) (g2 := wt2) (by omega) (by omega)) ⟨_, _, _, _, hWq2⟩
                    have hout2 := hout1.tr (zCl_out (X := X) (a := x + 3) (t2 := T2) (w2 := 1000000) (p2 := 6) (g2 := wt2) (lo := x) (hi := x + 58) (by omega) (by omega))
                    rw [← hwe] at hWq2 hR hout2
                    clear hwe
                    have hRl2 := hR
                    obtain ⟨gm, gN, gB, gT, gD, hX, hBs, hMv, hWk, hPk, hFv, hNu, hNc, hBo, hBc, hTk, hTc, hDp, hDc, hBk, hbk, hVN, hVT, hVD⟩ := hR
                    obtain ⟨rn, rx, p1, l1, R1, n1, un, ux, gf, gs, gn, gx, hw, hN, hq, he, hwrest⟩ := id hWq2
                    refine z_aload_n (i := 0) (pc := 132) C rfl rfl dX6_two_132 ?_
                    refine z_iload (i := 8) (pc := 133) C rfl dX6_two_133 ?_
                    refine z_iload (i := 9) (pc := 135) C rfl dX6_two_135 ?_
                    refine z_iadd (pc := 137) C dX6_two_137 ?_
                    refine z_iload (i := 10) (pc := 138) C rfl dX6_two_138 ?_
                    refine z_iload (i := 11) (pc := 140) C rfl dX6_two_140 ?_
                    refine z_iadd (pc := 142) C dX6_two_142 ?_
                    refine z_iload (i := 4) (pc := 143) C rfl dX6_two_143 ?_
                    refine z_callVv (pc := 145) C (d_X6_stand (cp := 6) hWq2 hRl2 (by omega) (by omega) (by omega) (by omega) hwt2 hw32 hsum2 (by decide) (by omega) (by decide)) k_X6_176 zy_X6_stand rfl rfl hX rfl rfl ⟨(Nat.le_of_ble_eq_true rfl), (Nat.le_of_ble_eq_true rfl)⟩ (Nat.le_of_ble_eq_true rfl) dX6_two_145 ⟨rfl, rfl⟩ ⟨(Nat.le_of_ble_eq_true rfl), (Nat.le_of_ble_eq_true rfl)⟩ (fun ω' hp => ?_)
                    obtain ⟨houta, hWk, hR⟩ := hp
                    have hout5 := hout2.tr houta
                    have hfin : zRH X ω' x bk (zTw (bk b.toNat) (bk b2.toNat) (wh % 16) (wh / 16 % 16) (wh / 256 % 16) (wh / 4096 % 16) n.toNat gv) (6 * n.toNat) tv dv rt := by
                      unfold zTw
                      rw [if_neg (by omega), ← zSt_c hww2, show 6 * n.toNat = 0 + n.toNat * 6 by omega]
                      exact hR
                    refine z_goto (tgt := 197) (pc := 148) C dX6_two_148 (by decide) ?_
                    refine z_iconst (pc := 197) C dX6_two_197 ?_
                    exact z_zret (pc := 198) C E (by decide +kernel) dX6_two_198 ⟨_, rfl, ⟨hout5, Or.inl ⟨⟨hyes, hyes2, by omega, by omega, by omega⟩, rfl, hfin⟩⟩⟩
                · refine z_iconst (pc := 106) C dX6_two_106 ?_
                  exact z_zret (pc := 107) C E (by decide +kernel) dX6_two_107 ⟨_, rfl, ⟨zOut.rf, Or.inr ⟨by first | exact (fun h => hno h.1) | exact (fun h => hno2 h.2.1) | exact (fun h => by have := h.2.2; omega), rfl, hR0⟩⟩⟩
        · refine z_iconst (pc := 44) C dX6_two_44 ?_
          exact z_zret (pc := 45) C E (by decide +kernel) dX6_two_45 ⟨_, rfl, ⟨zOut.rf, Or.inr ⟨by first | exact (fun h => hno h.1) | exact (fun h => hno2 h.2.1) | exact (fun h => by have := h.2.2; omega), rfl, hR0⟩⟩⟩
    · refine z_astoreN (i := 7) (lv' := [_, _, _, _, _, _, _, _, _, _, _, _]) (pc := 12) C (by decide) rfl rfl dX6_two_12 ?_
      refine z_aload (i := 6) (pc := 14) C rfl dX6_two_14 ?_
      refine z_ifnull (pc := 16) C dX6_two_16 ?_
      refine z_aloadN (i := 7) (pc := 19) C rfl dX6_two_19 ?_
      refine z_ifnullN (tgt := 44) (pc := 21) C dX6_two_21 (by decide) ?_
      refine z_iconst (pc := 44) C dX6_two_44 ?_
      exact z_zret (pc := 45) C E (by decide +kernel) dX6_two_45 ⟨_, rfl, ⟨zOut.rf, Or.inr ⟨by first | exact (fun h => hno h.1) | exact (fun h => hno2 h.2.1) | exact (fun h => by have := h.2.2; omega), rfl, hR0⟩⟩⟩
  · refine z_astoreN (i := 6) (lv' := [_, _, _, _, _, _, _, _, _, _, _, _]) (pc := 5) C (by decide) rfl rfl dX6_two_5 ?_
    refine z_aload_n (i := 0) (pc := 7) C rfl rfl dX6_two_7 ?_
    refine z_iload_n (i := 3) (pc := 8) C rfl rfl dX6_two_8 ?_
    refine z_callVq (pc := 9) C (c_X6_findRight hR0 hb2r) k_X6_81 zy_X6_findRight rfl rfl hX rfl rfl ⟨(Nat.le_of_ble_eq_true rfl), (Nat.le_of_ble_eq_true rfl)⟩ (Nat.le_of_ble_eq_true rfl) dX6_two_9 ⟨rfl, rfl⟩ ⟨(Nat.le_of_ble_eq_true rfl), (Nat.le_of_ble_eq_true rfl)⟩ (fun rv ω' hp => ?_)
    obtain ⟨hw', hp⟩ := hp
    rw [hw']
    clear hw'
    rcases hp with ⟨hyes2, rfl⟩ | ⟨hno2, rfl⟩
    · obtain ⟨c0, c1, cs⟩ := id hyes2
      refine z_astore (i := 7) (lv' := [_, _, _, _, _, _, _, _, _, _, _, _]) (pc := 12) C (by decide) rfl rfl dX6_two_12 ?_
      refine z_aloadN (i := 6) (pc := 14) C rfl dX6_two_14 ?_
      refine z_ifnullN (tgt := 44) (pc := 16) C dX6_two_16 (by decide) ?_
      refine z_iconst (pc := 44) C dX6_two_44 ?_
      exact z_zret (pc := 45) C E (by decide +kernel) dX6_two_45 ⟨_, rfl, ⟨zOut.rf, Or.inr ⟨by first | exact (fun h => hno h.1) | exact (fun h => hno2 h.2.1) | exact (fun h => by have := h.2.2; omega), rfl, hR0⟩⟩⟩
    · refine z_astoreN (i := 7) (lv' := [_, _, _, _, _, _, _, _, _, _, _, _]) (pc := 12) C (by decide) rfl rfl dX6_two_12 ?_
      refine z_aloadN (i := 6) (pc := 14) C rfl dX6_two_14 ?_
      refine z_ifnullN (tgt := 44) (pc := 16) C dX6_two_16 (by decide) ?_
      refine z_iconst (pc := 44) C dX6_two_44 ?_
      exact z_zret (pc := 45) C E (by decide +kernel) dX6_two_45 ⟨_, rfl, ⟨zOut.rf, Or.inr ⟨by first | exact (fun h => hno h.1) | exact (fun h => hno2 h.2.1) | exact (fun h => by have := h.2.2; omega), rfl, hR0⟩⟩⟩
