set_option maxRecDepth 100000 in
set_option maxHeartbeats 4000000 in
theorem lp_worth5 {Γ : zG} {l0 : Launch} {X : zX} {m bh rt pu n : Nat} {p b kp : Int} {bk : Nat → Int → Int} {ω0 : zWd} {L : Nat → Int} {t mo : Nat} {py : Int} (C : Zc Γ l0 X rmX7_worth 12 cX7_worth RX7) (hM0 : ω0.1 m = some (zOb 7 (zMf m bh rt 72))) (hPt0 : zMx X ω0 (m + 1) 8 21 bk) (hy : zRt bk b) (hf : zBk (bk b.toNat)) (hp0 : 0 ≤ p ∧ p ≤ 20) (hk0 : 0 ≤ kp ∧ kp ≤ 1000) (hpu : pu ≤ 60) (hn : n ≤ 6) (hmo : mo < 181) (ht : t ≤ 6) (hLb : ∀ k : Nat, k < mo + 1 → 0 ≤ L k ∧ L k ≤ 1000 ^ 20) (K : ∀ (ω : zWd) (o10 o11 : Option Value), zWs X ω0 ω m (mo + 1) (fun u => zBx L (1000 ^ (2 * t)) u u) (mo + 1) L → Zw Γ ω 0 0 263 [some (.ref m), some (.int (zI (pu : Int))), some (.int (zI p)), some (.int (zI b)), some (.int (zI kp)), some (.int (zI (n : Int))), some (.int (zI (if pu < (mo + 1) then zPx L (1000 ^ (2 * t)) pu pu else py))), some (.int (zI (t : Int))), some (.int (zI (mo : Int))), some (.int (zI ((mo + 1 : Nat) : Int))), o10, o11] []) : ∀ (j u : Nat) (ω : zWd) (o10 o11 : Option Value), u + j = mo + 1 → zWs X ω0 ω m u (fun u => zBx L (1000 ^ (2 * t)) u u) (mo + 1) L → Zw Γ ω 0 0 216 [some (.ref m), some (.int (zI (pu : Int))), some (.int (zI p)), some (.int (zI b)), some (.int (zI kp)), some (.int (zI (n : Int))), some (.int (zI (if pu < u then zPx L (1000 ^ (2 * t)) pu pu else py))), some (.int (zI (t : Int))), some (.int (zI (mo : Int))), some (.int (zI (u : Int))), o10, o11] [] := by
  intro j
  induction j with
  | zero =>
    intro u ω o10 o11 hj hS
    have e1 : u = mo + 1 := by omega
    subst e1
    have hK := K ω o10 o11 hS
    refine z_iload (i := 9) (pc := 216) C rfl dX7_worth_216 ?_
    refine z_iload (i := 8) (pc := 218) C rfl dX7_worth_218 ?_
    refine z_icmp_gt (tgt := 263) (pc := 220) C dX7_worth_220 (by decide) (fun h220 => ?_) (fun h220 => absurd h220 (by omega))
    exact hK
  | succ j ih =>
    intro u ω o10 o11 hj hS
    obtain ⟨g2, g6, g7, k1, k2, k3, k4, k5, k6⟩ := id hS
    have hM := (k1.1 m (by omega)).trans hM0
    refine z_iload (i := 9) (pc := 216) C rfl dX7_worth_216 ?_
    refine z_iload (i := 8) (pc := 218) C rfl dX7_worth_218 ?_
    refine z_icmp_gt (tgt := 263) (pc := 220) C dX7_worth_220 (by decide) (fun h220 => absurd h220 (by omega)) (fun h220 => ?_)
    refine z_aload_n (i := 0) (pc := 223) C rfl rfl dX7_worth_223 ?_
    refine z_iload (i := 9) (pc := 224) C rfl dX7_worth_224 ?_
    refine z_iload (i := 7) (pc := 226) C rfl dX7_worth_226 ?_
    refine z_callVi (pc := 228) C (c_X7_pays hM k4 (by omega) ht hLb k5 k6) k_X7_166 zy_X7_pays rfl rfl hM rfl rfl ⟨(Nat.le_of_ble_eq_true rfl), (Nat.le_of_ble_eq_true rfl)⟩ (Nat.le_of_ble_eq_true rfl) dX7_worth_228 ⟨rfl, rfl⟩ ⟨(Nat.le_of_ble_eq_true rfl), (Nat.le_of_ble_eq_true rfl)⟩ (fun rv ω' hp => ?_)
    obtain ⟨ho, ⟨q6, q7, hq6, hq6v, hq7⟩, rfl⟩ := hp
    have hS1 : zWs X ω0 ω' m u (fun u => zBx L (1000 ^ (2 * t)) u u) (mo + 1) L := ⟨g2, q6, q7, k1.o ho (by omega), (ho.1 _ (by omega)).trans k2, k3.kp (fun b _ _ => ho.1 b (by omega)), k4.kp (fun b _ _ => ho.1 b (by omega)), hq6, hq7⟩
    obtain ⟨fW, hW1, hW2⟩ := k3.kp (ω2 := ω') (fun b _ _ => ho.1 b (by omega))
    have hM2 := (ho.1 m (by omega)).trans hM
    refine z_istore (i := 10) (lv' := [_, _, _, _, _, _, _, _, _, _, _, _]) (pc := 231) C (by decide) rfl rfl dX7_worth_231 ?_
    refine z_aload_n (i := 0) (pc := 233) C rfl rfl dX7_worth_233 ?_
    refine g_X7_70 (pc := 234) C hM2 rfl dX7_worth_234 ?_
    refine z_aload_n (i := 0) (pc := 237) C rfl rfl dX7_worth_237 ?_
    refine g_X7_64 (pc := 238) C hM2 rfl dX7_worth_238 ?_
    refine z_iload (i := 9) (pc := 241) C rfl dX7_worth_241 ?_
    refine z_aaload (pc := 243) C hW1.1 rfl dX7_worth_243 ?_
    refine z_callSv (pc := 244) C (c_X7_copy hq6 hq6v (by omega) (hW1.2 u (by omega))) k_X7_124 zy_X7_copy.2 rfl rfl ⟨(Nat.le_of_ble_eq_true rfl), (Nat.le_of_ble_eq_true rfl)⟩ (Nat.le_of_ble_eq_true rfl) dX7_worth_244 ⟨rfl, rfl⟩ ⟨(Nat.le_of_ble_eq_true rfl), (Nat.le_of_ble_eq_true rfl)⟩ (fun ω' hp => ?_)
    obtain ⟨gc, rfl, hgc⟩ := hp
    have hS2 := hS1.wx (g := gc) (by omega) hgc
    have hgo := ih (u + 1) _ (some (.int (zI (zPx L (1000 ^ (2 * t)) u u)))) o11 (by omega) hS2
    refine z_iload (i := 9) (pc := 247) C rfl dX7_worth_247 ?_
    refine z_iload_n (i := 1) (pc := 249) C rfl rfl dX7_worth_249 ?_
    refine z_icmp_ne (tgt := 257) (pc := 250) C dX7_worth_250 (by decide) (fun h250 => ?_) (fun h250 => ?_)
    · have ey : (if pu < u then zPx L (1000 ^ (2 * t)) pu pu else py) = (if pu < (u + 1) then zPx L (1000 ^ (2 * t)) pu pu else py) := by
        by_cases q : pu < u
        · rw [if_pos q, if_pos (by omega)]
        · rw [if_neg q, if_neg (by omega)]
      rw [ey]
      refine z_iinc (i := 9) (lv' := [_, _, _, _, _, _, _, _, _, _, _, _]) (pc := 257) C rfl (by decide) rfl rfl dX7_worth_257 ?_
      refine z_goto (tgt := 216) (pc := 260) C dX7_worth_260 (by decide) ?_
      first | exact hgo | (rw [← ey] at hgo; exact hgo)
    · have ey : zPx L (1000 ^ (2 * t)) u u = (if pu < (u + 1) then zPx L (1000 ^ (2 * t)) pu pu else py) := by
        have e : u = pu := by omega
        rw [e, if_pos (by omega)]
      rw [ey] at hgo ⊢
      refine z_iload (i := 10) (pc := 253) C rfl dX7_worth_253 ?_
      refine z_istore (i := 6) (lv' := [_, _, _, _, _, _, _, _, _, _, _, _]) (pc := 255) C (by decide) rfl rfl dX7_worth_255 ?_
      refine z_iinc (i := 9) (lv' := [_, _, _, _, _, _, _, _, _, _, _, _]) (pc := 257) C rfl (by decide) rfl rfl dX7_worth_257 ?_
      refine z_goto (tgt := 216) (pc := 260) C dX7_worth_260 (by decide) ?_
      first | exact hgo | (rw [← ey] at hgo; exact hgo)
set_option maxRecDepth 100000 in
set_option maxHeartbeats 4000000 in
theorem lp_worth2 {Γ : zG} {l0 : Launch} {X : zX} {m bh rt pu n : Nat} {p b kp : Int} {bk : Nat → Int → Int} {ω0 : zWd} (C : Zc Γ l0 X rmX7_worth 12 cX7_worth RX7) (hM0 : ω0.1 m = some (zOb 7 (zMf m bh rt 72))) (hPt0 : zMx X ω0 (m + 1) 8 21 bk) (hy : zRt bk b) (hf : zBk (bk b.toNat)) (hp0 : 0 ≤ p ∧ p ≤ 20) (hk0 : 0 ≤ kp ∧ kp ≤ 1000) (hpu : pu ≤ 60) (hn : n ≤ 6) (K : ∀ (ω : zWd) (o8 o9 o10 o11 : Option Value), zWs X ω0 ω m (pu + 1) (fun u => zWv (zwk (bk b.toNat) kp) p n (u : Int)) 0 (fun _ => 0) → Zw Γ ω 0 0 269 [some (.ref m), some (.int (zI (pu : Int))), some (.int (zI p)), some (.int (zI b)), some (.int (zI kp)), some (.int (zI (n : Int))), some (.int (zI (zPy (zwk (bk b.toNat) kp) p pu n))), some (.int (zI ((n + 1 : Nat) : Int))), o8, o9, o10, o11] []) : ∀ (j τ hw : Nat) (ω : zWd) (o8 o9 o10 o11 : Option Value), τ + j = n → (hw : Int) = (pu : Int) + p * ((n : Int) - τ) + 1 → zWs X ω0 ω m hw (fun u => zWv (zwk (bk b.toNat) kp) p τ (u : Int)) 0 (fun _ => 0) → Zw Γ ω 0 0 89 [some (.ref m), some (.int (zI (pu : Int))), some (.int (zI p)), some (.int (zI b)), some (.int (zI kp)), some (.int (zI (n : Int))), some (.int (zI (zPy (zwk (bk b.toNat) kp) p pu τ))), some (.int (zI ((τ + 1 : Nat) : Int))), o8, o9, o10, o11] [] := by
  obtain ⟨b0, b1, bs⟩ := id hy
  have hwt : ∀ s : Int, 0 ≤ s → s < 41 → 0 ≤ (zwk (bk b.toNat) kp) s := fun s a c => by
    unfold zwk
    split
    · rename_i q; exact Int.mul_nonneg hk0.1 (hf s q.1 (by omega)).1
    · omega
  have hsum : zs (zwk (bk b.toNat) kp) 41 ≤ 1000000 := by rw [zwk_s, bs]; omega
  intro j
  induction j with
  | zero =>
    intro τ hw ω o8 o9 o10 o11 hj hhw hS
    have e1 : τ = n := by omega
    subst e1
    rw [show (τ : Int) - (τ : Int) = 0 by omega, Int.mul_zero] at hhw
    have e2 : hw = pu + 1 := by omega
    rw [e2] at hS
    have hK := K ω o8 o9 o10 o11 hS
    refine z_iload (i := 7) (pc := 89) C rfl dX7_worth_89 ?_
    refine z_iload (i := 5) (pc := 91) C rfl dX7_worth_91 ?_
    refine z_icmp_gt (tgt := 269) (pc := 93) C dX7_worth_93 (by decide) (fun h93 => ?_) (fun h93 => absurd h93 (by omega))
    exact hK
  | succ j ih =>
    intro τ hw ω o8 o9 o10 o11 hj hhw hS
    have hm1 : p * ((n : Int) - τ - 1) ≤ 20 * 5 := Int.mul_le_mul hp0.2 (by omega) (by omega) (by omega)
    have hm0 : 0 ≤ p * ((n : Int) - τ - 1) := Int.mul_nonneg hp0.1 (by omega)
    have hm2 : p * ((n : Int) - τ) = p * ((n : Int) - τ - 1) + p := by
      have := Int.mul_sub p ((n : Int) - τ) 1
      rw [Int.mul_one] at this
      omega
    obtain ⟨mo, hmo⟩ : ∃ mo : Nat, (pu : Int) + p * ((n : Int) - ((τ + 1 : Nat) : Int)) = mo := ⟨((pu : Int) + p * ((n : Int) - ((τ + 1 : Nat) : Int))).toNat, by rw [show (n : Int) - ((τ + 1 : Nat) : Int) = (n : Int) - τ - 1 by omega]; omega⟩
    have hmo2 : (mo : Int) = (pu : Int) + p * ((n : Int) - τ - 1) := by rw [← hmo, show (n : Int) - ((τ + 1 : Nat) : Int) = (n : Int) - τ - 1 by omega]
    have hWb := zWv_b (p := p) hwt hsum hp0.1 τ
    have hpt : (τ : Int) * p ≤ 5 * 20 := Int.mul_le_mul (by omega) hp0.2 hp0.1 (by omega)
    have h6t : (10 : Int) ^ (6 * τ) ≤ 10 ^ 30 := zp10 (by omega)
    have h6p : (0 : Int) < 10 ^ (6 * τ) := zpw (by decide) _
    have hV0 : ∀ v : Int, v < 0 → zWv (zwk (bk b.toNat) kp) p τ v = 0 := fun v hv => (hWb v).2.2 hv
    have hVb : ∀ v : Int, v < hw → 0 ≤ zWv (zwk (bk b.toNat) kp) p τ v ∧ zWv (zwk (bk b.toNat) kp) p τ v ≤ 1000 ^ 13 := fun v hv => by
      refine ⟨(hWb v).1, ?_⟩
      by_cases q : v < 0
      · rw [hV0 v q]; decide
      · have h1 := (hWb v).2.1 (by omega)
        have h2 : (v + τ * p) * 10 ^ (6 * τ) ≤ 281 * 10 ^ 30 := Int.mul_le_mul (by omega) h6t (by omega) (by omega)
        have h3 : (281 : Int) * 10 ^ 30 ≤ 1000 ^ 13 := by decide
        omega
    have hLb : ∀ k : Nat, k < mo + 1 → 0 ≤ zLw (zwk (bk b.toNat) kp) p (zWv (zwk (bk b.toNat) kp) p τ) (k : Int) ∧ zLw (zwk (bk b.toNat) kp) p (zWv (zwk (bk b.toNat) kp) p τ) (k : Int) ≤ 1000 ^ 20 := fun k hk => by
      have h1 := zLw_b (p := p) (u := (k : Int)) (B := 1000 ^ 13) hwt hsum (by decide) (fun v hv => hVb v (by omega))
      have h2 : (1000000 : Int) * 1000 ^ 13 ≤ 1000 ^ 20 := by decide
      omega
    have hS1 : zWs X ω0 ω m hw (fun u => zWv (zwk (bk b.toNat) kp) p τ (u : Int)) 0 (fun k => zLw (zwk (bk b.toNat) kp) p (zWv (zwk (bk b.toNat) kp) p τ) (k : Int)) := by
      obtain ⟨g2, g6, g7, k1, k2, k3, k4, k5, k6⟩ := hS
      exact ⟨g2, g6, g7, k1, k2, k3, k4.s.w _, k5, k6⟩
    refine z_iload (i := 7) (pc := 89) C rfl dX7_worth_89 ?_
    refine z_iload (i := 5) (pc := 91) C rfl dX7_worth_91 ?_
    refine z_icmp_gt (tgt := 269) (pc := 93) C dX7_worth_93 (by decide) (fun h93 => absurd h93 (by omega)) (fun h93 => ?_)
    refine z_iload_n (i := 1) (pc := 96) C rfl rfl dX7_worth_96 ?_
    refine z_iload_n (i := 2) (pc := 97) C rfl rfl dX7_worth_97 ?_
    refine z_iload (i := 5) (pc := 98) C rfl dX7_worth_98 ?_
    refine z_iload (i := 7) (pc := 100) C rfl dX7_worth_100 ?_
    refine z_isub (pc := 102) C dX7_worth_102 ?_
    refine z_imul (pc := 103) C dX7_worth_103 ?_
    refine z_iadd (pc := 104) C dX7_worth_104 ?_
    rw [hmo]
    refine z_istore (i := 8) (lv' := [_, _, _, _, _, _, _, _, _, _, _, _]) (pc := 105) C (by decide) rfl rfl dX7_worth_105 ?_
    refine z_iconst (pc := 107) C dX7_worth_107 ?_
    refine z_istore (i := 9) (lv' := [_, _, _, _, _, _, _, _, _, _, _, _]) (pc := 108) C (by decide) rfl rfl dX7_worth_108 ?_
    refine lp_worth3 (V := zWv (zwk (bk b.toNat) kp) p τ) C hM0 hPt0 hy hf hp0 hk0 hpu hn (by omega) hV0 hVb ?_ (mo + 1) 0 ω _ _ (by omega) hS1
    intro ω2 p10 p11 hS2
    refine z_iconst (pc := 213) C dX7_worth_213 ?_
    refine z_istore (i := 9) (lv' := [_, _, _, _, _, _, _, _, _, _, _, _]) (pc := 214) C (by decide) rfl rfl dX7_worth_214 ?_
    have hS3 : zWs X ω0 ω2 m 0 (fun u => zBx (fun k => zLw (zwk (bk b.toNat) kp) p (zWv (zwk (bk b.toNat) kp) p τ) (k : Int)) (1000 ^ (2 * (τ + 1))) u u) (mo + 1) (fun k => zLw (zwk (bk b.toNat) kp) p (zWv (zwk (bk b.toNat) kp) p τ) (k : Int)) := by
      obtain ⟨g2, g6, g7, k1, k2, k3, k4, k5, k6⟩ := hS2
      exact ⟨g2, g6, g7, k1, k2, k3.s.w _, k4, k5, k6⟩
    have h5 := fun K => lp_worth5 (py := zPy (zwk (bk b.toNat) kp) p pu τ) (t := τ + 1) (L := fun k => zLw (zwk (bk b.toNat) kp) p (zWv (zwk (bk b.toNat) kp) p τ) (k : Int)) C hM0 hPt0 hy hf hp0 hk0 hpu hn (show mo < 181 by omega) (by omega) hLb K (mo + 1) 0 ω2 p10 p11 (by omega) hS3
    rw [if_neg (show ¬ pu < 0 by omega)] at h5
    refine h5 ?_
    intro ω3 q10 q11 hS4
    rw [if_pos (show pu < mo + 1 by omega)]
    have eU : (1000 : Int) ^ (2 * (τ + 1)) = 10 ^ (6 * (τ + 1)) := by rw [zk_pow]; congr 1; omega
    have hS5 : zWs X ω0 ω3 m (mo + 1) (fun u => zWv (zwk (bk b.toNat) kp) p (τ + 1) (u : Int)) 0 (fun _ => 0) := by
      obtain ⟨g2, g6, g7, k1, k2, k3, k4, k5, k6⟩ := hS4
      refine ⟨g2, g6, g7, k1, k2, k3.c (fun u hu => ?_), k4.s.w _, k5, k6⟩
      (try dsimp only)
      show _ = (if (u : Int) < 0 then 0 else zVb (zwk (bk b.toNat) kp) p (10 ^ (6 * (τ + 1))) (zWv (zwk (bk b.toNat) kp) p τ) ((u : Int)).toNat)
      rw [if_neg (by omega), (zBx_v u).1, eU]
      rfl
    have ey : zPx (fun k => zLw (zwk (bk b.toNat) kp) p (zWv (zwk (bk b.toNat) kp) p τ) (k : Int)) (1000 ^ (2 * (τ + 1))) pu pu = zPy (zwk (bk b.toNat) kp) p pu (τ + 1) := by
      rw [(zBx_v pu).2, eU]
      rfl
    rw [ey]
    have hgo := ih (τ + 1) (mo + 1) ω3 (some (.int (zI (mo : Int)))) (some (.int (zI ((mo + 1 : Nat) : Int)))) q10 q11 (by omega) (by rw [hmo]; omega) hS5
    refine z_iinc (i := 7) (lv' := [_, _, _, _, _, _, _, _, _, _, _, _]) (pc := 263) C rfl (by decide) rfl rfl dX7_worth_263 ?_
    refine z_goto (tgt := 89) (pc := 266) C dX7_worth_266 (by decide) ?_
    exact hgo
set_option maxRecDepth 100000 in
set_option maxHeartbeats 4000000 in
theorem c_X7_worth {l0 : Launch} {X : zX} {ω : zWd} {m : Nat} {bk : Nat → Int → Int} {nv : Int} {bh : Nat} {tv dv : Nat → Int} {rt c : Nat} {pu p b kp n : Int} (hR : zMD X ω m bk nv bh tv dv rt c) (hpur : -2147483648 ≤ pu ∧ pu < 2147483648) (hpr : -2147483648 ≤ p ∧ p < 2147483648) (hbr : -2147483648 ≤ b ∧ b < 2147483648) (hkpr : -2147483648 ≤ kp ∧ kp < 2147483648) (hnr : -2147483648 ≤ n ∧ n < 2147483648) : zMet l0 yX7_worth cX7_worth 12 (some .int) rmX7_worth X [.ref m, .int (zI pu), .int (zI p), .int (zI b), .int (zI kp), .int (zI n)] ω (zpi (fun r w => zKp m ω w ∧ (((zRt bk b ∧ (0 ≤ pu ∧ pu ≤ 60) ∧ (0 ≤ p ∧ p ≤ 20) ∧ (0 ≤ kp ∧ kp ≤ 1000) ∧ (0 ≤ n ∧ n ≤ 6)) ∧ r = zPy (zwk (bk b.toNat) kp) p pu.toNat n.toNat ∧ zMD X w m bk (zWv (zwk (bk b.toNat) kp) p n.toNat pu) (2 * n.toNat) tv dv rt c) ∨ (¬ (zRt bk b ∧ (0 ≤ pu ∧ pu ≤ 60) ∧ (0 ≤ p ∧ p ≤ 20) ∧ (0 ≤ kp ∧ kp ≤ 1000) ∧ (0 ≤ n ∧ n ≤ 6)) ∧ r = -1 ∧ zMD X w m bk nv bh tv dv rt c)))) := by
  refine zMet.intro (by decide) (Nat.le_of_ble_eq_true rfl) ?_
  intro Γ C E N
  show Zw Γ ω 0 0 0 [some _, some _, some _, some _, some _, some _, none, none, none, none, none, none] []
  have hR0 := hR
  obtain ⟨gN, gm, g1, g2, g3, g4, g5, g6, g7, hM, hPt, hNu, hTk, hDp, hMd, hOn, hAl, hNx, hRa, hRb, hSu, hBn, hDd, hPw, hPr, hRe, hWo, hLa, hBe, hOt, hBt, hbk, hVn⟩ := hR
  refine z_iload_n (i := 1) (pc := 0) C rfl rfl dX7_worth_0 ?_
  refine z_iconst (pc := 1) C dX7_worth_1 ?_
  refine z_bipush (pc := 2) C (by decide +kernel) dX7_worth_2 ?_
  refine z_callSi (pc := 4) C (c_X7_in) k_X7_80 zy_X7_in.2 rfl rfl ⟨(Nat.le_of_ble_eq_true rfl), (Nat.le_of_ble_eq_true rfl)⟩ (Nat.le_of_ble_eq_true rfl) dX7_worth_4 ⟨rfl, rfl⟩ ⟨(Nat.le_of_ble_eq_true rfl), (Nat.le_of_ble_eq_true rfl)⟩ (fun rv ω' hp => ?_)
  obtain ⟨hw', hi⟩ := hp
  rw [hw']
  clear hw'
  refine z_if_eq (tgt := 51) (pc := 7) C dX7_worth_7 (by decide) (fun h7 => ?_) (fun h7 => ?_)
  · refine z_iconst (pc := 51) C dX7_worth_51 ?_
    exact z_iret (pc := 52) C E dX7_worth_52 ⟨_, rfl, ⟨zKp.rf, Or.inr ⟨by first | exact (fun h => hno h.1) | exact (fun h => by have := h.2; omega), rfl, hR0⟩⟩⟩
  · refine z_iload_n (i := 2) (pc := 10) C rfl rfl dX7_worth_10 ?_
    refine z_iconst (pc := 11) C dX7_worth_11 ?_
    refine z_bipush (pc := 12) C (by decide +kernel) dX7_worth_12 ?_
    refine z_callSi (pc := 14) C (c_X7_in) k_X7_80 zy_X7_in.2 rfl rfl ⟨(Nat.le_of_ble_eq_true rfl), (Nat.le_of_ble_eq_true rfl)⟩ (Nat.le_of_ble_eq_true rfl) dX7_worth_14 ⟨rfl, rfl⟩ ⟨(Nat.le_of_ble_eq_true rfl), (Nat.le_of_ble_eq_true rfl)⟩ (fun rv ω' hp => ?_)
    obtain ⟨hw', hi2⟩ := hp
    rw [hw']
    clear hw'
    refine z_if_eq (tgt := 51) (pc := 17) C dX7_worth_17 (by decide) (fun h17 => ?_) (fun h17 => ?_)
    · refine z_iconst (pc := 51) C dX7_worth_51 ?_
      exact z_iret (pc := 52) C E dX7_worth_52 ⟨_, rfl, ⟨zKp.rf, Or.inr ⟨by first | exact (fun h => hno h.1) | exact (fun h => by have := h.2; omega), rfl, hR0⟩⟩⟩
    · refine z_aload_n (i := 0) (pc := 20) C rfl rfl dX7_worth_20 ?_
      refine z_iload_n (i := 3) (pc := 21) C rfl rfl dX7_worth_21 ?_
      refine z_callVi (pc := 22) C (c_X7_isRight hM hPt hbk hbr) k_X7_88 zy_X7_isRight rfl rfl hM rfl rfl ⟨(Nat.le_of_ble_eq_true rfl), (Nat.le_of_ble_eq_true rfl)⟩ (Nat.le_of_ble_eq_true rfl) dX7_worth_22 ⟨rfl, rfl⟩ ⟨(Nat.le_of_ble_eq_true rfl), (Nat.le_of_ble_eq_true rfl)⟩ (fun rv ω' hp => ?_)
      obtain ⟨hw', hp⟩ := hp
      rw [hw']
      clear hw'
      have hrr : rv = 0 ∨ rv = 1 := by rcases hp with h | h <;> omega
      refine z_if_eq (tgt := 51) (pc := 25) C dX7_worth_25 (by decide) (fun h25 => ?_) (fun h25 => ?_)
      · have hno : ¬ zRt bk b := by rcases hp with h | h; (· omega); (· exact h.1)
        refine z_iconst (pc := 51) C dX7_worth_51 ?_
        exact z_iret (pc := 52) C E dX7_worth_52 ⟨_, rfl, ⟨zKp.rf, Or.inr ⟨by first | exact (fun h => hno h.1) | exact (fun h => by have := h.2; omega), rfl, hR0⟩⟩⟩
      · have hyes : zRt bk b := by rcases hp with h | h; (· exact h.1); (· omega)
        obtain ⟨b0, b1, bs⟩ := id hyes
        refine z_iload (i := 4) (pc := 28) C rfl dX7_worth_28 ?_
        refine z_iconst (pc := 30) C dX7_worth_30 ?_
        refine z_sipush (pc := 31) C (by decide +kernel) dX7_worth_31 ?_
        refine z_callSi (pc := 34) C (c_X7_in) k_X7_80 zy_X7_in.2 rfl rfl ⟨(Nat.le_of_ble_eq_true rfl), (Nat.le_of_ble_eq_true rfl)⟩ (Nat.le_of_ble_eq_true rfl) dX7_worth_34 ⟨rfl, rfl⟩ ⟨(Nat.le_of_ble_eq_true rfl), (Nat.le_of_ble_eq_true rfl)⟩ (fun rv ω' hp => ?_)
        obtain ⟨hw', hi5⟩ := hp
        rw [hw']
        clear hw'
        refine z_if_eq (tgt := 51) (pc := 37) C dX7_worth_37 (by decide) (fun h37 => ?_) (fun h37 => ?_)
        · refine z_iconst (pc := 51) C dX7_worth_51 ?_
          exact z_iret (pc := 52) C E dX7_worth_52 ⟨_, rfl, ⟨zKp.rf, Or.inr ⟨by first | exact (fun h => hno h.1) | exact (fun h => by have := h.2; omega), rfl, hR0⟩⟩⟩
        · refine z_iload (i := 5) (pc := 40) C rfl dX7_worth_40 ?_
          refine z_iconst (pc := 42) C dX7_worth_42 ?_
          refine z_bipush (pc := 43) C (by decide +kernel) dX7_worth_43 ?_
          refine z_callSi (pc := 45) C (c_X7_in) k_X7_80 zy_X7_in.2 rfl rfl ⟨(Nat.le_of_ble_eq_true rfl), (Nat.le_of_ble_eq_true rfl)⟩ (Nat.le_of_ble_eq_true rfl) dX7_worth_45 ⟨rfl, rfl⟩ ⟨(Nat.le_of_ble_eq_true rfl), (Nat.le_of_ble_eq_true rfl)⟩ (fun rv ω' hp => ?_)
          obtain ⟨hw', hi6⟩ := hp
          rw [hw']
          clear hw'
          refine z_if_ne (tgt := 53) (pc := 48) C dX7_worth_48 (by decide) (fun h48 => ?_) (fun h48 => ?_)
          · refine z_iload_n (i := 1) (pc := 53) C rfl rfl dX7_worth_53 ?_
            refine z_istore (i := 6) (lv' := [_, _, _, _, _, _, _, _, _, _, _, _]) (pc := 54) C (by decide) rfl rfl dX7_worth_54 ?_
            refine z_iconst (pc := 56) C dX7_worth_56 ?_
            refine z_istore (i := 7) (lv' := [_, _, _, _, _, _, _, _, _, _, _, _]) (pc := 57) C (by decide) rfl rfl dX7_worth_57 ?_
            obtain ⟨k, rfl⟩ := Int.eq_ofNat_of_zero_le (show 0 ≤ pu by omega)
            obtain ⟨nk, rfl⟩ := Int.eq_ofNat_of_zero_le (show 0 ≤ n by omega)
            have hfb := hbk b.toNat (by omega)
            have hpn : p * (nk : Int) ≤ 20 * 6 := Int.mul_le_mul (by omega) (by omega) (by omega) (by omega)
            have hpn0 : 0 ≤ p * (nk : Int) := Int.mul_nonneg (by omega) (by omega)
            refine lp_worth1 (ω0 := ω) C hM ?_ 181 0 ω rfl ⟨g2, g6, g7, ⟨fun b _ => rfl, rfl⟩, hSu, hWo.w _, hLa.w _, hBe, hOt⟩
            intro ω1 hS1
            refine z_iconst (pc := 86) C dX7_worth_86 ?_
            refine z_istore (i := 7) (lv' := [_, _, _, _, _, _, _, _, _, _, _, _]) (pc := 87) C (by decide) rfl rfl dX7_worth_87 ?_
            have hS2 : zWs X ω ω1 m ((k : Int) + p * ((nk : Int) - ((0 : Nat) : Int)) + 1).toNat (fun u => zWv (zwk (bk b.toNat) kp) p 0 (u : Int)) 0 (fun _ => 0) := by
              obtain ⟨a2, a6, a7, k1, k2, k3, k4, k5, k6⟩ := hS1
              refine ⟨a2, a6, a7, k1, k2, (k3.le ?_).c (fun u hu => ?_), k4, k5, k6⟩
              · rw [show (nk : Int) - ((0 : Nat) : Int) = nk by omega]; omega
              · show (u : Int) = if (u : Int) < 0 then 0 else (u : Int)
                rw [if_neg (by omega)]
            refine lp_worth2 C hM hPt hyes hfb (by omega) (by omega) (by omega) (by omega) ?_ nk 0 _ ω1 _ _ _ _ (by omega) (by rw [show (nk : Int) - ((0 : Nat) : Int) = nk by omega]; omega) hS2
            intro ω2 q8 q9 q10 q11 hS3
            obtain ⟨a2, a6, a7, k1, k2, k3, k4, k5, k6⟩ := hS3
            have hM2 := (k1.1 m (by omega)).trans hM
            have hNu2 := (k1.1 (m + 10) (by omega)).trans hNu
            have k3s := k3.s
            obtain ⟨fW, hW1, hW2⟩ := k3
            refine z_aload_n (i := 0) (pc := 269) C rfl rfl dX7_worth_269 ?_
            refine g_X7_64 (pc := 270) C hM2 rfl dX7_worth_270 ?_
            refine z_iload_n (i := 1) (pc := 273) C rfl rfl dX7_worth_273 ?_
            refine z_aaload (pc := 274) C hW1.1 rfl dX7_worth_274 ?_
            refine z_aload_n (i := 0) (pc := 275) C rfl rfl dX7_worth_275 ?_
            refine g_X7_14 (pc := 276) C hM2 rfl dX7_worth_276 ?_
            refine z_callSv (pc := 279) C (c_X7_copy (hW1.2 k (by omega)) (hW2 k (by omega)) (by omega) hNu2) k_X7_124 zy_X7_copy.2 rfl rfl ⟨(Nat.le_of_ble_eq_true rfl), (Nat.le_of_ble_eq_true rfl)⟩ (Nat.le_of_ble_eq_true rfl) dX7_worth_279 ⟨rfl, rfl⟩ ⟨(Nat.le_of_ble_eq_true rfl), (Nat.le_of_ble_eq_true rfl)⟩ (fun ω' hp => ?_)
            obtain ⟨gc, rfl, hgc⟩ := hp
            refine z_aload_n (i := 0) (pc := 282) C rfl rfl dX7_worth_282 ?_
            refine z_iconst (pc := 283) C dX7_worth_283 ?_
            refine z_iload (i := 5) (pc := 284) C rfl dX7_worth_284 ?_
            refine z_imul (pc := 286) C dX7_worth_286 ?_
            rw [show (2 : Int) * (nk : Int) = ((2 * nk : Nat) : Int) by omega]
            refine p_X7_143 (pc := 287) C (zU_n' (by omega) hM2) (Nat.le_of_ble_eq_true rfl) dX7_worth_287 ?_
            refine z_iload (i := 6) (pc := 290) C rfl dX7_worth_290 ?_
            exact z_iret (pc := 292) C E dX7_worth_292 ⟨_, rfl, ⟨⟨fun b hb => ((zU_n (by omega)).trans ((zU_n (by omega)).trans (k1.1 _ (by omega)))), k1.2⟩, Or.inl ⟨⟨hyes, by omega, by omega, by omega, by omega⟩, rfl, ⟨gc, gm, g1, a2, g3, g4, g5, a6, a7, (zU_s _ _ _), (hPt.kp (fun b h1 h2 => ((zU_n (by omega)).trans ((zU_n (by omega)).trans (k1.1 _ (by omega)))))), (zU_n' (by omega) (zU_s _ _ _)), (hTk.kp (fun b h1 h2 => ((zU_n (by omega)).trans ((zU_n (by omega)).trans (k1.1 _ (by omega)))))), (hDp.kp (fun b h1 h2 => ((zU_n (by omega)).trans ((zU_n (by omega)).trans (k1.1 _ (by omega)))))), (by rw [((zU_n (by omega)).trans ((zU_n (by omega)).trans (k1.1 _ (by omega))))]; exact hMd), (by rw [((zU_n (by omega)).trans ((zU_n (by omega)).trans (k1.1 _ (by omega))))]; exact hOn), (hAl.kp (fun b h1 h2 => ((zU_n (by omega)).trans ((zU_n (by omega)).trans (k1.1 _ (by omega)))))), (hNx.kp (fun b h1 h2 => ((zU_n (by omega)).trans ((zU_n (by omega)).trans (k1.1 _ (by omega)))))), (hRa.kp (fun b h1 h2 => ((zU_n (by omega)).trans ((zU_n (by omega)).trans (k1.1 _ (by omega)))))), (hRb.kp (fun b h1 h2 => ((zU_n (by omega)).trans ((zU_n (by omega)).trans (k1.1 _ (by omega)))))), (zU_n' (by omega) (zU_n' (by omega) k2)), (by rw [((zU_n (by omega)).trans ((zU_n (by omega)).trans (k1.1 _ (by omega))))]; exact hBn), (hDd.kp (fun b h1 h2 => ((zU_n (by omega)).trans ((zU_n (by omega)).trans (k1.1 _ (by omega)))))), (hPw.kp (fun b h1 h2 => ((zU_n (by omega)).trans ((zU_n (by omega)).trans (k1.1 _ (by omega)))))), (by rw [((zU_n (by omega)).trans ((zU_n (by omega)).trans (k1.1 _ (by omega))))]; exact hPr), (by rw [((zU_n (by omega)).trans ((zU_n (by omega)).trans (k1.1 _ (by omega))))]; exact hRe), (k3s.kp (fun b h1 h2 => (zU_n (by omega)).trans (zU_n (by omega)))), (k4.s.kp (fun b h1 h2 => (zU_n (by omega)).trans (zU_n (by omega)))), (zU_n' (by omega) (zU_n' (by omega) k5)), (zU_n' (by omega) (zU_n' (by omega) k6)), (hBt.kp (fun b h1 h2 => ((zU_n (by omega)).trans ((zU_n (by omega)).trans (k1.1 _ (by omega))))) k1.2), hbk, hgc⟩⟩⟩⟩
          · refine z_iconst (pc := 51) C dX7_worth_51 ?_
            exact z_iret (pc := 52) C E dX7_worth_52 ⟨_, rfl, ⟨zKp.rf, Or.inr ⟨by first | exact (fun h => hno h.1) | exact (fun h => by have := h.2; omega), rfl, hR0⟩⟩⟩
