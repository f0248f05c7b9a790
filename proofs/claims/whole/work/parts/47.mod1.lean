set_option maxRecDepth 100000 in
set_option maxHeartbeats 4000000 in
theorem lp_X7_add {Γ : zG} {l0 : Launch} {X : zX} {ω : zWd} {m a b sp up : Nat} {fs : List Value} {f x : Int → Int} {V U q : Int} (C : Zc Γ l0 X rmX7_add 10 cX7_add RX7) (E : Ze Γ (zpv (fun w => ∃ g2, w = zU ω a (zAI X 72 g2) ∧ zNm g2 (V + q * U * 1000 ^ up))) 0 0 none) (hO : ω.1 m = some (zOb 7 fs)) (h7 : fs[7]? = some (.int (zI (sp : Int)))) (ha : ω.1 a = some (zAI X 72 f)) (hV : zNm f V) (hb : ω.1 b = some (zAI X 72 x)) (hU : zNm x U) (hab : a ≠ b) (hq : 0 ≤ q ∧ q ≤ 1000000) (hup : up ≤ sp ∧ sp ≤ 72) (hfit : V + q * U * 1000 ^ up < 1000 ^ sp) (hq0 : q ≠ 0) : ∀ (j i : Nat) (g : Int → Int) (c : Int) (v8 : Option Value), i + up + j = sp → (∀ k : Int, 0 ≤ k → k < 72 → 0 ≤ g k ∧ g k < 1000) → (∀ k : Int, (i : Int) + up ≤ k → k < 72 → g k = f k) → 0 ≤ c → c ≤ q → zv 1000 g (i + up) + c * 1000 ^ (i + up) = zv 1000 f (i + up) + q * 1000 ^ up * zv 1000 x i → Zw Γ (zU ω a (zAI X 72 g)) 0 0 11 [some (.ref m), some (.ref a), some (.ref b), some (.int (zI q)), some (.int (zI (up : Int))), some (.long (zJ c)), none, some (.int (zI (i : Int))), v8, none] [] := by
  have hVb := hV.b
  have hUb := hU.b
  have hpu : (0 : Int) < 1000 ^ up := zpw (by decide) _
  have hUq : U * 1000 ^ up ≤ q * U * 1000 ^ up := by
    have h1 : 1 * (U * 1000 ^ up) ≤ q * (U * 1000 ^ up) := Int.mul_le_mul_of_nonneg_right (by omega) (Int.mul_nonneg hUb.1 (by omega))
    rw [Int.one_mul, ← Int.mul_assoc] at h1
    exact h1
  have hqU : 0 ≤ q * U * 1000 ^ up := Int.mul_nonneg (Int.mul_nonneg hq.1 hUb.1) (by omega)
  have hUs : U < 1000 ^ (sp - up) := by
    have e : (1000 : Int) ^ sp = 1000 ^ (sp - up) * 1000 ^ up := by rw [← Int.pow_add]; congr 1; omega
    exact Int.lt_of_mul_lt_mul_right (a := 1000 ^ up) (by omega) (by omega)
  intro j
  induction j with
  | zero =>
    intro i g c v8 hj hg hk c0 c1 heq
    refine z_iload (i := 7) (pc := 11) C rfl dX7_add_11 ?_
    refine z_iload (i := 4) (pc := 13) C rfl dX7_add_13 ?_
    refine z_iadd (pc := 15) C dX7_add_15 ?_
    refine z_aload_n (i := 0) (pc := 16) C rfl rfl dX7_add_16 ?_
    refine g_X7_27 (pc := 17) C (zU_n' (z_neOI hO ha) hO) h7 dX7_add_17 ?_
    refine z_icmp_ge (tgt := 73) (pc := 20) C dX7_add_20 (by decide) (fun h20 => ?_) (fun h20 => absurd h20 (by omega))
    exact z_vret (pc := 73) C E dX7_add_73 ⟨rfl, ⟨g, rfl, hg, by
  have e1 : i + up = sp := by omega
  have e2 : i = sp - up := by omega
  rw [e1] at heq
  rw [e2, hU.sp (by omega) hUs, hV.sp (by omega) (by omega)] at heq
  have h1 := zv_b (B := 1000) (by decide) (f := g) (n := sp) (fun k a b => hg k a (by omega))
  have hP : (0 : Int) < 1000 ^ sp := zpw (by decide) _
  have e3 : q * 1000 ^ up * U = q * U * 1000 ^ up := by grind
  rw [e3] at heq
  have hc : c = 0 := by
    by_cases e : c = 0
    · exact e
    · have : 1 * 1000 ^ sp ≤ c * 1000 ^ sp := Int.mul_le_mul_of_nonneg_right (by omega) (by omega)
      omega
  rw [hc, Int.zero_mul, Int.add_zero] at heq
  rw [zv_z (m := sp) (by omega) (fun k a b => by rw [hk k (by omega) (by omega)]; exact hV.up (by omega) k a (by omega))]
  exact heq⟩⟩
  | succ j ih =>
    intro i g c v8 hj hg hk c0 c1 heq
    have hx1 := hU.1 i (by omega) (by omega)
    have hg1 := hg ((i : Int) + up) (by omega) (by omega)
    have hxq : x i * q ≤ 999 * q := Int.mul_le_mul_of_nonneg_right (by omega) hq.1
    have hxq0 : 0 ≤ x i * q := Int.mul_nonneg hx1.1 hq.1
    refine z_iload (i := 7) (pc := 11) C rfl dX7_add_11 ?_
    refine z_iload (i := 4) (pc := 13) C rfl dX7_add_13 ?_
    refine z_iadd (pc := 15) C dX7_add_15 ?_
    refine z_aload_n (i := 0) (pc := 16) C rfl rfl dX7_add_16 ?_
    refine g_X7_27 (pc := 17) C (zU_n' (z_neOI hO ha) hO) h7 dX7_add_17 ?_
    refine z_icmp_ge (tgt := 73) (pc := 20) C dX7_add_20 (by decide) (fun h20 => absurd h20 (by omega)) (fun h20 => ?_)
    refine z_aload_n (i := 1) (pc := 23) C rfl rfl dX7_add_23 ?_
    refine z_iload (i := 7) (pc := 24) C rfl dX7_add_24 ?_
    refine z_iload (i := 4) (pc := 26) C rfl dX7_add_26 ?_
    refine z_iadd (pc := 28) C dX7_add_28 ?_
    refine z_iaload (pc := 29) C (zU_s _ _ _) dX7_add_29 ?_
    refine z_i2l (pc := 30) C (hd := dX7_add_30) (k := ?_)
    refine z_aload_n (i := 2) (pc := 31) C rfl rfl dX7_add_31 ?_
    refine z_iload (i := 7) (pc := 32) C rfl dX7_add_32 ?_
    refine z_iaload (pc := 34) C (zU_n' (Ne.symm hab) hb) dX7_add_34 ?_
    refine z_i2l (pc := 35) C (hd := dX7_add_35) (k := ?_)
    refine z_iload_n (i := 3) (pc := 36) C rfl rfl dX7_add_36 ?_
    refine z_i2l (pc := 37) C (hd := dX7_add_37) (k := ?_)
    refine z_lmul (pc := 38) C dX7_add_38 ?_
    refine z_ladd (pc := 39) C dX7_add_39 ?_
    refine z_lload (i := 5) (pc := 40) C rfl dX7_add_40 ?_
    refine z_ladd (pc := 42) C dX7_add_42 ?_
    refine z_lstore (i := 8) (lv' := [_, _, _, _, _, _, _, _, _, _]) (pc := 43) C (by decide) rfl rfl dX7_add_43 ?_
    refine z_aload_n (i := 1) (pc := 45) C rfl rfl dX7_add_45 ?_
    refine z_iload (i := 7) (pc := 46) C rfl dX7_add_46 ?_
    refine z_iload (i := 4) (pc := 48) C rfl dX7_add_48 ?_
    refine z_iadd (pc := 50) C dX7_add_50 ?_
    refine z_lload (i := 8) (pc := 51) C rfl dX7_add_51 ?_
    refine z_ldc2 (a := 1000) (pc := 53) C (by decide +kernel) q_X7_110 dX7_add_53 ?_
    refine z_lrem (pc := 56) C (hd := dX7_add_56) (k := ?_)
    refine z_l2i (pc := 57) C dX7_add_57 ?_
    refine z_iastore (pc := 58) C (zU_s _ _ _) dX7_add_58 ?_
    rw [zU_u]
    refine z_lload (i := 8) (pc := 59) C rfl dX7_add_59 ?_
    refine z_ldc2 (a := 1000) (pc := 61) C (by decide +kernel) q_X7_110 dX7_add_61 ?_
    refine z_ldiv (pc := 64) C (hd := dX7_add_64) (k := ?_)
    refine z_lstore (i := 5) (lv' := [_, _, _, _, _, _, _, _, _, _]) (pc := 65) C (by decide) rfl rfl dX7_add_65 ?_
    refine z_iinc (i := 7) (lv' := [_, _, _, _, _, _, _, _, _, _]) (pc := 67) C rfl (by decide) rfl rfl dX7_add_67 ?_
    refine z_goto (tgt := 11) (pc := 70) C dX7_add_70 (by decide) ?_
    refine ih (i + 1) _ _ _ (by omega) (fun k a b => ?_) (fun k a b => ?_) ?_ ?_ ?_
    · by_cases e : k = (i : Int) + up
      · rw [e, zup_s]; omega
      · rw [zup_n e]; exact hg k a b
    · rw [zup_n (by omega)]; exact hk k (by omega) b
    · omega
    · omega
    · have e1 : ((i + up : Nat) : Int) = (i : Int) + up := by omega
      have hgf := hk ((i : Int) + up) (by omega) (by omega)
      rw [show i + 1 + up = i + up + 1 by omega, zv_s, zv_s, zv_s, e1, zup_s, zv_c (g := g) (fun k a b => zup_n (by omega)), Int.pow_succ]
      have e2 : (1000 : Int) ^ (i + up) = 1000 ^ up * 1000 ^ i := by rw [← Int.pow_add]; congr 1; omega
      have h3 : g ((i : Int) + up) + x i * q + c = 1000 * ((g ((i : Int) + up) + x i * q + c) / 1000) + (g ((i : Int) + up) + x i * q + c) % 1000 := (Int.mul_ediv_add_emod _ 1000).symm
      generalize (g ((i : Int) + up) + x i * q + c) / 1000 = d at *
      generalize (g ((i : Int) + up) + x i * q + c) % 1000 = r at *
      rw [e2] at heq ⊢
      rw [← hgf]
      generalize (1000 : Int) ^ up = A at *
      generalize (1000 : Int) ^ i = B at *
      generalize zv 1000 g (i + up) = zg at *
      generalize zv 1000 f (i + up) = zf at *
      generalize zv 1000 x i = zx at *
      generalize g ((i : Int) + up) = gi at *
      generalize x (i : Int) = xi at *
      have h5 : r = gi + xi * q + c - 1000 * d := by omega
      rw [h5]
      grind
set_option maxRecDepth 100000 in
set_option maxHeartbeats 4000000 in
theorem c_X7_add {l0 : Launch} {X : zX} {ω : zWd} {m a b sp up : Nat} {fs : List Value} {f x : Int → Int} {V U q : Int} (hO : ω.1 m = some (zOb 7 fs)) (h7 : fs[7]? = some (.int (zI (sp : Int)))) (ha : ω.1 a = some (zAI X 72 f)) (hV : zNm f V) (hb : ω.1 b = some (zAI X 72 x)) (hU : zNm x U) (hab : a ≠ b) (hq : 0 ≤ q ∧ q ≤ 1000000) (hup : up ≤ sp ∧ sp ≤ 72) (hfit : V + q * U * 1000 ^ up < 1000 ^ sp) : zMet l0 yX7_add cX7_add 10 none rmX7_add X [.ref m, .ref a, .ref b, .int (zI q), .int (zI (up : Int))] ω (zpv (fun w => ∃ g2, w = zU ω a (zAI X 72 g2) ∧ zNm g2 (V + q * U * 1000 ^ up))) := by
  refine zMet.intro (by decide) (Nat.le_of_ble_eq_true rfl) ?_
  intro Γ C E N
  show Zw Γ ω 0 0 0 [some _, some _, some _, some _, some _, none, none, none, none, none] []
  refine z_iload_n (i := 3) (pc := 0) C rfl rfl dX7_add_0 ?_
  refine z_if_ne (tgt := 5) (pc := 1) C dX7_add_1 (by decide) (fun h1 => ?_) (fun h1 => ?_)
  · refine z_lconst (v := 0) (pc := 5) C (by decide +kernel) dX7_add_5 ?_
    refine z_lstore (i := 5) (lv' := [_, _, _, _, _, _, _, _, _, _]) (pc := 6) C (by decide) rfl rfl dX7_add_6 ?_
    refine z_iconst (pc := 8) C dX7_add_8 ?_
    refine z_istore (i := 7) (lv' := [_, _, _, _, _, _, _, _, _, _]) (pc := 9) C (by decide) rfl rfl dX7_add_9 ?_
    have h := lp_X7_add (ω := ω) C E hO h7 ha hV hb hU hab hq hup hfit h1 (sp - up) 0 f 0 none (by omega) hV.1 (fun k _ _ => rfl) (by omega) hq.1 (by rw [Nat.zero_add, Int.zero_mul, Int.add_zero]; show _ = _ + _ * 0; omega)
    rw [zU_id ha] at h
    exact h
  · exact z_vret (pc := 4) C E dX7_add_4 ⟨rfl, ⟨f, (zU_id ha).symm, hV.e (by rw [h1, Int.zero_mul, Int.zero_mul, Int.add_zero])⟩⟩
set_option maxRecDepth 100000 in
set_option maxHeartbeats 4000000 in
theorem lp_X7_take {Γ : zG} {l0 : Launch} {X : zX} {ω : zWd} {a b : Nat} {f x : Int → Int} {V U : Int} (C : Zc Γ l0 X rmX7_take 5 cX7_take RX7) (E : Ze Γ (zpv (fun w => ∃ g2, w = zU ω a (zAI X 72 g2) ∧ zNm g2 (V - U))) 0 0 none) (ha : ω.1 a = some (zAI X 72 f)) (hV : zNm f V) (hb : ω.1 b = some (zAI X 72 x)) (hU : zNm x U) (hab : a ≠ b) (hle : U ≤ V) : ∀ (j i : Nat) (g : Int → Int) (c : Int) (v4 : Option Value), i + j = 72 → (∀ k : Int, 0 ≤ k → k < 72 → 0 ≤ g k ∧ g k < 1000) → (∀ k : Int, (i : Int) ≤ k → k < 72 → g k = f k) → (c = 0 ∨ c = 1) → zv 1000 g i = zv 1000 f i - zv 1000 x i + c * 1000 ^ i → Zw Γ (zU ω a (zAI X 72 g)) 0 0 4 [some (.ref a), some (.ref b), some (.int (zI c)), some (.int (zI (i : Int))), v4] [] := by
  have hVb := hV.b
  have hUb := hU.b
  intro j
  induction j with
  | zero =>
    intro i g c v4 hj hg hk hc heq
    refine z_iload_n (i := 3) (pc := 4) C rfl rfl dX7_take_4 ?_
    refine z_bipush (pc := 5) C (by decide +kernel) dX7_take_5 ?_
    refine z_icmp_ge (tgt := 57) (pc := 7) C dX7_take_7 (by decide) (fun h7 => ?_) (fun h7 => absurd h7 (by omega))
    exact z_vret (pc := 57) C E dX7_take_57 ⟨rfl, ⟨g, rfl, hg, by
  have e1 : i = 72 := by omega
  rw [e1, hV.2, hU.2] at heq
  have h1 := zv_b (B := 1000) (by decide) (f := g) (n := 72) hg
  rcases hc with rfl | rfl <;> omega⟩⟩
  | succ j ih =>
    intro i g c v4 hj hg hk hc heq
    have hx1 := hU.1 i (by omega) (by omega)
    have hg1 := hg (i : Int) (by omega) (by omega)
    refine z_iload_n (i := 3) (pc := 4) C rfl rfl dX7_take_4 ?_
    refine z_bipush (pc := 5) C (by decide +kernel) dX7_take_5 ?_
    refine z_icmp_ge (tgt := 57) (pc := 7) C dX7_take_7 (by decide) (fun h7 => absurd h7 (by omega)) (fun h7 => ?_)
    refine z_aload_n (i := 0) (pc := 10) C rfl rfl dX7_take_10 ?_
    refine z_iload_n (i := 3) (pc := 11) C rfl rfl dX7_take_11 ?_
    refine z_iaload (pc := 12) C (zU_s _ _ _) dX7_take_12 ?_
    refine z_aload_n (i := 1) (pc := 13) C rfl rfl dX7_take_13 ?_
    refine z_iload_n (i := 3) (pc := 14) C rfl rfl dX7_take_14 ?_
    refine z_iaload (pc := 15) C (zU_n' (Ne.symm hab) hb) dX7_take_15 ?_
    refine z_isub (pc := 16) C dX7_take_16 ?_
    refine z_iload_n (i := 2) (pc := 17) C rfl rfl dX7_take_17 ?_
    refine z_isub (pc := 18) C dX7_take_18 ?_
    refine z_istore (i := 4) (lv' := [_, _, _, _, _]) (pc := 19) C (by decide) rfl rfl dX7_take_19 ?_
    refine z_iload (i := 4) (pc := 21) C rfl dX7_take_21 ?_
    refine z_if_ge (tgt := 30) (pc := 23) C dX7_take_23 (by decide) (fun h23 => ?_) (fun h23 => ?_)
    · refine z_iconst (pc := 30) C dX7_take_30 ?_
      refine z_istore_n (i := 2) (lv' := [_, _, _, _, _]) (pc := 31) C rfl (by decide) rfl rfl dX7_take_31 ?_
      refine z_aload_n (i := 0) (pc := 32) C rfl rfl dX7_take_32 ?_
      refine z_iload_n (i := 3) (pc := 33) C rfl rfl dX7_take_33 ?_
      refine z_iload (i := 4) (pc := 34) C rfl dX7_take_34 ?_
      refine z_if_ge (tgt := 48) (pc := 36) C dX7_take_36 (by decide) (fun h36 => ?_) (fun h36 => ?_)
      · refine z_iload (i := 4) (pc := 48) C rfl dX7_take_48 ?_
        refine z_iastore (pc := 50) C (zU_s _ _ _) dX7_take_50 ?_
        rw [zU_u]
        refine z_iinc (i := 3) (lv' := [_, _, _, _, _]) (pc := 51) C rfl (by decide) rfl rfl dX7_take_51 ?_
        refine z_goto (tgt := 4) (pc := 54) C dX7_take_54 (by decide) ?_
        refine ih (i + 1) _ _ _ (by omega) (fun k a b => ?_) (fun k a b => ?_) (by first | exact Or.inl rfl | exact Or.inr rfl) ?_
        · by_cases e : k = (i : Int)
          · rw [e, zup_s]; omega
          · rw [zup_n e]; exact hg k a b
        · rw [zup_n (by omega)]; exact hk k (by omega) b
        · have hgf := hk (i : Int) (by omega) (by omega)
          rw [zv_s, zv_s, zv_s, zup_s, zv_c (g := g) (fun k a b => zup_n (by omega)), Int.pow_succ, heq, ← hgf]
          grind
      · refine z_iload (i := 4) (pc := 39) C rfl dX7_take_39 ?_
        refine z_sipush (pc := 41) C (by decide +kernel) dX7_take_41 ?_
        refine z_iadd (pc := 44) C dX7_take_44 ?_
        refine z_goto (tgt := 50) (pc := 45) C dX7_take_45 (by decide) ?_
        refine z_iastore (pc := 50) C (zU_s _ _ _) dX7_take_50 ?_
        rw [zU_u]
        refine z_iinc (i := 3) (lv' := [_, _, _, _, _]) (pc := 51) C rfl (by decide) rfl rfl dX7_take_51 ?_
        refine z_goto (tgt := 4) (pc := 54) C dX7_take_54 (by decide) ?_
        refine ih (i + 1) _ _ _ (by omega) (fun k a b => ?_) (fun k a b => ?_) (by first | exact Or.inl rfl | exact Or.inr rfl) ?_
        · by_cases e : k = (i : Int)
          · rw [e, zup_s]; omega
          · rw [zup_n e]; exact hg k a b
        · rw [zup_n (by omega)]; exact hk k (by omega) b
        · have hgf := hk (i : Int) (by omega) (by omega)
          rw [zv_s, zv_s, zv_s, zup_s, zv_c (g := g) (fun k a b => zup_n (by omega)), Int.pow_succ, heq, ← hgf]
          grind
    · refine z_iconst (pc := 26) C dX7_take_26 ?_
      refine z_goto (tgt := 31) (pc := 27) C dX7_take_27 (by decide) ?_
      refine z_istore_n (i := 2) (lv' := [_, _, _, _, _]) (pc := 31) C rfl (by decide) rfl rfl dX7_take_31 ?_
      refine z_aload_n (i := 0) (pc := 32) C rfl rfl dX7_take_32 ?_
      refine z_iload_n (i := 3) (pc := 33) C rfl rfl dX7_take_33 ?_
      refine z_iload (i := 4) (pc := 34) C rfl dX7_take_34 ?_
      refine z_if_ge (tgt := 48) (pc := 36) C dX7_take_36 (by decide) (fun h36 => ?_) (fun h36 => ?_)
      · refine z_iload (i := 4) (pc := 48) C rfl dX7_take_48 ?_
        refine z_iastore (pc := 50) C (zU_s _ _ _) dX7_take_50 ?_
        rw [zU_u]
        refine z_iinc (i := 3) (lv' := [_, _, _, _, _]) (pc := 51) C rfl (by decide) rfl rfl dX7_take_51 ?_
        refine z_goto (tgt := 4) (pc := 54) C dX7_take_54 (by decide) ?_
        refine ih (i + 1) _ _ _ (by omega) (fun k a b => ?_) (fun k a b => ?_) (by first | exact Or.inl rfl | exact Or.inr rfl) ?_
        · by_cases e : k = (i : Int)
          · rw [e, zup_s]; omega
          · rw [zup_n e]; exact hg k a b
        · rw [zup_n (by omega)]; exact hk k (by omega) b
        · have hgf := hk (i : Int) (by omega) (by omega)
          rw [zv_s, zv_s, zv_s, zup_s, zv_c (g := g) (fun k a b => zup_n (by omega)), Int.pow_succ, heq, ← hgf]
          grind
      · refine z_iload (i := 4) (pc := 39) C rfl dX7_take_39 ?_
        refine z_sipush (pc := 41) C (by decide +kernel) dX7_take_41 ?_
        refine z_iadd (pc := 44) C dX7_take_44 ?_
        refine z_goto (tgt := 50) (pc := 45) C dX7_take_45 (by decide) ?_
        refine z_iastore (pc := 50) C (zU_s _ _ _) dX7_take_50 ?_
        rw [zU_u]
        refine z_iinc (i := 3) (lv' := [_, _, _, _, _]) (pc := 51) C rfl (by decide) rfl rfl dX7_take_51 ?_
        refine z_goto (tgt := 4) (pc := 54) C dX7_take_54 (by decide) ?_
        refine ih (i + 1) _ _ _ (by omega) (fun k a b => ?_) (fun k a b => ?_) (by first | exact Or.inl rfl | exact Or.inr rfl) ?_
        · by_cases e : k = (i : Int)
          · rw [e, zup_s]; omega
          · rw [zup_n e]; exact hg k a b
        · rw [zup_n (by omega)]; exact hk k (by omega) b
        · have hgf := hk (i : Int) (by omega) (by omega)
          rw [zv_s, zv_s, zv_s, zup_s, zv_c (g := g) (fun k a b => zup_n (by omega)), Int.pow_succ, heq, ← hgf]
          grind
set_option maxRecDepth 100000 in
set_option maxHeartbeats 4000000 in
theorem c_X7_take {l0 : Launch} {X : zX} {ω : zWd} {a b : Nat} {f x : Int → Int} {V U : Int} (ha : ω.1 a = some (zAI X 72 f)) (hV : zNm f V) (hb : ω.1 b = some (zAI X 72 x)) (hU : zNm x U) (hab : a ≠ b) (hle : U ≤ V) : zMet l0 yX7_take cX7_take 5 none rmX7_take X [.ref a, .ref b] ω (zpv (fun w => ∃ g2, w = zU ω a (zAI X 72 g2) ∧ zNm g2 (V - U))) := by
  refine zMet.intro (by decide) (Nat.le_of_ble_eq_true rfl) ?_
  intro Γ C E N
  show Zw Γ ω 0 0 0 [some _, some _, none, none, none] []
  refine z_iconst (pc := 0) C dX7_take_0 ?_
  refine z_istore_n (i := 2) (lv' := [_, _, _, _, _]) (pc := 1) C rfl (by decide) rfl rfl dX7_take_1 ?_
  refine z_iconst (pc := 2) C dX7_take_2 ?_
  refine z_istore_n (i := 3) (lv' := [_, _, _, _, _]) (pc := 3) C rfl (by decide) rfl rfl dX7_take_3 ?_
  have h := lp_X7_take (ω := ω) C E ha hV hb hU hab hle 72 0 f 0 none (by omega) hV.1 (fun k _ _ => rfl) (Or.inl rfl) (by simp [zv])
  rw [zU_id ha] at h
  exact h
set_option maxRecDepth 100000 in
set_option maxHeartbeats 4000000 in
theorem lp_X7_set_ {Γ : zG} {l0 : Launch} {X : zX} {ω : zWd} {a up : Nat} {v : Int} (C : Zc Γ l0 X rmX7_set_ 5 cX7_set_ RX7) (E : Ze Γ (zpv (fun w => ∃ g2, w = zU ω a (zAI X 72 g2) ∧ zNm g2 (v * 1000 ^ up))) 0 0 none) (hvb : 0 ≤ v ∧ v ≤ 1000000) : ∀ (j k : Nat) (g : Int → Int) (r : Int), k + j ≤ 72 → (0 ≤ r ∧ r < 1000 ^ j ∧ r ≤ v) → (∀ i : Int, 0 ≤ i → i < 72 → 0 ≤ g i ∧ g i < 1000) → (∀ i : Int, (k : Int) ≤ i → i < 72 → g i = 0) → zv 1000 g 72 + r * 1000 ^ k = v * 1000 ^ up → Zw Γ (zU ω a (zAI X 72 g)) 0 0 9 [some (.ref a), some (.int (zI v)), some (.int (zI (up : Int))), some (.int (zI r)), some (.int (zI (k : Int)))] [] := by
  intro j
  induction j with
  | zero =>
    intro k g r hj hr hg hk heq
    have hr0 : r = 0 := by have := hr.2.1; rw [Int.pow_zero] at this; omega
    refine z_iload_n (i := 3) (pc := 9) C rfl rfl dX7_set__9 ?_
    refine z_if_le (tgt := 34) (pc := 10) C dX7_set__10 (by decide) (fun h10 => ?_) (fun h10 => absurd h10 (by omega))
    exact z_vret (pc := 34) C E dX7_set__34 ⟨rfl, ⟨g, rfl, hg, by rw [show r = 0 by omega, Int.zero_mul, Int.add_zero] at heq; exact heq⟩⟩
  | succ j ih =>
    intro k g r hj hr hg hk heq
    have hp : r < 1000 ^ j * 1000 := by rw [← Int.pow_succ]; exact hr.2.1
    have hrd : r / 1000 < 1000 ^ j := Int.ediv_lt_of_lt_mul (by decide) hp
    refine z_iload_n (i := 3) (pc := 9) C rfl rfl dX7_set__9 ?_
    refine z_if_le (tgt := 34) (pc := 10) C dX7_set__10 (by decide) (fun h10 => ?_) (fun h10 => ?_)
    · exact z_vret (pc := 34) C E dX7_set__34 ⟨rfl, ⟨g, rfl, hg, by rw [show r = 0 by omega, Int.zero_mul, Int.add_zero] at heq; exact heq⟩⟩
    · refine z_aload_n (i := 0) (pc := 13) C rfl rfl dX7_set__13 ?_
      refine z_iload (i := 4) (pc := 14) C rfl dX7_set__14 ?_
      refine z_iload_n (i := 3) (pc := 16) C rfl rfl dX7_set__16 ?_
      refine z_sipush (pc := 17) C (by decide +kernel) dX7_set__17 ?_
      refine z_irem (pc := 20) C (hd := dX7_set__20) (k := ?_)
      refine z_iastore (pc := 21) C (zU_s _ _ _) dX7_set__21 ?_
      rw [zU_u]
      refine z_iload_n (i := 3) (pc := 22) C rfl rfl dX7_set__22 ?_
      refine z_sipush (pc := 23) C (by decide +kernel) dX7_set__23 ?_
      refine z_idiv (pc := 26) C (hd := dX7_set__26) (k := ?_)
      refine z_istore_n (i := 3) (lv' := [_, _, _, _, _]) (pc := 27) C rfl (by decide) rfl rfl dX7_set__27 ?_
      refine z_iinc (i := 4) (lv' := [_, _, _, _, _]) (pc := 28) C rfl (by decide) rfl rfl dX7_set__28 ?_
      refine z_goto (tgt := 9) (pc := 31) C dX7_set__31 (by decide) ?_
      refine ih (k + 1) _ _ (by omega) ⟨by omega, hrd, by omega⟩ (fun i a b => ?_) (fun i a b => ?_) ?_
      · by_cases e : i = (k : Int)
        · rw [e, zup_s]; omega
        · rw [zup_n e]; exact hg i a b
      · rw [zup_n (by omega)]; exact hk i (by omega) b
      · rw [zv_u1 (by omega), hk (k : Int) (by omega) (by omega), Int.pow_succ, ← heq]
        have h3 : r = 1000 * (r / 1000) + r % 1000 := (Int.mul_ediv_add_emod _ 1000).symm
        generalize r / 1000 = d at *
        generalize r % 1000 = s at *
        rw [h3]
        grind
set_option maxRecDepth 100000 in
set_option maxHeartbeats 4000000 in
theorem c_X7_set_ {l0 : Launch} {X : zX} {ω : zWd} {a up : Nat} {f : Int → Int} {v : Int} (ha : ω.1 a = some (zAI X 72 f)) (hv : 0 ≤ v ∧ v ≤ 1000000) (hup : up ≤ 69) : zMet l0 yX7_set_ cX7_set_ 5 none rmX7_set_ X [.ref a, .int (zI v), .int (zI (up : Int))] ω (zpv (fun w => ∃ g2, w = zU ω a (zAI X 72 g2) ∧ zNm g2 (v * 1000 ^ up))) := by
  refine zMet.intro (by decide) (Nat.le_of_ble_eq_true rfl) ?_
  intro Γ C E N
  show Zw Γ ω 0 0 0 [some _, some _, some _, none, none] []
  refine z_aload_n (i := 0) (pc := 0) C rfl rfl dX7_set__0 ?_
  refine z_callSv (pc := 1) C (c_X7_zero ha) k_X7_112 zy_X7_zero.2 rfl rfl ⟨(Nat.le_of_ble_eq_true rfl), (Nat.le_of_ble_eq_true rfl)⟩ (Nat.le_of_ble_eq_true rfl) dX7_set__1 ⟨rfl, rfl⟩ ⟨(Nat.le_of_ble_eq_true rfl), (Nat.le_of_ble_eq_true rfl)⟩ (fun ω' hp => ?_)
  obtain ⟨g2, rfl, hg2⟩ := hp
  refine z_iload_n (i := 1) (pc := 4) C rfl rfl dX7_set__4 ?_
  refine z_istore_n (i := 3) (lv' := [_, _, _, _, _]) (pc := 5) C rfl (by decide) rfl rfl dX7_set__5 ?_
  refine z_iload_n (i := 2) (pc := 6) C rfl rfl dX7_set__6 ?_
  refine z_istore (i := 4) (lv' := [_, _, _, _, _]) (pc := 7) C (by decide) rfl rfl dX7_set__7 ?_
  exact lp_X7_set_ (ω := ω) C E hv 3 up g2 v (by omega) ⟨hv.1, Int.lt_of_le_of_lt hv.2 (by decide), Int.le_refl _⟩ hg2.1 (fun i a b => hg2.up (m := 0) (by decide) i (by omega) b) (by rw [hg2.2]; omega)
theorem z_dg (V : Int) (k : Nat) : V / 1000 ^ k % 1000 / 100 = V / 10 ^ (3 * k + 2) % 10 ∧ V / 1000 ^ k % 1000 / 10 % 10 = V / 10 ^ (3 * k + 1) % 10 ∧ V / 1000 ^ k % 1000 % 10 = V / 10 ^ (3 * k) % 10 := by
  have h1 : V / 10 ^ (3 * k + 2) = V / 1000 ^ k / 100 := by rw [zk_pow, Int.pow_add, ← Int.ediv_ediv_of_nonneg (by exact Int.le_of_lt (zpw (by decide) _))]; rfl
  have h2 : V / 10 ^ (3 * k + 1) = V / 1000 ^ k / 10 := by rw [zk_pow, Int.pow_add, ← Int.ediv_ediv_of_nonneg (by exact Int.le_of_lt (zpw (by decide) _))]; rfl
  rw [h1, h2, zk_pow]
  omega
set_option maxRecDepth 100000 in
set_option maxHeartbeats 4000000 in
theorem c_X7_decimal {l0 : Launch} {X : zX} {ω : zWd} {a pl : Nat} {f : Int → Int} {V i : Int} (ha : ω.1 a = some (zAI X 72 f)) (hV : zNm f V) (hp : pl ≤ 72) (hi : 1 ≤ i ∧ i ≤ 3 * pl) : zMet l0 yX7_decimal cX7_decimal 6 (some .int) rmX7_decimal X [.ref a, .int (zI (pl : Int)), .int (zI i)] ω (zpi (fun r w => w = ω ∧ r = V / 10 ^ (3 * (pl : Int) - i).toNat % 10)) := by
  refine zMet.intro (by decide) (Nat.le_of_ble_eq_true rfl) ?_
  intro Γ C E N
  show Zw Γ ω 0 0 0 [some _, some _, some _, none, none, none] []
  have hkx : 0 ≤ (pl : Int) - 1 - (i - 1) / 3 ∧ (pl : Int) - 1 - (i - 1) / 3 < 72 := by omega
  have hr := hV.1 _ hkx.1 hkx.2
  have hat := zv_at (B := 1000) (f := f) (by decide) (n := 72) (i := ((pl : Int) - 1 - (i - 1) / 3).toNat) (by omega) hV.1
  rw [hV.2, show ((((pl : Int) - 1 - (i - 1) / 3).toNat : Nat) : Int) = (pl : Int) - 1 - (i - 1) / 3 by omega] at hat
  have hd := z_dg V ((pl : Int) - 1 - (i - 1) / 3).toNat
  rw [hat] at hd
  refine z_iload_n (i := 1) (pc := 0) C rfl rfl dX7_decimal_0 ?_
  refine z_iconst (pc := 1) C dX7_decimal_1 ?_
  refine z_isub (pc := 2) C dX7_decimal_2 ?_
  refine z_iload_n (i := 2) (pc := 3) C rfl rfl dX7_decimal_3 ?_
  refine z_iconst (pc := 4) C dX7_decimal_4 ?_
  refine z_isub (pc := 5) C dX7_decimal_5 ?_
  refine z_iconst (pc := 6) C dX7_decimal_6 ?_
  refine z_idiv (pc := 7) C (hd := dX7_decimal_7) (k := ?_)
  refine z_isub (pc := 8) C dX7_decimal_8 ?_
  refine z_istore_n (i := 3) (lv' := [_, _, _, _, _, _]) (pc := 9) C rfl (by decide) rfl rfl dX7_decimal_9 ?_
  refine z_aload_n (i := 0) (pc := 10) C rfl rfl dX7_decimal_10 ?_
  refine z_iload_n (i := 3) (pc := 11) C rfl rfl dX7_decimal_11 ?_
  refine z_iaload (pc := 12) C ha dX7_decimal_12 ?_
  refine z_istore (i := 4) (lv' := [_, _, _, _, _, _]) (pc := 13) C (by decide) rfl rfl dX7_decimal_13 ?_
  refine z_iload_n (i := 2) (pc := 15) C rfl rfl dX7_decimal_15 ?_
  refine z_iconst (pc := 16) C dX7_decimal_16 ?_
  refine z_isub (pc := 17) C dX7_decimal_17 ?_
  refine z_iconst (pc := 18) C dX7_decimal_18 ?_
  refine z_irem (pc := 19) C (hd := dX7_decimal_19) (k := ?_)
  refine z_istore (i := 5) (lv' := [_, _, _, _, _, _]) (pc := 20) C (by decide) rfl rfl dX7_decimal_20 ?_
  refine z_iload (i := 5) (pc := 22) C rfl dX7_decimal_22 ?_
  refine z_if_ne (tgt := 35) (pc := 24) C dX7_decimal_24 (by decide) (fun h24 => ?_) (fun h24 => ?_)
  · refine z_iload (i := 5) (pc := 35) C rfl dX7_decimal_35 ?_
    refine z_iconst (pc := 37) C dX7_decimal_37 ?_
    refine z_icmp_ne (tgt := 52) (pc := 38) C dX7_decimal_38 (by decide) (fun h38 => ?_) (fun h38 => ?_)
    · refine z_iload (i := 4) (pc := 52) C rfl dX7_decimal_52 ?_
      refine z_bipush (pc := 54) C (by decide +kernel) dX7_decimal_54 ?_
      refine z_irem (pc := 56) C (hd := dX7_decimal_56) (k := ?_)
      exact z_iret (pc := 57) C E dX7_decimal_57 ⟨_, rfl, ⟨rfl, by
  first
  | (rw [hd.1]; congr 3; omega)
  | (rw [hd.2.1]; congr 3; omega)
  | (rw [hd.2.2]; congr 3; omega)⟩⟩
    · refine z_iload (i := 4) (pc := 41) C rfl dX7_decimal_41 ?_
      refine z_bipush (pc := 43) C (by decide +kernel) dX7_decimal_43 ?_
      refine z_idiv (pc := 45) C (hd := dX7_decimal_45) (k := ?_)
      refine z_bipush (pc := 46) C (by decide +kernel) dX7_decimal_46 ?_
      refine z_irem (pc := 48) C (hd := dX7_decimal_48) (k := ?_)
      refine z_goto (tgt := 57) (pc := 49) C dX7_decimal_49 (by decide) ?_
      exact z_iret (pc := 57) C E dX7_decimal_57 ⟨_, rfl, ⟨rfl, by
  first
  | (rw [hd.1]; congr 3; omega)
  | (rw [hd.2.1]; congr 3; omega)
  | (rw [hd.2.2]; congr 3; omega)⟩⟩
  · refine z_iload (i := 4) (pc := 27) C rfl dX7_decimal_27 ?_
    refine z_bipush (pc := 29) C (by decide +kernel) dX7_decimal_29 ?_
    refine z_idiv (pc := 31) C (hd := dX7_decimal_31) (k := ?_)
    refine z_goto (tgt := 57) (pc := 32) C dX7_decimal_32 (by decide) ?_
    exact z_iret (pc := 57) C E dX7_decimal_57 ⟨_, rfl, ⟨rfl, by
  first
  | (rw [hd.1]; congr 3; omega)
  | (rw [hd.2.1]; congr 3; omega)
  | (rw [hd.2.2]; congr 3; omega)⟩⟩
