set_option maxRecDepth 100000 in
set_option maxHeartbeats 4000000 in
theorem lp_everD {Γ : zG} {l0 : Launch} {X : zX} {m rt pu : Nat} {b M : Int} {bk : Nat → Int → Int} {ω0 : zWd} {N : Int} {o6 o7 : Option Value} (C : Zc Γ l0 X rmX7_ever 8 cX7_ever RX7) (hPt0 : zMx X ω0 (m + 1) 8 21 bk) (hy : zRt bk b) (hf : zBk (bk b.toNat)) (hMM : zst (bk b.toNat) 0 < 1000) (hpu : pu ≤ 60) (K : ∀ (ω : zWd) (o5 : Option Value), zEv X ω0 ω m rt N (pu + 1) (fun j => zD (bk b.toNat) j) (pu + 2) (fun j => (bk b.toNat) 0 ^ j) (fun _ => True) → Zw Γ ω 0 0 317 [some (.ref m), some (.int (zI (pu : Int))), some (.int (zI b)), some (.int (zI M)), some (.int (zI (pu : Int))), o5, o6, o7] []) : ∀ (j u : Nat) (ω : zWd) (o5 : Option Value), u + j = pu → zEv X ω0 ω m rt N (u + 1) (fun j => zD (bk b.toNat) j) (pu + 2) (fun j => (bk b.toNat) 0 ^ j) (fun _ => True) → Zw Γ ω 0 0 155 [some (.ref m), some (.int (zI (pu : Int))), some (.int (zI b)), some (.int (zI M)), some (.int (zI (u : Int))), o5, o6, o7] [] := by
  obtain ⟨b0, b1, bs⟩ := id hy
  have hDb := zD_b hf bs hMM
  have h01 := zF0_1 hf bs hMM
  intro j
  induction j with
  | zero =>
    intro u ω o5 hj hS
    have e1 : u = pu := by omega
    subst e1
    have hK := K ω o5 hS
    refine z_iload (i := 4) (pc := 155) C rfl dX7_ever_155 ?_
    refine z_iload_n (i := 1) (pc := 157) C rfl rfl dX7_ever_157 ?_
    refine z_icmp_ge (tgt := 317) (pc := 158) C dX7_ever_158 (by decide) (fun h158 => ?_) (fun h158 => absurd h158 (by omega))
    exact hK
  | succ j ih =>
    intro u ω o5 hj hS
    obtain ⟨gN, gs_, g4, g5, kF, kM, ⟨kN, kNv⟩, kD, kP, kR, ⟨kE, kEv⟩, kS⟩ := id hS
    have hPt := hPt0.kp (ω2 := ω) (fun b h1 h2 => kF.1 b (by omega))
    obtain ⟨fD, hD1, hD2⟩ := kD
    have hdu := hDb u
    have hpl : (bk b.toNat) 0 ^ (u + 1) ≤ 10 ^ 183 := zpow_le ⟨by omega, (hf 0 (by omega) (by omega)).2⟩ (by omega)
    have h72 : (10 : Int) ^ 183 * 1000 < 1000 ^ 72 := by decide
    have e00 : (1000 : Int) ^ 0 = 1 := rfl
    refine z_iload (i := 4) (pc := 155) C rfl dX7_ever_155 ?_
    refine z_iload_n (i := 1) (pc := 157) C rfl rfl dX7_ever_157 ?_
    refine z_icmp_ge (tgt := 317) (pc := 158) C dX7_ever_158 (by decide) (fun h158 => absurd h158 (by omega)) (fun h158 => ?_)
    refine z_aload_n (i := 0) (pc := 161) C rfl rfl dX7_ever_161 ?_
    refine g_X7_52 (pc := 162) C kM rfl dX7_ever_162 ?_
    refine z_iload (i := 4) (pc := 165) C rfl dX7_ever_165 ?_
    refine z_iconst (pc := 167) C dX7_ever_167 ?_
    refine z_iadd (pc := 168) C dX7_ever_168 ?_
    rw [show (u : Int) + 1 = ((u + 1 : Nat) : Int) by omega]
    refine z_aaload (pc := 169) C hD1.1 rfl dX7_ever_169 ?_
    refine z_callSv (pc := 170) C (c_X7_zero (hD1.2 (u + 1) (by omega))) k_X7_112 zy_X7_zero.2 rfl rfl ⟨(Nat.le_of_ble_eq_true rfl), (Nat.le_of_ble_eq_true rfl)⟩ (Nat.le_of_ble_eq_true rfl) dX7_ever_170 ⟨rfl, rfl⟩ ⟨(Nat.le_of_ble_eq_true rfl), (Nat.le_of_ble_eq_true rfl)⟩ (fun ω' hp => ?_)
    obtain ⟨g0, rfl, hg0⟩ := hp
    refine z_aload_n (i := 0) (pc := 173) C rfl rfl dX7_ever_173 ?_
    refine z_aload_n (i := 0) (pc := 174) C rfl rfl dX7_ever_174 ?_
    refine g_X7_52 (pc := 175) C (zU_n' (by omega) kM) rfl dX7_ever_175 ?_
    refine z_iload (i := 4) (pc := 178) C rfl dX7_ever_178 ?_
    refine z_iconst (pc := 180) C dX7_ever_180 ?_
    refine z_iadd (pc := 181) C dX7_ever_181 ?_
    rw [show (u : Int) + 1 = ((u + 1 : Nat) : Int) by omega]
    refine z_aaload (pc := 182) C (zU_n' (by omega) hD1.1) rfl dX7_ever_182 ?_
    refine z_aload_n (i := 0) (pc := 183) C rfl rfl dX7_ever_183 ?_
    refine g_X7_52 (pc := 184) C (zU_n' (by omega) kM) rfl dX7_ever_184 ?_
    refine z_iload (i := 4) (pc := 187) C rfl dX7_ever_187 ?_
    refine z_aaload (pc := 189) C (zU_n' (by omega) hD1.1) rfl dX7_ever_189 ?_
    refine z_sipush (pc := 190) C (by decide +kernel) dX7_ever_190 ?_
    refine z_iconst (pc := 193) C dX7_ever_193 ?_
    refine z_callVv (pc := 194) C (c_X7_add (up := 0) (sp := 72) (q := 1000) (zU_n' (by omega) kM) rfl (zU_s _ _ _) hg0 (zU_n' (by omega) (hD1.2 u (by omega))) (hD2 u (by omega)) (by omega) (by omega) (by omega) (by (try dsimp only); rw [e00, Int.mul_one]; omega)) k_X7_120 zy_X7_add rfl rfl (zU_n' (by omega) kM) rfl rfl ⟨(Nat.le_of_ble_eq_true rfl), (Nat.le_of_ble_eq_true rfl)⟩ (Nat.le_of_ble_eq_true rfl) dX7_ever_194 ⟨rfl, rfl⟩ ⟨(Nat.le_of_ble_eq_true rfl), (Nat.le_of_ble_eq_true rfl)⟩ (fun ω' hp => ?_)
    obtain ⟨g1, rfl, hg1⟩ := hp
    rw [zU_u]
    (try dsimp only at hg1)
    rw [e00, Int.mul_one, Int.zero_add] at hg1
    refine z_iconst (pc := 197) C dX7_ever_197 ?_
    refine z_istore (i := 5) (lv' := [_, _, _, _, _, _, _, _]) (pc := 198) C (by decide) rfl rfl dX7_ever_198 ?_
    refine lp_everI C hPt0 hy hf hMM hpu (show u < pu by omega) ?_ (min (u + 1) 20) 0 _ g1 (by omega) (hS.du (j := u + 1) (g := g1) (by omega) (by omega)) (zU_s _ _ _) (hg1.e (by show 1000 * zD (bk b.toNat) u = zD (bk b.toNat) u * 1000 - 0; omega))
    intro ω2 gA o52 hS2 hA2 hAv2
    have hgo2 := hS2.dx (g := gA) (by omega) hAv2
    rw [zU_id hA2] at hgo2
    refine z_iinc (i := 4) (lv' := [_, _, _, _, _, _, _, _]) (pc := 311) C rfl (by decide) rfl rfl dX7_ever_311 ?_
    refine z_goto (tgt := 155) (pc := 314) C dX7_ever_314 (by decide) ?_
    exact ih (u + 1) _ _ (by omega) (hgo2)
set_option maxRecDepth 100000 in
set_option maxHeartbeats 4000000 in
theorem lp_everS {Γ : zG} {l0 : Launch} {X : zX} {m rt pu : Nat} {b M : Int} {bk : Nat → Int → Int} {ω0 : zWd} {N r l4 : Int} (C : Zc Γ l0 X rmX7_ever 8 cX7_ever RX7) (hPt0 : zMx X ω0 (m + 1) 8 21 bk) (hy : zRt bk b) (hf : zBk (bk b.toNat)) (hMM : zst (bk b.toNat) 0 < 1000) (hpu : pu ≤ 60) (hr : 0 ≤ r ∧ r < ((bk b.toNat) 0 ^ (pu + 1))) (K : ∀ (ω : zWd) (gp : Int → Int) (l h : Int) (o7 : Option Value), (0 ≤ l ∧ l ≤ 999) → ((bk b.toNat) 0 ^ (pu + 1)) * l ≤ r * 1000 → r * 1000 < ((bk b.toNat) 0 ^ (pu + 1)) * (l + 1) → zEv X ω0 ω m rt N 0 (fun j => zD (bk b.toNat) j) (pu + 2) (fun j => (bk b.toNat) 0 ^ j) (fun g => zNm g r) → ω.1 (m + 2077) = some (zAI X 72 gp) → zNm gp (r * 1000) → Zw Γ ω 0 0 459 [some (.ref m), some (.int (zI (pu : Int))), some (.int (zI b)), some (.int (zI M)), some (.int (zI l4)), some (.int (zI l)), some (.int (zI h)), o7] []) : ∀ (j : Nat) (l h : Int) (ω : zWd) (gp : Int → Int) (o7 : Option Value), h - l ≤ j → 0 ≤ l → l ≤ h → h ≤ 999 → ((bk b.toNat) 0 ^ (pu + 1)) * l ≤ r * 1000 → r * 1000 < ((bk b.toNat) 0 ^ (pu + 1)) * (h + 1) → zEv X ω0 ω m rt N 0 (fun j => zD (bk b.toNat) j) (pu + 2) (fun j => (bk b.toNat) 0 ^ j) (fun g => zNm g r) → ω.1 (m + 2077) = some (zAI X 72 gp) → zNm gp (r * 1000) → Zw Γ ω 0 0 385 [some (.ref m), some (.int (zI (pu : Int))), some (.int (zI b)), some (.int (zI M)), some (.int (zI l4)), some (.int (zI l)), some (.int (zI h)), o7] [] := by
  obtain ⟨b0, b1, bs⟩ := id hy
  have h01 := zF0_1 hf bs hMM
  have hpl : ((bk b.toNat) 0 ^ (pu + 1)) ≤ 10 ^ 183 := zpow_le ⟨by omega, (hf 0 (by omega) (by omega)).2⟩ (by omega)
  have h72 : (10 : Int) ^ 183 * 1000 < 1000 ^ 72 := by decide
  have hP0 : (0 : Int) < ((bk b.toNat) 0 ^ (pu + 1)) := zpw h01 _
  have e00 : (1000 : Int) ^ 0 = 1 := rfl
  intro j
  induction j with
  | zero =>
    intro l h ω gp o7 hj l0 lh h9 hlo hhi hS hpc hpv
    have e1 : l = h := by omega
    have hK := K ω gp l h o7 (by omega) hlo (by rw [e1]; exact hhi) hS hpc hpv
    refine z_iload (i := 5) (pc := 385) C rfl dX7_ever_385 ?_
    refine z_iload (i := 6) (pc := 387) C rfl dX7_ever_387 ?_
    refine z_icmp_ge (tgt := 459) (pc := 389) C dX7_ever_389 (by decide) (fun h389 => ?_) (fun h389 => absurd h389 (by omega))
    exact hK
  | succ j ih =>
    intro l h ω gp o7 hj l0 lh h9 hlo hhi hS hpc hpv
    obtain ⟨gN, gs_, g4, g5, kF, kM, ⟨kN, kNv⟩, kD, kP, kR, ⟨kE, kEv⟩, kS⟩ := id hS
    obtain ⟨fP, hP1, hP2⟩ := kP
    have hqq : ((bk b.toNat) 0 ^ (pu + 1)) * ((l + h + 1) / 2) ≤ 10 ^ 183 * 1000 := Int.mul_le_mul hpl (by omega) (by omega) (by omega)
    refine z_iload (i := 5) (pc := 385) C rfl dX7_ever_385 ?_
    refine z_iload (i := 6) (pc := 387) C rfl dX7_ever_387 ?_
    refine z_icmp_ge (tgt := 459) (pc := 389) C dX7_ever_389 (by decide) (fun h389 => ?_) (fun h389 => ?_)
    · have e1 : l = h := by omega
      have hK := K ω gp l h o7 (by omega) hlo (by rw [e1]; exact hhi) hS hpc hpv
      exact hK
    · refine z_iload (i := 5) (pc := 392) C rfl dX7_ever_392 ?_
      refine z_iload (i := 6) (pc := 394) C rfl dX7_ever_394 ?_
      refine z_iadd (pc := 396) C dX7_ever_396 ?_
      refine z_iconst (pc := 397) C dX7_ever_397 ?_
      refine z_iadd (pc := 398) C dX7_ever_398 ?_
      refine z_iconst (pc := 399) C dX7_ever_399 ?_
      refine z_idiv (pc := 400) C (hd := dX7_ever_400) (k := ?_)
      refine z_istore (i := 7) (lv' := [_, _, _, _, _, _, _, _]) (pc := 401) C (by decide) rfl rfl dX7_ever_401 ?_
      refine z_aload_n (i := 0) (pc := 403) C rfl rfl dX7_ever_403 ?_
      refine g_X7_46 (pc := 404) C kM rfl dX7_ever_404 ?_
      refine z_callSv (pc := 407) C (c_X7_zero kS) k_X7_112 zy_X7_zero.2 rfl rfl ⟨(Nat.le_of_ble_eq_true rfl), (Nat.le_of_ble_eq_true rfl)⟩ (Nat.le_of_ble_eq_true rfl) dX7_ever_407 ⟨rfl, rfl⟩ ⟨(Nat.le_of_ble_eq_true rfl), (Nat.le_of_ble_eq_true rfl)⟩ (fun ω' hp => ?_)
      obtain ⟨g0, rfl, hg0⟩ := hp
      refine z_aload_n (i := 0) (pc := 410) C rfl rfl dX7_ever_410 ?_
      refine z_aload_n (i := 0) (pc := 411) C rfl rfl dX7_ever_411 ?_
      refine g_X7_46 (pc := 412) C (zU_n' (by omega) kM) rfl dX7_ever_412 ?_
      refine z_aload_n (i := 0) (pc := 415) C rfl rfl dX7_ever_415 ?_
      refine g_X7_55 (pc := 416) C (zU_n' (by omega) kM) rfl dX7_ever_416 ?_
      refine z_iload_n (i := 1) (pc := 419) C rfl rfl dX7_ever_419 ?_
      refine z_iconst (pc := 420) C dX7_ever_420 ?_
      refine z_iadd (pc := 421) C dX7_ever_421 ?_
      rw [show (pu : Int) + 1 = ((pu + 1 : Nat) : Int) by omega]
      refine z_aaload (pc := 422) C (zU_n' (by omega) hP1.1) rfl dX7_ever_422 ?_
      refine z_iload (i := 7) (pc := 423) C rfl dX7_ever_423 ?_
      refine z_iconst (pc := 425) C dX7_ever_425 ?_
      refine z_callVv (pc := 426) C (c_X7_add (up := 0) (sp := 72) (zU_n' (by omega) kM) rfl (zU_s _ _ _) hg0 (zU_n' (by omega) (hP1.2 (pu + 1) (by omega))) (hP2 (pu + 1) (by omega)) (by omega) (by omega) (by omega) (by (try dsimp only); rw [e00, Int.mul_one, Int.mul_comm]; omega)) k_X7_120 zy_X7_add rfl rfl (zU_n' (by omega) kM) rfl rfl ⟨(Nat.le_of_ble_eq_true rfl), (Nat.le_of_ble_eq_true rfl)⟩ (Nat.le_of_ble_eq_true rfl) dX7_ever_426 ⟨rfl, rfl⟩ ⟨(Nat.le_of_ble_eq_true rfl), (Nat.le_of_ble_eq_true rfl)⟩ (fun ω' hp => ?_)
      obtain ⟨g1, rfl, hg1⟩ := hp
      rw [zU_u]
      (try dsimp only at hg1)
      rw [e00, Int.mul_one, Int.zero_add, Int.mul_comm] at hg1
      have hS1 := hS.su (g := g1)
      refine z_aload_n (i := 0) (pc := 429) C rfl rfl dX7_ever_429 ?_
      refine g_X7_46 (pc := 430) C (zU_n' (by omega) kM) rfl dX7_ever_430 ?_
      refine z_aload_n (i := 0) (pc := 433) C rfl rfl dX7_ever_433 ?_
      refine g_X7_58 (pc := 434) C (zU_n' (by omega) kM) rfl dX7_ever_434 ?_
      refine z_callSi (pc := 437) C (c_X7_compare (zU_s _ _ _) hg1 (zU_n' (by omega) hpc) hpv) k_X7_155 zy_X7_compare.2 rfl rfl ⟨(Nat.le_of_ble_eq_true rfl), (Nat.le_of_ble_eq_true rfl)⟩ (Nat.le_of_ble_eq_true rfl) dX7_ever_437 ⟨rfl, rfl⟩ ⟨(Nat.le_of_ble_eq_true rfl), (Nat.le_of_ble_eq_true rfl)⟩ (fun rv ω' hp => ?_)
      obtain ⟨hw', hcp⟩ := hp
      rw [hw']
      clear hw'
      have hrr : rv = -1 ∨ rv = 0 ∨ rv = 1 := by omega
      refine z_if_gt (tgt := 450) (pc := 440) C dX7_ever_440 (by decide) (fun h440 => ?_) (fun h440 => ?_)
      · have hgo := ih l ((l + h + 1) / 2 - 1) _ gp (some (.int (zI ((l + h + 1) / 2)))) (by omega) l0 (by omega) (by omega) hlo (by rw [show (l + h + 1) / 2 - 1 + 1 = (l + h + 1) / 2 by omega]; omega) hS1 (zU_n' (by omega) hpc) hpv
        refine z_iload (i := 7) (pc := 450) C rfl dX7_ever_450 ?_
        refine z_iconst (pc := 452) C dX7_ever_452 ?_
        refine z_isub (pc := 453) C dX7_ever_453 ?_
        refine z_istore (i := 6) (lv' := [_, _, _, _, _, _, _, _]) (pc := 454) C (by decide) rfl rfl dX7_ever_454 ?_
        refine z_goto (tgt := 385) (pc := 456) C dX7_ever_456 (by decide) ?_
        exact hgo
      · have hgo := ih ((l + h + 1) / 2) h _ gp (some (.int (zI ((l + h + 1) / 2)))) (by omega) (by omega) (by omega) h9 (by omega) hhi hS1 (zU_n' (by omega) hpc) hpv
        refine z_iload (i := 7) (pc := 443) C rfl dX7_ever_443 ?_
        refine z_istore (i := 5) (lv' := [_, _, _, _, _, _, _, _]) (pc := 445) C (by decide) rfl rfl dX7_ever_445 ?_
        refine z_goto (tgt := 456) (pc := 447) C dX7_ever_447 (by decide) ?_
        refine z_goto (tgt := 385) (pc := 456) C dX7_ever_456 (by decide) ?_
        exact hgo
set_option maxRecDepth 100000 in
set_option maxHeartbeats 4000000 in
theorem lp_everF {Γ : zG} {l0 : Launch} {X : zX} {m rt pu : Nat} {b M : Int} {bk : Nat → Int → Int} {ω0 : zWd} {r0 : Int} (C : Zc Γ l0 X rmX7_ever 8 cX7_ever RX7) (hPt0 : zMx X ω0 (m + 1) 8 21 bk) (hy : zRt bk b) (hf : zBk (bk b.toNat)) (hMM : zst (bk b.toNat) 0 < 1000) (hpu : pu ≤ 60) (K : ∀ (ω : zWd) (N r : Int) (o5 o6 o7 : Option Value), (0 ≤ r ∧ r < ((bk b.toNat) 0 ^ (pu + 1))) → N * ((bk b.toNat) 0 ^ (pu + 1)) + r = r0 * 1000 ^ 10 → zEv X ω0 ω m rt N 0 (fun j => zD (bk b.toNat) j) (pu + 2) (fun j => (bk b.toNat) 0 ^ j) (fun g => zNm g r) → Zw Γ ω 0 0 522 [some (.ref m), some (.int (zI (pu : Int))), some (.int (zI b)), some (.int (zI M)), some (.int (zI (-1))), o5, o6, o7] []) : ∀ (i j : Nat) (ω : zWd) (N r : Int) (o5 o6 o7 : Option Value), i + j = 10 → 0 ≤ N → (0 ≤ r ∧ r < ((bk b.toNat) 0 ^ (pu + 1))) → N * ((bk b.toNat) 0 ^ (pu + 1)) + r = r0 * 1000 ^ j → zEv X ω0 ω m rt (N * 1000 ^ i) 0 (fun j => zD (bk b.toNat) j) (pu + 2) (fun j => (bk b.toNat) 0 ^ j) (fun g => zNm g r) → Zw Γ ω 0 0 349 [some (.ref m), some (.int (zI (pu : Int))), some (.int (zI b)), some (.int (zI M)), some (.int (zI ((i : Int) - 1))), o5, o6, o7] [] := by
  obtain ⟨b0, b1, bs⟩ := id hy
  have h01 := zF0_1 hf bs hMM
  have hpl : ((bk b.toNat) 0 ^ (pu + 1)) ≤ 10 ^ 183 := zpow_le ⟨by omega, (hf 0 (by omega) (by omega)).2⟩ (by omega)
  have h72 : (10 : Int) ^ 183 * 1000 < 1000 ^ 72 := by decide
  have hP0 : (0 : Int) < ((bk b.toNat) 0 ^ (pu + 1)) := zpw h01 _
  have e00 : (1000 : Int) ^ 0 = 1 := rfl
  intro i
  induction i with
  | zero =>
    intro j ω N r o5 o6 o7 hj hN hr heq hS
    have e1 : j = 10 := by omega
    rw [e1] at heq
    rw [e00, Int.mul_one] at hS
    have hK := K ω N r o5 o6 o7 hr heq hS
    refine z_iload (i := 4) (pc := 349) C rfl dX7_ever_349 ?_
    refine z_if_lt (tgt := 522) (pc := 351) C dX7_ever_351 (by decide) (fun h351 => ?_) (fun h351 => absurd h351 (by omega))
    exact hK
  | succ i ih =>
    intro j ω N r o5 o6 o7 hj hN hr heq hS
    rw [show ((i + 1 : Nat) : Int) - 1 = (i : Int) by omega]
    obtain ⟨gN, gs_, g4, g5, kF, kM, ⟨kN, kNv⟩, kD, kP, kR, ⟨kE, kEv⟩, kS⟩ := id hS
    refine z_iload (i := 4) (pc := 349) C rfl dX7_ever_349 ?_
    refine z_if_lt (tgt := 522) (pc := 351) C dX7_ever_351 (by decide) (fun h351 => absurd h351 (by omega)) (fun h351 => ?_)
    refine z_aload_n (i := 0) (pc := 354) C rfl rfl dX7_ever_354 ?_
    refine g_X7_58 (pc := 355) C kM rfl dX7_ever_355 ?_
    refine z_callSv (pc := 358) C (c_X7_zero kR) k_X7_112 zy_X7_zero.2 rfl rfl ⟨(Nat.le_of_ble_eq_true rfl), (Nat.le_of_ble_eq_true rfl)⟩ (Nat.le_of_ble_eq_true rfl) dX7_ever_358 ⟨rfl, rfl⟩ ⟨(Nat.le_of_ble_eq_true rfl), (Nat.le_of_ble_eq_true rfl)⟩ (fun ω' hp => ?_)
    obtain ⟨g0, rfl, hg0⟩ := hp
    refine z_aload_n (i := 0) (pc := 361) C rfl rfl dX7_ever_361 ?_
    refine z_aload_n (i := 0) (pc := 362) C rfl rfl dX7_ever_362 ?_
    refine g_X7_58 (pc := 363) C (zU_n' (by omega) kM) rfl dX7_ever_363 ?_
    refine z_aload_n (i := 0) (pc := 366) C rfl rfl dX7_ever_366 ?_
    refine g_X7_61 (pc := 367) C (zU_n' (by omega) kM) rfl dX7_ever_367 ?_
    refine z_sipush (pc := 370) C (by decide +kernel) dX7_ever_370 ?_
    refine z_iconst (pc := 373) C dX7_ever_373 ?_
    refine z_callVv (pc := 374) C (c_X7_add (up := 0) (sp := 72) (q := 1000) (zU_n' (by omega) kM) rfl (zU_s _ _ _) hg0 (zU_n' (by omega) kE) kEv (by omega) (by omega) (by omega) (by rw [e00, Int.mul_one]; omega)) k_X7_120 zy_X7_add rfl rfl (zU_n' (by omega) kM) rfl rfl ⟨(Nat.le_of_ble_eq_true rfl), (Nat.le_of_ble_eq_true rfl)⟩ (Nat.le_of_ble_eq_true rfl) dX7_ever_374 ⟨rfl, rfl⟩ ⟨(Nat.le_of_ble_eq_true rfl), (Nat.le_of_ble_eq_true rfl)⟩ (fun ω' hp => ?_)
    obtain ⟨g1, rfl, hg1⟩ := hp
    rw [zU_u]
    rw [e00, Int.mul_one, Int.zero_add, Int.mul_comm] at hg1
    refine z_iconst (pc := 377) C dX7_ever_377 ?_
    refine z_istore (i := 5) (lv' := [_, _, _, _, _, _, _, _]) (pc := 378) C (by decide) rfl rfl dX7_ever_378 ?_
    refine z_sipush (pc := 380) C (by decide +kernel) dX7_ever_380 ?_
    refine z_istore (i := 6) (lv' := [_, _, _, _, _, _, _, _]) (pc := 383) C (by decide) rfl rfl dX7_ever_383 ?_
    refine lp_everS C hPt0 hy hf hMM hpu hr ?_ 999 0 999 _ g1 _ (by omega) (by omega) (by omega) (by omega) (by rw [Int.mul_zero]; omega) (by rw [show (999 : Int) + 1 = 1000 by omega]; omega) (hS.pr (g := g1)) (zU_s _ _ _) hg1
    intro ω2 gp l h o72 hl hlo hhi hS2 hpc hpv
    obtain ⟨gN2, gs2, g42, g52, kF, kM, ⟨kN, kNv⟩, kD, kP, kR, ⟨kE, kEv⟩, kS⟩ := id hS2
    obtain ⟨fP, hP1, hP2⟩ := kP
    have hpl2 : ((bk b.toNat) 0 ^ (pu + 1)) * l ≤ 10 ^ 183 * 1000 := Int.mul_le_mul hpl (by omega) (by omega) (by omega)
    have hri : r * 1000 - ((bk b.toNat) 0 ^ (pu + 1)) * l < ((bk b.toNat) 0 ^ (pu + 1)) := by rw [Int.mul_add, Int.mul_one] at hhi; omega
    have hg0 : gN2 ((i : Nat) : Int) = 0 := by
      have hat := zv_at (B := 1000) (f := gN2) (by decide) (n := 72) (i := i) (by omega) kNv.1
      rw [kNv.2, Int.pow_succ, ← Int.mul_assoc, Int.mul_right_comm, Int.mul_ediv_cancel _ (by exact Int.ne_of_gt (zpw (by decide) _)), Int.mul_emod_left] at hat
      exact hat.symm
    have hnn : zNm (zup gN2 (i : Int) l) ((N * 1000 + l) * 1000 ^ i) := by
      refine ⟨fun k a b => ?_, ?_⟩
      · by_cases e : k = (i : Int)
        · rw [e, zup_s]; omega
        · rw [zup_n e]; exact kNv.1 k a b
      · rw [zv_u1 (by omega), hg0, kNv.2, Int.pow_succ]
        grind
    refine z_aload_n (i := 0) (pc := 459) C rfl rfl dX7_ever_459 ?_
    refine g_X7_14 (pc := 460) C kM rfl dX7_ever_460 ?_
    refine z_iload (i := 4) (pc := 463) C rfl dX7_ever_463 ?_
    refine z_iload (i := 5) (pc := 465) C rfl dX7_ever_465 ?_
    refine z_iastore (pc := 467) C kN dX7_ever_467 ?_
    refine z_aload_n (i := 0) (pc := 468) C rfl rfl dX7_ever_468 ?_
    refine g_X7_46 (pc := 469) C (zU_n' (by omega) kM) rfl dX7_ever_469 ?_
    refine z_callSv (pc := 472) C (c_X7_zero (zU_n' (by omega) kS)) k_X7_112 zy_X7_zero.2 rfl rfl ⟨(Nat.le_of_ble_eq_true rfl), (Nat.le_of_ble_eq_true rfl)⟩ (Nat.le_of_ble_eq_true rfl) dX7_ever_472 ⟨rfl, rfl⟩ ⟨(Nat.le_of_ble_eq_true rfl), (Nat.le_of_ble_eq_true rfl)⟩ (fun ω' hp => ?_)
    obtain ⟨gz, rfl, hgz⟩ := hp
    refine z_aload_n (i := 0) (pc := 475) C rfl rfl dX7_ever_475 ?_
    refine z_aload_n (i := 0) (pc := 476) C rfl rfl dX7_ever_476 ?_
    refine g_X7_46 (pc := 477) C (zU_n' (by omega) (zU_n' (by omega) kM)) rfl dX7_ever_477 ?_
    refine z_aload_n (i := 0) (pc := 480) C rfl rfl dX7_ever_480 ?_
    refine g_X7_55 (pc := 481) C (zU_n' (by omega) (zU_n' (by omega) kM)) rfl dX7_ever_481 ?_
    refine z_iload_n (i := 1) (pc := 484) C rfl rfl dX7_ever_484 ?_
    refine z_iconst (pc := 485) C dX7_ever_485 ?_
    refine z_iadd (pc := 486) C dX7_ever_486 ?_
    rw [show (pu : Int) + 1 = ((pu + 1 : Nat) : Int) by omega]
    refine z_aaload (pc := 487) C (zU_n' (by omega) (zU_n' (by omega) hP1.1)) rfl dX7_ever_487 ?_
    refine z_iload (i := 5) (pc := 488) C rfl dX7_ever_488 ?_
    refine z_iconst (pc := 490) C dX7_ever_490 ?_
    refine z_callVv (pc := 491) C (c_X7_add (up := 0) (sp := 72) (zU_n' (by omega) (zU_n' (by omega) kM)) rfl (zU_s _ _ _) hgz (zU_n' (by omega) (zU_n' (by omega) (hP1.2 (pu + 1) (by omega)))) (hP2 (pu + 1) (by omega)) (by omega) (by omega) (by omega) (by (try dsimp only); rw [e00, Int.mul_one, Int.mul_comm]; omega)) k_X7_120 zy_X7_add rfl rfl (zU_n' (by omega) (zU_n' (by omega) kM)) rfl rfl ⟨(Nat.le_of_ble_eq_true rfl), (Nat.le_of_ble_eq_true rfl)⟩ (Nat.le_of_ble_eq_true rfl) dX7_ever_491 ⟨rfl, rfl⟩ ⟨(Nat.le_of_ble_eq_true rfl), (Nat.le_of_ble_eq_true rfl)⟩ (fun ω' hp => ?_)
    obtain ⟨ga, rfl, hga⟩ := hp
    rw [zU_u]
    (try dsimp only at hga)
    rw [e00, Int.mul_one, Int.zero_add, Int.mul_comm] at hga
    refine z_aload_n (i := 0) (pc := 494) C rfl rfl dX7_ever_494 ?_
    refine g_X7_58 (pc := 495) C (zU_n' (by omega) (zU_n' (by omega) kM)) rfl dX7_ever_495 ?_
    refine z_aload_n (i := 0) (pc := 498) C rfl rfl dX7_ever_498 ?_
    refine g_X7_46 (pc := 499) C (zU_n' (by omega) (zU_n' (by omega) kM)) rfl dX7_ever_499 ?_
    refine z_callSv (pc := 502) C (c_X7_take (zU_n' (by omega) (zU_n' (by omega) hpc)) hpv (zU_s _ _ _) hga (by omega) hlo) k_X7_163 zy_X7_take.2 rfl rfl ⟨(Nat.le_of_ble_eq_true rfl), (Nat.le_of_ble_eq_true rfl)⟩ (Nat.le_of_ble_eq_true rfl) dX7_ever_502 ⟨rfl, rfl⟩ ⟨(Nat.le_of_ble_eq_true rfl), (Nat.le_of_ble_eq_true rfl)⟩ (fun ω' hp => ?_)
    obtain ⟨gk, rfl, hgk⟩ := hp
    refine z_aload_n (i := 0) (pc := 505) C rfl rfl dX7_ever_505 ?_
    refine g_X7_58 (pc := 506) C (zU_n' (by omega) (zU_n' (by omega) (zU_n' (by omega) kM))) rfl dX7_ever_506 ?_
    refine z_aload_n (i := 0) (pc := 509) C rfl rfl dX7_ever_509 ?_
    refine g_X7_61 (pc := 510) C (zU_n' (by omega) (zU_n' (by omega) (zU_n' (by omega) kM))) rfl dX7_ever_510 ?_
    refine z_callSv (pc := 513) C (c_X7_copy (zU_s _ _ _) hgk (by omega) (zU_n' (by omega) (zU_n' (by omega) (zU_n' (by omega) kE)))) k_X7_124 zy_X7_copy.2 rfl rfl ⟨(Nat.le_of_ble_eq_true rfl), (Nat.le_of_ble_eq_true rfl)⟩ (Nat.le_of_ble_eq_true rfl) dX7_ever_513 ⟨rfl, rfl⟩ ⟨(Nat.le_of_ble_eq_true rfl), (Nat.le_of_ble_eq_true rfl)⟩ (fun ω' hp => ?_)
    obtain ⟨gc, rfl, hgc⟩ := hp
    have hS5 := (((hS2.nu hnn).su (g := ga)).pr (g := gk)).re (g := gc) (Rp2 := fun g => zNm g (r * 1000 - ((bk b.toNat) 0 ^ (pu + 1)) * l)) hgc
    have hgo := ih (j + 1) _ (N * 1000 + l) (r * 1000 - ((bk b.toNat) 0 ^ (pu + 1)) * l) (some (.int (zI l))) (some (.int (zI h))) o72 (by omega) (by omega) (by omega) (by rw [Int.pow_succ 1000 j, ← Int.mul_assoc, ← heq]; grind) hS5
    refine z_iinc (i := 4) (lv' := [_, _, _, _, _, _, _, _]) (pc := 516) C rfl (by decide) rfl rfl dX7_ever_516 ?_
    refine z_goto (tgt := 349) (pc := 519) C dX7_ever_519 (by decide) ?_
    exact hgo
