set_option maxRecDepth 100000 in
set_option maxHeartbeats 4000000 in
theorem lp_everP {Γ : zG} {l0 : Launch} {X : zX} {m rt pu : Nat} {b M : Int} {bk : Nat → Int → Int} {ω0 : zWd} {N : Int} {o5 o6 o7 : Option Value} (C : Zc Γ l0 X rmX7_ever 8 cX7_ever RX7) (hPt0 : zMx X ω0 (m + 1) 8 21 bk) (hy : zRt bk b) (hf : zBk (bk b.toNat)) (hMM : zst (bk b.toNat) 0 < 1000) (hpu : pu ≤ 60) (K : ∀ ω : zWd, zEv X ω0 ω m rt N 0 (fun j => zD (bk b.toNat) j) (pu + 2) (fun j => (bk b.toNat) 0 ^ j) (fun _ => True) → Zw Γ ω 0 0 137 [some (.ref m), some (.int (zI (pu : Int))), some (.int (zI b)), some (.int (zI M)), some (.int (zI ((pu + 2 : Nat) : Int))), o5, o6, o7] []) : ∀ (j i : Nat) (ω : zWd), i + j = pu + 1 → zEv X ω0 ω m rt N 0 (fun j => zD (bk b.toNat) j) (i + 1) (fun j => (bk b.toNat) 0 ^ j) (fun _ => True) → Zw Γ ω 0 0 84 [some (.ref m), some (.int (zI (pu : Int))), some (.int (zI b)), some (.int (zI M)), some (.int (zI ((i + 1 : Nat) : Int))), o5, o6, o7] [] := by
  obtain ⟨b0, b1, bs⟩ := id hy
  intro j
  induction j with
  | zero =>
    intro i ω hj hS
    have e1 : i = pu + 1 := by omega
    subst e1
    have hK := K ω hS
    refine z_iload (i := 4) (pc := 84) C rfl dX7_ever_84 ?_
    refine z_iload_n (i := 1) (pc := 86) C rfl rfl dX7_ever_86 ?_
    refine z_iconst (pc := 87) C dX7_ever_87 ?_
    refine z_iadd (pc := 88) C dX7_ever_88 ?_
    refine z_icmp_gt (tgt := 137) (pc := 89) C dX7_ever_89 (by decide) (fun h89 => ?_) (fun h89 => absurd h89 (by omega))
    exact hK
  | succ j ih =>
    intro i ω hj hS
    obtain ⟨gN, gs_, g4, g5, kF, kM, ⟨kN, kNv⟩, kD, kP, kR, ⟨kE, kEv⟩, kS⟩ := id hS
    have hPt := hPt0.kp (ω2 := ω) (fun b h1 h2 => kF.1 b (by omega))
    obtain ⟨fP, hP1, hP2⟩ := kP
    have hq := hf 0 (by omega) (by omega)
    have hpl : (bk b.toNat) 0 ^ (i + 1) ≤ 10 ^ 183 := zpow_le hq (by omega)
    have h72 : (10 : Int) ^ 183 < 1000 ^ 72 := by decide
    have es : (bk b.toNat) 0 ^ (i + 1) = 0 + (bk b.toNat) 0 * (bk b.toNat) 0 ^ i * 1000 ^ 0 := by rw [Int.pow_succ, Int.pow_zero]; grind
    refine z_iload (i := 4) (pc := 84) C rfl dX7_ever_84 ?_
    refine z_iload_n (i := 1) (pc := 86) C rfl rfl dX7_ever_86 ?_
    refine z_iconst (pc := 87) C dX7_ever_87 ?_
    refine z_iadd (pc := 88) C dX7_ever_88 ?_
    refine z_icmp_gt (tgt := 137) (pc := 89) C dX7_ever_89 (by decide) (fun h89 => absurd h89 (by omega)) (fun h89 => ?_)
    refine z_aload_n (i := 0) (pc := 92) C rfl rfl dX7_ever_92 ?_
    refine g_X7_55 (pc := 93) C kM rfl dX7_ever_93 ?_
    refine z_iload (i := 4) (pc := 96) C rfl dX7_ever_96 ?_
    refine z_aaload (pc := 98) C hP1.1 rfl dX7_ever_98 ?_
    refine z_callSv (pc := 99) C (c_X7_zero (hP1.2 (i + 1) (by omega))) k_X7_112 zy_X7_zero.2 rfl rfl ⟨(Nat.le_of_ble_eq_true rfl), (Nat.le_of_ble_eq_true rfl)⟩ (Nat.le_of_ble_eq_true rfl) dX7_ever_99 ⟨rfl, rfl⟩ ⟨(Nat.le_of_ble_eq_true rfl), (Nat.le_of_ble_eq_true rfl)⟩ (fun ω' hp => ?_)
    obtain ⟨g0, rfl, hg0⟩ := hp
    refine z_aload_n (i := 0) (pc := 102) C rfl rfl dX7_ever_102 ?_
    refine z_aload_n (i := 0) (pc := 103) C rfl rfl dX7_ever_103 ?_
    refine g_X7_55 (pc := 104) C (zU_n' (by omega) kM) rfl dX7_ever_104 ?_
    refine z_iload (i := 4) (pc := 107) C rfl dX7_ever_107 ?_
    refine z_aaload (pc := 109) C (zU_n' (by omega) hP1.1) rfl dX7_ever_109 ?_
    refine z_aload_n (i := 0) (pc := 110) C rfl rfl dX7_ever_110 ?_
    refine g_X7_55 (pc := 111) C (zU_n' (by omega) kM) rfl dX7_ever_111 ?_
    refine z_iload (i := 4) (pc := 114) C rfl dX7_ever_114 ?_
    refine z_iconst (pc := 116) C dX7_ever_116 ?_
    refine z_isub (pc := 117) C dX7_ever_117 ?_
    rw [show ((i + 1 : Nat) : Int) - 1 = (i : Int) by omega]
    refine z_aaload (pc := 118) C (zU_n' (by omega) hP1.1) rfl dX7_ever_118 ?_
    refine z_aload_n (i := 0) (pc := 119) C rfl rfl dX7_ever_119 ?_
    refine g_X7_11 (pc := 120) C (zU_n' (by omega) kM) rfl dX7_ever_120 ?_
    refine z_iload_n (i := 2) (pc := 123) C rfl rfl dX7_ever_123 ?_
    refine z_aaload (pc := 124) C (zU_n' (by omega) hPt.1) rfl dX7_ever_124 ?_
    refine z_iconst (pc := 125) C dX7_ever_125 ?_
    refine z_iaload (pc := 126) C (zU_n' (by omega) (hPt.2 b.toNat (by omega))) dX7_ever_126 ?_
    refine z_iconst (pc := 127) C dX7_ever_127 ?_
    refine z_callVv (pc := 128) C (c_X7_add (up := 0) (sp := 72) (zU_n' (by omega) kM) rfl (zU_s _ _ _) hg0 (zU_n' (by omega) (hP1.2 i (by omega))) (hP2 i (by omega)) (by omega) (by omega) (by omega) (by rw [← es]; omega)) k_X7_120 zy_X7_add rfl rfl (zU_n' (by omega) kM) rfl rfl ⟨(Nat.le_of_ble_eq_true rfl), (Nat.le_of_ble_eq_true rfl)⟩ (Nat.le_of_ble_eq_true rfl) dX7_ever_128 ⟨rfl, rfl⟩ ⟨(Nat.le_of_ble_eq_true rfl), (Nat.le_of_ble_eq_true rfl)⟩ (fun ω' hp => ?_)
    obtain ⟨g1, rfl, hg1⟩ := hp
    rw [zU_u]
    have hg2 := hg1.e es.symm
    refine z_iinc (i := 4) (lv' := [_, _, _, _, _, _, _, _]) (pc := 131) C rfl (by decide) rfl rfl dX7_ever_131 ?_
    refine z_goto (tgt := 84) (pc := 134) C dX7_ever_134 (by decide) ?_
    exact ih (i + 1) _ (by omega) (hS.px (by omega) hg2)
set_option maxRecDepth 100000 in
set_option maxHeartbeats 4000000 in
theorem lp_everI {Γ : zG} {l0 : Launch} {X : zX} {m rt pu : Nat} {b M : Int} {bk : Nat → Int → Int} {ω0 : zWd} {N : Int} {u : Nat} {o6 o7 : Option Value} (C : Zc Γ l0 X rmX7_ever 8 cX7_ever RX7) (hPt0 : zMx X ω0 (m + 1) 8 21 bk) (hy : zRt bk b) (hf : zBk (bk b.toNat)) (hMM : zst (bk b.toNat) 0 < 1000) (hpu : pu ≤ 60) (hu : u < pu) (K : ∀ (ω : zWd) (gA : Int → Int) (o5 : Option Value), zEv X ω0 ω m rt N (u + 1) (fun j => zD (bk b.toNat) j) (pu + 2) (fun j => (bk b.toNat) 0 ^ j) (fun _ => True) → ω.1 (m + 1947 + 1 + (u + 1)) = some (zAI X 72 gA) → zNm gA (zD (bk b.toNat) ((u + 1 : Nat) : Int)) → Zw Γ ω 0 0 311 [some (.ref m), some (.int (zI (pu : Int))), some (.int (zI b)), some (.int (zI M)), some (.int (zI (u : Int))), o5, o6, o7] []) : ∀ (j i : Nat) (ω : zWd) (gA : Int → Int), i + j = min (u + 1) 20 → zEv X ω0 ω m rt N (u + 1) (fun j => zD (bk b.toNat) j) (pu + 2) (fun j => (bk b.toNat) 0 ^ j) (fun _ => True) → ω.1 (m + 1947 + 1 + (u + 1)) = some (zAI X 72 gA) → zNm gA (zD (bk b.toNat) u * 1000 - zs (fun j => zD (bk b.toNat) ((u : Int) - j) * (bk b.toNat) (j + 1) * (bk b.toNat) 0 ^ j.toNat) i) → Zw Γ ω 0 0 200 [some (.ref m), some (.int (zI (pu : Int))), some (.int (zI b)), some (.int (zI M)), some (.int (zI (u : Int))), some (.int (zI ((i + 1 : Nat) : Int))), o6, o7] [] := by
  obtain ⟨b0, b1, bs⟩ := id hy
  have hDb := zD_b hf bs hMM
  have h01 := zF0_1 hf bs hMM
  have hds := zD_s (bk b.toNat) (u + 1) (by omega)
  rw [show ((u + 1 : Nat) : Int) - 1 = u by omega] at hds
  have hes : zEs (bk b.toNat) (zD (bk b.toNat)) (u + 1) = zs (fun j => zD (bk b.toNat) ((u : Int) - j) * (bk b.toNat) (j + 1) * (bk b.toNat) 0 ^ j.toNat) (min (u + 1) 20) := zs_c (fun j a b => by (try dsimp only); rw [show ((u + 1 : Nat) : Int) - 1 - j = (u : Int) - j by omega])
  have hterm : ∀ j : Int, 0 ≤ j → j < ((min (u + 1) 20 : Nat) : Int) → 0 ≤ zD (bk b.toNat) ((u : Int) - j) * (bk b.toNat) (j + 1) * (bk b.toNat) 0 ^ j.toNat := fun j a b => by
    have d := (hDb ((u : Int) - j).toNat).1
    rw [show ((((u : Int) - j).toNat : Nat) : Int) = (u : Int) - j by omega] at d
    exact Int.mul_nonneg (Int.mul_nonneg (by omega) (hf _ (by omega) (by omega)).1) (Int.le_of_lt (zpw h01 _))
  intro j
  induction j with
  | zero =>
    intro i ω gA hj hS hA hAv
    have e1 : i = min (u + 1) 20 := by omega
    have hK := K ω gA (some (.int (zI ((i + 1 : Nat) : Int)))) hS hA (hAv.e (by rw [hds, hes, e1]))
    refine z_iload (i := 5) (pc := 200) C rfl dX7_ever_200 ?_
    refine z_iload (i := 4) (pc := 202) C rfl dX7_ever_202 ?_
    refine z_iconst (pc := 204) C dX7_ever_204 ?_
    refine z_iadd (pc := 205) C dX7_ever_205 ?_
    refine z_icmp_gt (tgt := 311) (pc := 206) C dX7_ever_206 (by decide) (fun h206 => ?_) (fun h206 => ?_)
    · exact hK
    · refine z_iload (i := 5) (pc := 209) C rfl dX7_ever_209 ?_
      refine z_bipush (pc := 211) C (by decide +kernel) dX7_ever_211 ?_
      refine z_icmp_ge (tgt := 311) (pc := 213) C dX7_ever_213 (by decide) (fun h213 => ?_) (fun h213 => absurd h213 (by omega))
      exact hK
  | succ j ih =>
    intro i ω gA hj hS hA hAv
    obtain ⟨gN, gs_, g4, g5, kF, kM, ⟨kN, kNv⟩, kD, kP, kR, ⟨kE, kEv⟩, kS⟩ := id hS
    have hPt := hPt0.kp (ω2 := ω) (fun b h1 h2 => kF.1 b (by omega))
    obtain ⟨fP, hP1, hP2⟩ := kP
    obtain ⟨fD, hD1, hD2⟩ := kD
    have hfi := hf ((i : Int) + 1) (by omega) (by omega)
    have eF : (bk b.toNat) ((i + 1 : Nat) : Int) = (bk b.toNat) ((i : Int) + 1) := rfl
    have es : zs (fun j => zD (bk b.toNat) ((u : Int) - j) * (bk b.toNat) (j + 1) * (bk b.toNat) 0 ^ j.toNat) (i + 1) = zs (fun j => zD (bk b.toNat) ((u : Int) - j) * (bk b.toNat) (j + 1) * (bk b.toNat) 0 ^ j.toNat) i + zD (bk b.toNat) ((u : Int) - i) * (bk b.toNat) ((i : Int) + 1) * (bk b.toNat) 0 ^ ((i : Int)).toNat := rfl
    rw [show ((i : Int)).toNat = i by omega] at es
    have hml : zs (fun j => zD (bk b.toNat) ((u : Int) - j) * (bk b.toNat) (j + 1) * (bk b.toNat) 0 ^ j.toNat) (i + 1) ≤ zs (fun j => zD (bk b.toNat) ((u : Int) - j) * (bk b.toNat) (j + 1) * (bk b.toNat) 0 ^ j.toNat) (min (u + 1) 20) := zs_mono (by omega) (fun k a b => hterm k (by omega) b)
    have hfin := hDb (u + 1)
    rw [hds, hes] at hfin
    have eDi : (((u - i : Nat)) : Int) = (u : Int) - i := by omega
    have hdi := hDb (u - i)
    rw [eDi] at hdi
    have hpi : (0 : Int) < (bk b.toNat) 0 ^ i := zpw h01 _
    have hprod : zD (bk b.toNat) ((u : Int) - i) * (bk b.toNat) 0 ^ i ≤ (bk b.toNat) 0 ^ (u + 1) := by
      have e : (bk b.toNat) 0 ^ (u + 1) = (bk b.toNat) 0 ^ (u - i + 1) * (bk b.toNat) 0 ^ i := by rw [← Int.pow_add]; congr 1; omega
      rw [e]
      exact Int.mul_le_mul_of_nonneg_right hdi.2 (by omega)
    have hprod0 : 0 ≤ zD (bk b.toNat) ((u : Int) - i) * (bk b.toNat) 0 ^ i := Int.mul_nonneg (by omega) (by omega)
    have hpl : (bk b.toNat) 0 ^ (u + 1) ≤ 10 ^ 183 := zpow_le ⟨by omega, (hf 0 (by omega) (by omega)).2⟩ (by omega)
    have h72 : (10 : Int) ^ 183 * 1000 < 1000 ^ 72 := by decide
    have et : (bk b.toNat) ((i : Int) + 1) * (zD (bk b.toNat) ((u : Int) - i) * (bk b.toNat) 0 ^ i) = zD (bk b.toNat) ((u : Int) - i) * (bk b.toNat) ((i : Int) + 1) * (bk b.toNat) 0 ^ i := by grind
    have htm : (bk b.toNat) ((i : Int) + 1) * (zD (bk b.toNat) ((u : Int) - i) * (bk b.toNat) 0 ^ i) ≤ 1000 * 10 ^ 183 := Int.mul_le_mul hfi.2 (by omega) hprod0 (by omega)
    have e00 : (1000 : Int) ^ 0 = 1 := rfl
    refine z_iload (i := 5) (pc := 200) C rfl dX7_ever_200 ?_
    refine z_iload (i := 4) (pc := 202) C rfl dX7_ever_202 ?_
    refine z_iconst (pc := 204) C dX7_ever_204 ?_
    refine z_iadd (pc := 205) C dX7_ever_205 ?_
    refine z_icmp_gt (tgt := 311) (pc := 206) C dX7_ever_206 (by decide) (fun h206 => absurd h206 (by omega)) (fun h206 => ?_)
    refine z_iload (i := 5) (pc := 209) C rfl dX7_ever_209 ?_
    refine z_bipush (pc := 211) C (by decide +kernel) dX7_ever_211 ?_
    refine z_icmp_ge (tgt := 311) (pc := 213) C dX7_ever_213 (by decide) (fun h213 => absurd h213 (by omega)) (fun h213 => ?_)
    refine z_aload_n (i := 0) (pc := 216) C rfl rfl dX7_ever_216 ?_
    refine g_X7_11 (pc := 217) C kM rfl dX7_ever_217 ?_
    refine z_iload_n (i := 2) (pc := 220) C rfl rfl dX7_ever_220 ?_
    refine z_aaload (pc := 221) C hPt.1 rfl dX7_ever_221 ?_
    refine z_iload (i := 5) (pc := 222) C rfl dX7_ever_222 ?_
    refine z_iaload (pc := 224) C (hPt.2 b.toNat (by omega)) dX7_ever_224 ?_
    refine z_if_ne (tgt := 231) (pc := 225) C dX7_ever_225 (by decide) (fun h225 => ?_) (fun h225 => ?_)
    · refine z_aload_n (i := 0) (pc := 231) C rfl rfl dX7_ever_231 ?_
      refine z_aload_n (i := 0) (pc := 232) C rfl rfl dX7_ever_232 ?_
      refine g_X7_52 (pc := 233) C kM rfl dX7_ever_233 ?_
      refine z_iload (i := 4) (pc := 236) C rfl dX7_ever_236 ?_
      refine z_iconst (pc := 238) C dX7_ever_238 ?_
      refine z_iadd (pc := 239) C dX7_ever_239 ?_
      refine z_iload (i := 5) (pc := 240) C rfl dX7_ever_240 ?_
      refine z_isub (pc := 242) C dX7_ever_242 ?_
      rw [show (u : Int) + 1 - ((i + 1 : Nat) : Int) = ((u - i : Nat) : Int) by omega]
      refine z_aaload (pc := 243) C hD1.1 rfl dX7_ever_243 ?_
      refine z_aload_n (i := 0) (pc := 244) C rfl rfl dX7_ever_244 ?_
      refine g_X7_55 (pc := 245) C kM rfl dX7_ever_245 ?_
      refine z_iload (i := 5) (pc := 248) C rfl dX7_ever_248 ?_
      refine z_iconst (pc := 250) C dX7_ever_250 ?_
      refine z_isub (pc := 251) C dX7_ever_251 ?_
      rw [show ((i + 1 : Nat) : Int) - 1 = (i : Int) by omega]
      refine z_aaload (pc := 252) C hP1.1 rfl dX7_ever_252 ?_
      refine z_aload_n (i := 0) (pc := 253) C rfl rfl dX7_ever_253 ?_
      refine g_X7_58 (pc := 254) C kM rfl dX7_ever_254 ?_
      refine z_callVv (pc := 257) C (c_X7_multiply kM (hD1.2 (u - i) (by omega)) (hD2 (u - i) (by omega)) (hP1.2 i (by omega)) (hP2 i (by omega)) (by omega) (by omega) (by (try dsimp only); rw [eDi]; omega) kR) k_X7_159 zy_X7_multiply rfl rfl kM rfl rfl ⟨(Nat.le_of_ble_eq_true rfl), (Nat.le_of_ble_eq_true rfl)⟩ (Nat.le_of_ble_eq_true rfl) dX7_ever_257 ⟨rfl, rfl⟩ ⟨(Nat.le_of_ble_eq_true rfl), (Nat.le_of_ble_eq_true rfl)⟩ (fun ω' hp => ?_)
      obtain ⟨gp, rfl, hgp⟩ := hp
      have hS1 := hS.pr (g := gp)
      (try dsimp only at hgp)
      rw [eDi] at hgp
      refine z_aload_n (i := 0) (pc := 260) C rfl rfl dX7_ever_260 ?_
      refine g_X7_61 (pc := 261) C (zU_n' (by omega) kM) rfl dX7_ever_261 ?_
      refine z_callSv (pc := 264) C (c_X7_zero (zU_n' (by omega) kE)) k_X7_112 zy_X7_zero.2 rfl rfl ⟨(Nat.le_of_ble_eq_true rfl), (Nat.le_of_ble_eq_true rfl)⟩ (Nat.le_of_ble_eq_true rfl) dX7_ever_264 ⟨rfl, rfl⟩ ⟨(Nat.le_of_ble_eq_true rfl), (Nat.le_of_ble_eq_true rfl)⟩ (fun ω' hp => ?_)
      obtain ⟨gr, rfl, hgr⟩ := hp
      refine z_aload_n (i := 0) (pc := 267) C rfl rfl dX7_ever_267 ?_
      refine z_aload_n (i := 0) (pc := 268) C rfl rfl dX7_ever_268 ?_
      refine g_X7_61 (pc := 269) C (zU_n' (by omega) (zU_n' (by omega) kM)) rfl dX7_ever_269 ?_
      refine z_aload_n (i := 0) (pc := 272) C rfl rfl dX7_ever_272 ?_
      refine g_X7_58 (pc := 273) C (zU_n' (by omega) (zU_n' (by omega) kM)) rfl dX7_ever_273 ?_
      refine z_aload_n (i := 0) (pc := 276) C rfl rfl dX7_ever_276 ?_
      refine g_X7_11 (pc := 277) C (zU_n' (by omega) (zU_n' (by omega) kM)) rfl dX7_ever_277 ?_
      refine z_iload_n (i := 2) (pc := 280) C rfl rfl dX7_ever_280 ?_
      refine z_aaload (pc := 281) C (zU_n' (by omega) (zU_n' (by omega) hPt.1)) rfl dX7_ever_281 ?_
      refine z_iload (i := 5) (pc := 282) C rfl dX7_ever_282 ?_
      refine z_iaload (pc := 284) C (zU_n' (by omega) (zU_n' (by omega) (hPt.2 b.toNat (by omega)))) dX7_ever_284 ?_
      refine z_iconst (pc := 285) C dX7_ever_285 ?_
      refine z_callVv (pc := 286) C (c_X7_add (up := 0) (sp := 72) (zU_n' (by omega) (zU_n' (by omega) kM)) rfl (zU_s _ _ _) hgr (zU_n' (by omega) (zU_s _ _ _)) hgp (by omega) (by omega) (by omega) (by rw [eF, e00, Int.mul_one]; omega)) k_X7_120 zy_X7_add rfl rfl (zU_n' (by omega) (zU_n' (by omega) kM)) rfl rfl ⟨(Nat.le_of_ble_eq_true rfl), (Nat.le_of_ble_eq_true rfl)⟩ (Nat.le_of_ble_eq_true rfl) dX7_ever_286 ⟨rfl, rfl⟩ ⟨(Nat.le_of_ble_eq_true rfl), (Nat.le_of_ble_eq_true rfl)⟩ (fun ω' hp => ?_)
      obtain ⟨gq, rfl, hgq⟩ := hp
      rw [zU_u]
      have hS2 := hS1.re (g := gq) (Rp2 := fun _ => True) trivial
      have hgq2 := hgq.e (V2 := zD (bk b.toNat) ((u : Int) - i) * (bk b.toNat) ((i : Int) + 1) * (bk b.toNat) 0 ^ i) (by rw [eF, e00, Int.mul_one, Int.zero_add, et])
      refine z_aload_n (i := 0) (pc := 289) C rfl rfl dX7_ever_289 ?_
      refine g_X7_52 (pc := 290) C (zU_n' (by omega) (zU_n' (by omega) kM)) rfl dX7_ever_290 ?_
      refine z_iload (i := 4) (pc := 293) C rfl dX7_ever_293 ?_
      refine z_iconst (pc := 295) C dX7_ever_295 ?_
      refine z_iadd (pc := 296) C dX7_ever_296 ?_
      refine z_aaload (pc := 297) C (zU_n' (by omega) (zU_n' (by omega) hD1.1)) rfl dX7_ever_297 ?_
      refine z_aload_n (i := 0) (pc := 298) C rfl rfl dX7_ever_298 ?_
      refine g_X7_61 (pc := 299) C (zU_n' (by omega) (zU_n' (by omega) kM)) rfl dX7_ever_299 ?_
      refine z_callSv (pc := 302) C (c_X7_take (zU_n' (by omega) (zU_n' (by omega) hA)) hAv (zU_s _ _ _) hgq2 (by omega) (by omega)) k_X7_163 zy_X7_take.2 rfl rfl ⟨(Nat.le_of_ble_eq_true rfl), (Nat.le_of_ble_eq_true rfl)⟩ (Nat.le_of_ble_eq_true rfl) dX7_ever_302 ⟨rfl, rfl⟩ ⟨(Nat.le_of_ble_eq_true rfl), (Nat.le_of_ble_eq_true rfl)⟩ (fun ω' hp => ?_)
      obtain ⟨gt, rfl, hgt⟩ := hp
      have hgo := ih (i + 1) _ gt (by omega) (hS2.du (j := u + 1) (g := gt) (by omega) (by omega)) (zU_s _ _ _) (hgt.e (by rw [es]; omega))
      refine z_iinc (i := 5) (lv' := [_, _, _, _, _, _, _, _]) (pc := 305) C rfl (by decide) rfl rfl dX7_ever_305 ?_
      refine z_goto (tgt := 200) (pc := 308) C dX7_ever_308 (by decide) ?_
      exact hgo
    · have hz0 : zs (fun j => zD (bk b.toNat) ((u : Int) - j) * (bk b.toNat) (j + 1) * (bk b.toNat) 0 ^ j.toNat) (i + 1) = zs (fun j => zD (bk b.toNat) ((u : Int) - j) * (bk b.toNat) (j + 1) * (bk b.toNat) 0 ^ j.toNat) i := by rw [es, ← eF, h225, Int.mul_zero, Int.zero_mul, Int.add_zero]
      have hgo := ih (i + 1) ω gA (by omega) hS hA (hAv.e (by rw [hz0]))
      refine z_goto (tgt := 305) (pc := 228) C dX7_ever_228 (by decide) ?_
      refine z_iinc (i := 5) (lv' := [_, _, _, _, _, _, _, _]) (pc := 305) C rfl (by decide) rfl rfl dX7_ever_305 ?_
      refine z_goto (tgt := 200) (pc := 308) C dX7_ever_308 (by decide) ?_
      exact hgo
