theorem zRH.b {X : zX} {ω : zWd} {x : Nat} {bk : Nat → Int → Int} {nv : Int} {np : Nat} {tv dv : Int → Int} {rt : Nat} (hR : zRH X ω x bk nv np tv dv rt) : ∀ k : Nat, k < 8 → zBk (bk k) := by
  obtain ⟨gm, gN, gB, gT, gD, hX, hBs, hMv, hWk, hPk, hFv, hNu, hNc, hBo, hBc, hTk, hTc, hDp, hDc, hBk, hbk, hVN, hVT, hVD⟩ := hR
  exact hbk
set_option maxRecDepth 100000 in
set_option maxHeartbeats 4000000 in
theorem law_4 {Γ : zG} {l0 : Launch} {X : zX} {b L : Nat} {xs : Nat → Int32} {x c i : Nat} {ω : zWd} (C : Zc Γ l0 X room_1 4 cL_law RL) (S : zSc Γ b L xs) (hi : i + 6 ≤ L) (hJ : zJn X ω x c) (K : ∀ (ω : zWd) (c : Nat), zJn X ω x c → Zw Γ ω (2504 + c) (190089 + 72 * c) 818 [some (.ref b), some (.ref x), some (.ref (x + 58)), some (.int (zI (i : Int)))] []) : Zw Γ ω (2504 + c) (190089 + 72 * c) 254 [some (.ref b), some (.ref x), some (.ref (x + 58)), some (.int (zI (i : Int)))] [] := by
  have hL := S.l
  obtain ⟨bk, nv, bh, rt, tc, dc, tm, dm, hR, hD, hc, hbh, hrt, hnv, hT, hE⟩ := id hJ
  have hc3 : c ≤ 3698 := by omega
  obtain ⟨fx, hX0⟩ := hR.x
  obtain ⟨fm, hM0⟩ := hD.x
  obtain ⟨y1, e1, r1⟩ : ∃ y : Int, xs (i + 1) = zI y ∧ (-2147483648 ≤ y ∧ y < 2147483648) := ⟨_, (zI_of _).symm, zI_r _⟩
  obtain ⟨y2, e2, r2⟩ : ∃ y : Int, xs (i + 2) = zI y ∧ (-2147483648 ≤ y ∧ y < 2147483648) := ⟨_, (zI_of _).symm, zI_r _⟩
  obtain ⟨y3, e3, r3⟩ : ∃ y : Int, xs (i + 3) = zI y ∧ (-2147483648 ≤ y ∧ y < 2147483648) := ⟨_, (zI_of _).symm, zI_r _⟩
  obtain ⟨y4, e4, r4⟩ : ∃ y : Int, xs (i + 4) = zI y ∧ (-2147483648 ≤ y ∧ y < 2147483648) := ⟨_, (zI_of _).symm, zI_r _⟩
  obtain ⟨y5, e5, r5⟩ : ∃ y : Int, xs (i + 5) = zI y ∧ (-2147483648 ≤ y ∧ y < 2147483648) := ⟨_, (zI_of _).symm, zI_r _⟩
  by_cases hg : y4 = 0
  · refine z_aload_n (i := 1) (pc := 254) C rfl rfl dL_law_254 ?_
    refine z_aload_n (i := 0) (pc := 255) C rfl rfl dL_law_255 ?_
    refine z_iload_n (i := 3) (pc := 256) C rfl rfl dL_law_256 ?_
    refine z_iconst (pc := 257) C dL_law_257 ?_
    refine z_iadd (pc := 258) C dL_law_258 ?_
    refine z_sld (pc := 259) C S (i + 1) (by omega) (by omega) e1 dL_law_259 ?_
    refine z_aload_n (i := 0) (pc := 260) C rfl rfl dL_law_260 ?_
    refine z_iload_n (i := 3) (pc := 261) C rfl rfl dL_law_261 ?_
    refine z_iconst (pc := 262) C dL_law_262 ?_
    refine z_iadd (pc := 263) C dL_law_263 ?_
    refine z_sld (pc := 264) C S (i + 2) (by omega) (by omega) e2 dL_law_264 ?_
    refine z_aload_n (i := 0) (pc := 265) C rfl rfl dL_law_265 ?_
    refine z_iload_n (i := 3) (pc := 266) C rfl rfl dL_law_266 ?_
    refine z_iconst (pc := 267) C dL_law_267 ?_
    refine z_iadd (pc := 268) C dL_law_268 ?_
    refine z_sld (pc := 269) C S (i + 3) (by omega) (by omega) e3 dL_law_269 ?_
    refine z_aload_n (i := 0) (pc := 270) C rfl rfl dL_law_270 ?_
    refine z_iload_n (i := 3) (pc := 271) C rfl rfl dL_law_271 ?_
    refine z_iconst (pc := 272) C dL_law_272 ?_
    refine z_iadd (pc := 273) C dL_law_273 ?_
    refine z_sld (pc := 274) C S (i + 4) (by omega) (by omega) e4 dL_law_274 ?_
    refine z_if_eq (tgt := 282) (pc := 275) C dL_law_275 (by decide) (fun h275 => ?_) (fun h275 => absurd h275 (by omega))
    refine z_iconst (pc := 282) C dL_law_282 ?_
    refine z_aload_n (i := 0) (pc := 283) C rfl rfl dL_law_283 ?_
    refine z_iload_n (i := 3) (pc := 284) C rfl rfl dL_law_284 ?_
    refine z_iconst (pc := 285) C dL_law_285 ?_
    refine z_iadd (pc := 286) C dL_law_286 ?_
    refine z_sld (pc := 287) C S (i + 5) (by omega) (by omega) e5 dL_law_287 ?_
    refine z_callVi (pc := 288) C (c_X6_layer hR r1 r2 r3 r5 (Or.inl rfl)) k_L_33 zy_X6_layer rfl rfl hX0 rfl rfl ⟨(Nat.le_of_ble_eq_true rfl), (Nat.le_of_ble_eq_true rfl)⟩ (Nat.le_of_ble_eq_true rfl) dL_law_288 ⟨rfl, rfl⟩ ⟨by show _ ≤ 600000; omega, by show _ ≤ 7302250; omega⟩ (fun ra ω1 hp => ?_)
    obtain ⟨ho, h1⟩ := hp
    have hM1 := (ho.1 (x + 58) (by omega)).trans hM0
    have hD1 := hD.fr (ω2 := ω1) (fun b q1 q2 => ho.1 b (by omega)) ho.2
    refine z_aload_n (i := 2) (pc := 291) C rfl rfl dL_law_291 ?_
    refine z_aload_n (i := 0) (pc := 292) C rfl rfl dL_law_292 ?_
    refine z_iload_n (i := 3) (pc := 293) C rfl rfl dL_law_293 ?_
    refine z_iconst (pc := 294) C dL_law_294 ?_
    refine z_iadd (pc := 295) C dL_law_295 ?_
    refine z_sld (pc := 296) C S (i + 1) (by omega) (by omega) e1 dL_law_296 ?_
    refine z_aload_n (i := 0) (pc := 297) C rfl rfl dL_law_297 ?_
    refine z_iload_n (i := 3) (pc := 298) C rfl rfl dL_law_298 ?_
    refine z_iconst (pc := 299) C dL_law_299 ?_
    refine z_iadd (pc := 300) C dL_law_300 ?_
    refine z_sld (pc := 301) C S (i + 2) (by omega) (by omega) e2 dL_law_301 ?_
    refine z_aload_n (i := 0) (pc := 302) C rfl rfl dL_law_302 ?_
    refine z_iload_n (i := 3) (pc := 303) C rfl rfl dL_law_303 ?_
    refine z_iconst (pc := 304) C dL_law_304 ?_
    refine z_iadd (pc := 305) C dL_law_305 ?_
    refine z_sld (pc := 306) C S (i + 3) (by omega) (by omega) e3 dL_law_306 ?_
    refine z_aload_n (i := 0) (pc := 307) C rfl rfl dL_law_307 ?_
    refine z_iload_n (i := 3) (pc := 308) C rfl rfl dL_law_308 ?_
    refine z_iconst (pc := 309) C dL_law_309 ?_
    refine z_iadd (pc := 310) C dL_law_310 ?_
    refine z_sld (pc := 311) C S (i + 4) (by omega) (by omega) e4 dL_law_311 ?_
    refine z_if_eq (tgt := 319) (pc := 312) C dL_law_312 (by decide) (fun h312 => ?_) (fun h312 => absurd h312 (by omega))
    refine z_iconst (pc := 319) C dL_law_319 ?_
    refine z_aload_n (i := 0) (pc := 320) C rfl rfl dL_law_320 ?_
    refine z_iload_n (i := 3) (pc := 321) C rfl rfl dL_law_321 ?_
    refine z_iconst (pc := 322) C dL_law_322 ?_
    refine z_iadd (pc := 323) C dL_law_323 ?_
    refine z_sld (pc := 324) C S (i + 5) (by omega) (by omega) e5 dL_law_324 ?_
    refine z_callVi (pc := 325) C (c_X7_layer hD1 r1 r2 r3 r5 (Or.inl rfl)) k_L_37 zy_X7_layer rfl rfl hM1 rfl rfl ⟨(Nat.le_of_ble_eq_true rfl), (Nat.le_of_ble_eq_true rfl)⟩ (Nat.le_of_ble_eq_true rfl) dL_law_325 ⟨rfl, rfl⟩ ⟨by show _ ≤ 600000; omega, by show _ ≤ 7302250; omega⟩ (fun rb ω2 hp => ?_)
    obtain ⟨hk, h2⟩ := hp
    rcases h1 with ⟨a1, rfl, f1, hf1, hR1⟩ | ⟨n1, rfl, hR1⟩ <;> rcases h2 with ⟨b1, rfl, f2, hf2, hD2⟩ | ⟨n2, rfl, hD2⟩
    · have hto := a1.2.1
      have hR2 := hR1.fr (ω2 := ω2) (fun b q1 q2 => hk.1 b (by omega))
      have hz1 := hR2.b y5.toNat (by omega)
      rw [va_up_self] at hz1
      have hrow := hD2.pt.1.2 y5.toNat (by omega)
      rw [va_up_self] at hrow
      refine z_congI C hrow (g := f1) (fun k k0 k1 => by rw [hf2 k k0 (by omega), hf1 k k0 (by omega)]) ?_
      have hJ2 : zJn X (zU ω2 (x + 58 + 1 + 1 + y5.toNat) (zAI X 21 f1)) x c := ⟨va_up bk y5.toNat f1, nv, bh, rt, tc, dc, tm, dm, (hR2.fr (fun b q1 q2 => zU_n (by omega))), (hD2.bk2 (by omega) hz1), hc, hbh, hrt, hnv, hT, hE⟩
      exact z_icmp_same (tgt := 818) (pc := 328) C dL_law_328 (by decide) (K _ c hJ2)
    · exact absurd a1 n2
    · exact absurd b1 n1
    · have hJ2 : zJn X ω2 x c := ⟨_, nv, bh, rt, tc, dc, tm, dm, (hR1.fr (fun b q1 q2 => hk.1 b (by omega))), hD2, hc, hbh, hrt, hnv, hT, hE⟩
      exact z_icmp_same (tgt := 818) (pc := 328) C dL_law_328 (by decide) (K ω2 c hJ2)
  · refine z_aload_n (i := 1) (pc := 254) C rfl rfl dL_law_254 ?_
    refine z_aload_n (i := 0) (pc := 255) C rfl rfl dL_law_255 ?_
    refine z_iload_n (i := 3) (pc := 256) C rfl rfl dL_law_256 ?_
    refine z_iconst (pc := 257) C dL_law_257 ?_
    refine z_iadd (pc := 258) C dL_law_258 ?_
    refine z_sld (pc := 259) C S (i + 1) (by omega) (by omega) e1 dL_law_259 ?_
    refine z_aload_n (i := 0) (pc := 260) C rfl rfl dL_law_260 ?_
    refine z_iload_n (i := 3) (pc := 261) C rfl rfl dL_law_261 ?_
    refine z_iconst (pc := 262) C dL_law_262 ?_
    refine z_iadd (pc := 263) C dL_law_263 ?_
    refine z_sld (pc := 264) C S (i + 2) (by omega) (by omega) e2 dL_law_264 ?_
    refine z_aload_n (i := 0) (pc := 265) C rfl rfl dL_law_265 ?_
    refine z_iload_n (i := 3) (pc := 266) C rfl rfl dL_law_266 ?_
    refine z_iconst (pc := 267) C dL_law_267 ?_
    refine z_iadd (pc := 268) C dL_law_268 ?_
    refine z_sld (pc := 269) C S (i + 3) (by omega) (by omega) e3 dL_law_269 ?_
    refine z_aload_n (i := 0) (pc := 270) C rfl rfl dL_law_270 ?_
    refine z_iload_n (i := 3) (pc := 271) C rfl rfl dL_law_271 ?_
    refine z_iconst (pc := 272) C dL_law_272 ?_
    refine z_iadd (pc := 273) C dL_law_273 ?_
    refine z_sld (pc := 274) C S (i + 4) (by omega) (by omega) e4 dL_law_274 ?_
    refine z_if_eq (tgt := 282) (pc := 275) C dL_law_275 (by decide) (fun h275 => absurd h275 (by omega)) (fun h275 => ?_)
    refine z_iconst (pc := 278) C dL_law_278 ?_
    refine z_goto (tgt := 283) (pc := 279) C dL_law_279 (by decide) ?_
    refine z_aload_n (i := 0) (pc := 283) C rfl rfl dL_law_283 ?_
    refine z_iload_n (i := 3) (pc := 284) C rfl rfl dL_law_284 ?_
    refine z_iconst (pc := 285) C dL_law_285 ?_
    refine z_iadd (pc := 286) C dL_law_286 ?_
    refine z_sld (pc := 287) C S (i + 5) (by omega) (by omega) e5 dL_law_287 ?_
    refine z_callVi (pc := 288) C (c_X6_layer hR r1 r2 r3 r5 (Or.inr rfl)) k_L_33 zy_X6_layer rfl rfl hX0 rfl rfl ⟨(Nat.le_of_ble_eq_true rfl), (Nat.le_of_ble_eq_true rfl)⟩ (Nat.le_of_ble_eq_true rfl) dL_law_288 ⟨rfl, rfl⟩ ⟨by show _ ≤ 600000; omega, by show _ ≤ 7302250; omega⟩ (fun ra ω1 hp => ?_)
    obtain ⟨ho, h1⟩ := hp
    have hM1 := (ho.1 (x + 58) (by omega)).trans hM0
    have hD1 := hD.fr (ω2 := ω1) (fun b q1 q2 => ho.1 b (by omega)) ho.2
    refine z_aload_n (i := 2) (pc := 291) C rfl rfl dL_law_291 ?_
    refine z_aload_n (i := 0) (pc := 292) C rfl rfl dL_law_292 ?_
    refine z_iload_n (i := 3) (pc := 293) C rfl rfl dL_law_293 ?_
    refine z_iconst (pc := 294) C dL_law_294 ?_
    refine z_iadd (pc := 295) C dL_law_295 ?_
    refine z_sld (pc := 296) C S (i + 1) (by omega) (by omega) e1 dL_law_296 ?_
    refine z_aload_n (i := 0) (pc := 297) C rfl rfl dL_law_297 ?_
    refine z_iload_n (i := 3) (pc := 298) C rfl rfl dL_law_298 ?_
    refine z_iconst (pc := 299) C dL_law_299 ?_
    refine z_iadd (pc := 300) C dL_law_300 ?_
    refine z_sld (pc := 301) C S (i + 2) (by omega) (by omega) e2 dL_law_301 ?_
    refine z_aload_n (i := 0) (pc := 302) C rfl rfl dL_law_302 ?_
    refine z_iload_n (i := 3) (pc := 303) C rfl rfl dL_law_303 ?_
    refine z_iconst (pc := 304) C dL_law_304 ?_
    refine z_iadd (pc := 305) C dL_law_305 ?_
    refine z_sld (pc := 306) C S (i + 3) (by omega) (by omega) e3 dL_law_306 ?_
    refine z_aload_n (i := 0) (pc := 307) C rfl rfl dL_law_307 ?_
    refine z_iload_n (i := 3) (pc := 308) C rfl rfl dL_law_308 ?_
    refine z_iconst (pc := 309) C dL_law_309 ?_
    refine z_iadd (pc := 310) C dL_law_310 ?_
    refine z_sld (pc := 311) C S (i + 4) (by omega) (by omega) e4 dL_law_311 ?_
    refine z_if_eq (tgt := 319) (pc := 312) C dL_law_312 (by decide) (fun h312 => absurd h312 (by omega)) (fun h312 => ?_)
    refine z_iconst (pc := 315) C dL_law_315 ?_
    refine z_goto (tgt := 320) (pc := 316) C dL_law_316 (by decide) ?_
    refine z_aload_n (i := 0) (pc := 320) C rfl rfl dL_law_320 ?_
    refine z_iload_n (i := 3) (pc := 321) C rfl rfl dL_law_321 ?_
    refine z_iconst (pc := 322) C dL_law_322 ?_
    refine z_iadd (pc := 323) C dL_law_323 ?_
    refine z_sld (pc := 324) C S (i + 5) (by omega) (by omega) e5 dL_law_324 ?_
    refine z_callVi (pc := 325) C (c_X7_layer hD1 r1 r2 r3 r5 (Or.inr rfl)) k_L_37 zy_X7_layer rfl rfl hM1 rfl rfl ⟨(Nat.le_of_ble_eq_true rfl), (Nat.le_of_ble_eq_true rfl)⟩ (Nat.le_of_ble_eq_true rfl) dL_law_325 ⟨rfl, rfl⟩ ⟨by show _ ≤ 600000; omega, by show _ ≤ 7302250; omega⟩ (fun rb ω2 hp => ?_)
    obtain ⟨hk, h2⟩ := hp
    rcases h1 with ⟨a1, rfl, f1, hf1, hR1⟩ | ⟨n1, rfl, hR1⟩ <;> rcases h2 with ⟨b1, rfl, f2, hf2, hD2⟩ | ⟨n2, rfl, hD2⟩
    · have hto := a1.2.1
      have hR2 := hR1.fr (ω2 := ω2) (fun b q1 q2 => hk.1 b (by omega))
      have hz1 := hR2.b y5.toNat (by omega)
      rw [va_up_self] at hz1
      have hrow := hD2.pt.1.2 y5.toNat (by omega)
      rw [va_up_self] at hrow
      refine z_congI C hrow (g := f1) (fun k k0 k1 => by rw [hf2 k k0 (by omega), hf1 k k0 (by omega)]) ?_
      have hJ2 : zJn X (zU ω2 (x + 58 + 1 + 1 + y5.toNat) (zAI X 21 f1)) x c := ⟨va_up bk y5.toNat f1, nv, bh, rt, tc, dc, tm, dm, (hR2.fr (fun b q1 q2 => zU_n (by omega))), (hD2.bk2 (by omega) hz1), hc, hbh, hrt, hnv, hT, hE⟩
      exact z_icmp_same (tgt := 818) (pc := 328) C dL_law_328 (by decide) (K _ c hJ2)
    · exact absurd a1 n2
    · exact absurd b1 n1
    · have hJ2 : zJn X ω2 x c := ⟨_, nv, bh, rt, tc, dc, tm, dm, (hR1.fr (fun b q1 q2 => hk.1 b (by omega))), hD2, hc, hbh, hrt, hnv, hT, hE⟩
      exact z_icmp_same (tgt := 818) (pc := 328) C dL_law_328 (by decide) (K ω2 c hJ2)
set_option maxRecDepth 100000 in
set_option maxHeartbeats 4000000 in
theorem law_5 {Γ : zG} {l0 : Launch} {X : zX} {b L : Nat} {xs : Nat → Int32} {x c i : Nat} {ω : zWd} (C : Zc Γ l0 X room_1 4 cL_law RL) (S : zSc Γ b L xs) (hi : i + 6 ≤ L) (hJ : zJn X ω x c) (K : ∀ (ω : zWd) (c : Nat), zJn X ω x c → Zw Γ ω (2504 + c) (190089 + 72 * c) 818 [some (.ref b), some (.ref x), some (.ref (x + 58)), some (.int (zI (i : Int)))] []) : Zw Γ ω (2504 + c) (190089 + 72 * c) 333 [some (.ref b), some (.ref x), some (.ref (x + 58)), some (.int (zI (i : Int)))] [] := by
  have hL := S.l
  obtain ⟨bk, nv, bh, rt, tc, dc, tm, dm, hR, hD, hc, hbh, hrt, hnv, hT, hE⟩ := id hJ
  have hc3 : c ≤ 3698 := by omega
  obtain ⟨fx, hX0⟩ := hR.x
  obtain ⟨fm, hM0⟩ := hD.x
  obtain ⟨y1, e1, r1⟩ : ∃ y : Int, xs (i + 1) = zI y ∧ (-2147483648 ≤ y ∧ y < 2147483648) := ⟨_, (zI_of _).symm, zI_r _⟩
  obtain ⟨y2, e2, r2⟩ : ∃ y : Int, xs (i + 2) = zI y ∧ (-2147483648 ≤ y ∧ y < 2147483648) := ⟨_, (zI_of _).symm, zI_r _⟩
  obtain ⟨y3, e3, r3⟩ : ∃ y : Int, xs (i + 3) = zI y ∧ (-2147483648 ≤ y ∧ y < 2147483648) := ⟨_, (zI_of _).symm, zI_r _⟩
  obtain ⟨y4, e4, r4⟩ : ∃ y : Int, xs (i + 4) = zI y ∧ (-2147483648 ≤ y ∧ y < 2147483648) := ⟨_, (zI_of _).symm, zI_r _⟩
  by_cases hg : y3 = 0
  · refine z_aload_n (i := 1) (pc := 333) C rfl rfl dL_law_333 ?_
    refine z_aload_n (i := 0) (pc := 334) C rfl rfl dL_law_334 ?_
    refine z_iload_n (i := 3) (pc := 335) C rfl rfl dL_law_335 ?_
    refine z_iconst (pc := 336) C dL_law_336 ?_
    refine z_iadd (pc := 337) C dL_law_337 ?_
    refine z_sld (pc := 338) C S (i + 1) (by omega) (by omega) e1 dL_law_338 ?_
    refine z_aload_n (i := 0) (pc := 339) C rfl rfl dL_law_339 ?_
    refine z_iload_n (i := 3) (pc := 340) C rfl rfl dL_law_340 ?_
    refine z_iconst (pc := 341) C dL_law_341 ?_
    refine z_iadd (pc := 342) C dL_law_342 ?_
    refine z_sld (pc := 343) C S (i + 2) (by omega) (by omega) e2 dL_law_343 ?_
    refine z_aload_n (i := 0) (pc := 344) C rfl rfl dL_law_344 ?_
    refine z_iload_n (i := 3) (pc := 345) C rfl rfl dL_law_345 ?_
    refine z_iconst (pc := 346) C dL_law_346 ?_
    refine z_iadd (pc := 347) C dL_law_347 ?_
    refine z_sld (pc := 348) C S (i + 3) (by omega) (by omega) e3 dL_law_348 ?_
    refine z_if_eq (tgt := 356) (pc := 349) C dL_law_349 (by decide) (fun h349 => ?_) (fun h349 => absurd h349 (by omega))
    refine z_iconst (pc := 356) C dL_law_356 ?_
    refine z_aload_n (i := 0) (pc := 357) C rfl rfl dL_law_357 ?_
    refine z_iload_n (i := 3) (pc := 358) C rfl rfl dL_law_358 ?_
    refine z_iconst (pc := 359) C dL_law_359 ?_
    refine z_iadd (pc := 360) C dL_law_360 ?_
    refine z_sld (pc := 361) C S (i + 4) (by omega) (by omega) e4 dL_law_361 ?_
    refine z_callVi (pc := 362) C (c_X6_part hR r1 r2 r4 (Or.inl rfl)) k_L_38 zy_X6_part rfl rfl hX0 rfl rfl ⟨(Nat.le_of_ble_eq_true rfl), (Nat.le_of_ble_eq_true rfl)⟩ (Nat.le_of_ble_eq_true rfl) dL_law_362 ⟨rfl, rfl⟩ ⟨by show _ ≤ 600000; omega, by show _ ≤ 7302250; omega⟩ (fun ra ω1 hp => ?_)
    obtain ⟨ho, h1⟩ := hp
    have hM1 := (ho.1 (x + 58) (by omega)).trans hM0
    have hD1 := hD.fr (ω2 := ω1) (fun b q1 q2 => ho.1 b (by omega)) ho.2
    refine z_aload_n (i := 2) (pc := 365) C rfl rfl dL_law_365 ?_
    refine z_aload_n (i := 0) (pc := 366) C rfl rfl dL_law_366 ?_
    refine z_iload_n (i := 3) (pc := 367) C rfl rfl dL_law_367 ?_
    refine z_iconst (pc := 368) C dL_law_368 ?_
    refine z_iadd (pc := 369) C dL_law_369 ?_
    refine z_sld (pc := 370) C S (i + 1) (by omega) (by omega) e1 dL_law_370 ?_
    refine z_aload_n (i := 0) (pc := 371) C rfl rfl dL_law_371 ?_
    refine z_iload_n (i := 3) (pc := 372) C rfl rfl dL_law_372 ?_
    refine z_iconst (pc := 373) C dL_law_373 ?_
    refine z_iadd (pc := 374) C dL_law_374 ?_
    refine z_sld (pc := 375) C S (i + 2) (by omega) (by omega) e2 dL_law_375 ?_
    refine z_aload_n (i := 0) (pc := 376) C rfl rfl dL_law_376 ?_
    refine z_iload_n (i := 3) (pc := 377) C rfl rfl dL_law_377 ?_
    refine z_iconst (pc := 378) C dL_law_378 ?_
    refine z_iadd (pc := 379) C dL_law_379 ?_
    refine z_sld (pc := 380) C S (i + 3) (by omega) (by omega) e3 dL_law_380 ?_
    refine z_if_eq (tgt := 388) (pc := 381) C dL_law_381 (by decide) (fun h381 => ?_) (fun h381 => absurd h381 (by omega))
    refine z_iconst (pc := 388) C dL_law_388 ?_
    refine z_aload_n (i := 0) (pc := 389) C rfl rfl dL_law_389 ?_
    refine z_iload_n (i := 3) (pc := 390) C rfl rfl dL_law_390 ?_
    refine z_iconst (pc := 391) C dL_law_391 ?_
    refine z_iadd (pc := 392) C dL_law_392 ?_
    refine z_sld (pc := 393) C S (i + 4) (by omega) (by omega) e4 dL_law_393 ?_
    refine z_callVi (pc := 394) C (c_X7_part hD1 r1 r2 r4 (Or.inl rfl)) k_L_42 zy_X7_part rfl rfl hM1 rfl rfl ⟨(Nat.le_of_ble_eq_true rfl), (Nat.le_of_ble_eq_true rfl)⟩ (Nat.le_of_ble_eq_true rfl) dL_law_394 ⟨rfl, rfl⟩ ⟨by show _ ≤ 600000; omega, by show _ ≤ 7302250; omega⟩ (fun rb ω2 hp => ?_)
    obtain ⟨hk, h2⟩ := hp
    rcases h1 with ⟨a1, rfl, f1, hf1, hR1⟩ | ⟨n1, rfl, hR1⟩ <;> rcases h2 with ⟨b1, rfl, f2, hf2, hD2⟩ | ⟨n2, rfl, hD2⟩
    · have hto := a1.2.1
      have hR2 := hR1.fr (ω2 := ω2) (fun b q1 q2 => hk.1 b (by omega))
      have hz1 := hR2.b y4.toNat (by omega)
      rw [va_up_self] at hz1
      have hrow := hD2.pt.1.2 y4.toNat (by omega)
      rw [va_up_self] at hrow
      refine z_congI C hrow (g := f1) (fun k k0 k1 => by rw [hf2 k k0 (by omega), hf1 k k0 (by omega)]) ?_
      have hJ2 : zJn X (zU ω2 (x + 58 + 1 + 1 + y4.toNat) (zAI X 21 f1)) x c := ⟨va_up bk y4.toNat f1, nv, bh, rt, tc, dc, tm, dm, (hR2.fr (fun b q1 q2 => zU_n (by omega))), (hD2.bk2 (by omega) hz1), hc, hbh, hrt, hnv, hT, hE⟩
      exact z_icmp_same (tgt := 818) (pc := 397) C dL_law_397 (by decide) (K _ c hJ2)
    · exact absurd a1 n2
    · exact absurd b1 n1
    · have hJ2 : zJn X ω2 x c := ⟨_, nv, bh, rt, tc, dc, tm, dm, (hR1.fr (fun b q1 q2 => hk.1 b (by omega))), hD2, hc, hbh, hrt, hnv, hT, hE⟩
      exact z_icmp_same (tgt := 818) (pc := 397) C dL_law_397 (by decide) (K ω2 c hJ2)
  · refine z_aload_n (i := 1) (pc := 333) C rfl rfl dL_law_333 ?_
    refine z_aload_n (i := 0) (pc := 334) C rfl rfl dL_law_334 ?_
    refine z_iload_n (i := 3) (pc := 335) C rfl rfl dL_law_335 ?_
    refine z_iconst (pc := 336) C dL_law_336 ?_
    refine z_iadd (pc := 337) C dL_law_337 ?_
    refine z_sld (pc := 338) C S (i + 1) (by omega) (by omega) e1 dL_law_338 ?_
    refine z_aload_n (i := 0) (pc := 339) C rfl rfl dL_law_339 ?_
    refine z_iload_n (i := 3) (pc := 340) C rfl rfl dL_law_340 ?_
    refine z_iconst (pc := 341) C dL_law_341 ?_
    refine z_iadd (pc := 342) C dL_law_342 ?_
    refine z_sld (pc := 343) C S (i + 2) (by omega) (by omega) e2 dL_law_343 ?_
    refine z_aload_n (i := 0) (pc := 344) C rfl rfl dL_law_344 ?_
    refine z_iload_n (i := 3) (pc := 345) C rfl rfl dL_law_345 ?_
    refine z_iconst (pc := 346) C dL_law_346 ?_
    refine z_iadd (pc := 347) C dL_law_347 ?_
    refine z_sld (pc := 348) C S (i + 3) (by omega) (by omega) e3 dL_law_348 ?_
    refine z_if_eq (tgt := 356) (pc := 349) C dL_law_349 (by decide) (fun h349 => absurd h349 (by omega)) (fun h349 => ?_)
    refine z_iconst (pc := 352) C dL_law_352 ?_
    refine z_goto (tgt := 357) (pc := 353) C dL_law_353 (by decide) ?_
    refine z_aload_n (i := 0) (pc := 357) C rfl rfl dL_law_357 ?_
    refine z_iload_n (i := 3) (pc := 358) C rfl rfl dL_law_358 ?_
    refine z_iconst (pc := 359) C dL_law_359 ?_
    refine z_iadd (pc := 360) C dL_law_360 ?_
    refine z_sld (pc := 361) C S (i + 4) (by omega) (by omega) e4 dL_law_361 ?_
    refine z_callVi (pc := 362) C (c_X6_part hR r1 r2 r4 (Or.inr rfl)) k_L_38 zy_X6_part rfl rfl hX0 rfl rfl ⟨(Nat.le_of_ble_eq_true rfl), (Nat.le_of_ble_eq_true rfl)⟩ (Nat.le_of_ble_eq_true rfl) dL_law_362 ⟨rfl, rfl⟩ ⟨by show _ ≤ 600000; omega, by show _ ≤ 7302250; omega⟩ (fun ra ω1 hp => ?_)
    obtain ⟨ho, h1⟩ := hp
    have hM1 := (ho.1 (x + 58) (by omega)).trans hM0
    have hD1 := hD.fr (ω2 := ω1) (fun b q1 q2 => ho.1 b (by omega)) ho.2
    refine z_aload_n (i := 2) (pc := 365) C rfl rfl dL_law_365 ?_
    refine z_aload_n (i := 0) (pc := 366) C rfl rfl dL_law_366 ?_
    refine z_iload_n (i := 3) (pc := 367) C rfl rfl dL_law_367 ?_
    refine z_iconst (pc := 368) C dL_law_368 ?_
    refine z_iadd (pc := 369) C dL_law_369 ?_
    refine z_sld (pc := 370) C S (i + 1) (by omega) (by omega) e1 dL_law_370 ?_
    refine z_aload_n (i := 0) (pc := 371) C rfl rfl dL_law_371 ?_
    refine z_iload_n (i := 3) (pc := 372) C rfl rfl dL_law_372 ?_
    refine z_iconst (pc := 373) C dL_law_373 ?_
    refine z_iadd (pc := 374) C dL_law_374 ?_
    refine z_sld (pc := 375) C S (i + 2) (by omega) (by omega) e2 dL_law_375 ?_
    refine z_aload_n (i := 0) (pc := 376) C rfl rfl dL_law_376 ?_
    refine z_iload_n (i := 3) (pc := 377) C rfl rfl dL_law_377 ?_
    refine z_iconst (pc := 378) C dL_law_378 ?_
    refine z_iadd (pc := 379) C dL_law_379 ?_
    refine z_sld (pc := 380) C S (i + 3) (by omega) (by omega) e3 dL_law_380 ?_
    refine z_if_eq (tgt := 388) (pc := 381) C dL_law_381 (by decide) (fun h381 => absurd h381 (by omega)) (fun h381 => ?_)
    refine z_iconst (pc := 384) C dL_law_384 ?_
    refine z_goto (tgt := 389) (pc := 385) C dL_law_385 (by decide) ?_
    refine z_aload_n (i := 0) (pc := 389) C rfl rfl dL_law_389 ?_
    refine z_iload_n (i := 3) (pc := 390) C rfl rfl dL_law_390 ?_
    refine z_iconst (pc := 391) C dL_law_391 ?_
    refine z_iadd (pc := 392) C dL_law_392 ?_
    refine z_sld (pc := 393) C S (i + 4) (by omega) (by omega) e4 dL_law_393 ?_
    refine z_callVi (pc := 394) C (c_X7_part hD1 r1 r2 r4 (Or.inr rfl)) k_L_42 zy_X7_part rfl rfl hM1 rfl rfl ⟨(Nat.le_of_ble_eq_true rfl), (Nat.le_of_ble_eq_true rfl)⟩ (Nat.le_of_ble_eq_true rfl) dL_law_394 ⟨rfl, rfl⟩ ⟨by show _ ≤ 600000; omega, by show _ ≤ 7302250; omega⟩ (fun rb ω2 hp => ?_)
    obtain ⟨hk, h2⟩ := hp
    rcases h1 with ⟨a1, rfl, f1, hf1, hR1⟩ | ⟨n1, rfl, hR1⟩ <;> rcases h2 with ⟨b1, rfl, f2, hf2, hD2⟩ | ⟨n2, rfl, hD2⟩
    · have hto := a1.2.1
      have hR2 := hR1.fr (ω2 := ω2) (fun b q1 q2 => hk.1 b (by omega))
      have hz1 := hR2.b y4.toNat (by omega)
      rw [va_up_self] at hz1
      have hrow := hD2.pt.1.2 y4.toNat (by omega)
      rw [va_up_self] at hrow
      refine z_congI C hrow (g := f1) (fun k k0 k1 => by rw [hf2 k k0 (by omega), hf1 k k0 (by omega)]) ?_
      have hJ2 : zJn X (zU ω2 (x + 58 + 1 + 1 + y4.toNat) (zAI X 21 f1)) x c := ⟨va_up bk y4.toNat f1, nv, bh, rt, tc, dc, tm, dm, (hR2.fr (fun b q1 q2 => zU_n (by omega))), (hD2.bk2 (by omega) hz1), hc, hbh, hrt, hnv, hT, hE⟩
      exact z_icmp_same (tgt := 818) (pc := 397) C dL_law_397 (by decide) (K _ c hJ2)
    · exact absurd a1 n2
    · exact absurd b1 n1
    · have hJ2 : zJn X ω2 x c := ⟨_, nv, bh, rt, tc, dc, tm, dm, (hR1.fr (fun b q1 q2 => hk.1 b (by omega))), hD2, hc, hbh, hrt, hnv, hT, hE⟩
      exact z_icmp_same (tgt := 818) (pc := 397) C dL_law_397 (by decide) (K ω2 c hJ2)
set_option maxRecDepth 100000 in
set_option maxHeartbeats 4000000 in
theorem law_11 {Γ : zG} {l0 : Launch} {X : zX} {b L : Nat} {xs : Nat → Int32} {x c i : Nat} {ω : zWd} (C : Zc Γ l0 X room_1 4 cL_law RL) (S : zSc Γ b L xs) (hi : i + 6 ≤ L) (hJ : zJn X ω x c) (K : ∀ (ω : zWd) (c : Nat), zJn X ω x c → Zw Γ ω (2504 + c) (190089 + 72 * c) 818 [some (.ref b), some (.ref x), some (.ref (x + 58)), some (.int (zI (i : Int)))] []) : Zw Γ ω (2504 + c) (190089 + 72 * c) 617 [some (.ref b), some (.ref x), some (.ref (x + 58)), some (.int (zI (i : Int)))] [] := by
  have hL := S.l
  obtain ⟨bk, nv, bh, rt, tc, dc, tm, dm, hR, hD, hc, hbh, hrt, hnv, hT, hE⟩ := id hJ
  have hc3 : c ≤ 3698 := by omega
  obtain ⟨fx, hX0⟩ := hR.x
  obtain ⟨fm, hM0⟩ := hD.x
  obtain ⟨y1, e1, r1⟩ : ∃ y : Int, xs (i + 1) = zI y ∧ (-2147483648 ≤ y ∧ y < 2147483648) := ⟨_, (zI_of _).symm, zI_r _⟩
  obtain ⟨y2, e2, r2⟩ : ∃ y : Int, xs (i + 2) = zI y ∧ (-2147483648 ≤ y ∧ y < 2147483648) := ⟨_, (zI_of _).symm, zI_r _⟩
  obtain ⟨y3, e3, r3⟩ : ∃ y : Int, xs (i + 3) = zI y ∧ (-2147483648 ≤ y ∧ y < 2147483648) := ⟨_, (zI_of _).symm, zI_r _⟩
  obtain ⟨y4, e4, r4⟩ : ∃ y : Int, xs (i + 4) = zI y ∧ (-2147483648 ≤ y ∧ y < 2147483648) := ⟨_, (zI_of _).symm, zI_r _⟩
  obtain ⟨y5, e5, r5⟩ : ∃ y : Int, xs (i + 5) = zI y ∧ (-2147483648 ≤ y ∧ y < 2147483648) := ⟨_, (zI_of _).symm, zI_r _⟩
  by_cases hC : (zRt bk y2 ∧ zRt bk y3 ∧ (0 ≤ y1 ∧ y1 ≤ 65535) ∧ (1 ≤ y4 ∧ y4 ≤ 5) ∧ (y1 % 16 ≤ 12 ∧ y1 / 16 % 16 ≤ 12 ∧ y1 / 256 % 16 ≤ 6 ∧ y1 / 4096 % 16 ≤ 6))
  · by_cases hg : y5 = 0
    · refine z_aload_n (i := 1) (pc := 617) C rfl rfl dL_law_617 ?_
      refine z_aload_n (i := 0) (pc := 618) C rfl rfl dL_law_618 ?_
      refine z_iload_n (i := 3) (pc := 619) C rfl rfl dL_law_619 ?_
      refine z_iconst (pc := 620) C dL_law_620 ?_
      refine z_iadd (pc := 621) C dL_law_621 ?_
      refine z_sld (pc := 622) C S (i + 1) (by omega) (by omega) e1 dL_law_622 ?_
      refine z_aload_n (i := 0) (pc := 623) C rfl rfl dL_law_623 ?_
      refine z_iload_n (i := 3) (pc := 624) C rfl rfl dL_law_624 ?_
      refine z_iconst (pc := 625) C dL_law_625 ?_
      refine z_iadd (pc := 626) C dL_law_626 ?_
      refine z_sld (pc := 627) C S (i + 2) (by omega) (by omega) e2 dL_law_627 ?_
      refine z_aload_n (i := 0) (pc := 628) C rfl rfl dL_law_628 ?_
      refine z_iload_n (i := 3) (pc := 629) C rfl rfl dL_law_629 ?_
      refine z_iconst (pc := 630) C dL_law_630 ?_
      refine z_iadd (pc := 631) C dL_law_631 ?_
      refine z_sld (pc := 632) C S (i + 3) (by omega) (by omega) e3 dL_law_632 ?_
      refine z_aload_n (i := 0) (pc := 633) C rfl rfl dL_law_633 ?_
      refine z_iload_n (i := 3) (pc := 634) C rfl rfl dL_law_634 ?_
      refine z_iconst (pc := 635) C dL_law_635 ?_
      refine z_iadd (pc := 636) C dL_law_636 ?_
      refine z_sld (pc := 637) C S (i + 4) (by omega) (by omega) e4 dL_law_637 ?_
      refine z_aload_n (i := 0) (pc := 638) C rfl rfl dL_law_638 ?_
      refine z_iload_n (i := 3) (pc := 639) C rfl rfl dL_law_639 ?_
      refine z_iconst (pc := 640) C dL_law_640 ?_
      refine z_iadd (pc := 641) C dL_law_641 ?_
      refine z_sld (pc := 642) C S (i + 5) (by omega) (by omega) e5 dL_law_642 ?_
      refine z_if_eq (tgt := 650) (pc := 643) C dL_law_643 (by decide) (fun h643 => ?_) (fun h643 => absurd h643 (by omega))
      refine z_iconst (pc := 650) C dL_law_650 ?_
      refine z_callVi (pc := 651) C (c_X6_two hR r1 r2 r3 r4 (Or.inl rfl)) k_L_66 zy_X6_two rfl rfl hX0 rfl rfl ⟨(Nat.le_of_ble_eq_true rfl), (Nat.le_of_ble_eq_true rfl)⟩ (Nat.le_of_ble_eq_true rfl) dL_law_651 ⟨rfl, rfl⟩ ⟨by show _ ≤ 600000; omega, by show _ ≤ 7302250; omega⟩ (fun ra ω1 hp => ?_)
      obtain ⟨ho, h1⟩ := hp
      have hM1 := (ho.1 (x + 58) (by omega)).trans hM0
      have hD1 := hD.fr (ω2 := ω1) (fun b q1 q2 => ho.1 b (by omega)) ho.2
      refine z_aload_n (i := 2) (pc := 654) C rfl rfl dL_law_654 ?_
      refine z_aload_n (i := 0) (pc := 655) C rfl rfl dL_law_655 ?_
      refine z_iload_n (i := 3) (pc := 656) C rfl rfl dL_law_656 ?_
      refine z_iconst (pc := 657) C dL_law_657 ?_
      refine z_iadd (pc := 658) C dL_law_658 ?_
      refine z_sld (pc := 659) C S (i + 1) (by omega) (by omega) e1 dL_law_659 ?_
      refine z_aload_n (i := 0) (pc := 660) C rfl rfl dL_law_660 ?_
      refine z_iload_n (i := 3) (pc := 661) C rfl rfl dL_law_661 ?_
      refine z_iconst (pc := 662) C dL_law_662 ?_
      refine z_iadd (pc := 663) C dL_law_663 ?_
      refine z_sld (pc := 664) C S (i + 2) (by omega) (by omega) e2 dL_law_664 ?_
      refine z_aload_n (i := 0) (pc := 665) C rfl rfl dL_law_665 ?_
      refine z_iload_n (i := 3) (pc := 666) C rfl rfl dL_law_666 ?_
      refine z_iconst (pc := 667) C dL_law_667 ?_
      refine z_iadd (pc := 668) C dL_law_668 ?_
      refine z_sld (pc := 669) C S (i + 3) (by omega) (by omega) e3 dL_law_669 ?_
      refine z_aload_n (i := 0) (pc := 670) C rfl rfl dL_law_670 ?_
      refine z_iload_n (i := 3) (pc := 671) C rfl rfl dL_law_671 ?_
      refine z_iconst (pc := 672) C dL_law_672 ?_
      refine z_iadd (pc := 673) C dL_law_673 ?_
      refine z_sld (pc := 674) C S (i + 4) (by omega) (by omega) e4 dL_law_674 ?_
      refine z_aload_n (i := 0) (pc := 675) C rfl rfl dL_law_675 ?_
      refine z_iload_n (i := 3) (pc := 676) C rfl rfl dL_law_676 ?_
      refine z_iconst (pc := 677) C dL_law_677 ?_
      refine z_iadd (pc := 678) C dL_law_678 ?_
      refine z_sld (pc := 679) C S (i + 5) (by omega) (by omega) e5 dL_law_679 ?_
      refine z_if_eq (tgt := 687) (pc := 680) C dL_law_680 (by decide) (fun h680 => ?_) (fun h680 => absurd h680 (by omega))
      refine z_iconst (pc := 687) C dL_law_687 ?_
      refine z_callViA (pc := 688) (mc := 3698 - c) (ms := 72 * (3698 - c)) C (c_X7_twoY hD1 hc3 r1 r2 r3 r4 (Or.inl rfl) hC) k_L_70 zy_X7_two rfl rfl hM1 rfl rfl ⟨(Nat.le_of_ble_eq_true rfl), (Nat.le_of_ble_eq_true rfl)⟩ (Nat.le_of_ble_eq_true rfl) dL_law_688 ⟨rfl, rfl⟩ ⟨by show _ ≤ 600000; omega, by show _ ≤ 7302250; omega⟩ (fun rb ω2 hp => ?_)
      obtain ⟨rfl, hlow, hD2⟩ := hp
      rw [show 2504 + c + (3698 - c) = 2504 + 3698 by omega, show 190089 + 72 * c + 72 * (3698 - c) = 190089 + 72 * 3698 by omega]
      rcases h1 with ⟨a1, rfl, hR1⟩ | ⟨n1, rfl, hR1⟩
      · have hR2 := hR1.fr (ω2 := ω2) (fun b q1 q2 => hlow b (by omega))
        rw [show 6 * y4.toNat = 3 * (2 * y4.toNat) by omega] at hR2
        obtain ⟨z1, z2, z3, z4, z5⟩ := a1
        have hJ2 : zJn X ω2 x 3698 := ⟨_, _, (2 * y4.toNat), rt, tc, dc, tm, dm, hR2, hD2, (Or.inr rfl), (by omega), hrt, (ztwo_b (hD.pt.2 y2.toNat (by have := z1.1; have := z1.2.1; omega)) (hD.pt.2 y3.toNat (by have := z2.1; have := z2.2.1; omega)) z1.2.2 z2.2.2 (by omega) (by omega)), hT, hE⟩
        exact z_icmp_same (tgt := 818) (pc := 691) C dL_law_691 (by decide) (K ω2 3698 hJ2)
      · exact absurd hC n1
    · refine z_aload_n (i := 1) (pc := 617) C rfl rfl dL_law_617 ?_
      refine z_aload_n (i := 0) (pc := 618) C rfl rfl dL_law_618 ?_
      refine z_iload_n (i := 3) (pc := 619) C rfl rfl dL_law_619 ?_
      refine z_iconst (pc := 620) C dL_law_620 ?_
      refine z_iadd (pc := 621) C dL_law_621 ?_
      refine z_sld (pc := 622) C S (i + 1) (by omega) (by omega) e1 dL_law_622 ?_
      refine z_aload_n (i := 0) (pc := 623) C rfl rfl dL_law_623 ?_
      refine z_iload_n (i := 3) (pc := 624) C rfl rfl dL_law_624 ?_
      refine z_iconst (pc := 625) C dL_law_625 ?_
      refine z_iadd (pc := 626) C dL_law_626 ?_
      refine z_sld (pc := 627) C S (i + 2) (by omega) (by omega) e2 dL_law_627 ?_
      refine z_aload_n (i := 0) (pc := 628) C rfl rfl dL_law_628 ?_
      refine z_iload_n (i := 3) (pc := 629) C rfl rfl dL_law_629 ?_
      refine z_iconst (pc := 630) C dL_law_630 ?_
      refine z_iadd (pc := 631) C dL_law_631 ?_
      refine z_sld (pc := 632) C S (i + 3) (by omega) (by omega) e3 dL_law_632 ?_
      refine z_aload_n (i := 0) (pc := 633) C rfl rfl dL_law_633 ?_
      refine z_iload_n (i := 3) (pc := 634) C rfl rfl dL_law_634 ?_
      refine z_iconst (pc := 635) C dL_law_635 ?_
      refine z_iadd (pc := 636) C dL_law_636 ?_
      refine z_sld (pc := 637) C S (i + 4) (by omega) (by omega) e4 dL_law_637 ?_
      refine z_aload_n (i := 0) (pc := 638) C rfl rfl dL_law_638 ?_
      refine z_iload_n (i := 3) (pc := 639) C rfl rfl dL_law_639 ?_
      refine z_iconst (pc := 640) C dL_law_640 ?_
      refine z_iadd (pc := 641) C dL_law_641 ?_
      refine z_sld (pc := 642) C S (i + 5) (by omega) (by omega) e5 dL_law_642 ?_
      refine z_if_eq (tgt := 650) (pc := 643) C dL_law_643 (by decide) (fun h643 => absurd h643 (by omega)) (fun h643 => ?_)
      refine z_iconst (pc := 646) C dL_law_646 ?_
      refine z_goto (tgt := 651) (pc := 647) C dL_law_647 (by decide) ?_
      refine z_callVi (pc := 651) C (c_X6_two hR r1 r2 r3 r4 (Or.inr rfl)) k_L_66 zy_X6_two rfl rfl hX0 rfl rfl ⟨(Nat.le_of_ble_eq_true rfl), (Nat.le_of_ble_eq_true rfl)⟩ (Nat.le_of_ble_eq_true rfl) dL_law_651 ⟨rfl, rfl⟩ ⟨by show _ ≤ 600000; omega, by show _ ≤ 7302250; omega⟩ (fun ra ω1 hp => ?_)
      obtain ⟨ho, h1⟩ := hp
      have hM1 := (ho.1 (x + 58) (by omega)).trans hM0
      have hD1 := hD.fr (ω2 := ω1) (fun b q1 q2 => ho.1 b (by omega)) ho.2
      refine z_aload_n (i := 2) (pc := 654) C rfl rfl dL_law_654 ?_
      refine z_aload_n (i := 0) (pc := 655) C rfl rfl dL_law_655 ?_
      refine z_iload_n (i := 3) (pc := 656) C rfl rfl dL_law_656 ?_
      refine z_iconst (pc := 657) C dL_law_657 ?_
      refine z_iadd (pc := 658) C dL_law_658 ?_
      refine z_sld (pc := 659) C S (i + 1) (by omega) (by omega) e1 dL_law_659 ?_
      refine z_aload_n (i := 0) (pc := 660) C rfl rfl dL_law_660 ?_
      refine z_iload_n (i := 3) (pc := 661) C rfl rfl dL_law_661 ?_
      refine z_iconst (pc := 662) C dL_law_662 ?_
      refine z_iadd (pc := 663) C dL_law_663 ?_
      refine z_sld (pc := 664) C S (i + 2) (by omega) (by omega) e2 dL_law_664 ?_
      refine z_aload_n (i := 0) (pc := 665) C rfl rfl dL_law_665 ?_
      refine z_iload_n (i := 3) (pc := 666) C rfl rfl dL_law_666 ?_
      refine z_iconst (pc := 667) C dL_law_667 ?_
      refine z_iadd (pc := 668) C dL_law_668 ?_
      refine z_sld (pc := 669) C S (i + 3) (by omega) (by omega) e3 dL_law_669 ?_
      refine z_aload_n (i := 0) (pc := 670) C rfl rfl dL_law_670 ?_
      refine z_iload_n (i := 3) (pc := 671) C rfl rfl dL_law_671 ?_
      refine z_iconst (pc := 672) C dL_law_672 ?_
      refine z_iadd (pc := 673) C dL_law_673 ?_
      refine z_sld (pc := 674) C S (i + 4) (by omega) (by omega) e4 dL_law_674 ?_
      refine z_aload_n (i := 0) (pc := 675) C rfl rfl dL_law_675 ?_
      refine z_iload_n (i := 3) (pc := 676) C rfl rfl dL_law_676 ?_
      refine z_iconst (pc := 677) C dL_law_677 ?_
      refine z_iadd (pc := 678) C dL_law_678 ?_
      refine z_sld (pc := 679) C S (i + 5) (by omega) (by omega) e5 dL_law_679 ?_
      refine z_if_eq (tgt := 687) (pc := 680) C dL_law_680 (by decide) (fun h680 => absurd h680 (by omega)) (fun h680 => ?_)
      refine z_iconst (pc := 683) C dL_law_683 ?_
      refine z_goto (tgt := 688) (pc := 684) C dL_law_684 (by decide) ?_
      refine z_callViA (pc := 688) (mc := 3698 - c) (ms := 72 * (3698 - c)) C (c_X7_twoY hD1 hc3 r1 r2 r3 r4 (Or.inr rfl) hC) k_L_70 zy_X7_two rfl rfl hM1 rfl rfl ⟨(Nat.le_of_ble_eq_true rfl), (Nat.le_of_ble_eq_true rfl)⟩ (Nat.le_of_ble_eq_true rfl) dL_law_688 ⟨rfl, rfl⟩ ⟨by show _ ≤ 600000; omega, by show _ ≤ 7302250; omega⟩ (fun rb ω2 hp => ?_)
      obtain ⟨rfl, hlow, hD2⟩ := hp
      rw [show 2504 + c + (3698 - c) = 2504 + 3698 by omega, show 190089 + 72 * c + 72 * (3698 - c) = 190089 + 72 * 3698 by omega]
      rcases h1 with ⟨a1, rfl, hR1⟩ | ⟨n1, rfl, hR1⟩
      · have hR2 := hR1.fr (ω2 := ω2) (fun b q1 q2 => hlow b (by omega))
        rw [show 6 * y4.toNat = 3 * (2 * y4.toNat) by omega] at hR2
        obtain ⟨z1, z2, z3, z4, z5⟩ := a1
        have hJ2 : zJn X ω2 x 3698 := ⟨_, _, (2 * y4.toNat), rt, tc, dc, tm, dm, hR2, hD2, (Or.inr rfl), (by omega), hrt, (ztwo_b (hD.pt.2 y2.toNat (by have := z1.1; have := z1.2.1; omega)) (hD.pt.2 y3.toNat (by have := z2.1; have := z2.2.1; omega)) z1.2.2 z2.2.2 (by omega) (by omega)), hT, hE⟩
        exact z_icmp_same (tgt := 818) (pc := 691) C dL_law_691 (by decide) (K ω2 3698 hJ2)
      · exact absurd hC n1
  · by_cases hg : y5 = 0
    · refine z_aload_n (i := 1) (pc := 617) C rfl rfl dL_law_617 ?_
      refine z_aload_n (i := 0) (pc := 618) C rfl rfl dL_law_618 ?_
      refine z_iload_n (i := 3) (pc := 619) C rfl rfl dL_law_619 ?_
      refine z_iconst (pc := 620) C dL_law_620 ?_
      refine z_iadd (pc := 621) C dL_law_621 ?_
      refine z_sld (pc := 622) C S (i + 1) (by omega) (by omega) e1 dL_law_622 ?_
      refine z_aload_n (i := 0) (pc := 623) C rfl rfl dL_law_623 ?_
      refine z_iload_n (i := 3) (pc := 624) C rfl rfl dL_law_624 ?_
      refine z_iconst (pc := 625) C dL_law_625 ?_
      refine z_iadd (pc := 626) C dL_law_626 ?_
      refine z_sld (pc := 627) C S (i + 2) (by omega) (by omega) e2 dL_law_627 ?_
      refine z_aload_n (i := 0) (pc := 628) C rfl rfl dL_law_628 ?_
      refine z_iload_n (i := 3) (pc := 629) C rfl rfl dL_law_629 ?_
      refine z_iconst (pc := 630) C dL_law_630 ?_
      refine z_iadd (pc := 631) C dL_law_631 ?_
      refine z_sld (pc := 632) C S (i + 3) (by omega) (by omega) e3 dL_law_632 ?_
      refine z_aload_n (i := 0) (pc := 633) C rfl rfl dL_law_633 ?_
      refine z_iload_n (i := 3) (pc := 634) C rfl rfl dL_law_634 ?_
      refine z_iconst (pc := 635) C dL_law_635 ?_
      refine z_iadd (pc := 636) C dL_law_636 ?_
      refine z_sld (pc := 637) C S (i + 4) (by omega) (by omega) e4 dL_law_637 ?_
      refine z_aload_n (i := 0) (pc := 638) C rfl rfl dL_law_638 ?_
      refine z_iload_n (i := 3) (pc := 639) C rfl rfl dL_law_639 ?_
      refine z_iconst (pc := 640) C dL_law_640 ?_
      refine z_iadd (pc := 641) C dL_law_641 ?_
      refine z_sld (pc := 642) C S (i + 5) (by omega) (by omega) e5 dL_law_642 ?_
      refine z_if_eq (tgt := 650) (pc := 643) C dL_law_643 (by decide) (fun h643 => ?_) (fun h643 => absurd h643 (by omega))
      refine z_iconst (pc := 650) C dL_law_650 ?_
      refine z_callVi (pc := 651) C (c_X6_two hR r1 r2 r3 r4 (Or.inl rfl)) k_L_66 zy_X6_two rfl rfl hX0 rfl rfl ⟨(Nat.le_of_ble_eq_true rfl), (Nat.le_of_ble_eq_true rfl)⟩ (Nat.le_of_ble_eq_true rfl) dL_law_651 ⟨rfl, rfl⟩ ⟨by show _ ≤ 600000; omega, by show _ ≤ 7302250; omega⟩ (fun ra ω1 hp => ?_)
      obtain ⟨ho, h1⟩ := hp
      have hM1 := (ho.1 (x + 58) (by omega)).trans hM0
      have hD1 := hD.fr (ω2 := ω1) (fun b q1 q2 => ho.1 b (by omega)) ho.2
      refine z_aload_n (i := 2) (pc := 654) C rfl rfl dL_law_654 ?_
      refine z_aload_n (i := 0) (pc := 655) C rfl rfl dL_law_655 ?_
      refine z_iload_n (i := 3) (pc := 656) C rfl rfl dL_law_656 ?_
      refine z_iconst (pc := 657) C dL_law_657 ?_
      refine z_iadd (pc := 658) C dL_law_658 ?_
      refine z_sld (pc := 659) C S (i + 1) (by omega) (by omega) e1 dL_law_659 ?_
      refine z_aload_n (i := 0) (pc := 660) C rfl rfl dL_law_660 ?_
      refine z_iload_n (i := 3) (pc := 661) C rfl rfl dL_law_661 ?_
      refine z_iconst (pc := 662) C dL_law_662 ?_
      refine z_iadd (pc := 663) C dL_law_663 ?_
      refine z_sld (pc := 664) C S (i + 2) (by omega) (by omega) e2 dL_law_664 ?_
      refine z_aload_n (i := 0) (pc := 665) C rfl rfl dL_law_665 ?_
      refine z_iload_n (i := 3) (pc := 666) C rfl rfl dL_law_666 ?_
      refine z_iconst (pc := 667) C dL_law_667 ?_
      refine z_iadd (pc := 668) C dL_law_668 ?_
      refine z_sld (pc := 669) C S (i + 3) (by omega) (by omega) e3 dL_law_669 ?_
      refine z_aload_n (i := 0) (pc := 670) C rfl rfl dL_law_670 ?_
      refine z_iload_n (i := 3) (pc := 671) C rfl rfl dL_law_671 ?_
      refine z_iconst (pc := 672) C dL_law_672 ?_
      refine z_iadd (pc := 673) C dL_law_673 ?_
      refine z_sld (pc := 674) C S (i + 4) (by omega) (by omega) e4 dL_law_674 ?_
      refine z_aload_n (i := 0) (pc := 675) C rfl rfl dL_law_675 ?_
      refine z_iload_n (i := 3) (pc := 676) C rfl rfl dL_law_676 ?_
      refine z_iconst (pc := 677) C dL_law_677 ?_
      refine z_iadd (pc := 678) C dL_law_678 ?_
      refine z_sld (pc := 679) C S (i + 5) (by omega) (by omega) e5 dL_law_679 ?_
      refine z_if_eq (tgt := 687) (pc := 680) C dL_law_680 (by decide) (fun h680 => ?_) (fun h680 => absurd h680 (by omega))
      refine z_iconst (pc := 687) C dL_law_687 ?_
      refine z_callVi (pc := 688) C (c_X7_twoN hD1 r1 r2 r3 r4 hC) k_L_70 zy_X7_two rfl rfl hM1 rfl rfl ⟨(Nat.le_of_ble_eq_true rfl), (Nat.le_of_ble_eq_true rfl)⟩ (Nat.le_of_ble_eq_true rfl) dL_law_688 ⟨rfl, rfl⟩ ⟨by show _ ≤ 600000; omega, by show _ ≤ 7302250; omega⟩ (fun rb ω2 hp => ?_)
      obtain ⟨hw', h2⟩ := hp
      rw [hw']
      clear hw'
      rcases h1 with ⟨a1, rfl, hR1⟩ | ⟨n1, rfl, hR1⟩
      · exact absurd a1 hC
      · subst h2
        have hJ2 : zJn X ω1 x c := ⟨_, nv, bh, rt, tc, dc, tm, dm, hR1, hD1, hc, hbh, hrt, hnv, hT, hE⟩
        exact z_icmp_same (tgt := 818) (pc := 691) C dL_law_691 (by decide) (K ω1 c hJ2)
    · refine z_aload_n (i := 1) (pc := 617) C rfl rfl dL_law_617 ?_
      refine z_aload_n (i := 0) (pc := 618) C rfl rfl dL_law_618 ?_
      refine z_iload_n (i := 3) (pc := 619) C rfl rfl dL_law_619 ?_
      refine z_iconst (pc := 620) C dL_law_620 ?_
      refine z_iadd (pc := 621) C dL_law_621 ?_
      refine z_sld (pc := 622) C S (i + 1) (by omega) (by omega) e1 dL_law_622 ?_
      refine z_aload_n (i := 0) (pc := 623) C rfl rfl dL_law_623 ?_
      refine z_iload_n (i := 3) (pc := 624) C rfl rfl dL_law_624 ?_
      refine z_iconst (pc := 625) C dL_law_625 ?_
      refine z_iadd (pc := 626) C dL_law_626 ?_
      refine z_sld (pc := 627) C S (i + 2) (by omega) (by omega) e2 dL_law_627 ?_
      refine z_aload_n (i := 0) (pc := 628) C rfl rfl dL_law_628 ?_
      refine z_iload_n (i := 3) (pc := 629) C rfl rfl dL_law_629 ?_
      refine z_iconst (pc := 630) C dL_law_630 ?_
      refine z_iadd (pc := 631) C dL_law_631 ?_
      refine z_sld (pc := 632) C S (i + 3) (by omega) (by omega) e3 dL_law_632 ?_
      refine z_aload_n (i := 0) (pc := 633) C rfl rfl dL_law_633 ?_
      refine z_iload_n (i := 3) (pc := 634) C rfl rfl dL_law_634 ?_
      refine z_iconst (pc := 635) C dL_law_635 ?_
      refine z_iadd (pc := 636) C dL_law_636 ?_
      refine z_sld (pc := 637) C S (i + 4) (by omega) (by omega) e4 dL_law_637 ?_
      refine z_aload_n (i := 0) (pc := 638) C rfl rfl dL_law_638 ?_
      refine z_iload_n (i := 3) (pc := 639) C rfl rfl dL_law_639 ?_
      refine z_iconst (pc := 640) C dL_law_640 ?_
      refine z_iadd (pc := 641) C dL_law_641 ?_
      refine z_sld (pc := 642) C S (i + 5) (by omega) (by omega) e5 dL_law_642 ?_
      refine z_if_eq (tgt := 650) (pc := 643) C dL_law_643 (by decide) (fun h643 => absurd h643 (by omega)) (fun h643 => ?_)
      refine z_iconst (pc := 646) C dL_law_646 ?_
      refine z_goto (tgt := 651) (pc := 647) C dL_law_647 (by decide) ?_
      refine z_callVi (pc := 651) C (c_X6_two hR r1 r2 r3 r4 (Or.inr rfl)) k_L_66 zy_X6_two rfl rfl hX0 rfl rfl ⟨(Nat.le_of_ble_eq_true rfl), (Nat.le_of_ble_eq_true rfl)⟩ (Nat.le_of_ble_eq_true rfl) dL_law_651 ⟨rfl, rfl⟩ ⟨by show _ ≤ 600000; omega, by show _ ≤ 7302250; omega⟩ (fun ra ω1 hp => ?_)
      obtain ⟨ho, h1⟩ := hp
      have hM1 := (ho.1 (x + 58) (by omega)).trans hM0
      have hD1 := hD.fr (ω2 := ω1) (fun b q1 q2 => ho.1 b (by omega)) ho.2
      refine z_aload_n (i := 2) (pc := 654) C rfl rfl dL_law_654 ?_
      refine z_aload_n (i := 0) (pc := 655) C rfl rfl dL_law_655 ?_
      refine z_iload_n (i := 3) (pc := 656) C rfl rfl dL_law_656 ?_
      refine z_iconst (pc := 657) C dL_law_657 ?_
      refine z_iadd (pc := 658) C dL_law_658 ?_
      refine z_sld (pc := 659) C S (i + 1) (by omega) (by omega) e1 dL_law_659 ?_
      refine z_aload_n (i := 0) (pc := 660) C rfl rfl dL_law_660 ?_
      refine z_iload_n (i := 3) (pc := 661) C rfl rfl dL_law_661 ?_
      refine z_iconst (pc := 662) C dL_law_662 ?_
      refine z_iadd (pc := 663) C dL_law_663 ?_
      refine z_sld (pc := 664) C S (i + 2) (by omega) (by omega) e2 dL_law_664 ?_
      refine z_aload_n (i := 0) (pc := 665) C rfl rfl dL_law_665 ?_
      refine z_iload_n (i := 3) (pc := 666) C rfl rfl dL_law_666 ?_
      refine z_iconst (pc := 667) C dL_law_667 ?_
      refine z_iadd (pc := 668) C dL_law_668 ?_
      refine z_sld (pc := 669) C S (i + 3) (by omega) (by omega) e3 dL_law_669 ?_
      refine z_aload_n (i := 0) (pc := 670) C rfl rfl dL_law_670 ?_
      refine z_iload_n (i := 3) (pc := 671) C rfl rfl dL_law_671 ?_
      refine z_iconst (pc := 672) C dL_law_672 ?_
      refine z_iadd (pc := 673) C dL_law_673 ?_
      refine z_sld (pc := 674) C S (i + 4) (by omega) (by omega) e4 dL_law_674 ?_
      refine z_aload_n (i := 0) (pc := 675) C rfl rfl dL_law_675 ?_
      refine z_iload_n (i := 3) (pc := 676) C rfl rfl dL_law_676 ?_
      refine z_iconst (pc := 677) C dL_law_677 ?_
      refine z_iadd (pc := 678) C dL_law_678 ?_
      refine z_sld (pc := 679) C S (i + 5) (by omega) (by omega) e5 dL_law_679 ?_
      refine z_if_eq (tgt := 687) (pc := 680) C dL_law_680 (by decide) (fun h680 => absurd h680 (by omega)) (fun h680 => ?_)
      refine z_iconst (pc := 683) C dL_law_683 ?_
      refine z_goto (tgt := 688) (pc := 684) C dL_law_684 (by decide) ?_
      refine z_callVi (pc := 688) C (c_X7_twoN hD1 r1 r2 r3 r4 hC) k_L_70 zy_X7_two rfl rfl hM1 rfl rfl ⟨(Nat.le_of_ble_eq_true rfl), (Nat.le_of_ble_eq_true rfl)⟩ (Nat.le_of_ble_eq_true rfl) dL_law_688 ⟨rfl, rfl⟩ ⟨by show _ ≤ 600000; omega, by show _ ≤ 7302250; omega⟩ (fun rb ω2 hp => ?_)
      obtain ⟨hw', h2⟩ := hp
      rw [hw']
      clear hw'
      rcases h1 with ⟨a1, rfl, hR1⟩ | ⟨n1, rfl, hR1⟩
      · exact absurd a1 hC
      · subst h2
        have hJ2 : zJn X ω1 x c := ⟨_, nv, bh, rt, tc, dc, tm, dm, hR1, hD1, hc, hbh, hrt, hnv, hT, hE⟩
        exact z_icmp_same (tgt := 818) (pc := 691) C dL_law_691 (by decide) (K ω1 c hJ2)
