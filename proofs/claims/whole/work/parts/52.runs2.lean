set_option maxRecDepth 100000 in
set_option maxHeartbeats 4000000 in
theorem lp_runs7 {Γ : zG} {l0 : Launch} {X : zX} {m bh rt pu n t mo tp : Nat} {p b : Int} {bk : Nat → Int → Int} {ω0 : zWd} {A : Int → Int} {Rp Bp : Nat → Int} {u : Nat} (C : Zc Γ l0 X rmX7_runs 11 cX7_runs RX7) (hPt0 : zMx X ω0 (m + 1) 8 21 bk) (hy : zRt bk b) (hf : zBk (bk b.toNat)) (hp0 : 0 ≤ p ∧ p ≤ 20) (ht : 1 ≤ t ∧ t ≤ n ∧ n ≤ 40) (htp : (tp : Int) = mo + p ∧ tp < 901) (hA : ∀ u : Int, 0 ≤ A u) (hfN : ∀ v : Int, zs (fun u' => A u' * zwt (bk b.toNat) (u' + p - v)) (mo + 1) < 1000 ^ (n + 1)) (hfR : zs (fun u' => A u' * zT1 (bk b.toNat) (u' + p) 21) (mo + 1) * 1000 ^ (n - t) < 1000 ^ (n + 2)) (hB0 : ∀ k : Nat, 0 ≤ Bp k) (hfB : ∀ k : Nat, Bp k + zs (fun u' => A u' * zwt (bk b.toNat) (u' + p - -(k : Int))) (mo + 1) * 1000 ^ (n - t) < 1000 ^ (n + 2)) (hu : u ≤ mo) (K : ∀ (ω : zWd) (o10 : Option Value), zRn X ω0 ω m bh rt (n + 2) (fun u => A u) (fun v => zP1 A (bk b.toNat) p v u 21) (fun j => if j = t then zR1 A (bk b.toNat) p u 21 * 1000 ^ (n - t) else Rp j) (fun k => if k = 0 then 0 else Bp k + zP1 A (bk b.toNat) p (-(k : Int)) u 21 * 1000 ^ (n - t)) (tp + 1) → Zw Γ ω 0 0 294 [some (.ref m), some (.int (zI (pu : Int))), some (.int (zI p)), some (.int (zI b)), some (.int (zI (n : Int))), some (.int (zI (mo : Int))), some (.int (zI (t : Int))), some (.int (zI (tp : Int))), some (.int (zI (u : Int))), some (.int (zI 21)), o10] []) : ∀ (j s : Nat) (ω : zWd) (o10 : Option Value), s + j = 21 → zRn X ω0 ω m bh rt (n + 2) (fun u => A u) (fun v => zP1 A (bk b.toNat) p v u (s : Int)) (fun j => if j = t then zR1 A (bk b.toNat) p u s * 1000 ^ (n - t) else Rp j) (fun k => if k = 0 then 0 else Bp k + zP1 A (bk b.toNat) p (-(k : Int)) u (s : Int) * 1000 ^ (n - t)) (tp + 1) → Zw Γ ω 0 0 171 [some (.ref m), some (.int (zI (pu : Int))), some (.int (zI p)), some (.int (zI b)), some (.int (zI (n : Int))), some (.int (zI (mo : Int))), some (.int (zI (t : Int))), some (.int (zI (tp : Int))), some (.int (zI (u : Int))), some (.int (zI (s : Int))), o10] [] := by
  obtain ⟨b0, b1, bs⟩ := id hy
  intro j
  induction j with
  | zero =>
    intro s ω o10 hj hS
    have e1 : s = 21 := by omega
    subst e1
    have hK := K ω o10 hS
    refine z_iload (i := 9) (pc := 171) C rfl dX7_runs_171 ?_
    refine z_bipush (pc := 173) C (by decide +kernel) dX7_runs_173 ?_
    refine z_icmp_ge (tgt := 294) (pc := 175) C dX7_runs_175 (by decide) (fun h175 => ?_) (fun h175 => absurd h175 (by omega))
    exact hK
  | succ j ih =>
    intro s ω o10 hj hS
    have hS0 := hS
    obtain ⟨hF, hM, hAl, hNx, hRa, hRb⟩ := hS
    have hPt := hPt0.kp (ω2 := ω) (fun b h1 h2 => hF.1 b (by omega))
    obtain ⟨fA, hA1, hA2⟩ := hAl
    obtain ⟨fN, hN1, hN2⟩ := hNx
    obtain ⟨fR, hR1, hR2⟩ := hRa
    obtain ⟨fB, hB1, hB2⟩ := hRb
    have hq := hf s (by omega) (by omega)
    have hAu := hA u
    have hP0 : (0 : Int) < 1000 ^ (n - t) := zpw (by decide) _
    have hnn : (1000 : Int) ^ (n + 1) < 1000 ^ (n + 2) := by
      have h1 : (0 : Int) < 1000 ^ (n + 1) := zpw (by decide) _
      rw [show n + 2 = n + 1 + 1 by omega, Int.pow_succ 1000 (n + 1)]
      omega
    have e00 : (1000 : Int) ^ 0 = 1 := rfl
    refine z_iload (i := 9) (pc := 171) C rfl dX7_runs_171 ?_
    refine z_bipush (pc := 173) C (by decide +kernel) dX7_runs_173 ?_
    refine z_icmp_ge (tgt := 294) (pc := 175) C dX7_runs_175 (by decide) (fun h175 => absurd h175 (by omega)) (fun h175 => ?_)
    refine z_iload (i := 8) (pc := 178) C rfl dX7_runs_178 ?_
    refine z_iload_n (i := 2) (pc := 180) C rfl rfl dX7_runs_180 ?_
    refine z_iadd (pc := 181) C dX7_runs_181 ?_
    refine z_iload (i := 9) (pc := 182) C rfl dX7_runs_182 ?_
    refine z_isub (pc := 184) C dX7_runs_184 ?_
    refine z_istore (i := 10) (lv' := [_, _, _, _, _, _, _, _, _, _, _]) (pc := 185) C (by decide) rfl rfl dX7_runs_185 ?_
    refine z_iload (i := 10) (pc := 187) C rfl dX7_runs_187 ?_
    refine z_if_lt (tgt := 223) (pc := 189) C dX7_runs_189 (by decide) (fun h189 => ?_) (fun h189 => ?_)
    · refine z_aload_n (i := 0) (pc := 223) C rfl rfl dX7_runs_223 ?_
      refine z_aload_n (i := 0) (pc := 224) C rfl rfl dX7_runs_224 ?_
      refine g_X7_40 (pc := 225) C hM rfl dX7_runs_225 ?_
      refine z_iload (i := 6) (pc := 228) C rfl dX7_runs_228 ?_
      refine z_aaload (pc := 230) C hR1.1 rfl dX7_runs_230 ?_
      refine z_aload_n (i := 0) (pc := 231) C rfl rfl dX7_runs_231 ?_
      refine g_X7_34 (pc := 232) C hM rfl dX7_runs_232 ?_
      refine z_iload (i := 8) (pc := 235) C rfl dX7_runs_235 ?_
      refine z_aaload (pc := 237) C hA1.1 rfl dX7_runs_237 ?_
      refine z_aload_n (i := 0) (pc := 238) C rfl rfl dX7_runs_238 ?_
      refine g_X7_11 (pc := 239) C hM rfl dX7_runs_239 ?_
      refine z_iload_n (i := 3) (pc := 242) C rfl rfl dX7_runs_242 ?_
      refine z_aaload (pc := 243) C hPt.1 rfl dX7_runs_243 ?_
      refine z_iload (i := 9) (pc := 244) C rfl dX7_runs_244 ?_
      refine z_iaload (pc := 246) C (hPt.2 b.toNat (by omega)) dX7_runs_246 ?_
      refine z_iload (i := 4) (pc := 247) C rfl dX7_runs_247 ?_
      refine z_iload (i := 6) (pc := 249) C rfl dX7_runs_249 ?_
      refine z_isub (pc := 251) C dX7_runs_251 ?_
      rw [show (n : Int) - (t : Int) = ((n - t : Nat) : Int) by omega]
      have hP := zR1_s (A := A) (f := (bk b.toNat)) (p := p) (u := u) (s := s)
      rw [if_pos (by omega)] at hP
      have hPl := zR1_le (p := p) (s := s + 1) hA hf (show u < mo + 1 by omega) (by omega)
      have hmm : zR1 A (bk b.toNat) p u (s + 1) * 1000 ^ (n - t) ≤ zs (fun u' => A u' * zT1 (bk b.toNat) (u' + p) 21) (mo + 1) * 1000 ^ (n - t) := Int.mul_le_mul_of_nonneg_right hPl.2 (by omega)
      have hfit : (if t = t then zR1 A (bk b.toNat) p u s * 1000 ^ (n - t) else Rp t) + bk b.toNat s * A u * 1000 ^ (n - t) < 1000 ^ (n + 2) := by
        rw [if_pos rfl, ← Int.add_mul, ← hP]
        omega
      refine z_callVv (pc := 252) C (c_X7_add (up := n - t) hM rfl (hR1.2 t (by omega)) (hR2 t (by omega)) (hA1.2 u (by omega)) (hA2 u (by omega)) (by omega) (by omega) (by omega) hfit) k_X7_120 zy_X7_add rfl rfl hM rfl rfl ⟨(Nat.le_of_ble_eq_true rfl), (Nat.le_of_ble_eq_true rfl)⟩ (Nat.le_of_ble_eq_true rfl) dX7_runs_252 ⟨rfl, rfl⟩ ⟨(Nat.le_of_ble_eq_true rfl), (Nat.le_of_ble_eq_true rfl)⟩ (fun ω' hp => ?_)
      obtain ⟨g2, hw2, hg2⟩ := hp
      (try dsimp only at hg2)
      rw [if_pos rfl, ← Int.add_mul, ← hP] at hg2
      have hS1 := hS0.ra (j := t) (Ra2 := (fun j => if j = t then zR1 A (bk b.toNat) p u (s + 1) * 1000 ^ (n - t) else Rp j)) (by omega) hg2 (fun i hi => by
        by_cases e : i = t
        · rw [e, va_up_self, if_pos rfl]
        · rw [va_up_ne _ _ e, if_neg e, if_neg e])
      rw [← hw2] at hS1
      clear hw2
      obtain ⟨hF, hM, hAl, hNx, hRa, hRb⟩ := id hS1
      have hPt := hPt0.kp (ω2 := ω') (fun b h1 h2 => hF.1 b (by omega))
      obtain ⟨fA, hA1, hA2⟩ := hAl
      obtain ⟨fB, hB1, hB2⟩ := hRb
      refine z_aload_n (i := 0) (pc := 255) C rfl rfl dX7_runs_255 ?_
      refine z_aload_n (i := 0) (pc := 256) C rfl rfl dX7_runs_256 ?_
      refine g_X7_43 (pc := 257) C hM rfl dX7_runs_257 ?_
      refine z_iload (i := 10) (pc := 260) C rfl dX7_runs_260 ?_
      refine z_ineg (pc := 262) C dX7_runs_262 ?_
      refine z_aaload (pc := 263) C hB1.1 rfl dX7_runs_263 ?_
      refine z_aload_n (i := 0) (pc := 264) C rfl rfl dX7_runs_264 ?_
      refine g_X7_34 (pc := 265) C hM rfl dX7_runs_265 ?_
      refine z_iload (i := 8) (pc := 268) C rfl dX7_runs_268 ?_
      refine z_aaload (pc := 270) C hA1.1 rfl dX7_runs_270 ?_
      refine z_aload_n (i := 0) (pc := 271) C rfl rfl dX7_runs_271 ?_
      refine g_X7_11 (pc := 272) C hM rfl dX7_runs_272 ?_
      refine z_iload_n (i := 3) (pc := 275) C rfl rfl dX7_runs_275 ?_
      refine z_aaload (pc := 276) C hPt.1 rfl dX7_runs_276 ?_
      refine z_iload (i := 9) (pc := 277) C rfl dX7_runs_277 ?_
      refine z_iaload (pc := 279) C (hPt.2 b.toNat (by omega)) dX7_runs_279 ?_
      refine z_iload (i := 4) (pc := 280) C rfl dX7_runs_280 ?_
      refine z_iload (i := 6) (pc := 282) C rfl dX7_runs_282 ?_
      refine z_isub (pc := 284) C dX7_runs_284 ?_
      rw [show (n : Int) - (t : Int) = ((n - t : Nat) : Int) by omega]
      have ekk : -((((-((u : Int) + p - s)).toNat : Nat)) : Int) = (u : Int) + p - s := by omega
      have hP2 := zP1_s (A := A) (f := (bk b.toNat)) (p := p) (v := (u : Int) + p - s) (u := u) (s := s) (by omega)
      rw [if_pos rfl] at hP2
      have hPl2 := zP1_le (p := p) (v := (u : Int) + p - s) (s := (s : Int) + 1) hA hf (show u < mo + 1 by omega) (by omega)
      have hfb := hfB (-((u : Int) + p - s)).toNat
      rw [ekk] at hfb
      have hmm2 : zP1 A (bk b.toNat) p ((u : Int) + p - s) u ((s : Int) + 1) * 1000 ^ (n - t) ≤ zs (fun u' => A u' * zwt (bk b.toNat) (u' + p - ((u : Int) + p - s))) (mo + 1) * 1000 ^ (n - t) := Int.mul_le_mul_of_nonneg_right hPl2.2 (by omega)
      have hfit2 : (if (-((u : Int) + p - s)).toNat = 0 then 0 else Bp (-((u : Int) + p - s)).toNat + zP1 A (bk b.toNat) p (-((((-((u : Int) + p - s)).toNat : Nat)) : Int)) u s * 1000 ^ (n - t)) + bk b.toNat s * A u * 1000 ^ (n - t) < 1000 ^ (n + 2) := by
        rw [if_neg (by omega), ekk, Int.add_assoc, ← Int.add_mul, ← hP2]
        omega
      refine z_callVv (pc := 285) C (c_X7_add (up := n - t) hM rfl (hB1.2 (-((u : Int) + p - s)).toNat (by omega)) (hB2 (-((u : Int) + p - s)).toNat (by omega)) (hA1.2 u (by omega)) (hA2 u (by omega)) (by omega) (by omega) (by omega) hfit2) k_X7_120 zy_X7_add rfl rfl hM rfl rfl ⟨(Nat.le_of_ble_eq_true rfl), (Nat.le_of_ble_eq_true rfl)⟩ (Nat.le_of_ble_eq_true rfl) dX7_runs_285 ⟨rfl, rfl⟩ ⟨(Nat.le_of_ble_eq_true rfl), (Nat.le_of_ble_eq_true rfl)⟩ (fun ω' hp => ?_)
      obtain ⟨g3, rfl, hg3⟩ := hp
      (try dsimp only at hg3)
      rw [if_neg (by omega), ekk, Int.add_assoc, ← Int.add_mul, ← hP2] at hg3
      have hS3 := hS1.rb (j := (-((u : Int) + p - s)).toNat) (Rb2 := (fun k => if k = 0 then 0 else Bp k + zP1 A (bk b.toNat) p (-(k : Int)) u ((s + 1 : Nat) : Int) * 1000 ^ (n - t))) (by omega) hg3 (fun i hi => by
        by_cases e : i = (-((u : Int) + p - s)).toNat
        · rw [e, va_up_self]
          (try dsimp only)
          rw [if_neg (by omega), ekk, show ((s + 1 : Nat) : Int) = (s : Int) + 1 by omega]
        · rw [va_up_ne _ _ e]
          (try dsimp only)
          by_cases e0 : i = 0
          · rw [if_pos e0, if_pos e0]
          · rw [if_neg e0, if_neg e0, show ((s + 1 : Nat) : Int) = (s : Int) + 1 by omega, zP1_s (by omega), if_neg (by omega), Int.add_zero])
      have hS2 := hS3.c (A2 := fun u => A u) (Nx2 := fun v => zP1 A (bk b.toNat) p v u ((s + 1 : Nat) : Int)) (Ra2 := (fun j => if j = t then zR1 A (bk b.toNat) p u (s + 1) * 1000 ^ (n - t) else Rp j)) (Rb2 := (fun k => if k = 0 then 0 else Bp k + zP1 A (bk b.toNat) p (-(k : Int)) u ((s + 1 : Nat) : Int) * 1000 ^ (n - t))) (fun _ _ => rfl) (fun i hi => by
        (try dsimp only)
        rw [show ((s + 1 : Nat) : Int) = (s : Int) + 1 by omega, zP1_s (by omega), if_neg (by omega), Int.add_zero]) (fun _ _ => rfl) (fun _ _ => rfl)
      refine z_iinc (i := 9) (lv' := [_, _, _, _, _, _, _, _, _, _, _]) (pc := 288) C rfl (by decide) rfl rfl dX7_runs_288 ?_
      refine z_goto (tgt := 171) (pc := 291) C dX7_runs_291 (by decide) ?_
      exact ih (s + 1) _ _ (by omega) hS2
    · refine z_aload_n (i := 0) (pc := 192) C rfl rfl dX7_runs_192 ?_
      refine z_aload_n (i := 0) (pc := 193) C rfl rfl dX7_runs_193 ?_
      refine g_X7_37 (pc := 194) C hM rfl dX7_runs_194 ?_
      refine z_iload (i := 10) (pc := 197) C rfl dX7_runs_197 ?_
      refine z_aaload (pc := 199) C hN1.1 rfl dX7_runs_199 ?_
      refine z_aload_n (i := 0) (pc := 200) C rfl rfl dX7_runs_200 ?_
      refine g_X7_34 (pc := 201) C hM rfl dX7_runs_201 ?_
      refine z_iload (i := 8) (pc := 204) C rfl dX7_runs_204 ?_
      refine z_aaload (pc := 206) C hA1.1 rfl dX7_runs_206 ?_
      refine z_aload_n (i := 0) (pc := 207) C rfl rfl dX7_runs_207 ?_
      refine g_X7_11 (pc := 208) C hM rfl dX7_runs_208 ?_
      refine z_iload_n (i := 3) (pc := 211) C rfl rfl dX7_runs_211 ?_
      refine z_aaload (pc := 212) C hPt.1 rfl dX7_runs_212 ?_
      refine z_iload (i := 9) (pc := 213) C rfl dX7_runs_213 ?_
      refine z_iaload (pc := 215) C (hPt.2 b.toNat (by omega)) dX7_runs_215 ?_
      refine z_iconst (pc := 216) C dX7_runs_216 ?_
      have hP := zP1_s (A := A) (f := (bk b.toNat)) (p := p) (v := (u : Int) + p - s) (u := u) (s := s) (by omega)
      rw [if_pos rfl] at hP
      have hPl := zP1_le (p := p) (v := (u : Int) + p - s) (s := (s : Int) + 1) hA hf (show u < mo + 1 by omega) (by omega)
      have hfn := hfN ((u : Int) + p - s)
      have evv : (((((u : Int) + p - s).toNat : Nat)) : Int) = (u : Int) + p - s := by omega
      have hfit : zP1 A (bk b.toNat) p ((((u : Int) + p - s).toNat : Nat) : Int) u s + bk b.toNat s * A u * 1000 ^ 0 < 1000 ^ (n + 2) := by
        rw [evv, e00, Int.mul_one]
        omega
      refine z_callVv (pc := 217) C (c_X7_add (up := 0) hM rfl (hN1.2 ((u : Int) + p - s).toNat (by omega)) (hN2 ((u : Int) + p - s).toNat (by omega)) (hA1.2 u (by omega)) (hA2 u (by omega)) (by omega) (by omega) (by omega) hfit) k_X7_120 zy_X7_add rfl rfl hM rfl rfl ⟨(Nat.le_of_ble_eq_true rfl), (Nat.le_of_ble_eq_true rfl)⟩ (Nat.le_of_ble_eq_true rfl) dX7_runs_217 ⟨rfl, rfl⟩ ⟨(Nat.le_of_ble_eq_true rfl), (Nat.le_of_ble_eq_true rfl)⟩ (fun ω' hp => ?_)
      obtain ⟨g2, rfl, hg2⟩ := hp
      (try dsimp only at hg2)
      rw [evv, e00, Int.mul_one, ← hP] at hg2
      have hS1 := hS0.nx (j := ((u : Int) + p - s).toNat) (Nx2 := fun v => zP1 A (bk b.toNat) p v u ((s + 1 : Nat) : Int)) (by omega) hg2 (fun i hi => by
        by_cases e : i = ((u : Int) + p - s).toNat
        · rw [e, va_up_self]
          (try dsimp only)
          rw [evv, show ((s + 1 : Nat) : Int) = (s : Int) + 1 by omega]
        · rw [va_up_ne _ _ e]
          (try dsimp only)
          rw [show ((s + 1 : Nat) : Int) = (s : Int) + 1 by omega, zP1_s (by omega), if_neg (by omega), Int.add_zero])
      have hS2 := hS1.c (A2 := fun u => A u) (Nx2 := fun v => zP1 A (bk b.toNat) p v u ((s + 1 : Nat) : Int)) (Ra2 := (fun j => if j = t then zR1 A (bk b.toNat) p u (s + 1) * 1000 ^ (n - t) else Rp j)) (Rb2 := (fun k => if k = 0 then 0 else Bp k + zP1 A (bk b.toNat) p (-(k : Int)) u ((s + 1 : Nat) : Int) * 1000 ^ (n - t))) (fun _ _ => rfl) (fun _ _ => rfl) (fun i hi => by
        (try dsimp only)
        rw [zR1_s, if_neg (show ¬ (u : Int) + p < s by omega), Int.add_zero]) (fun i hi => by
        (try dsimp only)
        by_cases e : i = 0
        · rw [if_pos e, if_pos e]
        · rw [if_neg e, if_neg e, show ((s + 1 : Nat) : Int) = (s : Int) + 1 by omega, zP1_s (by omega), if_neg (by omega), Int.add_zero])
      refine z_goto (tgt := 288) (pc := 220) C dX7_runs_220 (by decide) ?_
      refine z_iinc (i := 9) (lv' := [_, _, _, _, _, _, _, _, _, _, _]) (pc := 288) C rfl (by decide) rfl rfl dX7_runs_288 ?_
      refine z_goto (tgt := 171) (pc := 291) C dX7_runs_291 (by decide) ?_
      exact ih (s + 1) _ _ (by omega) hS2
set_option maxRecDepth 100000 in
set_option maxHeartbeats 4000000 in
theorem lp_runs6 {Γ : zG} {l0 : Launch} {X : zX} {m bh rt pu n t mo tp : Nat} {p b : Int} {bk : Nat → Int → Int} {ω0 : zWd} {A : Int → Int} {Rp Bp : Nat → Int} (C : Zc Γ l0 X rmX7_runs 11 cX7_runs RX7) (hPt0 : zMx X ω0 (m + 1) 8 21 bk) (hy : zRt bk b) (hf : zBk (bk b.toNat)) (hp0 : 0 ≤ p ∧ p ≤ 20) (ht : 1 ≤ t ∧ t ≤ n ∧ n ≤ 40) (htp : (tp : Int) = mo + p ∧ tp < 901) (hA : ∀ u : Int, 0 ≤ A u) (hfN : ∀ v : Int, zs (fun u' => A u' * zwt (bk b.toNat) (u' + p - v)) (mo + 1) < 1000 ^ (n + 1)) (hfR : zs (fun u' => A u' * zT1 (bk b.toNat) (u' + p) 21) (mo + 1) * 1000 ^ (n - t) < 1000 ^ (n + 2)) (hB0 : ∀ k : Nat, 0 ≤ Bp k) (hfB : ∀ k : Nat, Bp k + zs (fun u' => A u' * zwt (bk b.toNat) (u' + p - -(k : Int))) (mo + 1) * 1000 ^ (n - t) < 1000 ^ (n + 2)) (hmo : mo < 901) (K : ∀ (ω : zWd) (o9 o10 : Option Value), zRn X ω0 ω m bh rt (n + 2) (fun u => A u) (fun v => zP1 A (bk b.toNat) p v (mo + 1) 0) (fun j => if j = t then zR1 A (bk b.toNat) p (mo + 1) 0 * 1000 ^ (n - t) else Rp j) (fun k => if k = 0 then 0 else Bp k + zP1 A (bk b.toNat) p (-(k : Int)) (mo + 1) 0 * 1000 ^ (n - t)) (tp + 1) → Zw Γ ω 0 0 300 [some (.ref m), some (.int (zI (pu : Int))), some (.int (zI p)), some (.int (zI b)), some (.int (zI (n : Int))), some (.int (zI (mo : Int))), some (.int (zI (t : Int))), some (.int (zI (tp : Int))), some (.int (zI ((mo : Int) + 1))), o9, o10] []) : ∀ (j u : Nat) (ω : zWd) (o9 o10 : Option Value), u + j = mo + 1 → zRn X ω0 ω m bh rt (n + 2) (fun u => A u) (fun v => zP1 A (bk b.toNat) p v u 0) (fun j => if j = t then zR1 A (bk b.toNat) p u 0 * 1000 ^ (n - t) else Rp j) (fun k => if k = 0 then 0 else Bp k + zP1 A (bk b.toNat) p (-(k : Int)) u 0 * 1000 ^ (n - t)) (tp + 1) → Zw Γ ω 0 0 144 [some (.ref m), some (.int (zI (pu : Int))), some (.int (zI p)), some (.int (zI b)), some (.int (zI (n : Int))), some (.int (zI (mo : Int))), some (.int (zI (t : Int))), some (.int (zI (tp : Int))), some (.int (zI (u : Int))), o9, o10] [] := by
  intro j
  induction j with
  | zero =>
    intro u ω o9 o10 hj hS
    have e1 : u = mo + 1 := by omega
    subst e1
    have hK := K ω o9 o10 hS
    refine z_iload (i := 8) (pc := 144) C rfl dX7_runs_144 ?_
    refine z_iload (i := 5) (pc := 146) C rfl dX7_runs_146 ?_
    refine z_icmp_gt (tgt := 300) (pc := 148) C dX7_runs_148 (by decide) (fun h148 => ?_) (fun h148 => absurd h148 (by omega))
    exact hK
  | succ j ih =>
    intro u ω o9 o10 hj hS
    have hS0 := hS
    obtain ⟨hF, hM, hAl, hNx, hRa, hRb⟩ := hS
    obtain ⟨fA, hA1, hA2⟩ := hAl
    have hAu := hA u
    refine z_iload (i := 8) (pc := 144) C rfl dX7_runs_144 ?_
    refine z_iload (i := 5) (pc := 146) C rfl dX7_runs_146 ?_
    refine z_icmp_gt (tgt := 300) (pc := 148) C dX7_runs_148 (by decide) (fun h148 => absurd h148 (by omega)) (fun h148 => ?_)
    refine z_aload_n (i := 0) (pc := 151) C rfl rfl dX7_runs_151 ?_
    refine z_aload_n (i := 0) (pc := 152) C rfl rfl dX7_runs_152 ?_
    refine g_X7_34 (pc := 153) C hM rfl dX7_runs_153 ?_
    refine z_iload (i := 8) (pc := 156) C rfl dX7_runs_156 ?_
    refine z_aaload (pc := 158) C hA1.1 rfl dX7_runs_158 ?_
    refine z_callVi (pc := 159) C (c_X7_isNought (hA1.2 u (by omega)) (hA2 u (by omega))) k_X7_116 zy_X7_isNought rfl rfl hM rfl rfl ⟨(Nat.le_of_ble_eq_true rfl), (Nat.le_of_ble_eq_true rfl)⟩ (Nat.le_of_ble_eq_true rfl) dX7_runs_159 ⟨rfl, rfl⟩ ⟨(Nat.le_of_ble_eq_true rfl), (Nat.le_of_ble_eq_true rfl)⟩ (fun rv ω' hp => ?_)
    obtain ⟨hw', hnz⟩ := hp
    rw [hw']
    clear hw'
    (try dsimp only at hnz)
    refine z_if_eq (tgt := 168) (pc := 162) C dX7_runs_162 (by decide) (fun h162 => ?_) (fun h162 => ?_)
    · refine z_iconst (pc := 168) C dX7_runs_168 ?_
      refine z_istore (i := 9) (lv' := [_, _, _, _, _, _, _, _, _, _, _]) (pc := 169) C (by decide) rfl rfl dX7_runs_169 ?_
      refine lp_runs7 C hPt0 hy hf hp0 ht htp hA hfN hfR hB0 hfB (show u ≤ mo by omega) ?_ 21 0 ω _ rfl hS0
      intro ω2 o2 hS2
      refine z_iinc (i := 8) (lv' := [_, _, _, _, _, _, _, _, _, _, _]) (pc := 294) C rfl (by decide) rfl rfl dX7_runs_294 ?_
      refine z_goto (tgt := 144) (pc := 297) C dX7_runs_297 (by decide) ?_
      have e2 : ((u + 1 : Nat) : Int) = (u : Int) + 1 := by omega
      exact ih (u + 1) _ _ _ (by omega) (hS2.c (fun _ _ => rfl) (fun i hi => zP1_n) (fun i hi => by (try dsimp only); rw [zR1_n]) (fun i hi => by (try dsimp only); rw [zP1_n]))
    · refine z_goto (tgt := 294) (pc := 165) C dX7_runs_165 (by decide) ?_
      have hz : A u = 0 := by omega
      refine z_iinc (i := 8) (lv' := [_, _, _, _, _, _, _, _, _, _, _]) (pc := 294) C rfl (by decide) rfl rfl dX7_runs_294 ?_
      refine z_goto (tgt := 144) (pc := 297) C dX7_runs_297 (by decide) ?_
      have e2 : ((u + 1 : Nat) : Int) = (u : Int) + 1 := by omega
      exact ih (u + 1) _ _ _ (by omega) (hS0.c (fun _ _ => rfl) (fun i hi => zP1_z hz) (fun i hi => by (try dsimp only); rw [zR1_z (s := 0) hz]) (fun i hi => by (try dsimp only); rw [zP1_z (s := 0) hz]))
