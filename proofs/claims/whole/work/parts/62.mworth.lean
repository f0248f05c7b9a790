def zFw (m : Nat) (ω0 ω : zWd) : Prop := (∀ b : Nat, (b < m + 1945 ∨ (m + 1945 < b ∧ b < m + 2079) ∨ m + 2445 ≤ b) → ω.1 b = ω0.1 b) ∧ ω.2 = ω0.2
theorem zFw.u {m b : Nat} {ω0 ω : zWd} {x : va_E} (h : zFw m ω0 ω) (hb : b = m + 1945 ∨ (m + 2079 ≤ b ∧ b < m + 2445)) : zFw m ω0 (zU ω b x) := ⟨fun c hc => by rw [zU_n (by omega)]; exact h.1 c hc, h.2⟩
theorem zFw.o {m lo hi : Nat} {ω0 ω ω2 : zWd} (h : zFw m ω0 ω) (h2 : zOut lo hi ω ω2) (hb : m + 2079 ≤ lo ∧ hi ≤ m + 2445) : zFw m ω0 ω2 := ⟨fun c hc => by rw [h2.1 c (by omega)]; exact h.1 c hc, h2.2.trans h.2⟩
def zWs (X : zX) (ω0 ω : zWd) (m : Nat) (hw : Nat) (Wv : Nat → Int) (hl : Nat) (Lv : Nat → Int) : Prop := ∃ g2 g6 g7 : Int → Int, zFw m ω0 ω ∧ ω.1 (m + 1945) = some (zAI X 72 g2) ∧ zMw X ω (m + 2079) 181 hw Wv ∧ zMw X ω (m + 2261) 181 hl Lv ∧ ω.1 (m + 2443) = some (zAI X 72 g6) ∧ ω.1 (m + 2444) = some (zAI X 72 g7)
theorem zMw.le {X : zX} {ω : zWd} {a N hi hi2 : Nat} {V : Nat → Int} (h : zMw X ω a N hi V) (hl : hi2 ≤ hi) : zMw X ω a N hi2 V := h.imp fun _ h => ⟨h.1, fun j hj => h.2 j (by omega)⟩
theorem zWs.wx {X : zX} {ω0 ω : zWd} {m hw hl : Nat} {Wv Lv : Nat → Int} {g : Int → Int} (h : zWs X ω0 ω m hw Wv hl Lv) (hj : hw < 181) (hg : zNm g (Wv hw)) : zWs X ω0 (zU ω (m + 2079 + 1 + hw) (zAI X 72 g)) m (hw + 1) Wv hl Lv := by
  obtain ⟨g2, g6, g7, k1, k2, k3, k4, k5, k6⟩ := h
  exact ⟨g2, g6, g7, k1.u (by omega), zU_n' (by omega) k2, k3.x hj hg, k4.kp (fun b _ _ => zU_n (by omega)), zU_n' (by omega) k5, zU_n' (by omega) k6⟩
theorem zWs.lx {X : zX} {ω0 ω : zWd} {m hw hl : Nat} {Wv Lv : Nat → Int} {g : Int → Int} (h : zWs X ω0 ω m hw Wv hl Lv) (hj : hl < 181) (hg : zNm g (Lv hl)) : zWs X ω0 (zU ω (m + 2261 + 1 + hl) (zAI X 72 g)) m hw Wv (hl + 1) Lv := by
  obtain ⟨g2, g6, g7, k1, k2, k3, k4, k5, k6⟩ := h
  exact ⟨g2, g6, g7, k1.u (by omega), zU_n' (by omega) k2, k3.kp (fun b _ _ => zU_n (by omega)), k4.x hj hg, zU_n' (by omega) k5, zU_n' (by omega) k6⟩
theorem zWs.su {X : zX} {ω0 ω : zWd} {m hw hl : Nat} {Wv Lv : Nat → Int} {g : Int → Int} (h : zWs X ω0 ω m hw Wv hl Lv) : zWs X ω0 (zU ω (m + 1945) (zAI X 72 g)) m hw Wv hl Lv := by
  obtain ⟨g2, g6, g7, k1, k2, k3, k4, k5, k6⟩ := h
  exact ⟨g, g6, g7, k1.u (by omega), zU_s _ _ _, k3.kp (fun b _ _ => zU_n (by omega)), k4.kp (fun b _ _ => zU_n (by omega)), zU_n' (by omega) k5, zU_n' (by omega) k6⟩
theorem zLw_k {f V : Int → Int} {kp p u : Int} : kp * zs (fun s => f s * V (u + p - s)) 21 = zLw (zwk f kp) p V u := by
  unfold zLw
  rw [zs_z (f := fun s => zwk f kp s * V (u + p - s)) (m := 21) (by omega) (fun s a b => by (try dsimp only); rw [show zwk f kp s = 0 from if_neg (by omega), Int.zero_mul]), ← zs_mulc]
  refine zs_c (fun s a b => ?_)
  (try dsimp only)
  rw [show zwk f kp s = kp * f s from if_pos ⟨a, by omega⟩, Int.mul_assoc]
set_option maxRecDepth 100000 in
set_option maxHeartbeats 4000000 in
theorem lp_worth1 {Γ : zG} {l0 : Launch} {X : zX} {m bh rt pu n : Nat} {p b kp : Int} {ω0 : zWd} {o6 : Int} (C : Zc Γ l0 X rmX7_worth 12 cX7_worth RX7) (hM0 : ω0.1 m = some (zOb 7 (zMf m bh rt 72))) (K : ∀ ω : zWd, zWs X ω0 ω m 181 (fun u => (u : Int)) 0 (fun _ => 0) → Zw Γ ω 0 0 86 [some (.ref m), some (.int (zI (pu : Int))), some (.int (zI p)), some (.int (zI b)), some (.int (zI kp)), some (.int (zI (n : Int))), some (.int (zI o6)), some (.int (zI 181)), none, none, none, none] []) : ∀ (j i : Nat) (ω : zWd), i + j = 181 → zWs X ω0 ω m i (fun u => (u : Int)) 0 (fun _ => 0) → Zw Γ ω 0 0 59 [some (.ref m), some (.int (zI (pu : Int))), some (.int (zI p)), some (.int (zI b)), some (.int (zI kp)), some (.int (zI (n : Int))), some (.int (zI o6)), some (.int (zI (i : Int))), none, none, none, none] [] := by
  intro j
  induction j with
  | zero =>
    intro i ω hj hS
    have e1 : i = 181 := by omega
    subst e1
    have hK := K ω hS
    refine z_iload (i := 7) (pc := 59) C rfl dX7_worth_59 ?_
    refine z_sipush (pc := 61) C (by decide +kernel) dX7_worth_61 ?_
    refine z_icmp_ge (tgt := 86) (pc := 64) C dX7_worth_64 (by decide) (fun h64 => ?_) (fun h64 => absurd h64 (by omega))
    exact hK
  | succ j ih =>
    intro i ω hj hS
    obtain ⟨g2, g6, g7, k1, k2, k3, k4, k5, k6⟩ := id hS
    have hM := (k1.1 m (by omega)).trans hM0
    obtain ⟨fW, hW1, hW2⟩ := k3
    refine z_iload (i := 7) (pc := 59) C rfl dX7_worth_59 ?_
    refine z_sipush (pc := 61) C (by decide +kernel) dX7_worth_61 ?_
    refine z_icmp_ge (tgt := 86) (pc := 64) C dX7_worth_64 (by decide) (fun h64 => absurd h64 (by omega)) (fun h64 => ?_)
    refine z_aload_n (i := 0) (pc := 67) C rfl rfl dX7_worth_67 ?_
    refine g_X7_64 (pc := 68) C hM rfl dX7_worth_68 ?_
    refine z_iload (i := 7) (pc := 71) C rfl dX7_worth_71 ?_
    refine z_aaload (pc := 73) C hW1.1 rfl dX7_worth_73 ?_
    refine z_iload (i := 7) (pc := 74) C rfl dX7_worth_74 ?_
    refine z_iconst (pc := 76) C dX7_worth_76 ?_
    refine z_callSv (pc := 77) C (c_X7_set_ (up := 0) (hW1.2 i (by omega)) (by omega) (by omega)) k_X7_151 zy_X7_set_.2 rfl rfl ⟨(Nat.le_of_ble_eq_true rfl), (Nat.le_of_ble_eq_true rfl)⟩ (Nat.le_of_ble_eq_true rfl) dX7_worth_77 ⟨rfl, rfl⟩ ⟨(Nat.le_of_ble_eq_true rfl), (Nat.le_of_ble_eq_true rfl)⟩ (fun ω' hp => ?_)
    obtain ⟨ga, rfl, hga⟩ := hp
    refine z_iinc (i := 7) (lv' := [_, _, _, _, _, _, _, _, _, _, _, _]) (pc := 80) C rfl (by decide) rfl rfl dX7_worth_80 ?_
    refine z_goto (tgt := 59) (pc := 83) C dX7_worth_83 (by decide) ?_
    exact ih (i + 1) _ (by omega) (hS.wx (by omega) (hga.e (by rw [Int.pow_zero, Int.mul_one])))
set_option maxRecDepth 100000 in
set_option maxHeartbeats 4000000 in
theorem lp_worth4 {Γ : zG} {l0 : Launch} {X : zX} {m bh rt pu n : Nat} {p b kp : Int} {bk : Nat → Int → Int} {ω0 : zWd} {ω1 : zWd} {V : Int → Int} {hw u : Nat} {o6 o7 o8 : Int} (C : Zc Γ l0 X rmX7_worth 12 cX7_worth RX7) (hM0 : ω0.1 m = some (zOb 7 (zMf m bh rt 72))) (hPt0 : zMx X ω0 (m + 1) 8 21 bk) (hy : zRt bk b) (hf : zBk (bk b.toNat)) (hp0 : 0 ≤ p ∧ p ≤ 20) (hk0 : 0 ≤ kp ∧ kp ≤ 1000) (hpu : pu ≤ 60) (hn : n ≤ 6) (hF1 : zFw m ω0 ω1) (hW1 : zMw X ω1 (m + 2079) 181 hw (fun u => V u)) (hup : (u : Int) + p < hw ∧ hw ≤ 181) (hV0 : ∀ v : Int, v < 0 → V v = 0) (hVb : ∀ v : Int, v < hw → 0 ≤ V v ∧ V v ≤ 1000 ^ 13) (K : ∀ (g : Int → Int) (o11 : Option Value), zNm g (zs (fun s => (bk b.toNat) s * V ((u : Int) + p - s)) 21) → Zw Γ (zU ω1 (m + 1945) (zAI X 72 g)) 0 0 179 [some (.ref m), some (.int (zI (pu : Int))), some (.int (zI p)), some (.int (zI b)), some (.int (zI kp)), some (.int (zI (n : Int))), some (.int (zI o6)), some (.int (zI o7)), some (.int (zI o8)), some (.int (zI (u : Int))), some (.int (zI 21)), o11] []) : ∀ (j s : Nat) (g : Int → Int) (o11 : Option Value), s + j = 21 → zNm g (zs (fun s => (bk b.toNat) s * V ((u : Int) + p - s)) s) → Zw Γ (zU ω1 (m + 1945) (zAI X 72 g)) 0 0 127 [some (.ref m), some (.int (zI (pu : Int))), some (.int (zI p)), some (.int (zI b)), some (.int (zI kp)), some (.int (zI (n : Int))), some (.int (zI o6)), some (.int (zI o7)), some (.int (zI o8)), some (.int (zI (u : Int))), some (.int (zI (s : Int))), o11] [] := by
  obtain ⟨b0, b1, bs⟩ := id hy
  have hM := (hF1.1 m (by omega)).trans hM0
  have hPt := hPt0.kp (ω2 := ω1) (fun b h1 h2 => hF1.1 b (by omega))
  obtain ⟨fW, hW1, hW2⟩ := hW1
  have e00 : (1000 : Int) ^ 0 = 1 := rfl
  have h72 : (1000 : Int) * 1000 ^ 13 < 1000 ^ 72 := by decide
  intro j
  induction j with
  | zero =>
    intro s g o11 hj hg
    have e1 : s = 21 := by omega
    subst e1
    have hK := K g o11 hg
    refine z_iload (i := 10) (pc := 127) C rfl dX7_worth_127 ?_
    refine z_bipush (pc := 129) C (by decide +kernel) dX7_worth_129 ?_
    refine z_icmp_ge (tgt := 179) (pc := 131) C dX7_worth_131 (by decide) (fun h131 => ?_) (fun h131 => absurd h131 (by omega))
    exact hK
  | succ j ih =>
    intro s g o11 hj hg
    have hfs := hf s (by omega) (by omega)
    have es : (zs (fun s => (bk b.toNat) s * V ((u : Int) + p - s)) (s + 1)) = (zs (fun s => (bk b.toNat) s * V ((u : Int) + p - s)) s) + (bk b.toNat) s * V ((u : Int) + p - s) := rfl
    have hb1 := zs_m (w := (bk b.toNat)) (S := fun s => V ((u : Int) + p - s)) (B := 1000 ^ 13) (n := s + 1) (fun k a c => ⟨(hf k a (by omega)).1, hVb _ (by omega)⟩)
    have hfm : zs (bk b.toNat) (s + 1) ≤ 1000 := by
      rw [← bs]
      exact zs_mono (by omega) (fun k a c => (hf k (by omega) (by omega)).1)
    have hb2 : zs (bk b.toNat) (s + 1) * 1000 ^ 13 ≤ 1000 * 1000 ^ 13 := Int.mul_le_mul_of_nonneg_right hfm (by decide)
    refine z_iload (i := 10) (pc := 127) C rfl dX7_worth_127 ?_
    refine z_bipush (pc := 129) C (by decide +kernel) dX7_worth_129 ?_
    refine z_icmp_ge (tgt := 179) (pc := 131) C dX7_worth_131 (by decide) (fun h131 => absurd h131 (by omega)) (fun h131 => ?_)
    refine z_iload (i := 9) (pc := 134) C rfl dX7_worth_134 ?_
    refine z_iload_n (i := 2) (pc := 136) C rfl rfl dX7_worth_136 ?_
    refine z_iadd (pc := 137) C dX7_worth_137 ?_
    refine z_iload (i := 10) (pc := 138) C rfl dX7_worth_138 ?_
    refine z_isub (pc := 140) C dX7_worth_140 ?_
    refine z_istore (i := 11) (lv' := [_, _, _, _, _, _, _, _, _, _, _, _]) (pc := 141) C (by decide) rfl rfl dX7_worth_141 ?_
    refine z_iload (i := 11) (pc := 143) C rfl dX7_worth_143 ?_
    refine z_if_lt (tgt := 173) (pc := 145) C dX7_worth_145 (by decide) (fun h145 => ?_) (fun h145 => ?_)
    · have hgo := ih (s + 1) g (some (.int (zI ((u : Int) + p - s)))) (by omega) (hg.e (by rw [es, hV0 _ (by omega), Int.mul_zero, Int.add_zero]))
      refine z_iinc (i := 10) (lv' := [_, _, _, _, _, _, _, _, _, _, _, _]) (pc := 173) C rfl (by decide) rfl rfl dX7_worth_173 ?_
      refine z_goto (tgt := 127) (pc := 176) C dX7_worth_176 (by decide) ?_
      exact hgo
    · have evv : (((((u : Int) + p - s).toNat : Nat)) : Int) = (u : Int) + p - s := by omega
      refine z_aload_n (i := 0) (pc := 148) C rfl rfl dX7_worth_148 ?_
      refine z_aload_n (i := 0) (pc := 149) C rfl rfl dX7_worth_149 ?_
      refine g_X7_46 (pc := 150) C (zU_n' (by omega) hM) rfl dX7_worth_150 ?_
      refine z_aload_n (i := 0) (pc := 153) C rfl rfl dX7_worth_153 ?_
      refine g_X7_64 (pc := 154) C (zU_n' (by omega) hM) rfl dX7_worth_154 ?_
      refine z_iload (i := 11) (pc := 157) C rfl dX7_worth_157 ?_
      refine z_aaload (pc := 159) C (zU_n' (by omega) hW1.1) rfl dX7_worth_159 ?_
      refine z_aload_n (i := 0) (pc := 160) C rfl rfl dX7_worth_160 ?_
      refine g_X7_11 (pc := 161) C (zU_n' (by omega) hM) rfl dX7_worth_161 ?_
      refine z_iload_n (i := 3) (pc := 164) C rfl rfl dX7_worth_164 ?_
      refine z_aaload (pc := 165) C (zU_n' (by omega) hPt.1) rfl dX7_worth_165 ?_
      refine z_iload (i := 10) (pc := 166) C rfl dX7_worth_166 ?_
      refine z_iaload (pc := 168) C (zU_n' (by omega) (hPt.2 b.toNat (by omega))) dX7_worth_168 ?_
      refine z_iconst (pc := 169) C dX7_worth_169 ?_
      refine z_callVv (pc := 170) C (c_X7_add (up := 0) (sp := 72) (zU_n' (by omega) hM) rfl (zU_s _ _ _) hg (zU_n' (by omega) (hW1.2 ((u : Int) + p - s).toNat (by omega))) (hW2 ((u : Int) + p - s).toNat (by omega)) (by omega) (by omega) (by omega) (by (try dsimp only); rw [evv, e00, Int.mul_one, ← es]; omega)) k_X7_120 zy_X7_add rfl rfl (zU_n' (by omega) hM) rfl rfl ⟨(Nat.le_of_ble_eq_true rfl), (Nat.le_of_ble_eq_true rfl)⟩ (Nat.le_of_ble_eq_true rfl) dX7_worth_170 ⟨rfl, rfl⟩ ⟨(Nat.le_of_ble_eq_true rfl), (Nat.le_of_ble_eq_true rfl)⟩ (fun ω' hp => ?_)
      obtain ⟨ga, rfl, hga⟩ := hp
      rw [zU_u]
      (try dsimp only at hga)
      rw [evv, e00, Int.mul_one, ← es] at hga
      have hgo := ih (s + 1) ga (some (.int (zI ((u : Int) + p - s)))) (by omega) hga
      refine z_iinc (i := 10) (lv' := [_, _, _, _, _, _, _, _, _, _, _, _]) (pc := 173) C rfl (by decide) rfl rfl dX7_worth_173 ?_
      refine z_goto (tgt := 127) (pc := 176) C dX7_worth_176 (by decide) ?_
      exact hgo
set_option maxRecDepth 100000 in
set_option maxHeartbeats 4000000 in
theorem lp_worth3 {Γ : zG} {l0 : Launch} {X : zX} {m bh rt pu n : Nat} {p b kp : Int} {bk : Nat → Int → Int} {ω0 : zWd} {V : Int → Int} {hw mo : Nat} {o6 o7 : Int} (C : Zc Γ l0 X rmX7_worth 12 cX7_worth RX7) (hM0 : ω0.1 m = some (zOb 7 (zMf m bh rt 72))) (hPt0 : zMx X ω0 (m + 1) 8 21 bk) (hy : zRt bk b) (hf : zBk (bk b.toNat)) (hp0 : 0 ≤ p ∧ p ≤ 20) (hk0 : 0 ≤ kp ∧ kp ≤ 1000) (hpu : pu ≤ 60) (hn : n ≤ 6) (hmo : (mo : Int) + p < hw ∧ hw ≤ 181) (hV0 : ∀ v : Int, v < 0 → V v = 0) (hVb : ∀ v : Int, v < hw → 0 ≤ V v ∧ V v ≤ 1000 ^ 13) (K : ∀ (ω : zWd) (o10 o11 : Option Value), zWs X ω0 ω m hw (fun u => V u) (mo + 1) (fun k => zLw (zwk (bk b.toNat) kp) p V (k : Int)) → Zw Γ ω 0 0 213 [some (.ref m), some (.int (zI (pu : Int))), some (.int (zI p)), some (.int (zI b)), some (.int (zI kp)), some (.int (zI (n : Int))), some (.int (zI o6)), some (.int (zI o7)), some (.int (zI (mo : Int))), some (.int (zI ((mo + 1 : Nat) : Int))), o10, o11] []) : ∀ (j u : Nat) (ω : zWd) (o10 o11 : Option Value), u + j = mo + 1 → zWs X ω0 ω m hw (fun u => V u) u (fun k => zLw (zwk (bk b.toNat) kp) p V (k : Int)) → Zw Γ ω 0 0 110 [some (.ref m), some (.int (zI (pu : Int))), some (.int (zI p)), some (.int (zI b)), some (.int (zI kp)), some (.int (zI (n : Int))), some (.int (zI o6)), some (.int (zI o7)), some (.int (zI (mo : Int))), some (.int (zI (u : Int))), o10, o11] [] := by
  obtain ⟨b0, b1, bs⟩ := id hy
  have e00 : (1000 : Int) ^ 0 = 1 := rfl
  have h72 : (1000 : Int) * (1000 * 1000 ^ 13) < 1000 ^ 72 := by decide
  intro j
  induction j with
  | zero =>
    intro u ω o10 o11 hj hS
    have e1 : u = mo + 1 := by omega
    subst e1
    have hK := K ω o10 o11 hS
    refine z_iload (i := 9) (pc := 110) C rfl dX7_worth_110 ?_
    refine z_iload (i := 8) (pc := 112) C rfl dX7_worth_112 ?_
    refine z_icmp_gt (tgt := 213) (pc := 114) C dX7_worth_114 (by decide) (fun h114 => ?_) (fun h114 => absurd h114 (by omega))
    exact hK
  | succ j ih =>
    intro u ω o10 o11 hj hS
    obtain ⟨g2, g6, g7, k1, k2, k3, k4, k5, k6⟩ := id hS
    have hM := (k1.1 m (by omega)).trans hM0
    obtain ⟨fL, hL1, hL2⟩ := k4
    have hb1 := zs_m (w := (bk b.toNat)) (S := fun s => V ((u : Int) + p - s)) (B := 1000 ^ 13) (n := 21) (fun k a c => ⟨(hf k a (by omega)).1, hVb _ (by omega)⟩)
    rw [bs] at hb1
    have hkb : kp * (zs (fun s => (bk b.toNat) s * V ((u : Int) + p - s)) 21) ≤ 1000 * (1000 * 1000 ^ 13) := Int.mul_le_mul hk0.2 hb1.2 hb1.1 (by decide)
    refine z_iload (i := 9) (pc := 110) C rfl dX7_worth_110 ?_
    refine z_iload (i := 8) (pc := 112) C rfl dX7_worth_112 ?_
    refine z_icmp_gt (tgt := 213) (pc := 114) C dX7_worth_114 (by decide) (fun h114 => absurd h114 (by omega)) (fun h114 => ?_)
    refine z_aload_n (i := 0) (pc := 117) C rfl rfl dX7_worth_117 ?_
    refine g_X7_46 (pc := 118) C hM rfl dX7_worth_118 ?_
    refine z_callSv (pc := 121) C (c_X7_zero k2) k_X7_112 zy_X7_zero.2 rfl rfl ⟨(Nat.le_of_ble_eq_true rfl), (Nat.le_of_ble_eq_true rfl)⟩ (Nat.le_of_ble_eq_true rfl) dX7_worth_121 ⟨rfl, rfl⟩ ⟨(Nat.le_of_ble_eq_true rfl), (Nat.le_of_ble_eq_true rfl)⟩ (fun ω' hp => ?_)
    obtain ⟨gz, rfl, hgz⟩ := hp
    refine z_iconst (pc := 124) C dX7_worth_124 ?_
    refine z_istore (i := 10) (lv' := [_, _, _, _, _, _, _, _, _, _, _, _]) (pc := 125) C (by decide) rfl rfl dX7_worth_125 ?_
    refine lp_worth4 C hM0 hPt0 hy hf hp0 hk0 hpu hn k1 k3 (by omega) hV0 hVb ?_ 21 0 gz _ rfl hgz
    intro gs os hgs
    refine z_aload_n (i := 0) (pc := 179) C rfl rfl dX7_worth_179 ?_
    refine g_X7_67 (pc := 180) C (zU_n' (by omega) hM) rfl dX7_worth_180 ?_
    refine z_iload (i := 9) (pc := 183) C rfl dX7_worth_183 ?_
    refine z_aaload (pc := 185) C (zU_n' (by omega) hL1.1) rfl dX7_worth_185 ?_
    refine z_callSv (pc := 186) C (c_X7_zero (zU_n' (by omega) (hL1.2 u (by omega)))) k_X7_112 zy_X7_zero.2 rfl rfl ⟨(Nat.le_of_ble_eq_true rfl), (Nat.le_of_ble_eq_true rfl)⟩ (Nat.le_of_ble_eq_true rfl) dX7_worth_186 ⟨rfl, rfl⟩ ⟨(Nat.le_of_ble_eq_true rfl), (Nat.le_of_ble_eq_true rfl)⟩ (fun ω' hp => ?_)
    obtain ⟨ga, rfl, hga⟩ := hp
    refine z_aload_n (i := 0) (pc := 189) C rfl rfl dX7_worth_189 ?_
    refine z_aload_n (i := 0) (pc := 190) C rfl rfl dX7_worth_190 ?_
    refine g_X7_67 (pc := 191) C (zU_n' (by omega) (zU_n' (by omega) hM)) rfl dX7_worth_191 ?_
    refine z_iload (i := 9) (pc := 194) C rfl dX7_worth_194 ?_
    refine z_aaload (pc := 196) C (zU_n' (by omega) (zU_n' (by omega) hL1.1)) rfl dX7_worth_196 ?_
    refine z_aload_n (i := 0) (pc := 197) C rfl rfl dX7_worth_197 ?_
    refine g_X7_46 (pc := 198) C (zU_n' (by omega) (zU_n' (by omega) hM)) rfl dX7_worth_198 ?_
    refine z_iload (i := 4) (pc := 201) C rfl dX7_worth_201 ?_
    refine z_iconst (pc := 203) C dX7_worth_203 ?_
    refine z_callVv (pc := 204) C (c_X7_add (up := 0) (sp := 72) (zU_n' (by omega) (zU_n' (by omega) hM)) rfl (zU_s _ _ _) hga (zU_n' (by omega) (zU_s _ _ _)) hgs (by omega) (by omega) (by omega) (by rw [e00, Int.mul_one]; omega)) k_X7_120 zy_X7_add rfl rfl (zU_n' (by omega) (zU_n' (by omega) hM)) rfl rfl ⟨(Nat.le_of_ble_eq_true rfl), (Nat.le_of_ble_eq_true rfl)⟩ (Nat.le_of_ble_eq_true rfl) dX7_worth_204 ⟨rfl, rfl⟩ ⟨(Nat.le_of_ble_eq_true rfl), (Nat.le_of_ble_eq_true rfl)⟩ (fun ω' hp => ?_)
    obtain ⟨gb, rfl, hgb⟩ := hp
    rw [zU_u]
    rw [e00, Int.mul_one, Int.zero_add, zLw_k] at hgb
    have hgo := ih (u + 1) _ (some (.int (zI 21))) os (by omega) ((hS.su (g := gs)).lx (g := gb) (by omega) hgb)
    refine z_iinc (i := 9) (lv' := [_, _, _, _, _, _, _, _, _, _, _, _]) (pc := 207) C rfl (by decide) rfl rfl dX7_worth_207 ?_
    refine z_goto (tgt := 110) (pc := 210) C dX7_worth_210 (by decide) ?_
    exact hgo
