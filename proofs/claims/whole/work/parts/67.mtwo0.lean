/-! THE MODEL'S TWO: its tables of pairs -/
def rtX7_two (c : Nat) : Room := { frames := 3, cells := 3698 - c, slots := 72 * (3698 - c), locals := 65 }
theorem zLo.rf {m : Nat} {ω : zWd} : zLo m ω ω := fun _ _ => rfl
theorem zLo.u {m b : Nat} {ω0 ω : zWd} {x : va_E} (h : zLo m ω0 ω) (hb : m + 2445 ≤ b) : zLo m ω0 (zU ω b x) := fun c hc => by rw [zU_n (by omega)]; exact h c hc
theorem zLo.tr {m : Nat} {ω0 ω ω2 : zWd} (h : zLo m ω0 ω) (h2 : zLo m ω ω2) : zLo m ω0 ω2 := fun c hc => (h2 c hc).trans (h c hc)
theorem zLo.o {m lo hi : Nat} {ω0 ω ω2 : zWd} (h : zLo m ω0 ω) (h2 : zOut lo hi ω ω2) (hl : m + 2445 ≤ lo) : zLo m ω0 ω2 := fun c hc => (h2.1 c (by omega)).trans (h c hc)
theorem zPr.h {X : zX} {ω : zWd} {m c hi hi2 : Nat} {V : Nat → Int} (h : zPr X ω m c hi V) (e : hi2 = hi) : zPr X ω m c hi2 V := e ▸ h
theorem zPr.x2 {X : zX} {ω : zWd} {m c hi hi2 : Nat} {V : Nat → Int} {g : Int → Int} (h : zPr X ω m c hi V) (hc : hi < c) (hg : zNm g (V hi)) (e : hi2 = hi + 1) : zPr X (zU ω (m + 2446 + hi) (zAI X 72 g)) m c hi2 V := e ▸ h.x hc hg
/-- what stands on side 0, weighed -/
def zP0 (V : Nat → Int) (h : Int → Int → Int) : Int := zs (fun k => V k.toNat * h (k / 43) (k % 43)) 1849
set_option maxRecDepth 100000 in
set_option maxHeartbeats 4000000 in
theorem lz_two0i {Γ : zG} {l0 : Launch} {X : zX} {m bh rt n a e p q c0 : Nat} {wh b b2 gv : Int} {ω0 : zWd} {x : Nat} {V : Nat → Int} {o12 : Option Value} (C : Zc Γ l0 X (rtX7_two c0) 13 cX7_two RX7) (hM0 : ω0.1 m = some (zOb 7 (zMf m bh rt 72))) (hx : x < 43) (hV : ∀ k : Nat, V k = 0) (K : ∀ (ω : zWd) (c : Nat), zLo m ω0 ω → zPr X ω m c ((x + 1) * 43 + 0) V → (((x + 1) * 43 + 0) ≤ c ∧ c0 ≤ c ∧ c ≤ 3698) → Zw Γ ω (c - c0) (72 * (c - c0)) 136 [some (.ref m), some (.int (zI wh)), some (.int (zI b)), some (.int (zI b2)), some (.int (zI (n : Int))), some (.int (zI gv)), some (.int (zI (a : Int))), some (.int (zI (e : Int))), some (.int (zI (p : Int))), some (.int (zI (q : Int))), some (.int (zI (x : Int))), some (.int (zI 43)), o12] []) : ∀ (j y : Nat) (ω : zWd) (c : Nat), y + j = 43 → zLo m ω0 ω → zPr X ω m c (x * 43 + y) V → ((x * 43 + y) ≤ c ∧ c0 ≤ c ∧ c ≤ 3698) → Zw Γ ω (c - c0) (72 * (c - c0)) 111 [some (.ref m), some (.int (zI wh)), some (.int (zI b)), some (.int (zI b2)), some (.int (zI (n : Int))), some (.int (zI gv)), some (.int (zI (a : Int))), some (.int (zI (e : Int))), some (.int (zI (p : Int))), some (.int (zI (q : Int))), some (.int (zI (x : Int))), some (.int (zI (y : Int))), o12] [] := by
  intro j
  induction j with
  | zero =>
    intro y ω c hj hL hP hb
    have e1 : y = 43 := by omega
    subst e1
    have hK := K ω c hL (hP.h (by omega)) (by omega)
    refine z_iload (i := 11) (pc := 111) C rfl dX7_two_111 ?_
    refine z_bipush (pc := 113) C (by decide +kernel) dX7_two_113 ?_
    refine z_icmp_ge (tgt := 136) (pc := 115) C dX7_two_115 (by decide) (fun h115 => ?_) (fun h115 => absurd h115 (by omega))
    exact hK
  | succ j ih =>
    intro y ω c hj hL hP hb
    have hM := (hL m (by omega)).trans hM0
    refine z_iload (i := 11) (pc := 111) C rfl dX7_two_111 ?_
    refine z_bipush (pc := 113) C (by decide +kernel) dX7_two_113 ?_
    refine z_icmp_ge (tgt := 136) (pc := 115) C dX7_two_115 (by decide) (fun h115 => absurd h115 (by omega)) (fun h115 => ?_)
    refine z_aload_n (i := 0) (pc := 118) C rfl rfl dX7_two_118 ?_
    refine z_iconst (pc := 119) C dX7_two_119 ?_
    refine z_iload (i := 10) (pc := 120) C rfl dX7_two_120 ?_
    refine z_iload (i := 11) (pc := 122) C rfl dX7_two_122 ?_
    rcases Nat.lt_or_ge (x * 43 + y) c with hkc | hkc
    · refine z_callVr (pc := 124) C (d_X7_pair0 hM (by omega) hP (x * 43 + y) hkc (by omega)) k_X7_170 zy_X7_pair rfl rfl hM rfl rfl ⟨(Nat.le_of_ble_eq_true rfl), (Nat.le_of_ble_eq_true rfl)⟩ (Nat.le_of_ble_eq_true rfl) dX7_two_124 ⟨rfl, rfl⟩ ⟨by show _ ≤ 3698 - c0; omega, by show _ ≤ 72 * (3698 - c0); omega⟩ (fun rv ω' hp => ?_)
      obtain ⟨hw', hq'⟩ := hp
      rw [hw', hq']
      clear hw' hq'
      obtain ⟨c', hc'⟩ : ∃ c' : Nat, c' = c := ⟨_, rfl⟩
      rw [← hc'] at hP ⊢
      have hL2 := hL
      have hP2 := hP
      obtain ⟨hh, ff, p1, p2, p3, p4, p5, p6⟩ := id hP2
      refine z_callSv (pc := 127) C (c_X7_zero (p4 (x * 43 + y) (by omega))) k_X7_112 zy_X7_zero.2 rfl rfl ⟨(Nat.le_of_ble_eq_true rfl), (Nat.le_of_ble_eq_true rfl)⟩ (Nat.le_of_ble_eq_true rfl) dX7_two_127 ⟨rfl, rfl⟩ ⟨by show _ ≤ 3698 - c0; omega, by show _ ≤ 72 * (3698 - c0); omega⟩ (fun ω' hp => ?_)
      obtain ⟨g2, rfl, hg2⟩ := hp
      refine z_iinc (i := 11) (lv' := [_, _, _, _, _, _, _, _, _, _, _, _, _]) (pc := 130) C rfl (by decide) rfl rfl dX7_two_130 ?_
      refine z_goto (tgt := 111) (pc := 133) C dX7_two_133 (by decide) ?_
      exact ih (y + 1) _ c' (by omega) (hL2.u (by omega)) (hP2.x2 (by omega) (hg2.e (hV _).symm) (by omega)) (by omega)
    · have ec : c = (x * 43 + y) := by omega
      subst ec
      refine z_callVrA (pc := 124) (mc := 1) (ms := 72) C (d_X7_pair1 hM (by omega) hP (Nat.le_refl _) (by omega) (by omega)) k_X7_170 zy_X7_pair rfl rfl hM rfl rfl ⟨(Nat.le_of_ble_eq_true rfl), (Nat.le_of_ble_eq_true rfl)⟩ (Nat.le_of_ble_eq_true rfl) dX7_two_124 ⟨rfl, rfl⟩ ⟨by show _ ≤ 3698 - c0; omega, by show _ ≤ 72 * (3698 - c0); omega⟩ (fun rv ω' hp => ?_)
      obtain ⟨hq', hl', hP2⟩ := hp
      rw [hq', show (x * 43 + y) - c0 + 1 = (x * 43 + y) + 1 - c0 by omega, show 72 * ((x * 43 + y) - c0) + 72 = 72 * ((x * 43 + y) + 1 - c0) by omega]
      clear hq'
      obtain ⟨c', hc'⟩ : ∃ c' : Nat, c' = (x * 43 + y) + 1 := ⟨_, rfl⟩
      rw [← hc'] at hP2 ⊢
      have hL2 := hL.tr hl'
      obtain ⟨hh, ff, p1, p2, p3, p4, p5, p6⟩ := id hP2
      refine z_callSv (pc := 127) C (c_X7_zero (p4 (x * 43 + y) (by omega))) k_X7_112 zy_X7_zero.2 rfl rfl ⟨(Nat.le_of_ble_eq_true rfl), (Nat.le_of_ble_eq_true rfl)⟩ (Nat.le_of_ble_eq_true rfl) dX7_two_127 ⟨rfl, rfl⟩ ⟨by show _ ≤ 3698 - c0; omega, by show _ ≤ 72 * (3698 - c0); omega⟩ (fun ω' hp => ?_)
      obtain ⟨g2, rfl, hg2⟩ := hp
      refine z_iinc (i := 11) (lv' := [_, _, _, _, _, _, _, _, _, _, _, _, _]) (pc := 130) C rfl (by decide) rfl rfl dX7_two_130 ?_
      refine z_goto (tgt := 111) (pc := 133) C dX7_two_133 (by decide) ?_
      exact ih (y + 1) _ c' (by omega) (hL2.u (by omega)) (hP2.x2 (by omega) (hg2.e (hV _).symm) (by omega)) (by omega)
set_option maxRecDepth 100000 in
set_option maxHeartbeats 4000000 in
theorem lz_two0 {Γ : zG} {l0 : Launch} {X : zX} {m bh rt n a e p q c0 : Nat} {wh b b2 gv : Int} {ω0 : zWd} {V : Nat → Int} {o12 : Option Value} (C : Zc Γ l0 X (rtX7_two c0) 13 cX7_two RX7) (hM0 : ω0.1 m = some (zOb 7 (zMf m bh rt 72))) (hV : ∀ k : Nat, V k = 0) (K : ∀ (ω : zWd) (c : Nat) (oy : Option Value), zLo m ω0 ω → zPr X ω m c 1849 V → (1849 ≤ c ∧ c0 ≤ c ∧ c ≤ 3698) → Zw Γ ω (c - c0) (72 * (c - c0)) 142 [some (.ref m), some (.int (zI wh)), some (.int (zI b)), some (.int (zI b2)), some (.int (zI (n : Int))), some (.int (zI gv)), some (.int (zI (a : Int))), some (.int (zI (e : Int))), some (.int (zI (p : Int))), some (.int (zI (q : Int))), some (.int (zI 43)), oy, o12] []) : ∀ (j x : Nat) (ω : zWd) (c : Nat) (oy : Option Value), x + j = 43 → zLo m ω0 ω → zPr X ω m c (x * 43 + 0) V → ((x * 43 + 0) ≤ c ∧ c0 ≤ c ∧ c ≤ 3698) → Zw Γ ω (c - c0) (72 * (c - c0)) 101 [some (.ref m), some (.int (zI wh)), some (.int (zI b)), some (.int (zI b2)), some (.int (zI (n : Int))), some (.int (zI gv)), some (.int (zI (a : Int))), some (.int (zI (e : Int))), some (.int (zI (p : Int))), some (.int (zI (q : Int))), some (.int (zI (x : Int))), oy, o12] [] := by
  intro j
  induction j with
  | zero =>
    intro x ω c oy hj hL hP hb
    have e1 : x = 43 := by omega
    subst e1
    have hK := K ω c oy hL (hP.h (by omega)) (by omega)
    refine z_iload (i := 10) (pc := 101) C rfl dX7_two_101 ?_
    refine z_bipush (pc := 103) C (by decide +kernel) dX7_two_103 ?_
    refine z_icmp_ge (tgt := 142) (pc := 105) C dX7_two_105 (by decide) (fun h105 => ?_) (fun h105 => absurd h105 (by omega))
    exact hK
  | succ j ih =>
    intro x ω c oy hj hL hP hb
    refine z_iload (i := 10) (pc := 101) C rfl dX7_two_101 ?_
    refine z_bipush (pc := 103) C (by decide +kernel) dX7_two_103 ?_
    refine z_icmp_ge (tgt := 142) (pc := 105) C dX7_two_105 (by decide) (fun h105 => absurd h105 (by omega)) (fun h105 => ?_)
    refine z_iconst (pc := 108) C dX7_two_108 ?_
    refine z_istore (i := 11) (lv' := [_, _, _, _, _, _, _, _, _, _, _, _, _]) (pc := 109) C (by decide) rfl rfl dX7_two_109 ?_
    refine lz_two0i C hM0 (show x < 43 by omega) hV ?_ 43 0 ω c (by omega) hL (hP.h (by omega)) (by omega)
    intro ω2 c2 hL2 hP2 hb2
    have hgo := ih (x + 1) ω2 c2 (some (.int (zI 43))) (by omega) hL2 hP2 hb2
    refine z_iinc (i := 10) (lv' := [_, _, _, _, _, _, _, _, _, _, _, _, _]) (pc := 136) C rfl (by decide) rfl rfl dX7_two_136 ?_
    refine z_goto (tgt := 101) (pc := 139) C dX7_two_139 (by decide) ?_
    exact hgo
set_option maxRecDepth 100000 in
set_option maxHeartbeats 4000000 in
theorem lz_two1i {Γ : zG} {l0 : Launch} {X : zX} {m bh rt n a e p q c0 : Nat} {wh b b2 gv : Int} {ω0 : zWd} {x : Nat} {V : Nat → Int} {o10 : Int} (C : Zc Γ l0 X (rtX7_two c0) 13 cX7_two RX7) (hM0 : ω0.1 m = some (zOb 7 (zMf m bh rt 72))) (hx : x < 43) (hV : ∀ k : Nat, 1849 ≤ k → V k = 0) (K : ∀ (ω : zWd) (c : Nat), zLo m ω0 ω → zPr X ω m c (1849 + ((x + 1) * 43 + 0)) V → ((1849 + ((x + 1) * 43 + 0)) ≤ c ∧ c0 ≤ c ∧ c ≤ 3698) → Zw Γ ω (c - c0) (72 * (c - c0)) 202 [some (.ref m), some (.int (zI wh)), some (.int (zI b)), some (.int (zI b2)), some (.int (zI (n : Int))), some (.int (zI gv)), some (.int (zI (a : Int))), some (.int (zI (e : Int))), some (.int (zI (p : Int))), some (.int (zI (q : Int))), some (.int (zI o10)), some (.int (zI (x : Int))), some (.int (zI 43))] []) : ∀ (j y : Nat) (ω : zWd) (c : Nat), y + j = 43 → zLo m ω0 ω → zPr X ω m c (1849 + (x * 43 + y)) V → ((1849 + (x * 43 + y)) ≤ c ∧ c0 ≤ c ∧ c ≤ 3698) → Zw Γ ω (c - c0) (72 * (c - c0)) 177 [some (.ref m), some (.int (zI wh)), some (.int (zI b)), some (.int (zI b2)), some (.int (zI (n : Int))), some (.int (zI gv)), some (.int (zI (a : Int))), some (.int (zI (e : Int))), some (.int (zI (p : Int))), some (.int (zI (q : Int))), some (.int (zI o10)), some (.int (zI (x : Int))), some (.int (zI (y : Int)))] [] := by
  intro j
  induction j with
  | zero =>
    intro y ω c hj hL hP hb
    have e1 : y = 43 := by omega
    subst e1
    have hK := K ω c hL (hP.h (by omega)) (by omega)
    refine z_iload (i := 12) (pc := 177) C rfl dX7_two_177 ?_
    refine z_bipush (pc := 179) C (by decide +kernel) dX7_two_179 ?_
    refine z_icmp_ge (tgt := 202) (pc := 181) C dX7_two_181 (by decide) (fun h181 => ?_) (fun h181 => absurd h181 (by omega))
    exact hK
  | succ j ih =>
    intro y ω c hj hL hP hb
    have hM := (hL m (by omega)).trans hM0
    refine z_iload (i := 12) (pc := 177) C rfl dX7_two_177 ?_
    refine z_bipush (pc := 179) C (by decide +kernel) dX7_two_179 ?_
    refine z_icmp_ge (tgt := 202) (pc := 181) C dX7_two_181 (by decide) (fun h181 => absurd h181 (by omega)) (fun h181 => ?_)
    refine z_aload_n (i := 0) (pc := 184) C rfl rfl dX7_two_184 ?_
    refine z_iconst (pc := 185) C dX7_two_185 ?_
    refine z_iload (i := 11) (pc := 186) C rfl dX7_two_186 ?_
    refine z_iload (i := 12) (pc := 188) C rfl dX7_two_188 ?_
    rcases Nat.lt_or_ge (1849 + (x * 43 + y)) c with hkc | hkc
    · refine z_callVr (pc := 190) C (d_X7_pair0 hM (by omega) hP (1849 + (x * 43 + y)) hkc (by omega)) k_X7_170 zy_X7_pair rfl rfl hM rfl rfl ⟨(Nat.le_of_ble_eq_true rfl), (Nat.le_of_ble_eq_true rfl)⟩ (Nat.le_of_ble_eq_true rfl) dX7_two_190 ⟨rfl, rfl⟩ ⟨by show _ ≤ 3698 - c0; omega, by show _ ≤ 72 * (3698 - c0); omega⟩ (fun rv ω' hp => ?_)
      obtain ⟨hw', hq'⟩ := hp
      rw [hw', hq']
      clear hw' hq'
      obtain ⟨c', hc'⟩ : ∃ c' : Nat, c' = c := ⟨_, rfl⟩
      rw [← hc'] at hP ⊢
      have hL2 := hL
      have hP2 := hP
      obtain ⟨hh, ff, p1, p2, p3, p4, p5, p6⟩ := id hP2
      refine z_callSv (pc := 193) C (c_X7_zero (p4 (1849 + (x * 43 + y)) (by omega))) k_X7_112 zy_X7_zero.2 rfl rfl ⟨(Nat.le_of_ble_eq_true rfl), (Nat.le_of_ble_eq_true rfl)⟩ (Nat.le_of_ble_eq_true rfl) dX7_two_193 ⟨rfl, rfl⟩ ⟨by show _ ≤ 3698 - c0; omega, by show _ ≤ 72 * (3698 - c0); omega⟩ (fun ω' hp => ?_)
      obtain ⟨g2, rfl, hg2⟩ := hp
      refine z_iinc (i := 12) (lv' := [_, _, _, _, _, _, _, _, _, _, _, _, _]) (pc := 196) C rfl (by decide) rfl rfl dX7_two_196 ?_
      refine z_goto (tgt := 177) (pc := 199) C dX7_two_199 (by decide) ?_
      exact ih (y + 1) _ c' (by omega) (hL2.u (by omega)) (hP2.x2 (by omega) (hg2.e (hV _ (by omega)).symm) (by omega)) (by omega)
    · have ec : c = (1849 + (x * 43 + y)) := by omega
      subst ec
      refine z_callVrA (pc := 190) (mc := 1) (ms := 72) C (d_X7_pair1 hM (by omega) hP (Nat.le_refl _) (by omega) (by omega)) k_X7_170 zy_X7_pair rfl rfl hM rfl rfl ⟨(Nat.le_of_ble_eq_true rfl), (Nat.le_of_ble_eq_true rfl)⟩ (Nat.le_of_ble_eq_true rfl) dX7_two_190 ⟨rfl, rfl⟩ ⟨by show _ ≤ 3698 - c0; omega, by show _ ≤ 72 * (3698 - c0); omega⟩ (fun rv ω' hp => ?_)
      obtain ⟨hq', hl', hP2⟩ := hp
      rw [hq', show (1849 + (x * 43 + y)) - c0 + 1 = (1849 + (x * 43 + y)) + 1 - c0 by omega, show 72 * ((1849 + (x * 43 + y)) - c0) + 72 = 72 * ((1849 + (x * 43 + y)) + 1 - c0) by omega]
      clear hq'
      obtain ⟨c', hc'⟩ : ∃ c' : Nat, c' = (1849 + (x * 43 + y)) + 1 := ⟨_, rfl⟩
      rw [← hc'] at hP2 ⊢
      have hL2 := hL.tr hl'
      obtain ⟨hh, ff, p1, p2, p3, p4, p5, p6⟩ := id hP2
      refine z_callSv (pc := 193) C (c_X7_zero (p4 (1849 + (x * 43 + y)) (by omega))) k_X7_112 zy_X7_zero.2 rfl rfl ⟨(Nat.le_of_ble_eq_true rfl), (Nat.le_of_ble_eq_true rfl)⟩ (Nat.le_of_ble_eq_true rfl) dX7_two_193 ⟨rfl, rfl⟩ ⟨by show _ ≤ 3698 - c0; omega, by show _ ≤ 72 * (3698 - c0); omega⟩ (fun ω' hp => ?_)
      obtain ⟨g2, rfl, hg2⟩ := hp
      refine z_iinc (i := 12) (lv' := [_, _, _, _, _, _, _, _, _, _, _, _, _]) (pc := 196) C rfl (by decide) rfl rfl dX7_two_196 ?_
      refine z_goto (tgt := 177) (pc := 199) C dX7_two_199 (by decide) ?_
      exact ih (y + 1) _ c' (by omega) (hL2.u (by omega)) (hP2.x2 (by omega) (hg2.e (hV _ (by omega)).symm) (by omega)) (by omega)
set_option maxRecDepth 100000 in
set_option maxHeartbeats 4000000 in
theorem lz_two1 {Γ : zG} {l0 : Launch} {X : zX} {m bh rt n a e p q c0 : Nat} {wh b b2 gv : Int} {ω0 : zWd} {V : Nat → Int} {o10 : Int} (C : Zc Γ l0 X (rtX7_two c0) 13 cX7_two RX7) (hM0 : ω0.1 m = some (zOb 7 (zMf m bh rt 72))) (hV : ∀ k : Nat, 1849 ≤ k → V k = 0) (K : ∀ (ω : zWd) (c : Nat) (oy : Option Value), zLo m ω0 ω → zPr X ω m c 3698 V → (3698 ≤ c ∧ c0 ≤ c ∧ c ≤ 3698) → Zw Γ ω (c - c0) (72 * (c - c0)) 208 [some (.ref m), some (.int (zI wh)), some (.int (zI b)), some (.int (zI b2)), some (.int (zI (n : Int))), some (.int (zI gv)), some (.int (zI (a : Int))), some (.int (zI (e : Int))), some (.int (zI (p : Int))), some (.int (zI (q : Int))), some (.int (zI o10)), some (.int (zI 43)), oy] []) : ∀ (j x : Nat) (ω : zWd) (c : Nat) (oy : Option Value), x + j = 43 → zLo m ω0 ω → zPr X ω m c (1849 + (x * 43 + 0)) V → ((1849 + (x * 43 + 0)) ≤ c ∧ c0 ≤ c ∧ c ≤ 3698) → Zw Γ ω (c - c0) (72 * (c - c0)) 167 [some (.ref m), some (.int (zI wh)), some (.int (zI b)), some (.int (zI b2)), some (.int (zI (n : Int))), some (.int (zI gv)), some (.int (zI (a : Int))), some (.int (zI (e : Int))), some (.int (zI (p : Int))), some (.int (zI (q : Int))), some (.int (zI o10)), some (.int (zI (x : Int))), oy] [] := by
  intro j
  induction j with
  | zero =>
    intro x ω c oy hj hL hP hb
    have e1 : x = 43 := by omega
    subst e1
    have hK := K ω c oy hL (hP.h (by omega)) (by omega)
    refine z_iload (i := 11) (pc := 167) C rfl dX7_two_167 ?_
    refine z_bipush (pc := 169) C (by decide +kernel) dX7_two_169 ?_
    refine z_icmp_ge (tgt := 208) (pc := 171) C dX7_two_171 (by decide) (fun h171 => ?_) (fun h171 => absurd h171 (by omega))
    exact hK
  | succ j ih =>
    intro x ω c oy hj hL hP hb
    refine z_iload (i := 11) (pc := 167) C rfl dX7_two_167 ?_
    refine z_bipush (pc := 169) C (by decide +kernel) dX7_two_169 ?_
    refine z_icmp_ge (tgt := 208) (pc := 171) C dX7_two_171 (by decide) (fun h171 => absurd h171 (by omega)) (fun h171 => ?_)
    refine z_iconst (pc := 174) C dX7_two_174 ?_
    refine z_istore (i := 12) (lv' := [_, _, _, _, _, _, _, _, _, _, _, _, _]) (pc := 175) C (by decide) rfl rfl dX7_two_175 ?_
    refine lz_two1i C hM0 (show x < 43 by omega) hV ?_ 43 0 ω c (by omega) hL (hP.h (by omega)) (by omega)
    intro ω2 c2 hL2 hP2 hb2
    have hgo := ih (x + 1) ω2 c2 (some (.int (zI 43))) (by omega) hL2 hP2 hb2
    refine z_iinc (i := 11) (lv' := [_, _, _, _, _, _, _, _, _, _, _, _, _]) (pc := 202) C rfl (by decide) rfl rfl dX7_two_202 ?_
    refine z_goto (tgt := 167) (pc := 205) C dX7_two_205 (by decide) ?_
    exact hgo
