/-- the best of payments 0 .. i, and the least that gives it -/
def zBx (L : Nat → Int) (U : Int) (u : Nat) : Nat → Int
  | 0 => L u
  | i + 1 => if zBx L U u i < ((i + 1 : Nat) : Int) * U + L (u - (i + 1)) then ((i + 1 : Nat) : Int) * U + L (u - (i + 1)) else zBx L U u i
def zPx (L : Nat → Int) (U : Int) (u : Nat) : Nat → Int
  | 0 => 0
  | i + 1 => if zBx L U u i < ((i + 1 : Nat) : Int) * U + L (u - (i + 1)) then ((i + 1 : Nat) : Int) else zPx L U u i
theorem zBx_s {L : Nat → Int} {U : Int} {u : Nat} : ∀ i : Nat, i ≤ u → zBx L U (u + 1) (i + 1) = max (L (u + 1)) (zBx L U u i + U) ∧ zPx L U (u + 1) (i + 1) = (if zBx L U u i + U ≤ L (u + 1) then 0 else zPx L U u i + 1)
  | 0, _ => by
    show (if L (u + 1) < ((0 + 1 : Nat) : Int) * U + L (u + 1 - (0 + 1)) then _ else L (u + 1)) = _ ∧ (if L (u + 1) < ((0 + 1 : Nat) : Int) * U + L (u + 1 - (0 + 1)) then ((0 + 1 : Nat) : Int) else 0) = (if L u + U ≤ L (u + 1) then 0 else 0 + 1)
    rw [show u + 1 - (0 + 1) = u by omega, show ((0 + 1 : Nat) : Int) * U = U by rw [show ((0 + 1 : Nat) : Int) = 1 from rfl, Int.one_mul]]
    show (if L (u + 1) < U + L u then U + L u else L (u + 1)) = max (L (u + 1)) (L u + U) ∧ _
    constructor
    · split <;> omega
    · by_cases e : L (u + 1) < U + L u
      · rw [if_pos e, if_neg (by omega)]; rfl
      · rw [if_neg e, if_pos (by omega)]
  | i + 1, hi => by
    obtain ⟨h1, h2⟩ := zBx_s (L := L) (U := U) (u := u) i (by omega)
    have e1 : zBx L U (u + 1) (i + 1 + 1) = if zBx L U (u + 1) (i + 1) < ((i + 1 + 1 : Nat) : Int) * U + L (u + 1 - (i + 1 + 1)) then ((i + 1 + 1 : Nat) : Int) * U + L (u + 1 - (i + 1 + 1)) else zBx L U (u + 1) (i + 1) := rfl
    have e2 : zPx L U (u + 1) (i + 1 + 1) = if zBx L U (u + 1) (i + 1) < ((i + 1 + 1 : Nat) : Int) * U + L (u + 1 - (i + 1 + 1)) then ((i + 1 + 1 : Nat) : Int) else zPx L U (u + 1) (i + 1) := rfl
    have e3 : zBx L U u (i + 1) = if zBx L U u i < ((i + 1 : Nat) : Int) * U + L (u - (i + 1)) then ((i + 1 : Nat) : Int) * U + L (u - (i + 1)) else zBx L U u i := rfl
    have e4 : zPx L U u (i + 1) = if zBx L U u i < ((i + 1 : Nat) : Int) * U + L (u - (i + 1)) then ((i + 1 : Nat) : Int) else zPx L U u i := rfl
    rw [show u + 1 - (i + 1 + 1) = u - (i + 1) by omega, show ((i + 1 + 1 : Nat) : Int) * U = ((i + 1 : Nat) : Int) * U + U by rw [Int.natCast_succ (i + 1), Int.add_mul, Int.one_mul]] at e1 e2
    obtain ⟨c, hc⟩ : ∃ c, c = ((i + 1 : Nat) : Int) * U + L (u - (i + 1)) := ⟨_, rfl⟩
    have e5 : ((i + 1 : Nat) : Int) * U + U + L (u - (i + 1)) = c + U := by omega
    rw [e5] at e1 e2
    rw [← hc] at e3 e4
    rw [h1] at e1 e2
    rw [h2] at e2
    rw [e1, e2, e3, e4]
    generalize zBx L U u i = B at *
    generalize zPx L U u i = P at *
    constructor
    · split <;> split <;> omega
    · by_cases q : B < c
      · rw [if_pos q, if_pos q]
        by_cases q2 : c + U ≤ L (u + 1)
        · rw [if_pos q2, if_neg (by omega), if_pos (by omega)]
        · rw [if_neg q2, if_pos (by omega)]; omega
      · rw [if_neg q, if_neg q, if_neg (by omega)]
theorem zBx_v {wt V : Int → Int} {p U : Int} : ∀ u : Nat, zBx (fun k => zLw wt p V k) U u u = zVb wt p U V u ∧ zPx (fun k => zLw wt p V k) U u u = zPb wt p U V u
  | 0 => ⟨rfl, rfl⟩
  | u + 1 => by
    obtain ⟨h1, h2⟩ := zBx_v (wt := wt) (V := V) (p := p) (U := U) u
    obtain ⟨k1, k2⟩ := zBx_s (L := fun k => zLw wt p V k) (U := U) (u := u) u (Nat.le_refl _)
    rw [k1, k2, h1, h2]
    exact ⟨rfl, rfl⟩
set_option maxRecDepth 100000 in
set_option maxHeartbeats 4000000 in
theorem lp_X7_pays {Γ : zG} {l0 : Launch} {X : zX} {m bh rt u t hl : Nat} {L : Nat → Int} {ω0 : zWd} (C : Zc Γ l0 X rmX7_pays 5 cX7_pays RX7) (E : Ze Γ (zpi (fun r w => zOut (m + 2443) (m + 2445) ω0 w ∧ (∃ g6 g7, w.1 (m + 2443) = some (zAI X 72 g6) ∧ zNm g6 (zBx L (1000 ^ (2 * t)) u u) ∧ w.1 (m + 2444) = some (zAI X 72 g7)) ∧ r = zPx L (1000 ^ (2 * t)) u u)) 0 0 (some .int)) (hM0 : ω0.1 m = some (zOb 7 (zMf m bh rt 72))) (hL0 : zMw X ω0 (m + 2261) 181 hl L) (hul : u < hl ∧ hl ≤ 181) (ht : t ≤ 6) (hLb : ∀ k : Nat, k < hl → 0 ≤ L k ∧ L k ≤ 1000 ^ 20) : ∀ (j i : Nat) (ω : zWd) (g6 g7 : Int → Int), i + j = u → zOut (m + 2443) (m + 2445) ω0 ω → ω.1 (m + 2443) = some (zAI X 72 g6) → zNm g6 (zBx L (1000 ^ (2 * t)) u i) → ω.1 (m + 2444) = some (zAI X 72 g7) → Zw Γ ω 0 0 18 [some (.ref m), some (.int (zI (u : Int))), some (.int (zI (t : Int))), some (.int (zI (zPx L (1000 ^ (2 * t)) u i))), some (.int (zI ((i + 1 : Nat) : Int)))] [] := by
  intro j
  induction j with
  | zero =>
    intro i ω g6 g7 hj ho h6 h6v h7
    have e1 : i = u := by omega
    subst e1
    refine z_iload (i := 4) (pc := 18) C rfl dX7_pays_18 ?_
    refine z_iload_n (i := 1) (pc := 20) C rfl rfl dX7_pays_20 ?_
    refine z_icmp_gt (tgt := 92) (pc := 21) C dX7_pays_21 (by decide) (fun h21 => ?_) (fun h21 => absurd h21 (by omega))
    refine z_iload_n (i := 3) (pc := 92) C rfl rfl dX7_pays_92 ?_
    exact z_iret (pc := 93) C E dX7_pays_93 ⟨_, rfl, ⟨ho, ⟨g6, g7, h6, h6v, h7⟩, rfl⟩⟩
  | succ j ih =>
    intro i ω g6 g7 hj ho h6 h6v h7
    have hM := (ho.1 m (by omega)).trans hM0
    obtain ⟨fL, hL1, hL2⟩ := hL0.kp (ω2 := ω) (fun b _ _ => ho.1 b (by omega))
    have hlb := hLb (u - (i + 1)) (by omega)
    have hUp : (0 : Int) < 1000 ^ (2 * t) := zpw (by decide) _
    have hUb : (1000 : Int) ^ (2 * t) ≤ 1000 ^ 12 := zk_mono (by omega)
    have hiU : ((i + 1 : Nat) : Int) * 1000 ^ (2 * t) ≤ 181 * 1000 ^ 12 := Int.mul_le_mul (by omega) hUb (by omega) (by omega)
    have h72 : (181 : Int) * 1000 ^ 12 + 1000 ^ 20 < 1000 ^ 72 := by decide
    have e00 : (1000 : Int) ^ 0 = 1 := rfl
    have eB : zBx L (1000 ^ (2 * t)) u (i + 1) = if zBx L (1000 ^ (2 * t)) u i < ((i + 1 : Nat) : Int) * 1000 ^ (2 * t) + L (u - (i + 1)) then ((i + 1 : Nat) : Int) * 1000 ^ (2 * t) + L (u - (i + 1)) else zBx L (1000 ^ (2 * t)) u i := rfl
    have eP : zPx L (1000 ^ (2 * t)) u (i + 1) = if zBx L (1000 ^ (2 * t)) u i < ((i + 1 : Nat) : Int) * 1000 ^ (2 * t) + L (u - (i + 1)) then ((i + 1 : Nat) : Int) else zPx L (1000 ^ (2 * t)) u i := rfl
    refine z_iload (i := 4) (pc := 18) C rfl dX7_pays_18 ?_
    refine z_iload_n (i := 1) (pc := 20) C rfl rfl dX7_pays_20 ?_
    refine z_icmp_gt (tgt := 92) (pc := 21) C dX7_pays_21 (by decide) (fun h21 => absurd h21 (by omega)) (fun h21 => ?_)
    refine z_aload_n (i := 0) (pc := 24) C rfl rfl dX7_pays_24 ?_
    refine g_X7_73 (pc := 25) C hM rfl dX7_pays_25 ?_
    refine z_iload (i := 4) (pc := 28) C rfl dX7_pays_28 ?_
    refine z_iconst (pc := 30) C dX7_pays_30 ?_
    refine z_iload_n (i := 2) (pc := 31) C rfl rfl dX7_pays_31 ?_
    refine z_imul (pc := 32) C dX7_pays_32 ?_
    rw [show (2 : Int) * (t : Int) = ((2 * t : Nat) : Int) by omega]
    refine z_callSv (pc := 33) C (c_X7_set_ (up := 2 * t) h7 (by omega) (by omega)) k_X7_151 zy_X7_set_.2 rfl rfl ⟨(Nat.le_of_ble_eq_true rfl), (Nat.le_of_ble_eq_true rfl)⟩ (Nat.le_of_ble_eq_true rfl) dX7_pays_33 ⟨rfl, rfl⟩ ⟨(Nat.le_of_ble_eq_true rfl), (Nat.le_of_ble_eq_true rfl)⟩ (fun ω' hp => ?_)
    obtain ⟨ga, rfl, hga⟩ := hp
    refine z_aload_n (i := 0) (pc := 36) C rfl rfl dX7_pays_36 ?_
    refine z_aload_n (i := 0) (pc := 37) C rfl rfl dX7_pays_37 ?_
    refine g_X7_73 (pc := 38) C (zU_n' (by omega) hM) rfl dX7_pays_38 ?_
    refine z_aload_n (i := 0) (pc := 41) C rfl rfl dX7_pays_41 ?_
    refine g_X7_67 (pc := 42) C (zU_n' (by omega) hM) rfl dX7_pays_42 ?_
    refine z_iload_n (i := 1) (pc := 45) C rfl rfl dX7_pays_45 ?_
    refine z_iload (i := 4) (pc := 46) C rfl dX7_pays_46 ?_
    refine z_isub (pc := 48) C dX7_pays_48 ?_
    rw [show (u : Int) - ((i + 1 : Nat) : Int) = ((u - (i + 1) : Nat) : Int) by omega]
    refine z_aaload (pc := 49) C (zU_n' (by omega) hL1.1) rfl dX7_pays_49 ?_
    refine z_iconst (pc := 50) C dX7_pays_50 ?_
    refine z_iconst (pc := 51) C dX7_pays_51 ?_
    refine z_callVv (pc := 52) C (c_X7_add (up := 0) (sp := 72) (q := 1) (zU_n' (by omega) hM) rfl (zU_s _ _ _) hga (zU_n' (by omega) (hL1.2 (u - (i + 1)) (by omega))) (hL2 (u - (i + 1)) (by omega)) (by omega) (by omega) (by omega) (by rw [e00, Int.mul_one, Int.one_mul]; omega)) k_X7_120 zy_X7_add rfl rfl (zU_n' (by omega) hM) rfl rfl ⟨(Nat.le_of_ble_eq_true rfl), (Nat.le_of_ble_eq_true rfl)⟩ (Nat.le_of_ble_eq_true rfl) dX7_pays_52 ⟨rfl, rfl⟩ ⟨(Nat.le_of_ble_eq_true rfl), (Nat.le_of_ble_eq_true rfl)⟩ (fun ω' hp => ?_)
    obtain ⟨gb, rfl, hgb⟩ := hp
    rw [zU_u]
    rw [e00, Int.mul_one, Int.one_mul] at hgb
    refine z_aload_n (i := 0) (pc := 55) C rfl rfl dX7_pays_55 ?_
    refine g_X7_73 (pc := 56) C (zU_n' (by omega) hM) rfl dX7_pays_56 ?_
    refine z_aload_n (i := 0) (pc := 59) C rfl rfl dX7_pays_59 ?_
    refine g_X7_70 (pc := 60) C (zU_n' (by omega) hM) rfl dX7_pays_60 ?_
    refine z_callSi (pc := 63) C (c_X7_compare (zU_s _ _ _) hgb (zU_n' (by omega) h6) h6v) k_X7_155 zy_X7_compare.2 rfl rfl ⟨(Nat.le_of_ble_eq_true rfl), (Nat.le_of_ble_eq_true rfl)⟩ (Nat.le_of_ble_eq_true rfl) dX7_pays_63 ⟨rfl, rfl⟩ ⟨(Nat.le_of_ble_eq_true rfl), (Nat.le_of_ble_eq_true rfl)⟩ (fun rv ω' hp => ?_)
    obtain ⟨hw', hcp⟩ := hp
    rw [hw']
    clear hw'
    have hrr : rv = -1 ∨ rv = 0 ∨ rv = 1 := by omega
    refine z_if_gt (tgt := 72) (pc := 66) C dX7_pays_66 (by decide) (fun h66 => ?_) (fun h66 => ?_)
    · rw [if_pos (by omega)] at eB eP
      refine z_aload_n (i := 0) (pc := 72) C rfl rfl dX7_pays_72 ?_
      refine g_X7_73 (pc := 73) C (zU_n' (by omega) hM) rfl dX7_pays_73 ?_
      refine z_aload_n (i := 0) (pc := 76) C rfl rfl dX7_pays_76 ?_
      refine g_X7_70 (pc := 77) C (zU_n' (by omega) hM) rfl dX7_pays_77 ?_
      refine z_callSv (pc := 80) C (c_X7_copy (zU_s _ _ _) hgb (by omega) (zU_n' (by omega) h6)) k_X7_124 zy_X7_copy.2 rfl rfl ⟨(Nat.le_of_ble_eq_true rfl), (Nat.le_of_ble_eq_true rfl)⟩ (Nat.le_of_ble_eq_true rfl) dX7_pays_80 ⟨rfl, rfl⟩ ⟨(Nat.le_of_ble_eq_true rfl), (Nat.le_of_ble_eq_true rfl)⟩ (fun ω' hp => ?_)
      obtain ⟨gc, rfl, hgc⟩ := hp
      have hgo := ih (i + 1) _ gc gb (by omega) ((ho.u (by omega) (by omega)).u (by omega) (by omega)) (zU_s _ _ _) (hgc.e eB.symm) (zU_n' (by omega) (zU_s _ _ _))
      rw [eP] at hgo
      refine z_iload (i := 4) (pc := 83) C rfl dX7_pays_83 ?_
      refine z_istore_n (i := 3) (lv' := [_, _, _, _, _]) (pc := 85) C rfl (by decide) rfl rfl dX7_pays_85 ?_
      refine z_iinc (i := 4) (lv' := [_, _, _, _, _]) (pc := 86) C rfl (by decide) rfl rfl dX7_pays_86 ?_
      refine z_goto (tgt := 18) (pc := 89) C dX7_pays_89 (by decide) ?_
      exact hgo
    · rw [if_neg (by omega)] at eB eP
      have hgo := ih (i + 1) _ g6 gb (by omega) (ho.u (by omega) (by omega)) (zU_n' (by omega) h6) (h6v.e eB.symm) (zU_s _ _ _)
      rw [eP] at hgo
      refine z_goto (tgt := 86) (pc := 69) C dX7_pays_69 (by decide) ?_
      refine z_iinc (i := 4) (lv' := [_, _, _, _, _]) (pc := 86) C rfl (by decide) rfl rfl dX7_pays_86 ?_
      refine z_goto (tgt := 18) (pc := 89) C dX7_pays_89 (by decide) ?_
      exact hgo
set_option maxRecDepth 100000 in
set_option maxHeartbeats 4000000 in
theorem c_X7_pays {l0 : Launch} {X : zX} {m bh rt u t hl : Nat} {L : Nat → Int} {ω0 : zWd} {g6 g7 : Int → Int} (hM0 : ω0.1 m = some (zOb 7 (zMf m bh rt 72))) (hL0 : zMw X ω0 (m + 2261) 181 hl L) (hul : u < hl ∧ hl ≤ 181) (ht : t ≤ 6) (hLb : ∀ k : Nat, k < hl → 0 ≤ L k ∧ L k ≤ 1000 ^ 20) (h6 : ω0.1 (m + 2443) = some (zAI X 72 g6)) (h7 : ω0.1 (m + 2444) = some (zAI X 72 g7)) : zMet l0 yX7_pays cX7_pays 5 (some .int) rmX7_pays X [.ref m, .int (zI (u : Int)), .int (zI (t : Int))] ω0 (zpi (fun r w => zOut (m + 2443) (m + 2445) ω0 w ∧ (∃ g6 g7, w.1 (m + 2443) = some (zAI X 72 g6) ∧ zNm g6 (zBx L (1000 ^ (2 * t)) u u) ∧ w.1 (m + 2444) = some (zAI X 72 g7)) ∧ r = zPx L (1000 ^ (2 * t)) u u)) := by
  refine zMet.intro (by decide) (Nat.le_of_ble_eq_true rfl) ?_
  intro Γ C E N
  show Zw Γ ω0 0 0 0 [some _, some _, some _, none, none] []
  obtain ⟨fL, hL1, hL2⟩ := id hL0
  refine z_iconst (pc := 0) C dX7_pays_0 ?_
  refine z_istore_n (i := 3) (lv' := [_, _, _, _, _]) (pc := 1) C rfl (by decide) rfl rfl dX7_pays_1 ?_
  refine z_aload_n (i := 0) (pc := 2) C rfl rfl dX7_pays_2 ?_
  refine g_X7_67 (pc := 3) C hM0 rfl dX7_pays_3 ?_
  refine z_iload_n (i := 1) (pc := 6) C rfl rfl dX7_pays_6 ?_
  refine z_aaload (pc := 7) C hL1.1 rfl dX7_pays_7 ?_
  refine z_aload_n (i := 0) (pc := 8) C rfl rfl dX7_pays_8 ?_
  refine g_X7_70 (pc := 9) C hM0 rfl dX7_pays_9 ?_
  refine z_callSv (pc := 12) C (c_X7_copy (hL1.2 u (by omega)) (hL2 u (by omega)) (by omega) h6) k_X7_124 zy_X7_copy.2 rfl rfl ⟨(Nat.le_of_ble_eq_true rfl), (Nat.le_of_ble_eq_true rfl)⟩ (Nat.le_of_ble_eq_true rfl) dX7_pays_12 ⟨rfl, rfl⟩ ⟨(Nat.le_of_ble_eq_true rfl), (Nat.le_of_ble_eq_true rfl)⟩ (fun ω' hp => ?_)
  obtain ⟨ga, rfl, hga⟩ := hp
  refine z_iconst (pc := 15) C dX7_pays_15 ?_
  refine z_istore (i := 4) (lv' := [_, _, _, _, _]) (pc := 16) C (by decide) rfl rfl dX7_pays_16 ?_
  exact lp_X7_pays C E hM0 hL0 hul ht hLb u 0 _ ga g7 (by omega) (zOut.rf.u (by omega) (by omega)) (zU_s _ _ _) hga (zU_n' (by omega) h7)
