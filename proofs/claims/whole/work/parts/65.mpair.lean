set_option maxRecDepth 100000 in
set_option maxHeartbeats 4000000 in
theorem c_X7_pairB {l0 : Launch} {X : zX} {m bh rt sp : Nat} {h : Int → Option Nat} {sd x y : Int} {ω : zWd} {a : Nat} (hM : ω.1 m = some (zOb 7 (zMf m bh rt sp))) (hB : ω.1 (m + 2445) = some (zAR X 3698 h)) (hr : (0 ≤ sd ∧ sd ≤ 1) ∧ (0 ≤ x ∧ x < 43) ∧ (0 ≤ y ∧ y < 43)) (hk : h ((sd * 43 + x) * 43 + y) = some a) : zMet l0 yX7_pair cX7_pair 5 (some (.array .int)) rmX7_pair X [.ref m, .int (zI sd), .int (zI x), .int (zI y)] ω (zpr (fun q w => w = ω ∧ q = a)) := by
  refine zMet.intro (by decide) (Nat.le_of_ble_eq_true rfl) ?_
  intro Γ C E N
  show Zw Γ ω 0 0 0 [some _, some _, some _, some _, none] []
  refine z_iload_n (i := 1) (pc := 0) C rfl rfl dX7_pair_0 ?_
  refine z_bipush (pc := 1) C (by decide +kernel) dX7_pair_1 ?_
  refine z_imul (pc := 3) C dX7_pair_3 ?_
  refine z_iload_n (i := 2) (pc := 4) C rfl rfl dX7_pair_4 ?_
  refine z_iadd (pc := 5) C dX7_pair_5 ?_
  refine z_bipush (pc := 6) C (by decide +kernel) dX7_pair_6 ?_
  refine z_imul (pc := 8) C dX7_pair_8 ?_
  refine z_iload_n (i := 3) (pc := 9) C rfl rfl dX7_pair_9 ?_
  refine z_iadd (pc := 10) C dX7_pair_10 ?_
  refine z_istore (i := 4) (lv' := [_, _, _, _, _]) (pc := 11) C (by decide) rfl rfl dX7_pair_11 ?_
  refine z_aload_n (i := 0) (pc := 13) C rfl rfl dX7_pair_13 ?_
  refine g_X7_77 (pc := 14) C hM rfl dX7_pair_14 ?_
  refine z_iload (i := 4) (pc := 17) C rfl dX7_pair_17 ?_
  refine z_aaload (pc := 19) C hB hk dX7_pair_19 ?_
  refine z_ifnonnull (tgt := 34) (pc := 20) C dX7_pair_20 (by decide) ?_
  refine z_aload_n (i := 0) (pc := 34) C rfl rfl dX7_pair_34 ?_
  refine g_X7_77 (pc := 35) C hM rfl dX7_pair_35 ?_
  refine z_iload (i := 4) (pc := 38) C rfl dX7_pair_38 ?_
  refine z_aaload (pc := 40) C hB hk dX7_pair_40 ?_
  exact z_aret (pc := 41) C E (Or.inr ⟨_, rfl⟩) (Or.inr ⟨_, rfl⟩) dX7_pair_41 ⟨_, rfl, ⟨rfl, rfl⟩⟩
def rnX7_pair : Room := { frames := 0, cells := 1, slots := 72, locals := 0 }
set_option maxRecDepth 100000 in
set_option maxHeartbeats 4000000 in
theorem c_X7_pairA {l0 : Launch} {X : zX} {m bh rt sp : Nat} {h : Int → Option Nat} {sd x y : Int} {ω : zWd} {a : Nat} (hM : ω.1 m = some (zOb 7 (zMf m bh rt sp))) (hB : ω.1 (m + 2445) = some (zAR X 3698 h)) (hr : (0 ≤ sd ∧ sd ≤ 1) ∧ (0 ≤ x ∧ x < 43) ∧ (0 ≤ y ∧ y < 43)) (hk : h ((sd * 43 + x) * 43 + y) = none) (hz : ω.2 = a) (ha : m + 2445 < a) : zMet l0 yX7_pair cX7_pair 5 (some (.array .int)) rnX7_pair X [.ref m, .int (zI sd), .int (zI x), .int (zI y)] ω (zpr (fun q w => q = a ∧ w = zU (zN ω (zAI X 72 (fun _ => 0))) (m + 2445) (zAR X 3698 (zup h ((sd * 43 + x) * 43 + y) (some a))))) := by
  refine zMet.intro (by decide) (Nat.le_of_ble_eq_true rfl) ?_
  intro Γ C E N
  show Zw Γ ω 0 0 0 [some _, some _, some _, some _, none] []
  refine z_iload_n (i := 1) (pc := 0) C rfl rfl dX7_pair_0 ?_
  refine z_bipush (pc := 1) C (by decide +kernel) dX7_pair_1 ?_
  refine z_imul (pc := 3) C dX7_pair_3 ?_
  refine z_iload_n (i := 2) (pc := 4) C rfl rfl dX7_pair_4 ?_
  refine z_iadd (pc := 5) C dX7_pair_5 ?_
  refine z_bipush (pc := 6) C (by decide +kernel) dX7_pair_6 ?_
  refine z_imul (pc := 8) C dX7_pair_8 ?_
  refine z_iload_n (i := 3) (pc := 9) C rfl rfl dX7_pair_9 ?_
  refine z_iadd (pc := 10) C dX7_pair_10 ?_
  refine z_istore (i := 4) (lv' := [_, _, _, _, _]) (pc := 11) C (by decide) rfl rfl dX7_pair_11 ?_
  refine z_aload_n (i := 0) (pc := 13) C rfl rfl dX7_pair_13 ?_
  refine g_X7_77 (pc := 14) C hM rfl dX7_pair_14 ?_
  refine z_iload (i := 4) (pc := 17) C rfl dX7_pair_17 ?_
  refine z_aaloadRN (pc := 19) C hB hk dX7_pair_19 ?_
  refine z_ifnonnullN (pc := 20) C dX7_pair_20 ?_
  refine z_aload_n (i := 0) (pc := 23) C rfl rfl dX7_pair_23 ?_
  refine g_X7_77 (pc := 24) C hM rfl dX7_pair_24 ?_
  refine z_iload (i := 4) (pc := 27) C rfl dX7_pair_27 ?_
  refine z_bipush (pc := 29) C (by decide +kernel) dX7_pair_29 ?_
  refine z_newI (pc := 31) C (N := 72) rfl (Nat.le_of_ble_eq_true rfl) ac_int (Nat.le_of_ble_eq_true rfl) (Nat.le_of_ble_eq_true rfl) dX7_pair_31 ?_
  rw [hz]
  refine z_aastR (pc := 33) C (zN_n' (by omega) hB) (show (zN ω (zAI X 72 (fun _ => 0))).1 a = some (zAI X 72 (fun _ => 0)) by rw [← hz]; exact zN_s _ _) dX7_pair_33 ?_
  refine z_aload_n (i := 0) (pc := 34) C rfl rfl dX7_pair_34 ?_
  refine g_X7_77 (pc := 35) C (zU_n' (by omega) (zN_n' (by omega) hM)) rfl dX7_pair_35 ?_
  refine z_iload (i := 4) (pc := 38) C rfl dX7_pair_38 ?_
  refine z_aaload (pc := 40) C (zU_s _ _ _) (zup_s _ _ _) dX7_pair_40 ?_
  exact z_aret (pc := 41) C E (Or.inr ⟨_, rfl⟩) (Or.inr ⟨_, rfl⟩) dX7_pair_41 ⟨_, rfl, ⟨rfl, rfl⟩⟩ (Nat.le_of_ble_eq_true rfl) (Nat.le_of_ble_eq_true rfl)
def zLo (m : Nat) (ω0 ω : zWd) : Prop := ∀ b : Nat, b < m + 2445 → ω.1 b = ω0.1 b
/-- c rows of the pairs are made, the first hi of them are numbers -/
def zPr (X : zX) (ω : zWd) (m c hi : Nat) (V : Nat → Int) : Prop := ∃ (h : Int → Option Nat) (f : Nat → Int → Int), ω.1 (m + 2445) = some (zAR X 3698 h) ∧ (∀ k : Nat, k < c → h k = some (m + 2446 + k)) ∧ (∀ k : Nat, c ≤ k → k < 3698 → h k = none) ∧ (∀ k : Nat, k < c → ω.1 (m + 2446 + k) = some (zAI X 72 (f k))) ∧ ω.2 = m + 2446 + c ∧ ∀ k : Nat, k < hi → zNm (f k) (V k)
theorem zBt.p {X : zX} {ω : zWd} {m c : Nat} (V : Nat → Int) (h : zBt X ω m c) : zPr X ω m c 0 V := by
  obtain ⟨h, h1, h2, h3, h4, h5⟩ := h
  refine ⟨h, fun k => if q : k < c then Classical.choose (h4 k q) else fun _ => 0, h1, h2, h3, fun k hk => ?_, h5, fun k hk => absurd hk (by omega)⟩
  (try dsimp only)
  rw [dif_pos hk]
  exact Classical.choose_spec (h4 k hk)
theorem zPr.b {X : zX} {ω : zWd} {m c hi : Nat} {V : Nat → Int} (h : zPr X ω m c hi V) : zBt X ω m c := by
  obtain ⟨h, f, h1, h2, h3, h4, h5, h6⟩ := h
  exact ⟨h, h1, h2, h3, fun k hk => ⟨_, h4 k hk⟩, h5⟩
theorem zPr.lo {X : zX} {ω : zWd} {m c hi : Nat} {V : Nat → Int} {b : Nat} {x : va_E} (h : zPr X ω m c hi V) (hb : b < m + 2445) : zPr X (zU ω b x) m c hi V := by
  obtain ⟨h, f, h1, h2, h3, h4, h5, h6⟩ := h
  exact ⟨h, f, zU_n' (by omega) h1, h2, h3, fun k hk => zU_n' (by omega) (h4 k hk), h5, h6⟩
theorem zPr.u {X : zX} {ω : zWd} {m c hi : Nat} {V : Nat → Int} {k : Nat} {g : Int → Int} {v : Int} (h : zPr X ω m c hi V) (_ : k < c) (hg : zNm g v) : zPr X (zU ω (m + 2446 + k) (zAI X 72 g)) m c hi (va_up V k v) := by
  obtain ⟨h, f, h1, h2, h3, h4, h5, h6⟩ := h
  refine ⟨h, va_up f k g, zU_n' (by omega) h1, h2, h3, fun j hj => ?_, h5, fun j hj => ?_⟩
  · by_cases e : j = k
    · subst e; rw [va_up_self]; exact zU_s _ _ _
    · rw [va_up_ne _ _ e]; exact zU_n' (by omega) (h4 j hj)
  · by_cases e : j = k
    · subst e; rw [va_up_self, va_up_self]; exact hg
    · rw [va_up_ne _ _ e, va_up_ne _ _ e]; exact h6 j hj
theorem zPr.x {X : zX} {ω : zWd} {m c hi : Nat} {V : Nat → Int} {g : Int → Int} (h : zPr X ω m c hi V) (_ : hi < c) (hg : zNm g (V hi)) : zPr X (zU ω (m + 2446 + hi) (zAI X 72 g)) m c (hi + 1) V := by
  obtain ⟨h, f, h1, h2, h3, h4, h5, h6⟩ := h
  refine ⟨h, va_up f hi g, zU_n' (by omega) h1, h2, h3, fun j hj => ?_, h5, fun j hj => ?_⟩
  · by_cases e : j = hi
    · subst e; rw [va_up_self]; exact zU_s _ _ _
    · rw [va_up_ne _ _ e]; exact zU_n' (by omega) (h4 j hj)
  · by_cases e : j = hi
    · subst e; rw [va_up_self]; exact hg
    · rw [va_up_ne _ _ e]; exact h6 j (by omega)
theorem zPr.c {X : zX} {ω : zWd} {m c hi hi2 : Nat} {V V2 : Nat → Int} (h : zPr X ω m c hi V) (hl : hi2 ≤ hi) (hv : ∀ k : Nat, k < hi2 → V k = V2 k) : zPr X ω m c hi2 V2 := by
  obtain ⟨h, f, h1, h2, h3, h4, h5, h6⟩ := h
  exact ⟨h, f, h1, h2, h3, h4, h5, fun k hk => by rw [← hv k hk]; exact h6 k (by omega)⟩
theorem d_X7_pair0 {l0 : Launch} {X : zX} {m bh rt sp c hi : Nat} {V : Nat → Int} {sd x y : Int} {ω : zWd} (hM : ω.1 m = some (zOb 7 (zMf m bh rt sp))) (hr : (0 ≤ sd ∧ sd ≤ 1) ∧ (0 ≤ x ∧ x < 43) ∧ (0 ≤ y ∧ y < 43)) (hP : zPr X ω m c hi V) (k : Nat) (hk : k < c) (hK : ((sd * 43 + x) * 43 + y) = (k : Int)) : zMet l0 yX7_pair cX7_pair 5 (some (.array .int)) rmX7_pair X [.ref m, .int (zI sd), .int (zI x), .int (zI y)] ω (zpr (fun q w => w = ω ∧ q = m + 2446 + k)) := by
  obtain ⟨h, f, h1, h2, h3, h4, h5, h6⟩ := hP
  exact c_X7_pairB hM h1 hr (by rw [hK]; exact h2 k hk)
theorem d_X7_pair1 {l0 : Launch} {X : zX} {m bh rt sp c hi : Nat} {V : Nat → Int} {sd x y : Int} {ω : zWd} (hM : ω.1 m = some (zOb 7 (zMf m bh rt sp))) (hr : (0 ≤ sd ∧ sd ≤ 1) ∧ (0 ≤ x ∧ x < 43) ∧ (0 ≤ y ∧ y < 43)) (hP : zPr X ω m c hi V) (hhi : hi ≤ c) (hc : c < 3698) (hK : ((sd * 43 + x) * 43 + y) = (c : Int)) : zMet l0 yX7_pair cX7_pair 5 (some (.array .int)) rnX7_pair X [.ref m, .int (zI sd), .int (zI x), .int (zI y)] ω (zpr (fun q w => q = m + 2446 + c ∧ zLo m ω w ∧ zPr X w m (c + 1) hi V)) := by
  obtain ⟨h, f, h1, h2, h3, h4, h5, h6⟩ := hP
  refine zMet.imp (c_X7_pairA hM h1 hr (by rw [hK]; exact h3 c (Nat.le_refl _) hc) h5 (by omega)) ?_
  rintro v w ⟨r, e, e2, rfl⟩
  refine ⟨r, e, e2, fun b hb => (zU_n (by omega)).trans (zN_n (by omega)), zup h (c : Int) (some (m + 2446 + c)), va_up f c (fun _ => 0), ?_, fun k hk => ?_, fun k k0 k1 => ?_, fun k hk => ?_, ?_, fun k hk => ?_⟩
  · rw [zU_s, hK]
  · by_cases q : k = c
    · rw [q, zup_s]
    · rw [zup_n (by omega)]; exact h2 k (by omega)
  · rw [zup_n (by omega)]; exact h3 k (by omega) k1
  · by_cases q : k = c
    · rw [q, va_up_self, zU_n (by omega), ← h5]; exact zN_s _ _
    · rw [va_up_ne _ _ q, zU_n (by omega), zN_n (by omega)]; exact h4 k (by omega)
  · show ω.2 + 1 = _
    omega
  · rw [va_up_ne _ _ (by omega)]; exact h6 k hk
