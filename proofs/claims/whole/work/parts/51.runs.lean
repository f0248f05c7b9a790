/-- a table whose first rows are numbers -/
def zMw (X : zX) (ω : zWd) (a N hi : Nat) (V : Nat → Int) : Prop := ∃ f, zMx X ω a N 72 f ∧ ∀ j : Nat, j < hi → zNm (f j) (V j)
theorem zMw.kp {X : zX} {ω ω2 : zWd} {a N hi : Nat} {V : Nat → Int} (h : zMw X ω a N hi V) (hk : ∀ b, a ≤ b → b < a + 1 + N → ω2.1 b = ω.1 b) : zMw X ω2 a N hi V := h.imp fun _ h => ⟨h.1.kp hk, h.2⟩
theorem zMw.s {X : zX} {ω : zWd} {a N hi : Nat} {V : Nat → Int} (h : zMw X ω a N hi V) : zMs X ω a N := h.imp fun _ h => h.1
theorem zMw.v {X : zX} {ω : zWd} {a N : Nat} {V : Nat → Int} (h : zMw X ω a N N V) : zMv X ω a N V := h
theorem zMs.w {X : zX} {ω : zWd} {a N : Nat} (V : Nat → Int) (h : zMs X ω a N) : zMw X ω a N 0 V := h.imp fun _ h => ⟨h, fun j hj => absurd hj (by omega)⟩
theorem zMw.u {X : zX} {ω : zWd} {a N hi : Nat} {V : Nat → Int} {j : Nat} {g : Int → Int} {v : Int} (h : zMw X ω a N hi V) (hj : j < N) (hg : zNm g v) : zMw X (zU ω (a + 1 + j) (zAI X 72 g)) a N hi (va_up V j v) := by
  obtain ⟨f, h1, h2⟩ := h
  refine ⟨_, h1.u hj, fun i hi => ?_⟩
  by_cases e : i = j
  · subst e
    rw [va_up_self, va_up_self]
    exact hg
  · rw [va_up_ne _ _ e, va_up_ne _ _ e]
    exact h2 i hi
theorem zMw.x {X : zX} {ω : zWd} {a N hi : Nat} {V : Nat → Int} {g : Int → Int} (h : zMw X ω a N hi V) (hj : hi < N) (hg : zNm g (V hi)) : zMw X (zU ω (a + 1 + hi) (zAI X 72 g)) a N (hi + 1) V := by
  obtain ⟨f, h1, h2⟩ := h
  refine ⟨_, h1.u hj, fun i hi2 => ?_⟩
  by_cases e : i = hi
  · subst e
    rw [va_up_self]
    exact hg
  · rw [va_up_ne _ _ e]
    exact h2 i (by omega)
theorem zMw.c {X : zX} {ω : zWd} {a N hi : Nat} {V V2 : Nat → Int} (h : zMw X ω a N hi V) (hv : ∀ j : Nat, j < hi → V j = V2 j) : zMw X ω a N hi V2 := h.imp fun _ h => ⟨h.1, fun j hj => by rw [← hv j hj]; exact h.2 j hj⟩
/-- outside of the object and of the runs' tables all is as it was -/
def zFx (m : Nat) (ω0 ω : zWd) : Prop := (∀ b : Nat, ((b ≠ m ∧ b < m + 77) ∨ m + 1945 ≤ b) → ω.1 b = ω0.1 b) ∧ ω.2 = ω0.2
theorem zFx.u {m b : Nat} {ω0 ω : zWd} {x : va_E} (h : zFx m ω0 ω) (hb : b = m ∨ (m + 77 ≤ b ∧ b < m + 1945)) : zFx m ω0 (zU ω b x) := ⟨fun c hc => by rw [zU_n (by omega)]; exact h.1 c hc, h.2⟩
theorem zFx.o {m lo hi : Nat} {ω0 ω ω2 : zWd} (h : zFx m ω0 ω) (h2 : zOut lo hi ω ω2) (hb : m + 77 ≤ lo ∧ hi ≤ m + 1945) : zFx m ω0 ω2 := ⟨fun c hc => by rw [h2.1 c (by omega)]; exact h.1 c hc, h2.2.trans h.2⟩
def zRn (X : zX) (ω0 ω : zWd) (m bh rt sp : Nat) (A Nx Ra Rb : Nat → Int) (tp : Nat) : Prop := zFx m ω0 ω ∧ ω.1 m = some (zOb 7 (zMf m bh rt sp)) ∧ zMv X ω (m + 77) 901 A ∧ zMw X ω (m + 979) 901 tp Nx ∧ zMv X ω (m + 1881) 41 Ra ∧ zMv X ω (m + 1923) 21 Rb
theorem zRn.nx {X : zX} {ω0 ω : zWd} {m bh rt sp tp : Nat} {A Nx Nx2 Ra Rb : Nat → Int} {j : Nat} {g : Int → Int} {v : Int} (h : zRn X ω0 ω m bh rt sp A Nx Ra Rb tp) (hj : j < 901) (hg : zNm g v) (hv : ∀ i : Nat, i < tp → va_up Nx j v i = Nx2 i) : zRn X ω0 (zU ω (m + 979 + 1 + j) (zAI X 72 g)) m bh rt sp A Nx2 Ra Rb tp := by
  obtain ⟨h1, h2, h3, h4, h5, h6⟩ := h
  exact ⟨h1.u (by omega), zU_n' (by omega) h2, h3.kp (fun b _ _ => zU_n (by omega)), (h4.u hj hg).c hv, h5.kp (fun b _ _ => zU_n (by omega)), h6.kp (fun b _ _ => zU_n (by omega))⟩
theorem zRn.al {X : zX} {ω0 ω : zWd} {m bh rt sp tp : Nat} {A A2 Nx Ra Rb : Nat → Int} {j : Nat} {g : Int → Int} {v : Int} (h : zRn X ω0 ω m bh rt sp A Nx Ra Rb tp) (hj : j < 901) (hg : zNm g v) (hv : ∀ i : Nat, i < 901 → va_up A j v i = A2 i) : zRn X ω0 (zU ω (m + 77 + 1 + j) (zAI X 72 g)) m bh rt sp A2 Nx Ra Rb tp := by
  obtain ⟨h1, h2, h3, h4, h5, h6⟩ := h
  exact ⟨h1.u (by omega), zU_n' (by omega) h2, (h3.u hj hg).c hv, h4.kp (fun b _ _ => zU_n (by omega)), h5.kp (fun b _ _ => zU_n (by omega)), h6.kp (fun b _ _ => zU_n (by omega))⟩
theorem zRn.ra {X : zX} {ω0 ω : zWd} {m bh rt sp tp : Nat} {A Nx Ra Ra2 Rb : Nat → Int} {j : Nat} {g : Int → Int} {v : Int} (h : zRn X ω0 ω m bh rt sp A Nx Ra Rb tp) (hj : j < 41) (hg : zNm g v) (hv : ∀ i : Nat, i < 41 → va_up Ra j v i = Ra2 i) : zRn X ω0 (zU ω (m + 1881 + 1 + j) (zAI X 72 g)) m bh rt sp A Nx Ra2 Rb tp := by
  obtain ⟨h1, h2, h3, h4, h5, h6⟩ := h
  exact ⟨h1.u (by omega), zU_n' (by omega) h2, h3.kp (fun b _ _ => zU_n (by omega)), h4.kp (fun b _ _ => zU_n (by omega)), (h5.u hj hg).c hv, h6.kp (fun b _ _ => zU_n (by omega))⟩
theorem zRn.rb {X : zX} {ω0 ω : zWd} {m bh rt sp tp : Nat} {A Nx Ra Rb Rb2 : Nat → Int} {j : Nat} {g : Int → Int} {v : Int} (h : zRn X ω0 ω m bh rt sp A Nx Ra Rb tp) (hj : j < 21) (hg : zNm g v) (hv : ∀ i : Nat, i < 21 → va_up Rb j v i = Rb2 i) : zRn X ω0 (zU ω (m + 1923 + 1 + j) (zAI X 72 g)) m bh rt sp A Nx Ra Rb2 tp := by
  obtain ⟨h1, h2, h3, h4, h5, h6⟩ := h
  exact ⟨h1.u (by omega), zU_n' (by omega) h2, h3.kp (fun b _ _ => zU_n (by omega)), h4.kp (fun b _ _ => zU_n (by omega)), h5.kp (fun b _ _ => zU_n (by omega)), (h6.u hj hg).c hv⟩
theorem zRn.c {X : zX} {ω0 ω : zWd} {m bh rt sp tp : Nat} {A A2 Nx Nx2 Ra Ra2 Rb Rb2 : Nat → Int} (h : zRn X ω0 ω m bh rt sp A Nx Ra Rb tp) (ha : ∀ i : Nat, i < 901 → A i = A2 i) (hn : ∀ i : Nat, i < tp → Nx i = Nx2 i) (hr : ∀ i : Nat, i < 41 → Ra i = Ra2 i) (hb : ∀ i : Nat, i < 21 → Rb i = Rb2 i) : zRn X ω0 ω m bh rt sp A2 Nx2 Ra2 Rb2 tp := by
  obtain ⟨h1, h2, h3, h4, h5, h6⟩ := h
  exact ⟨h1, h2, h3.c ha, h4.c hn, h5.c hr, h6.c hb⟩
set_option maxRecDepth 100000 in
set_option maxHeartbeats 4000000 in
theorem lz_runs1 {Γ : zG} {ω1 : zWd} {l0 : Launch} {X : zX} {m bh rt sp pu n : Nat} {p b : Int} (C : Zc Γ l0 X rmX7_runs 11 cX7_runs RX7) (hM1 : ω1.1 m = some (zOb 7 (zMf m bh rt sp))) (K : ∀ ω : zWd, zOut (m + 78) (m + 979) ω1 ω → zMw X ω (m + 77) 901 (901) (fun _ => 0) → Zw Γ ω 0 0 27 [some (.ref m), some (.int (zI (pu : Int))), some (.int (zI p)), some (.int (zI b)), some (.int (zI (n : Int))), some (.int (zI ((901 : Nat) : Int))), none, none, none, none, none] []) : ∀ (j i : Nat) (ω : zWd), i + j = 901 → zOut (m + 78) (m + 979) ω1 ω → zMw X ω (m + 77) 901 i (fun _ => 0) → Zw Γ ω 0 0 3 [some (.ref m), some (.int (zI (pu : Int))), some (.int (zI p)), some (.int (zI b)), some (.int (zI (n : Int))), some (.int (zI (i : Int))), none, none, none, none, none] [] := by
  intro j
  induction j with
  | zero =>
    intro i ω hj ho hw
    have e1 : i = 901 := by omega
    subst e1
    have hM := (ho.1 m (by omega)).trans hM1
    have hK := K ω ho hw
    refine z_iload (i := 5) (pc := 3) C rfl dX7_runs_3 ?_
    refine z_sipush (pc := 5) C (by decide +kernel) dX7_runs_5 ?_
    refine z_icmp_ge (tgt := 27) (pc := 8) C dX7_runs_8 (by decide) (fun h8 => ?_) (fun h8 => absurd h8 (by omega))
    exact hK
  | succ j ih =>
    intro i ω hj ho hw
    have hM := (ho.1 m (by omega)).trans hM1
    have hw0 := hw
    obtain ⟨fT, hT1, hT2⟩ := hw
    refine z_iload (i := 5) (pc := 3) C rfl dX7_runs_3 ?_
    refine z_sipush (pc := 5) C (by decide +kernel) dX7_runs_5 ?_
    refine z_icmp_ge (tgt := 27) (pc := 8) C dX7_runs_8 (by decide) (fun h8 => absurd h8 (by omega)) (fun h8 => ?_)
    refine z_aload_n (i := 0) (pc := 11) C rfl rfl dX7_runs_11 ?_
    refine g_X7_34 (pc := 12) C hM rfl dX7_runs_12 ?_
    refine z_iload (i := 5) (pc := 15) C rfl dX7_runs_15 ?_
    refine z_aaload (pc := 17) C hT1.1 rfl dX7_runs_17 ?_
    refine z_callSv (pc := 18) C (c_X7_zero (hT1.2 i (by omega))) k_X7_112 zy_X7_zero.2 rfl rfl ⟨(Nat.le_of_ble_eq_true rfl), (Nat.le_of_ble_eq_true rfl)⟩ (Nat.le_of_ble_eq_true rfl) dX7_runs_18 ⟨rfl, rfl⟩ ⟨(Nat.le_of_ble_eq_true rfl), (Nat.le_of_ble_eq_true rfl)⟩ (fun ω' hp => ?_)
    obtain ⟨g2, rfl, hg2⟩ := hp
    refine z_iinc (i := 5) (lv' := [_, _, _, _, _, _, _, _, _, _, _]) (pc := 21) C rfl (by decide) rfl rfl dX7_runs_21 ?_
    refine z_goto (tgt := 3) (pc := 24) C dX7_runs_24 (by decide) ?_
    exact ih (i + 1) _ (by omega) (ho.u (by omega) (by omega)) (hw0.x (by omega) hg2)
set_option maxRecDepth 100000 in
set_option maxHeartbeats 4000000 in
theorem lz_runs2 {Γ : zG} {ω1 : zWd} {l0 : Launch} {X : zX} {m bh rt sp pu n : Nat} {p b : Int} (C : Zc Γ l0 X rmX7_runs 11 cX7_runs RX7) (hM1 : ω1.1 m = some (zOb 7 (zMf m bh rt sp))) (K : ∀ ω : zWd, zOut (m + 1882) (m + 1923) ω1 ω → zMw X ω (m + 1881) 41 (41) (fun _ => 0) → Zw Γ ω 0 0 53 [some (.ref m), some (.int (zI (pu : Int))), some (.int (zI p)), some (.int (zI b)), some (.int (zI (n : Int))), some (.int (zI ((41 : Nat) : Int))), none, none, none, none, none] []) : ∀ (j i : Nat) (ω : zWd), i + j = 41 → zOut (m + 1882) (m + 1923) ω1 ω → zMw X ω (m + 1881) 41 i (fun _ => 0) → Zw Γ ω 0 0 30 [some (.ref m), some (.int (zI (pu : Int))), some (.int (zI p)), some (.int (zI b)), some (.int (zI (n : Int))), some (.int (zI (i : Int))), none, none, none, none, none] [] := by
  intro j
  induction j with
  | zero =>
    intro i ω hj ho hw
    have e1 : i = 41 := by omega
    subst e1
    have hM := (ho.1 m (by omega)).trans hM1
    have hK := K ω ho hw
    refine z_iload (i := 5) (pc := 30) C rfl dX7_runs_30 ?_
    refine z_bipush (pc := 32) C (by decide +kernel) dX7_runs_32 ?_
    refine z_icmp_gt (tgt := 53) (pc := 34) C dX7_runs_34 (by decide) (fun h34 => ?_) (fun h34 => absurd h34 (by omega))
    exact hK
  | succ j ih =>
    intro i ω hj ho hw
    have hM := (ho.1 m (by omega)).trans hM1
    have hw0 := hw
    obtain ⟨fT, hT1, hT2⟩ := hw
    refine z_iload (i := 5) (pc := 30) C rfl dX7_runs_30 ?_
    refine z_bipush (pc := 32) C (by decide +kernel) dX7_runs_32 ?_
    refine z_icmp_gt (tgt := 53) (pc := 34) C dX7_runs_34 (by decide) (fun h34 => absurd h34 (by omega)) (fun h34 => ?_)
    refine z_aload_n (i := 0) (pc := 37) C rfl rfl dX7_runs_37 ?_
    refine g_X7_40 (pc := 38) C hM rfl dX7_runs_38 ?_
    refine z_iload (i := 5) (pc := 41) C rfl dX7_runs_41 ?_
    refine z_aaload (pc := 43) C hT1.1 rfl dX7_runs_43 ?_
    refine z_callSv (pc := 44) C (c_X7_zero (hT1.2 i (by omega))) k_X7_112 zy_X7_zero.2 rfl rfl ⟨(Nat.le_of_ble_eq_true rfl), (Nat.le_of_ble_eq_true rfl)⟩ (Nat.le_of_ble_eq_true rfl) dX7_runs_44 ⟨rfl, rfl⟩ ⟨(Nat.le_of_ble_eq_true rfl), (Nat.le_of_ble_eq_true rfl)⟩ (fun ω' hp => ?_)
    obtain ⟨g2, rfl, hg2⟩ := hp
    refine z_iinc (i := 5) (lv' := [_, _, _, _, _, _, _, _, _, _, _]) (pc := 47) C rfl (by decide) rfl rfl dX7_runs_47 ?_
    refine z_goto (tgt := 30) (pc := 50) C dX7_runs_50 (by decide) ?_
    exact ih (i + 1) _ (by omega) (ho.u (by omega) (by omega)) (hw0.x (by omega) hg2)
set_option maxRecDepth 100000 in
set_option maxHeartbeats 4000000 in
theorem lz_runs3 {Γ : zG} {ω1 : zWd} {l0 : Launch} {X : zX} {m bh rt sp pu n : Nat} {p b : Int} (C : Zc Γ l0 X rmX7_runs 11 cX7_runs RX7) (hM1 : ω1.1 m = some (zOb 7 (zMf m bh rt sp))) (K : ∀ ω : zWd, zOut (m + 1924) (m + 1945) ω1 ω → zMw X ω (m + 1923) 21 (21) (fun _ => 0) → Zw Γ ω 0 0 79 [some (.ref m), some (.int (zI (pu : Int))), some (.int (zI p)), some (.int (zI b)), some (.int (zI (n : Int))), some (.int (zI ((21 : Nat) : Int))), none, none, none, none, none] []) : ∀ (j i : Nat) (ω : zWd), i + j = 21 → zOut (m + 1924) (m + 1945) ω1 ω → zMw X ω (m + 1923) 21 i (fun _ => 0) → Zw Γ ω 0 0 56 [some (.ref m), some (.int (zI (pu : Int))), some (.int (zI p)), some (.int (zI b)), some (.int (zI (n : Int))), some (.int (zI (i : Int))), none, none, none, none, none] [] := by
  intro j
  induction j with
  | zero =>
    intro i ω hj ho hw
    have e1 : i = 21 := by omega
    subst e1
    have hM := (ho.1 m (by omega)).trans hM1
    have hK := K ω ho hw
    refine z_iload (i := 5) (pc := 56) C rfl dX7_runs_56 ?_
    refine z_bipush (pc := 58) C (by decide +kernel) dX7_runs_58 ?_
    refine z_icmp_ge (tgt := 79) (pc := 60) C dX7_runs_60 (by decide) (fun h60 => ?_) (fun h60 => absurd h60 (by omega))
    exact hK
  | succ j ih =>
    intro i ω hj ho hw
    have hM := (ho.1 m (by omega)).trans hM1
    have hw0 := hw
    obtain ⟨fT, hT1, hT2⟩ := hw
    refine z_iload (i := 5) (pc := 56) C rfl dX7_runs_56 ?_
    refine z_bipush (pc := 58) C (by decide +kernel) dX7_runs_58 ?_
    refine z_icmp_ge (tgt := 79) (pc := 60) C dX7_runs_60 (by decide) (fun h60 => absurd h60 (by omega)) (fun h60 => ?_)
    refine z_aload_n (i := 0) (pc := 63) C rfl rfl dX7_runs_63 ?_
    refine g_X7_43 (pc := 64) C hM rfl dX7_runs_64 ?_
    refine z_iload (i := 5) (pc := 67) C rfl dX7_runs_67 ?_
    refine z_aaload (pc := 69) C hT1.1 rfl dX7_runs_69 ?_
    refine z_callSv (pc := 70) C (c_X7_zero (hT1.2 i (by omega))) k_X7_112 zy_X7_zero.2 rfl rfl ⟨(Nat.le_of_ble_eq_true rfl), (Nat.le_of_ble_eq_true rfl)⟩ (Nat.le_of_ble_eq_true rfl) dX7_runs_70 ⟨rfl, rfl⟩ ⟨(Nat.le_of_ble_eq_true rfl), (Nat.le_of_ble_eq_true rfl)⟩ (fun ω' hp => ?_)
    obtain ⟨g2, rfl, hg2⟩ := hp
    refine z_iinc (i := 5) (lv' := [_, _, _, _, _, _, _, _, _, _, _]) (pc := 73) C rfl (by decide) rfl rfl dX7_runs_73 ?_
    refine z_goto (tgt := 56) (pc := 76) C dX7_runs_76 (by decide) ?_
    exact ih (i + 1) _ (by omega) (ho.u (by omega) (by omega)) (hw0.x (by omega) hg2)
set_option maxRecDepth 100000 in
set_option maxHeartbeats 4000000 in
theorem lz_runs5 {Γ : zG} {ω1 : zWd} {l0 : Launch} {X : zX} {m bh rt sp pu n : Nat} {p b : Int} {o5 : Option Value} {o6 : Int} {tp : Nat} {o9 o10 : Option Value} (C : Zc Γ l0 X rmX7_runs 11 cX7_runs RX7) (hM1 : ω1.1 m = some (zOb 7 (zMf m bh rt sp))) (htp : tp < 901) (K : ∀ ω : zWd, zOut (m + 980) (m + 1881) ω1 ω → zMw X ω (m + 979) 901 (tp + 1) (fun _ => 0) → Zw Γ ω 0 0 141 [some (.ref m), some (.int (zI (pu : Int))), some (.int (zI p)), some (.int (zI b)), some (.int (zI (n : Int))), o5, some (.int (zI o6)), some (.int (zI (tp : Int))), some (.int (zI ((tp + 1 : Nat) : Int))), o9, o10] []) : ∀ (j i : Nat) (ω : zWd), i + j = tp + 1 → zOut (m + 980) (m + 1881) ω1 ω → zMw X ω (m + 979) 901 i (fun _ => 0) → Zw Γ ω 0 0 118 [some (.ref m), some (.int (zI (pu : Int))), some (.int (zI p)), some (.int (zI b)), some (.int (zI (n : Int))), o5, some (.int (zI o6)), some (.int (zI (tp : Int))), some (.int (zI (i : Int))), o9, o10] [] := by
  intro j
  induction j with
  | zero =>
    intro i ω hj ho hw
    have e1 : i = tp + 1 := by omega
    subst e1
    have hM := (ho.1 m (by omega)).trans hM1
    have hK := K ω ho hw
    refine z_iload (i := 8) (pc := 118) C rfl dX7_runs_118 ?_
    refine z_iload (i := 7) (pc := 120) C rfl dX7_runs_120 ?_
    refine z_icmp_gt (tgt := 141) (pc := 122) C dX7_runs_122 (by decide) (fun h122 => ?_) (fun h122 => absurd h122 (by omega))
    exact hK
  | succ j ih =>
    intro i ω hj ho hw
    have hM := (ho.1 m (by omega)).trans hM1
    have hw0 := hw
    obtain ⟨fT, hT1, hT2⟩ := hw
    refine z_iload (i := 8) (pc := 118) C rfl dX7_runs_118 ?_
    refine z_iload (i := 7) (pc := 120) C rfl dX7_runs_120 ?_
    refine z_icmp_gt (tgt := 141) (pc := 122) C dX7_runs_122 (by decide) (fun h122 => absurd h122 (by omega)) (fun h122 => ?_)
    refine z_aload_n (i := 0) (pc := 125) C rfl rfl dX7_runs_125 ?_
    refine g_X7_37 (pc := 126) C hM rfl dX7_runs_126 ?_
    refine z_iload (i := 8) (pc := 129) C rfl dX7_runs_129 ?_
    refine z_aaload (pc := 131) C hT1.1 rfl dX7_runs_131 ?_
    refine z_callSv (pc := 132) C (c_X7_zero (hT1.2 i (by omega))) k_X7_112 zy_X7_zero.2 rfl rfl ⟨(Nat.le_of_ble_eq_true rfl), (Nat.le_of_ble_eq_true rfl)⟩ (Nat.le_of_ble_eq_true rfl) dX7_runs_132 ⟨rfl, rfl⟩ ⟨(Nat.le_of_ble_eq_true rfl), (Nat.le_of_ble_eq_true rfl)⟩ (fun ω' hp => ?_)
    obtain ⟨g2, rfl, hg2⟩ := hp
    refine z_iinc (i := 8) (lv' := [_, _, _, _, _, _, _, _, _, _, _]) (pc := 135) C rfl (by decide) rfl rfl dX7_runs_135 ?_
    refine z_goto (tgt := 118) (pc := 138) C dX7_runs_138 (by decide) ?_
    exact ih (i + 1) _ (by omega) (ho.u (by omega) (by omega)) (hw0.x (by omega) hg2)
