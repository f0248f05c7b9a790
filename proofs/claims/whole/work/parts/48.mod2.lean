/-! THE MODEL: its cells from m on -/
abbrev zMf (m bh rt sp : Nat) : List Value := [.ref (m + 1), .ref (m + 10), .int (zI (bh : Int)), .ref (m + 11), .ref (m + 53), .int (zI (rt : Int)), .ref (m + 75), .int (zI (sp : Int)), .ref (m + 76), .ref (m + 77), .ref (m + 979), .ref (m + 1881), .ref (m + 1923), .ref (m + 1945), .ref (m + 1946), .ref (m + 1947), .ref (m + 2012), .ref (m + 2077), .ref (m + 2078), .ref (m + 2079), .ref (m + 2261), .ref (m + 2443), .ref (m + 2444), .ref (m + 2445)]
theorem zMx.u {X : zX} {ω : zWd} {a N K : Nat} {f : Nat → Int → Int} {j : Nat} {g : Int → Int} (h : zMx X ω a N K f) (_ : j < N) : zMx X (zU ω (a + 1 + j) (zAI X K g)) a N K (va_up f j g) := by
  refine ⟨zU_n' (by omega) h.1, fun i hi => ?_⟩
  by_cases e : i = j
  · subst e
    rw [va_up_self]
    exact zU_s _ _ _
  · rw [va_up_ne _ _ e]
    exact zU_n' (by omega) (h.2 i hi)
/-- a table of rows, whatever they hold -/
def zMs (X : zX) (ω : zWd) (a N : Nat) : Prop := ∃ f, zMx X ω a N 72 f
/-- a table of numbers -/
def zMv (X : zX) (ω : zWd) (a N : Nat) (V : Nat → Int) : Prop := ∃ f, zMx X ω a N 72 f ∧ ∀ j : Nat, j < N → zNm (f j) (V j)
theorem zMs.kp {X : zX} {ω ω2 : zWd} {a N : Nat} (h : zMs X ω a N) (hk : ∀ b, a ≤ b → b < a + 1 + N → ω2.1 b = ω.1 b) : zMs X ω2 a N := h.imp fun _ h => h.kp hk
theorem zMv.kp {X : zX} {ω ω2 : zWd} {a N : Nat} {V : Nat → Int} (h : zMv X ω a N V) (hk : ∀ b, a ≤ b → b < a + 1 + N → ω2.1 b = ω.1 b) : zMv X ω2 a N V := h.imp fun _ h => ⟨h.1.kp hk, h.2⟩
theorem zMv.s {X : zX} {ω : zWd} {a N : Nat} {V : Nat → Int} (h : zMv X ω a N V) : zMs X ω a N := h.imp fun _ h => h.1
theorem zMv.u {X : zX} {ω : zWd} {a N : Nat} {V : Nat → Int} {j : Nat} {g : Int → Int} {v : Int} (h : zMv X ω a N V) (hj : j < N) (hg : zNm g v) : zMv X (zU ω (a + 1 + j) (zAI X 72 g)) a N (va_up V j v) := by
  obtain ⟨f, h1, h2⟩ := h
  refine ⟨_, h1.u hj, fun i hi => ?_⟩
  by_cases e : i = j
  · subst e
    rw [va_up_self, va_up_self]
    exact hg
  · rw [va_up_ne _ _ e, va_up_ne _ _ e]
    exact h2 i hi
theorem zMv.c {X : zX} {ω : zWd} {a N : Nat} {V V2 : Nat → Int} (h : zMv X ω a N V) (hv : ∀ j : Nat, j < N → V j = V2 j) : zMv X ω a N V2 := h.imp fun _ h => ⟨h.1, fun j hj => by rw [← hv j hj]; exact h.2 j hj⟩
/-- the pairs: c of 3698 rows are made, they lie behind all else -/
def zBt (X : zX) (ω : zWd) (m c : Nat) : Prop := ∃ h : Int → Option Nat, ω.1 (m + 2445) = some (zAR X 3698 h) ∧ (∀ k : Nat, k < c → h k = some (m + 2446 + k)) ∧ (∀ k : Nat, c ≤ k → k < 3698 → h k = none) ∧ (∀ k : Nat, k < c → ∃ f, ω.1 (m + 2446 + k) = some (zAI X 72 f)) ∧ ω.2 = m + 2446 + c
theorem zBt.kp {X : zX} {ω ω2 : zWd} {m c : Nat} (h : zBt X ω m c) (hk : ∀ b, m + 2445 ≤ b → b < m + 2446 + c → ω2.1 b = ω.1 b) (hz : ω2.2 = ω.2) : zBt X ω2 m c := by
  obtain ⟨h, h1, h2, h3, h4, h5⟩ := h
  exact ⟨h, by rw [hk _ (by omega) (by omega)]; exact h1, h2, h3, fun k hk2 => by rw [hk _ (by omega) (by omega)]; exact h4 k hk2, by rw [hz]; exact h5⟩
/-- bk its books, nv its number with bh limbs behind the point, tv and dv its rows by tick and depth, rt its ticks, c its pairs -/
def zMD (X : zX) (ω : zWd) (m : Nat) (bk : Nat → Int → Int) (nv : Int) (bh : Nat) (tv dv : Nat → Int) (rt c : Nat) : Prop := ∃ gN gm g1 g2 g3 g4 g5 g6 g7 : Int → Int, ω.1 m = some (zOb 7 (zMf m bh rt 72)) ∧ zMx X ω (m + 1) 8 21 bk ∧ ω.1 (m + 10) = some (zAI X 72 gN) ∧ zMv X ω (m + 11) 41 tv ∧ zMv X ω (m + 53) 21 dv ∧ ω.1 (m + 75) = some (zAI X 21 gm) ∧ ω.1 (m + 76) = some (zAI X 72 g1) ∧ zMs X ω (m + 77) 901 ∧ zMs X ω (m + 979) 901 ∧ zMs X ω (m + 1881) 41 ∧ zMs X ω (m + 1923) 21 ∧ ω.1 (m + 1945) = some (zAI X 72 g2) ∧ ω.1 (m + 1946) = some (zAI X 72 g3) ∧ zMs X ω (m + 1947) 64 ∧ zMs X ω (m + 2012) 64 ∧ ω.1 (m + 2077) = some (zAI X 72 g4) ∧ ω.1 (m + 2078) = some (zAI X 72 g5) ∧ zMs X ω (m + 2079) 181 ∧ zMs X ω (m + 2261) 181 ∧ ω.1 (m + 2443) = some (zAI X 72 g6) ∧ ω.1 (m + 2444) = some (zAI X 72 g7) ∧ zBt X ω m c ∧ (∀ k : Nat, k < 8 → zBk (bk k)) ∧ zNm gN nv
theorem zMD.fr {X : zX} {ω ω2 : zWd} {m : Nat} {bk : Nat → Int → Int} {nv : Int} {bh : Nat} {tv dv : Nat → Int} {rt c : Nat} (hR : zMD X ω m bk nv bh tv dv rt c) (hk : ∀ b, m ≤ b → b < m + 2446 + c → ω2.1 b = ω.1 b) (hz : ω2.2 = ω.2) : zMD X ω2 m bk nv bh tv dv rt c := by
  obtain ⟨gN, gm, g1, g2, g3, g4, g5, g6, g7, hM, hPt, hNu, hTk, hDp, hMd, hOn, hAl, hNx, hRa, hRb, hSu, hBn, hDd, hPw, hPr, hRe, hWo, hLa, hBe, hOt, hBt, hbk, hVn⟩ := hR
  exact ⟨gN, gm, g1, g2, g3, g4, g5, g6, g7, (by rw [hk _ (by omega) (by omega)]; exact hM), (hPt.kp (fun b h1 h2 => hk b (by omega) (by omega))), (by rw [hk _ (by omega) (by omega)]; exact hNu), (hTk.kp (fun b h1 h2 => hk b (by omega) (by omega))), (hDp.kp (fun b h1 h2 => hk b (by omega) (by omega))), (by rw [hk _ (by omega) (by omega)]; exact hMd), (by rw [hk _ (by omega) (by omega)]; exact hOn), (hAl.kp (fun b h1 h2 => hk b (by omega) (by omega))), (hNx.kp (fun b h1 h2 => hk b (by omega) (by omega))), (hRa.kp (fun b h1 h2 => hk b (by omega) (by omega))), (hRb.kp (fun b h1 h2 => hk b (by omega) (by omega))), (by rw [hk _ (by omega) (by omega)]; exact hSu), (by rw [hk _ (by omega) (by omega)]; exact hBn), (hDd.kp (fun b h1 h2 => hk b (by omega) (by omega))), (hPw.kp (fun b h1 h2 => hk b (by omega) (by omega))), (by rw [hk _ (by omega) (by omega)]; exact hPr), (by rw [hk _ (by omega) (by omega)]; exact hRe), (hWo.kp (fun b h1 h2 => hk b (by omega) (by omega))), (hLa.kp (fun b h1 h2 => hk b (by omega) (by omega))), (by rw [hk _ (by omega) (by omega)]; exact hBe), (by rw [hk _ (by omega) (by omega)]; exact hOt), (hBt.kp (fun b h1 h2 => hk b (by omega) (by omega)) hz), hbk, hVn⟩
def zKp (m : Nat) (ω w : zWd) : Prop := (∀ b : Nat, b < m → w.1 b = ω.1 b) ∧ w.2 = ω.2
theorem zKp.rf {m : Nat} {ω : zWd} : zKp m ω ω := ⟨fun _ _ => rfl, rfl⟩
theorem zKp.u {m b : Nat} {ω w : zWd} {x : va_E} (h : zKp m ω w) (hb : m ≤ b) : zKp m ω (zU w b x) := ⟨fun c hc => by rw [zU_n (by omega)]; exact h.1 c hc, h.2⟩
theorem zKp.o {m lo hi : Nat} {ω w w2 : zWd} (h : zKp m ω w) (h2 : zOut lo hi w w2) (hl : m ≤ lo) : zKp m ω w2 := ⟨fun c hc => by rw [h2.1 c (by omega)]; exact h.1 c hc, h2.2.trans h.2⟩
set_option maxRecDepth 100000 in
set_option maxHeartbeats 4000000 in
theorem lp_X7_isRight {Γ : zG} {l0 : Launch} {X : zX} {ω : zWd} {m bh rt sp : Nat} {bk : Nat → Int → Int} {b : Int} (C : Zc Γ l0 X rmX7_isRight 4 cX7_isRight RX7) (E : Ze Γ (zpi (fun r w => w = ω ∧ ((zRt bk b ∧ r = 1) ∨ (¬ zRt bk b ∧ r = 0)))) 0 0 (some .boolean)) (hM : ω.1 m = some (zOb 7 (zMf m bh rt sp))) (hPt : zMx X ω (m + 1) 8 21 bk) (hbk : ∀ k : Nat, k < 8 → zBk (bk k)) (hb0 : 0 ≤ b ∧ b < 8) : ∀ (j i : Nat), i + j = 21 → Zw Γ ω 0 0 13 [some (.ref m), some (.int (zI b)), some (.int (zI (zs (bk b.toNat) i))), some (.int (zI (i : Int)))] [] := by
  have hf := hbk b.toNat (by omega)
  intro j
  induction j with
  | zero =>
    intro i hj
    have e1 : i = 21 := by omega
    subst e1
    have hsb := zs_b (f := bk b.toNat) (M := 1000) (n := 21) (fun k a b => hf k a (by omega))
    refine z_iload_n (i := 3) (pc := 13) C rfl rfl dX7_isRight_13 ?_
    refine z_bipush (pc := 14) C (by decide +kernel) dX7_isRight_14 ?_
    refine z_icmp_ge (tgt := 36) (pc := 16) C dX7_isRight_16 (by decide) (fun h16 => ?_) (fun h16 => absurd h16 (by omega))
    refine z_iload_n (i := 2) (pc := 36) C rfl rfl dX7_isRight_36 ?_
    refine z_sipush (pc := 37) C (by decide +kernel) dX7_isRight_37 ?_
    refine z_icmp_ne (tgt := 47) (pc := 40) C dX7_isRight_40 (by decide) (fun h40 => ?_) (fun h40 => ?_)
    · refine z_iconst (pc := 47) C dX7_isRight_47 ?_
      exact z_zret (pc := 48) C E (by decide +kernel) dX7_isRight_48 ⟨_, rfl, ⟨rfl, by first | exact Or.inl ⟨⟨hb0.1, hb0.2, by omega⟩, rfl⟩ | exact Or.inr ⟨fun h => by have := h.2.2; omega, rfl⟩⟩⟩
    · refine z_iconst (pc := 43) C dX7_isRight_43 ?_
      refine z_goto (tgt := 48) (pc := 44) C dX7_isRight_44 (by decide) ?_
      exact z_zret (pc := 48) C E (by decide +kernel) dX7_isRight_48 ⟨_, rfl, ⟨rfl, by first | exact Or.inl ⟨⟨hb0.1, hb0.2, by omega⟩, rfl⟩ | exact Or.inr ⟨fun h => by have := h.2.2; omega, rfl⟩⟩⟩
  | succ j ih =>
    intro i hj
    have hsb := zs_b (f := bk b.toNat) (M := 1000) (n := i) (fun k a b => hf k a (by omega))
    have hfi := hf i (by omega) (by omega)
    refine z_iload_n (i := 3) (pc := 13) C rfl rfl dX7_isRight_13 ?_
    refine z_bipush (pc := 14) C (by decide +kernel) dX7_isRight_14 ?_
    refine z_icmp_ge (tgt := 36) (pc := 16) C dX7_isRight_16 (by decide) (fun h16 => absurd h16 (by omega)) (fun h16 => ?_)
    refine z_iload_n (i := 2) (pc := 19) C rfl rfl dX7_isRight_19 ?_
    refine z_aload_n (i := 0) (pc := 20) C rfl rfl dX7_isRight_20 ?_
    refine g_X7_11 (pc := 21) C hM rfl dX7_isRight_21 ?_
    refine z_iload_n (i := 1) (pc := 24) C rfl rfl dX7_isRight_24 ?_
    refine z_aaload (pc := 25) C hPt.1 rfl dX7_isRight_25 ?_
    refine z_iload_n (i := 3) (pc := 26) C rfl rfl dX7_isRight_26 ?_
    refine z_iaload (pc := 27) C (hPt.2 b.toNat (by omega)) dX7_isRight_27 ?_
    refine z_iadd (pc := 28) C dX7_isRight_28 ?_
    refine z_istore_n (i := 2) (lv' := [_, _, _, _]) (pc := 29) C rfl (by decide) rfl rfl dX7_isRight_29 ?_
    refine z_iinc (i := 3) (lv' := [_, _, _, _]) (pc := 30) C rfl (by decide) rfl rfl dX7_isRight_30 ?_
    refine z_goto (tgt := 13) (pc := 33) C dX7_isRight_33 (by decide) ?_
    exact ih (i + 1) (by omega)
set_option maxRecDepth 100000 in
set_option maxHeartbeats 4000000 in
theorem c_X7_isRight {l0 : Launch} {X : zX} {ω : zWd} {m bh rt sp : Nat} {bk : Nat → Int → Int} {b : Int} (hM : ω.1 m = some (zOb 7 (zMf m bh rt sp))) (hPt : zMx X ω (m + 1) 8 21 bk) (hbk : ∀ k : Nat, k < 8 → zBk (bk k)) (hbr : -2147483648 ≤ b ∧ b < 2147483648) : zMet l0 yX7_isRight cX7_isRight 4 (some .boolean) rmX7_isRight X [.ref m, .int (zI b)] ω (zpi (fun r w => w = ω ∧ ((zRt bk b ∧ r = 1) ∨ (¬ zRt bk b ∧ r = 0)))) := by
  refine zMet.intro (by decide) (Nat.le_of_ble_eq_true rfl) ?_
  intro Γ C E N
  show Zw Γ ω 0 0 0 [some _, some _, none, none] []
  refine z_iload_n (i := 1) (pc := 0) C rfl rfl dX7_isRight_0 ?_
  refine z_callSi (pc := 1) C (c_X7_isBook hbr) k_X7_84 zy_X7_isBook.2 rfl rfl ⟨(Nat.le_of_ble_eq_true rfl), (Nat.le_of_ble_eq_true rfl)⟩ (Nat.le_of_ble_eq_true rfl) dX7_isRight_1 ⟨rfl, rfl⟩ ⟨(Nat.le_of_ble_eq_true rfl), (Nat.le_of_ble_eq_true rfl)⟩ (fun rv ω' hp => ?_)
  obtain ⟨hw', hib⟩ := hp
  rw [hw']
  clear hw'
  refine z_if_ne (tgt := 9) (pc := 4) C dX7_isRight_4 (by decide) (fun h4 => ?_) (fun h4 => ?_)
  · refine z_iconst (pc := 9) C dX7_isRight_9 ?_
    refine z_istore_n (i := 2) (lv' := [_, _, _, _]) (pc := 10) C rfl (by decide) rfl rfl dX7_isRight_10 ?_
    refine z_iconst (pc := 11) C dX7_isRight_11 ?_
    refine z_istore_n (i := 3) (lv' := [_, _, _, _]) (pc := 12) C rfl (by decide) rfl rfl dX7_isRight_12 ?_
    exact lp_X7_isRight C E hM hPt hbk (by omega) 21 0 rfl
  · refine z_iconst (pc := 7) C dX7_isRight_7 ?_
    exact z_zret (pc := 8) C E (by decide +kernel) dX7_isRight_8 ⟨_, rfl, ⟨rfl, Or.inr ⟨fun h => by have h1 := h.1; have h2 := h.2.1; omega, rfl⟩⟩⟩
set_option maxRecDepth 100000 in
set_option maxHeartbeats 4000000 in
theorem c_X7_set {l0 : Launch} {X : zX} {ω : zWd} {m : Nat} {bk : Nat → Int → Int} {nv : Int} {bh : Nat} {tv dv : Nat → Int} {rt c : Nat} {b s v : Int} (hR : zMD X ω m bk nv bh tv dv rt c) (hbr : -2147483648 ≤ b ∧ b < 2147483648) (hsr : -2147483648 ≤ s ∧ s < 2147483648) (hvr : -2147483648 ≤ v ∧ v < 2147483648) : zMet l0 yX7_set cX7_set 4 (some .boolean) rmX7_set X [.ref m, .int (zI b), .int (zI s), .int (zI v)] ω (zpi (fun r w => zKp m ω w ∧ (((0 ≤ b ∧ b < 8) ∧ (0 ≤ s ∧ s ≤ 20) ∧ (0 ≤ v ∧ v ≤ 1000) ∧ r = 1 ∧ zMD X w m (va_up bk b.toNat (zup (bk b.toNat) s v)) nv bh tv dv rt c) ∨ (¬ ((0 ≤ b ∧ b < 8) ∧ (0 ≤ s ∧ s ≤ 20) ∧ (0 ≤ v ∧ v ≤ 1000)) ∧ r = 0 ∧ zMD X w m bk nv bh tv dv rt c)))) := by
  refine zMet.intro (by decide) (Nat.le_of_ble_eq_true rfl) ?_
  intro Γ C E N
  show Zw Γ ω 0 0 0 [some _, some _, some _, some _] []
  have hR0 := hR
  obtain ⟨gN, gm, g1, g2, g3, g4, g5, g6, g7, hM, hPt, hNu, hTk, hDp, hMd, hOn, hAl, hNx, hRa, hRb, hSu, hBn, hDd, hPw, hPr, hRe, hWo, hLa, hBe, hOt, hBt, hbk, hVn⟩ := hR
  refine z_iload_n (i := 1) (pc := 0) C rfl rfl dX7_set_0 ?_
  refine z_callSi (pc := 1) C (c_X7_isBook hbr) k_X7_84 zy_X7_isBook.2 rfl rfl ⟨(Nat.le_of_ble_eq_true rfl), (Nat.le_of_ble_eq_true rfl)⟩ (Nat.le_of_ble_eq_true rfl) dX7_set_1 ⟨rfl, rfl⟩ ⟨(Nat.le_of_ble_eq_true rfl), (Nat.le_of_ble_eq_true rfl)⟩ (fun rv ω' hp => ?_)
  obtain ⟨hw', hib⟩ := hp
  rw [hw']
  clear hw'
  refine z_if_eq (tgt := 28) (pc := 4) C dX7_set_4 (by decide) (fun h4 => ?_) (fun h4 => ?_)
  · refine z_iconst (pc := 28) C dX7_set_28 ?_
    exact z_zret (pc := 29) C E (by decide +kernel) dX7_set_29 ⟨_, rfl, ⟨zKp.rf, Or.inr ⟨by omega, rfl, hR0⟩⟩⟩
  · refine z_iload_n (i := 2) (pc := 7) C rfl rfl dX7_set_7 ?_
    refine z_iconst (pc := 8) C dX7_set_8 ?_
    refine z_bipush (pc := 9) C (by decide +kernel) dX7_set_9 ?_
    refine z_callSi (pc := 11) C (c_X7_in) k_X7_80 zy_X7_in.2 rfl rfl ⟨(Nat.le_of_ble_eq_true rfl), (Nat.le_of_ble_eq_true rfl)⟩ (Nat.le_of_ble_eq_true rfl) dX7_set_11 ⟨rfl, rfl⟩ ⟨(Nat.le_of_ble_eq_true rfl), (Nat.le_of_ble_eq_true rfl)⟩ (fun rv ω' hp => ?_)
    obtain ⟨hw', hi⟩ := hp
    rw [hw']
    clear hw'
    refine z_if_eq (tgt := 28) (pc := 14) C dX7_set_14 (by decide) (fun h14 => ?_) (fun h14 => ?_)
    · refine z_iconst (pc := 28) C dX7_set_28 ?_
      exact z_zret (pc := 29) C E (by decide +kernel) dX7_set_29 ⟨_, rfl, ⟨zKp.rf, Or.inr ⟨by omega, rfl, hR0⟩⟩⟩
    · refine z_iload_n (i := 3) (pc := 17) C rfl rfl dX7_set_17 ?_
      refine z_iconst (pc := 18) C dX7_set_18 ?_
      refine z_sipush (pc := 19) C (by decide +kernel) dX7_set_19 ?_
      refine z_callSi (pc := 22) C (c_X7_in) k_X7_80 zy_X7_in.2 rfl rfl ⟨(Nat.le_of_ble_eq_true rfl), (Nat.le_of_ble_eq_true rfl)⟩ (Nat.le_of_ble_eq_true rfl) dX7_set_22 ⟨rfl, rfl⟩ ⟨(Nat.le_of_ble_eq_true rfl), (Nat.le_of_ble_eq_true rfl)⟩ (fun rv ω' hp => ?_)
      obtain ⟨hw', hi2⟩ := hp
      rw [hw']
      clear hw'
      refine z_if_ne (tgt := 30) (pc := 25) C dX7_set_25 (by decide) (fun h25 => ?_) (fun h25 => ?_)
      · refine z_aload_n (i := 0) (pc := 30) C rfl rfl dX7_set_30 ?_
        refine g_X7_11 (pc := 31) C hM rfl dX7_set_31 ?_
        refine z_iload_n (i := 1) (pc := 34) C rfl rfl dX7_set_34 ?_
        refine z_aaload (pc := 35) C hPt.1 rfl dX7_set_35 ?_
        refine z_iload_n (i := 2) (pc := 36) C rfl rfl dX7_set_36 ?_
        refine z_iload_n (i := 3) (pc := 37) C rfl rfl dX7_set_37 ?_
        refine z_iastore (pc := 38) C (hPt.2 b.toNat (by omega)) dX7_set_38 ?_
        refine z_iconst (pc := 39) C dX7_set_39 ?_
        exact z_zret (pc := 40) C E (by decide +kernel) dX7_set_40 ⟨_, rfl, ⟨zKp.rf.u (by omega), Or.inl ⟨by omega, by omega, by omega, rfl, ⟨gN, gm, g1, g2, g3, g4, g5, g6, g7, (by rw [zU_n (by omega)]; exact hM), hPt.u (by omega), (by rw [zU_n (by omega)]; exact hNu), (hTk.kp (fun b h1 h2 => zU_n (by omega))), (hDp.kp (fun b h1 h2 => zU_n (by omega))), (by rw [zU_n (by omega)]; exact hMd), (by rw [zU_n (by omega)]; exact hOn), (hAl.kp (fun b h1 h2 => zU_n (by omega))), (hNx.kp (fun b h1 h2 => zU_n (by omega))), (hRa.kp (fun b h1 h2 => zU_n (by omega))), (hRb.kp (fun b h1 h2 => zU_n (by omega))), (by rw [zU_n (by omega)]; exact hSu), (by rw [zU_n (by omega)]; exact hBn), (hDd.kp (fun b h1 h2 => zU_n (by omega))), (hPw.kp (fun b h1 h2 => zU_n (by omega))), (by rw [zU_n (by omega)]; exact hPr), (by rw [zU_n (by omega)]; exact hRe), (hWo.kp (fun b h1 h2 => zU_n (by omega))), (hLa.kp (fun b h1 h2 => zU_n (by omega))), (by rw [zU_n (by omega)]; exact hBe), (by rw [zU_n (by omega)]; exact hOt), (hBt.kp (fun b h1 h2 => zU_n (by omega)) rfl), (fun k hk => by
  by_cases e : k = b.toNat
  · rw [e, va_up_self]
    intro k k0 k1
    by_cases e : k = s
    · subst e; rw [zup_s]; omega
    · rw [zup_n e]; exact hbk b.toNat (by omega) k k0 k1
  · rw [va_up_ne _ _ e]; exact hbk k hk), hVn⟩⟩⟩⟩
      · refine z_iconst (pc := 28) C dX7_set_28 ?_
        exact z_zret (pc := 29) C E (by decide +kernel) dX7_set_29 ⟨_, rfl, ⟨zKp.rf, Or.inr ⟨by omega, rfl, hR0⟩⟩⟩
set_option maxRecDepth 100000 in
set_option maxHeartbeats 4000000 in
theorem c_X7_parts {l0 : Launch} {X : zX} {ω : zWd} {m : Nat} {bk : Nat → Int → Int} {nv : Int} {bh : Nat} {tv dv : Nat → Int} {rt c : Nat} {b s : Int} (hR : zMD X ω m bk nv bh tv dv rt c) (hbr : -2147483648 ≤ b ∧ b < 2147483648) (hsr : -2147483648 ≤ s ∧ s < 2147483648) : zMet l0 yX7_parts cX7_parts 3 (some .int) rmX7_parts X [.ref m, .int (zI b), .int (zI s)] ω (zpi (fun r w => w = ω ∧ (((0 ≤ b ∧ b < 8) ∧ (0 ≤ s ∧ s ≤ 20) ∧ r = bk b.toNat s) ∨ (¬ ((0 ≤ b ∧ b < 8) ∧ (0 ≤ s ∧ s ≤ 20)) ∧ r = -1)))) := by
  refine zMet.intro (by decide) (Nat.le_of_ble_eq_true rfl) ?_
  intro Γ C E N
  show Zw Γ ω 0 0 0 [some _, some _, some _] []
  obtain ⟨gN, gm, g1, g2, g3, g4, g5, g6, g7, hM, hPt, hNu, hTk, hDp, hMd, hOn, hAl, hNx, hRa, hRb, hSu, hBn, hDd, hPw, hPr, hRe, hWo, hLa, hBe, hOt, hBt, hbk, hVn⟩ := hR
  refine z_iload_n (i := 1) (pc := 0) C rfl rfl dX7_parts_0 ?_
  refine z_callSi (pc := 1) C (c_X7_isBook hbr) k_X7_84 zy_X7_isBook.2 rfl rfl ⟨(Nat.le_of_ble_eq_true rfl), (Nat.le_of_ble_eq_true rfl)⟩ (Nat.le_of_ble_eq_true rfl) dX7_parts_1 ⟨rfl, rfl⟩ ⟨(Nat.le_of_ble_eq_true rfl), (Nat.le_of_ble_eq_true rfl)⟩ (fun rv ω' hp => ?_)
  obtain ⟨hw', hib⟩ := hp
  rw [hw']
  clear hw'
  refine z_if_eq (tgt := 28) (pc := 4) C dX7_parts_4 (by decide) (fun h4 => ?_) (fun h4 => ?_)
  · refine z_iconst (pc := 28) C dX7_parts_28 ?_
    exact z_iret (pc := 29) C E dX7_parts_29 ⟨_, rfl, ⟨rfl, by first | exact Or.inl ⟨by omega, by omega, rfl⟩ | exact Or.inr ⟨by omega, rfl⟩⟩⟩
  · refine z_iload_n (i := 2) (pc := 7) C rfl rfl dX7_parts_7 ?_
    refine z_iconst (pc := 8) C dX7_parts_8 ?_
    refine z_bipush (pc := 9) C (by decide +kernel) dX7_parts_9 ?_
    refine z_callSi (pc := 11) C (c_X7_in) k_X7_80 zy_X7_in.2 rfl rfl ⟨(Nat.le_of_ble_eq_true rfl), (Nat.le_of_ble_eq_true rfl)⟩ (Nat.le_of_ble_eq_true rfl) dX7_parts_11 ⟨rfl, rfl⟩ ⟨(Nat.le_of_ble_eq_true rfl), (Nat.le_of_ble_eq_true rfl)⟩ (fun rv ω' hp => ?_)
    obtain ⟨hw', hi⟩ := hp
    rw [hw']
    clear hw'
    refine z_if_eq (tgt := 28) (pc := 14) C dX7_parts_14 (by decide) (fun h14 => ?_) (fun h14 => ?_)
    · refine z_iconst (pc := 28) C dX7_parts_28 ?_
      exact z_iret (pc := 29) C E dX7_parts_29 ⟨_, rfl, ⟨rfl, by first | exact Or.inl ⟨by omega, by omega, rfl⟩ | exact Or.inr ⟨by omega, rfl⟩⟩⟩
    · refine z_aload_n (i := 0) (pc := 17) C rfl rfl dX7_parts_17 ?_
      refine g_X7_11 (pc := 18) C hM rfl dX7_parts_18 ?_
      refine z_iload_n (i := 1) (pc := 21) C rfl rfl dX7_parts_21 ?_
      refine z_aaload (pc := 22) C hPt.1 rfl dX7_parts_22 ?_
      refine z_iload_n (i := 2) (pc := 23) C rfl rfl dX7_parts_23 ?_
      refine z_iaload (pc := 24) C (hPt.2 b.toNat (by omega)) dX7_parts_24 ?_
      refine z_goto (tgt := 29) (pc := 25) C dX7_parts_25 (by decide) ?_
      exact z_iret (pc := 29) C E dX7_parts_29 ⟨_, rfl, ⟨rfl, by first | exact Or.inl ⟨by omega, by omega, rfl⟩ | exact Or.inr ⟨by omega, rfl⟩⟩⟩
set_option maxRecDepth 100000 in
set_option maxHeartbeats 4000000 in
theorem c_X7_right {l0 : Launch} {X : zX} {ω : zWd} {m : Nat} {bk : Nat → Int → Int} {nv : Int} {bh : Nat} {tv dv : Nat → Int} {rt c : Nat} {b : Int} (hR : zMD X ω m bk nv bh tv dv rt c) (hbr : -2147483648 ≤ b ∧ b < 2147483648) : zMet l0 yX7_right cX7_right 2 (some .boolean) rmX7_right X [.ref m, .int (zI b)] ω (zpi (fun r w => w = ω ∧ ((zRt bk b ∧ r = 1) ∨ (¬ zRt bk b ∧ r = 0)))) := by
  refine zMet.intro (by decide) (Nat.le_of_ble_eq_true rfl) ?_
  intro Γ C E N
  show Zw Γ ω 0 0 0 [some _, some _] []
  obtain ⟨gN, gm, g1, g2, g3, g4, g5, g6, g7, hM, hPt, hNu, hTk, hDp, hMd, hOn, hAl, hNx, hRa, hRb, hSu, hBn, hDd, hPw, hPr, hRe, hWo, hLa, hBe, hOt, hBt, hbk, hVn⟩ := hR
  refine z_aload_n (i := 0) (pc := 0) C rfl rfl dX7_right_0 ?_
  refine z_iload_n (i := 1) (pc := 1) C rfl rfl dX7_right_1 ?_
  refine z_callVi (pc := 2) C (c_X7_isRight hM hPt hbk hbr) k_X7_88 zy_X7_isRight rfl rfl hM rfl rfl ⟨(Nat.le_of_ble_eq_true rfl), (Nat.le_of_ble_eq_true rfl)⟩ (Nat.le_of_ble_eq_true rfl) dX7_right_2 ⟨rfl, rfl⟩ ⟨(Nat.le_of_ble_eq_true rfl), (Nat.le_of_ble_eq_true rfl)⟩ (fun rv ω' hp => ?_)
  obtain ⟨hw', hp⟩ := hp
  rw [hw']
  clear hw'
  have hrr : rv = 0 ∨ rv = 1 := by rcases hp with h | h <;> omega
  exact z_zret (pc := 5) C E (by rcases hrr with rfl | rfl <;> decide +kernel) dX7_right_5 ⟨_, rfl, ⟨rfl, hp⟩⟩
theorem zst0 (f : Int → Int) : zst f 0 = zs (fun k => k * f k) 21 := zs_c (fun k a b => by (try dsimp only); rw [show max (k - 0) 0 = k by omega])
set_option maxRecDepth 100000 in
set_option maxHeartbeats 4000000 in
theorem lp_X7_mean {Γ : zG} {l0 : Launch} {X : zX} {ω : zWd} {m bh rt sp : Nat} {bk : Nat → Int → Int} {b : Int} (C : Zc Γ l0 X rmX7_mean 4 cX7_mean RX7) (E : Ze Γ (zpi (fun r w => w = ω ∧ r = zst (bk b.toNat) 0)) 0 0 (some .int)) (hM : ω.1 m = some (zOb 7 (zMf m bh rt sp))) (hPt : zMx X ω (m + 1) 8 21 bk) (hbk : ∀ k : Nat, k < 8 → zBk (bk k)) (hb0 : 0 ≤ b ∧ b < 8) : ∀ (j i : Nat), i + j = 21 → Zw Γ ω 0 0 4 [some (.ref m), some (.int (zI b)), some (.int (zI (zs (fun k => k * bk b.toNat k) i))), some (.int (zI (i : Int)))] [] := by
  intro j
  induction j with
  | zero =>
    intro i hj
    have e1 : i = 21 := by omega
    subst e1
    refine z_iload_n (i := 3) (pc := 4) C rfl rfl dX7_mean_4 ?_
    refine z_bipush (pc := 5) C (by decide +kernel) dX7_mean_5 ?_
    refine z_icmp_ge (tgt := 29) (pc := 7) C dX7_mean_7 (by decide) (fun h7 => ?_) (fun h7 => absurd h7 (by omega))
    refine z_iload_n (i := 2) (pc := 29) C rfl rfl dX7_mean_29 ?_
    exact z_iret (pc := 30) C E dX7_mean_30 ⟨_, rfl, ⟨rfl, (zst0 _).symm⟩⟩
  | succ j ih =>
    intro i hj
    refine z_iload_n (i := 3) (pc := 4) C rfl rfl dX7_mean_4 ?_
    refine z_bipush (pc := 5) C (by decide +kernel) dX7_mean_5 ?_
    refine z_icmp_ge (tgt := 29) (pc := 7) C dX7_mean_7 (by decide) (fun h7 => absurd h7 (by omega)) (fun h7 => ?_)
    refine z_iload_n (i := 2) (pc := 10) C rfl rfl dX7_mean_10 ?_
    refine z_iload_n (i := 3) (pc := 11) C rfl rfl dX7_mean_11 ?_
    refine z_aload_n (i := 0) (pc := 12) C rfl rfl dX7_mean_12 ?_
    refine g_X7_11 (pc := 13) C hM rfl dX7_mean_13 ?_
    refine z_iload_n (i := 1) (pc := 16) C rfl rfl dX7_mean_16 ?_
    refine z_aaload (pc := 17) C hPt.1 rfl dX7_mean_17 ?_
    refine z_iload_n (i := 3) (pc := 18) C rfl rfl dX7_mean_18 ?_
    refine z_iaload (pc := 19) C (hPt.2 b.toNat (by omega)) dX7_mean_19 ?_
    refine z_imul (pc := 20) C dX7_mean_20 ?_
    refine z_iadd (pc := 21) C dX7_mean_21 ?_
    refine z_istore_n (i := 2) (lv' := [_, _, _, _]) (pc := 22) C rfl (by decide) rfl rfl dX7_mean_22 ?_
    refine z_iinc (i := 3) (lv' := [_, _, _, _]) (pc := 23) C rfl (by decide) rfl rfl dX7_mean_23 ?_
    refine z_goto (tgt := 4) (pc := 26) C dX7_mean_26 (by decide) ?_
    exact ih (i + 1) (by omega)
set_option maxRecDepth 100000 in
set_option maxHeartbeats 4000000 in
theorem c_X7_mean {l0 : Launch} {X : zX} {ω : zWd} {m bh rt sp : Nat} {bk : Nat → Int → Int} {b : Int} (hM : ω.1 m = some (zOb 7 (zMf m bh rt sp))) (hPt : zMx X ω (m + 1) 8 21 bk) (hbk : ∀ k : Nat, k < 8 → zBk (bk k)) (hb0 : 0 ≤ b ∧ b < 8) : zMet l0 yX7_mean cX7_mean 4 (some .int) rmX7_mean X [.ref m, .int (zI b)] ω (zpi (fun r w => w = ω ∧ r = zst (bk b.toNat) 0)) := by
  refine zMet.intro (by decide) (Nat.le_of_ble_eq_true rfl) ?_
  intro Γ C E N
  show Zw Γ ω 0 0 0 [some _, some _, none, none] []
  refine z_iconst (pc := 0) C dX7_mean_0 ?_
  refine z_istore_n (i := 2) (lv' := [_, _, _, _]) (pc := 1) C rfl (by decide) rfl rfl dX7_mean_1 ?_
  refine z_iconst (pc := 2) C dX7_mean_2 ?_
  refine z_istore_n (i := 3) (lv' := [_, _, _, _]) (pc := 3) C rfl (by decide) rfl rfl dX7_mean_3 ?_
  exact lp_X7_mean C E hM hPt hbk hb0 21 0 rfl
set_option maxRecDepth 100000 in
set_option maxHeartbeats 4000000 in
theorem lp_X7_stop {Γ : zG} {l0 : Launch} {X : zX} {ω : zWd} {m bh rt sp : Nat} {bk : Nat → Int → Int} {b d : Int} (C : Zc Γ l0 X rmX7_stop 5 cX7_stop RX7) (E : Ze Γ (zpi (fun r w => w = ω ∧ r = zst (bk b.toNat) d)) 0 0 (some .int)) (hM : ω.1 m = some (zOb 7 (zMf m bh rt sp))) (hPt : zMx X ω (m + 1) 8 21 bk) (hbk : ∀ k : Nat, k < 8 → zBk (bk k)) (hb0 : 0 ≤ b ∧ b < 8) (hd0 : 0 ≤ d ∧ d ≤ 20) : ∀ (j i : Nat), i + j = 21 → d < i → Zw Γ ω 0 0 7 [some (.ref m), some (.int (zI b)), some (.int (zI d)), some (.int (zI (zs (fun k => max (k - d) 0 * bk b.toNat k) i))), some (.int (zI (i : Int)))] [] := by
  intro j
  induction j with
  | zero =>
    intro i hj hdi
    have e1 : i = 21 := by omega
    subst e1
    refine z_iload (i := 4) (pc := 7) C rfl dX7_stop_7 ?_
    refine z_bipush (pc := 9) C (by decide +kernel) dX7_stop_9 ?_
    refine z_icmp_ge (tgt := 37) (pc := 11) C dX7_stop_11 (by decide) (fun h11 => ?_) (fun h11 => absurd h11 (by omega))
    refine z_iload_n (i := 3) (pc := 37) C rfl rfl dX7_stop_37 ?_
    exact z_iret (pc := 38) C E dX7_stop_38 ⟨_, rfl, ⟨rfl, rfl⟩⟩
  | succ j ih =>
    intro i hj hdi
    refine z_iload (i := 4) (pc := 7) C rfl dX7_stop_7 ?_
    refine z_bipush (pc := 9) C (by decide +kernel) dX7_stop_9 ?_
    refine z_icmp_ge (tgt := 37) (pc := 11) C dX7_stop_11 (by decide) (fun h11 => absurd h11 (by omega)) (fun h11 => ?_)
    refine z_iload_n (i := 3) (pc := 14) C rfl rfl dX7_stop_14 ?_
    refine z_iload (i := 4) (pc := 15) C rfl dX7_stop_15 ?_
    refine z_iload_n (i := 2) (pc := 17) C rfl rfl dX7_stop_17 ?_
    refine z_isub (pc := 18) C dX7_stop_18 ?_
    refine z_aload_n (i := 0) (pc := 19) C rfl rfl dX7_stop_19 ?_
    refine g_X7_11 (pc := 20) C hM rfl dX7_stop_20 ?_
    refine z_iload_n (i := 1) (pc := 23) C rfl rfl dX7_stop_23 ?_
    refine z_aaload (pc := 24) C hPt.1 rfl dX7_stop_24 ?_
    refine z_iload (i := 4) (pc := 25) C rfl dX7_stop_25 ?_
    refine z_iaload (pc := 27) C (hPt.2 b.toNat (by omega)) dX7_stop_27 ?_
    refine z_imul (pc := 28) C dX7_stop_28 ?_
    refine z_iadd (pc := 29) C dX7_stop_29 ?_
    rw [show (i : Int) - d = max ((i : Int) - d) 0 by omega]
    refine z_istore_n (i := 3) (lv' := [_, _, _, _, _]) (pc := 30) C rfl (by decide) rfl rfl dX7_stop_30 ?_
    refine z_iinc (i := 4) (lv' := [_, _, _, _, _]) (pc := 31) C rfl (by decide) rfl rfl dX7_stop_31 ?_
    refine z_goto (tgt := 7) (pc := 34) C dX7_stop_34 (by decide) ?_
    exact ih (i + 1) (by omega) (by omega)
set_option maxRecDepth 100000 in
set_option maxHeartbeats 4000000 in
theorem c_X7_stop {l0 : Launch} {X : zX} {ω : zWd} {m bh rt sp : Nat} {bk : Nat → Int → Int} {b d : Int} (hM : ω.1 m = some (zOb 7 (zMf m bh rt sp))) (hPt : zMx X ω (m + 1) 8 21 bk) (hbk : ∀ k : Nat, k < 8 → zBk (bk k)) (hb0 : 0 ≤ b ∧ b < 8) (hd0 : 0 ≤ d ∧ d ≤ 20) : zMet l0 yX7_stop cX7_stop 5 (some .int) rmX7_stop X [.ref m, .int (zI b), .int (zI d)] ω (zpi (fun r w => w = ω ∧ r = zst (bk b.toNat) d)) := by
  refine zMet.intro (by decide) (Nat.le_of_ble_eq_true rfl) ?_
  intro Γ C E N
  show Zw Γ ω 0 0 0 [some _, some _, some _, none, none] []
  refine z_iconst (pc := 0) C dX7_stop_0 ?_
  refine z_istore_n (i := 3) (lv' := [_, _, _, _, _]) (pc := 1) C rfl (by decide) rfl rfl dX7_stop_1 ?_
  refine z_iload_n (i := 2) (pc := 2) C rfl rfl dX7_stop_2 ?_
  refine z_iconst (pc := 3) C dX7_stop_3 ?_
  refine z_iadd (pc := 4) C dX7_stop_4 ?_
  refine z_istore (i := 4) (lv' := [_, _, _, _, _]) (pc := 5) C (by decide) rfl rfl dX7_stop_5 ?_
  have e0 : zs (fun k => max (k - d) 0 * bk b.toNat k) (d + 1).toNat = 0 := zs_n (fun k a b => by (try dsimp only); rw [show max (k - d) 0 = 0 by omega, Int.zero_mul])
  have h := lp_X7_stop C E hM hPt hbk hb0 hd0 (20 - d).toNat (d + 1).toNat (by omega) (by omega)
  rw [e0, show (((d + 1).toNat : Nat) : Int) = d + 1 by omega] at h
  exact h
