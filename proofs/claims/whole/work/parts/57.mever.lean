theorem zv_mono {B : Int} {f : Int → Int} (hB : 0 < B) {m : Nat} : ∀ {n : Nat}, m ≤ n → (∀ k : Int, 0 ≤ k → k < n → 0 ≤ f k) → zv B f m ≤ zv B f n
  | 0, h, _ => by rw [show m = 0 by omega]; omega
  | n + 1, h, hf => by
    by_cases e : m = n + 1
    · rw [e]; omega
    · have h1 := zv_mono hB (m := m) (n := n) (by omega) (fun k a b => hf k a (by omega))
      have h2 := Int.mul_nonneg (hf n (by omega) (by omega)) (Int.le_of_lt (zpw hB n))
      rw [zv_s]
      omega
set_option maxRecDepth 100000 in
set_option maxHeartbeats 4000000 in
theorem lp_X7_multiply {Γ : zG} {l0 : Launch} {X : zX} {m bh rt a b d : Nat} {f g : Int → Int} {U V : Int} {ω : zWd} {h : Int → Int} (C : Zc Γ l0 X rmX7_multiply 5 cX7_multiply RX7) (E : Ze Γ (zpv (fun w => ∃ g2, w = zU ω d (zAI X 72 g2) ∧ zNm g2 (U * V))) 0 0 none) (hM : ω.1 m = some (zOb 7 (zMf m bh rt 72))) (ha : ω.1 a = some (zAI X 72 f)) (hU : zNm f U) (hb : ω.1 b = some (zAI X 72 g)) (hV : zNm g V) (hda : a ≠ d) (hdb : b ≠ d) (hfit : U * V < 1000 ^ 72) (hd : ω.1 d = some (zAI X 72 h)) : ∀ (j i : Nat) (h : Int → Int), i + j = 72 → zNm h (U * zv 1000 g i) → Zw Γ (zU ω d (zAI X 72 h)) 0 0 7 [some (.ref m), some (.ref a), some (.ref b), some (.ref d), some (.int (zI (i : Int)))] [] := by
  have hUb := hU.b
  have hmd := z_neOI hM hd
  intro j
  induction j with
  | zero =>
    intro i h hj hh
    have e1 : i = 72 := by omega
    subst e1
    refine z_iload (i := 4) (pc := 7) C rfl dX7_multiply_7 ?_
    refine z_bipush (pc := 9) C (by decide +kernel) dX7_multiply_9 ?_
    refine z_icmp_ge (tgt := 39) (pc := 11) C dX7_multiply_11 (by decide) (fun h11 => ?_) (fun h11 => absurd h11 (by omega))
    exact z_vret (pc := 39) C E dX7_multiply_39 ⟨rfl, ⟨h, rfl, hh.e (by rw [hV.2])⟩⟩
  | succ j ih =>
    intro i h hj hh
    have hgi := hV.1 i (by omega) (by omega)
    have es : U * zv 1000 g (i + 1) = U * zv 1000 g i + g i * U * 1000 ^ i := by rw [zv_s]; grind
    have hmo : zv 1000 g (i + 1) ≤ V := by
      rw [← hV.2]
      exact zv_mono (by decide) (by omega) (fun k a b => (hV.1 k a b).1)
    have hmu : U * zv 1000 g (i + 1) ≤ U * V := Int.mul_le_mul_of_nonneg_left hmo hUb.1
    refine z_iload (i := 4) (pc := 7) C rfl dX7_multiply_7 ?_
    refine z_bipush (pc := 9) C (by decide +kernel) dX7_multiply_9 ?_
    refine z_icmp_ge (tgt := 39) (pc := 11) C dX7_multiply_11 (by decide) (fun h11 => absurd h11 (by omega)) (fun h11 => ?_)
    refine z_aload_n (i := 2) (pc := 14) C rfl rfl dX7_multiply_14 ?_
    refine z_iload (i := 4) (pc := 15) C rfl dX7_multiply_15 ?_
    refine z_iaload (pc := 17) C (zU_n' hdb hb) dX7_multiply_17 ?_
    refine z_if_eq (tgt := 33) (pc := 18) C dX7_multiply_18 (by decide) (fun h18 => ?_) (fun h18 => ?_)
    · have es0 : U * zv 1000 g (i + 1) = U * zv 1000 g i := by rw [es, h18, Int.zero_mul, Int.zero_mul, Int.add_zero]
      rw [← es0] at hh
      have hgo := ih (i + 1) h (by omega) hh
      refine z_iinc (i := 4) (lv' := [_, _, _, _, _]) (pc := 33) C rfl (by decide) rfl rfl dX7_multiply_33 ?_
      refine z_goto (tgt := 7) (pc := 36) C dX7_multiply_36 (by decide) ?_
      exact hgo
    · refine z_aload_n (i := 0) (pc := 21) C rfl rfl dX7_multiply_21 ?_
      refine z_aload_n (i := 3) (pc := 22) C rfl rfl dX7_multiply_22 ?_
      refine z_aload_n (i := 1) (pc := 23) C rfl rfl dX7_multiply_23 ?_
      refine z_aload_n (i := 2) (pc := 24) C rfl rfl dX7_multiply_24 ?_
      refine z_iload (i := 4) (pc := 25) C rfl dX7_multiply_25 ?_
      refine z_iaload (pc := 27) C (zU_n' hdb hb) dX7_multiply_27 ?_
      refine z_iload (i := 4) (pc := 28) C rfl dX7_multiply_28 ?_
      refine z_callVv (pc := 30) C (c_X7_add (up := i) (sp := 72) (zU_n' hmd hM) rfl (zU_s _ _ _) hh (zU_n' hda ha) hU (Ne.symm hda) (by omega) (by omega) (by omega)) k_X7_120 zy_X7_add rfl rfl (zU_n' hmd hM) rfl rfl ⟨(Nat.le_of_ble_eq_true rfl), (Nat.le_of_ble_eq_true rfl)⟩ (Nat.le_of_ble_eq_true rfl) dX7_multiply_30 ⟨rfl, rfl⟩ ⟨(Nat.le_of_ble_eq_true rfl), (Nat.le_of_ble_eq_true rfl)⟩ (fun ω' hp => ?_)
      obtain ⟨g2, rfl, hg2⟩ := hp
      rw [zU_u]
      rw [← es] at hg2
      have hgo := ih (i + 1) g2 (by omega) hg2
      refine z_iinc (i := 4) (lv' := [_, _, _, _, _]) (pc := 33) C rfl (by decide) rfl rfl dX7_multiply_33 ?_
      refine z_goto (tgt := 7) (pc := 36) C dX7_multiply_36 (by decide) ?_
      exact hgo
set_option maxRecDepth 100000 in
set_option maxHeartbeats 4000000 in
theorem c_X7_multiply {l0 : Launch} {X : zX} {m bh rt a b d : Nat} {f g : Int → Int} {U V : Int} {ω : zWd} {h : Int → Int} (hM : ω.1 m = some (zOb 7 (zMf m bh rt 72))) (ha : ω.1 a = some (zAI X 72 f)) (hU : zNm f U) (hb : ω.1 b = some (zAI X 72 g)) (hV : zNm g V) (hda : a ≠ d) (hdb : b ≠ d) (hfit : U * V < 1000 ^ 72) (hd : ω.1 d = some (zAI X 72 h)) : zMet l0 yX7_multiply cX7_multiply 5 none rmX7_multiply X [.ref m, .ref a, .ref b, .ref d] ω (zpv (fun w => ∃ g2, w = zU ω d (zAI X 72 g2) ∧ zNm g2 (U * V))) := by
  refine zMet.intro (by decide) (Nat.le_of_ble_eq_true rfl) ?_
  intro Γ C E N
  show Zw Γ ω 0 0 0 [some _, some _, some _, some _, none] []
  refine z_aload_n (i := 3) (pc := 0) C rfl rfl dX7_multiply_0 ?_
  refine z_callSv (pc := 1) C (c_X7_zero hd) k_X7_112 zy_X7_zero.2 rfl rfl ⟨(Nat.le_of_ble_eq_true rfl), (Nat.le_of_ble_eq_true rfl)⟩ (Nat.le_of_ble_eq_true rfl) dX7_multiply_1 ⟨rfl, rfl⟩ ⟨(Nat.le_of_ble_eq_true rfl), (Nat.le_of_ble_eq_true rfl)⟩ (fun ω' hp => ?_)
  obtain ⟨g2, rfl, hg2⟩ := hp
  refine z_iconst (pc := 4) C dX7_multiply_4 ?_
  refine z_istore (i := 4) (lv' := [_, _, _, _, _]) (pc := 5) C (by decide) rfl rfl dX7_multiply_5 ?_
  exact lp_X7_multiply C E hM ha hU hb hV hda hdb hfit hd 72 0 g2 rfl (hg2.e (by show 0 = U * 0; omega))
def zFe (m : Nat) (ω0 ω : zWd) : Prop := (∀ b : Nat, (b < m ∨ (m < b ∧ b < m + 10) ∨ (m + 10 < b ∧ b < m + 1945) ∨ b = m + 1946 ∨ m + 2079 ≤ b) → ω.1 b = ω0.1 b) ∧ ω.2 = ω0.2
theorem zFe.u {m b : Nat} {ω0 ω : zWd} {x : va_E} (h : zFe m ω0 ω) (hb : b = m ∨ b = m + 10 ∨ b = m + 1945 ∨ (m + 1947 ≤ b ∧ b < m + 2079)) : zFe m ω0 (zU ω b x) := ⟨fun c hc => by rw [zU_n (by omega)]; exact h.1 c hc, h.2⟩
def zEv (X : zX) (ω0 ω : zWd) (m rt : Nat) (N : Int) (hd : Nat) (Dv : Nat → Int) (hp : Nat) (Pv : Nat → Int) (Rp : (Int → Int) → Prop) : Prop := ∃ gN g2 g4 g5 : Int → Int, zFe m ω0 ω ∧ ω.1 m = some (zOb 7 (zMf m 10 rt 72)) ∧ (ω.1 (m + 10) = some (zAI X 72 gN) ∧ zNm gN N) ∧ zMw X ω (m + 1947) 64 hd Dv ∧ zMw X ω (m + 2012) 64 hp Pv ∧ ω.1 (m + 2077) = some (zAI X 72 g4) ∧ (ω.1 (m + 2078) = some (zAI X 72 g5) ∧ Rp g5) ∧ ω.1 (m + 1945) = some (zAI X 72 g2)
theorem zEv.nu {X : zX} {ω0 ω : zWd} {m rt : Nat} {N : Int} {hd : Nat} {Dv : Nat → Int} {hp : Nat} {Pv : Nat → Int} {Rp : (Int → Int) → Prop} {g : Int → Int} {v : Int} (h : zEv X ω0 ω m rt N hd Dv hp Pv Rp) (hg : zNm g v) : zEv X ω0 (zU ω (m + 10) (zAI X 72 g)) m rt v hd Dv hp Pv Rp := by
  obtain ⟨gN, g2, g4, g5, kF, kM, ⟨kN, kNv⟩, kD, kP, kR, ⟨kE, kEv⟩, kS⟩ := h
  exact ⟨g, g2, g4, g5, kF.u (by omega), zU_n' (by omega) kM, ⟨zU_s _ _ _, hg⟩, kD.kp (fun b _ _ => zU_n (by omega)), kP.kp (fun b _ _ => zU_n (by omega)), zU_n' (by omega) kR, ⟨zU_n' (by omega) kE, kEv⟩, zU_n' (by omega) kS⟩
theorem zEv.pr {X : zX} {ω0 ω : zWd} {m rt : Nat} {N : Int} {hd : Nat} {Dv : Nat → Int} {hp : Nat} {Pv : Nat → Int} {Rp : (Int → Int) → Prop} {g : Int → Int} (h : zEv X ω0 ω m rt N hd Dv hp Pv Rp) : zEv X ω0 (zU ω (m + 2077) (zAI X 72 g)) m rt N hd Dv hp Pv Rp := by
  obtain ⟨gN, g2, g4, g5, kF, kM, ⟨kN, kNv⟩, kD, kP, kR, ⟨kE, kEv⟩, kS⟩ := h
  exact ⟨gN, g2, g, g5, kF.u (by omega), zU_n' (by omega) kM, ⟨zU_n' (by omega) kN, kNv⟩, kD.kp (fun b _ _ => zU_n (by omega)), kP.kp (fun b _ _ => zU_n (by omega)), zU_s _ _ _, ⟨zU_n' (by omega) kE, kEv⟩, zU_n' (by omega) kS⟩
theorem zEv.re {X : zX} {ω0 ω : zWd} {m rt : Nat} {N : Int} {hd : Nat} {Dv : Nat → Int} {hp : Nat} {Pv : Nat → Int} {Rp : (Int → Int) → Prop} {g : Int → Int} {Rp2 : (Int → Int) → Prop} (h : zEv X ω0 ω m rt N hd Dv hp Pv Rp) (hg : Rp2 g) : zEv X ω0 (zU ω (m + 2078) (zAI X 72 g)) m rt N hd Dv hp Pv Rp2 := by
  obtain ⟨gN, g2, g4, g5, kF, kM, ⟨kN, kNv⟩, kD, kP, kR, ⟨kE, kEv⟩, kS⟩ := h
  exact ⟨gN, g2, g4, g, kF.u (by omega), zU_n' (by omega) kM, ⟨zU_n' (by omega) kN, kNv⟩, kD.kp (fun b _ _ => zU_n (by omega)), kP.kp (fun b _ _ => zU_n (by omega)), zU_n' (by omega) kR, ⟨zU_s _ _ _, hg⟩, zU_n' (by omega) kS⟩
theorem zEv.su {X : zX} {ω0 ω : zWd} {m rt : Nat} {N : Int} {hd : Nat} {Dv : Nat → Int} {hp : Nat} {Pv : Nat → Int} {Rp : (Int → Int) → Prop} {g : Int → Int} (h : zEv X ω0 ω m rt N hd Dv hp Pv Rp) : zEv X ω0 (zU ω (m + 1945) (zAI X 72 g)) m rt N hd Dv hp Pv Rp := by
  obtain ⟨gN, g2, g4, g5, kF, kM, ⟨kN, kNv⟩, kD, kP, kR, ⟨kE, kEv⟩, kS⟩ := h
  exact ⟨gN, g, g4, g5, kF.u (by omega), zU_n' (by omega) kM, ⟨zU_n' (by omega) kN, kNv⟩, kD.kp (fun b _ _ => zU_n (by omega)), kP.kp (fun b _ _ => zU_n (by omega)), zU_n' (by omega) kR, ⟨zU_n' (by omega) kE, kEv⟩, zU_s _ _ _⟩
theorem zEv.px {X : zX} {ω0 ω : zWd} {m rt : Nat} {N : Int} {hd : Nat} {Dv : Nat → Int} {hp : Nat} {Pv : Nat → Int} {Rp : (Int → Int) → Prop} {g : Int → Int} (h : zEv X ω0 ω m rt N hd Dv hp Pv Rp) (hj : hp < 64) (hg : zNm g (Pv hp)) : zEv X ω0 (zU ω (m + 2012 + 1 + hp) (zAI X 72 g)) m rt N hd Dv (hp + 1) Pv Rp := by
  obtain ⟨gN, g2, g4, g5, kF, kM, ⟨kN, kNv⟩, kD, kP, kR, ⟨kE, kEv⟩, kS⟩ := h
  exact ⟨gN, g2, g4, g5, kF.u (by omega), zU_n' (by omega) kM, ⟨zU_n' (by omega) kN, kNv⟩, kD.kp (fun b _ _ => zU_n (by omega)), kP.x hj hg, zU_n' (by omega) kR, ⟨zU_n' (by omega) kE, kEv⟩, zU_n' (by omega) kS⟩
theorem zEv.pu {X : zX} {ω0 ω : zWd} {m rt : Nat} {N : Int} {hd : Nat} {Dv : Nat → Int} {hp : Nat} {Pv : Nat → Int} {Rp : (Int → Int) → Prop} {g : Int → Int} {j : Nat} (h : zEv X ω0 ω m rt N hd Dv hp Pv Rp) (hj : j < 64) (hl : hp ≤ j) : zEv X ω0 (zU ω (m + 2012 + 1 + j) (zAI X 72 g)) m rt N hd Dv hp Pv Rp := by
  obtain ⟨gN, g2, g4, g5, kF, kM, ⟨kN, kNv⟩, kD, kP, kR, ⟨kE, kEv⟩, kS⟩ := h
  obtain ⟨fP, kP1, kP2⟩ := kP
  exact ⟨gN, g2, g4, g5, kF.u (by omega), zU_n' (by omega) kM, ⟨zU_n' (by omega) kN, kNv⟩, kD.kp (fun b _ _ => zU_n (by omega)), ⟨_, kP1.u hj, fun i hi => by rw [va_up_ne _ _ (by omega)]; exact kP2 i hi⟩, zU_n' (by omega) kR, ⟨zU_n' (by omega) kE, kEv⟩, zU_n' (by omega) kS⟩
theorem zEv.dx {X : zX} {ω0 ω : zWd} {m rt : Nat} {N : Int} {hd : Nat} {Dv : Nat → Int} {hp : Nat} {Pv : Nat → Int} {Rp : (Int → Int) → Prop} {g : Int → Int} (h : zEv X ω0 ω m rt N hd Dv hp Pv Rp) (hj : hd < 64) (hg : zNm g (Dv hd)) : zEv X ω0 (zU ω (m + 1947 + 1 + hd) (zAI X 72 g)) m rt N (hd + 1) Dv hp Pv Rp := by
  obtain ⟨gN, g2, g4, g5, kF, kM, ⟨kN, kNv⟩, kD, kP, kR, ⟨kE, kEv⟩, kS⟩ := h
  exact ⟨gN, g2, g4, g5, kF.u (by omega), zU_n' (by omega) kM, ⟨zU_n' (by omega) kN, kNv⟩, kD.x hj hg, kP.kp (fun b _ _ => zU_n (by omega)), zU_n' (by omega) kR, ⟨zU_n' (by omega) kE, kEv⟩, zU_n' (by omega) kS⟩
theorem zEv.du {X : zX} {ω0 ω : zWd} {m rt : Nat} {N : Int} {hd : Nat} {Dv : Nat → Int} {hp : Nat} {Pv : Nat → Int} {Rp : (Int → Int) → Prop} {g : Int → Int} {j : Nat} (h : zEv X ω0 ω m rt N hd Dv hp Pv Rp) (hj : j < 64) (hl : hd ≤ j) : zEv X ω0 (zU ω (m + 1947 + 1 + j) (zAI X 72 g)) m rt N hd Dv hp Pv Rp := by
  obtain ⟨gN, g2, g4, g5, kF, kM, ⟨kN, kNv⟩, kD, kP, kR, ⟨kE, kEv⟩, kS⟩ := h
  obtain ⟨fD, kD1, kD2⟩ := kD
  exact ⟨gN, g2, g4, g5, kF.u (by omega), zU_n' (by omega) kM, ⟨zU_n' (by omega) kN, kNv⟩, ⟨_, kD1.u hj, fun i hi => by rw [va_up_ne _ _ (by omega)]; exact kD2 i hi⟩, kP.kp (fun b _ _ => zU_n (by omega)), zU_n' (by omega) kR, ⟨zU_n' (by omega) kE, kEv⟩, zU_n' (by omega) kS⟩
