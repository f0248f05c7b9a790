theorem z_congB {Γ : zG} {l0 : Launch} {X : zX} {R : Room} {nL : Nat} {cc : ByteArray} {own : String} {ω : zWd} {cells slots pc : Nat} {lv : List (Option Value)} {st : List Value} (C : Zc Γ l0 X R nL cc own) {a n : Nat} {f g : Int → Option Nat} (he : ω.1 a = some (zAB X n f)) (h : ∀ k : Int, 0 ≤ k → k < n → f k = g k) (kk : Zw Γ (zU ω a (zAB X n g)) cells slots pc lv st) : Zw Γ ω cells slots pc lv st := by
  obtain ⟨p, l, e, R, s, m, args, below, meth, c, Q, X, A, nL⟩ := Γ
  obtain ⟨hx, hb, hml, hown, hts, hK, hA, rfl, rfl, rfl, rfl⟩ := C
  intro H locs ls hP hG hS hl
  refine kk H locs ls (hP.set ?_ rfl (fun q _ => rfl)) (zG_set hG (hG a _ he)) hS hl
  have h1 : H[a]? = some (vp_cell X.2.2.1 _) := hP.2 a _ he
  show H[a]? = some (vp_cell _ _)
  rw [h1, vp_cell_q, vp_cell_q]
  congr 1
  exact zarr_c (fun j hj => by rw [h (j : Int) (by omega) (by omega)])
/-- the class while its books are made: i of them stand -/
def zRP (X : zX) (ω : zWd) (x i : Nat) : Prop := ω.2 = x + 42 + 2 * i ∧ ω.1 x = some (zOb 6 [.ref (x + 1), .ref (x + 2), .ref (x + 3), .ref (x + 14), .ref (x + 25), .ref (x + 34), .ref (x + 36), .ref (x + 38), .ref (x + 40), .int (zI 0), .int (zI 0)]) ∧ ω.1 (x + 1) = some (zAB X 8 (fun k => if 0 ≤ k ∧ k < (i : Int) then some (x + 42 + 2 * k.toNat) else none)) ∧ ω.1 (x + 2) = some (zAI X 21 (fun _ => 0)) ∧ zWq X ω (x + 3) 0 1000 3 (fun _ => 0) ∧ zPw X ω (x + 14) 0 1000 3 (fun _ => 0) (fun _ => 0) (fun _ => 0) 181 (x + 14 + 7) ∧ zFv X ω (x + 25) (fun _ => 0) (fun _ => 0) (fun _ => 0) (fun _ => 0) ∧ ω.1 (x + 34) = some (zOb 4 [.int (zI ((1 : Nat) : Int)), .int (zI ((11 : Nat) : Int)), .ref (x + 35), .int (zI ((1 : Nat) : Int))]) ∧ ω.1 (x + 35) = some (zAJ X (1 * 11) (fun _ => 0)) ∧ ω.1 (x + 36) = some (zOb 4 [.int (zI ((1 : Nat) : Int)), .int (zI ((11 : Nat) : Int)), .ref (x + 37), .int (zI ((1 : Nat) : Int))]) ∧ ω.1 (x + 37) = some (zAJ X (1 * 11) (fun _ => 0)) ∧ ω.1 (x + 38) = some (zOb 4 [.int (zI ((41 : Nat) : Int)), .int (zI ((11 : Nat) : Int)), .ref (x + 39), .int (zI ((41 : Nat) : Int))]) ∧ ω.1 (x + 39) = some (zAJ X (41 * 11) (fun _ => 0)) ∧ ω.1 (x + 40) = some (zOb 4 [.int (zI ((21 : Nat) : Int)), .int (zI ((11 : Nat) : Int)), .ref (x + 41), .int (zI ((21 : Nat) : Int))]) ∧ ω.1 (x + 41) = some (zAJ X (21 * 11) (fun _ => 0)) ∧ (∀ k : Nat, k < i → ω.1 (x + 42 + 2 * k) = some (zOb 0 [.ref (x + 43 + 2 * k)]) ∧ ω.1 (x + 43 + 2 * k) = some (zAI X 21 (fun _ => 0)))
set_option maxRecDepth 100000 in
set_option maxHeartbeats 4000000 in
theorem lp_X6_init {Γ : zG} {l0 : Launch} {X : zX} {ω0 : zWd} {x : Nat} (C : Zc Γ l0 X rnX6_init 2 cX6_init RX6) (E : Ze Γ (zpv (fun w => (∀ b : Nat, b < x → w.1 b = ω0.1 b) ∧ w.2 = x + 58 ∧ zRH X w x (fun _ _ => 0) 0 0 (fun _ => 0) (fun _ => 0) 0)) 57 9215 none) : ∀ (j i : Nat) (ω : zWd), i + j = 8 → (∀ b : Nat, b < x → ω.1 b = ω0.1 b) → zRP X ω x i → Zw Γ ω (41 + 2 * i) (9039 + 22 * i) 124 [some (.ref x), some (.int (zI (i : Int)))] [] := by
  intro j
  induction j with
  | zero =>
    intro i ω hj hk hP
    have e8 : i = 8 := by omega
    subst e8
    obtain ⟨hz, h0, h1, h2, h3, h14, h25, h34, h35, h36, h37, h38, h39, h40, h41, hb⟩ := hP
    have hzv : zv zL (fun _ => 0) 11 = 0 := zv_0 (fun _ _ _ => rfl)
    have hrv : ∀ u : Int, zRV (fun _ => 0) 11 u (fun _ => 0) := fun u r a b => ⟨fun k c d => by (try dsimp only); decide, hzv⟩
    refine z_iload_n (i := 1) (pc := 124) C rfl rfl dX6_init_124 ?_
    refine z_bipush (pc := 125) C (by decide +kernel) dX6_init_125 ?_
    refine z_icmp_ge (tgt := 149) (pc := 127) C dX6_init_127 (by decide) (fun h127 => ?_) (fun h127 => absurd h127 (by omega))
    refine z_congB C h1 (g := fun k => some (x + 42 + 2 * k.toNat)) (fun k k0 k1 => if_pos ⟨k0, by omega⟩) ?_
    exact z_vret (pc := 149) C E dX6_init_149 ⟨rfl, fun b hb => (zU_n (by omega)).trans (hk b hb), hz, (fun _ => 0), (fun _ => 0), (fun _ => 0), (fun _ => 0), (fun _ => 0), zU_n' (by omega) h0, zU_s _ _ _, zU_n' (by omega) h2, ⟨_, _, _, _, h3.fr (fun b b1 b2 => zU_n (by omega))⟩, ⟨_, _, _, _, _, _, _, _, h14.fr (fun b b1 b2 => zU_n (by omega))⟩, ⟨_, _, _, _, h25.fr (fun b b1 b2 => zU_n (by omega))⟩, zU_n' (by omega) h34, zU_n' (by omega) h35, zU_n' (by omega) h36, zU_n' (by omega) h37, zU_n' (by omega) h38, zU_n' (by omega) h39, zU_n' (by omega) h40, zU_n' (by omega) h41, fun k hk => ⟨zU_n' (by omega) (hb k hk).1, zU_n' (by omega) (hb k hk).2⟩, fun k hk s _ _ => by (try dsimp only); decide, hrv 1, hrv 41, hrv 21⟩
  | succ j ih =>
    intro i ω hj hk hP
    obtain ⟨hz, h0, h1, h2, h3, h14, h25, h34, h35, h36, h37, h38, h39, h40, h41, hb⟩ := hP
    have k0 : ∀ b : Nat, b < x + 42 + 2 * i ∧ b ≠ x + 1 → ω.1 b = ω.1 b := fun b hb => rfl
    refine z_iload_n (i := 1) (pc := 124) C rfl rfl dX6_init_124 ?_
    refine z_bipush (pc := 125) C (by decide +kernel) dX6_init_125 ?_
    refine z_icmp_ge (tgt := 149) (pc := 127) C dX6_init_127 (by decide) (fun h127 => absurd h127 (by omega)) (fun h127 => ?_)
    refine z_aload_n (i := 0) (pc := 130) C rfl rfl dX6_init_130 ?_
    refine g_X6_11 (pc := 131) C h0 rfl dX6_init_131 ?_
    refine z_iload_n (i := 1) (pc := 134) C rfl rfl dX6_init_134 ?_
    refine z_new (pc := 135) (ci := 0) C tyX0 iX0 tyX0_ok cl_X6_9 in_X0 (kc_X0_init).2.2 rfl (fs := fsX0) hfsX0 (by show _ ≤ _; simp only [rnX6_init, rnX0_init]; omega) (by show _ ≤ _; simp only [rnX6_init, rnX0_init]; omega) dX6_init_135 ?_
    rw [hz]
    refine z_nm (fun ω2 hω2 => ?_)
    have sω2 : ω2.2 = x + 42 + 2 * i + 1 := by rw [hω2]; show _ + 1 = _; omega
    have x_ω2 := z_at hω2 (zN_n' (by omega) h0)
    have bs_ω2 := z_at hω2 (zN_n' (by omega) h1)
    have h2_ω2 := z_at hω2 (zN_n' (by omega) h2)
    have h3_ω2 := h3.fr (ω2 := ω2) (fun b h1 h2 => by rw [hω2]; exact zN_n (by omega))
    have h14_ω2 := h14.fr (ω2 := ω2) (fun b h1 h2 => by rw [hω2]; exact zN_n (by omega))
    have h25_ω2 := h25.fr (ω2 := ω2) (fun b h1 h2 => by rw [hω2]; exact zN_n (by omega))
    have h34_ω2 := z_at hω2 (zN_n' (by omega) h34)
    have h35_ω2 := z_at hω2 (zN_n' (by omega) h35)
    have h36_ω2 := z_at hω2 (zN_n' (by omega) h36)
    have h37_ω2 := z_at hω2 (zN_n' (by omega) h37)
    have h38_ω2 := z_at hω2 (zN_n' (by omega) h38)
    have h39_ω2 := z_at hω2 (zN_n' (by omega) h39)
    have h40_ω2 := z_at hω2 (zN_n' (by omega) h40)
    have h41_ω2 := z_at hω2 (zN_n' (by omega) h41)
    have kω2 : ∀ b : Nat, b < x + 42 + 2 * i ∧ b ≠ x + 1 → ω2.1 b = ω.1 b := fun b hb => by rw [hω2]; exact (zN_n (by omega)).trans (k0 b hb)
    have n0_ω2 : ω2.1 (x + 42 + 2 * i) = some (zOb 0 fsX0) := by rw [hω2, ← hz]; exact zN_s _ _
    refine z_dup (pc := 138) C rfl dX6_init_138 ?_
    refine z_callIN (pc := 139) C (c_X0_init n0_ω2 (by omega)) rfl zn_X6_65 kc_X0_init zy_X0_init.2 rfl rfl ⟨(Nat.le_of_ble_eq_true rfl), (Nat.le_of_ble_eq_true rfl)⟩ (Nat.le_of_ble_eq_true rfl) dX6_init_139 ⟨(by show _ ≤ _; simp only [rnX6_init, rnX0_init]; omega), (by show _ ≤ _; simp only [rnX6_init, rnX0_init]; omega)⟩ (fun rv wb hp => ?_)
    obtain ⟨rfl, hp⟩ := hp
    obtain ⟨hE, hsz, n0_wb, n1_wb⟩ := hp
    have swb : wb.2 = x + 42 + 2 * i + 2 := by omega
    have x_wb := (hE _ (by omega)).trans x_ω2
    have bs_wb := (hE _ (by omega)).trans bs_ω2
    have h2_wb := (hE _ (by omega)).trans h2_ω2
    have h3_wb := h3_ω2.fr (ω2 := wb) (fun b h1 h2 => hE b (by omega))
    have h14_wb := h14_ω2.fr (ω2 := wb) (fun b h1 h2 => hE b (by omega))
    have h25_wb := h25_ω2.fr (ω2 := wb) (fun b h1 h2 => hE b (by omega))
    have h34_wb := (hE _ (by omega)).trans h34_ω2
    have h35_wb := (hE _ (by omega)).trans h35_ω2
    have h36_wb := (hE _ (by omega)).trans h36_ω2
    have h37_wb := (hE _ (by omega)).trans h37_ω2
    have h38_wb := (hE _ (by omega)).trans h38_ω2
    have h39_wb := (hE _ (by omega)).trans h39_ω2
    have h40_wb := (hE _ (by omega)).trans h40_ω2
    have h41_wb := (hE _ (by omega)).trans h41_ω2
    have kwb : ∀ b : Nat, b < x + 42 + 2 * i ∧ b ≠ x + 1 → wb.1 b = ω.1 b := fun b hb => (hE b (by omega)).trans (kω2 b hb)
    clear hE hsz
    refine z_aastB (pc := 142) C bs_wb n0_wb dX6_init_142 ?_
    refine z_nm (fun ω3 hω3 => ?_)
    have sω3 : ω3.2 = x + 42 + 2 * i + 2 := by rw [hω3]; exact swb
    have x_ω3 := z_at hω3 (zU_n' (by omega) x_wb)
    have h2_ω3 := z_at hω3 (zU_n' (by omega) h2_wb)
    have h3_ω3 := h3_wb.fr (ω2 := ω3) (fun b h1 h2 => by rw [hω3]; exact zU_n (by omega))
    have h14_ω3 := h14_wb.fr (ω2 := ω3) (fun b h1 h2 => by rw [hω3]; exact zU_n (by omega))
    have h25_ω3 := h25_wb.fr (ω2 := ω3) (fun b h1 h2 => by rw [hω3]; exact zU_n (by omega))
    have h34_ω3 := z_at hω3 (zU_n' (by omega) h34_wb)
    have h35_ω3 := z_at hω3 (zU_n' (by omega) h35_wb)
    have h36_ω3 := z_at hω3 (zU_n' (by omega) h36_wb)
    have h37_ω3 := z_at hω3 (zU_n' (by omega) h37_wb)
    have h38_ω3 := z_at hω3 (zU_n' (by omega) h38_wb)
    have h39_ω3 := z_at hω3 (zU_n' (by omega) h39_wb)
    have h40_ω3 := z_at hω3 (zU_n' (by omega) h40_wb)
    have h41_ω3 := z_at hω3 (zU_n' (by omega) h41_wb)
    have n0_ω3 := z_at hω3 (zU_n' (by omega) n0_wb)
    have n1_ω3 := z_at hω3 (zU_n' (by omega) n1_wb)
    have bs_ω3 := z_at hω3 (zU_s _ _ _)
    have kω3 : ∀ b : Nat, b < x + 42 + 2 * i ∧ b ≠ x + 1 → ω3.1 b = ω.1 b := fun b hb => by rw [hω3]; exact (zU_n (by omega)).trans (kwb b hb)
    clear x_ω2 bs_ω2 h2_ω2 h3_ω2 h14_ω2 h25_ω2 h34_ω2 h35_ω2 h36_ω2 h37_ω2 h38_ω2 h39_ω2 h40_ω2 h41_ω2 sω2 hω2 kω2 n0_ω2
    refine z_iinc (i := 1) (lv' := [_, _]) (pc := 143) C rfl (by decide) rfl rfl dX6_init_143 ?_
    refine z_goto (tgt := 124) (pc := 146) C dX6_init_146 (by decide) ?_
    have e1 : zup (fun k => if 0 ≤ k ∧ k < (i : Int) then some (x + 42 + 2 * k.toNat) else none) (i : Int) (some (x + 42 + 2 * i)) = (fun k => if 0 ≤ k ∧ k < ((i + 1 : Nat) : Int) then some (x + 42 + 2 * k.toNat) else none) := by
      funext k
      unfold zup
      by_cases e : k = (i : Int)
      · rw [if_pos e, if_pos (by omega), e]; rfl
      · rw [if_neg e]
        (try dsimp only)
        by_cases q : 0 ≤ k ∧ k < (i : Int)
        · rw [if_pos q, if_pos (by omega)]
        · rw [if_neg q, if_neg (by omega)]
    rw [e1] at bs_ω3
    have hbn : ∀ k : Nat, k < i + 1 → ω3.1 (x + 42 + 2 * k) = some (zOb 0 [.ref (x + 43 + 2 * k)]) ∧ ω3.1 (x + 43 + 2 * k) = some (zAI X 21 (fun _ => 0)) := by
      intro k hk1
      by_cases e : k = i
      · subst e
        have q1 := n0_ω3
        have q2 := n1_ω3
        rw [show x + 42 + 2 * k + 1 = x + 43 + 2 * k by omega] at q1 q2
        exact ⟨q1, q2⟩
      · exact ⟨(kω3 _ (by omega)).trans (hb k (by omega)).1, (kω3 _ (by omega)).trans (hb k (by omega)).2⟩
    have h := ih (i + 1) ω3 (by omega) (fun b hb2 => (kω3 b (by omega)).trans (hk b hb2)) ⟨by omega, x_ω3, bs_ω3, h2_ω3, h3_ω3, h14_ω3, h25_ω3, h34_ω3, h35_ω3, h36_ω3, h37_ω3, h38_ω3, h39_ω3, h40_ω3, h41_ω3, hbn⟩
    exact h
set_option maxRecDepth 100000 in
set_option maxHeartbeats 4000000 in
theorem c_X6_init {l0 : Launch} {X : zX} {ω : zWd} {x : Nat} (ha : ω.1 x = some (zOb 6 fsX6)) (hz : ω.2 = x + 1) : zMet l0 yX6_init cX6_init 2 none rnX6_init X [.ref x] ω (zpv (fun w => (∀ b : Nat, b < x → w.1 b = ω.1 b) ∧ w.2 = x + 58 ∧ zRH X w x (fun _ _ => 0) 0 0 (fun _ => 0) (fun _ => 0) 0)) := by
  refine zMet.intro (by decide) (Nat.le_of_ble_eq_true rfl) ?_
  intro Γ C E N
  show Zw Γ ω 0 0 0 [some _, none] []
  have k0 : ∀ b : Nat, b < x → ω.1 b = ω.1 b := fun b hb => rfl
  refine z_aload_n (i := 0) (pc := 0) C rfl rfl dX6_init_0 ?_
  refine z_objInit (pc := 1) C ol_X6_1 oi_1 oi_2 ⟨(Nat.le_of_ble_eq_true rfl), (Nat.le_of_ble_eq_true rfl)⟩ (Nat.le_of_ble_eq_true rfl) dX6_init_1 ?_
  refine z_aload_n (i := 0) (pc := 4) C rfl rfl dX6_init_4 ?_
  refine z_bipush (pc := 5) C (by decide +kernel) dX6_init_5 ?_
  refine z_anewB (pc := 7) C (N := 8) rfl (Nat.le_of_ble_eq_true rfl) cl_X6_9 (by decide +kernel) (by decide +kernel) dX6_init_7 ?_
  rw [hz]
  refine z_nm (fun ω2 hω2 => ?_)
  have sω2 : ω2.2 = x + 2 := by rw [hω2]; show _ + 1 = _; omega
  have x_ω2 := z_at hω2 (zN_n' (by omega) ha)
  have kω2 : ∀ b : Nat, b < x → ω2.1 b = ω.1 b := fun b hb => by rw [hω2]; exact (zN_n (by omega)).trans (k0 b hb)
  have n1_ω2 : ω2.1 (x + 1) = some (zAB X (8) (fun _ => none)) := by rw [hω2, ← hz]; exact zN_s _ _
  refine p_X6_11 (pc := 10) C N x_ω2 (Nat.le_of_ble_eq_true rfl) dX6_init_10 ?_
  refine z_nm (fun ω3 hω3 => ?_)
  have sω3 : ω3.2 = x + 2 := by rw [hω3]; exact sω2
  have n1_ω3 := z_at hω3 (zU_n' (by omega) n1_ω2)
  have x_ω3 := z_at hω3 (zU_s _ _ _)
  have kω3 : ∀ b : Nat, b < x → ω3.1 b = ω.1 b := fun b hb => by rw [hω3]; exact (zU_n (by omega)).trans (kω2 b hb)
  refine z_aload_n (i := 0) (pc := 13) C rfl rfl dX6_init_13 ?_
  refine z_bipush (pc := 14) C (by decide +kernel) dX6_init_14 ?_
  refine z_newI (pc := 16) C (N := 21) rfl (Nat.le_of_ble_eq_true rfl) ac_int (by decide +kernel) (by decide +kernel) dX6_init_16 ?_
  rw [sω3]
  refine z_nm (fun ω4 hω4 => ?_)
  have sω4 : ω4.2 = x + 3 := by rw [hω4]; show _ + 1 = _; omega
  have n1_ω4 := z_at hω4 (zN_n' (by omega) n1_ω3)
  have x_ω4 := z_at hω4 (zN_n' (by omega) x_ω3)
  have kω4 : ∀ b : Nat, b < x → ω4.1 b = ω.1 b := fun b hb => by rw [hω4]; exact (zN_n (by omega)).trans (kω3 b hb)
  clear x_ω2 sω2 hω2 kω2 n1_ω2
  have n2_ω4 : ω4.1 (x + 2) = some (zAI X (21) (fun _ => 0)) := by rw [hω4, ← sω3]; exact zN_s _ _
  refine p_X6_15 (pc := 18) C N x_ω4 (Nat.le_of_ble_eq_true rfl) dX6_init_18 ?_
  refine z_nm (fun ω5 hω5 => ?_)
  have sω5 : ω5.2 = x + 3 := by rw [hω5]; exact sω4
  have n1_ω5 := z_at hω5 (zU_n' (by omega) n1_ω4)
  have n2_ω5 := z_at hω5 (zU_n' (by omega) n2_ω4)
  have x_ω5 := z_at hω5 (zU_s _ _ _)
  have kω5 : ∀ b : Nat, b < x → ω5.1 b = ω.1 b := fun b hb => by rw [hω5]; exact (zU_n (by omega)).trans (kω4 b hb)
  clear n1_ω3 x_ω3 sω3 hω3 kω3
  refine z_aload_n (i := 0) (pc := 21) C rfl rfl dX6_init_21 ?_
  refine z_new (pc := 22) (ci := 5) C tyX5 iX5 tyX5_ok cl_X6_19 in_X5 (kc_X5_init).2.2 rfl (fs := fsX5) hfsX5 (by decide +kernel) (by decide +kernel) dX6_init_22 ?_
  rw [sω5]
  refine z_nm (fun ω6 hω6 => ?_)
  have sω6 : ω6.2 = x + 4 := by rw [hω6]; show _ + 1 = _; omega
  have n1_ω6 := z_at hω6 (zN_n' (by omega) n1_ω5)
  have n2_ω6 := z_at hω6 (zN_n' (by omega) n2_ω5)
  have x_ω6 := z_at hω6 (zN_n' (by omega) x_ω5)
  have kω6 : ∀ b : Nat, b < x → ω6.1 b = ω.1 b := fun b hb => by rw [hω6]; exact (zN_n (by omega)).trans (kω5 b hb)
  clear n1_ω4 x_ω4 sω4 hω4 kω4 n2_ω4
  have n3_ω6 : ω6.1 (x + 3) = some (zOb 5 fsX5) := by rw [hω6, ← sω5]; exact zN_s _ _
  refine z_dup (pc := 25) C rfl dX6_init_25 ?_
  refine z_callIN (pc := 26) C (c_X5_init n3_ω6 (by omega)) rfl zn_X6_21 kc_X5_init zy_X5_init.2 rfl rfl ⟨(Nat.le_of_ble_eq_true rfl), (Nat.le_of_ble_eq_true rfl)⟩ (Nat.le_of_ble_eq_true rfl) dX6_init_26 ⟨(by decide +kernel), (by decide +kernel)⟩ (fun rv wn3 hp => ?_)
  obtain ⟨rfl, hp⟩ := hp
  obtain ⟨hE, hsz, n3_wn3⟩ := hp
  have swn3 : wn3.2 = x + 14 := by omega
  have n1_wn3 := (hE _ (by omega)).trans n1_ω6
  have n2_wn3 := (hE _ (by omega)).trans n2_ω6
  have x_wn3 := (hE _ (by omega)).trans x_ω6
  have kwn3 : ∀ b : Nat, b < x → wn3.1 b = ω.1 b := fun b hb => (hE b (by omega)).trans (kω6 b hb)
  clear hE hsz
  clear n1_ω5 n2_ω5 x_ω5 sω5 hω5 kω5
  refine p_X6_22 (pc := 29) C N x_wn3 (Nat.le_of_ble_eq_true rfl) dX6_init_29 ?_
  refine z_nm (fun ω7 hω7 => ?_)
  have sω7 : ω7.2 = x + 14 := by rw [hω7]; exact swn3
  have n1_ω7 := z_at hω7 (zU_n' (by omega) n1_wn3)
  have n2_ω7 := z_at hω7 (zU_n' (by omega) n2_wn3)
  have n3_ω7 := n3_wn3.fr (ω2 := ω7) (fun b h1 h2 => by rw [hω7]; exact zU_n (by omega))
  have x_ω7 := z_at hω7 (zU_s _ _ _)
  have kω7 : ∀ b : Nat, b < x → ω7.1 b = ω.1 b := fun b hb => by rw [hω7]; exact (zU_n (by omega)).trans (kwn3 b hb)
  clear n1_ω6 n2_ω6 x_ω6 sω6 hω6 kω6 n3_ω6
  refine z_aload_n (i := 0) (pc := 32) C rfl rfl dX6_init_32 ?_
  refine z_new (pc := 33) (ci := 3) C tyX3 iX3 tyX3_ok cl_X6_26 in_X3 (kc_X3_init).2.2 rfl (fs := fsX3) hfsX3 (by decide +kernel) (by decide +kernel) dX6_init_33 ?_
  rw [sω7]
  refine z_nm (fun ω8 hω8 => ?_)
  have sω8 : ω8.2 = x + 15 := by rw [hω8]; show _ + 1 = _; omega
  have n1_ω8 := z_at hω8 (zN_n' (by omega) n1_ω7)
  have n2_ω8 := z_at hω8 (zN_n' (by omega) n2_ω7)
  have n3_ω8 := n3_ω7.fr (ω2 := ω8) (fun b h1 h2 => by rw [hω8]; exact zN_n (by omega))
  have x_ω8 := z_at hω8 (zN_n' (by omega) x_ω7)
  have kω8 : ∀ b : Nat, b < x → ω8.1 b = ω.1 b := fun b hb => by rw [hω8]; exact (zN_n (by omega)).trans (kω7 b hb)
  clear n1_wn3 n2_wn3 x_wn3 n3_wn3 swn3 kwn3
  have n14_ω8 : ω8.1 (x + 14) = some (zOb 3 fsX3) := by rw [hω8, ← sω7]; exact zN_s _ _
  refine z_dup (pc := 36) C rfl dX6_init_36 ?_
  refine z_callIN (pc := 37) C (c_X3_init n14_ω8 (by omega)) rfl zn_X6_28 kc_X3_init zy_X3_init.2 rfl rfl ⟨(Nat.le_of_ble_eq_true rfl), (Nat.le_of_ble_eq_true rfl)⟩ (Nat.le_of_ble_eq_true rfl) dX6_init_37 ⟨(by decide +kernel), (by decide +kernel)⟩ (fun rv wn14 hp => ?_)
  obtain ⟨rfl, hp⟩ := hp
  obtain ⟨hE, hsz, n14_wn14⟩ := hp
  have swn14 : wn14.2 = x + 25 := by omega
  have n1_wn14 := (hE _ (by omega)).trans n1_ω8
  have n2_wn14 := (hE _ (by omega)).trans n2_ω8
  have n3_wn14 := n3_ω8.fr (ω2 := wn14) (fun b h1 h2 => hE b (by omega))
  have x_wn14 := (hE _ (by omega)).trans x_ω8
  have kwn14 : ∀ b : Nat, b < x → wn14.1 b = ω.1 b := fun b hb => (hE b (by omega)).trans (kω8 b hb)
  clear hE hsz
  clear n1_ω7 n2_ω7 n3_ω7 x_ω7 sω7 hω7 kω7
  refine p_X6_29 (pc := 40) C N x_wn14 (Nat.le_of_ble_eq_true rfl) dX6_init_40 ?_
  refine z_nm (fun ω9 hω9 => ?_)
  have sω9 : ω9.2 = x + 25 := by rw [hω9]; exact swn14
  have n1_ω9 := z_at hω9 (zU_n' (by omega) n1_wn14)
  have n2_ω9 := z_at hω9 (zU_n' (by omega) n2_wn14)
  have n3_ω9 := n3_wn14.fr (ω2 := ω9) (fun b h1 h2 => by rw [hω9]; exact zU_n (by omega))
  have n14_ω9 := n14_wn14.fr (ω2 := ω9) (fun b h1 h2 => by rw [hω9]; exact zU_n (by omega))
  have x_ω9 := z_at hω9 (zU_s _ _ _)
  have kω9 : ∀ b : Nat, b < x → ω9.1 b = ω.1 b := fun b hb => by rw [hω9]; exact (zU_n (by omega)).trans (kwn14 b hb)
  clear n1_ω8 n2_ω8 n3_ω8 x_ω8 sω8 hω8 kω8 n14_ω8
  refine z_aload_n (i := 0) (pc := 43) C rfl rfl dX6_init_43 ?_
  refine z_new (pc := 44) (ci := 2) C tyX2 iX2 tyX2_ok cl_X6_33 in_X2 (kc_X2_init).2.2 rfl (fs := fsX2) hfsX2 (by decide +kernel) (by decide +kernel) dX6_init_44 ?_
  rw [sω9]
  refine z_nm (fun ω10 hω10 => ?_)
  have sω10 : ω10.2 = x + 26 := by rw [hω10]; show _ + 1 = _; omega
  have n1_ω10 := z_at hω10 (zN_n' (by omega) n1_ω9)
  have n2_ω10 := z_at hω10 (zN_n' (by omega) n2_ω9)
  have n3_ω10 := n3_ω9.fr (ω2 := ω10) (fun b h1 h2 => by rw [hω10]; exact zN_n (by omega))
  have n14_ω10 := n14_ω9.fr (ω2 := ω10) (fun b h1 h2 => by rw [hω10]; exact zN_n (by omega))
  have x_ω10 := z_at hω10 (zN_n' (by omega) x_ω9)
  have kω10 : ∀ b : Nat, b < x → ω10.1 b = ω.1 b := fun b hb => by rw [hω10]; exact (zN_n (by omega)).trans (kω9 b hb)
  clear n1_wn14 n2_wn14 n3_wn14 x_wn14 n14_wn14 swn14 kwn14
  have n25_ω10 : ω10.1 (x + 25) = some (zOb 2 fsX2) := by rw [hω10, ← sω9]; exact zN_s _ _
  refine z_dup (pc := 47) C rfl dX6_init_47 ?_
  refine z_callIN (pc := 48) C (c_X2_init n25_ω10 (by omega)) rfl zn_X6_35 kc_X2_init zy_X2_init.2 rfl rfl ⟨(Nat.le_of_ble_eq_true rfl), (Nat.le_of_ble_eq_true rfl)⟩ (Nat.le_of_ble_eq_true rfl) dX6_init_48 ⟨(by decide +kernel), (by decide +kernel)⟩ (fun rv wn25 hp => ?_)
  obtain ⟨rfl, hp⟩ := hp
  obtain ⟨hE, hsz, n25_wn25⟩ := hp
  have swn25 : wn25.2 = x + 34 := by omega
  have n1_wn25 := (hE _ (by omega)).trans n1_ω10
  have n2_wn25 := (hE _ (by omega)).trans n2_ω10
  have n3_wn25 := n3_ω10.fr (ω2 := wn25) (fun b h1 h2 => hE b (by omega))
  have n14_wn25 := n14_ω10.fr (ω2 := wn25) (fun b h1 h2 => hE b (by omega))
  have x_wn25 := (hE _ (by omega)).trans x_ω10
  have kwn25 : ∀ b : Nat, b < x → wn25.1 b = ω.1 b := fun b hb => (hE b (by omega)).trans (kω10 b hb)
  clear hE hsz
  clear n1_ω9 n2_ω9 n3_ω9 n14_ω9 x_ω9 sω9 hω9 kω9
  refine p_X6_36 (pc := 51) C N x_wn25 (Nat.le_of_ble_eq_true rfl) dX6_init_51 ?_
  refine z_nm (fun ω11 hω11 => ?_)
  have sω11 : ω11.2 = x + 34 := by rw [hω11]; exact swn25
  have n1_ω11 := z_at hω11 (zU_n' (by omega) n1_wn25)
  have n2_ω11 := z_at hω11 (zU_n' (by omega) n2_wn25)
  have n3_ω11 := n3_wn25.fr (ω2 := ω11) (fun b h1 h2 => by rw [hω11]; exact zU_n (by omega))
  have n14_ω11 := n14_wn25.fr (ω2 := ω11) (fun b h1 h2 => by rw [hω11]; exact zU_n (by omega))
  have n25_ω11 := n25_wn25.fr (ω2 := ω11) (fun b h1 h2 => by rw [hω11]; exact zU_n (by omega))
  have x_ω11 := z_at hω11 (zU_s _ _ _)
  have kω11 : ∀ b : Nat, b < x → ω11.1 b = ω.1 b := fun b hb => by rw [hω11]; exact (zU_n (by omega)).trans (kwn25 b hb)
  clear n1_ω10 n2_ω10 n3_ω10 n14_ω10 x_ω10 sω10 hω10 kω10 n25_ω10
  refine z_aload_n (i := 0) (pc := 54) C rfl rfl dX6_init_54 ?_
  refine z_new (pc := 55) (ci := 4) C tyX4 iX4 tyX4_ok cl_X6_40 in_X4 (kc_X4_init).2.2 rfl (fs := fsX4) hfsX4 (by decide +kernel) (by decide +kernel) dX6_init_55 ?_
  rw [sω11]
  refine z_nm (fun ω12 hω12 => ?_)
  have sω12 : ω12.2 = x + 35 := by rw [hω12]; show _ + 1 = _; omega
  have n1_ω12 := z_at hω12 (zN_n' (by omega) n1_ω11)
  have n2_ω12 := z_at hω12 (zN_n' (by omega) n2_ω11)
  have n3_ω12 := n3_ω11.fr (ω2 := ω12) (fun b h1 h2 => by rw [hω12]; exact zN_n (by omega))
  have n14_ω12 := n14_ω11.fr (ω2 := ω12) (fun b h1 h2 => by rw [hω12]; exact zN_n (by omega))
  have n25_ω12 := n25_ω11.fr (ω2 := ω12) (fun b h1 h2 => by rw [hω12]; exact zN_n (by omega))
  have x_ω12 := z_at hω12 (zN_n' (by omega) x_ω11)
  have kω12 : ∀ b : Nat, b < x → ω12.1 b = ω.1 b := fun b hb => by rw [hω12]; exact (zN_n (by omega)).trans (kω11 b hb)
  clear n1_wn25 n2_wn25 n3_wn25 n14_wn25 x_wn25 n25_wn25 swn25 kwn25
  have n34_ω12 : ω12.1 (x + 34) = some (zOb 4 fsX4) := by rw [hω12, ← sω11]; exact zN_s _ _
  refine z_dup (pc := 58) C rfl dX6_init_58 ?_
  refine z_iconst (pc := 59) C dX6_init_59 ?_
  refine z_bipush (pc := 60) C (by decide +kernel) dX6_init_60 ?_
  refine z_callI (pc := 62) C (c_X4_init (h := 1) (wd := 11) n34_ω12 (by omega) ⟨by decide, by decide⟩ ⟨by decide, by decide⟩) rfl k_X6_42 kc_X4_init zy_X4_init.2 rfl rfl ⟨(Nat.le_of_ble_eq_true rfl), (Nat.le_of_ble_eq_true rfl)⟩ (Nat.le_of_ble_eq_true rfl) dX6_init_62 ⟨(by decide +kernel), (by decide +kernel)⟩ (fun rv wn34 hp => ?_)
  obtain ⟨rfl, hp⟩ := hp
  obtain ⟨hE, hsz, n34_wn34, n35_wn34⟩ := hp
  have swn34 : wn34.2 = x + 36 := by omega
  have n1_wn34 := (hE _ (by omega)).trans n1_ω12
  have n2_wn34 := (hE _ (by omega)).trans n2_ω12
  have n3_wn34 := n3_ω12.fr (ω2 := wn34) (fun b h1 h2 => hE b (by omega))
  have n14_wn34 := n14_ω12.fr (ω2 := wn34) (fun b h1 h2 => hE b (by omega))
  have n25_wn34 := n25_ω12.fr (ω2 := wn34) (fun b h1 h2 => hE b (by omega))
  have x_wn34 := (hE _ (by omega)).trans x_ω12
  have kwn34 : ∀ b : Nat, b < x → wn34.1 b = ω.1 b := fun b hb => (hE b (by omega)).trans (kω12 b hb)
  clear hE hsz
  clear n1_ω11 n2_ω11 n3_ω11 n14_ω11 n25_ω11 x_ω11 sω11 hω11 kω11
  refine p_X6_45 (pc := 65) C N x_wn34 (Nat.le_of_ble_eq_true rfl) dX6_init_65 ?_
  refine z_nm (fun ω13 hω13 => ?_)
  have sω13 : ω13.2 = x + 36 := by rw [hω13]; exact swn34
  have n1_ω13 := z_at hω13 (zU_n' (by omega) n1_wn34)
  have n2_ω13 := z_at hω13 (zU_n' (by omega) n2_wn34)
  have n3_ω13 := n3_wn34.fr (ω2 := ω13) (fun b h1 h2 => by rw [hω13]; exact zU_n (by omega))
  have n14_ω13 := n14_wn34.fr (ω2 := ω13) (fun b h1 h2 => by rw [hω13]; exact zU_n (by omega))
  have n25_ω13 := n25_wn34.fr (ω2 := ω13) (fun b h1 h2 => by rw [hω13]; exact zU_n (by omega))
  have n34_ω13 := z_at hω13 (zU_n' (by omega) n34_wn34)
  have n35_ω13 := z_at hω13 (zU_n' (by omega) n35_wn34)
  have x_ω13 := z_at hω13 (zU_s _ _ _)
  have kω13 : ∀ b : Nat, b < x → ω13.1 b = ω.1 b := fun b hb => by rw [hω13]; exact (zU_n (by omega)).trans (kwn34 b hb)
  clear n1_ω12 n2_ω12 n3_ω12 n14_ω12 n25_ω12 x_ω12 sω12 hω12 kω12 n34_ω12
  refine z_aload_n (i := 0) (pc := 68) C rfl rfl dX6_init_68 ?_
  refine z_new (pc := 69) (ci := 4) C tyX4 iX4 tyX4_ok cl_X6_40 in_X4 (kc_X4_init).2.2 rfl (fs := fsX4) hfsX4 (by decide +kernel) (by decide +kernel) dX6_init_69 ?_
  rw [sω13]
  refine z_nm (fun ω14 hω14 => ?_)
  have sω14 : ω14.2 = x + 37 := by rw [hω14]; show _ + 1 = _; omega
  have n1_ω14 := z_at hω14 (zN_n' (by omega) n1_ω13)
  have n2_ω14 := z_at hω14 (zN_n' (by omega) n2_ω13)
  have n3_ω14 := n3_ω13.fr (ω2 := ω14) (fun b h1 h2 => by rw [hω14]; exact zN_n (by omega))
  have n14_ω14 := n14_ω13.fr (ω2 := ω14) (fun b h1 h2 => by rw [hω14]; exact zN_n (by omega))
  have n25_ω14 := n25_ω13.fr (ω2 := ω14) (fun b h1 h2 => by rw [hω14]; exact zN_n (by omega))
  have n34_ω14 := z_at hω14 (zN_n' (by omega) n34_ω13)
  have n35_ω14 := z_at hω14 (zN_n' (by omega) n35_ω13)
  have x_ω14 := z_at hω14 (zN_n' (by omega) x_ω13)
  have kω14 : ∀ b : Nat, b < x → ω14.1 b = ω.1 b := fun b hb => by rw [hω14]; exact (zN_n (by omega)).trans (kω13 b hb)
  clear n1_wn34 n2_wn34 n3_wn34 n14_wn34 n25_wn34 x_wn34 n34_wn34 n35_wn34 swn34 kwn34
  have n36_ω14 : ω14.1 (x + 36) = some (zOb 4 fsX4) := by rw [hω14, ← sω13]; exact zN_s _ _
  refine z_dup (pc := 72) C rfl dX6_init_72 ?_
  refine z_iconst (pc := 73) C dX6_init_73 ?_
  refine z_bipush (pc := 74) C (by decide +kernel) dX6_init_74 ?_
  refine z_callI (pc := 76) C (c_X4_init (h := 1) (wd := 11) n36_ω14 (by omega) ⟨by decide, by decide⟩ ⟨by decide, by decide⟩) rfl k_X6_42 kc_X4_init zy_X4_init.2 rfl rfl ⟨(Nat.le_of_ble_eq_true rfl), (Nat.le_of_ble_eq_true rfl)⟩ (Nat.le_of_ble_eq_true rfl) dX6_init_76 ⟨(by decide +kernel), (by decide +kernel)⟩ (fun rv wn36 hp => ?_)
  obtain ⟨rfl, hp⟩ := hp
  obtain ⟨hE, hsz, n36_wn36, n37_wn36⟩ := hp
  have swn36 : wn36.2 = x + 38 := by omega
  have n1_wn36 := (hE _ (by omega)).trans n1_ω14
  have n2_wn36 := (hE _ (by omega)).trans n2_ω14
  have n3_wn36 := n3_ω14.fr (ω2 := wn36) (fun b h1 h2 => hE b (by omega))
  have n14_wn36 := n14_ω14.fr (ω2 := wn36) (fun b h1 h2 => hE b (by omega))
  have n25_wn36 := n25_ω14.fr (ω2 := wn36) (fun b h1 h2 => hE b (by omega))
  have n34_wn36 := (hE _ (by omega)).trans n34_ω14
  have n35_wn36 := (hE _ (by omega)).trans n35_ω14
  have x_wn36 := (hE _ (by omega)).trans x_ω14
  have kwn36 : ∀ b : Nat, b < x → wn36.1 b = ω.1 b := fun b hb => (hE b (by omega)).trans (kω14 b hb)
  clear hE hsz
  clear n1_ω13 n2_ω13 n3_ω13 n14_ω13 n25_ω13 n34_ω13 n35_ω13 x_ω13 sω13 hω13 kω13
  refine p_X6_49 (pc := 79) C N x_wn36 (Nat.le_of_ble_eq_true rfl) dX6_init_79 ?_
  refine z_nm (fun ω15 hω15 => ?_)
  have sω15 : ω15.2 = x + 38 := by rw [hω15]; exact swn36
  have n1_ω15 := z_at hω15 (zU_n' (by omega) n1_wn36)
  have n2_ω15 := z_at hω15 (zU_n' (by omega) n2_wn36)
  have n3_ω15 := n3_wn36.fr (ω2 := ω15) (fun b h1 h2 => by rw [hω15]; exact zU_n (by omega))
  have n14_ω15 := n14_wn36.fr (ω2 := ω15) (fun b h1 h2 => by rw [hω15]; exact zU_n (by omega))
  have n25_ω15 := n25_wn36.fr (ω2 := ω15) (fun b h1 h2 => by rw [hω15]; exact zU_n (by omega))
  have n34_ω15 := z_at hω15 (zU_n' (by omega) n34_wn36)
  have n35_ω15 := z_at hω15 (zU_n' (by omega) n35_wn36)
  have n36_ω15 := z_at hω15 (zU_n' (by omega) n36_wn36)
  have n37_ω15 := z_at hω15 (zU_n' (by omega) n37_wn36)
  have x_ω15 := z_at hω15 (zU_s _ _ _)
  have kω15 : ∀ b : Nat, b < x → ω15.1 b = ω.1 b := fun b hb => by rw [hω15]; exact (zU_n (by omega)).trans (kwn36 b hb)
  clear n1_ω14 n2_ω14 n3_ω14 n14_ω14 n25_ω14 n34_ω14 n35_ω14 x_ω14 sω14 hω14 kω14 n36_ω14
  refine z_aload_n (i := 0) (pc := 82) C rfl rfl dX6_init_82 ?_
  refine z_new (pc := 83) (ci := 4) C tyX4 iX4 tyX4_ok cl_X6_40 in_X4 (kc_X4_init).2.2 rfl (fs := fsX4) hfsX4 (by decide +kernel) (by decide +kernel) dX6_init_83 ?_
  rw [sω15]
  refine z_nm (fun ω16 hω16 => ?_)
  have sω16 : ω16.2 = x + 39 := by rw [hω16]; show _ + 1 = _; omega
  have n1_ω16 := z_at hω16 (zN_n' (by omega) n1_ω15)
  have n2_ω16 := z_at hω16 (zN_n' (by omega) n2_ω15)
  have n3_ω16 := n3_ω15.fr (ω2 := ω16) (fun b h1 h2 => by rw [hω16]; exact zN_n (by omega))
  have n14_ω16 := n14_ω15.fr (ω2 := ω16) (fun b h1 h2 => by rw [hω16]; exact zN_n (by omega))
  have n25_ω16 := n25_ω15.fr (ω2 := ω16) (fun b h1 h2 => by rw [hω16]; exact zN_n (by omega))
  have n34_ω16 := z_at hω16 (zN_n' (by omega) n34_ω15)
  have n35_ω16 := z_at hω16 (zN_n' (by omega) n35_ω15)
  have n36_ω16 := z_at hω16 (zN_n' (by omega) n36_ω15)
  have n37_ω16 := z_at hω16 (zN_n' (by omega) n37_ω15)
  have x_ω16 := z_at hω16 (zN_n' (by omega) x_ω15)
  have kω16 : ∀ b : Nat, b < x → ω16.1 b = ω.1 b := fun b hb => by rw [hω16]; exact (zN_n (by omega)).trans (kω15 b hb)
  clear n1_wn36 n2_wn36 n3_wn36 n14_wn36 n25_wn36 n34_wn36 n35_wn36 x_wn36 n36_wn36 n37_wn36 swn36 kwn36
  have n38_ω16 : ω16.1 (x + 38) = some (zOb 4 fsX4) := by rw [hω16, ← sω15]; exact zN_s _ _
  refine z_dup (pc := 86) C rfl dX6_init_86 ?_
  refine z_bipush (pc := 87) C (by decide +kernel) dX6_init_87 ?_
  refine z_bipush (pc := 89) C (by decide +kernel) dX6_init_89 ?_
  refine z_callI (pc := 91) C (c_X4_init (h := 41) (wd := 11) n38_ω16 (by omega) ⟨by decide, by decide⟩ ⟨by decide, by decide⟩) rfl k_X6_42 kc_X4_init zy_X4_init.2 rfl rfl ⟨(Nat.le_of_ble_eq_true rfl), (Nat.le_of_ble_eq_true rfl)⟩ (Nat.le_of_ble_eq_true rfl) dX6_init_91 ⟨(by decide +kernel), (by decide +kernel)⟩ (fun rv wn38 hp => ?_)
  obtain ⟨rfl, hp⟩ := hp
  obtain ⟨hE, hsz, n38_wn38, n39_wn38⟩ := hp
  have swn38 : wn38.2 = x + 40 := by omega
  have n1_wn38 := (hE _ (by omega)).trans n1_ω16
  have n2_wn38 := (hE _ (by omega)).trans n2_ω16
  have n3_wn38 := n3_ω16.fr (ω2 := wn38) (fun b h1 h2 => hE b (by omega))
  have n14_wn38 := n14_ω16.fr (ω2 := wn38) (fun b h1 h2 => hE b (by omega))
  have n25_wn38 := n25_ω16.fr (ω2 := wn38) (fun b h1 h2 => hE b (by omega))
  have n34_wn38 := (hE _ (by omega)).trans n34_ω16
  have n35_wn38 := (hE _ (by omega)).trans n35_ω16
  have n36_wn38 := (hE _ (by omega)).trans n36_ω16
  have n37_wn38 := (hE _ (by omega)).trans n37_ω16
  have x_wn38 := (hE _ (by omega)).trans x_ω16
  have kwn38 : ∀ b : Nat, b < x → wn38.1 b = ω.1 b := fun b hb => (hE b (by omega)).trans (kω16 b hb)
  clear hE hsz
  clear n1_ω15 n2_ω15 n3_ω15 n14_ω15 n25_ω15 n34_ω15 n35_ω15 n36_ω15 n37_ω15 x_ω15 sω15 hω15 kω15
  refine p_X6_52 (pc := 94) C N x_wn38 (Nat.le_of_ble_eq_true rfl) dX6_init_94 ?_
  refine z_nm (fun ω17 hω17 => ?_)
  have sω17 : ω17.2 = x + 40 := by rw [hω17]; exact swn38
  have n1_ω17 := z_at hω17 (zU_n' (by omega) n1_wn38)
  have n2_ω17 := z_at hω17 (zU_n' (by omega) n2_wn38)
  have n3_ω17 := n3_wn38.fr (ω2 := ω17) (fun b h1 h2 => by rw [hω17]; exact zU_n (by omega))
  have n14_ω17 := n14_wn38.fr (ω2 := ω17) (fun b h1 h2 => by rw [hω17]; exact zU_n (by omega))
  have n25_ω17 := n25_wn38.fr (ω2 := ω17) (fun b h1 h2 => by rw [hω17]; exact zU_n (by omega))
  have n34_ω17 := z_at hω17 (zU_n' (by omega) n34_wn38)
  have n35_ω17 := z_at hω17 (zU_n' (by omega) n35_wn38)
  have n36_ω17 := z_at hω17 (zU_n' (by omega) n36_wn38)
  have n37_ω17 := z_at hω17 (zU_n' (by omega) n37_wn38)
  have n38_ω17 := z_at hω17 (zU_n' (by omega) n38_wn38)
  have n39_ω17 := z_at hω17 (zU_n' (by omega) n39_wn38)
  have x_ω17 := z_at hω17 (zU_s _ _ _)
  have kω17 : ∀ b : Nat, b < x → ω17.1 b = ω.1 b := fun b hb => by rw [hω17]; exact (zU_n (by omega)).trans (kwn38 b hb)
  clear n1_ω16 n2_ω16 n3_ω16 n14_ω16 n25_ω16 n34_ω16 n35_ω16 n36_ω16 n37_ω16 x_ω16 sω16 hω16 kω16 n38_ω16
  refine z_aload_n (i := 0) (pc := 97) C rfl rfl dX6_init_97 ?_
  refine z_new (pc := 98) (ci := 4) C tyX4 iX4 tyX4_ok cl_X6_40 in_X4 (kc_X4_init).2.2 rfl (fs := fsX4) hfsX4 (by decide +kernel) (by decide +kernel) dX6_init_98 ?_
  rw [sω17]
  refine z_nm (fun ω18 hω18 => ?_)
  have sω18 : ω18.2 = x + 41 := by rw [hω18]; show _ + 1 = _; omega
  have n1_ω18 := z_at hω18 (zN_n' (by omega) n1_ω17)
  have n2_ω18 := z_at hω18 (zN_n' (by omega) n2_ω17)
  have n3_ω18 := n3_ω17.fr (ω2 := ω18) (fun b h1 h2 => by rw [hω18]; exact zN_n (by omega))
  have n14_ω18 := n14_ω17.fr (ω2 := ω18) (fun b h1 h2 => by rw [hω18]; exact zN_n (by omega))
  have n25_ω18 := n25_ω17.fr (ω2 := ω18) (fun b h1 h2 => by rw [hω18]; exact zN_n (by omega))
  have n34_ω18 := z_at hω18 (zN_n' (by omega) n34_ω17)
  have n35_ω18 := z_at hω18 (zN_n' (by omega) n35_ω17)
  have n36_ω18 := z_at hω18 (zN_n' (by omega) n36_ω17)
  have n37_ω18 := z_at hω18 (zN_n' (by omega) n37_ω17)
  have n38_ω18 := z_at hω18 (zN_n' (by omega) n38_ω17)
  have n39_ω18 := z_at hω18 (zN_n' (by omega) n39_ω17)
  have x_ω18 := z_at hω18 (zN_n' (by omega) x_ω17)
  have kω18 : ∀ b : Nat, b < x → ω18.1 b = ω.1 b := fun b hb => by rw [hω18]; exact (zN_n (by omega)).trans (kω17 b hb)
  clear n1_wn38 n2_wn38 n3_wn38 n14_wn38 n25_wn38 n34_wn38 n35_wn38 n36_wn38 n37_wn38 x_wn38 n38_wn38 n39_wn38 swn38 kwn38
  have n40_ω18 : ω18.1 (x + 40) = some (zOb 4 fsX4) := by rw [hω18, ← sω17]; exact zN_s _ _
  refine z_dup (pc := 101) C rfl dX6_init_101 ?_
  refine z_bipush (pc := 102) C (by decide +kernel) dX6_init_102 ?_
  refine z_bipush (pc := 104) C (by decide +kernel) dX6_init_104 ?_
  refine z_callI (pc := 106) C (c_X4_init (h := 21) (wd := 11) n40_ω18 (by omega) ⟨by decide, by decide⟩ ⟨by decide, by decide⟩) rfl k_X6_42 kc_X4_init zy_X4_init.2 rfl rfl ⟨(Nat.le_of_ble_eq_true rfl), (Nat.le_of_ble_eq_true rfl)⟩ (Nat.le_of_ble_eq_true rfl) dX6_init_106 ⟨(by decide +kernel), (by decide +kernel)⟩ (fun rv wn40 hp => ?_)
  obtain ⟨rfl, hp⟩ := hp
  obtain ⟨hE, hsz, n40_wn40, n41_wn40⟩ := hp
  have swn40 : wn40.2 = x + 42 := by omega
  have n1_wn40 := (hE _ (by omega)).trans n1_ω18
  have n2_wn40 := (hE _ (by omega)).trans n2_ω18
  have n3_wn40 := n3_ω18.fr (ω2 := wn40) (fun b h1 h2 => hE b (by omega))
  have n14_wn40 := n14_ω18.fr (ω2 := wn40) (fun b h1 h2 => hE b (by omega))
  have n25_wn40 := n25_ω18.fr (ω2 := wn40) (fun b h1 h2 => hE b (by omega))
  have n34_wn40 := (hE _ (by omega)).trans n34_ω18
  have n35_wn40 := (hE _ (by omega)).trans n35_ω18
  have n36_wn40 := (hE _ (by omega)).trans n36_ω18
  have n37_wn40 := (hE _ (by omega)).trans n37_ω18
  have n38_wn40 := (hE _ (by omega)).trans n38_ω18
  have n39_wn40 := (hE _ (by omega)).trans n39_ω18
  have x_wn40 := (hE _ (by omega)).trans x_ω18
  have kwn40 : ∀ b : Nat, b < x → wn40.1 b = ω.1 b := fun b hb => (hE b (by omega)).trans (kω18 b hb)
  clear hE hsz
  clear n1_ω17 n2_ω17 n3_ω17 n14_ω17 n25_ω17 n34_ω17 n35_ω17 n36_ω17 n37_ω17 n38_ω17 n39_ω17 x_ω17 sω17 hω17 kω17
  refine p_X6_55 (pc := 109) C N x_wn40 (Nat.le_of_ble_eq_true rfl) dX6_init_109 ?_
  refine z_nm (fun ω19 hω19 => ?_)
  have sω19 : ω19.2 = x + 42 := by rw [hω19]; exact swn40
  have n1_ω19 := z_at hω19 (zU_n' (by omega) n1_wn40)
  have n2_ω19 := z_at hω19 (zU_n' (by omega) n2_wn40)
  have n3_ω19 := n3_wn40.fr (ω2 := ω19) (fun b h1 h2 => by rw [hω19]; exact zU_n (by omega))
  have n14_ω19 := n14_wn40.fr (ω2 := ω19) (fun b h1 h2 => by rw [hω19]; exact zU_n (by omega))
  have n25_ω19 := n25_wn40.fr (ω2 := ω19) (fun b h1 h2 => by rw [hω19]; exact zU_n (by omega))
  have n34_ω19 := z_at hω19 (zU_n' (by omega) n34_wn40)
  have n35_ω19 := z_at hω19 (zU_n' (by omega) n35_wn40)
  have n36_ω19 := z_at hω19 (zU_n' (by omega) n36_wn40)
  have n37_ω19 := z_at hω19 (zU_n' (by omega) n37_wn40)
  have n38_ω19 := z_at hω19 (zU_n' (by omega) n38_wn40)
  have n39_ω19 := z_at hω19 (zU_n' (by omega) n39_wn40)
  have n40_ω19 := z_at hω19 (zU_n' (by omega) n40_wn40)
  have n41_ω19 := z_at hω19 (zU_n' (by omega) n41_wn40)
  have x_ω19 := z_at hω19 (zU_s _ _ _)
  have kω19 : ∀ b : Nat, b < x → ω19.1 b = ω.1 b := fun b hb => by rw [hω19]; exact (zU_n (by omega)).trans (kwn40 b hb)
  clear n1_ω18 n2_ω18 n3_ω18 n14_ω18 n25_ω18 n34_ω18 n35_ω18 n36_ω18 n37_ω18 n38_ω18 n39_ω18 x_ω18 sω18 hω18 kω18 n40_ω18
  refine z_aload_n (i := 0) (pc := 112) C rfl rfl dX6_init_112 ?_
  refine z_iconst (pc := 113) C dX6_init_113 ?_
  refine p_X6_58 (pc := 114) C x_ω19 (Nat.le_of_ble_eq_true rfl) dX6_init_114 ?_
  refine z_nm (fun ω20 hω20 => ?_)
  have sω20 : ω20.2 = x + 42 := by rw [hω20]; exact sω19
  have n1_ω20 := z_at hω20 (zU_n' (by omega) n1_ω19)
  have n2_ω20 := z_at hω20 (zU_n' (by omega) n2_ω19)
  have n3_ω20 := n3_ω19.fr (ω2 := ω20) (fun b h1 h2 => by rw [hω20]; exact zU_n (by omega))
  have n14_ω20 := n14_ω19.fr (ω2 := ω20) (fun b h1 h2 => by rw [hω20]; exact zU_n (by omega))
  have n25_ω20 := n25_ω19.fr (ω2 := ω20) (fun b h1 h2 => by rw [hω20]; exact zU_n (by omega))
  have n34_ω20 := z_at hω20 (zU_n' (by omega) n34_ω19)
  have n35_ω20 := z_at hω20 (zU_n' (by omega) n35_ω19)
  have n36_ω20 := z_at hω20 (zU_n' (by omega) n36_ω19)
  have n37_ω20 := z_at hω20 (zU_n' (by omega) n37_ω19)
  have n38_ω20 := z_at hω20 (zU_n' (by omega) n38_ω19)
  have n39_ω20 := z_at hω20 (zU_n' (by omega) n39_ω19)
  have n40_ω20 := z_at hω20 (zU_n' (by omega) n40_ω19)
  have n41_ω20 := z_at hω20 (zU_n' (by omega) n41_ω19)
  have x_ω20 := z_at hω20 (zU_s _ _ _)
  have kω20 : ∀ b : Nat, b < x → ω20.1 b = ω.1 b := fun b hb => by rw [hω20]; exact (zU_n (by omega)).trans (kω19 b hb)
  clear n1_wn40 n2_wn40 n3_wn40 n14_wn40 n25_wn40 n34_wn40 n35_wn40 n36_wn40 n37_wn40 n38_wn40 n39_wn40 x_wn40 n40_wn40 n41_wn40 swn40 kwn40
  refine z_aload_n (i := 0) (pc := 117) C rfl rfl dX6_init_117 ?_
  refine z_iconst (pc := 118) C dX6_init_118 ?_
  refine p_X6_62 (pc := 119) C x_ω20 (Nat.le_of_ble_eq_true rfl) dX6_init_119 ?_
  refine z_nm (fun ω21 hω21 => ?_)
  have sω21 : ω21.2 = x + 42 := by rw [hω21]; exact sω20
  have n1_ω21 := z_at hω21 (zU_n' (by omega) n1_ω20)
  have n2_ω21 := z_at hω21 (zU_n' (by omega) n2_ω20)
  have n3_ω21 := n3_ω20.fr (ω2 := ω21) (fun b h1 h2 => by rw [hω21]; exact zU_n (by omega))
  have n14_ω21 := n14_ω20.fr (ω2 := ω21) (fun b h1 h2 => by rw [hω21]; exact zU_n (by omega))
  have n25_ω21 := n25_ω20.fr (ω2 := ω21) (fun b h1 h2 => by rw [hω21]; exact zU_n (by omega))
  have n34_ω21 := z_at hω21 (zU_n' (by omega) n34_ω20)
  have n35_ω21 := z_at hω21 (zU_n' (by omega) n35_ω20)
  have n36_ω21 := z_at hω21 (zU_n' (by omega) n36_ω20)
  have n37_ω21 := z_at hω21 (zU_n' (by omega) n37_ω20)
  have n38_ω21 := z_at hω21 (zU_n' (by omega) n38_ω20)
  have n39_ω21 := z_at hω21 (zU_n' (by omega) n39_ω20)
  have n40_ω21 := z_at hω21 (zU_n' (by omega) n40_ω20)
  have n41_ω21 := z_at hω21 (zU_n' (by omega) n41_ω20)
  have x_ω21 := z_at hω21 (zU_s _ _ _)
  have kω21 : ∀ b : Nat, b < x → ω21.1 b = ω.1 b := fun b hb => by rw [hω21]; exact (zU_n (by omega)).trans (kω20 b hb)
  clear n1_ω19 n2_ω19 n3_ω19 n14_ω19 n25_ω19 n34_ω19 n35_ω19 n36_ω19 n37_ω19 n38_ω19 n39_ω19 n40_ω19 n41_ω19 x_ω19 sω19 hω19 kω19
  refine z_iconst (pc := 122) C dX6_init_122 ?_
  refine z_istore_n (i := 1) (lv' := [_, _]) (pc := 123) C rfl (by decide) rfl rfl dX6_init_123 ?_
  have e1 : (fun _ => none : Int → Option Nat) = (fun k => if 0 ≤ k ∧ k < ((0 : Nat) : Int) then some (x + 42 + 2 * k.toNat) else none) := by
    funext k
    rw [if_neg (by omega)]
  rw [e1] at n1_ω21
  have h := lp_X6_init (ω0 := ω) C E 8 0 ω21 (by omega) kω21 ⟨by omega, x_ω21, n1_ω21, n2_ω21, n3_ω21, n14_ω21, n25_ω21, n34_ω21, n35_ω21, n36_ω21, n37_ω21, n38_ω21, n39_ω21, n40_ω21, n41_ω21, fun k hk => absurd hk (by omega)⟩
  exact h
