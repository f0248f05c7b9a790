/-- what is moved to each size -/
def zmv (φ f : Int → Int) (i : Nat) : Int → Int := fun k => zs (fun s => if φ s = k then f s else 0) i
theorem zmv_s {φ f gi : Int → Int} {i : Nat} (hg : ∀ k : Int, 0 ≤ k → k < 21 → gi k = zmv φ f i k) (k : Int) (k0 : 0 ≤ k) (k1 : k < 21) : zup gi (φ i) (gi (φ i) + f i) k = zmv φ f (i + 1) k := by
  show _ = zmv φ f i k + (if φ i = k then f i else 0)
  by_cases e : k = φ i
  · subst e
    rw [zup_s, if_pos rfl, hg _ k0 k1]
  · rw [zup_n e, if_neg (fun h => e h.symm), hg _ k0 k1, Int.add_zero]
theorem zmv_b {φ f : Int → Int} (hf : zBk f) (hs : zs f 21 = 1000) (k : Int) : 0 ≤ zmv φ f 21 k ∧ zmv φ f 21 k ≤ 1000 := by
  have key : ∀ n : Nat, n ≤ 21 → 0 ≤ zmv φ f n k ∧ zmv φ f n k ≤ zs f n := by
    intro n
    induction n with
    | zero => intro _; simp [zmv, zs]
    | succ n ih =>
      intro hn
      have h1 := ih (by omega)
      have h2 := hf n (by omega) (by omega)
      show 0 ≤ zmv φ f n k + (if φ n = k then f n else 0) ∧ zmv φ f n k + (if φ n = k then f n else 0) ≤ zs f n + f n
      split <;> omega
  have := key 21 (by omega)
  omega
def zφl (a b gv : Int) : Int → Int := fun s => if gv = 0 then s - min (max (s - a) 0) (b - a) else min (max (s - a) 0) (b - a)
def zφp (sh gv : Int) : Int → Int := fun s => if gv = 0 then s * sh / 100 else s - s * sh / 100
set_option maxRecDepth 100000 in
set_option maxHeartbeats 4000000 in
theorem lp_X6_layer {Γ : zG} {l0 : Launch} {X : zX} {ω : zWd} {x : Nat} {bk : Nat → Int → Int} {nv : Int} {np : Nat} {tv dv : Int → Int} {rt : Nat} {b a b2 gv to : Int} (C : Zc Γ l0 X rmX6_layer 10 cX6_layer RX6) (hR : zRH X ω x bk nv np tv dv rt) (hy : zRt bk b) (ht : 0 ≤ to ∧ to < 8) (hab : 0 ≤ a ∧ a ≤ b2 ∧ b2 ≤ 20) (hgv : gv = 0 ∨ gv = 1) (K : ∀ (gi : Int → Int) (o9 : Option Value), (∀ k : Int, 0 ≤ k → k < 21 → gi k = zmv (zφl a b2 gv) (bk b.toNat) 21 k) → Zw Γ (zU ω (x + 2) (zAI X 21 gi)) 0 0 108 [some (.ref x), some (.int (zI b)), some (.int (zI a)), some (.int (zI b2)), some (.int (zI gv)), some (.int (zI to)), some (.ref (x + 42 + 2 * b.toNat)), some (.ref (x + 42 + 2 * to.toNat)), some (.int (zI 21)), o9] []) : ∀ (j i : Nat) (gi : Int → Int) (o9 : Option Value), i + j = 21 → (∀ k : Int, 0 ≤ k → k < 21 → gi k = zmv (zφl a b2 gv) (bk b.toNat) i k) → Zw Γ (zU ω (x + 2) (zAI X 21 gi)) 0 0 53 [some (.ref x), some (.int (zI b)), some (.int (zI a)), some (.int (zI b2)), some (.int (zI gv)), some (.int (zI to)), some (.ref (x + 42 + 2 * b.toNat)), some (.ref (x + 42 + 2 * to.toNat)), some (.int (zI (i : Int))), o9] [] := by
  obtain ⟨b0, b1, bs⟩ := id hy
  obtain ⟨gm, gN, gB, gT, gD, hX, hBs, hMv, hWk, hPk, hFv, hNu, hNc, hBo, hBc, hTk, hTc, hDp, hDc, hBk, hbk, hVN, hVT, hVD⟩ := hR
  intro j
  induction j with
  | zero =>
    intro i gi o9 hj hg
    have e1 : i = 21 := by omega
    subst e1
    refine z_iload (i := 8) (pc := 53) C rfl dX6_layer_53 ?_
    refine z_bipush (pc := 55) C (by decide +kernel) dX6_layer_55 ?_
    refine z_icmp_gt (tgt := 108) (pc := 57) C dX6_layer_57 (by decide) (fun h57 => ?_) (fun h57 => absurd h57 (by omega))
    exact K gi o9 hg
  | succ j ih =>
    intro i gi o9 hj hg
    have hX1 : (zU ω (x + 2) (zAI X 21 gi)).1 x = _ := zU_n' (by omega) hX
    refine z_iload (i := 8) (pc := 53) C rfl dX6_layer_53 ?_
    refine z_bipush (pc := 55) C (by decide +kernel) dX6_layer_55 ?_
    refine z_icmp_gt (tgt := 108) (pc := 57) C dX6_layer_57 (by decide) (fun h57 => absurd h57 (by omega)) (fun h57 => ?_)
    refine z_iload (i := 8) (pc := 60) C rfl dX6_layer_60 ?_
    refine z_iload_n (i := 2) (pc := 62) C rfl rfl dX6_layer_62 ?_
    refine z_isub (pc := 63) C dX6_layer_63 ?_
    refine z_iconst (pc := 64) C dX6_layer_64 ?_
    refine z_callSi (pc := 65) C (c_J9_max_7cf53) k_X6_100 zy_J9_max_7cf53.2 rfl rfl ⟨(Nat.le_of_ble_eq_true rfl), (Nat.le_of_ble_eq_true rfl)⟩ (Nat.le_of_ble_eq_true rfl) dX6_layer_65 ⟨rfl, rfl⟩ ⟨(Nat.le_of_ble_eq_true rfl), (Nat.le_of_ble_eq_true rfl)⟩ (fun rv ω' hp => ?_)
    obtain ⟨hw', rfl⟩ := hp
    rw [hw']
    refine z_iload_n (i := 3) (pc := 68) C rfl rfl dX6_layer_68 ?_
    refine z_iload_n (i := 2) (pc := 69) C rfl rfl dX6_layer_69 ?_
    refine z_isub (pc := 70) C dX6_layer_70 ?_
    refine z_callSi (pc := 71) C (c_J9_min_7cf53) k_X6_106 zy_J9_min_7cf53.2 rfl rfl ⟨(Nat.le_of_ble_eq_true rfl), (Nat.le_of_ble_eq_true rfl)⟩ (Nat.le_of_ble_eq_true rfl) dX6_layer_71 ⟨rfl, rfl⟩ ⟨(Nat.le_of_ble_eq_true rfl), (Nat.le_of_ble_eq_true rfl)⟩ (fun rv ω' hp => ?_)
    obtain ⟨hw', rfl⟩ := hp
    rw [hw']
    refine z_istore (i := 9) (lv' := [_, _, _, _, _, _, _, _, _, _]) (pc := 74) C (by decide) rfl rfl dX6_layer_74 ?_
    refine z_aload_n (i := 0) (pc := 76) C rfl rfl dX6_layer_76 ?_
    refine z_iload (i := 4) (pc := 77) C rfl dX6_layer_77 ?_
    refine z_if_eq (tgt := 87) (pc := 79) C dX6_layer_79 (by decide) (fun h79 => ?_) (fun h79 => ?_)
    · have eφ : (i : Int) - min (max ((i : Int) - a) 0) (b2 - a) = zφl a b2 gv i := by unfold zφl; rw [if_pos (by omega)]
      refine z_iload (i := 8) (pc := 87) C rfl dX6_layer_87 ?_
      refine z_iload (i := 9) (pc := 89) C rfl dX6_layer_89 ?_
      refine z_isub (pc := 91) C dX6_layer_91 ?_
      refine z_aload (i := 6) (pc := 92) C rfl dX6_layer_92 ?_
      refine z_iload (i := 8) (pc := 94) C rfl dX6_layer_94 ?_
      refine z_callVi (pc := 96) C (c_X0_read (zU_n' (by omega) (hBk b.toNat (by omega)).1) (zU_n' (by omega) (hBk b.toNat (by omega)).2)) k_X6_77 zy_X0_read rfl rfl (zU_n' (by omega) (hBk b.toNat (by omega)).1) rfl rfl ⟨(Nat.le_of_ble_eq_true rfl), (Nat.le_of_ble_eq_true rfl)⟩ (Nat.le_of_ble_eq_true rfl) dX6_layer_96 ⟨rfl, rfl⟩ ⟨(Nat.le_of_ble_eq_true rfl), (Nat.le_of_ble_eq_true rfl)⟩ (fun rv ω' hp => ?_)
      obtain ⟨hw', rfl⟩ := hp
      rw [hw']
      have hrng : 0 ≤ zφl a b2 gv i ∧ zφl a b2 gv i < 21 := by rw [← eφ]; omega
      rw [eφ]
      refine z_callVv (pc := 99) C (c_X6_move hX1 (zU_s _ _ _) hrng) k_X6_109 zy_X6_move rfl rfl (zU_n' (by omega) hX) rfl rfl ⟨(Nat.le_of_ble_eq_true rfl), (Nat.le_of_ble_eq_true rfl)⟩ (Nat.le_of_ble_eq_true rfl) dX6_layer_99 ⟨rfl, rfl⟩ ⟨(Nat.le_of_ble_eq_true rfl), (Nat.le_of_ble_eq_true rfl)⟩ (fun ω' hp => ?_)
      subst hp
      rw [zU_u]
      refine z_iinc (i := 8) (lv' := [_, _, _, _, _, _, _, _, _, _]) (pc := 102) C rfl (by decide) rfl rfl dX6_layer_102 ?_
      refine z_goto (tgt := 53) (pc := 105) C dX6_layer_105 (by decide) ?_
      exact ih (i + 1) _ _ (by omega) (zmv_s hg)
    · have eφ : min (max ((i : Int) - a) 0) (b2 - a) = zφl a b2 gv i := by unfold zφl; rw [if_neg (by omega)]
      refine z_iload (i := 9) (pc := 82) C rfl dX6_layer_82 ?_
      refine z_goto (tgt := 92) (pc := 84) C dX6_layer_84 (by decide) ?_
      refine z_aload (i := 6) (pc := 92) C rfl dX6_layer_92 ?_
      refine z_iload (i := 8) (pc := 94) C rfl dX6_layer_94 ?_
      refine z_callVi (pc := 96) C (c_X0_read (zU_n' (by omega) (hBk b.toNat (by omega)).1) (zU_n' (by omega) (hBk b.toNat (by omega)).2)) k_X6_77 zy_X0_read rfl rfl (zU_n' (by omega) (hBk b.toNat (by omega)).1) rfl rfl ⟨(Nat.le_of_ble_eq_true rfl), (Nat.le_of_ble_eq_true rfl)⟩ (Nat.le_of_ble_eq_true rfl) dX6_layer_96 ⟨rfl, rfl⟩ ⟨(Nat.le_of_ble_eq_true rfl), (Nat.le_of_ble_eq_true rfl)⟩ (fun rv ω' hp => ?_)
      obtain ⟨hw', rfl⟩ := hp
      rw [hw']
      have hrng : 0 ≤ zφl a b2 gv i ∧ zφl a b2 gv i < 21 := by rw [← eφ]; omega
      rw [eφ]
      refine z_callVv (pc := 99) C (c_X6_move hX1 (zU_s _ _ _) hrng) k_X6_109 zy_X6_move rfl rfl (zU_n' (by omega) hX) rfl rfl ⟨(Nat.le_of_ble_eq_true rfl), (Nat.le_of_ble_eq_true rfl)⟩ (Nat.le_of_ble_eq_true rfl) dX6_layer_99 ⟨rfl, rfl⟩ ⟨(Nat.le_of_ble_eq_true rfl), (Nat.le_of_ble_eq_true rfl)⟩ (fun ω' hp => ?_)
      subst hp
      rw [zU_u]
      refine z_iinc (i := 8) (lv' := [_, _, _, _, _, _, _, _, _, _]) (pc := 102) C rfl (by decide) rfl rfl dX6_layer_102 ?_
      refine z_goto (tgt := 53) (pc := 105) C dX6_layer_105 (by decide) ?_
      exact ih (i + 1) _ _ (by omega) (zmv_s hg)
set_option maxRecDepth 100000 in
set_option maxHeartbeats 4000000 in
theorem c_X6_layer {l0 : Launch} {X : zX} {ω : zWd} {x : Nat} {bk : Nat → Int → Int} {nv : Int} {np : Nat} {tv dv : Int → Int} {rt : Nat} {b a b2 gv to : Int} (hR : zRH X ω x bk nv np tv dv rt) (hbr : -2147483648 ≤ b ∧ b < 2147483648) (har : -2147483648 ≤ a ∧ a < 2147483648) (hb2r : -2147483648 ≤ b2 ∧ b2 < 2147483648) (htor : -2147483648 ≤ to ∧ to < 2147483648) (hgv : gv = 0 ∨ gv = 1) : zMet l0 yX6_layer cX6_layer 10 (some .boolean) rmX6_layer X [.ref x, .int (zI b), .int (zI a), .int (zI b2), .int (zI gv), .int (zI to)] ω (zpi (fun r w => zOut x (x + 58) ω w ∧ (((zRt bk b ∧ (0 ≤ to ∧ to < 8) ∧ 0 ≤ a ∧ a ≤ b2 ∧ b2 ≤ 20) ∧ r = 1 ∧ ∃ f2, (∀ k : Int, 0 ≤ k → k < 21 → f2 k = zmv (zφl a b2 gv) (bk b.toNat) 21 k) ∧ zRH X w x (va_up bk to.toNat f2) nv np tv dv rt) ∨ (¬ (zRt bk b ∧ (0 ≤ to ∧ to < 8) ∧ 0 ≤ a ∧ a ≤ b2 ∧ b2 ≤ 20) ∧ r = 0 ∧ zRH X w x bk nv np tv dv rt)))) := by
  refine zMet.intro (by decide) (Nat.le_of_ble_eq_true rfl) ?_
  intro Γ C E N
  show Zw Γ ω 0 0 0 [some _, some _, some _, some _, some _, some _, none, none, none, none] []
  have hR0 := hR
  obtain ⟨gm, gN, gB, gT, gD, hX, hBs, hMv, hWk, hPk, hFv, hNu, hNc, hBo, hBc, hTk, hTc, hDp, hDc, hBk, hbk, hVN, hVT, hVD⟩ := hR
  refine z_aload_n (i := 0) (pc := 0) C rfl rfl dX6_layer_0 ?_
  refine z_iload_n (i := 1) (pc := 1) C rfl rfl dX6_layer_1 ?_
  refine z_callVq (pc := 2) C (c_X6_findRight hR0 hbr) k_X6_81 zy_X6_findRight rfl rfl hX rfl rfl ⟨(Nat.le_of_ble_eq_true rfl), (Nat.le_of_ble_eq_true rfl)⟩ (Nat.le_of_ble_eq_true rfl) dX6_layer_2 ⟨rfl, rfl⟩ ⟨(Nat.le_of_ble_eq_true rfl), (Nat.le_of_ble_eq_true rfl)⟩ (fun rv ω' hp => ?_)
  obtain ⟨hw', hp⟩ := hp
  rw [hw']
  clear hw'
  rcases hp with ⟨hyes, rfl⟩ | ⟨hno, rfl⟩
  · obtain ⟨b0, b1, bs⟩ := id hyes
    refine z_astore (i := 6) (lv' := [_, _, _, _, _, _, _, _, _, _]) (pc := 5) C (by decide) rfl rfl dX6_layer_5 ?_
    refine z_aload_n (i := 0) (pc := 7) C rfl rfl dX6_layer_7 ?_
    refine z_iload (i := 5) (pc := 8) C rfl dX6_layer_8 ?_
    refine z_callVq (pc := 10) C (c_X6_findBook hR0 htor) k_X6_66 zy_X6_findBook rfl rfl hX rfl rfl ⟨(Nat.le_of_ble_eq_true rfl), (Nat.le_of_ble_eq_true rfl)⟩ (Nat.le_of_ble_eq_true rfl) dX6_layer_10 ⟨rfl, rfl⟩ ⟨(Nat.le_of_ble_eq_true rfl), (Nat.le_of_ble_eq_true rfl)⟩ (fun rv ω' hp => ?_)
    obtain ⟨hw', hp⟩ := hp
    rw [hw']
    clear hw'
    rcases hp with ⟨t0, t1, rfl⟩ | ⟨tn, rfl⟩
    · refine z_astore (i := 7) (lv' := [_, _, _, _, _, _, _, _, _, _]) (pc := 13) C (by decide) rfl rfl dX6_layer_13 ?_
      refine z_aload (i := 6) (pc := 15) C rfl dX6_layer_15 ?_
      refine z_ifnull (pc := 17) C dX6_layer_17 ?_
      refine z_aload (i := 7) (pc := 20) C rfl dX6_layer_20 ?_
      refine z_ifnull (pc := 22) C dX6_layer_22 ?_
      refine z_iload_n (i := 2) (pc := 25) C rfl rfl dX6_layer_25 ?_
      refine z_if_lt (tgt := 40) (pc := 26) C dX6_layer_26 (by decide) (fun h26 => ?_) (fun h26 => ?_)
      · refine z_iconst (pc := 40) C dX6_layer_40 ?_
        exact z_zret (pc := 41) C E (by decide +kernel) dX6_layer_41 ⟨_, rfl, ⟨zOut.rf, Or.inr ⟨by first | exact (fun h => hno h.1) | exact (fun h => by have := h.2; omega), rfl, hR0⟩⟩⟩
      · refine z_iload_n (i := 3) (pc := 29) C rfl rfl dX6_layer_29 ?_
        refine z_bipush (pc := 30) C (by decide +kernel) dX6_layer_30 ?_
        refine z_icmp_gt (tgt := 40) (pc := 32) C dX6_layer_32 (by decide) (fun h32 => ?_) (fun h32 => ?_)
        · refine z_iconst (pc := 40) C dX6_layer_40 ?_
          exact z_zret (pc := 41) C E (by decide +kernel) dX6_layer_41 ⟨_, rfl, ⟨zOut.rf, Or.inr ⟨by first | exact (fun h => hno h.1) | exact (fun h => by have := h.2; omega), rfl, hR0⟩⟩⟩
        · refine z_iload_n (i := 2) (pc := 35) C rfl rfl dX6_layer_35 ?_
          refine z_iload_n (i := 3) (pc := 36) C rfl rfl dX6_layer_36 ?_
          refine z_icmp_le (tgt := 42) (pc := 37) C dX6_layer_37 (by decide) (fun h37 => ?_) (fun h37 => ?_)
          · refine z_aload_n (i := 0) (pc := 42) C rfl rfl dX6_layer_42 ?_
            refine g_X6_15 (pc := 43) C hX rfl dX6_layer_43 ?_
            refine z_iconst (pc := 46) C dX6_layer_46 ?_
            refine z_callSv (pc := 47) C (c_J7_fill_53178 hMv (by decide)) k_X6_94 zy_J7_fill_53178.2 rfl rfl ⟨(Nat.le_of_ble_eq_true rfl), (Nat.le_of_ble_eq_true rfl)⟩ (Nat.le_of_ble_eq_true rfl) dX6_layer_47 ⟨rfl, rfl⟩ ⟨(Nat.le_of_ble_eq_true rfl), (Nat.le_of_ble_eq_true rfl)⟩ (fun ω' hp => ?_)
            subst hp
            refine z_iconst (pc := 50) C dX6_layer_50 ?_
            refine z_istore (i := 8) (lv' := [_, _, _, _, _, _, _, _, _, _]) (pc := 51) C (by decide) rfl rfl dX6_layer_51 ?_
            refine lp_X6_layer C hR0 hyes (by omega) (by omega) hgv ?_ 21 0 _ _ rfl (fun k k0 k1 => by
              show (if 0 ≤ k ∧ k < ((21 : Nat) : Int) then 0 else gm k) = 0
              rw [if_pos ⟨k0, by omega⟩])
            intro gi o9 hgi
            have hX1 : (zU ω (x + 2) (zAI X 21 gi)).1 x = _ := zU_n' (by omega) hX
            have hT1 : (zU ω (x + 2) (zAI X 21 gi)).1 (x + 42 + 2 * to.toNat) = _ := zU_n' (by omega) (hBk to.toNat (by omega)).1
            have hT2 : (zU ω (x + 2) (zAI X 21 gi)).1 (x + 43 + 2 * to.toNat) = _ := zU_n' (by omega) (hBk to.toNat (by omega)).2
            have hf := hbk b.toNat (by omega)
            refine z_aload_n (i := 0) (pc := 108) C rfl rfl dX6_layer_108 ?_
            refine z_aload (i := 7) (pc := 109) C rfl dX6_layer_109 ?_
            refine z_callVv (pc := 111) C (c_X6_writeMoved hX1 (zU_s _ _ _) hT1 hT2 (by omega)) k_X6_112 zy_X6_writeMoved rfl rfl hX1 rfl rfl ⟨(Nat.le_of_ble_eq_true rfl), (Nat.le_of_ble_eq_true rfl)⟩ (Nat.le_of_ble_eq_true rfl) dX6_layer_111 ⟨rfl, rfl⟩ ⟨(Nat.le_of_ble_eq_true rfl), (Nat.le_of_ble_eq_true rfl)⟩ (fun ω' hp => ?_)
            obtain ⟨f2, rfl, hf2⟩ := hp
            refine z_iconst (pc := 114) C dX6_layer_114 ?_
            exact z_zret (pc := 115) C E (by decide +kernel) dX6_layer_115 ⟨_, rfl, ⟨(zOut.rf.u (by omega) (by omega)).u (by omega) (by omega), Or.inl ⟨⟨hyes, by omega, by omega⟩, rfl, f2, fun k k0 k1 => by rw [hf2 k k0 k1, hgi k k0 k1], (hR0.mv).bk (by omega) (fun k k0 k1 => by rw [hf2 k k0 k1, hgi k k0 k1]; exact zmv_b hf bs k)⟩⟩⟩
          · refine z_iconst (pc := 40) C dX6_layer_40 ?_
            exact z_zret (pc := 41) C E (by decide +kernel) dX6_layer_41 ⟨_, rfl, ⟨zOut.rf, Or.inr ⟨by first | exact (fun h => hno h.1) | exact (fun h => by have := h.2; omega), rfl, hR0⟩⟩⟩
    · refine z_astoreN (i := 7) (lv' := [_, _, _, _, _, _, _, _, _, _]) (pc := 13) C (by decide) rfl rfl dX6_layer_13 ?_
      refine z_aload (i := 6) (pc := 15) C rfl dX6_layer_15 ?_
      refine z_ifnull (pc := 17) C dX6_layer_17 ?_
      refine z_aloadN (i := 7) (pc := 20) C rfl dX6_layer_20 ?_
      refine z_ifnullN (tgt := 40) (pc := 22) C dX6_layer_22 (by decide) ?_
      refine z_iconst (pc := 40) C dX6_layer_40 ?_
      exact z_zret (pc := 41) C E (by decide +kernel) dX6_layer_41 ⟨_, rfl, ⟨zOut.rf, Or.inr ⟨by first | exact (fun h => hno h.1) | exact (fun h => by have := h.2; omega), rfl, hR0⟩⟩⟩
  · refine z_astoreN (i := 6) (lv' := [_, _, _, _, _, _, _, _, _, _]) (pc := 5) C (by decide) rfl rfl dX6_layer_5 ?_
    refine z_aload_n (i := 0) (pc := 7) C rfl rfl dX6_layer_7 ?_
    refine z_iload (i := 5) (pc := 8) C rfl dX6_layer_8 ?_
    refine z_callVq (pc := 10) C (c_X6_findBook hR0 htor) k_X6_66 zy_X6_findBook rfl rfl hX rfl rfl ⟨(Nat.le_of_ble_eq_true rfl), (Nat.le_of_ble_eq_true rfl)⟩ (Nat.le_of_ble_eq_true rfl) dX6_layer_10 ⟨rfl, rfl⟩ ⟨(Nat.le_of_ble_eq_true rfl), (Nat.le_of_ble_eq_true rfl)⟩ (fun rv ω' hp => ?_)
    obtain ⟨hw', hp⟩ := hp
    rw [hw']
    clear hw'
    rcases hp with ⟨t0, t1, rfl⟩ | ⟨tn, rfl⟩
    · refine z_astore (i := 7) (lv' := [_, _, _, _, _, _, _, _, _, _]) (pc := 13) C (by decide) rfl rfl dX6_layer_13 ?_
      refine z_aloadN (i := 6) (pc := 15) C rfl dX6_layer_15 ?_
      refine z_ifnullN (tgt := 40) (pc := 17) C dX6_layer_17 (by decide) ?_
      refine z_iconst (pc := 40) C dX6_layer_40 ?_
      exact z_zret (pc := 41) C E (by decide +kernel) dX6_layer_41 ⟨_, rfl, ⟨zOut.rf, Or.inr ⟨by first | exact (fun h => hno h.1) | exact (fun h => by have := h.2; omega), rfl, hR0⟩⟩⟩
    · refine z_astoreN (i := 7) (lv' := [_, _, _, _, _, _, _, _, _, _]) (pc := 13) C (by decide) rfl rfl dX6_layer_13 ?_
      refine z_aloadN (i := 6) (pc := 15) C rfl dX6_layer_15 ?_
      refine z_ifnullN (tgt := 40) (pc := 17) C dX6_layer_17 (by decide) ?_
      refine z_iconst (pc := 40) C dX6_layer_40 ?_
      exact z_zret (pc := 41) C E (by decide +kernel) dX6_layer_41 ⟨_, rfl, ⟨zOut.rf, Or.inr ⟨by first | exact (fun h => hno h.1) | exact (fun h => by have := h.2; omega), rfl, hR0⟩⟩⟩
set_option maxRecDepth 100000 in
set_option maxHeartbeats 4000000 in
theorem lp_X6_part {Γ : zG} {l0 : Launch} {X : zX} {ω : zWd} {x : Nat} {bk : Nat → Int → Int} {nv : Int} {np : Nat} {tv dv : Int → Int} {rt : Nat} {b sh gv to : Int} (C : Zc Γ l0 X rmX6_part 9 cX6_part RX6) (hR : zRH X ω x bk nv np tv dv rt) (hy : zRt bk b) (ht : 0 ≤ to ∧ to < 8) (hsh : 0 ≤ sh ∧ sh ≤ 100) (hgv : gv = 0 ∨ gv = 1) (K : ∀ (gi : Int → Int) (o9 : Option Value), (∀ k : Int, 0 ≤ k → k < 21 → gi k = zmv (zφp sh gv) (bk b.toNat) 21 k) → Zw Γ (zU ω (x + 2) (zAI X 21 gi)) 0 0 95 [some (.ref x), some (.int (zI b)), some (.int (zI sh)), some (.int (zI gv)), some (.int (zI to)), some (.ref (x + 42 + 2 * b.toNat)), some (.ref (x + 42 + 2 * to.toNat)), some (.int (zI 21)), o9] []) : ∀ (j i : Nat) (gi : Int → Int) (o9 : Option Value), i + j = 21 → (∀ k : Int, 0 ≤ k → k < 21 → gi k = zmv (zφp sh gv) (bk b.toNat) i k) → Zw Γ (zU ω (x + 2) (zAI X 21 gi)) 0 0 48 [some (.ref x), some (.int (zI b)), some (.int (zI sh)), some (.int (zI gv)), some (.int (zI to)), some (.ref (x + 42 + 2 * b.toNat)), some (.ref (x + 42 + 2 * to.toNat)), some (.int (zI (i : Int))), o9] [] := by
  obtain ⟨b0, b1, bs⟩ := id hy
  obtain ⟨gm, gN, gB, gT, gD, hX, hBs, hMv, hWk, hPk, hFv, hNu, hNc, hBo, hBc, hTk, hTc, hDp, hDc, hBk, hbk, hVN, hVT, hVD⟩ := hR
  intro j
  induction j with
  | zero =>
    intro i gi o9 hj hg
    have e1 : i = 21 := by omega
    subst e1
    refine z_iload (i := 7) (pc := 48) C rfl dX6_part_48 ?_
    refine z_bipush (pc := 50) C (by decide +kernel) dX6_part_50 ?_
    refine z_icmp_gt (tgt := 95) (pc := 52) C dX6_part_52 (by decide) (fun h52 => ?_) (fun h52 => absurd h52 (by omega))
    exact K gi o9 hg
  | succ j ih =>
    intro i gi o9 hj hg
    have hX1 : (zU ω (x + 2) (zAI X 21 gi)).1 x = _ := zU_n' (by omega) hX
    refine z_iload (i := 7) (pc := 48) C rfl dX6_part_48 ?_
    refine z_bipush (pc := 50) C (by decide +kernel) dX6_part_50 ?_
    refine z_icmp_gt (tgt := 95) (pc := 52) C dX6_part_52 (by decide) (fun h52 => absurd h52 (by omega)) (fun h52 => ?_)
    refine z_iload (i := 7) (pc := 55) C rfl dX6_part_55 ?_
    refine z_iload_n (i := 2) (pc := 57) C rfl rfl dX6_part_57 ?_
    refine z_imul (pc := 58) C dX6_part_58 ?_
    refine z_bipush (pc := 59) C (by decide +kernel) dX6_part_59 ?_
    have hm1 : (i : Int) * sh ≤ 20 * 100 := Int.mul_le_mul (by omega) (by omega) (by omega) (by omega)
    have hm0 : 0 ≤ (i : Int) * sh := Int.mul_nonneg (by omega) (by omega)
    have hm2 : (i : Int) * sh ≤ (i : Int) * 100 := Int.mul_le_mul_of_nonneg_left (by omega) (by omega)
    refine z_idiv (pc := 61) C (hd := dX6_part_61) (k := ?_)
    refine z_istore (i := 8) (lv' := [_, _, _, _, _, _, _, _, _]) (pc := 62) C (by decide) rfl rfl dX6_part_62 ?_
    refine z_aload_n (i := 0) (pc := 64) C rfl rfl dX6_part_64 ?_
    refine z_iload_n (i := 3) (pc := 65) C rfl rfl dX6_part_65 ?_
    refine z_if_eq (tgt := 77) (pc := 66) C dX6_part_66 (by decide) (fun h66 => ?_) (fun h66 => ?_)
    · have eφ : (i : Int) * sh / 100 = zφp sh gv i := by unfold zφp; rw [if_pos (by omega)]
      refine z_iload (i := 8) (pc := 77) C rfl dX6_part_77 ?_
      refine z_aload (i := 5) (pc := 79) C rfl dX6_part_79 ?_
      refine z_iload (i := 7) (pc := 81) C rfl dX6_part_81 ?_
      refine z_callVi (pc := 83) C (c_X0_read (zU_n' (by omega) (hBk b.toNat (by omega)).1) (zU_n' (by omega) (hBk b.toNat (by omega)).2)) k_X6_77 zy_X0_read rfl rfl (zU_n' (by omega) (hBk b.toNat (by omega)).1) rfl rfl ⟨(Nat.le_of_ble_eq_true rfl), (Nat.le_of_ble_eq_true rfl)⟩ (Nat.le_of_ble_eq_true rfl) dX6_part_83 ⟨rfl, rfl⟩ ⟨(Nat.le_of_ble_eq_true rfl), (Nat.le_of_ble_eq_true rfl)⟩ (fun rv ω' hp => ?_)
      obtain ⟨hw', rfl⟩ := hp
      rw [hw']
      have hrng : 0 ≤ zφp sh gv i ∧ zφp sh gv i < 21 := by rw [← eφ]; omega
      rw [eφ]
      refine z_callVv (pc := 86) C (c_X6_move hX1 (zU_s _ _ _) hrng) k_X6_109 zy_X6_move rfl rfl (zU_n' (by omega) hX) rfl rfl ⟨(Nat.le_of_ble_eq_true rfl), (Nat.le_of_ble_eq_true rfl)⟩ (Nat.le_of_ble_eq_true rfl) dX6_part_86 ⟨rfl, rfl⟩ ⟨(Nat.le_of_ble_eq_true rfl), (Nat.le_of_ble_eq_true rfl)⟩ (fun ω' hp => ?_)
      subst hp
      rw [zU_u]
      refine z_iinc (i := 7) (lv' := [_, _, _, _, _, _, _, _, _]) (pc := 89) C rfl (by decide) rfl rfl dX6_part_89 ?_
      refine z_goto (tgt := 48) (pc := 92) C dX6_part_92 (by decide) ?_
      exact ih (i + 1) _ _ (by omega) (zmv_s hg)
    · have eφ : (i : Int) - (i : Int) * sh / 100 = zφp sh gv i := by unfold zφp; rw [if_neg (by omega)]
      refine z_iload (i := 7) (pc := 69) C rfl dX6_part_69 ?_
      refine z_iload (i := 8) (pc := 71) C rfl dX6_part_71 ?_
      refine z_isub (pc := 73) C dX6_part_73 ?_
      refine z_goto (tgt := 79) (pc := 74) C dX6_part_74 (by decide) ?_
      refine z_aload (i := 5) (pc := 79) C rfl dX6_part_79 ?_
      refine z_iload (i := 7) (pc := 81) C rfl dX6_part_81 ?_
      refine z_callVi (pc := 83) C (c_X0_read (zU_n' (by omega) (hBk b.toNat (by omega)).1) (zU_n' (by omega) (hBk b.toNat (by omega)).2)) k_X6_77 zy_X0_read rfl rfl (zU_n' (by omega) (hBk b.toNat (by omega)).1) rfl rfl ⟨(Nat.le_of_ble_eq_true rfl), (Nat.le_of_ble_eq_true rfl)⟩ (Nat.le_of_ble_eq_true rfl) dX6_part_83 ⟨rfl, rfl⟩ ⟨(Nat.le_of_ble_eq_true rfl), (Nat.le_of_ble_eq_true rfl)⟩ (fun rv ω' hp => ?_)
      obtain ⟨hw', rfl⟩ := hp
      rw [hw']
      have hrng : 0 ≤ zφp sh gv i ∧ zφp sh gv i < 21 := by rw [← eφ]; omega
      rw [eφ]
      refine z_callVv (pc := 86) C (c_X6_move hX1 (zU_s _ _ _) hrng) k_X6_109 zy_X6_move rfl rfl (zU_n' (by omega) hX) rfl rfl ⟨(Nat.le_of_ble_eq_true rfl), (Nat.le_of_ble_eq_true rfl)⟩ (Nat.le_of_ble_eq_true rfl) dX6_part_86 ⟨rfl, rfl⟩ ⟨(Nat.le_of_ble_eq_true rfl), (Nat.le_of_ble_eq_true rfl)⟩ (fun ω' hp => ?_)
      subst hp
      rw [zU_u]
      refine z_iinc (i := 7) (lv' := [_, _, _, _, _, _, _, _, _]) (pc := 89) C rfl (by decide) rfl rfl dX6_part_89 ?_
      refine z_goto (tgt := 48) (pc := 92) C dX6_part_92 (by decide) ?_
      exact ih (i + 1) _ _ (by omega) (zmv_s hg)
set_option maxRecDepth 100000 in
set_option maxHeartbeats 4000000 in
theorem c_X6_part {l0 : Launch} {X : zX} {ω : zWd} {x : Nat} {bk : Nat → Int → Int} {nv : Int} {np : Nat} {tv dv : Int → Int} {rt : Nat} {b sh gv to : Int} (hR : zRH X ω x bk nv np tv dv rt) (hbr : -2147483648 ≤ b ∧ b < 2147483648) (hshr : -2147483648 ≤ sh ∧ sh < 2147483648) (htor : -2147483648 ≤ to ∧ to < 2147483648) (hgv : gv = 0 ∨ gv = 1) : zMet l0 yX6_part cX6_part 9 (some .boolean) rmX6_part X [.ref x, .int (zI b), .int (zI sh), .int (zI gv), .int (zI to)] ω (zpi (fun r w => zOut x (x + 58) ω w ∧ (((zRt bk b ∧ (0 ≤ to ∧ to < 8) ∧ 0 ≤ sh ∧ sh ≤ 100) ∧ r = 1 ∧ ∃ f2, (∀ k : Int, 0 ≤ k → k < 21 → f2 k = zmv (zφp sh gv) (bk b.toNat) 21 k) ∧ zRH X w x (va_up bk to.toNat f2) nv np tv dv rt) ∨ (¬ (zRt bk b ∧ (0 ≤ to ∧ to < 8) ∧ 0 ≤ sh ∧ sh ≤ 100) ∧ r = 0 ∧ zRH X w x bk nv np tv dv rt)))) := by
  refine zMet.intro (by decide) (Nat.le_of_ble_eq_true rfl) ?_
  intro Γ C E N
  show Zw Γ ω 0 0 0 [some _, some _, some _, some _, some _, none, none, none, none] []
  have hR0 := hR
  obtain ⟨gm, gN, gB, gT, gD, hX, hBs, hMv, hWk, hPk, hFv, hNu, hNc, hBo, hBc, hTk, hTc, hDp, hDc, hBk, hbk, hVN, hVT, hVD⟩ := hR
  refine z_aload_n (i := 0) (pc := 0) C rfl rfl dX6_part_0 ?_
  refine z_iload_n (i := 1) (pc := 1) C rfl rfl dX6_part_1 ?_
  refine z_callVq (pc := 2) C (c_X6_findRight hR0 hbr) k_X6_81 zy_X6_findRight rfl rfl hX rfl rfl ⟨(Nat.le_of_ble_eq_true rfl), (Nat.le_of_ble_eq_true rfl)⟩ (Nat.le_of_ble_eq_true rfl) dX6_part_2 ⟨rfl, rfl⟩ ⟨(Nat.le_of_ble_eq_true rfl), (Nat.le_of_ble_eq_true rfl)⟩ (fun rv ω' hp => ?_)
  obtain ⟨hw', hp⟩ := hp
  rw [hw']
  clear hw'
  rcases hp with ⟨hyes, rfl⟩ | ⟨hno, rfl⟩
  · obtain ⟨b0, b1, bs⟩ := id hyes
    refine z_astore (i := 5) (lv' := [_, _, _, _, _, _, _, _, _]) (pc := 5) C (by decide) rfl rfl dX6_part_5 ?_
    refine z_aload_n (i := 0) (pc := 7) C rfl rfl dX6_part_7 ?_
    refine z_iload (i := 4) (pc := 8) C rfl dX6_part_8 ?_
    refine z_callVq (pc := 10) C (c_X6_findBook hR0 htor) k_X6_66 zy_X6_findBook rfl rfl hX rfl rfl ⟨(Nat.le_of_ble_eq_true rfl), (Nat.le_of_ble_eq_true rfl)⟩ (Nat.le_of_ble_eq_true rfl) dX6_part_10 ⟨rfl, rfl⟩ ⟨(Nat.le_of_ble_eq_true rfl), (Nat.le_of_ble_eq_true rfl)⟩ (fun rv ω' hp => ?_)
    obtain ⟨hw', hp⟩ := hp
    rw [hw']
    clear hw'
    rcases hp with ⟨t0, t1, rfl⟩ | ⟨tn, rfl⟩
    · refine z_astore (i := 6) (lv' := [_, _, _, _, _, _, _, _, _]) (pc := 13) C (by decide) rfl rfl dX6_part_13 ?_
      refine z_aload (i := 5) (pc := 15) C rfl dX6_part_15 ?_
      refine z_ifnull (pc := 17) C dX6_part_17 ?_
      refine z_aload (i := 6) (pc := 20) C rfl dX6_part_20 ?_
      refine z_ifnull (pc := 22) C dX6_part_22 ?_
      refine z_iload_n (i := 2) (pc := 25) C rfl rfl dX6_part_25 ?_
      refine z_iconst (pc := 26) C dX6_part_26 ?_
      refine z_bipush (pc := 27) C (by decide +kernel) dX6_part_27 ?_
      refine z_callSi (pc := 29) C (c_X6_isWithin) k_X6_70 zy_X6_isWithin.2 rfl rfl ⟨(Nat.le_of_ble_eq_true rfl), (Nat.le_of_ble_eq_true rfl)⟩ (Nat.le_of_ble_eq_true rfl) dX6_part_29 ⟨rfl, rfl⟩ ⟨(Nat.le_of_ble_eq_true rfl), (Nat.le_of_ble_eq_true rfl)⟩ (fun rv ω' hp => ?_)
      obtain ⟨hw', hi⟩ := hp
      rw [hw']
      clear hw'
      refine z_if_ne (tgt := 37) (pc := 32) C dX6_part_32 (by decide) (fun h32 => ?_) (fun h32 => ?_)
      · refine z_aload_n (i := 0) (pc := 37) C rfl rfl dX6_part_37 ?_
        refine g_X6_15 (pc := 38) C hX rfl dX6_part_38 ?_
        refine z_iconst (pc := 41) C dX6_part_41 ?_
        refine z_callSv (pc := 42) C (c_J7_fill_53178 hMv (by decide)) k_X6_94 zy_J7_fill_53178.2 rfl rfl ⟨(Nat.le_of_ble_eq_true rfl), (Nat.le_of_ble_eq_true rfl)⟩ (Nat.le_of_ble_eq_true rfl) dX6_part_42 ⟨rfl, rfl⟩ ⟨(Nat.le_of_ble_eq_true rfl), (Nat.le_of_ble_eq_true rfl)⟩ (fun ω' hp => ?_)
        subst hp
        refine z_iconst (pc := 45) C dX6_part_45 ?_
        refine z_istore (i := 7) (lv' := [_, _, _, _, _, _, _, _, _]) (pc := 46) C (by decide) rfl rfl dX6_part_46 ?_
        refine lp_X6_part C hR0 hyes (by omega) (by omega) hgv ?_ 21 0 _ _ rfl (fun k k0 k1 => by
          show (if 0 ≤ k ∧ k < ((21 : Nat) : Int) then 0 else gm k) = 0
          rw [if_pos ⟨k0, by omega⟩])
        intro gi o9 hgi
        have hX1 : (zU ω (x + 2) (zAI X 21 gi)).1 x = _ := zU_n' (by omega) hX
        have hT1 : (zU ω (x + 2) (zAI X 21 gi)).1 (x + 42 + 2 * to.toNat) = _ := zU_n' (by omega) (hBk to.toNat (by omega)).1
        have hT2 : (zU ω (x + 2) (zAI X 21 gi)).1 (x + 43 + 2 * to.toNat) = _ := zU_n' (by omega) (hBk to.toNat (by omega)).2
        have hf := hbk b.toNat (by omega)
        refine z_aload_n (i := 0) (pc := 95) C rfl rfl dX6_part_95 ?_
        refine z_aload (i := 6) (pc := 96) C rfl dX6_part_96 ?_
        refine z_callVv (pc := 98) C (c_X6_writeMoved hX1 (zU_s _ _ _) hT1 hT2 (by omega)) k_X6_112 zy_X6_writeMoved rfl rfl hX1 rfl rfl ⟨(Nat.le_of_ble_eq_true rfl), (Nat.le_of_ble_eq_true rfl)⟩ (Nat.le_of_ble_eq_true rfl) dX6_part_98 ⟨rfl, rfl⟩ ⟨(Nat.le_of_ble_eq_true rfl), (Nat.le_of_ble_eq_true rfl)⟩ (fun ω' hp => ?_)
        obtain ⟨f2, rfl, hf2⟩ := hp
        refine z_iconst (pc := 101) C dX6_part_101 ?_
        exact z_zret (pc := 102) C E (by decide +kernel) dX6_part_102 ⟨_, rfl, ⟨(zOut.rf.u (by omega) (by omega)).u (by omega) (by omega), Or.inl ⟨⟨hyes, by omega, by omega⟩, rfl, f2, fun k k0 k1 => by rw [hf2 k k0 k1, hgi k k0 k1], (hR0.mv).bk (by omega) (fun k k0 k1 => by rw [hf2 k k0 k1, hgi k k0 k1]; exact zmv_b hf bs k)⟩⟩⟩
      · refine z_iconst (pc := 35) C dX6_part_35 ?_
        exact z_zret (pc := 36) C E (by decide +kernel) dX6_part_36 ⟨_, rfl, ⟨zOut.rf, Or.inr ⟨by first | exact (fun h => hno h.1) | exact (fun h => by have := h.2; omega), rfl, hR0⟩⟩⟩
    · refine z_astoreN (i := 6) (lv' := [_, _, _, _, _, _, _, _, _]) (pc := 13) C (by decide) rfl rfl dX6_part_13 ?_
      refine z_aload (i := 5) (pc := 15) C rfl dX6_part_15 ?_
      refine z_ifnull (pc := 17) C dX6_part_17 ?_
      refine z_aloadN (i := 6) (pc := 20) C rfl dX6_part_20 ?_
      refine z_ifnullN (tgt := 35) (pc := 22) C dX6_part_22 (by decide) ?_
      refine z_iconst (pc := 35) C dX6_part_35 ?_
      exact z_zret (pc := 36) C E (by decide +kernel) dX6_part_36 ⟨_, rfl, ⟨zOut.rf, Or.inr ⟨by first | exact (fun h => hno h.1) | exact (fun h => by have := h.2; omega), rfl, hR0⟩⟩⟩
  · refine z_astoreN (i := 5) (lv' := [_, _, _, _, _, _, _, _, _]) (pc := 5) C (by decide) rfl rfl dX6_part_5 ?_
    refine z_aload_n (i := 0) (pc := 7) C rfl rfl dX6_part_7 ?_
    refine z_iload (i := 4) (pc := 8) C rfl dX6_part_8 ?_
    refine z_callVq (pc := 10) C (c_X6_findBook hR0 htor) k_X6_66 zy_X6_findBook rfl rfl hX rfl rfl ⟨(Nat.le_of_ble_eq_true rfl), (Nat.le_of_ble_eq_true rfl)⟩ (Nat.le_of_ble_eq_true rfl) dX6_part_10 ⟨rfl, rfl⟩ ⟨(Nat.le_of_ble_eq_true rfl), (Nat.le_of_ble_eq_true rfl)⟩ (fun rv ω' hp => ?_)
    obtain ⟨hw', hp⟩ := hp
    rw [hw']
    clear hw'
    rcases hp with ⟨t0, t1, rfl⟩ | ⟨tn, rfl⟩
    · refine z_astore (i := 6) (lv' := [_, _, _, _, _, _, _, _, _]) (pc := 13) C (by decide) rfl rfl dX6_part_13 ?_
      refine z_aloadN (i := 5) (pc := 15) C rfl dX6_part_15 ?_
      refine z_ifnullN (tgt := 35) (pc := 17) C dX6_part_17 (by decide) ?_
      refine z_iconst (pc := 35) C dX6_part_35 ?_
      exact z_zret (pc := 36) C E (by decide +kernel) dX6_part_36 ⟨_, rfl, ⟨zOut.rf, Or.inr ⟨by first | exact (fun h => hno h.1) | exact (fun h => by have := h.2; omega), rfl, hR0⟩⟩⟩
    · refine z_astoreN (i := 6) (lv' := [_, _, _, _, _, _, _, _, _]) (pc := 13) C (by decide) rfl rfl dX6_part_13 ?_
      refine z_aloadN (i := 5) (pc := 15) C rfl dX6_part_15 ?_
      refine z_ifnullN (tgt := 35) (pc := 17) C dX6_part_17 (by decide) ?_
      refine z_iconst (pc := 35) C dX6_part_35 ?_
      exact z_zret (pc := 36) C E (by decide +kernel) dX6_part_36 ⟨_, rfl, ⟨zOut.rf, Or.inr ⟨by first | exact (fun h => hno h.1) | exact (fun h => by have := h.2; omega), rfl, hR0⟩⟩⟩
