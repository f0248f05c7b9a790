/-- a row of limbs as it is read: nought where there is none -/
def zSr (go : Int → Int) (wo uo fr : Int) : Int → Int := fun k => if 0 ≤ fr ∧ fr < uo then go (fr * wo + k) else 0
theorem zRS_id {g : Int → Int} {row wd i : Int} {G : Int → Int} (h : ∀ k : Int, 0 ≤ k → k < i → g (row * wd + k) = G k) : zRS g g row wd i G := ⟨h, fun _ _ => rfl⟩
theorem zRS_t {g g1 g2 G G2 : Int → Int} {row wd i : Int} (h1 : zRS g g1 row wd i G) (h2 : zRS g1 g2 row wd i G2) : zRS g g2 row wd i G2 := ⟨h2.1, fun k hk => by rw [h2.2 k hk, h1.2 k hk]⟩
theorem zRS_c {g g1 G G2 : Int → Int} {row wd i : Int} (h1 : zRS g g1 row wd i G) (h2 : ∀ k : Int, 0 ≤ k → k < i → G k = G2 k) : zRS g g1 row wd i G2 := ⟨fun k a b => by rw [h1.1 k a b, h2 k a b], h1.2⟩
set_option maxRecDepth 100000 in
set_option maxHeartbeats 4000000 in
theorem lp_X4_gather {Γ : zG} {l0 : Launch} {X : zX} {ω : zWd} {r c h wd : Nat} {u : Int} {g : Int → Int} {ro co ho wo : Nat} {uo : Int} {go : Int → Int} {row fr v : Int} {mn : Nat} (C : Zc Γ l0 X rmX4_gather 10 cX4_gather RX4) (E : Ze Γ (zpv (fun w => ∃ g2, w = zU ω c (zAJ X (h * wd) g2) ∧ zRS g g2 row wd mn (fun k => g (row * wd + k) + v * zSr go wo uo fr k))) 0 0 none) (hr : ω.1 r = some (zOb 4 [.int (zI h), .int (zI wd), .ref c, .int (zI u)])) (hc : ω.1 c = some (zAJ X (h * wd) g)) (hs : (0 < h ∧ h ≤ 256) ∧ (0 < wd ∧ wd ≤ 16) ∧ 0 ≤ u ∧ u ≤ h) (hro : ω.1 ro = some (zOb 4 [.int (zI ho), .int (zI wo), .ref co, .int (zI uo)])) (hco : ω.1 co = some (zAJ X (ho * wo) go)) (hso : (0 < ho ∧ ho ≤ 256) ∧ (0 < wo ∧ wo ≤ 16) ∧ 0 ≤ uo ∧ uo ≤ ho) (hrc : r ≠ c) (hroc : ro ≠ c) (hcc : co ≠ c) (hrow : 0 ≤ row ∧ row < u) (hfr : 0 ≤ fr ∧ fr < uo) (hm1 : mn ≤ wd) (hm2 : mn ≤ wo) : ∀ (j i : Nat) (gi : Int → Int), i + j = mn → zRS g gi row wd i (fun k => g (row * wd + k) + v * zSr go wo uo fr k) → Zw Γ (zU ω c (zAJ X (h * wd) gi)) 0 0 27 [some (.ref r), some (.int (zI row)), some (.ref ro), some (.int (zI fr)), some (.long (zJ v)), none, some (.int (zI (mn : Int))), some (.int (zI (row * wd))), some (.int (zI (fr * wo))), some (.int (zI ((i : Nat) : Int)))] [] := by
  intro j
  induction j with
  | zero =>
    intro i gi hj hg
    have e1 : i = mn := by omega
    subst e1
    refine z_iload (i := 9) (pc := 27) C rfl dX4_gather_27 ?_
    refine z_iload (i := 6) (pc := 29) C rfl dX4_gather_29 ?_
    refine z_icmp_ge (tgt := 66) (pc := 31) C dX4_gather_31 (by decide) (fun h31 => ?_) (fun h31 => absurd h31 (by omega))
    exact z_vret (pc := 66) C E dX4_gather_66 ⟨rfl, ⟨gi, rfl, hg⟩⟩
  | succ j ih =>
    intro i gi hj hg
    have hmm := z_hw hs.1.2 hs.2.1.2
    have hmo := z_hw hso.1.2 hso.2.1.2
    have hx := z_ix (r := row) (h := h) (w := wd) (i := i) (by omega) (by omega) (by omega) (by omega)
    have hy := z_ix (r := fr) (h := ho) (w := wo) (i := i) (by omega) (by omega) (by omega) (by omega)
    have hgi : gi (row * wd + i) = g (row * wd + i) := hg.2 _ (Or.inr (by omega))
    have hsr : zSr go wo uo fr i = go (fr * wo + i) := if_pos hfr
    refine z_iload (i := 9) (pc := 27) C rfl dX4_gather_27 ?_
    refine z_iload (i := 6) (pc := 29) C rfl dX4_gather_29 ?_
    refine z_icmp_ge (tgt := 66) (pc := 31) C dX4_gather_31 (by decide) (fun h31 => absurd h31 (by omega)) (fun h31 => ?_)
    refine z_aload_n (i := 0) (pc := 34) C rfl rfl dX4_gather_34 ?_
    refine g_X4_24 (pc := 35) C (zU_n' hrc hr) rfl dX4_gather_35 ?_
    refine z_iload (i := 7) (pc := 38) C rfl dX4_gather_38 ?_
    refine z_iload (i := 9) (pc := 40) C rfl dX4_gather_40 ?_
    refine z_iadd (pc := 42) C dX4_gather_42 ?_
    refine z_dup2 (pc := 43) C rfl rfl dX4_gather_43 ?_
    refine z_laload (pc := 44) C (zU_s _ _ _) dX4_gather_44 ?_ (hi := ⟨hx.1, by rw [Int.natCast_mul]; exact hx.2, by omega⟩)
    refine z_lload (i := 4) (pc := 45) C rfl dX4_gather_45 ?_
    refine z_aload_n (i := 2) (pc := 47) C rfl rfl dX4_gather_47 ?_
    refine g_X4_24 (pc := 48) C (zU_n' hroc hro) rfl dX4_gather_48 ?_
    refine z_iload (i := 8) (pc := 51) C rfl dX4_gather_51 ?_
    refine z_iload (i := 9) (pc := 53) C rfl dX4_gather_53 ?_
    refine z_iadd (pc := 55) C dX4_gather_55 ?_
    refine z_laload (pc := 56) C (zU_n' hcc hco) dX4_gather_56 ?_ (hi := ⟨hy.1, by rw [Int.natCast_mul]; exact hy.2, by omega⟩)
    refine z_lmul (pc := 57) C dX4_gather_57 ?_
    refine z_ladd (pc := 58) C dX4_gather_58 ?_
    refine z_lastore (pc := 59) C (zU_s _ _ _) dX4_gather_59 ?_ (hi := ⟨hx.1, by rw [Int.natCast_mul]; exact hx.2, by omega⟩)
    rw [zU_u]
    refine z_iinc (i := 9) (lv' := [_, _, _, _, _, _, _, _, _, _]) (pc := 60) C rfl (by decide) rfl rfl dX4_gather_60 ?_
    refine z_goto (tgt := 27) (pc := 63) C dX4_gather_63 (by decide) ?_
    exact ih (i + 1) _ (by omega) (zRS_s hg (by omega) (by rw [hgi, hsr]))
set_option maxRecDepth 100000 in
set_option maxHeartbeats 4000000 in
theorem c_X4_gather {l0 : Launch} {X : zX} {ω : zWd} {r c h wd : Nat} {u : Int} {g : Int → Int} {ro co ho wo : Nat} {uo : Int} {go : Int → Int} {row fr v : Int} {mn : Nat} (hr : ω.1 r = some (zOb 4 [.int (zI h), .int (zI wd), .ref c, .int (zI u)])) (hc : ω.1 c = some (zAJ X (h * wd) g)) (hs : (0 < h ∧ h ≤ 256) ∧ (0 < wd ∧ wd ≤ 16) ∧ 0 ≤ u ∧ u ≤ h) (hro : ω.1 ro = some (zOb 4 [.int (zI ho), .int (zI wo), .ref co, .int (zI uo)])) (hco : ω.1 co = some (zAJ X (ho * wo) go)) (hso : (0 < ho ∧ ho ≤ 256) ∧ (0 < wo ∧ wo ≤ 16) ∧ 0 ≤ uo ∧ uo ≤ ho) (hcc : co ≠ c) (hrow : 0 ≤ row ∧ row < u) (hfr : 0 ≤ fr ∧ fr < uo) (hv : 0 ≤ v ∧ v ≤ 1000000) (hm1 : mn ≤ wd) (hm2 : mn ≤ wo) : zMet l0 yX4_gather cX4_gather 10 none rmX4_gather X [.ref r, .int (zI row), .ref ro, .int (zI fr), .long (zJ v), .int (zI (mn : Int))] ω (zpv (fun w => ∃ g2, w = zU ω c (zAJ X (h * wd) g2) ∧ zRS g g2 row wd mn (fun k => g (row * wd + k) + v * zSr go wo uo fr k))) := by
  refine zMet.intro (by decide) (Nat.le_of_ble_eq_true rfl) ?_
  intro Γ C E N
  show Zw Γ ω 0 0 0 [some _, some _, some _, some _, some _, none, some _, none, none, none] []
  have hrc : r ≠ c := z_neOJ hr hc
  have hroc : ro ≠ c := z_neOJ hro hc
  refine z_lload (i := 4) (pc := 0) C rfl dX4_gather_0 ?_
  refine z_lconst (v := 0) (pc := 2) C (by decide +kernel) dX4_gather_2 ?_
  refine z_lcmp_ne (tgt := 8) (pc := 3) C dX4_gather_3 dX4_gather_4 (by decide) (fun h3 => ?_) (fun h3 => ?_)
  · refine z_iload_n (i := 1) (pc := 8) C rfl rfl dX4_gather_8 ?_
    refine z_aload_n (i := 0) (pc := 9) C rfl rfl dX4_gather_9 ?_
    refine g_X4_21 (pc := 10) C hr rfl dX4_gather_10 ?_
    refine z_imul (pc := 13) C dX4_gather_13 ?_
    refine z_istore (i := 7) (lv' := [_, _, _, _, _, _, _, _, _, _]) (pc := 14) C (by decide) rfl rfl dX4_gather_14 ?_
    refine z_iload_n (i := 3) (pc := 16) C rfl rfl dX4_gather_16 ?_
    refine z_aload_n (i := 2) (pc := 17) C rfl rfl dX4_gather_17 ?_
    refine g_X4_21 (pc := 18) C hro rfl dX4_gather_18 ?_
    refine z_imul (pc := 21) C dX4_gather_21 ?_
    refine z_istore (i := 8) (lv' := [_, _, _, _, _, _, _, _, _, _]) (pc := 22) C (by decide) rfl rfl dX4_gather_22 ?_
    refine z_iconst (pc := 24) C dX4_gather_24 ?_
    refine z_istore (i := 9) (lv' := [_, _, _, _, _, _, _, _, _, _]) (pc := 25) C (by decide) rfl rfl dX4_gather_25 ?_
    have hw : ω = zU ω c (zAJ X (h * wd) g) := (zU_id hc).symm
    rw [hw]
    exact lp_X4_gather C E hr hc hs hro hco hso hrc hroc hcc hrow hfr hm1 hm2 mn 0 g (by omega) zRS_0
  · exact z_vret (pc := 7) C E dX4_gather_7 ⟨rfl, ⟨g, (zU_id hc).symm, zRS_id (fun k a b => by rw [show v = 0 by omega]; simp)⟩⟩
theorem zs_m {w S : Int → Int} {B : Int} : ∀ {n : Nat}, (∀ k : Int, 0 ≤ k → k < n → 0 ≤ w k ∧ 0 ≤ S k ∧ S k ≤ B) → 0 ≤ zs (fun k => w k * S k) n ∧ zs (fun k => w k * S k) n ≤ zs w n * B
  | 0, _ => by simp [zs]
  | n + 1, h => by
    have h1 := zs_m (n := n) (fun k a b => h k a (by omega))
    have h2 := h n (by omega) (by omega)
    have h3 : 0 ≤ w n * S n := Int.mul_nonneg h2.1 h2.2.1
    have h4 : w n * S n ≤ w n * B := Int.mul_le_mul_of_nonneg_left h2.2.2 h2.1
    show 0 ≤ zs (fun k => w k * S k) n + w n * S n ∧ zs (fun k => w k * S k) n + w n * S n ≤ (zs w n + w n) * B
    rw [Int.add_mul]
    omega
theorem zs_one {f : Int → Int} : ∀ {n : Nat}, (∀ k : Int, 0 ≤ k → k < n → 0 ≤ f k) → ∀ s : Int, 0 ≤ s → s < n → f s ≤ zs f n
  | 0, _, s, a, b => by omega
  | n + 1, h, s, a, b => by
    have h1 : 0 ≤ zs f n ∨ True := Or.inr trivial
    have hn := h n (by omega) (by omega)
    show f s ≤ zs f n + f n
    by_cases e : s = n
    · subst e
      have : ∀ m : Nat, m ≤ n → 0 ≤ zs f m := by
        intro m
        induction m with
        | zero => intro _; simp [zs]
        | succ m ih => intro hm; have := ih (by omega); have := h m (by omega) (by omega); show 0 ≤ zs f m + f m; omega
      have := this n (by omega)
      omega
    · have := zs_one (n := n) (fun k a b => h k a (by omega)) s a (by omega)
      omega
theorem zcr_b1 {x : Int → Int} {M : Int} (hM : 0 < M) : ∀ {n : Nat}, (∀ k : Int, 0 ≤ k → k < n → 0 ≤ x k ∧ x k ≤ M * (zL - 1)) → 0 ≤ zcr x 1 0 n ∧ zcr x 1 0 n ≤ M
  | 0, _ => by simp [zcr]; omega
  | n + 1, h => by
    have h1 := zcr_b1 hM (n := n) (fun k a b => h k a (by omega))
    have h2 := h n (by omega) (by omega)
    show 0 ≤ (zcr x 1 0 n + x n * 1) / zL ∧ (zcr x 1 0 n + x n * 1) / zL ≤ M
    refine zL_div (by omega) ?_
    have e : M * (zL - 1) = M * zL - M := by rw [Int.mul_sub, Int.mul_one]
    have e2 : (M + 1) * zL = M * zL + zL := by rw [Int.add_mul, Int.one_mul]
    have : 0 < zL := by decide
    omega
set_option maxRecDepth 100000 in
set_option maxHeartbeats 4000000 in
theorem lp_X4_mix1 {Γ : zG} {l0 : Launch} {X : zX} {ω : zWd} {r c h wd : Nat} {u : Int} {g : Int → Int} {ro q : Nat} {row fr sg : Int} {mn : Nat} (C : Zc Γ l0 X rmX4_mix 11 cX4_mix RX4) (hr : ω.1 r = some (zOb 4 [.int (zI h), .int (zI wd), .ref c, .int (zI u)])) (hc : ω.1 c = some (zAJ X (h * wd) g)) (hs : (0 < h ∧ h ≤ 256) ∧ (0 < wd ∧ wd ≤ 16) ∧ 0 ≤ u ∧ u ≤ h) (hrc : r ≠ c) (hrow : 0 ≤ row ∧ row < u) (hm1 : mn ≤ wd) (K : ∀ gi : Int → Int, zRS g gi row wd mn (fun _ => 0) → Zw Γ (zU ω c (zAJ X (h * wd) gi)) 0 0 69 [some (.ref r), some (.int (zI row)), some (.ref ro), some (.int (zI fr)), some (.int (zI sg)), some (.ref q), some (.int (zI (mn : Int))), some (.int (zI (mn : Int))), some (.int (zI (row * wd + (mn : Int)))), none, none] []) : ∀ (j i : Nat) (gi : Int → Int), i + j = mn → zRS g gi row wd i (fun _ => 0) → Zw Γ (zU ω c (zAJ X (h * wd) gi)) 0 0 41 [some (.ref r), some (.int (zI row)), some (.ref ro), some (.int (zI fr)), some (.int (zI sg)), some (.ref q), some (.int (zI (mn : Int))), some (.int (zI (mn : Int))), some (.int (zI (row * wd + ((i : Nat) : Int)))), none, none] [] := by
  intro j
  induction j with
  | zero =>
    intro i gi hj hg
    have e1 : i = mn := by omega
    subst e1
    have hmm := z_hw hs.1.2 hs.2.1.2
    have hx := z_ix (r := row) (h := h) (w := wd) (i := 0) (by omega) (by omega) (by omega) (by omega)
    refine z_iload (i := 8) (pc := 41) C rfl dX4_mix_41 ?_
    refine z_iload_n (i := 1) (pc := 43) C rfl rfl dX4_mix_43 ?_
    refine z_aload_n (i := 0) (pc := 44) C rfl rfl dX4_mix_44 ?_
    refine g_X4_21 (pc := 45) C (zU_n' hrc hr) rfl dX4_mix_45 ?_
    refine z_imul (pc := 48) C dX4_mix_48 ?_
    refine z_iload (i := 7) (pc := 49) C rfl dX4_mix_49 ?_
    refine z_iadd (pc := 51) C dX4_mix_51 ?_
    refine z_icmp_ge (tgt := 69) (pc := 52) C dX4_mix_52 (by decide) (fun h52 => ?_) (fun h52 => absurd h52 (by omega))
    exact K gi hg
  | succ j ih =>
    intro i gi hj hg
    have hmm := z_hw hs.1.2 hs.2.1.2
    have hx := z_ix (r := row) (h := h) (w := wd) (i := i) (by omega) (by omega) (by omega) (by omega)
    refine z_iload (i := 8) (pc := 41) C rfl dX4_mix_41 ?_
    refine z_iload_n (i := 1) (pc := 43) C rfl rfl dX4_mix_43 ?_
    refine z_aload_n (i := 0) (pc := 44) C rfl rfl dX4_mix_44 ?_
    refine g_X4_21 (pc := 45) C (zU_n' hrc hr) rfl dX4_mix_45 ?_
    refine z_imul (pc := 48) C dX4_mix_48 ?_
    refine z_iload (i := 7) (pc := 49) C rfl dX4_mix_49 ?_
    refine z_iadd (pc := 51) C dX4_mix_51 ?_
    refine z_icmp_ge (tgt := 69) (pc := 52) C dX4_mix_52 (by decide) (fun h52 => absurd h52 (by omega)) (fun h52 => ?_)
    refine z_aload_n (i := 0) (pc := 55) C rfl rfl dX4_mix_55 ?_
    refine g_X4_24 (pc := 56) C (zU_n' hrc hr) rfl dX4_mix_56 ?_
    refine z_iload (i := 8) (pc := 59) C rfl dX4_mix_59 ?_
    refine z_lconst (v := 0) (pc := 61) C (by decide +kernel) dX4_mix_61 ?_
    refine z_lastore (pc := 62) C (zU_s _ _ _) dX4_mix_62 ?_ (hi := ⟨hx.1, by rw [Int.natCast_mul]; exact hx.2, by omega⟩)
    rw [zU_u]
    refine z_iinc (i := 8) (lv' := [_, _, _, _, _, _, _, _, _, _, _]) (pc := 63) C rfl (by decide) rfl rfl dX4_mix_63 ?_
    refine z_goto (tgt := 41) (pc := 66) C dX4_mix_66 (by decide) ?_
    rw [show row * (wd : Int) + ((i : Nat) : Int) + 1 = row * wd + ((i + 1 : Nat) : Int) by omega]
    exact ih (i + 1) _ (by omega) (zRS_s hg (by omega) rfl)
set_option maxRecDepth 100000 in
set_option maxHeartbeats 4000000 in
theorem lp_X4_mix2 {Γ : zG} {l0 : Launch} {X : zX} {ω : zWd} {r c h wd : Nat} {u : Int} {g : Int → Int} {ro co ho wo q e : Nat} {uo t wh pl : Int} {go wt : Int → Int} {row fr sg : Int} {mn : Nat} (C : Zc Γ l0 X rmX4_mix 11 cX4_mix RX4) (hr : ω.1 r = some (zOb 4 [.int (zI h), .int (zI wd), .ref c, .int (zI u)])) (hc : ω.1 c = some (zAJ X (h * wd) g)) (hs : (0 < h ∧ h ≤ 256) ∧ (0 < wd ∧ wd ≤ 16) ∧ 0 ≤ u ∧ u ≤ h) (hro : ω.1 ro = some (zOb 4 [.int (zI ho), .int (zI wo), .ref co, .int (zI uo)])) (hco : ω.1 co = some (zAJ X (ho * wo) go)) (hso : (0 < ho ∧ ho ≤ 256) ∧ (0 < wo ∧ wo ≤ 16) ∧ 0 ≤ uo ∧ uo ≤ ho) (hq : ω.1 q = some (zOb 1 [.ref e, .int (zI t), .long (zJ wh), .int (zI pl)])) (he : ω.1 e = some (zAJ X 41 wt)) (ht : 0 ≤ t ∧ t < 41) (hrc : r ≠ c) (hroc : ro ≠ c) (hcc : co ≠ c) (hqc : q ≠ c) (hec : e ≠ c) (hrow : 0 ≤ row ∧ row < u) (hm0 : 0 < mn) (hm1 : mn ≤ wd) (hm2 : mn ≤ wo) (hsg : sg = 1 ∨ sg = -1) (hfr : -100000 ≤ fr ∧ fr ≤ 100000) (hwt : ∀ s : Int, 0 ≤ s → s ≤ t → 0 ≤ wt s ∧ wt s ≤ 1000000) (K : ∀ (gi : Int → Int) (o9 : Option Value), zRS g gi row wd mn (fun k => zs (fun s => wt s * zSr go wo uo (fr + sg * s) k) (t.toNat + 1)) → Zw Γ (zU ω c (zAJ X (h * wd) gi)) 0 0 123 [some (.ref r), some (.int (zI row)), some (.ref ro), some (.int (zI fr)), some (.int (zI sg)), some (.ref q), some (.int (zI (mn : Int))), some (.int (zI (mn : Int))), some (.int (zI (t + 1))), o9, none] []) : ∀ (j i : Nat) (gi : Int → Int) (o9 : Option Value), i + j = t.toNat + 1 → zRS g gi row wd mn (fun k => zs (fun s => wt s * zSr go wo uo (fr + sg * s) k) i) → Zw Γ (zU ω c (zAJ X (h * wd) gi)) 0 0 72 [some (.ref r), some (.int (zI row)), some (.ref ro), some (.int (zI fr)), some (.int (zI sg)), some (.ref q), some (.int (zI (mn : Int))), some (.int (zI (mn : Int))), some (.int (zI ((i : Nat) : Int))), o9, none] [] := by
  intro j
  induction j with
  | zero =>
    intro i gi o9 hj hg
    have e1 : i = t.toNat + 1 := by omega
    subst e1
    have e2 : ((t.toNat + 1 : Nat) : Int) = t + 1 := by omega
    rw [e2]
    refine z_iload (i := 8) (pc := 72) C rfl dX4_mix_72 ?_
    refine z_aload (i := 5) (pc := 74) C rfl dX4_mix_74 ?_
    refine g_X4_61 (pc := 76) C (zU_n' hqc hq) rfl dX4_mix_76 ?_
    refine z_icmp_gt (tgt := 123) (pc := 79) C dX4_mix_79 (by decide) (fun h79 => ?_) (fun h79 => absurd h79 (by omega))
    exact K gi o9 hg
  | succ j ih =>
    intro i gi o9 hj hg
    have hwi := hwt i (by omega) (by omega)
    have hr1 : (zU ω c (zAJ X (h * wd) gi)).1 r = _ := zU_n' hrc hr
    have hro1 : (zU ω c (zAJ X (h * wd) gi)).1 ro = _ := zU_n' hroc hro
    have hco1 : (zU ω c (zAJ X (h * wd) gi)).1 co = _ := zU_n' hcc hco
    have hq1 : (zU ω c (zAJ X (h * wd) gi)).1 q = _ := zU_n' hqc hq
    have he1 : (zU ω c (zAJ X (h * wd) gi)).1 e = _ := zU_n' hec he
    have hsi : -41 ≤ sg * (i : Int) ∧ sg * (i : Int) ≤ 41 := by rcases hsg with rfl | rfl <;> omega
    refine z_iload (i := 8) (pc := 72) C rfl dX4_mix_72 ?_
    refine z_aload (i := 5) (pc := 74) C rfl dX4_mix_74 ?_
    refine g_X4_61 (pc := 76) C (zU_n' hqc hq) rfl dX4_mix_76 ?_
    refine z_icmp_gt (tgt := 123) (pc := 79) C dX4_mix_79 (by decide) (fun h79 => absurd h79 (by omega)) (fun h79 => ?_)
    refine z_iload_n (i := 3) (pc := 82) C rfl rfl dX4_mix_82 ?_
    refine z_iload (i := 4) (pc := 83) C rfl dX4_mix_83 ?_
    refine z_iload (i := 8) (pc := 85) C rfl dX4_mix_85 ?_
    refine z_imul (pc := 87) C dX4_mix_87 ?_
    refine z_iadd (pc := 88) C dX4_mix_88 ?_
    refine z_istore (i := 9) (lv' := [_, _, _, _, _, _, _, _, _, _, _]) (pc := 89) C (by decide) rfl rfl dX4_mix_89 ?_
    refine z_aload_n (i := 2) (pc := 91) C rfl rfl dX4_mix_91 ?_
    refine z_iload (i := 9) (pc := 92) C rfl dX4_mix_92 ?_
    refine z_callVi (pc := 94) C (c_X4_has hro1 hco1 hso) k_X4_57 zy_X4_has rfl rfl (zU_n' hroc hro) rfl rfl ⟨(Nat.le_of_ble_eq_true rfl), (Nat.le_of_ble_eq_true rfl)⟩ (Nat.le_of_ble_eq_true rfl) dX4_mix_94 ⟨rfl, rfl⟩ ⟨(Nat.le_of_ble_eq_true rfl), (Nat.le_of_ble_eq_true rfl)⟩ (fun rv ω' hp => ?_)
    obtain ⟨rfl, hh⟩ := hp
    refine z_if_eq (tgt := 117) (pc := 97) C dX4_mix_97 (by decide) (fun h97 => ?_) (fun h97 => ?_)
    · refine z_iinc (i := 8) (lv' := [_, _, _, _, _, _, _, _, _, _, _]) (pc := 117) C rfl (by decide) rfl rfl dX4_mix_117 ?_
      refine z_goto (tgt := 72) (pc := 120) C dX4_mix_120 (by decide) ?_
      exact ih (i + 1) _ _ (by omega) (zRS_c hg (fun k a b => by
        show _ = zs (fun s => wt s * zSr go wo uo (fr + sg * s) k) i + wt i * zSr go wo uo (fr + sg * (i : Int)) k
        rw [show zSr go wo uo (fr + sg * (i : Int)) k = 0 from if_neg (by omega), Int.mul_zero, Int.add_zero]))
    · refine z_aload_n (i := 0) (pc := 100) C rfl rfl dX4_mix_100 ?_
      refine z_iload_n (i := 1) (pc := 101) C rfl rfl dX4_mix_101 ?_
      refine z_aload_n (i := 2) (pc := 102) C rfl rfl dX4_mix_102 ?_
      refine z_iload (i := 9) (pc := 103) C rfl dX4_mix_103 ?_
      refine z_aload (i := 5) (pc := 105) C rfl dX4_mix_105 ?_
      refine z_iload (i := 8) (pc := 107) C rfl dX4_mix_107 ?_
      refine z_callVl (pc := 109) C (c_X1_weight hq1 he1) k_X4_66 zy_X1_weight rfl rfl (zU_n' hqc hq) rfl rfl ⟨(Nat.le_of_ble_eq_true rfl), (Nat.le_of_ble_eq_true rfl)⟩ (Nat.le_of_ble_eq_true rfl) dX4_mix_109 ⟨rfl, rfl⟩ ⟨(Nat.le_of_ble_eq_true rfl), (Nat.le_of_ble_eq_true rfl)⟩ (fun rv ω' hp => ?_)
      obtain ⟨rfl, rfl⟩ := hp
      refine z_iload (i := 7) (pc := 112) C rfl dX4_mix_112 ?_
      refine z_callVv (pc := 114) C (c_X4_gather hr1 (zU_s _ _ _) hs hro1 hco1 hso hcc hrow (by omega) hwi hm1 hm2) k_X4_70 zy_X4_gather rfl rfl (zU_n' hrc hr) rfl rfl ⟨(Nat.le_of_ble_eq_true rfl), (Nat.le_of_ble_eq_true rfl)⟩ (Nat.le_of_ble_eq_true rfl) dX4_mix_114 ⟨rfl, rfl⟩ ⟨(Nat.le_of_ble_eq_true rfl), (Nat.le_of_ble_eq_true rfl)⟩ (fun ω' hp => ?_)
      obtain ⟨g3, rfl, hg3⟩ := hp
      rw [zU_u]
      refine z_iinc (i := 8) (lv' := [_, _, _, _, _, _, _, _, _, _, _]) (pc := 117) C rfl (by decide) rfl rfl dX4_mix_117 ?_
      refine z_goto (tgt := 72) (pc := 120) C dX4_mix_120 (by decide) ?_
      exact ih (i + 1) _ _ (by omega) (zRS_c (zRS_t hg hg3) (fun k a b => by rw [hg.1 k a b]; rfl))
set_option maxRecDepth 100000 in
set_option maxHeartbeats 4000000 in
theorem lp_X4_mix3 {Γ : zG} {l0 : Launch} {X : zX} {ω : zWd} {r c h wd : Nat} {u : Int} {g : Int → Int} {ro q : Nat} {row fr sg : Int} {mn : Nat} {xs : Int → Int} (C : Zc Γ l0 X rmX4_mix 11 cX4_mix RX4) (E : Ze Γ (zpv (fun w => ∃ g2, w = zU ω c (zAJ X (h * wd) g2) ∧ zRS g g2 row wd mn (ztl xs 1 0))) 0 0 none) (hr : ω.1 r = some (zOb 4 [.int (zI h), .int (zI wd), .ref c, .int (zI u)])) (hc : ω.1 c = some (zAJ X (h * wd) g)) (hs : (0 < h ∧ h ≤ 256) ∧ (0 < wd ∧ wd ≤ 16) ∧ 0 ≤ u ∧ u ≤ h) (hrc : r ≠ c) (hrow : 0 ≤ row ∧ row < u) (hm1 : mn ≤ wd) {g1 : Int → Int} (h1 : zRS g g1 row wd mn xs) (hxs : ∀ k : Int, 0 ≤ k → k < mn → 0 ≤ xs k ∧ xs k ≤ 1000000 * (zL - 1)) : ∀ (j i : Nat) (gi : Int → Int), i + j = mn → zRS g1 gi row wd i (ztl xs 1 0) → Zw Γ (zU ω c (zAJ X (h * wd) gi)) 0 0 134 [some (.ref r), some (.int (zI row)), some (.ref ro), some (.int (zI fr)), some (.int (zI sg)), some (.ref q), some (.int (zI (mn : Int))), some (.int (zI (mn : Int))), some (.long (zJ (zcr xs 1 0 i))), none, some (.int (zI (row * wd + ((i : Nat) : Int))))] [] := by
  intro j
  induction j with
  | zero =>
    intro i gi hj hg
    have e1 : i = mn := by omega
    subst e1
    have hmm := z_hw hs.1.2 hs.2.1.2
    have hx := z_ix (r := row) (h := h) (w := wd) (i := 0) (by omega) (by omega) (by omega) (by omega)
    refine z_iload (i := 10) (pc := 134) C rfl dX4_mix_134 ?_
    refine z_iload_n (i := 1) (pc := 136) C rfl rfl dX4_mix_136 ?_
    refine z_aload_n (i := 0) (pc := 137) C rfl rfl dX4_mix_137 ?_
    refine g_X4_21 (pc := 138) C (zU_n' hrc hr) rfl dX4_mix_138 ?_
    refine z_imul (pc := 141) C dX4_mix_141 ?_
    refine z_iload (i := 7) (pc := 142) C rfl dX4_mix_142 ?_
    refine z_iadd (pc := 144) C dX4_mix_144 ?_
    refine z_icmp_ge (tgt := 187) (pc := 145) C dX4_mix_145 (by decide) (fun h145 => ?_) (fun h145 => absurd h145 (by omega))
    exact z_vret (pc := 187) C E dX4_mix_187 ⟨rfl, ⟨gi, rfl, zRS_t h1 hg⟩⟩
  | succ j ih =>
    intro i gi hj hg
    have hmm := z_hw hs.1.2 hs.2.1.2
    have hx := z_ix (r := row) (h := h) (w := wd) (i := i) (by omega) (by omega) (by omega) (by omega)
    have hxi := hxs i (by omega) (by omega)
    have hcb := zcr_b1 (x := xs) (M := 1000000) (n := i) (by decide) (fun k a b => hxs k a (by omega))
    have hz : zL = 1000000000000 := rfl
    have hgi : gi (row * wd + i) = xs i := by rw [hg.2 _ (Or.inr (by omega)), h1.1 i (by omega) (by omega)]
    rw [hz] at hxi
    refine z_iload (i := 10) (pc := 134) C rfl dX4_mix_134 ?_
    refine z_iload_n (i := 1) (pc := 136) C rfl rfl dX4_mix_136 ?_
    refine z_aload_n (i := 0) (pc := 137) C rfl rfl dX4_mix_137 ?_
    refine g_X4_21 (pc := 138) C (zU_n' hrc hr) rfl dX4_mix_138 ?_
    refine z_imul (pc := 141) C dX4_mix_141 ?_
    refine z_iload (i := 7) (pc := 142) C rfl dX4_mix_142 ?_
    refine z_iadd (pc := 144) C dX4_mix_144 ?_
    refine z_icmp_ge (tgt := 187) (pc := 145) C dX4_mix_145 (by decide) (fun h145 => absurd h145 (by omega)) (fun h145 => ?_)
    refine z_lload (i := 8) (pc := 148) C rfl dX4_mix_148 ?_
    refine z_aload_n (i := 0) (pc := 150) C rfl rfl dX4_mix_150 ?_
    refine g_X4_24 (pc := 151) C (zU_n' hrc hr) rfl dX4_mix_151 ?_
    refine z_iload (i := 10) (pc := 154) C rfl dX4_mix_154 ?_
    refine z_laload (pc := 156) C (zU_s _ _ _) dX4_mix_156 ?_ (hi := ⟨hx.1, by rw [Int.natCast_mul]; exact hx.2, by omega⟩)
    rw [hgi]
    refine z_ladd (pc := 157) C dX4_mix_157 ?_
    refine z_lstore (i := 8) (lv' := [_, _, _, _, _, _, _, _, _, _, _]) (pc := 158) C (by decide) rfl rfl dX4_mix_158 ?_
    refine z_aload_n (i := 0) (pc := 160) C rfl rfl dX4_mix_160 ?_
    refine g_X4_24 (pc := 161) C (zU_n' hrc hr) rfl dX4_mix_161 ?_
    refine z_iload (i := 10) (pc := 164) C rfl dX4_mix_164 ?_
    refine z_lload (i := 8) (pc := 166) C rfl dX4_mix_166 ?_
    refine z_ldc2 (a := 1000000000000) (pc := 168) C (by decide +kernel) q_X4_48 dX4_mix_168 ?_
    refine z_lrem (pc := 171) C (hd := dX4_mix_171) (k := ?_)
    refine z_lastore (pc := 172) C (zU_s _ _ _) dX4_mix_172 ?_ (hi := ⟨hx.1, by rw [Int.natCast_mul]; exact hx.2, by omega⟩)
    rw [zU_u]
    refine z_lload (i := 8) (pc := 173) C rfl dX4_mix_173 ?_
    refine z_ldc2 (a := 1000000000000) (pc := 175) C (by decide +kernel) q_X4_48 dX4_mix_175 ?_
    refine z_ldiv (pc := 178) C (hd := dX4_mix_178) (k := ?_)
    refine z_lstore (i := 8) (lv' := [_, _, _, _, _, _, _, _, _, _, _]) (pc := 179) C (by decide) rfl rfl dX4_mix_179 ?_
    refine z_iinc (i := 10) (lv' := [_, _, _, _, _, _, _, _, _, _, _]) (pc := 181) C rfl (by decide) rfl rfl dX4_mix_181 ?_
    refine z_goto (tgt := 134) (pc := 184) C dX4_mix_184 (by decide) ?_
    have e2 : zcr xs 1 0 (i + 1) = (zcr xs 1 0 i + xs i) / 1000000000000 := by
      show (zcr xs 1 0 i + xs i * 1) / zL = _
      rw [Int.mul_one, hz]
    rw [show row * (wd : Int) + ((i : Nat) : Int) + 1 = row * wd + ((i + 1 : Nat) : Int) by omega, ← e2]
    exact ih (i + 1) _ (by omega) (zRS_s hg (by omega) (by
      show _ = (zcr xs 1 0 (i : Int).toNat + xs i * 1) % zL
      rw [Int.mul_one, hz, Int.toNat_natCast]))
set_option maxRecDepth 100000 in
set_option maxHeartbeats 4000000 in
theorem c_X4_mix {l0 : Launch} {X : zX} {ω : zWd} {r c h wd : Nat} {u : Int} {g : Int → Int} {ro co ho wo q e : Nat} {uo t wh pl : Int} {go wt : Int → Int} {row fr sg : Int} {mn : Nat} (hr : ω.1 r = some (zOb 4 [.int (zI h), .int (zI wd), .ref c, .int (zI u)])) (hc : ω.1 c = some (zAJ X (h * wd) g)) (hs : (0 < h ∧ h ≤ 256) ∧ (0 < wd ∧ wd ≤ 16) ∧ 0 ≤ u ∧ u ≤ h) (hro : ω.1 ro = some (zOb 4 [.int (zI ho), .int (zI wo), .ref co, .int (zI uo)])) (hco : ω.1 co = some (zAJ X (ho * wo) go)) (hso : (0 < ho ∧ ho ≤ 256) ∧ (0 < wo ∧ wo ≤ 16) ∧ 0 ≤ uo ∧ uo ≤ ho) (hq : ω.1 q = some (zOb 1 [.ref e, .int (zI t), .long (zJ wh), .int (zI pl)])) (he : ω.1 e = some (zAJ X 41 wt)) (ht : 0 ≤ t ∧ t < 41) (hcc : co ≠ c) (hec : e ≠ c) (hrow : 0 ≤ row ∧ row < u) (hm0 : 0 < mn) (hm1 : mn ≤ wd) (hm2 : mn ≤ wo) (hsg : sg = 1 ∨ sg = -1) (hfr : -100000 ≤ fr ∧ fr ≤ 100000) (hwt : ∀ s : Int, 0 ≤ s → s < 41 → 0 ≤ wt s) (hsum : zs wt (t.toNat + 1) ≤ 1000000) (hgo : ∀ rr k : Int, 0 ≤ rr → rr < uo → 0 ≤ k → k < wo → 0 ≤ go (rr * wo + k) ∧ go (rr * wo + k) < zL) : zMet l0 yX4_mix cX4_mix 11 none rmX4_mix X [.ref r, .int (zI row), .ref ro, .int (zI fr), .int (zI sg), .ref q, .int (zI (mn : Int))] ω (zpv (fun w => ∃ g2, w = zU ω c (zAJ X (h * wd) g2) ∧ zRS g g2 row wd mn (ztl (fun k => zs (fun s => wt s * zSr go wo uo (fr + sg * s) k) (t.toNat + 1)) 1 0))) := by
  refine zMet.intro (by decide) (Nat.le_of_ble_eq_true rfl) ?_
  intro Γ C E N
  show Zw Γ ω 0 0 0 [some _, some _, some _, some _, some _, some _, some _, none, none, none, none] []
  have hrc : r ≠ c := z_neOJ hr hc
  have hroc : ro ≠ c := z_neOJ hro hc
  have hqc : q ≠ c := z_neOJ hq hc
  have hw1 : ∀ s : Int, 0 ≤ s → s < 41 → 0 ≤ wt s ∧ (s ≤ t → wt s ≤ 1000000) := by
    intro s s0 s1
    refine ⟨hwt s s0 s1, fun st => ?_⟩
    have := zs_one (f := wt) (n := t.toNat + 1) (fun k a b => hwt k a (by omega)) s s0 (by omega)
    omega
  have hmm := z_hw hs.1.2 hs.2.1.2
  have hx0 := z_ix (r := row) (h := h) (w := wd) (i := 0) (by omega) (by omega) (by omega) (by omega)
  have hxs : ∀ k : Int, 0 ≤ k → k < mn → 0 ≤ zs (fun s => wt s * zSr go wo uo (fr + sg * s) k) (t.toNat + 1) ∧ zs (fun s => wt s * zSr go wo uo (fr + sg * s) k) (t.toNat + 1) ≤ 1000000 * (zL - 1) := by
    intro k k0 k1
    have h1 := zs_m (w := wt) (S := fun s => zSr go wo uo (fr + sg * s) k) (B := zL - 1) (n := t.toNat + 1) (fun s a b => ⟨hwt s a (by omega), by
      unfold zSr
      split
      · rename_i hc2
        have := hgo _ k hc2.1 hc2.2 k0 (by omega)
        omega
      · have : 0 < zL := by decide
        omega⟩)
    have h2 : zs wt (t.toNat + 1) * (zL - 1) ≤ 1000000 * (zL - 1) := Int.mul_le_mul_of_nonneg_right hsum (by decide)
    exact ⟨h1.1, Int.le_trans h1.2 h2⟩
  refine z_iload (i := 6) (pc := 0) C rfl dX4_mix_0 ?_
  refine z_aload_n (i := 0) (pc := 2) C rfl rfl dX4_mix_2 ?_
  refine g_X4_21 (pc := 3) C hr rfl dX4_mix_3 ?_
  refine z_aload_n (i := 2) (pc := 6) C rfl rfl dX4_mix_6 ?_
  refine g_X4_21 (pc := 7) C hro rfl dX4_mix_7 ?_
  refine z_callSi (pc := 10) C (c_J9_min_7cf53) k_X4_31 zy_J9_min_7cf53.2 rfl rfl ⟨(Nat.le_of_ble_eq_true rfl), (Nat.le_of_ble_eq_true rfl)⟩ (Nat.le_of_ble_eq_true rfl) dX4_mix_10 ⟨rfl, rfl⟩ ⟨(Nat.le_of_ble_eq_true rfl), (Nat.le_of_ble_eq_true rfl)⟩ (fun rv ω' hp => ?_)
  obtain ⟨rfl, rfl⟩ := hp
  refine z_callSi (pc := 13) C (c_J9_min_7cf53) k_X4_31 zy_J9_min_7cf53.2 rfl rfl ⟨(Nat.le_of_ble_eq_true rfl), (Nat.le_of_ble_eq_true rfl)⟩ (Nat.le_of_ble_eq_true rfl) dX4_mix_13 ⟨rfl, rfl⟩ ⟨(Nat.le_of_ble_eq_true rfl), (Nat.le_of_ble_eq_true rfl)⟩ (fun rv ω' hp => ?_)
  obtain ⟨rfl, rfl⟩ := hp
  rw [show min (mn : Int) (min (wd : Int) (wo : Int)) = (mn : Int) by omega]
  refine z_istore (i := 7) (lv' := [_, _, _, _, _, _, _, _, _, _, _]) (pc := 16) C (by decide) rfl rfl dX4_mix_16 ?_
  refine z_aload_n (i := 0) (pc := 18) C rfl rfl dX4_mix_18 ?_
  refine z_iload_n (i := 1) (pc := 19) C rfl rfl dX4_mix_19 ?_
  refine z_callVi (pc := 20) C (c_X4_has hr hc hs) k_X4_57 zy_X4_has rfl rfl hr rfl rfl ⟨(Nat.le_of_ble_eq_true rfl), (Nat.le_of_ble_eq_true rfl)⟩ (Nat.le_of_ble_eq_true rfl) dX4_mix_20 ⟨rfl, rfl⟩ ⟨(Nat.le_of_ble_eq_true rfl), (Nat.le_of_ble_eq_true rfl)⟩ (fun rv ω' hp => ?_)
  obtain ⟨rfl, hp⟩ := hp
  refine z_if_eq (tgt := 32) (pc := 23) C dX4_mix_23 (by decide) (fun h23 => absurd h23 (by omega)) (fun h23 => ?_)
  refine z_iload (i := 7) (pc := 26) C rfl dX4_mix_26 ?_
  refine z_iconst (pc := 28) C dX4_mix_28 ?_
  refine z_icmp_ge (tgt := 33) (pc := 29) C dX4_mix_29 (by decide) (fun h29 => ?_) (fun h29 => absurd h29 (by omega))
  refine z_iload_n (i := 1) (pc := 33) C rfl rfl dX4_mix_33 ?_
  refine z_aload_n (i := 0) (pc := 34) C rfl rfl dX4_mix_34 ?_
  refine g_X4_21 (pc := 35) C hr rfl dX4_mix_35 ?_
  refine z_imul (pc := 38) C dX4_mix_38 ?_
  refine z_istore (i := 8) (lv' := [_, _, _, _, _, _, _, _, _, _, _]) (pc := 39) C (by decide) rfl rfl dX4_mix_39 ?_
  have hw : ω' = zU ω' c (zAJ X (h * wd) g) := (zU_id hc).symm
  rw [hw, show row * (wd : Int) = row * wd + ((0 : Nat) : Int) by omega]
  refine lp_X4_mix1 C hr hc hs hrc hrow hm1 ?_ mn 0 g (by omega) zRS_0
  intro gi1 hg1
  refine z_iconst (pc := 69) C dX4_mix_69 ?_
  refine z_istore (i := 8) (lv' := [_, _, _, _, _, _, _, _, _, _, _]) (pc := 70) C (by decide) rfl rfl dX4_mix_70 ?_
  refine lp_X4_mix2 C hr hc hs hro hco hso hq he ht hrc hroc hcc hqc hec hrow hm0 hm1 hm2 hsg hfr (fun s s0 s1 => ⟨(hw1 s s0 (by omega)).1, (hw1 s s0 (by omega)).2 s1⟩) ?_ (t.toNat + 1) 0 gi1 none (by omega) hg1
  intro gi2 o9 hg2
  refine z_lconst (v := 0) (pc := 123) C (by decide +kernel) dX4_mix_123 ?_
  refine z_lstore (i := 8) (lv' := [_, _, _, _, _, _, _, _, _, _, _]) (pc := 124) C (by decide) rfl rfl dX4_mix_124 ?_
  refine z_iload_n (i := 1) (pc := 126) C rfl rfl dX4_mix_126 ?_
  refine z_aload_n (i := 0) (pc := 127) C rfl rfl dX4_mix_127 ?_
  refine g_X4_21 (pc := 128) C (zU_n' hrc hr) rfl dX4_mix_128 ?_
  refine z_imul (pc := 131) C dX4_mix_131 ?_
  refine z_istore (i := 10) (lv' := [_, _, _, _, _, _, _, _, _, _, _]) (pc := 132) C (by decide) rfl rfl dX4_mix_132 ?_
  rw [show row * (wd : Int) = row * wd + ((0 : Nat) : Int) by omega]
  exact lp_X4_mix3 C E hr hc hs hrc hrow hm1 hg2 hxs mn 0 gi2 (by omega) zRS_0
