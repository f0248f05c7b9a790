set_option maxRecDepth 100000 in
set_option maxHeartbeats 4000000 in
theorem law_loop {Γ : zG} {l0 : Launch} {X : zX} {b L : Nat} {xs : Nat → Int32} {x : Nat} (C : Zc Γ l0 X room_1 4 cL_law RL) (S : zSc Γ b L xs) (End : ∀ (ω : zWd) (c i : Nat), c ≤ 3698 → Zw Γ ω (2504 + c) (190089 + 72 * c) 824 [some (.ref b), some (.ref x), some (.ref (x + 58)), some (.int (zI (i : Int)))] []) : ∀ (j i : Nat) (ω : zWd) (c : Nat), L < i + 6 * j → i ≤ L → zJn X ω x c → Zw Γ ω (2504 + c) (190089 + 72 * c) 18 [some (.ref b), some (.ref x), some (.ref (x + 58)), some (.int (zI (i : Int)))] [] := by
  have hL := S.l
  intro j
  induction j with
  | zero =>
    intro i ω c h1 h2 hJ
    exact absurd h1 (by omega)
  | succ j ih =>
    intro i ω c h1 h2 hJ
    have hc3 : c ≤ 3698 := by
      obtain ⟨bk, nv, bh, rt, tc, dc, tm, dm, hR, hD, hc, hr⟩ := id hJ
      omega
    have hE := End ω c i hc3
    obtain ⟨y0, e0, r0⟩ : ∃ y : Int, xs (i + 0) = zI y ∧ (-2147483648 ≤ y ∧ y < 2147483648) := ⟨_, (zI_of _).symm, zI_r _⟩
    have next : i + 6 ≤ L → ∀ (ω : zWd) (c : Nat), zJn X ω x c → Zw Γ ω (2504 + c) (190089 + 72 * c) 818 [some (.ref b), some (.ref x), some (.ref (x + 58)), some (.int (zI (i : Int)))] [] := by
      intro h6 ω c hJ
      have hgo := ih (i + 6) ω c (by omega) h6 hJ
      refine z_iinc (i := 3) (lv' := [_, _, _, _]) (pc := 818) C rfl (by decide) rfl rfl dL_law_818 ?_
      refine z_goto (tgt := 18) (pc := 821) C dL_law_821 (by decide) ?_
      exact hgo
    refine z_iload_n (i := 3) (pc := 18) C rfl rfl dL_law_18 ?_
    refine z_aload_n (i := 0) (pc := 19) C rfl rfl dL_law_19 ?_
    refine z_slen (pc := 20) C S dL_law_20 ?_
    refine z_bipush (pc := 21) C (by decide +kernel) dL_law_21 ?_
    refine z_isub (pc := 23) C dL_law_23 ?_
    refine z_icmp_gt (tgt := 824) (pc := 24) C dL_law_24 (by decide) (fun h24 => ?_) (fun h24 => ?_)
    · exact hE
    · refine z_aload_n (i := 0) (pc := 27) C rfl rfl dL_law_27 ?_
      refine z_iload_n (i := 3) (pc := 28) C rfl rfl dL_law_28 ?_
      refine z_sld (pc := 29) C S (i + 0) (by omega) (by omega) e0 dL_law_29 ?_
      refine z_bipush (pc := 30) C (by decide +kernel) dL_law_30 ?_
      refine z_iand (pc := 32) C dL_law_32 ?_
      rw [z_and15 r0]
      have hv : 0 ≤ y0 % 16 ∧ y0 % 16 ≤ 15 := by omega
      have h6 : i + 6 ≤ L := by omega
      have nx := next h6
      generalize y0 % 16 = v at hv ⊢
      have hcase : v = 0 ∨ v = 1 ∨ v = 2 ∨ v = 3 ∨ v = 4 ∨ v = 5 ∨ v = 6 ∨ v = 7 ∨ v = 8 ∨ v = 9 ∨ v = 10 ∨ v = 11 ∨ v = 12 ∨ v = 13 ∨ v = 14 ∨ v = 15 := by omega
      rcases hcase with rfl | rfl | rfl | rfl | rfl | rfl | rfl | rfl | rfl | rfl | rfl | rfl | rfl | rfl | rfl | rfl
      · exact z_tab (pc := 33) (off := 79) (tgt := 112) C dL_law_33 (by decide) (by decide) rfl (by decide) (law_0 C S h6 hJ nx)
      · exact z_tab (pc := 33) (off := 122) (tgt := 155) C dL_law_33 (by decide) (by decide) rfl (by decide) (law_1 C S h6 hJ nx)
      · exact z_tab (pc := 33) (off := 155) (tgt := 188) C dL_law_33 (by decide) (by decide) rfl (by decide) (law_2 C S h6 hJ nx)
      · exact z_tab (pc := 33) (off := 178) (tgt := 211) C dL_law_33 (by decide) (by decide) rfl (by decide) (law_3 C S h6 hJ nx)
      · exact z_tab (pc := 33) (off := 221) (tgt := 254) C dL_law_33 (by decide) (by decide) rfl (by decide) (law_4 C S h6 hJ nx)
      · exact z_tab (pc := 33) (off := 300) (tgt := 333) C dL_law_33 (by decide) (by decide) rfl (by decide) (law_5 C S h6 hJ nx)
      · exact z_tab (pc := 33) (off := 369) (tgt := 402) C dL_law_33 (by decide) (by decide) rfl (by decide) (law_6 C S h6 hJ nx)
      · exact z_tab (pc := 33) (off := 422) (tgt := 455) C dL_law_33 (by decide) (by decide) rfl (by decide) (law_7 C S h6 hJ nx)
      · exact z_tab (pc := 33) (off := 455) (tgt := 488) C dL_law_33 (by decide) (by decide) rfl (by decide) (law_8 C S h6 hJ nx)
      · exact z_tab (pc := 33) (off := 488) (tgt := 521) C dL_law_33 (by decide) (by decide) rfl (by decide) (law_9 C S h6 hJ nx)
      · exact z_tab (pc := 33) (off := 521) (tgt := 554) C dL_law_33 (by decide) (by decide) rfl (by decide) (law_10 C S h6 hJ nx)
      · exact z_tab (pc := 33) (off := 584) (tgt := 617) C dL_law_33 (by decide) (by decide) rfl (by decide) (law_11 C S h6 hJ nx)
      · exact z_tab (pc := 33) (off := 663) (tgt := 696) C dL_law_33 (by decide) (by decide) rfl (by decide) (law_12 C S h6 hJ nx)
      · exact z_tab (pc := 33) (off := 686) (tgt := 719) C dL_law_33 (by decide) (by decide) rfl (by decide) (law_13 C S h6 hJ nx)
      · exact z_tab (pc := 33) (off := 699) (tgt := 732) C dL_law_33 (by decide) (by decide) rfl (by decide) (law_14 C S h6 hJ nx)
      · exact z_tab (pc := 33) (off := 752) (tgt := 785) C dL_law_33 (by decide) (by decide) rfl (by decide) (law_15 C S h6 hJ nx)
set_option maxRecDepth 100000 in
set_option maxHeartbeats 4000000 in
theorem law_start {Γ : zG} {l0 : Launch} {X : zX} {b x : Nat} {ω : zWd} (C : Zc Γ l0 X room_1 4 cL_law RL) (hz : ω.2 = x) (K : ∀ ω : zWd, zJn X ω x 0 → Zw Γ ω 2504 190089 18 [some (.ref b), some (.ref x), some (.ref (x + 58)), some (.int (zI ((0 : Nat) : Int)))] []) : Zw Γ ω 0 0 0 [some (.ref b), none, none, none] [] := by
  refine z_new (pc := 0) (ci := 6) C tyX6 iX6 tyX6_ok cl_L_7 in_X6 (kc_X6_init).2.2 rfl (fs := fsX6) hfsX6 (by decide +kernel) (by decide +kernel) dL_law_0 ?_
  rw [hz]
  refine z_nm (fun ω1 h1 => ?_)
  have s1 : ω1.2 = x + 1 := by rw [h1]; show _ + 1 = _; omega
  have x1 : ω1.1 x = some (zOb 6 fsX6) := by rw [h1, ← hz]; exact zN_s _ _
  refine z_dup (pc := 3) C rfl dL_law_3 ?_
  refine z_callI (pc := 4) C (c_X6_init x1 s1) rfl k_L_9 kc_X6_init zy_X6_init.2 rfl rfl ⟨(Nat.le_of_ble_eq_true rfl), (Nat.le_of_ble_eq_true rfl)⟩ (Nat.le_of_ble_eq_true rfl) dL_law_4 ⟨(by decide +kernel), (by decide +kernel)⟩ (fun rv ω2 hp => ?_)
  obtain ⟨rfl, hk2, s2, hR2⟩ := hp
  refine z_astore_n (i := 1) (lv' := [_, _, _, _]) (pc := 7) C rfl (by decide) rfl rfl dL_law_7 ?_
  refine z_new (pc := 8) (ci := 7) C tyX7 iX7 tyX7_ok cl_L_10 in_X7 (kc_X7_init).2.2 rfl (fs := fsX7) hfsX7 (by decide +kernel) (by decide +kernel) dL_law_8 ?_
  rw [s2]
  refine z_nm (fun ω3 h3 => ?_)
  have s3 : ω3.2 = x + 58 + 1 := by rw [h3]; show _ + 1 = _; omega
  have m3 : ω3.1 (x + 58) = some (zOb 7 fsX7) := by rw [h3, ← s2]; exact zN_s _ _
  have hR3 := hR2.fr (ω2 := ω3) (fun b q1 q2 => by rw [h3]; exact zN_n (by omega))
  refine z_dup (pc := 11) C rfl dL_law_11 ?_
  refine z_callI (pc := 12) C (c_X7_init m3 s3) rfl k_L_12 kc_X7_init zy_X7_init.2 rfl rfl ⟨(Nat.le_of_ble_eq_true rfl), (Nat.le_of_ble_eq_true rfl)⟩ (Nat.le_of_ble_eq_true rfl) dL_law_12 ⟨(by decide +kernel), (by decide +kernel)⟩ (fun rv ω4 hp => ?_)
  obtain ⟨rfl, hk4, hD4⟩ := hp
  have hR4 := hR3.fr (ω2 := ω4) (fun b q1 q2 => hk4 b (by omega))
  refine z_astore_n (i := 2) (lv' := [_, _, _, _]) (pc := 15) C rfl (by decide) rfl rfl dL_law_15 ?_
  refine z_iconst (pc := 16) C dL_law_16 ?_
  refine z_istore_n (i := 3) (lv' := [_, _, _, _]) (pc := 17) C rfl (by decide) rfl rfl dL_law_17 ?_
  have hK := K ω4 ⟨_, 0, 0, 0, _, _, _, _, hR4, hD4, Or.inl rfl, by omega, by omega, by decide, fun t t1 t2 => absurd t1 (by omega), fun k k1 k2 => rfl⟩
  exact hK
set_option maxHeartbeats 4000000 in
set_option maxRecDepth 100000 in
/-- from the entry, for every script of at most 3072 ints, the law comes to its end with true -/
theorem whole_start {p : Program} {e : Env} {s : State} {m : MethodId} {below : List Frame} {meth : Method} {c : Code} (l : Launch) {b L : Nat} {xs : Nat → Int32} (hL : L ≤ 3072) (C0 : lw_At p s m meth c b L xs) : W p l e room_1 s m #[Value.ref b] below meth c s.heap [] 0 0 (lw_Z below #[Value.ref b] s) (entryFrame m ([Value.ref b] : List Value).toArray 4) := by
  obtain ⟨hx, hb, hr, hml, hown, hts, hX, hbl, hlocks, hgv⟩ := id C0
  obtain ⟨X, hK⟩ := z_known hts
  have htz : ∀ w ∈ zTb, w.before #[Value.ref b] s = true := fun w hw => hts w (List.mem_filter.mp hw).1
  have main : Zw (p, l, e, room_1, s, m, #[Value.ref b], below, meth, c, lw_Z below #[Value.ref b] s, X, (fun q => s.heap.size ≤ q), 4) ((fun _ => none), s.heap.size) 0 0 0 [some (.ref b), none, none, none] [] := by
    have C : Zc (p, l, e, room_1, s, m, #[Value.ref b], below, meth, c, lw_Z below #[Value.ref b] s, X, (fun q => s.heap.size ≤ q), 4) l X room_1 4 cL_law RL := ⟨hx, hb, hml, hown, htz, hK, fun q h => h, rfl, rfl, rfl, rfl⟩
    have S : zSc (p, l, e, room_1, s, m, #[Value.ref b], below, meth, c, lw_Z below #[Value.ref b] s, X, (fun q => s.heap.size ≤ q), 4) b L xs := ⟨hX, hbl, Nat.not_le.mpr hbl, hL⟩
    refine law_start (b := b) C rfl (fun ω hJ => ?_)
    have h := law_loop (x := s.heap.size) C S ?_ (L + 1) 0 ω 0 (by omega) (by omega) hJ
    · exact h
    · intro ω c2 i hc
      refine z_iconst (pc := 824) C dL_law_824 ?_
      intro H locs ls hP hG hS hl
      refine va_forget (fun q hq => hS.2.2 q hq) ?_
      refine W.widen (show 2504 + c2 ≤ 600000 by omega) (show 190089 + 72 * c2 ≤ 7302250 by omega) ?_
      rw [show zI 1 = 1 by decide +kernel]
      exact lw_ret hx hb hr hlocks dL_law_825
  have h := main s.heap [] _ ⟨rfl, fun a x h => by cases h⟩ (fun a x h => by cases h) va_S.rf (zEnt_ok [.ref b] (n := 4) (Nat.le_of_ble_eq_true rfl))
  rw [lg_entry_eq]
  exact h
set_option maxHeartbeats 4000000 in
theorem lw_walk (l : Launch) (b : Addr) (xs : List Int32) : MetFree l x (headSpec (Jvm.Cond.code x code maxLocals ret :: tables_1) room_1) (lw_P b xs) (fun _ _ _ _ _ => True) lw_Q := by
  refine MetFree.of_bodyS (code := code) (maxLocals := maxLocals) (ret := ret) (by decide) ?_ ?_
  · intro args s m h hn
    obtain ⟨meth, c, h1, h2, h3, h4, h5, h6, -, -⟩ := Cond.code_spec hn (atoms_spec (ws := Jvm.Cond.code x code maxLocals ret :: tables_1) h _ List.mem_cons_self)
    exact ⟨meth, c, h1, h2, h3, h4, h5, h6⟩
  · intro p e s m args below meth c s₁ B hml0 hP _
    obtain ⟨rfl, hx, hbd, hgv⟩ := hP
    obtain ⟨scr, harrAt, hlist, hof, hsmall⟩ := hx
    obtain ⟨hcb, hkn, -, -⟩ := State.arrayAt?_spec harrAt
    have hown : s.vm.findClass R_law = some m.cls := findClass_of_methodNamed B.named
    have hts0 : ∀ c ∈ (Jvm.Cond.code x code maxLocals ret :: tables_1), c.before #[Value.ref b] s = true := atoms_spec (ws := Jvm.Cond.code x code maxLocals ret :: tables_1) B.pre
    have hts : ∀ w ∈ lw_tbl, w.before #[Value.ref b] s = true := k2_hts_sels lw_privs (fun w hw => hts0 w (List.mem_cons_of_mem _ hw)) lw_privs_ok
    have hml : c.maxLocals = 4 := B.maxLocals_eq (hts0 _ List.mem_cons_self)
    have X₀ : Stand p l e room_1 s m #[Value.ref b] below meth c s₁ [] 0 0 := Stand.of_body B
    have hh0 : s₁.heap = s.heap := by rw [B.state]; rfl
    have hsz : scr.slots.size = xs.length := by rw [← Array.length_toList, hlist, List.length_map]
    have hval : ∀ j : Nat, j < xs.length → scr.slots[j]? = some (.int (xs.getD j 0)) := fun j hj => by
      rw [← Array.getElem?_toList, hlist]
      simp [hj]
    have hbl : b < s.heap.size := (Array.getElem?_eq_some_iff.mp hcb).1
    have hX : va_X b xs.length (fun j => xs.getD j 0) s s.heap := ⟨scr, hcb, hof, hkn, hsz, hval⟩
    have K : W p l e room_1 s m #[Value.ref b] below meth c s₁.heap [] 0 0 (lw_Z below #[Value.ref b] s) (entryFrame m ([Value.ref b] : List Value).toArray 4) := by
      rw [hh0]
      exact whole_start l hbd ⟨B.exec, B.bytes, B.returns, hml, hown, hts, hX, hbl, B.notSynchronized, hgv⟩
    obtain ⟨t, a1, o, b1, b2, b3⟩ := K s₁ rfl X₀
    exact ⟨t, o, a1, b1, b2, b3⟩
theorem lw_pre_spec {args : Array Value} {s : State} (h : (Jvm.Cond.and given_1 narrow_1).before args s = true) (hr : rest_1_c.before args s = true) : ∃ (b : Addr) (xs : List Int32), lw_P b xs args s := by
  have hs := flat_of_before _ h
  have hq := flat_of_before _ hr
  have hc : (Cond.count 1).before args s = true := hs _ (by decide +kernel)
  have harr : (Cond.arrayOf (.arg 0) .int).before args s = true := hs _ (by decide +kernel)
  have hle : (Cond.le (.length (.arg 0)) (.int 3072)).before args s = true := hs _ (by decide +kernel)
  have hlen : (Cond.isInt (.length (.arg 0))).before args s = true := hq _ (by decide +kernel)
  have hall : (Cond.all (.arg 0) (.isInt (.elem (.arg 0) (.index 0)))).before args s = true := hq _ (by decide +kernel)
  obtain ⟨b, xs, hb, hx⟩ := State.ints_of_pre rfl harr hlen hall
  have hsm : xs.length < 2 ^ 31 := hx.choose_spec.2.2.2
  have hev : (Term.length (.arg 0)).eval args s none [] s = some (.int xs.length.toInt32) := hx.length_eval hb
  have hv := Cond.le_ints hev (show (Term.int 3072).eval args s none [] s = some (.int 3072) from rfl)
  have hd : xs.length.toInt32 ≤ 3072 := by
    simpa [Cond.before, Cond.holds, hv] using hle
  have hN : xs.length ≤ 3072 := (Int32.ofNat_le_ofNat hsm (by decide)).mp (show Int32.ofNat xs.length ≤ Int32.ofNat 3072 from hd)
  exact ⟨b, xs, Cond.one_arg hc (show args[0]? = some (.ref b) from hb), hx, hN, h⟩
theorem lw_comes (l : Launch) : Comes l x (Jvm.Cond.code x code maxLocals ret :: tables_1) room_1 (fun tb e args s => Calls_1 tb e args s ∧ rest_1 tb e args s ∧ Pre_1 tb e args s)
    (fun _ _ args s o t => lw_Q args s o t) := by
  intro p e ha hc hk s m args below hf hfit hheap happ hpre
  obtain ⟨b, xs, hP⟩ := lw_pre_spec hpre.2.2 hpre.2.1
  obtain ⟨k, o, h1, h2, h3, hQ⟩ := lw_walk l b xs p e ha hc hk s m args below hf ((Spec.applies_iff_loose hf).mp happ).1 hP trivial
  exact ⟨k, o, h1, h2, h3, hQ⟩
theorem lw_frame {s t : State} {o : Outcome} {args : Array Value} (h : Framed s o t [] 600000 7302250) :
    Framed s o t (fieldLocs frame_1_writes args s ++ arrayLocs frame_1_arrays args s ++ staticLocs frame_1_statics s) 600000 7302250 := h
theorem lw_limb (L : Cond) (hL : ∀ (args : Array Value) (s t : State), L.after args s (.returned (some (.int 1))) t = true) :
    ArmFor flags0 classFile x code maxLocals ret World_1 tables_1 room_1 Calls_1 rest_1 Pre_1
      (fun tb e a s o t => postC L tb e a s o t ∧ Framed s o t (fieldLocs frame_1_writes a s ++ arrayLocs frame_1_arrays a s ++ staticLocs frame_1_statics s) 600000 7302250) := by
  intro l _ _ _ p e ha hc hk s m args below hf hfit hheap happ hpre
  obtain ⟨k, o, h1, h2, h3, rfl, hF⟩ := lw_comes l p e ha hc hk s m args below hf hfit hheap happ hpre
  exact ⟨k, _, h1, h2, h3, hL args s _, lw_frame hF⟩
theorem i_vc : Claimed_1_1 ∧ Claimed_1_2 := ⟨lw_limb limb_1_1 (fun args s t => by simp [limb_1_1, Cond.after, Cond.holds, Cond.value]), lw_limb limb_1_2 (fun args s t => Cond.after_iff.mpr (by
  first | (rw [show limb_1_2 = Cond.eq .result (.int 1) from rfl, Cond.eq_ints (x := 1) (y := 1) rfl rfl]; simp; done) | (simp [limb_1_2, Cond.value, Term.eval]; done)))⟩
