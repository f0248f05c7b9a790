/-- every word of the tables is one that a call keeps -/
theorem z_good : ∀ w ∈ zTb, ((w.onTables && w.keeps) = true ∨ ∃ ty, w = .arrayClass ty) := by
  intro w hw
  exact good_of_word (List.mem_filter.mp hw).2
theorem z_goodIn (w0 : Cond) {ws : List Cond} (h : ∀ w ∈ ws, w ∈ zTb) : GoodIn (w0 :: zTb) ws := fun w hw => ⟨List.mem_cons_of_mem _ (h w hw), z_good w (h w hw)⟩
theorem z_goodC {y : MethodName} {cc : ByteArray} {nL : Nat} {ret : Option FieldType} (h : Cond.code y cc nL ret ∈ zTb) : GoodIn zTb (.code y cc nL ret :: zTb) := by
  intro w hw
  rcases List.mem_cons.mp hw with rfl | hw
  · exact ⟨h, z_good _ h⟩
  · exact ⟨hw, z_good _ hw⟩
/-- where a call's room lies within the caller's -/
def zRm (R rm : Room) (nL : Nat) : Prop := rm.frames + 1 ≤ R.frames ∧ 8 + (nL + 11) + rm.locals ≤ R.locals
section ZCL
variable {Γ : zG} {l0 : Launch} {X : zX} {R : Room} {nL : Nat} {cc : ByteArray} {own : String} {ω : zWd} {cells slots pc : Nat} {lv : List (Option Value)} {st : List Value}
theorem z_blind {X : zX} {ω : zWd} {av : List Value} : FrameBlind (va_Pc av (fun U => zP X ω U.heap ∧ zK X U)) := fun a U g mk q => by
  obtain ⟨q0, q1, q2⟩ := q
  exact ⟨q0, q1, zK.same (u := U) (U := U.calling g mk a) rfl q2⟩
theorem z_run {p : Program} {l : Launch} {e : Env} {R : Room} {s : State} {m : MethodId} {args : Array Value} {below : List Frame} {meth : Method} {c : Code} {Q : State → Prop} {X : zX} {A : Nat → Prop} {nL : Nat} {H : Heap} {locs : List Loc} {ls : Array Slot} {mc ms : Nat} {st0 rest : List Value} {a : Array Value} {post : Option Value → zWd → Prop}
    (hr : va_Run p l e R s m args below meth c H locs cells slots mc ms (F0 m pc ls st0) rest (zQc X ω post a) (zA ω)) (hP : zP X ω H) (hG : ∀ a x, ω.1 a = some x → A a) (hS : va_S A s.heap H locs) (hA : ∀ q, s.heap.size ≤ q → A q) (hl : zH ls nL lv)
    (k : ∀ (v : Option Value) (ω' : zWd), post v ω' → Zw (p, l, e, R, s, m, args, below, meth, c, Q, X, A, nL) ω' (cells + mc) (slots + ms) (pc + 3) lv (v.toList ++ rest)) : W p l e R s m args below meth c H locs cells slots Q (F0 m pc ls st0) := by
  have hZ : ∀ q, zA ω q → A q := by
    intro q h
    rcases h with ⟨x, h⟩ | h
    · exact hG q x h
    · exact hA q (Nat.le_trans hS.1 (by rw [hP.1]; exact h))
  intro T hT X'
  obtain ⟨v, st₀, t, T', L, h0, X'', hL, e1, e2, ⟨⟨v', ω', hv, hp, hP', hK', hG'⟩, hz, hk⟩, st⟩ := hr T hT X'
  cases hv
  rw [h0] at hz hk
  obtain ⟨t2, a1, b1⟩ := k v ω' hp T'.heap (locs ++ L) ls (by rw [e1]; exact hP') (fun a x h => hZ a (hG' a x h)) ⟨Nat.le_trans hS.1 (by rw [e1]; exact hz), fun q h1 h2 => by
      rw [e1, hk q (Nat.lt_of_lt_of_le h1 hS.1) (fun z => h2 (hZ q z))]; exact hS.2.1 q h1 h2, fun q hq => by
      rcases List.mem_append.mp hq with h | h
      · exact hS.2.2 q h
      · exact hZ _ (hL q h)⟩ hl T' rfl X''
  exact ⟨t2, st t2 a1, b1⟩
/-- a call's words: link, instance method, selection, class, code -/
def zWV (own : String) (idx : Nat) (Cn : String) (y : MethodName) (cc : ByteArray) (nL : Nat) (ret : Option FieldType) : Prop := ∀ w ∈ ([.methodLink own idx y, .instanceMethod y, .selects Cn y y, .initialized Cn, .code y cc nL ret] : List Cond), w ∈ zTb
def zWS (own : String) (idx : Nat) (y : MethodName) (cc : ByteArray) (nL : Nat) (ret : Option FieldType) : Prop := ∀ w ∈ ([.methodLink own idx y, .static y, .initialized y.cls, .code y cc nL ret] : List Cond), w ∈ zTb
def zYn (y : MethodName) (n : Nat) : Prop := y.cls ≠ "java/lang/invoke/MethodHandle" ∧ y.cls ≠ "java/lang/invoke/VarHandle" ∧ (parseMethodDescriptor y.desc).map (fun d => d.parameters.length) = some n
theorem z_callV (C : Zc Γ l0 X R nL cc own) {idx ci b n nL' : Nat} {Cn : String} {q : vw_C} {y : MethodName} {cc' : ByteArray} {ret : Option FieldType} {rm : Room} {fs As rest : List Value} {post : Option Value → zWd → Prop}
    (M : zMet l0 y cc' nL' ret rm X (.ref b :: As) ω post) (hw : zWV own idx Cn y cc' nL' ret) (hy : y.cls = Cn ∧ zYn y n) (hc : vwCl[ci]? = some q) (hq : q.1 = Cn) (he : ω.1 b = some (zOb ci fs)) (hst : st = As.reverse ++ .ref b :: rest) (hn : As.length = n) (hrm : zRm R rm nL') (hrest : (rest.map fun v => v.category).sum ≤ 8) (hd : decode cc pc = .ok (.invokevirtual idx, 3)) (hf : cells + rm.cells ≤ R.cells ∧ slots + rm.slots ≤ R.slots)
    (k : ∀ (v : Option Value) (ω' : zWd), post v ω' → Zw Γ ω' (cells + rm.cells) (slots + rm.slots) (pc + 3) lv (v.toList ++ rest)) : Zw Γ ω cells slots pc lv st := by
  obtain ⟨p, l, e, R, s, m, args, below, meth, c, Q, X, A, nL⟩ := Γ
  obtain ⟨hx, hb, hml, hown, hts, hK, hA, rfl, rfl, rfl, rfl⟩ := C
  intro H locs ls hP hG hS hl
  subst hq
  have hcode : Cond.code y cc' nL' ret ∈ zTb := hw _ (by simp)
  have hG0 : GoodIn zTb (wsV own idx q.1 y (.code y cc' nL' ret :: zTb)) := by
    intro w h
    unfold wsV at h
    rcases List.mem_append.mp h with h | h
    · have h2 : w ∈ zTb := hw w (by simp only [List.mem_cons] at h ⊢; rcases h with h | h | h | h | h <;> simp_all)
      exact ⟨h2, z_good _ h2⟩
    · exact z_goodC hcode w h
  have hr := va_runV (H := H) (locs := locs) (cells := cells) (slots := slots) (below := below) (e := e) (meth := meth) (As := As) (rest := rest) (b := b) (g := F0 m pc ls st) ⟨hx, hb, hml, hown, hts⟩ M (cwV (R := R) n hts hG0 rfl rfl rfl ⟨hy.1, hy.2.1, hy.2.2.1, hy.2.2.2⟩ hrm) ⟨z_blind, va_recv hK.1 (z_sing hP he) hc (q0 := 0) rfl, fun U hU hW => ⟨rfl, by rw [hU]; exact hP, hK.moved hW⟩⟩ rfl hn hl.1 hst (by simp only [JFrame.monitorRoom]; simpa using hrest) hd hf
  exact z_run hr hP hG hS hA hl k
theorem z_callS (C : Zc Γ l0 X R nL cc own) {idx n nL' : Nat} {y : MethodName} {cc' : ByteArray} {ret : Option FieldType} {rm : Room} {As rest : List Value} {post : Option Value → zWd → Prop}
    (M : zMet l0 y cc' nL' ret rm X As ω post) (hw : zWS own idx y cc' nL' ret) (hy : zYn y n) (hst : st = As.reverse ++ rest) (hn : As.length = n) (hrm : zRm R rm nL') (hrest : (rest.map fun v => v.category).sum ≤ 8) (hd : decode cc pc = .ok (.invokestatic idx, 3)) (hf : cells + rm.cells ≤ R.cells ∧ slots + rm.slots ≤ R.slots)
    (k : ∀ (v : Option Value) (ω' : zWd), post v ω' → Zw Γ ω' (cells + rm.cells) (slots + rm.slots) (pc + 3) lv (v.toList ++ rest)) : Zw Γ ω cells slots pc lv st := by
  obtain ⟨p, l, e, R, s, m, args, below, meth, c, Q, X, A, nL⟩ := Γ
  obtain ⟨hx, hb, hml, hown, hts, hK, hA, rfl, rfl, rfl, rfl⟩ := C
  intro H locs ls hP hG hS hl
  have hcode : Cond.code y cc' nL' ret ∈ zTb := hw _ (by simp)
  have hG0 : GoodIn zTb (va_wsS own idx y (.code y cc' nL' ret :: zTb)) := by
    intro w h
    unfold va_wsS at h
    rcases List.mem_append.mp h with h | h
    · have h2 : w ∈ zTb := hw w (by simp only [List.mem_cons] at h ⊢; rcases h with h | h | h | h <;> simp_all)
      exact ⟨h2, z_good _ h2⟩
    · exact z_goodC hcode w h
  have hr := va_runS (H := H) (locs := locs) (cells := cells) (slots := slots) (below := below) (e := e) (meth := meth) (As := As) (rest := rest) (g := F0 m pc ls st) ⟨hx, hb, hml, hown, hts⟩ M (va_cwS (R := R) n hts hG0 rfl rfl rfl ⟨hy.1, hy.2.1, hy.2.2⟩ hrm) ⟨z_blind, fun U hU hW => ⟨rfl, by rw [hU]; exact hP, hK.moved hW⟩⟩ rfl hn hl.1 hst (by simp only [JFrame.monitorRoom]; simpa using hrest) hd hf
  exact z_run hr hP hG hS hA hl k
/-- the entry of a method -/
theorem zMet.intro {y : MethodName} {ret : Option FieldType} {rm : Room} {av : List Value} {post : Option Value → zWd → Prop} (hy : plainName y.cls = true) (hlen : (lg_sl av).length ≤ nL)
    (h : ∀ Γ : zG, Zc Γ l0 X rm nL cc y.cls → Ze Γ post rm.cells rm.slots ret → Γ.2.2.2.2.2.2.2.2.1.name = y.name → Zw Γ ω 0 0 0 (zEnt av nL) []) : zMet l0 y cc nL ret rm X av ω post := by
  refine Met.ofW (cc := cc) (maxL := nL) (ret := ret) hy rfl ?_
  intro p e s m args below meth c s₁ B hml hv
  obtain ⟨rfl, hP, hK⟩ := hv
  have hts := atoms_spec (ws := .code y cc nL ret :: zTb) B.pre
  have hown : s.vm.findClass y.cls = some m.cls := findClass_of_methodNamed B.named
  have hin : meth.name = y.name := (name_of_methodNamed B.named B.method).1
  have hA : ∀ q : Nat, s.heap.size ≤ q → zA ω q := fun q h => Or.inr (by rw [← hP.1]; exact h)
  have h1 := h (p, l0, e, rm, s, m, av.toArray, below, meth, c, MQ below (zQc X ω post) av.toArray s rm.cells rm.slots (zA ω), X, zA ω, nL) ⟨B.exec, B.bytes, hml, hown, fun w hw => hts w (List.mem_cons_of_mem _ hw), hK, hA, rfl, rfl, rfl, rfl⟩ ⟨ω, rfl, rfl, B.returns, B.notSynchronized⟩ hin
  rw [lg_entry_eq]
  exact h1 s.heap [] _ hP (fun a x hx => Or.inl ⟨x, hx⟩) va_S.rf (zEnt_ok av hlen)
section ZRT
variable {post : Option Value → zWd → Prop} {mc ms : Nat}
theorem z_vret (C : Zc Γ l0 X R nL cc own) (E : Ze Γ post mc ms none) (hd : decode cc pc = .ok (.return_, 1)) (hp : post none ω) (hc : cells ≤ mc := by omega) (hs : slots ≤ ms := by omega) : Zw Γ ω cells slots pc lv [] := by
  obtain ⟨p, l, e, R, s, m, args, below, meth, c, Q, X, A, nL⟩ := Γ
  obtain ⟨hx, hb, hml, hown, hts, hK, hA, rfl, rfl, rfl, rfl⟩ := C
  obtain ⟨ω0, rfl, rfl, hr, hlk⟩ := E
  intro H locs ls hP hG hS hl
  refine W.widen hc hs ?_
  exact W.vret hx hb hr (fun t ht hW => ⟨⟨none, ω, rfl, hp, by rw [ht]; exact hP, hK.moved hW, hG⟩, hS.F ht⟩) hS.2.2 hd hlk
theorem z_iret (C : Zc Γ l0 X R nL cc own) (E : Ze Γ post mc ms (some .int)) {v : Int32} (hd : decode cc pc = .ok (.ireturn, 1)) (hp : post (some (.int v)) ω) (hc : cells ≤ mc := by omega) (hs : slots ≤ ms := by omega) : Zw Γ ω cells slots pc lv [.int v] := by
  obtain ⟨p, l, e, R, s, m, args, below, meth, c, Q, X, A, nL⟩ := Γ
  obtain ⟨hx, hb, hml, hown, hts, hK, hA, rfl, rfl, rfl, rfl⟩ := C
  obtain ⟨ω0, rfl, rfl, hr, hlk⟩ := E
  intro H locs ls hP hG hS hl
  refine W.widen hc hs ?_
  exact W.iret hx hb hr (fun t ht hW => ⟨⟨_, ω, rfl, hp, by rw [ht]; exact hP, hK.moved hW, hG⟩, hS.F ht⟩) hS.2.2 hd hlk
theorem z_zret (C : Zc Γ l0 X R nL cc own) (E : Ze Γ post mc ms (some .boolean)) {v : Int32} (hn : narrow .boolean (.int v) = .int v) (hd : decode cc pc = .ok (.ireturn, 1)) (hp : post (some (.int v)) ω) (hc : cells ≤ mc := by omega) (hs : slots ≤ ms := by omega) : Zw Γ ω cells slots pc lv [.int v] := by
  obtain ⟨p, l, e, R, s, m, args, below, meth, c, Q, X, A, nL⟩ := Γ
  obtain ⟨hx, hb, hml, hown, hts, hK, hA, rfl, rfl, rfl, rfl⟩ := C
  obtain ⟨ω0, rfl, rfl, hr, hlk⟩ := E
  intro H locs ls hP hG hS hl
  refine W.widen hc hs ?_
  exact W.zret hx hb hr hn (fun t ht hW => ⟨⟨_, ω, rfl, hp, by rw [ht]; exact hP, hK.moved hW, hG⟩, hS.F ht⟩) hS.2.2 hd hlk
theorem z_lret (C : Zc Γ l0 X R nL cc own) (E : Ze Γ post mc ms (some .long)) {v : Int64} (hd : decode cc pc = .ok (.lreturn, 1)) (hp : post (some (.long v)) ω) (hc : cells ≤ mc := by omega) (hs : slots ≤ ms := by omega) : Zw Γ ω cells slots pc lv [.long v] := by
  obtain ⟨p, l, e, R, s, m, args, below, meth, c, Q, X, A, nL⟩ := Γ
  obtain ⟨hx, hb, hml, hown, hts, hK, hA, rfl, rfl, rfl, rfl⟩ := C
  obtain ⟨ω0, rfl, rfl, hr, hlk⟩ := E
  intro H locs ls hP hG hS hl
  refine W.widen hc hs ?_
  exact W.lret hx hb hr (fun t ht hW => ⟨⟨_, ω, rfl, hp, by rw [ht]; exact hP, hK.moved hW, hG⟩, hS.F ht⟩) hS.2.2 hd hlk
theorem z_aret (C : Zc Γ l0 X R nL cc own) {rt : FieldType} (E : Ze Γ post mc ms (some rt)) (hrt : (∃ n, rt = .object n) ∨ ∃ t, rt = .array t) {v : Value} (hv : v = .null ∨ ∃ a, v = .ref a) (hd : decode cc pc = .ok (.areturn, 1)) (hp : post (some v) ω) (hc : cells ≤ mc := by omega) (hs : slots ≤ ms := by omega) : Zw Γ ω cells slots pc lv [v] := by
  obtain ⟨p, l, e, R, s, m, args, below, meth, c, Q, X, A, nL⟩ := Γ
  obtain ⟨hx, hb, hml, hown, hts, hK, hA, rfl, rfl, rfl, rfl⟩ := C
  obtain ⟨ω0, rfl, rfl, hr, hlk⟩ := E
  intro H locs ls hP hG hS hl
  refine W.widen hc hs ?_
  exact W.aret hx hb hr hrt hv (fun t ht hW => ⟨⟨_, ω, rfl, hp, by rw [ht]; exact hP, hK.moved hW, hG⟩, hS.F ht⟩) hS.2.2 hd hlk
end ZRT
end ZCL
