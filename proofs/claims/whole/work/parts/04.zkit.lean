/-! MY OWN LAYER over the kit's rows: a world is a map from addresses to cells; ints and longs are written as zI a, zJ a of whole numbers a; the judgement Zw carries world, locals and stack in the goal. -/
abbrev zWd : Type := (Nat → Option va_E) × Nat
def zI (a : Int) : Int32 := Int32.ofInt a
def zJ (a : Int) : Int64 := Int64.ofInt a
/-- class tables, then the array classes of int, long, Book, int[] -/
abbrev zX : Type := va_G × (ClassId × ClassId) × (ClassId × ClassId)
def zAI (X : zX) (n : Nat) (f : Int → Int) : va_E := .inl (X.2.1.1, (n, .inl (fun k => zI (f (k : Int)))))
def zAJ (X : zX) (n : Nat) (f : Int → Int) : va_E := .inl (X.2.1.2, (n, .inr (.inl (fun k => zJ (f (k : Int))))))
def zAB (X : zX) (n : Nat) (f : Int → Option Nat) : va_E := .inl (X.2.2.1, (n, .inr (.inr (.inr (.inr (fun k => f (k : Int)))))))
def zAR (X : zX) (n : Nat) (f : Int → Option Nat) : va_E := .inl (X.2.2.2, (n, .inr (.inr (.inr (.inr (fun k => f (k : Int)))))))
def zOb (ci : Nat) (fs : List Value) : va_E := .inr (ci, fs)
def zU (ω : zWd) (a : Nat) (x : va_E) : zWd := (fun b => if b = a then some x else ω.1 b, ω.2)
/-- a new cell, at the heap's end -/
def zN (ω : zWd) (x : va_E) : zWd := (fun b => if b = ω.2 then some x else ω.1 b, ω.2 + 1)
theorem zU_s (ω : zWd) (a : Nat) (x : va_E) : (zU ω a x).1 a = some x := by simp [zU]
theorem zU_n {ω : zWd} {a b : Nat} {x : va_E} (h : b ≠ a) : (zU ω a x).1 b = ω.1 b := by simp [zU, h]
theorem zU_n' {ω : zWd} {a b : Nat} {x : va_E} {y : Option va_E} (h : b ≠ a) (hy : ω.1 b = y) : (zU ω a x).1 b = y := by rw [zU_n h, hy]
theorem zU_2 (ω : zWd) (a : Nat) (x : va_E) : (zU ω a x).2 = ω.2 := rfl
theorem zN_s (ω : zWd) (x : va_E) : (zN ω x).1 ω.2 = some x := by simp [zN]
theorem zN_n {ω : zWd} {b : Nat} {x : va_E} (h : b ≠ ω.2) : (zN ω x).1 b = ω.1 b := by simp [zN, h]
theorem zN_2 (ω : zWd) (x : va_E) : (zN ω x).2 = ω.2 + 1 := rfl
theorem zU_u (ω : zWd) (a : Nat) (x y : va_E) : zU (zU ω a x) a y = zU ω a y := by
  refine Prod.ext (funext fun b => ?_) rfl
  by_cases h : b = a <;> simp [zU, h]
theorem zU_id {ω : zWd} {a : Nat} {x : va_E} (h : ω.1 a = some x) : zU ω a x = ω := by
  refine Prod.ext (funext fun b => ?_) rfl
  by_cases h' : b = a
  · subst h'; simp [zU, h]
  · simp [zU, h']
def zup {α : Type} (f : Int → α) (i : Int) (v : α) : Int → α := fun j => if j = i then v else f j
theorem zup_s {α : Type} (f : Int → α) (i : Int) (v : α) : zup f i v i = v := by simp [zup]
theorem zup_n {α : Type} {f : Int → α} {i j : Int} {v : α} (h : j ≠ i) : zup f i v j = f j := by simp [zup, h]
def zTys (X : zX) : List (ClassId × FieldType) := [(X.2.1.1, .int), (X.2.1.2, .long), (X.2.2.1, .object RX0), (X.2.2.2, .array .int)]
/-- the tables' words that a call keeps -/
def zTb : List Cond := lw_tbl.filter goodWord
def zNest : List Cond := [.methodLinkNest RX6 21 yX5_init RX6, .methodLinkNest RX5 11 yX1_init RX6, .methodLinkNest RX6 28 yX3_init RX6, .methodLinkNest RX3 11 yX1_init RX6, .methodLinkNest RX6 35 yX2_init RX6, .methodLinkNest RX6 65 yX0_init RX6]
def zK (X : zX) (U : State) : Prop := va_K X.1 vwCl (zTys X) U ∧ (∃ kA : Class, U.vm.classes[X.2.2.2]? = some kA ∧ kA.kind = .array X.2.1.1 (.array .int)) ∧ va_AO RX0 U ∧ (Cond.arrayOver (.array .int)).before #[] U = true ∧ ∀ w ∈ zNest, va_Nw w U
theorem zNest_w {w : Cond} (h : w ∈ zNest) : w.onTables = true ∧ ∃ a i x b, w = .methodLinkNest a i x b := by
  simp only [zNest, List.mem_cons, List.not_mem_nil, or_false] at h
  rcases h with rfl | rfl | rfl | rfl | rfl | rfl <;> exact ⟨rfl, _, _, _, _, rfl⟩
theorem zAO_moved {u U : State} (hvm : u.vm.Alike U.vm) (h : (Cond.arrayOver (.array .int)).before #[] u = true) : (Cond.arrayOver (.array .int)).before #[] U = true := by
  obtain ⟨comp, c, k, h1, h2, h3, h4, h5⟩ := arrayOverA_spec h
  obtain ⟨k', hk', he⟩ := hvm.2.2 _ _ h3
  have hi : (U.vm.classes.findIdx? fun (x : Class) => match x.kind with | .array component _ => component == comp | _ => false) = some c := (hvm.findIdx?_eqK _ (fun _ => rfl)).trans h2
  have hkind : k'.kind = .array comp (.array .int) := by rw [he]; exact h4
  have f1 : U.vm.findClass (FieldType.array .int).toString = some comp := by rw [hvm.findClass]; exact h1
  have f2 : U.vm.findClass ("[" ++ (FieldType.array .int).toString) = some c := by rw [hvm.findClass]; exact h5
  unfold Cond.before Cond.holds
  simp only [Cond.value]
  rw [f1, Option.bind_some]
  refine (congrArg (fun o : Option Nat => (o.bind (fun c => (U.vm.classes[c]?).map fun (k : Class) => match k.kind with | .array _ ty => decide (ty = FieldType.array .int) && decide (U.vm.findClass ("[" ++ (FieldType.array .int).toString) = some c) | _ => false) == some true)) hi).trans ?_
  simp [hk', hkind, f2]
theorem zK.moved0 {X : zX} {u U : State} (hvm : u.vm.Alike U.vm) (hN : ∀ w ∈ zNest, va_Nw w u → va_Nw w U) (h : zK X u) : zK X U := by
  obtain ⟨h1, ⟨kA, h2, h3⟩, h4, h5, h6⟩ := h
  obtain ⟨k', hk', he⟩ := hvm.2.2 _ _ h2
  exact ⟨va_K.moved hvm h1, ⟨k', hk', by rw [he]; exact h3⟩, va_AO.moved hvm h4, zAO_moved hvm h5, fun w hw => hN w hw (h6 w hw)⟩
theorem zK.moved {X : zX} {u U : State} (hW : u.WarmedH U.vm) (h : zK X u) : zK X U := h.moved0 hW.alike (fun w hw hq => by
  obtain ⟨-, a, i, x, b, rfl⟩ := zNest_w hw
  exact va_Nw.warmM hW hq)
theorem zK.same {X : zX} {u U : State} (hvm : u.vm = U.vm) (h : zK X u) : zK X U := h.moved0 (by rw [← hvm]; exact Vm.Alike.refl _) (fun w hw hq => va_Nw.same (zNest_w hw).1 hvm hq)
def zP (X : zX) (ω : zWd) (H : Heap) : Prop := H.size = ω.2 ∧ ∀ (a : Nat) (x : va_E), ω.1 a = some x → va_at X.1 vwCl (a, x) H
def zA (ω : zWd) : Nat → Prop := fun q => (∃ x, ω.1 q = some x) ∨ ω.2 ≤ q
def zH (ls : Array Slot) (nL : Nat) (lv : List (Option Value)) : Prop := ls.size = nL ∧ lv_wf ls ∧ ∀ (i : Nat) (v : Value), lv[i]? = some (some v) → ls[i]? = some (.val v)
abbrev zG : Type := Program × Launch × Env × Room × State × MethodId × Array Value × List Frame × Method × Code × (State → Prop) × zX × (Nat → Prop) × Nat
def Zw (Γ : zG) (ω : zWd) (cells slots pc : Nat) (lv : List (Option Value)) (st : List Value) : Prop :=
  match Γ with
  | (p, l, e, R, s, m, args, below, meth, c, Q, X, A, nL) => ∀ (H : Heap) (locs : List Loc) (ls : Array Slot), zP X ω H → (∀ a x, ω.1 a = some x → A a) → va_S A s.heap H locs → zH ls nL lv → W p l e R s m args below meth c H locs cells slots Q (F0 m pc ls st)
def Zc (Γ : zG) (l0 : Launch) (X0 : zX) (R0 : Room) (nL0 : Nat) (cc : ByteArray) (own : String) : Prop :=
  match Γ with
  | (p, l, e, R, s, m, args, below, meth, c, Q, X, A, nL) => p.tables.exec = Jvm.exec ∧ c.code = cc ∧ c.maxLocals = nL ∧ s.vm.findClass own = some m.cls ∧ (∀ w ∈ zTb, w.before args s = true) ∧ zK X s ∧ (∀ q, s.heap.size ≤ q → A q) ∧ l = l0 ∧ X = X0 ∧ R = R0 ∧ nL = nL0
def zQc (X : zX) (ω0 : zWd) (post : Option Value → zWd → Prop) : Array Value → State → Outcome → State → Prop := fun _ st o t =>
  (∃ (v : Option Value) (ω : zWd), o = .returned v ∧ post v ω ∧ zP X ω t.heap ∧ zK X t ∧ ∀ a x, ω.1 a = some x → zA ω0 a) ∧ va_F (zA ω0) st t
def Ze (Γ : zG) (post : Option Value → zWd → Prop) (mc ms : Nat) (ret : Option FieldType) : Prop :=
  match Γ with
  | (p, l, e, R, s, m, args, below, meth, c, Q, X, A, nL) => ∃ ω0 : zWd, Q = MQ below (zQc X ω0 post) args s mc ms (zA ω0) ∧ A = zA ω0 ∧ meth.sig.returnType = ret ∧ meth.locks = false
def zMet (l : Launch) (y : MethodName) (cc : ByteArray) (nL : Nat) (ret : Option FieldType) (rm : Room) (X : zX) (av : List Value) (ω : zWd) (post : Option Value → zWd → Prop) : Prop :=
  Met l y (.code y cc nL ret :: zTb) rm (va_Pc av (fun U => zP X ω U.heap ∧ zK X U)) (zQc X ω post) rm.cells rm.slots (zA ω)
theorem zMet.imp {l : Launch} {y : MethodName} {cc : ByteArray} {nL : Nat} {ret : Option FieldType} {rm : Room} {X : zX} {av : List Value} {ω : zWd} {post post' : Option Value → zWd → Prop} (h : zMet l y cc nL ret rm X av ω post) (hi : ∀ v ω', post v ω' → post' v ω') : zMet l y cc nL ret rm X av ω post' := by
  intro p e a1 a2 a3 s m args below a4 a5 a6 a7
  obtain ⟨k, o, b1, b2, b3, ⟨⟨⟨v, ω', c1, c2, c3⟩, c4⟩, b5⟩⟩ := h p e a1 a2 a3 s m args below a4 a5 a6 a7
  exact ⟨k, o, b1, b2, b3, ⟨⟨v, ω', c1, hi v ω' c2, c3⟩, c4⟩, b5⟩
theorem zP.set {X : zX} {ω : zWd} {a : Nat} {x : va_E} {H H1 : Heap} (h : zP X ω H) (he : va_at X.1 vwCl (a, x) H1) (z : H1.size = H.size) (oq : ∀ q : Nat, q ≠ a → H1[q]? = H[q]?) : zP X (zU ω a x) H1 := by
  refine ⟨z.trans h.1, ?_⟩
  intro b y hy
  by_cases hb : b = a
  · subst hb
    rw [zU_s] at hy
    cases hy
    exact he
  · rw [zU_n hb] at hy
    exact (h.2 b y hy).kept (oq b hb)
theorem zP.push {X : zX} {ω : zWd} {x : va_E} {H H1 : Heap} (h : zP X ω H) (he : va_at X.1 vwCl (H.size, x) H1) (z : H1.size = H.size + 1) (oq : ∀ q : Nat, q < H.size → H1[q]? = H[q]?) : zP X (zN ω x) H1 := by
  refine ⟨by rw [z, h.1]; rfl, ?_⟩
  intro b y hy
  by_cases hb : b = ω.2
  · subst hb
    rw [zN_s] at hy
    cases hy
    rw [← h.1]
    exact he
  · rw [zN_n hb] at hy
    exact (h.2 b y hy).kept (oq b (h.2 b y hy).lt)
theorem zG_set {A : Nat → Prop} {ω : zWd} {a : Nat} {x : va_E} (h : ∀ a x, ω.1 a = some x → A a) (ha : A a) : ∀ b y, (zU ω a x).1 b = some y → A b := by
  intro b y hy
  by_cases hb : b = a
  · rw [hb]; exact ha
  · rw [zU_n hb] at hy
    exact h b y hy
theorem zG_push {A : Nat → Prop} {ω : zWd} {x : va_E} (h : ∀ a x, ω.1 a = some x → A a) (ha : A ω.2) : ∀ b y, (zN ω x).1 b = some y → A b := by
  intro b y hy
  by_cases hb : b = ω.2
  · rw [hb]; exact ha
  · rw [zN_n hb] at hy
    exact h b y hy
theorem zH.has {ls : Array Slot} {nL : Nat} {lv : List (Option Value)} (h : zH ls nL lv) : lv_has ls nL ((List.range lv.length).filterMap (fun i => (lv[i]?.join).map (fun v => (i, v)))) := by
  refine ⟨h.1, h.2.1, fun q hq => ?_⟩
  obtain ⟨i, hi, he⟩ := List.mem_filterMap.mp hq
  cases hv : lv[i]?.join with
  | none => rw [hv] at he; cases he
  | some v =>
    rw [hv] at he
    cases he
    exact h.2.2 i v (Option.join_eq_some_iff.mp hv)
theorem zH.of {ls' : Array Slot} {nL : Nat} {lv lv' : List (Option Value)} {P : Nat × Value → Bool} {i : Nat} {v : Value}
    (hs : lv_has ls' nL ((i, v) :: ((List.range lv.length).filterMap (fun i => (lv[i]?.join).map (fun v => (i, v)))).filter P))
    (hk : ∀ j w, lv'[j]? = some (some w) → (j = i ∧ w = v) ∨ (lv[j]? = some (some w) ∧ P (j, w) = true)) : zH ls' nL lv' := by
  refine ⟨hs.1, hs.2.1, fun j w hj => ?_⟩
  rcases hk j w hj with ⟨rfl, rfl⟩ | ⟨h1, h2⟩
  · exact hs.2.2 _ List.mem_cons_self
  · refine hs.2.2 (j, w) (List.mem_cons_of_mem _ (List.mem_filter.mpr ⟨List.mem_filterMap.mpr ⟨j, List.mem_range.mpr (List.getElem?_eq_some_iff.mp h1).1, ?_⟩, h2⟩))
    rw [h1]; rfl
def z_ok1 (lv : List (Option Value)) (i : Nat) : Bool := match i with
  | 0 => true
  | j + 1 => match lv[j]? with
    | some (some (.long _)) => false
    | some (some (.double _)) => false
    | _ => true
theorem z_ok1_of {lv : List (Option Value)} {i j : Nat} {w : Value} (h : z_ok1 lv i = true) (hj : lv[j]? = some (some w)) : ¬ (j + 1 = i ∧ w.category = 2) := by
  rintro ⟨rfl, hc⟩
  simp only [z_ok1, hj] at h
  cases w <;> simp_all [Value.category]
theorem z_set1 {lv : List (Option Value)} {i : Nat} {v : Value} (hok : z_ok1 lv i = true) (j : Nat) (w : Value) (hj : (lv.set i (some v))[j]? = some (some w)) : (j = i ∧ w = v) ∨ (lv[j]? = some (some w) ∧ (fun q : Nat × Value => !(q.1 == i) && !(q.1 + 1 == i && q.2.category == 2)) (j, w) = true) := by
  by_cases h : j = i
  · subst h
    by_cases hl : j < lv.length
    · rw [List.getElem?_set_self hl] at hj
      cases hj
      exact Or.inl ⟨rfl, rfl⟩
    · rw [List.getElem?_eq_none (by simp; omega)] at hj
      cases hj
  · rw [List.getElem?_set_ne (fun q => h q.symm)] at hj
    refine Or.inr ⟨hj, ?_⟩
    have := z_ok1_of hok hj
    simp only [Bool.and_eq_true, Bool.not_eq_true', beq_eq_false_iff_ne, ne_eq, Bool.and_eq_false_iff]
    refine ⟨h, ?_⟩
    by_cases h2 : j + 1 = i
    · exact Or.inr (fun hc => this ⟨h2, hc⟩)
    · exact Or.inl h2
theorem z_set2 {lv : List (Option Value)} {i : Nat} {v : Value} (hok : z_ok1 lv i = true) (j : Nat) (w : Value) (hj : ((lv.set i (some v)).set (i + 1) none)[j]? = some (some w)) : (j = i ∧ w = v) ∨ (lv[j]? = some (some w) ∧ (fun q : Nat × Value => !(q.1 == i) && (!(q.1 == i + 1) && !(q.1 + 1 == i && q.2.category == 2))) (j, w) = true) := by
  by_cases h0 : j = i + 1
  · subst h0
    by_cases hl : i + 1 < (lv.set i (some v)).length
    · rw [List.getElem?_set_self hl] at hj
      cases hj
    · rw [List.getElem?_eq_none (by simp at hl ⊢; omega)] at hj
      cases hj
  · rw [List.getElem?_set_ne (fun q => h0 q.symm)] at hj
    rcases z_set1 hok j w hj with h | ⟨h1, h2⟩
    · exact Or.inl h
    · refine Or.inr ⟨h1, ?_⟩
      simp only [Bool.and_eq_true, Bool.not_eq_true', beq_eq_false_iff_ne, ne_eq] at h2 ⊢
      exact ⟨h2.1, h0, h2.2⟩
/-- the locals at a method's entry -/
def zEnt (vs : List Value) (n : Nat) : List (Option Value) := (lg_sl vs ++ List.replicate (n - (lg_sl vs).length) Slot.unset).map (fun x => match x with | .val v => some v | _ => none)
theorem zEnt_ok (vs : List Value) {n : Nat} (h : (lg_sl vs).length ≤ n) : zH ((lg_sl vs ++ List.replicate (n - (lg_sl vs).length) Slot.unset).toArray) n (zEnt vs n) := by
  obtain ⟨h1, h2, -⟩ := lv_entry vs h
  refine ⟨h1, h2, fun i v hv => ?_⟩
  unfold zEnt at hv
  rw [List.getElem?_map] at hv
  rw [List.getElem?_toArray]
  cases hx : (lg_sl vs ++ List.replicate (n - (lg_sl vs).length) Slot.unset)[i]? with
  | none => rw [hx] at hv; cases hv
  | some x =>
    rw [hx] at hv
    cases x <;> simp_all
theorem zI_add (a b : Int) : zI a + zI b = zI (a + b) := (Int32.ofInt_add a b).symm
theorem zI_mul (a b : Int) : zI a * zI b = zI (a * b) := (Int32.ofInt_mul a b).symm
theorem zI_sub (a b : Int) : zI a - zI b = zI (a - b) := (Int32.ofInt_sub a b).symm
theorem zI_neg (a : Int) : - zI a = zI (-a) := (Int32.ofInt_neg a).symm
theorem zJ_add (a b : Int) : zJ a + zJ b = zJ (a + b) := (Int64.ofInt_add a b).symm
theorem zJ_mul (a b : Int) : zJ a * zJ b = zJ (a * b) := (Int64.ofInt_mul a b).symm
theorem zJ_sub (a b : Int) : zJ a - zJ b = zJ (a - b) := (Int64.ofInt_sub a b).symm
theorem zI_t {a : Int} (h : -2147483648 ≤ a ∧ a < 2147483648) : (zI a).toInt = a := by
  unfold zI
  rw [Int32.toInt_ofInt]
  show a.bmod 4294967296 = a
  exact Int.bmod_eq_of_le (by omega) (by omega)
theorem zJ_t {a : Int} (h : -9223372036854775808 ≤ a ∧ a < 9223372036854775808) : (zJ a).toInt = a := by
  unfold zJ
  rw [Int64.toInt_ofInt]
  show a.bmod 18446744073709551616 = a
  exact Int.bmod_eq_of_le (by omega) (by omega)
theorem zI_of (x : Int32) : zI x.toInt = x := Int32.ofInt_toInt x
theorem zJ_of (x : Int64) : zJ x.toInt = x := Int64.ofInt_toInt x
theorem zI_r (x : Int32) : -2147483648 ≤ x.toInt ∧ x.toInt < 2147483648 := by
  have h1 := Int32.le_toInt x
  have h2 := Int32.toInt_lt x
  omega
theorem zI_le {a b : Int} (ha : -2147483648 ≤ a ∧ a < 2147483648) (hb : -2147483648 ≤ b ∧ b < 2147483648) : zI a ≤ zI b ↔ a ≤ b := by
  rw [Int32.le_iff_toInt_le, zI_t ha, zI_t hb]
theorem zI_lt {a b : Int} (ha : -2147483648 ≤ a ∧ a < 2147483648) (hb : -2147483648 ≤ b ∧ b < 2147483648) : zI a < zI b ↔ a < b := by
  rw [Int32.lt_iff_toInt_lt, zI_t ha, zI_t hb]
theorem zI_eq {a b : Int} (ha : -2147483648 ≤ a ∧ a < 2147483648) (hb : -2147483648 ≤ b ∧ b < 2147483648) : zI a = zI b ↔ a = b := by
  rw [← Int32.toInt_inj, zI_t ha, zI_t hb]
theorem zJ_lt {a b : Int} (ha : -9223372036854775808 ≤ a ∧ a < 9223372036854775808) (hb : -9223372036854775808 ≤ b ∧ b < 9223372036854775808) : zJ a < zJ b ↔ a < b := by
  rw [Int64.lt_iff_toInt_lt, zJ_t ha, zJ_t hb]
theorem zJ_eq {a b : Int} (ha : -9223372036854775808 ≤ a ∧ a < 9223372036854775808) (hb : -9223372036854775808 ≤ b ∧ b < 9223372036854775808) : zJ a = zJ b ↔ a = b := by
  rw [← Int64.toInt_inj, zJ_t ha, zJ_t hb]
theorem zI_n (n : Nat) : Int32.ofNat n = zI n := by
  unfold zI
  exact (Int32.ofInt_eq_ofNat (n := n)).symm
theorem zI_0 : (0 : Int32) = zI 0 := by decide +kernel
theorem zI_clamp {a : Int} (h : 0 ≤ a) (h2 : a < 2147483648) : (zI a).toNatClampNeg = a.toNat := by
  unfold Int32.toNatClampNeg
  rw [zI_t ⟨by omega, h2⟩]
theorem zI_in {a : Int} {n : Nat} (h : 0 ≤ a) (h1 : a < n) (h2 : a < 2147483648) : vp_in (zI a) n := by
  unfold vp_in
  rw [zI_clamp h h2]
  rintro (q | q)
  · rw [zI_0, zI_lt ⟨by omega, h2⟩ (by omega)] at q
    omega
  · omega
