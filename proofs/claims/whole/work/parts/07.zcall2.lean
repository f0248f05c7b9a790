/-! what a method answers, by its kind -/
def zpv (P : zWd → Prop) : Option Value → zWd → Prop := fun v ω => v = none ∧ P ω
def zpi (P : Int → zWd → Prop) : Option Value → zWd → Prop := fun v ω => ∃ r : Int, v = some (.int (zI r)) ∧ P r ω
def zpl (P : Int → zWd → Prop) : Option Value → zWd → Prop := fun v ω => ∃ r : Int, v = some (.long (zJ r)) ∧ P r ω
def zpr (P : Nat → zWd → Prop) : Option Value → zWd → Prop := fun v ω => ∃ r : Nat, v = some (.ref r) ∧ P r ω
def zpq (P : Option Nat → zWd → Prop) : Option Value → zWd → Prop := fun v ω => ∃ r : Option Nat, v = some (va_rf r) ∧ P r ω
section ZC2
variable {Γ : zG} {l0 : Launch} {X : zX} {R : Room} {nL : Nat} {cc : ByteArray} {own : String} {ω : zWd} {cells slots pc : Nat} {lv : List (Option Value)} {st : List Value}
theorem z_callVv (C : Zc Γ l0 X R nL cc own) {idx ci b n nL' : Nat} {Cn : String} {q : vw_C} {y : MethodName} {cc' : ByteArray} {ret : Option FieldType} {rm : Room} {fs As rest : List Value} {P : zWd → Prop}
    (M : zMet l0 y cc' nL' ret rm X (.ref b :: As) ω (zpv P)) (hw : zWV own idx Cn y cc' nL' ret) (hy : y.cls = Cn ∧ zYn y n) (hc : vwCl[ci]? = some q) (hq : q.1 = Cn) (he : ω.1 b = some (zOb ci fs)) (hst : st = As.reverse ++ .ref b :: rest) (hn : As.length = n) (hrm : zRm R rm nL') (hrest : (rest.map fun v => v.category).sum ≤ 8) (hd : decode cc pc = .ok (.invokevirtual idx, 3)) (h0 : rm.cells = 0 ∧ rm.slots = 0) (hcs : cells ≤ R.cells ∧ slots ≤ R.slots)
    (k : ∀ ω' : zWd, P ω' → Zw Γ ω' cells slots (pc + 3) lv (rest)) : Zw Γ ω cells slots pc lv st := by
  refine z_callV C M hw hy hc hq he hst hn hrm hrest hd (by rw [h0.1, h0.2]; exact hcs) ?_
  intro v ω' h
  rw [h0.1, h0.2]
  obtain ⟨rfl, h⟩ := h
  exact k ω' h
theorem z_callVvA (C : Zc Γ l0 X R nL cc own) {idx ci b n nL' : Nat} {Cn : String} {q : vw_C} {y : MethodName} {cc' : ByteArray} {ret : Option FieldType} {rm : Room} {fs As rest : List Value} {P : zWd → Prop}
    (M : zMet l0 y cc' nL' ret rm X (.ref b :: As) ω (zpv P)) (hw : zWV own idx Cn y cc' nL' ret) (hy : y.cls = Cn ∧ zYn y n) (hc : vwCl[ci]? = some q) (hq : q.1 = Cn) (he : ω.1 b = some (zOb ci fs)) (hst : st = As.reverse ++ .ref b :: rest) (hn : As.length = n) (hrm : zRm R rm nL') (hrest : (rest.map fun v => v.category).sum ≤ 8) (hd : decode cc pc = .ok (.invokevirtual idx, 3)) {mc ms : Nat} (h0 : rm.cells = mc ∧ rm.slots = ms) (hcs : cells + mc ≤ R.cells ∧ slots + ms ≤ R.slots)
    (k : ∀ ω' : zWd, P ω' → Zw Γ ω' (cells + mc) (slots + ms) (pc + 3) lv (rest)) : Zw Γ ω cells slots pc lv st := by
  refine z_callV C M hw hy hc hq he hst hn hrm hrest hd (by rw [h0.1, h0.2]; exact hcs) ?_
  intro v ω' h
  rw [h0.1, h0.2]
  obtain ⟨rfl, h⟩ := h
  exact k ω' h
theorem z_callSv (C : Zc Γ l0 X R nL cc own) {idx n nL' : Nat} {y : MethodName} {cc' : ByteArray} {ret : Option FieldType} {rm : Room} {As rest : List Value} {P : zWd → Prop}
    (M : zMet l0 y cc' nL' ret rm X (As) ω (zpv P)) (hw : zWS own idx y cc' nL' ret) (hy : zYn y n) (hst : st = As.reverse ++ rest) (hn : As.length = n) (hrm : zRm R rm nL') (hrest : (rest.map fun v => v.category).sum ≤ 8) (hd : decode cc pc = .ok (.invokestatic idx, 3)) (h0 : rm.cells = 0 ∧ rm.slots = 0) (hcs : cells ≤ R.cells ∧ slots ≤ R.slots)
    (k : ∀ ω' : zWd, P ω' → Zw Γ ω' cells slots (pc + 3) lv (rest)) : Zw Γ ω cells slots pc lv st := by
  refine z_callS C M hw hy hst hn hrm hrest hd (by rw [h0.1, h0.2]; exact hcs) ?_
  intro v ω' h
  rw [h0.1, h0.2]
  obtain ⟨rfl, h⟩ := h
  exact k ω' h
theorem z_callSvA (C : Zc Γ l0 X R nL cc own) {idx n nL' : Nat} {y : MethodName} {cc' : ByteArray} {ret : Option FieldType} {rm : Room} {As rest : List Value} {P : zWd → Prop}
    (M : zMet l0 y cc' nL' ret rm X (As) ω (zpv P)) (hw : zWS own idx y cc' nL' ret) (hy : zYn y n) (hst : st = As.reverse ++ rest) (hn : As.length = n) (hrm : zRm R rm nL') (hrest : (rest.map fun v => v.category).sum ≤ 8) (hd : decode cc pc = .ok (.invokestatic idx, 3)) {mc ms : Nat} (h0 : rm.cells = mc ∧ rm.slots = ms) (hcs : cells + mc ≤ R.cells ∧ slots + ms ≤ R.slots)
    (k : ∀ ω' : zWd, P ω' → Zw Γ ω' (cells + mc) (slots + ms) (pc + 3) lv (rest)) : Zw Γ ω cells slots pc lv st := by
  refine z_callS C M hw hy hst hn hrm hrest hd (by rw [h0.1, h0.2]; exact hcs) ?_
  intro v ω' h
  rw [h0.1, h0.2]
  obtain ⟨rfl, h⟩ := h
  exact k ω' h
theorem z_callVi (C : Zc Γ l0 X R nL cc own) {idx ci b n nL' : Nat} {Cn : String} {q : vw_C} {y : MethodName} {cc' : ByteArray} {ret : Option FieldType} {rm : Room} {fs As rest : List Value} {P : Int → zWd → Prop}
    (M : zMet l0 y cc' nL' ret rm X (.ref b :: As) ω (zpi P)) (hw : zWV own idx Cn y cc' nL' ret) (hy : y.cls = Cn ∧ zYn y n) (hc : vwCl[ci]? = some q) (hq : q.1 = Cn) (he : ω.1 b = some (zOb ci fs)) (hst : st = As.reverse ++ .ref b :: rest) (hn : As.length = n) (hrm : zRm R rm nL') (hrest : (rest.map fun v => v.category).sum ≤ 8) (hd : decode cc pc = .ok (.invokevirtual idx, 3)) (h0 : rm.cells = 0 ∧ rm.slots = 0) (hcs : cells ≤ R.cells ∧ slots ≤ R.slots)
    (k : ∀ (r : Int) (ω' : zWd), P r ω' → Zw Γ ω' cells slots (pc + 3) lv (.int (zI r) :: rest)) : Zw Γ ω cells slots pc lv st := by
  refine z_callV C M hw hy hc hq he hst hn hrm hrest hd (by rw [h0.1, h0.2]; exact hcs) ?_
  intro v ω' h
  rw [h0.1, h0.2]
  obtain ⟨r, rfl, h⟩ := h
  exact k r ω' h
theorem z_callViA (C : Zc Γ l0 X R nL cc own) {idx ci b n nL' : Nat} {Cn : String} {q : vw_C} {y : MethodName} {cc' : ByteArray} {ret : Option FieldType} {rm : Room} {fs As rest : List Value} {P : Int → zWd → Prop}
    (M : zMet l0 y cc' nL' ret rm X (.ref b :: As) ω (zpi P)) (hw : zWV own idx Cn y cc' nL' ret) (hy : y.cls = Cn ∧ zYn y n) (hc : vwCl[ci]? = some q) (hq : q.1 = Cn) (he : ω.1 b = some (zOb ci fs)) (hst : st = As.reverse ++ .ref b :: rest) (hn : As.length = n) (hrm : zRm R rm nL') (hrest : (rest.map fun v => v.category).sum ≤ 8) (hd : decode cc pc = .ok (.invokevirtual idx, 3)) {mc ms : Nat} (h0 : rm.cells = mc ∧ rm.slots = ms) (hcs : cells + mc ≤ R.cells ∧ slots + ms ≤ R.slots)
    (k : ∀ (r : Int) (ω' : zWd), P r ω' → Zw Γ ω' (cells + mc) (slots + ms) (pc + 3) lv (.int (zI r) :: rest)) : Zw Γ ω cells slots pc lv st := by
  refine z_callV C M hw hy hc hq he hst hn hrm hrest hd (by rw [h0.1, h0.2]; exact hcs) ?_
  intro v ω' h
  rw [h0.1, h0.2]
  obtain ⟨r, rfl, h⟩ := h
  exact k r ω' h
theorem z_callSi (C : Zc Γ l0 X R nL cc own) {idx n nL' : Nat} {y : MethodName} {cc' : ByteArray} {ret : Option FieldType} {rm : Room} {As rest : List Value} {P : Int → zWd → Prop}
    (M : zMet l0 y cc' nL' ret rm X (As) ω (zpi P)) (hw : zWS own idx y cc' nL' ret) (hy : zYn y n) (hst : st = As.reverse ++ rest) (hn : As.length = n) (hrm : zRm R rm nL') (hrest : (rest.map fun v => v.category).sum ≤ 8) (hd : decode cc pc = .ok (.invokestatic idx, 3)) (h0 : rm.cells = 0 ∧ rm.slots = 0) (hcs : cells ≤ R.cells ∧ slots ≤ R.slots)
    (k : ∀ (r : Int) (ω' : zWd), P r ω' → Zw Γ ω' cells slots (pc + 3) lv (.int (zI r) :: rest)) : Zw Γ ω cells slots pc lv st := by
  refine z_callS C M hw hy hst hn hrm hrest hd (by rw [h0.1, h0.2]; exact hcs) ?_
  intro v ω' h
  rw [h0.1, h0.2]
  obtain ⟨r, rfl, h⟩ := h
  exact k r ω' h
theorem z_callSiA (C : Zc Γ l0 X R nL cc own) {idx n nL' : Nat} {y : MethodName} {cc' : ByteArray} {ret : Option FieldType} {rm : Room} {As rest : List Value} {P : Int → zWd → Prop}
    (M : zMet l0 y cc' nL' ret rm X (As) ω (zpi P)) (hw : zWS own idx y cc' nL' ret) (hy : zYn y n) (hst : st = As.reverse ++ rest) (hn : As.length = n) (hrm : zRm R rm nL') (hrest : (rest.map fun v => v.category).sum ≤ 8) (hd : decode cc pc = .ok (.invokestatic idx, 3)) {mc ms : Nat} (h0 : rm.cells = mc ∧ rm.slots = ms) (hcs : cells + mc ≤ R.cells ∧ slots + ms ≤ R.slots)
    (k : ∀ (r : Int) (ω' : zWd), P r ω' → Zw Γ ω' (cells + mc) (slots + ms) (pc + 3) lv (.int (zI r) :: rest)) : Zw Γ ω cells slots pc lv st := by
  refine z_callS C M hw hy hst hn hrm hrest hd (by rw [h0.1, h0.2]; exact hcs) ?_
  intro v ω' h
  rw [h0.1, h0.2]
  obtain ⟨r, rfl, h⟩ := h
  exact k r ω' h
theorem z_callVl (C : Zc Γ l0 X R nL cc own) {idx ci b n nL' : Nat} {Cn : String} {q : vw_C} {y : MethodName} {cc' : ByteArray} {ret : Option FieldType} {rm : Room} {fs As rest : List Value} {P : Int → zWd → Prop}
    (M : zMet l0 y cc' nL' ret rm X (.ref b :: As) ω (zpl P)) (hw : zWV own idx Cn y cc' nL' ret) (hy : y.cls = Cn ∧ zYn y n) (hc : vwCl[ci]? = some q) (hq : q.1 = Cn) (he : ω.1 b = some (zOb ci fs)) (hst : st = As.reverse ++ .ref b :: rest) (hn : As.length = n) (hrm : zRm R rm nL') (hrest : (rest.map fun v => v.category).sum ≤ 8) (hd : decode cc pc = .ok (.invokevirtual idx, 3)) (h0 : rm.cells = 0 ∧ rm.slots = 0) (hcs : cells ≤ R.cells ∧ slots ≤ R.slots)
    (k : ∀ (r : Int) (ω' : zWd), P r ω' → Zw Γ ω' cells slots (pc + 3) lv (.long (zJ r) :: rest)) : Zw Γ ω cells slots pc lv st := by
  refine z_callV C M hw hy hc hq he hst hn hrm hrest hd (by rw [h0.1, h0.2]; exact hcs) ?_
  intro v ω' h
  rw [h0.1, h0.2]
  obtain ⟨r, rfl, h⟩ := h
  exact k r ω' h
theorem z_callVlA (C : Zc Γ l0 X R nL cc own) {idx ci b n nL' : Nat} {Cn : String} {q : vw_C} {y : MethodName} {cc' : ByteArray} {ret : Option FieldType} {rm : Room} {fs As rest : List Value} {P : Int → zWd → Prop}
    (M : zMet l0 y cc' nL' ret rm X (.ref b :: As) ω (zpl P)) (hw : zWV own idx Cn y cc' nL' ret) (hy : y.cls = Cn ∧ zYn y n) (hc : vwCl[ci]? = some q) (hq : q.1 = Cn) (he : ω.1 b = some (zOb ci fs)) (hst : st = As.reverse ++ .ref b :: rest) (hn : As.length = n) (hrm : zRm R rm nL') (hrest : (rest.map fun v => v.category).sum ≤ 8) (hd : decode cc pc = .ok (.invokevirtual idx, 3)) {mc ms : Nat} (h0 : rm.cells = mc ∧ rm.slots = ms) (hcs : cells + mc ≤ R.cells ∧ slots + ms ≤ R.slots)
    (k : ∀ (r : Int) (ω' : zWd), P r ω' → Zw Γ ω' (cells + mc) (slots + ms) (pc + 3) lv (.long (zJ r) :: rest)) : Zw Γ ω cells slots pc lv st := by
  refine z_callV C M hw hy hc hq he hst hn hrm hrest hd (by rw [h0.1, h0.2]; exact hcs) ?_
  intro v ω' h
  rw [h0.1, h0.2]
  obtain ⟨r, rfl, h⟩ := h
  exact k r ω' h
theorem z_callSl (C : Zc Γ l0 X R nL cc own) {idx n nL' : Nat} {y : MethodName} {cc' : ByteArray} {ret : Option FieldType} {rm : Room} {As rest : List Value} {P : Int → zWd → Prop}
    (M : zMet l0 y cc' nL' ret rm X (As) ω (zpl P)) (hw : zWS own idx y cc' nL' ret) (hy : zYn y n) (hst : st = As.reverse ++ rest) (hn : As.length = n) (hrm : zRm R rm nL') (hrest : (rest.map fun v => v.category).sum ≤ 8) (hd : decode cc pc = .ok (.invokestatic idx, 3)) (h0 : rm.cells = 0 ∧ rm.slots = 0) (hcs : cells ≤ R.cells ∧ slots ≤ R.slots)
    (k : ∀ (r : Int) (ω' : zWd), P r ω' → Zw Γ ω' cells slots (pc + 3) lv (.long (zJ r) :: rest)) : Zw Γ ω cells slots pc lv st := by
  refine z_callS C M hw hy hst hn hrm hrest hd (by rw [h0.1, h0.2]; exact hcs) ?_
  intro v ω' h
  rw [h0.1, h0.2]
  obtain ⟨r, rfl, h⟩ := h
  exact k r ω' h
theorem z_callSlA (C : Zc Γ l0 X R nL cc own) {idx n nL' : Nat} {y : MethodName} {cc' : ByteArray} {ret : Option FieldType} {rm : Room} {As rest : List Value} {P : Int → zWd → Prop}
    (M : zMet l0 y cc' nL' ret rm X (As) ω (zpl P)) (hw : zWS own idx y cc' nL' ret) (hy : zYn y n) (hst : st = As.reverse ++ rest) (hn : As.length = n) (hrm : zRm R rm nL') (hrest : (rest.map fun v => v.category).sum ≤ 8) (hd : decode cc pc = .ok (.invokestatic idx, 3)) {mc ms : Nat} (h0 : rm.cells = mc ∧ rm.slots = ms) (hcs : cells + mc ≤ R.cells ∧ slots + ms ≤ R.slots)
    (k : ∀ (r : Int) (ω' : zWd), P r ω' → Zw Γ ω' (cells + mc) (slots + ms) (pc + 3) lv (.long (zJ r) :: rest)) : Zw Γ ω cells slots pc lv st := by
  refine z_callS C M hw hy hst hn hrm hrest hd (by rw [h0.1, h0.2]; exact hcs) ?_
  intro v ω' h
  rw [h0.1, h0.2]
  obtain ⟨r, rfl, h⟩ := h
  exact k r ω' h
theorem z_callVr (C : Zc Γ l0 X R nL cc own) {idx ci b n nL' : Nat} {Cn : String} {q : vw_C} {y : MethodName} {cc' : ByteArray} {ret : Option FieldType} {rm : Room} {fs As rest : List Value} {P : Nat → zWd → Prop}
    (M : zMet l0 y cc' nL' ret rm X (.ref b :: As) ω (zpr P)) (hw : zWV own idx Cn y cc' nL' ret) (hy : y.cls = Cn ∧ zYn y n) (hc : vwCl[ci]? = some q) (hq : q.1 = Cn) (he : ω.1 b = some (zOb ci fs)) (hst : st = As.reverse ++ .ref b :: rest) (hn : As.length = n) (hrm : zRm R rm nL') (hrest : (rest.map fun v => v.category).sum ≤ 8) (hd : decode cc pc = .ok (.invokevirtual idx, 3)) (h0 : rm.cells = 0 ∧ rm.slots = 0) (hcs : cells ≤ R.cells ∧ slots ≤ R.slots)
    (k : ∀ (r : Nat) (ω' : zWd), P r ω' → Zw Γ ω' cells slots (pc + 3) lv (.ref r :: rest)) : Zw Γ ω cells slots pc lv st := by
  refine z_callV C M hw hy hc hq he hst hn hrm hrest hd (by rw [h0.1, h0.2]; exact hcs) ?_
  intro v ω' h
  rw [h0.1, h0.2]
  obtain ⟨r, rfl, h⟩ := h
  exact k r ω' h
theorem z_callVrA (C : Zc Γ l0 X R nL cc own) {idx ci b n nL' : Nat} {Cn : String} {q : vw_C} {y : MethodName} {cc' : ByteArray} {ret : Option FieldType} {rm : Room} {fs As rest : List Value} {P : Nat → zWd → Prop}
    (M : zMet l0 y cc' nL' ret rm X (.ref b :: As) ω (zpr P)) (hw : zWV own idx Cn y cc' nL' ret) (hy : y.cls = Cn ∧ zYn y n) (hc : vwCl[ci]? = some q) (hq : q.1 = Cn) (he : ω.1 b = some (zOb ci fs)) (hst : st = As.reverse ++ .ref b :: rest) (hn : As.length = n) (hrm : zRm R rm nL') (hrest : (rest.map fun v => v.category).sum ≤ 8) (hd : decode cc pc = .ok (.invokevirtual idx, 3)) {mc ms : Nat} (h0 : rm.cells = mc ∧ rm.slots = ms) (hcs : cells + mc ≤ R.cells ∧ slots + ms ≤ R.slots)
    (k : ∀ (r : Nat) (ω' : zWd), P r ω' → Zw Γ ω' (cells + mc) (slots + ms) (pc + 3) lv (.ref r :: rest)) : Zw Γ ω cells slots pc lv st := by
  refine z_callV C M hw hy hc hq he hst hn hrm hrest hd (by rw [h0.1, h0.2]; exact hcs) ?_
  intro v ω' h
  rw [h0.1, h0.2]
  obtain ⟨r, rfl, h⟩ := h
  exact k r ω' h
theorem z_callSr (C : Zc Γ l0 X R nL cc own) {idx n nL' : Nat} {y : MethodName} {cc' : ByteArray} {ret : Option FieldType} {rm : Room} {As rest : List Value} {P : Nat → zWd → Prop}
    (M : zMet l0 y cc' nL' ret rm X (As) ω (zpr P)) (hw : zWS own idx y cc' nL' ret) (hy : zYn y n) (hst : st = As.reverse ++ rest) (hn : As.length = n) (hrm : zRm R rm nL') (hrest : (rest.map fun v => v.category).sum ≤ 8) (hd : decode cc pc = .ok (.invokestatic idx, 3)) (h0 : rm.cells = 0 ∧ rm.slots = 0) (hcs : cells ≤ R.cells ∧ slots ≤ R.slots)
    (k : ∀ (r : Nat) (ω' : zWd), P r ω' → Zw Γ ω' cells slots (pc + 3) lv (.ref r :: rest)) : Zw Γ ω cells slots pc lv st := by
  refine z_callS C M hw hy hst hn hrm hrest hd (by rw [h0.1, h0.2]; exact hcs) ?_
  intro v ω' h
  rw [h0.1, h0.2]
  obtain ⟨r, rfl, h⟩ := h
  exact k r ω' h
theorem z_callSrA (C : Zc Γ l0 X R nL cc own) {idx n nL' : Nat} {y : MethodName} {cc' : ByteArray} {ret : Option FieldType} {rm : Room} {As rest : List Value} {P : Nat → zWd → Prop}
    (M : zMet l0 y cc' nL' ret rm X (As) ω (zpr P)) (hw : zWS own idx y cc' nL' ret) (hy : zYn y n) (hst : st = As.reverse ++ rest) (hn : As.length = n) (hrm : zRm R rm nL') (hrest : (rest.map fun v => v.category).sum ≤ 8) (hd : decode cc pc = .ok (.invokestatic idx, 3)) {mc ms : Nat} (h0 : rm.cells = mc ∧ rm.slots = ms) (hcs : cells + mc ≤ R.cells ∧ slots + ms ≤ R.slots)
    (k : ∀ (r : Nat) (ω' : zWd), P r ω' → Zw Γ ω' (cells + mc) (slots + ms) (pc + 3) lv (.ref r :: rest)) : Zw Γ ω cells slots pc lv st := by
  refine z_callS C M hw hy hst hn hrm hrest hd (by rw [h0.1, h0.2]; exact hcs) ?_
  intro v ω' h
  rw [h0.1, h0.2]
  obtain ⟨r, rfl, h⟩ := h
  exact k r ω' h
theorem z_callVq (C : Zc Γ l0 X R nL cc own) {idx ci b n nL' : Nat} {Cn : String} {q : vw_C} {y : MethodName} {cc' : ByteArray} {ret : Option FieldType} {rm : Room} {fs As rest : List Value} {P : Option Nat → zWd → Prop}
    (M : zMet l0 y cc' nL' ret rm X (.ref b :: As) ω (zpq P)) (hw : zWV own idx Cn y cc' nL' ret) (hy : y.cls = Cn ∧ zYn y n) (hc : vwCl[ci]? = some q) (hq : q.1 = Cn) (he : ω.1 b = some (zOb ci fs)) (hst : st = As.reverse ++ .ref b :: rest) (hn : As.length = n) (hrm : zRm R rm nL') (hrest : (rest.map fun v => v.category).sum ≤ 8) (hd : decode cc pc = .ok (.invokevirtual idx, 3)) (h0 : rm.cells = 0 ∧ rm.slots = 0) (hcs : cells ≤ R.cells ∧ slots ≤ R.slots)
    (k : ∀ (r : Option Nat) (ω' : zWd), P r ω' → Zw Γ ω' cells slots (pc + 3) lv (va_rf r :: rest)) : Zw Γ ω cells slots pc lv st := by
  refine z_callV C M hw hy hc hq he hst hn hrm hrest hd (by rw [h0.1, h0.2]; exact hcs) ?_
  intro v ω' h
  rw [h0.1, h0.2]
  obtain ⟨r, rfl, h⟩ := h
  exact k r ω' h
theorem z_callVqA (C : Zc Γ l0 X R nL cc own) {idx ci b n nL' : Nat} {Cn : String} {q : vw_C} {y : MethodName} {cc' : ByteArray} {ret : Option FieldType} {rm : Room} {fs As rest : List Value} {P : Option Nat → zWd → Prop}
    (M : zMet l0 y cc' nL' ret rm X (.ref b :: As) ω (zpq P)) (hw : zWV own idx Cn y cc' nL' ret) (hy : y.cls = Cn ∧ zYn y n) (hc : vwCl[ci]? = some q) (hq : q.1 = Cn) (he : ω.1 b = some (zOb ci fs)) (hst : st = As.reverse ++ .ref b :: rest) (hn : As.length = n) (hrm : zRm R rm nL') (hrest : (rest.map fun v => v.category).sum ≤ 8) (hd : decode cc pc = .ok (.invokevirtual idx, 3)) {mc ms : Nat} (h0 : rm.cells = mc ∧ rm.slots = ms) (hcs : cells + mc ≤ R.cells ∧ slots + ms ≤ R.slots)
    (k : ∀ (r : Option Nat) (ω' : zWd), P r ω' → Zw Γ ω' (cells + mc) (slots + ms) (pc + 3) lv (va_rf r :: rest)) : Zw Γ ω cells slots pc lv st := by
  refine z_callV C M hw hy hc hq he hst hn hrm hrest hd (by rw [h0.1, h0.2]; exact hcs) ?_
  intro v ω' h
  rw [h0.1, h0.2]
  obtain ⟨r, rfl, h⟩ := h
  exact k r ω' h
theorem z_callSq (C : Zc Γ l0 X R nL cc own) {idx n nL' : Nat} {y : MethodName} {cc' : ByteArray} {ret : Option FieldType} {rm : Room} {As rest : List Value} {P : Option Nat → zWd → Prop}
    (M : zMet l0 y cc' nL' ret rm X (As) ω (zpq P)) (hw : zWS own idx y cc' nL' ret) (hy : zYn y n) (hst : st = As.reverse ++ rest) (hn : As.length = n) (hrm : zRm R rm nL') (hrest : (rest.map fun v => v.category).sum ≤ 8) (hd : decode cc pc = .ok (.invokestatic idx, 3)) (h0 : rm.cells = 0 ∧ rm.slots = 0) (hcs : cells ≤ R.cells ∧ slots ≤ R.slots)
    (k : ∀ (r : Option Nat) (ω' : zWd), P r ω' → Zw Γ ω' cells slots (pc + 3) lv (va_rf r :: rest)) : Zw Γ ω cells slots pc lv st := by
  refine z_callS C M hw hy hst hn hrm hrest hd (by rw [h0.1, h0.2]; exact hcs) ?_
  intro v ω' h
  rw [h0.1, h0.2]
  obtain ⟨r, rfl, h⟩ := h
  exact k r ω' h
theorem z_callSqA (C : Zc Γ l0 X R nL cc own) {idx n nL' : Nat} {y : MethodName} {cc' : ByteArray} {ret : Option FieldType} {rm : Room} {As rest : List Value} {P : Option Nat → zWd → Prop}
    (M : zMet l0 y cc' nL' ret rm X (As) ω (zpq P)) (hw : zWS own idx y cc' nL' ret) (hy : zYn y n) (hst : st = As.reverse ++ rest) (hn : As.length = n) (hrm : zRm R rm nL') (hrest : (rest.map fun v => v.category).sum ≤ 8) (hd : decode cc pc = .ok (.invokestatic idx, 3)) {mc ms : Nat} (h0 : rm.cells = mc ∧ rm.slots = ms) (hcs : cells + mc ≤ R.cells ∧ slots + ms ≤ R.slots)
    (k : ∀ (r : Option Nat) (ω' : zWd), P r ω' → Zw Γ ω' (cells + mc) (slots + ms) (pc + 3) lv (va_rf r :: rest)) : Zw Γ ω cells slots pc lv st := by
  refine z_callS C M hw hy hst hn hrm hrest hd (by rw [h0.1, h0.2]; exact hcs) ?_
  intro v ω' h
  rw [h0.1, h0.2]
  obtain ⟨r, rfl, h⟩ := h
  exact k r ω' h
end ZC2
theorem z_ne {ω : zWd} {a b : Nat} {x y : va_E} (ha : ω.1 a = some x) (hb : ω.1 b = some y) (h : x ≠ y) : a ≠ b := by
  rintro rfl
  exact h (Option.some.inj (ha.symm.trans hb))
theorem z_neOI {ω : zWd} {a b : Nat} {ci1 : Nat} {fs1 : List Value} {X2 : zX} {n2 : Nat} {f2 : Int → Int} (ha : ω.1 a = some (zOb ci1 fs1)) (hb : ω.1 b = some (zAI X2 n2 f2)) : a ≠ b := z_ne ha hb (by unfold zOb zAI; intro h; simp at h)
theorem z_neOJ {ω : zWd} {a b : Nat} {ci1 : Nat} {fs1 : List Value} {X2 : zX} {n2 : Nat} {f2 : Int → Int} (ha : ω.1 a = some (zOb ci1 fs1)) (hb : ω.1 b = some (zAJ X2 n2 f2)) : a ≠ b := z_ne ha hb (by unfold zOb zAJ; intro h; simp at h)
theorem z_neOB {ω : zWd} {a b : Nat} {ci1 : Nat} {fs1 : List Value} {X2 : zX} {n2 : Nat} {f2 : Int → Option Nat} (ha : ω.1 a = some (zOb ci1 fs1)) (hb : ω.1 b = some (zAB X2 n2 f2)) : a ≠ b := z_ne ha hb (by unfold zOb zAB; intro h; simp at h)
theorem z_neOR {ω : zWd} {a b : Nat} {ci1 : Nat} {fs1 : List Value} {X2 : zX} {n2 : Nat} {f2 : Int → Option Nat} (ha : ω.1 a = some (zOb ci1 fs1)) (hb : ω.1 b = some (zAR X2 n2 f2)) : a ≠ b := z_ne ha hb (by unfold zOb zAR; intro h; simp at h)
theorem z_neIO {ω : zWd} {a b : Nat} {X1 : zX} {n1 : Nat} {f1 : Int → Int} {ci2 : Nat} {fs2 : List Value} (ha : ω.1 a = some (zAI X1 n1 f1)) (hb : ω.1 b = some (zOb ci2 fs2)) : a ≠ b := z_ne ha hb (by unfold zAI zOb; intro h; simp at h)
theorem z_neIJ {ω : zWd} {a b : Nat} {X1 : zX} {n1 : Nat} {f1 : Int → Int} {X2 : zX} {n2 : Nat} {f2 : Int → Int} (ha : ω.1 a = some (zAI X1 n1 f1)) (hb : ω.1 b = some (zAJ X2 n2 f2)) : a ≠ b := z_ne ha hb (by unfold zAI zAJ; intro h; simp at h)
theorem z_neIB {ω : zWd} {a b : Nat} {X1 : zX} {n1 : Nat} {f1 : Int → Int} {X2 : zX} {n2 : Nat} {f2 : Int → Option Nat} (ha : ω.1 a = some (zAI X1 n1 f1)) (hb : ω.1 b = some (zAB X2 n2 f2)) : a ≠ b := z_ne ha hb (by unfold zAI zAB; intro h; simp at h)
theorem z_neIR {ω : zWd} {a b : Nat} {X1 : zX} {n1 : Nat} {f1 : Int → Int} {X2 : zX} {n2 : Nat} {f2 : Int → Option Nat} (ha : ω.1 a = some (zAI X1 n1 f1)) (hb : ω.1 b = some (zAR X2 n2 f2)) : a ≠ b := z_ne ha hb (by unfold zAI zAR; intro h; simp at h)
theorem z_neJO {ω : zWd} {a b : Nat} {X1 : zX} {n1 : Nat} {f1 : Int → Int} {ci2 : Nat} {fs2 : List Value} (ha : ω.1 a = some (zAJ X1 n1 f1)) (hb : ω.1 b = some (zOb ci2 fs2)) : a ≠ b := z_ne ha hb (by unfold zAJ zOb; intro h; simp at h)
theorem z_neJI {ω : zWd} {a b : Nat} {X1 : zX} {n1 : Nat} {f1 : Int → Int} {X2 : zX} {n2 : Nat} {f2 : Int → Int} (ha : ω.1 a = some (zAJ X1 n1 f1)) (hb : ω.1 b = some (zAI X2 n2 f2)) : a ≠ b := z_ne ha hb (by unfold zAJ zAI; intro h; simp at h)
theorem z_neJB {ω : zWd} {a b : Nat} {X1 : zX} {n1 : Nat} {f1 : Int → Int} {X2 : zX} {n2 : Nat} {f2 : Int → Option Nat} (ha : ω.1 a = some (zAJ X1 n1 f1)) (hb : ω.1 b = some (zAB X2 n2 f2)) : a ≠ b := z_ne ha hb (by unfold zAJ zAB; intro h; simp at h)
theorem z_neJR {ω : zWd} {a b : Nat} {X1 : zX} {n1 : Nat} {f1 : Int → Int} {X2 : zX} {n2 : Nat} {f2 : Int → Option Nat} (ha : ω.1 a = some (zAJ X1 n1 f1)) (hb : ω.1 b = some (zAR X2 n2 f2)) : a ≠ b := z_ne ha hb (by unfold zAJ zAR; intro h; simp at h)
theorem z_neBO {ω : zWd} {a b : Nat} {X1 : zX} {n1 : Nat} {f1 : Int → Option Nat} {ci2 : Nat} {fs2 : List Value} (ha : ω.1 a = some (zAB X1 n1 f1)) (hb : ω.1 b = some (zOb ci2 fs2)) : a ≠ b := z_ne ha hb (by unfold zAB zOb; intro h; simp at h)
theorem z_neBI {ω : zWd} {a b : Nat} {X1 : zX} {n1 : Nat} {f1 : Int → Option Nat} {X2 : zX} {n2 : Nat} {f2 : Int → Int} (ha : ω.1 a = some (zAB X1 n1 f1)) (hb : ω.1 b = some (zAI X2 n2 f2)) : a ≠ b := z_ne ha hb (by unfold zAB zAI; intro h; simp at h)
theorem z_neBJ {ω : zWd} {a b : Nat} {X1 : zX} {n1 : Nat} {f1 : Int → Option Nat} {X2 : zX} {n2 : Nat} {f2 : Int → Int} (ha : ω.1 a = some (zAB X1 n1 f1)) (hb : ω.1 b = some (zAJ X2 n2 f2)) : a ≠ b := z_ne ha hb (by unfold zAB zAJ; intro h; simp at h)
theorem z_neRO {ω : zWd} {a b : Nat} {X1 : zX} {n1 : Nat} {f1 : Int → Option Nat} {ci2 : Nat} {fs2 : List Value} (ha : ω.1 a = some (zAR X1 n1 f1)) (hb : ω.1 b = some (zOb ci2 fs2)) : a ≠ b := z_ne ha hb (by unfold zAR zOb; intro h; simp at h)
theorem z_neRI {ω : zWd} {a b : Nat} {X1 : zX} {n1 : Nat} {f1 : Int → Option Nat} {X2 : zX} {n2 : Nat} {f2 : Int → Int} (ha : ω.1 a = some (zAR X1 n1 f1)) (hb : ω.1 b = some (zAI X2 n2 f2)) : a ≠ b := z_ne ha hb (by unfold zAR zAI; intro h; simp at h)
theorem z_neRJ {ω : zWd} {a b : Nat} {X1 : zX} {n1 : Nat} {f1 : Int → Option Nat} {X2 : zX} {n2 : Nat} {f2 : Int → Int} (ha : ω.1 a = some (zAR X1 n1 f1)) (hb : ω.1 b = some (zAJ X2 n2 f2)) : a ≠ b := z_ne ha hb (by unfold zAR zAJ; intro h; simp at h)
theorem z_neOO {ω : zWd} {a b : Nat} {ci1 ci2 : Nat} {fs1 fs2 : List Value} (ha : ω.1 a = some (zOb ci1 fs1)) (hb : ω.1 b = some (zOb ci2 fs2)) (hc : ci1 ≠ ci2) : a ≠ b := z_ne ha hb (by unfold zOb; intro h; simp at h; exact hc h.1)
