/-! Static fields that nobody writes, kept in the heap below b. -/
section AW2
variable {b : Nat} {s : State} {args : Array Value}
/-- a static field that holds a reference or null, its class's cell below b -/
def am_SF (C n d : String) (b : Nat) (U : State) (H : Heap) : Prop := ∃ (cS : ClassId) (k : Class) (i : Nat) (f : Field) (a : Nat) (cell : Cell) (v : Value), U.vm.findClass C = some cS ∧ U.fieldFound? C n d = some (cS, k, i, f) ∧ f.isStatic = true ∧ k.statics = some a ∧ H[a]? = some cell ∧ cell.vm.isStatics = true ∧ cell.cls = cS ∧ f.slot < cell.slots.size ∧ k.staticTypes[f.slot]? = some f.type ∧ cell.slots[f.slot]? = some v ∧ v.isRef = true ∧ a < b
theorem am_SF.moved {C n d : String} {u U : State} {H H1 : Heap} (hvm : u.vm.Alike U.vm) (hk : ∀ q : Nat, q < b → q < H.size → H1[q]? = H[q]?) (hz : am_SF C n d b u H) : am_SF C n d b U H1 := by
  obtain ⟨cS, k, i, f, a, cell, v, h1, h2, h3, h4, h5, h6, h7, h8, h9, h10, h11, h12⟩ := hz
  obtain ⟨k', hi', he⟩ := State.fieldFound?_setVm hvm h2
  exact ⟨cS, k', i, f, a, cell, v, by rw [hvm.findClass]; exact h1, hi', h3, by rw [he]; exact h4, by rw [hk a h12 (Array.getElem?_eq_some_iff.mp h5).1]; exact h5, h6, h7, h8, by rw [he]; exact h9, h10, h11, h12⟩
theorem am_SF.words {C n d : String} (hz : am_SF C n d b s s.heap) : (Cond.laysStatic C n d).before args s = true ∧ (Cond.isRef (.static C n d)).before args s = true := by
  obtain ⟨cS, k, i, f, a, cell, v, h1, h2, h3, h4, h5, h6, h7, h8, h9, h10, h11, h12⟩ := hz
  refine ⟨?_, ?_⟩
  · show (Cond.laysStatic C n d).holds args s none s [] = true
    exact Cond.laysStatic_of h1 h2 h3 h4 h5 h6 h7 h8 h9
  · have he : (Term.static C n d).eval args s none [] s = some v := by
      simp [Term.eval, State.fieldNamed?, h2, h3, h4, h5, h6, h10]
    simp only [Cond.before, Cond.holds, Cond.value, he]
    cases v <;> simp_all [Value.isRef]
end AW2
