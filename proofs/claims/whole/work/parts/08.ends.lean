/-! How an invocation ends; calls. -/
section AW
/-- the end of an invocation that began at s, in a room R -/
def am_Q (D : va_G) (cl : List vw_C) (b bs : Nat) (ac : Nat → ClassId) (R : Room) (s : State) (below : List Frame) (o : am_A) (h' : am_H) : State → Prop := fun t =>
  t.status = .running ∧ am_HR D cl b bs ac h' t.heap ∧ s.WarmedH t.vm ∧ va_F (fun q => b ≤ q) s t ∧ (∃ L : List Loc, s.sameButNew ({ t with vm := s.vm } : State) L R.cells R.slots ∧ ∀ q ∈ L, b ≤ q.base) ∧
  match o with
  | .inl v => Ended t below (.returned (v.map (am_sv b bs)))
  | .inr E => ∃ (q : Addr) (ce : Cell) (r : vw_C), Ended t below (.threw q) ∧ t.heap[q]? = some ce ∧ ce.vm = .none ∧ cl[E]? = some r ∧ s.vm.findClass r.1 = some ce.cls
variable {P : am_P} {TAB : List Cond} {cl : List vw_C} {tt : List FieldType} {D : va_G} {ac : Nat → ClassId} {AO : List String} {b bs n KC KS y pc pc' len : Nat} {lo lo' : am_L} {st st' : List Value} {h h' : am_H}
variable {p : Program} {l : Launch} {e : Env} {R : Room} {s : State} {m : MethodId} {args : Array Value} {below : List Frame} {meth : Method} {c : Code} {ls : Array Slot} {H : Heap} {locs : List Loc} {cells slots : Nat} {Q : State → Prop} {cc : ByteArray}
theorem am_W_mono {Q Q' : State → Prop} {g : JFrame} (hq : ∀ t, Q t → Q' t) (k : W p l e R s m args below meth c H locs cells slots Q g) : W p l e R s m args below meth c H locs cells slots Q' g := by
  intro T hT X
  obtain ⟨t, a1, b1⟩ := k T hT X
  exact ⟨t, a1, hq t b1⟩
theorem am_done {v : Option Value} (hf : am_fr D cl b bs ac n KC KS R s ls H locs cells slots lo h) (t : State) (hq : MQ below (fun _ _ o u => o = .returned (v.map (am_sv b bs)) ∧ u.heap = H) args s cells slots (fun q => b ≤ q) t) : am_Q D cl b bs ac R s below (.inl v) h t := by
  obtain ⟨o, h1, h2, ⟨rfl, h4⟩, L, ⟨-, h5, h6⟩, h7⟩ := hq
  obtain ⟨f1, f2, f3, f4, f5, f6, f7⟩ := hf
  refine ⟨h1, by rw [h4]; exact f2, h5, f3.F h4, ⟨L, h6.mono (by omega) (by omega), h7⟩, h2⟩
theorem am_e_ireturn (hexec : p.tables.exec = Jvm.exec) (hb : c.code = cc) (hr : meth.sig.returnType = am_rt (am_me P y)) (hlocks : meth.locks = false) (hd : decode cc pc = .ok (.ireturn, 1)) {v : Option Value}
    (hx : (match st with
      | [.int x] => if am_rt (am_me P y) = some .int ∨ (am_rt (am_me P y) = some .boolean ∧ (x = 0 ∨ x = 1)) then some (.inr (.inr (.inl (some (.int x))))) else none
      | _ => none) = (some (.inr (.inr (.inl v))) : Option am_O)) (hf : am_fr D cl b bs ac n KC KS R s ls H locs cells slots lo h) : W p l e R s m args below meth c H locs cells slots (am_Q D cl b bs ac R s below (.inl v) h) (F0 m pc ls (st.map (am_sv b bs))) := by
  split at hx
  · rename_i x
    obtain ⟨hc, hy⟩ := am_if_inv hx
    clear hx; have hx := hy; clear hy
    cases hx
    refine am_W_mono (fun t => am_done (args := args) (v := some (.int x)) hf t) ?_
    rcases hc with hc | ⟨hc, hz⟩
    · exact W.iret hexec hb (hr.trans hc) (fun t ht _ => ⟨rfl, ht⟩) hf.2.2.1.2.2 hd hlocks
    · refine W.zret hexec hb (hr.trans hc) ?_ (fun t ht _ => ⟨rfl, ht⟩) hf.2.2.1.2.2 hd hlocks
      rcases hz with rfl | rfl <;> decide +kernel
  · cases hx
theorem am_e_areturn (hexec : p.tables.exec = Jvm.exec) (hb : c.code = cc) (hr : meth.sig.returnType = am_rt (am_me P y)) (hlocks : meth.locks = false) (hd : decode cc pc = .ok (.areturn, 1)) {v : Option Value}
    (hx : (if am_ro (am_rt (am_me P y)) = true then (match st with
      | [.ref x] => some (.inr (.inr (.inl (some (.ref x)))))
      | [.null] => some (.inr (.inr (.inl (some .null))))
      | _ => none) else none) = (some (.inr (.inr (.inl v))) : Option am_O)) (hf : am_fr D cl b bs ac n KC KS R s ls H locs cells slots lo h) : W p l e R s m args below meth c H locs cells slots (am_Q D cl b bs ac R s below (.inl v) h) (F0 m pc ls (st.map (am_sv b bs))) := by
  obtain ⟨hro, hy⟩ := am_if_inv hx
  clear hx; have hx := hy; clear hy
  have hrt : ∃ rt : FieldType, am_rt (am_me P y) = some rt ∧ ((∃ k, rt = .object k) ∨ ∃ t, rt = .array t) := by
    cases hz : am_rt (am_me P y) with
    | none => rw [hz] at hro; cases hro
    | some rt =>
      rw [hz] at hro
      refine ⟨rt, rfl, ?_⟩
      cases rt <;> first | exact Or.inl ⟨_, rfl⟩ | exact Or.inr ⟨_, rfl⟩ | cases hro
  obtain ⟨rt, h1, hrt⟩ := hrt
  have hr := hr.trans h1
  split at hx
  · rename_i x
    cases hx
    refine am_W_mono (fun t => am_done (args := args) (v := some (.ref x)) hf t) ?_
    exact W.aret hexec hb hr hrt (Or.inr ⟨_, rfl⟩) (fun t ht _ => ⟨rfl, ht⟩) hf.2.2.1.2.2 hd hlocks
  · cases hx
    refine am_W_mono (fun t => am_done (args := args) (v := some .null) hf t) ?_
    exact W.aret hexec hb hr hrt (Or.inl rfl) (fun t ht _ => ⟨rfl, ht⟩) hf.2.2.1.2.2 hd hlocks
  · cases hx
theorem am_e_return (hexec : p.tables.exec = Jvm.exec) (hb : c.code = cc) (hr : meth.sig.returnType = am_rt (am_me P y)) (hlocks : meth.locks = false) (hd : decode cc pc = .ok (.return_, 1)) {v : Option Value}
    (hx : (if am_rt (am_me P y) = none then (match st with
      | [] => some (.inr (.inr (.inl none)))
      | _ => none) else none) = (some (.inr (.inr (.inl v))) : Option am_O)) (hf : am_fr D cl b bs ac n KC KS R s ls H locs cells slots lo h) : W p l e R s m args below meth c H locs cells slots (am_Q D cl b bs ac R s below (.inl v) h) (F0 m pc ls (st.map (am_sv b bs))) := by
  obtain ⟨hro, hy⟩ := am_if_inv hx
  clear hx; have hx := hy; clear hy
  split at hx
  · cases hx
    refine am_W_mono (fun t => am_done (args := args) (v := none) hf t) ?_
    exact W.vret hexec hb (hr.trans hro) (fun t ht _ => ⟨rfl, ht⟩) hf.2.2.1.2.2 hd hlocks
  · cases hx
theorem am_weak {tb : Tables} {mid below : List Frame} {x z : State} (hs : Steps tb e (mid ++ below) x z) : Steps tb e below x z := by
  obtain ⟨k, h1, h2⟩ := hs
  exact ⟨k, h1, fun i hi => (h2 i hi).weaken⟩
/-- a call goes into a body and comes back -/
theorem am_into {T : State} {g : JFrame} {ig : Instr} {mk : MethodId} {methk : Method} {ck : Code} {a : Array Value} {R' : Room} {o : am_A} {h1 : am_H}
    (X : Stand p l e R s m args below meth c T locs cells slots) (hg : g.method = m) (hsize : g.locals.size = c.maxLocals) (hdg : decode c.code g.pc = .ok (ig, 3))
    (hmk : T.vm.method? mk = some methk) (hck : methk.code = some ck) (hlk : methk.locks = false) (hpk : T.plainMethod mk)
    (hframes : R'.frames + 1 ≤ R.frames) (hlocals : 2 * g.monitorRoom + (g.stack.map fun v => v.category).sum + (ck.maxLocals + 11) + R'.locals ≤ R.locals) (hcells : cells + R'.cells ≤ R.cells) (hslots : slots + R'.slots ≤ R.slots)
    (hW : W p l e R' (T.calling g mk a) mk a (.java g :: below) methk ck T.heap [] 0 0 (am_Q D cl b bs ac R' (T.calling g mk a) (.java g :: below) o h1) (entryFrame mk a ck.maxLocals)) :
    ∃ (T' : State) (L : List Loc), Stand p l e R s m args below meth c T' (locs ++ L) (cells + R'.cells) (slots + R'.slots) ∧ am_HR D cl b bs ac h1 T'.heap ∧ (∀ q ∈ L, b ≤ q.base) ∧ (T.heap.size ≤ T'.heap.size ∧ ∀ q : Nat, q < T.heap.size → ¬ b ≤ q → T'.heap[q]? = T.heap[q]?) ∧
      match o with
      | .inl v => ∀ target, Steps p.tables e below (T'.setTop { g with pc := g.pc + 3, stack := (v.map (am_sv b bs)).toList ++ g.stack }) target → ∀ acts, Steps p.tables e below (doInvoke e (T.setTop g) acts mk a).1 target
      | .inr E => ∃ (q : Addr) (ce : Cell) (r : vw_C), T'.heap[q]? = some ce ∧ ce.vm = .none ∧ cl[E]? = some r ∧ s.vm.findClass r.1 = some ce.cls ∧ ∀ target, Steps p.tables e below ((T'.setTop g).pushFrame (.throwing q)) target → ∀ acts, Steps p.tables e below (doInvoke e (T.setTop g) acts mk a).1 target := by
  obtain ⟨X2, hin⟩ := X.into hg hsize hdg a (R' := R') hmk hck hlk hpk hframes hlocals hcells hslots
  obtain ⟨t, hst, q1, q2, q3, q4, ⟨L, q5, q6⟩, q7⟩ := hW ((T.setTop g).pushFrame (.java (entryFrame mk a ck.maxLocals))) rfl X2
  have hst2 : ∀ acts, Steps p.tables e below (doInvoke e (T.setTop g) acts mk a).1 t := fun acts => by
    rw [hin acts]
    exact am_weak (mid := [.java g]) hst
  have hv : (T.calling g mk a).vm = T.vm := rfl
  cases o with
  | inl v =>
    obtain ⟨T', X', hW', -, ht⟩ := X.outOf hg hdg (mk := mk) (a := a) q7 q3 q5
    have hh : T'.heap = t.heap := by rw [ht]; rfl
    refine ⟨T', L, X', by rw [hh]; exact q2, q6, by rw [hh]; exact q4, fun target hs acts => ?_⟩
    refine (hst2 acts).trans ?_
    rw [ht]
    exact hs
  | inr E =>
    obtain ⟨q, ce, r, q8, q9, q10, q11, q12⟩ := q7
    obtain ⟨T', X', hW', -, ht⟩ := X.outOfThrown hg (mk := mk) (a := a) q8 q3 q5
    have hh : T'.heap = t.heap := by rw [ht]; exact (Stand.throwing_heap T' g q).symm
    have hc : s.vm.findClass r.1 = some ce.cls := by
      have h1 : T.vm.findClass r.1 = some ce.cls := q12
      rw [X.warmed.alike.findClass] at h1
      exact h1
    refine ⟨T', L, X', by rw [hh]; exact q2, q6, by rw [hh]; exact q4, q, ce, r, by rw [hh]; exact q9, q10, q11, hc, fun target hs acts => ?_⟩
    refine (hst2 acts).trans ?_
    rw [ht]
    exact hs
end AW
