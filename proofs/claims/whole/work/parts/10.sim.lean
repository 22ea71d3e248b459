/-! The abstract machine's runs are runs of the real one. -/
section AY
variable {P : am_P} {TAB : List Cond} {NST : (List (String × Nat × MethodName × String)) × (List (String × String × String)) × (List MethodName) × (List (Nat × Nat))} {cl : List vw_C} {tt : List FieldType} {D : va_G} {ac : Nat → ClassId} {AO : List String} {b bs KC KS y pc pc' len : Nat} {lo lo' : am_L} {st st' : List Value} {h h' : am_H}
variable {p : Program} {l : Launch} {e : Env} {R : Room} {s : State} {m : MethodId} {args : Array Value} {below : List Frame} {meth : Method} {c : Code} {ls : Array Slot} {H : Heap} {locs : List Loc} {cells slots : Nat} {Q : State → Prop}
/-- a link of a method, across a nest or not -/
def am_lk (own : String) (ix : Nat) (x : MethodName) (args : Array Value) (s : State) : Prop := (Cond.methodLink own ix x).before args s = true ∨ ∃ host, va_Nw (.methodLinkNest own ix x host) s
theorem am_invS {T : State} (X : Stand p l e R s m args below meth c T locs cells slots) (hexec : p.tables.exec = Jvm.exec) {own : String} {ix : Nat} {x : MethodName} (hown : s.vm.findClass own = some m.cls) (hlink : am_lk own ix x args s)
    (hstat : (Cond.static x).before args s = true) (hini : (Cond.initialized x.cls).before args s = true) (hx : x.cls ≠ "java/lang/invoke/MethodHandle" ∧ x.cls ≠ "java/lang/invoke/VarHandle") {mk : MethodId} {methk : Method} (hn : s.methodNamed? x = some mk) (hm : s.vm.method? mk = some methk)
    {g : JFrame} (hg : g.method = m) {as rest : List Value} (hlen : as.length = methk.sig.parameters.length) (hstack : g.stack = as.reverse ++ rest) (hdg : decode c.code g.pc = .ok (.invokestatic ix, 3)) :
    ∃ vm', Stand p l e R s m args below meth c (T.setVm vm') locs cells slots ∧ ∀ target, (∀ acts, Steps p.tables e below (doInvoke e ((T.setVm vm').setTop { g with stack := rest }) acts mk as.toArray).1 target) → Steps p.tables e below (T.setTop g) target := by
  have hstatic : methk.isStatic = true := Cond.static_spec hn hm hstat
  obtain ⟨kP, hkP, -⟩ := className_of_methodNamed hn
  have hinitP : kP.init = .initialized := Cond.initialized_spec (findClass_of_methodNamed hn) hkP hini
  rcases hlink with hl | ⟨host, hl⟩
  · exact X.invokestatic hexec hown hl hn hm hstatic hkP hinitP hx (g := g) hg (argsL := as) (rest := rest) hlen hstack hdg
  · exact X.invokestaticNest hexec hown (va_Nw.use rfl hl) hn hm hstatic hkP hinitP hx (g := g) hg (argsL := as) (rest := rest) hlen hstack hdg
theorem am_invV {T : State} (X : Stand p l e R s m args below meth c T locs cells slots) (hexec : p.tables.exec = Jvm.exec) {own C : String} {ix : Nat} {x : MethodName} (hown : s.vm.findClass own = some m.cls) (hlink : am_lk own ix x args s)
    (hinst : (Cond.instanceMethod x).before args s = true) (hsel : (Cond.selects C x x).before args s = true) (hx : x.cls ≠ "java/lang/invoke/MethodHandle" ∧ x.cls ≠ "java/lang/invoke/VarHandle") {mk : MethodId} {methk : Method} (hn : s.methodNamed? x = some mk) (hm : s.vm.method? mk = some methk)
    {q : Addr} {cellB : Cell} (hcell : T.heap[q]? = some cellB) (hobj : cellB.vm.isStatics = false) (hcls : s.vm.findClass C = some cellB.cls)
    {g : JFrame} (hg : g.method = m) {as rest : List Value} (hlen : as.length = methk.sig.parameters.length) (hstack : g.stack = as.reverse ++ .ref q :: rest) (hdg : decode c.code g.pc = .ok (.invokevirtual ix, 3)) :
    ∃ vm', Stand p l e R s m args below meth c (T.setVm vm') locs cells slots ∧ ∀ target, (∀ acts, Steps p.tables e below (doInvoke e ((T.setVm vm').setTop { g with stack := rest }) acts mk (.ref q :: as).toArray).1 target) → Steps p.tables e below (T.setTop g) target := by
  obtain ⟨mk', methM, hnamed, hmethM, hstM, habM⟩ := Cond.instanceMethod_spec hinst
  cases hn.symm.trans hnamed
  cases hm.symm.trans hmethM
  obtain ⟨c2, r2, m2, q1, q2, q3, q4, kP, hkP, hkPi⟩ := Cond.selects_spec hsel
  cases hcls.symm.trans q1
  cases (State.methodFound?_of_named hn hx).symm.trans q2
  cases hn.symm.trans q3
  have hselP : selectMethod e.platform s.vm cellB.cls mk = .method mk := by rw [Launch.admits_selectMethod X.admits]; exact q4
  rcases hlink with hl | ⟨host, hl⟩
  · exact X.invokevirtual hexec hown hl hn hm hstM hkP hkPi hx (a := q) (cell := cellB) hcell (fun z h => by rw [h] at hobj; cases hobj) hselP hm habM hkP hkPi (g := g) hg (argsL := as) (rest := rest) hlen hstack hdg
  · exact X.invokevirtualNest hexec hown (va_Nw.use rfl hl) hn hm hstM hkP hkPi hx (a := q) (cell := cellB) hcell (fun z h => by rw [h] at hobj; cases hobj) hselP hm habM hkP hkPi (g := g) hg (argsL := as) (rest := rest) hlen hstack hdg
theorem am_invI {T : State} (X : Stand p l e R s m args below meth c T locs cells slots) (hexec : p.tables.exec = Jvm.exec) {own : String} {ix : Nat} {x : MethodName} {bytes : ByteArray} {maxL : Nat} (hown : s.vm.findClass own = some m.cls) (hlink : am_lk own ix x args s)
    (hinst : (Cond.instanceMethod x).before args s = true) (hcode : (Cond.code x bytes maxL none).before args s = true) (hname : x.name = "<init>") (hx : x.cls ≠ "java/lang/invoke/MethodHandle" ∧ x.cls ≠ "java/lang/invoke/VarHandle") {mk : MethodId} (hn : s.methodNamed? x = some mk)
    {q : Addr} {g : JFrame} (hg : g.method = m) {as rest : List Value} (hlen : ∀ sig, parseMethodDescriptor x.desc = some sig → as.length = sig.parameters.length) (hstack : g.stack = as.reverse ++ .ref q :: rest) (hdg : decode c.code g.pc = .ok (.invokespecial ix, 3)) :
    ∃ vm', Stand p l e R s m args below meth c (T.setVm vm') locs cells slots ∧ ∀ target, (∀ acts, Steps p.tables e below (doInvoke e ((T.setVm vm').setTop { g with stack := rest }) acts mk (.ref q :: as).toArray).1 target) → Steps p.tables e below (T.setTop g) target := by
  subst hg
  have hpl : e.platform.magicAccessors = ({} : Platform).magicAccessors := by rw [X.admits.platform]
  rcases hlink with hl | ⟨host, hl⟩
  · obtain ⟨mk', methM, cM, kP, vm₁, hnamed, hmethM, hcodeM, -, hlocalsM, -, hkP, -, hW₁, hstep₁⟩ := Steps.initColdArgs (e := e) X.here hexec X.warmed hpl hown hname hx hl hinst hcode (f := g) rfl hlen hstack hdg
    cases hn.symm.trans hnamed
    exact ⟨vm₁, X.noted hW₁, hstep₁⟩
  · obtain ⟨mk', methM, cM, kP, vm₁, hnamed, hmethM, hcodeM, -, hlocalsM, -, hkP, -, hW₁, hstep₁⟩ := Steps.initColdArgsNest (e := e) X.here hexec X.warmed hpl hown hname hx (va_Nw.use rfl hl) hinst hcode (f := g) rfl hlen hstack hdg
    cases hn.symm.trans hnamed
    exact ⟨vm₁, X.noted hW₁, hstep₁⟩
/-- what the tables say of a method that is called -/
def am_okM (P : am_P) (TAB : List Cond) (z : Nat) : Prop := plainFor (am_nm (am_me P z)) = true ∧ ((am_nm (am_me P z)).cls ≠ "java/lang/invoke/MethodHandle" ∧ (am_nm (am_me P z)).cls ≠ "java/lang/invoke/VarHandle") ∧ Cond.initialized (am_nm (am_me P z)).cls ∈ TAB ∧
  ((am_hd (am_me P z) = [] ∧ Cond.code (am_nm (am_me P z)) (am_cd (am_me P z)) (am_ml (am_me P z)) (am_rt (am_me P z)) ∈ TAB) ∨ Cond.codeWith (am_nm (am_me P z)) (am_cd (am_me P z)) (am_ml (am_me P z)) (am_rt (am_me P z)) ((am_hd (am_me P z)).map (fun q => (q.1, q.2.1, q.2.2.1, q.2.2.2.1))) ∈ TAB)
/-- .. and of a call -/
def am_okK (P : am_P) (TAB : List Cond) (NST : (List (String × Nat × MethodName × String)) × (List (String × String × String)) × (List MethodName) × (List (Nat × Nat))) (cl : List vw_C) : Prop := ∀ (y ix z n k : Nat), am_ca P y ix = some (z, n, k) → am_okM P TAB z ∧
  (Cond.methodLink (am_nm (am_me P y)).cls ix (am_nm (am_me P z)) ∈ TAB ∨ ∃ host, ((am_nm (am_me P y)).cls, ix, am_nm (am_me P z), host) ∈ NST.1) ∧ (parseMethodDescriptor (am_nm (am_me P z)).desc).map (fun d => d.parameters.length) = some n ∧
  (k = 0 → Cond.static (am_nm (am_me P z)) ∈ TAB) ∧
  (k = 1 → Cond.instanceMethod (am_nm (am_me P z)) ∈ TAB ∧ ∃ (C : String) (T : u_T) (N : Nat), cl[am_rc P z]? = some (C, T, N) ∧ Cond.selects C (am_nm (am_me P z)) (am_nm (am_me P z)) ∈ TAB) ∧
  (k = 2 → Cond.instanceMethod (am_nm (am_me P z)) ∈ TAB ∧ (am_nm (am_me P z)).name = "<init>" ∧ Cond.code (am_nm (am_me P z)) (am_cd (am_me P z)) (am_ml (am_me P z)) none ∈ TAB)
/-- the words stay true in a state of warmer tables whose heap has grown and is the same below b -/
theorem am_env.moved (hgood : ∀ w ∈ TAB, (w.onTables && w.keeps) = true ∨ ∃ ty, w = .arrayClass ty) {U : State} {a' : Array Value} (env : am_env P TAB NST AO cl tt D ac b bs s args) (hW : s.WarmedH U.vm) (hz : s.heap.size ≤ U.heap.size) (hk : ∀ q : Nat, q < s.heap.size → ¬ b ≤ q → U.heap[q]? = s.heap[q]?) : am_env P TAB NST AO cl tt D ac b bs U a' := by
  obtain ⟨h1, h2, h3, h4, h5, h6, h7, h8, h9, h10, h11, h12⟩ := env
  refine ⟨fun w hw => word_at hW (hgood w hw) (h1 w hw), fun q hq => va_Nw.warmM hW (h2 q hq), fun C hC => va_AO.moved hW.alike (h3 C hC), va_K.moved hW.alike h4, ?_, Nat.lt_of_lt_of_le h6 hz, h7, Nat.le_trans h8 hz, fun q hq => (h9 q hq).moved hW.alike (fun a ha hl => hk a hl (by omega)), fun x hx => va_Nw.warmD hW (h10 x hx), fun q hq => by rw [hW.alike.assignable]; exact h11 q hq, ?_⟩
  · exact va_X.moved hW.alike (h5.kept (hk bs h6 (by omega)))
  · obtain ⟨c1, t1, g1, g2, g3⟩ := Cond.castable_spec h12
    show (Cond.castable "[I" "java/lang/Cloneable").holds #[] U none U [] = true
    have e1 : U.vm.findClass "[I" = some c1 := by rw [hW.alike.findClass]; exact g1
    have e2 : U.vm.findClass "java/lang/Cloneable" = some t1 := by rw [hW.alike.findClass]; exact g2
    have e3 : U.vm.assignable c1 t1 = true := by rw [hW.alike.assignable]; exact g3
    simp only [Cond.holds, Cond.value, e1, e2, e3]
    rfl
end AY
