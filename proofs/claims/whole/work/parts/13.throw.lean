/-! A new exception is made and thrown, and leaves the method. -/
section BB
variable {P : am_P} {TAB : List Cond} {NST : (List (String × Nat × MethodName × String)) × (List (String × String × String)) × (List MethodName) × (List (Nat × Nat))} {cl : List vw_C} {tt : List FieldType} {D : va_G} {ac : Nat → ClassId} {AO : List String} {b bs KC KS y pc pc' len : Nat} {lo lo' : am_L} {st st' : List Value} {h h' : am_H}
variable {p : Program} {l : Launch} {e : Env} {R : Room} {s : State} {m : MethodId} {args : Array Value} {below : List Frame} {meth : Method} {c : Code} {ls : Array Slot} {H : Heap} {locs : List Loc} {cells slots : Nat} {Q : State → Prop}
/-- the invocation, seen as if it began in the heap of this moment -/
theorem am_now {T s' : State} (X : Stand p l e R s m args below meth c T locs cells slots) {R' : Room} (hs' : s' = (T.setVm s.vm).setFrames (.invoking m args :: below)) (hf : R'.frames ≤ R.frames) (hl : R'.locals ≤ R.locals) (hc : cells + R'.cells ≤ R.cells) (hs : slots + R'.slots ≤ R.slots) :
    Stand p l e R' s' m args below meth c T [] 0 0 := by
  obtain ⟨g0, hfr0⟩ := X.frames_eq
  have hfr1 : (T.setVm s.vm).frames = .java g0 :: below := hfr0
  have hcur : (T.setVm s.vm).cur < (T.setVm s.vm).threads.size := State.cur_lt_of_frames hfr1
  have hF : s'.frames = .invoking m args :: below := by rw [hs']; exact State.frames_setFrames _ hcur
  have hvm : s'.vm = s.vm := by rw [hs']; rfl
  have hme : e.platform.stackLimits s'.me = e.platform.stackLimits s.me ∧ s'.me.stackBytes = s.me.stackBytes := by
    rw [hs', State.stackLimits_setFrames, State.stackBytes_setFrames]
    exact ⟨X.limits, X.bytes⟩
  have hmeth : s'.vm.method? m = some meth := by rw [hvm]; exact X.method
  have hroom : s'.hasRoom e.platform R' = true := by
    have h1 := X.room
    have hu : s'.localsInUse = s.localsInUse := by rw [State.localsInUse_invoking hF hmeth X.code, State.localsInUse_invoking X.frames X.method X.code]
    have e1 : s'.heap.size = T.heap.size := by rw [hs']; rfl
    have e2 : s'.slotsUsed = T.slotsUsed := by rw [hs']; rfl
    have e3 : s'.slotsTrue = true := by rw [hs']; exact X.book
    have q1 := X.heapSize
    have q2 := X.used
    simp only [State.hasRoom, Bool.and_eq_true, decide_eq_true_eq, X.frames, List.length_cons] at h1
    simp only [State.hasRoom, Bool.and_eq_true, decide_eq_true_eq, hF, hu, hme.1, hme.2, e1, e2, e3, List.length_cons]
    obtain ⟨⟨⟨⟨a1, a2, a3, a4, a5, a6⟩, a7⟩, a8⟩, -⟩ := h1
    exact ⟨⟨⟨⟨by omega, by omega, by omega, by omega, by omega, a6⟩, by omega⟩, by omega⟩, trivial⟩
  have hsame : s'.sameButNew (T.setVm s'.vm) [] 0 0 := by
    obtain ⟨t, ht, -⟩ := State.frames_cons hfr1
    rw [hvm]
    subst hs'
    have e4 : (T.heap.toList.drop T.heap.size) = [] := List.drop_eq_nil_of_le (Nat.le_of_eq Array.length_toList)
    refine ⟨?_, Nat.le_refl _, Nat.le_refl _, ?_, ?_, fun a c9 h9 => ⟨c9, h9, rfl, rfl, fun _ _ => rfl⟩⟩
    · show T.setVm s.vm = { ((T.setVm s.vm).setFrames (.invoking m args :: below)).setFrames (T.setVm s.vm).frames with heap := T.heap, slotsUsed := T.slotsUsed }
      rw [State.setFrames_setFrames, State.setFrames_self ht]
      rfl
    · show T.slotsUsed = T.slotsUsed + ((T.heap.toList.drop T.heap.size).map (·.slots.size)).sum
      rw [e4]
      rfl
    · show ((T.heap.toList.drop T.heap.size).map (·.slots.size)).sum ≤ 0
      rw [e4]
      exact Nat.le_refl _
  exact ⟨X.admits, X.cas, X.clock, hF, hroom, by rw [hs']; exact X.hears, hmeth, X.code, X.here, X.tail, by rw [hs']; exact X.warmed, X.limits.trans hme.1.symm, X.bytes.trans hme.2.symm, hsame⟩
end BB
section BC
variable {P : am_P} {TAB : List Cond} {NST : (List (String × Nat × MethodName × String)) × (List (String × String × String)) × (List MethodName) × (List (Nat × Nat))} {cl : List vw_C} {tt : List FieldType} {D : va_G} {ac : Nat → ClassId} {AO : List String} {b bs KC KS y pc pc' len : Nat} {lo lo' : am_L} {st st' : List Value} {h h' : am_H}
variable {p : Program} {l : Launch} {e : Env} {R : Room} {s : State} {m : MethodId} {args : Array Value} {below : List Frame} {meth : Method} {c : Code} {ls : Array Slot} {H : Heap} {locs : List Loc} {cells slots : Nat} {Q : State → Prop}
def am_xs : List String := ["java/lang/RuntimeException", "java/lang/Exception"]
/-- what the tables say of the exceptions that are made -/
def am_okY (P : am_P) (TAB : List Cond) (NST : (List (String × Nat × MethodName × String)) × (List (String × String × String)) × (List MethodName) × (List (Nat × Nat))) (cl : List vw_C) : Prop := ∀ (y ix ic E : Nat), am_xn P y ix ic = some E → ∃ (X : String) (T : u_T), cl[E]? = some (X, T, 0) ∧ Bundle.fit X = true ∧ Cond.classLink (am_nm (am_me P y)).cls ix X ∈ TAB ∧ Cond.initialized X ∈ TAB ∧
  ∀ w ∈ Bundle.ownAtoms0 (am_nm (am_me P y)).cls ic X am_xs, w ∈ TAB ∨ w = .castable X X ∨ (∃ x ∈ NST.2.2.1, w = .declares x) ∨ ∃ q ∈ NST.2.1, w = .laysStatic q.1 q.2.1 q.2.2 ∨ w = .isRef (.static q.1 q.2.1 q.2.2)
theorem am_selfcast {C : String} {k : ClassId} (hc : ClassAt s C k) : (Cond.castable C C).before args s = true := by
  show (Cond.castable C C).holds args s none s [] = true
  have h1 := va_assign hc
  have h2 : s.vm.findClass C = some k := hc.1
  simp only [Cond.holds, Cond.value, h2, h1]
  rfl
set_option maxHeartbeats 4000000 in
theorem am_throw (hexec : p.tables.exec = Jvm.exec) (hl : l.stackTraces = false) (hgood : ∀ w ∈ TAB, (w.onTables && w.keeps) = true ∨ ∃ ty, w = .arrayClass ty) (okY : am_okY P TAB NST cl) : am_okX p l e P TAB NST AO cl tt D ac b bs := by
  intro y pc lo st h ix ic E hd e1 e2 hd3 hd4 hd7 hr hno R s m args below meth c ls H locs cells slots KC KS env at_ hrf hrl hkk hf
  obtain ⟨X0, T0, y1, y2, y3, y4, y5⟩ := okY y ix ic E e2
  obtain ⟨hb, hml, -, hlocks, hown, hnm, htab⟩ := at_
  have hout : ∀ x ∈ c.exceptionTable.toList, covers x (pc + 7) = false := by
    intro x hx
    have h1 : (x.startPc, x.endPc, x.handlerPc, x.catchType) ∈ (am_hd (am_me P y)).map (fun q => (q.1, q.2.1, q.2.2.1, q.2.2.2.1)) := by
      rw [← htab]
      exact List.mem_map.mpr ⟨x, hx, rfl⟩
    obtain ⟨z, hz, he⟩ := List.mem_map.mp h1
    have h2 := List.all_eq_true.mp hno z hz
    injection he with e1 e2
    injection e2 with e2 e3
    simp only [covers]
    rw [← e1, ← e2]
    exact (Bool.not_eq_true' _).mp h2
  have hfx := hf
  obtain ⟨f1, f2, f3, f4, f5, f6, f7⟩ := hfx
  obtain ⟨rc1, rc2⟩ := hf.room (z := am_B E []) (k := 6) rfl hkk
  intro T hT X
  have htr : e.platform.stackTraces = false := (show e.platform.stackTraces = l.stackTraces by rw [X.admits.platform]).trans hl
  obtain ⟨s', hs'⟩ : ∃ z, z = (T.setVm s.vm).setFrames (.invoking m args :: below) := ⟨_, rfl⟩
  have Y := am_now X (R' := { frames := R.frames, locals := R.locals, cells := 1, slots := 6 }) hs' (Nat.le_refl _) (Nat.le_refl _) rc1 rc2
  have hvm : s'.vm = s.vm := by rw [hs']; rfl
  have hhp : s'.heap = H := by rw [hs']; exact hT
  have hW0 : s.WarmedH s'.vm := by rw [hvm]; exact State.WarmedH.refl s
  have env' : am_env P TAB NST AO cl tt D ac b bs s' args := env.moved hgood hW0 (by rw [hhp]; exact f3.1) (fun q g1 g2 => by rw [hhp]; exact f3.2.1 q g1 g2)
  obtain ⟨w1, -, -, wK, -, -, -, wb, wS, wD, -⟩ := env'
  have hcA : ClassAt s' X0 (D.1 E) := (wK.1 E _ y1).2
  have hat : ∀ w ∈ Bundle.ownAtoms0 (am_nm (am_me P y)).cls ic X0 am_xs, w.before args s' = true := by
    intro w hw
    rcases y5 w hw with g | g | ⟨x, gx, g⟩ | ⟨q, gq, g⟩
    · exact w1 w g
    · rw [g]; exact am_selfcast hcA
    · rw [g]; exact va_Nw.use rfl (wD x gx)
    · have hz := (wS q gq).words (args := args)
      rcases g with g | g
      · rw [g]; exact hz.1
      · rw [g]; exact hz.2
  have hown' : s'.vm.findClass (am_nm (am_me P y)).cls = some m.cls := by rw [hvm]; exact hown
  have hins : (Cond.instantiable X0 6).before args s' = true := hat _ (by simp [Bundle.ownAtoms0])
  obtain ⟨vm1, cX, kX, hfX, hkX, -, -, X1, st1⟩ := Y.newCold hexec (own := (am_nm (am_me P y)).cls) (C := X0) (index := ix) (n := 6) hown' (w1 _ y3) hins (w1 _ y4)
    (g := F0 m pc ls (st.map (am_sv b bs))) rfl (by rw [hb]; exact hd) (Nat.le_refl _) (Nat.le_refl _)
  generalize hT1 : (T.setVm vm1).pushCell { cls := cX, slots := kX.instanceTypes.map defaultValue, vm := .none } = T1 at X1 st1
  have hcellA : T1.heap[T.heap.size]? = some (freshCell cX kX) := by rw [← hT1]; exact State.heap_pushCell_size _ _
  have hd3' : decode c.code (pc + 3) = .ok (.dup, 1) := by rw [hb]; exact hd3
  obtain ⟨U, hsteps, hrun, hend, hW, hsame, ce, hce, hO⟩ := X1.ctorThrow0 hexec htr (own := (am_nm (am_me P y)).cls) (cls := X0) (names := am_xs) (ic := ic) hown' y2 (by decide) hat (fun x hx => nomatch hx) hfX hkX hcellA (by rw [hhp, hT]; exact Nat.le_refl _)
    (g := { method := m, pc := pc + 4, locals := ls, stack := .ref T.heap.size :: .ref T.heap.size :: st.map (am_sv b bs), locked := none }) rfl (by rw [hml]; exact f1.1) rfl rfl (rest := st.map (am_sv b bs)) rfl
    (by rw [hb]; exact hd4) (by rw [hb]; exact hd7) hout (by show 2 + 3 < R.frames; omega) (by
      have e9 := am_wd_sv b bs st
      show 2 * 0 + (1 + ((st.map (am_sv b bs)).map fun v => v.category).sum) + (13 * (2 + 1) + 41) ≤ R.locals
      omega) hlocks
  have hsz : U.heap.size ≤ H.size + 1 := by
    have := hsame.2.2.1
    rw [hhp] at this
    exact this
  have hold : ∀ q : Nat, q < H.size → U.heap[q]? = H[q]? := by
    intro q hq
    have hq' : s'.heap[q]? = some (H[q]) := by rw [hhp]; exact Array.getElem?_eq_getElem hq
    obtain ⟨c9, g1, g2, g3, g4⟩ := hsame.2.2.2.2.2 q _ hq'
    have g5 : c9.slots = (H[q]).slots := Array.ext_getElem? fun i => g4 i (fun hm => nomatch hm)
    have g6 : c9 = H[q] := by rw [g5] at g2; exact g2
    have g7 : U.heap[q]? = some c9 := g1
    rw [g7, g6, Array.getElem?_eq_getElem hq]
  have hTs : T.heap.size = b + h.length := by rw [hT]; exact f2.2
  have hce' : U.heap[b + h.length]? = some ce := by rw [← hTs]; exact hce
  have hUs : U.heap.size = b + h.length + 1 := by
    have g1 := (Array.getElem?_eq_some_iff.mp hce').1
    have g2 := f2.2
    omega
  have hceC : ce.cls = D.1 E := by
    have g1 := hO.cls
    exact Option.some.inj (g1.symm.trans hcA.1)
  have hHR : am_HR D cl b bs ac (h ++ [am_B E []]) U.heap := by
    refine ⟨?_, by rw [hUs]; simp; omega⟩
    rw [← am_ws_push]
    refine (f2.1.kept fun k x hx => hold x.1 ((f2.1 k x hx).lt)).app fun k x hx => ?_
    have hz : k < 1 := (List.getElem?_eq_some_iff.mp hx).1
    rw [show k = 0 by omega] at hx
    cases hx
    exact ⟨_, y1, ce, hce', hceC, hO.vm, fun k hk => absurd hk (Nat.not_lt_zero k)⟩
  have hall : s.sameButNew ({ U with vm := s.vm } : State) locs R.cells R.slots := by
    subst hs'
    obtain ⟨e8, e9⟩ := hsame
    rw [State.setFrames_setFrames] at e8
    have h2 : (T.setVm s.vm).sameButNew ({ U with vm := s.vm } : State) [] (0 + 1) (0 + 6) := ⟨e8, e9⟩
    have h3 := X.same.trans h2
    rw [List.append_nil] at h3
    exact h3.mono (by omega) (by omega)
  have hWs : s.WarmedH U.vm := State.WarmedH.trans hW0 hW
  refine ⟨U, ?_, hrun, hHR, hWs, ⟨by rw [hUs]; have := f3.1; have := f2.2; omega, fun q g1 g2 => (hold q (Nat.lt_of_lt_of_le g1 f3.1)).trans (f3.2.1 q g1 g2)⟩, ⟨locs, hall, f3.2.2⟩, T.heap.size, ce, (X0, T0, 0), hend, hce, hO.vm, y1, by
    have g1 := hO.cls
    rw [hvm] at g1
    exact g1⟩
  refine st1 _ ?_
  show Steps p.tables e below (T1.setTop { method := m, pc := pc + 3, locals := ls, stack := .ref T.heap.size :: st.map (am_sv b bs), locked := none }) _
  jvm_step X1.here [X1.here.top, hexec, hd3', Value.category]
  exact hsteps
end BC
