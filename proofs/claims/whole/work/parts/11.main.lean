section AZ
variable {P : am_P} {TAB : List Cond} {NST : (List (String × Nat × MethodName × String)) × (List (String × String × String)) × (List MethodName) × (List (Nat × Nat))} {cl : List vw_C} {tt : List FieldType} {D : va_G} {ac : Nat → ClassId} {AO : List String} {b bs KC KS y pc pc' len : Nat} {lo lo' : am_L} {st st' : List Value} {h h' : am_H}
variable {p : Program} {l : Launch} {e : Env} {R : Room} {s : State} {m : MethodId} {args : Array Value} {below : List Frame} {meth : Method} {c : Code} {ls : Array Slot} {H : Heap} {locs : List Loc} {cells slots : Nat} {Q : State → Prop}
/-- a method's runs from a point on, as W says it -/
def am_Sim (p : Program) (l : Launch) (e : Env) (P : am_P) (TAB : List Cond) (NST : (List (String × Nat × MethodName × String)) × (List (String × String × String)) × (List MethodName) × (List (Nat × Nat))) (AO : List String) (cl : List vw_C) (tt : List FieldType) (D : va_G) (ac : Nat → ClassId) (b bs : Nat) (y pc : Nat) (lo : am_L) (st : List Value) (h : am_H) (o : am_A) (h' : am_H) : Prop :=
  ∀ (R : Room) (s : State) (m : MethodId) (args : Array Value) (below : List Frame) (meth : Method) (c : Code) (ls : Array Slot) (H : Heap) (locs : List Loc) (cells slots KC KS : Nat), am_env P TAB NST AO cl tt D ac b bs s args → am_at P y s m meth c → am_rf (am_me P y) ≤ R.frames → am_rl (am_me P y) ≤ R.locals → h'.length ≤ KC ∧ am_sl h' ≤ KS →
    am_fr D cl b bs ac (am_ml (am_me P y)) KC KS R s ls H locs cells slots lo h → W p l e R s m args below meth c H locs cells slots (am_Q D cl b bs ac R s below o h') (F0 m pc ls (st.map (am_sv b bs)))
/-- not caught here -/
theorem am_leave {T : State} {q : Addr} {ce : Cell} {E : Nat} {r : vw_C} {rest : List Value} (at_ : am_at P y s m meth c) (hno : am_no P y pc = true) (X : Stand p l e R s m args below meth c T locs cells slots) (hH : T.heap = H) (hf : am_fr D cl b bs ac (am_ml (am_me P y)) KC KS R s ls H locs cells slots lo h)
    (hq : H[q]? = some ce) (hv : ce.vm = .none) (hE : cl[E]? = some r) (hc : s.vm.findClass r.1 = some ce.cls) :
    ∃ t, Steps p.tables e below ((T.setTop (F0 m pc ls rest)).pushFrame (.throwing q)) t ∧ am_Q D cl b bs ac R s below (.inr E) h t := by
  obtain ⟨hb, hml, hr, hlocks, hown, hnm, htab⟩ := at_
  have hout : ∀ x ∈ c.exceptionTable.toList, covers x pc = false := by
    intro x hx
    have h1 : (x.startPc, x.endPc, x.handlerPc, x.catchType) ∈ (am_hd (am_me P y)).map (fun q => (q.1, q.2.1, q.2.2.1, q.2.2.2.1)) := by
      rw [← htab]
      exact List.mem_map.mpr ⟨x, hx, rfl⟩
    obtain ⟨z, hz, he⟩ := List.mem_map.mp h1
    have h2 := List.all_eq_true.mp hno z hz
    injection he with e1 e2
    injection e2 with e2 e3
    simp only [covers]
    rw [← e1, ← e2]
    exact (Bool.not_eq_true' _).mp h2
  obtain ⟨g1, g2, g3, g4, g5⟩ := X.leaveThrown q (g := F0 m pc ls rest) rfl rfl rfl hout hlocks
  obtain ⟨f1, f2, f3, f4, f5, f6, f7⟩ := hf
  have hh : (T.setFrames (.throwing q :: below)).heap = H := hH
  exact ⟨_, g1, g2, by rw [hh]; exact f2, g4, f3.F hh, ⟨locs, g5.mono (by omega) (by omega), f3.2.2⟩, q, ce, r, g3, by rw [hh]; exact hq, hv, hE, hc⟩
set_option maxHeartbeats 4000000 in
/-- a call: into the callee and back -/
theorem am_callW {z : Nat} {as rest : List Value} {l0 : am_L} {oz : am_A} {h1 : am_H} {mk : MethodId} {ig : Instr}
    (hgood : ∀ w ∈ TAB, (w.onTables && w.keeps) = true ∨ ∃ ty, w = .arrayClass ty) (env : am_env P TAB NST AO cl tt D ac b bs s args) (at_ : am_at P y s m meth c) (hrf : am_rf (am_me P y) ≤ R.frames) (hrl : am_rl (am_me P y) ≤ R.locals)
    (okM : am_okM P TAB z) (hn : s.methodNamed? (am_nm (am_me P z)) = some mk) (hd : decode (am_cd (am_me P y)) pc = .ok (ig, 3))
    (hroom : (decide (am_rf (am_me P z) + 1 ≤ am_rf (am_me P y)) && decide (am_wd rest + (am_ml (am_me P z) + 11) + am_rl (am_me P z) ≤ am_rl (am_me P y))) = true)
    (hl0 : am_en0 P z as = some l0) (hz : am_Sim p l e P TAB NST AO cl tt D ac b bs z 0 l0 [] h oz h1) (hle : am_le h h1) (hk1 : h1.length ≤ KC ∧ am_sl h1 ≤ KS)
    (inv : ∀ T : State, T.heap = H → Stand p l e R s m args below meth c T locs cells slots → ∃ vm', Stand p l e R s m args below meth c (T.setVm vm') locs cells slots ∧ ∀ target, (∀ acts, Steps p.tables e below (doInvoke e ((T.setVm vm').setTop (F0 m pc ls (rest.map (am_sv b bs)))) acts mk (as.map (am_sv b bs)).toArray).1 target) → Steps p.tables e below (T.setTop (F0 m pc ls (st.map (am_sv b bs)))) target)
    (hf : am_fr D cl b bs ac (am_ml (am_me P y)) KC KS R s ls H locs cells slots lo h)
    (kret : ∀ v, oz = .inl v → ∀ (H' : Heap) (locs' : List Loc) (cells' slots' : Nat), am_fr D cl b bs ac (am_ml (am_me P y)) KC KS R s ls H' locs' cells' slots' lo h1 → W p l e R s m args below meth c H' locs' cells' slots' Q (F0 m (pc + 3) ls ((v.toList ++ rest).map (am_sv b bs))))
    (kthr : ∀ E, oz = .inr E → ∀ (T' : State) (locs' : List Loc) (cells' slots' : Nat) (q : Addr) (ce : Cell) (r : vw_C), am_fr D cl b bs ac (am_ml (am_me P y)) KC KS R s ls T'.heap locs' cells' slots' lo h1 → Stand p l e R s m args below meth c T' locs' cells' slots' → T'.heap[q]? = some ce → ce.vm = .none → cl[E]? = some r → s.vm.findClass r.1 = some ce.cls → ∃ t, Steps p.tables e below ((T'.setTop (F0 m pc ls (rest.map (am_sv b bs)))).pushFrame (.throwing q)) t ∧ Q t) :
    W p l e R s m args below meth c H locs cells slots Q (F0 m pc ls (st.map (am_sv b bs))) := by
  obtain ⟨m1, m2, m3, m4⟩ := okM
  simp only [Bool.and_eq_true, decide_eq_true_eq] at hroom
  have hcz : ∃ (methk : Method) (ck : Code), s.vm.method? mk = some methk ∧ methk.code = some ck ∧ ck.code = am_cd (am_me P z) ∧ ck.maxLocals = am_ml (am_me P z) ∧ methk.sig.returnType = am_rt (am_me P z) ∧ methk.locks = false ∧ ck.exceptionTable.toList.map (fun q => (q.startPc, q.endPc, q.handlerPc, q.catchType)) = (am_hd (am_me P z)).map (fun q => (q.1, q.2.1, q.2.2.1, q.2.2.2.1)) := by
    rcases m4 with ⟨e0, hw⟩ | hw
    · obtain ⟨methk, ck, a1, a2, a3, a4, a5, a6, a7, -⟩ := Cond.code_spec hn (env.1 _ hw)
      refine ⟨methk, ck, a1, a2, a3, a4, a5, a6, ?_⟩
      rw [e0, Array.isEmpty_iff.mp a7]
      rfl
    · obtain ⟨mk', methk, ck, a0, a1, a2, a3, a4, a5, a6, a7, -⟩ := Cond.codeWith_spec (env.1 _ hw)
      cases hn.symm.trans a0
      exact ⟨methk, ck, a1, a2, a3, a4, a6, a7, a5⟩
  obtain ⟨methk, ck, c1, c2, c3, c4, c5, c6, c7⟩ := hcz
  have hfx := hf
  obtain ⟨f1, f2, f3, f4, f5, f6, f7⟩ := hfx
  obtain ⟨hb, hml, -, hlocks, hown, hnm, htab⟩ := at_
  intro T hT X
  obtain ⟨vm', X1, st1⟩ := inv T hT X
  have hT1 : (T.setVm vm').heap = H := hT
  generalize hTT : T.setVm vm' = T1 at X1 st1 hT1
  have hmk : T1.vm.method? mk = some methk := by rw [X1.warmed.alike.method?]; exact c1
  have hpk : T1.plainMethod mk := State.plainMethod.of_named m1 (X1.named hn) hmk
  obtain ⟨R', hR'⟩ : ∃ R' : Room, R' = { frames := am_rf (am_me P z), cells := h1.length - h.length, slots := am_sl h1 - am_sl h, locals := am_rl (am_me P z) } := ⟨_, rfl⟩
  have r1 : R'.frames = am_rf (am_me P z) := by rw [hR']
  have r2 : R'.cells = h1.length - h.length := by rw [hR']
  have r3 : R'.slots = am_sl h1 - am_sl h := by rw [hR']
  have r4 : R'.locals = am_rl (am_me P z) := by rw [hR']
  clear hR'
  have hlen : (am_en as).length ≤ am_ml (am_me P z) ∧ l0 = am_en as ++ List.replicate (am_ml (am_me P z) - (am_en as).length) none := by
    unfold am_en0 at hl0
    split at hl0
    · cases hl0
      exact ⟨by assumption, rfl⟩
    · cases hl0
  have hs1 : T1.heap.size = b + h.length := by rw [hT1]; exact f2.2
  have henv : am_env P TAB NST AO cl tt D ac b bs (T1.calling (F0 m pc ls (rest.map (am_sv b bs))) mk (as.map (am_sv b bs)).toArray) (as.map (am_sv b bs)).toArray := by
    refine env.moved hgood (U := T1.calling (F0 m pc ls (rest.map (am_sv b bs))) mk (as.map (am_sv b bs)).toArray) X1.warmed ?_ ?_
    · show s.heap.size ≤ T1.heap.size
      rw [hT1]; exact f3.1
    · intro q hq hq2
      show T1.heap[q]? = _
      rw [hT1]; exact f3.2.1 q hq hq2
  have hWz : W p l e R' (T1.calling (F0 m pc ls (rest.map (am_sv b bs))) mk (as.map (am_sv b bs)).toArray) mk (as.map (am_sv b bs)).toArray (.java (F0 m pc ls (rest.map (am_sv b bs))) :: below) methk ck T1.heap [] 0 0 (am_Q D cl b bs ac R' (T1.calling (F0 m pc ls (rest.map (am_sv b bs))) mk (as.map (am_sv b bs)).toArray) (.java (F0 m pc ls (rest.map (am_sv b bs))) :: below) oz h1) (entryFrame mk (as.map (am_sv b bs)).toArray ck.maxLocals) := by
    rw [c4, lg_entry_eq]
    refine hz R' _ mk _ _ methk ck _ T1.heap [] 0 0 h1.length (am_sl h1) henv ⟨c3, c4, c5, c6, ?_, ?_, c7⟩ (by omega) (by omega) ⟨Nat.le_refl _, Nat.le_refl _⟩ ⟨?_, ⟨by rw [hT1]; exact f2.1, hs1⟩, va_S.rf, by rfl, ⟨hle.1, by omega⟩, ⟨hle.2, by omega⟩, by omega⟩
    · show T1.vm.findClass _ = _
      exact findClass_of_methodNamed (X1.named hn)
    · exact (name_of_methodNamed hn c1).1
    · rw [hlen.2]
      exact am_entry as hlen.1
  have hsz : (F0 m pc ls (rest.map (am_sv b bs))).locals.size = c.maxLocals := by rw [hml]; exact f1.1
  obtain ⟨T', L, X', hHR, hL, ⟨hk1', hk2'⟩, hcase⟩ := am_into (R' := R') X1 rfl hsz (by rw [hb]; exact hd) hmk c2 c6 hpk (by omega) (by
      show 2 * 0 + ((rest.map (am_sv b bs)).map fun v => v.category).sum + (ck.maxLocals + 11) + R'.locals ≤ R.locals
      rw [am_wd_sv]; omega) (by omega) (by omega) hWz
  have hf' : am_fr D cl b bs ac (am_ml (am_me P y)) KC KS R s ls T'.heap (locs ++ L) (cells + R'.cells) (slots + R'.slots) lo h1 := by
    have hz2 := hHR.2
    have f22 := f2.2
    have hle1 := hle.1
    have hle2 := hle.2
    rw [hT1] at hk1' hk2'
    refine ⟨f1, hHR, ⟨Nat.le_trans f3.1 hk1', fun q g1 g2 => (hk2' q (Nat.lt_of_lt_of_le g1 f3.1) g2).trans (f3.2.1 q g1 g2), fun q hq => ?_⟩, by omega, ⟨hk1.1, by omega⟩, ⟨hk1.2, by omega⟩, f7⟩
    rcases List.mem_append.mp hq with g | g
    · exact f3.2.2 q g
    · exact hL q g
  cases oz with
  | inl v =>
    obtain ⟨t, g1, g2⟩ := kret v rfl T'.heap _ _ _ hf' T' rfl X'
    refine ⟨t, st1 t (fun acts => hcase t ?_ acts), g2⟩
    have e1 : (v.toList ++ rest).map (am_sv b bs) = (v.map (am_sv b bs)).toList ++ rest.map (am_sv b bs) := by cases v <;> rfl
    rw [e1] at g1
    exact g1
  | inr E =>
    obtain ⟨q, ce, r, d1, d2, d3, d4, d5⟩ := hcase
    obtain ⟨t, g1, g2⟩ := kthr E rfl T' _ _ _ q ce r hf' X' d1 d2 d3 d4
    exact ⟨t, st1 t (fun acts => d5 t g1 acts), g2⟩
/-- an exception is made and thrown -/
def am_okX (p : Program) (l : Launch) (e : Env) (P : am_P) (TAB : List Cond) (NST : (List (String × Nat × MethodName × String)) × (List (String × String × String)) × (List MethodName) × (List (Nat × Nat))) (AO : List String) (cl : List vw_C) (tt : List FieldType) (D : va_G) (ac : Nat → ClassId) (b bs : Nat) : Prop :=
  ∀ (y pc : Nat) (lo : am_L) (st : List Value) (h : am_H) (ix ic E : Nat), decode (am_cd (am_me P y)) pc = .ok (.new ix, 3) → am_nw P y ix = none → am_xn P y ix ic = some E → decode (am_cd (am_me P y)) (pc + 3) = .ok (.dup, 1) → decode (am_cd (am_me P y)) (pc + 4) = .ok (.invokespecial ic, 3) → decode (am_cd (am_me P y)) (pc + 7) = .ok (.athrow, 1) → 5 < am_rf (am_me P y) ∧ am_wd st + 82 ≤ am_rl (am_me P y) → am_no P y (pc + 7) = true →
    ∀ (R : Room) (s : State) (m : MethodId) (args : Array Value) (below : List Frame) (meth : Method) (c : Code) (ls : Array Slot) (H : Heap) (locs : List Loc) (cells slots KC KS : Nat), am_env P TAB NST AO cl tt D ac b bs s args → am_at P y s m meth c → am_rf (am_me P y) ≤ R.frames → am_rl (am_me P y) ≤ R.locals → (h ++ [am_B E []]).length ≤ KC ∧ am_sl (h ++ [am_B E []]) ≤ KS →
      am_fr D cl b bs ac (am_ml (am_me P y)) KC KS R s ls H locs cells slots lo h → W p l e R s m args below meth c H locs cells slots (am_Q D cl b bs ac R s below (.inr E) (h ++ [am_B E []])) (F0 m pc ls (st.map (am_sv b bs)))
/-- an exception is caught -/
def am_okH (p : Program) (l : Launch) (e : Env) (P : am_P) (TAB : List Cond) (NST : (List (String × Nat × MethodName × String)) × (List (String × String × String)) × (List MethodName) × (List (Nat × Nat))) (AO : List String) (cl : List vw_C) (tt : List FieldType) (D : va_G) (ac : Nat → ClassId) (b bs : Nat) : Prop :=
  ∀ (y pc E pc2 kx : Nat) (lo : am_L) (h1 : am_H), am_fh P y pc E = some (pc2, kx) → (kx < lo.length ∧ am_pv lo kx = true) →
    ∀ (R : Room) (s : State) (m : MethodId) (args : Array Value) (below : List Frame) (meth : Method) (c : Code) (ls : Array Slot) (T : State) (locs : List Loc) (cells slots KC KS : Nat) (rest : List Value), am_env P TAB NST AO cl tt D ac b bs s args → am_at P y s m meth c →
      am_fr D cl b bs ac (am_ml (am_me P y)) KC KS R s ls T.heap locs cells slots lo h1 → Stand p l e R s m args below meth c T locs cells slots → ∀ (q : Addr) (ce : Cell) (r : vw_C), T.heap[q]? = some ce → ce.vm = .none → cl[E]? = some r → s.vm.findClass r.1 = some ce.cls →
      ∀ Q : State → Prop, (∀ ls' : Array Slot, am_fr D cl b bs ac (am_ml (am_me P y)) KC KS R s ls' T.heap locs cells slots (lo.set kx none) h1 → W p l e R s m args below meth c T.heap locs cells slots Q (F0 m pc2 ls' (([] : List Value).map (am_sv b bs)))) →
      ∃ t, Steps p.tables e below ((T.setTop (F0 m pc ls rest)).pushFrame (.throwing q)) t ∧ Q t
end AZ
