/-! An exception that a callee threw is caught: the search resolves the classes that the rows name. -/
section BD
/-- a row that covers the place: its class is looked up (and noted), and it takes the object or the search goes on -/
theorem am_row {Q : Handler → Pre} {E : CtlPost} {e : Env} {d : Bool} {acts : List Action} {S : State} {f : JFrame} {q : Addr} {x : ExceptionTableEntry} {t : List ExceptionTableEntry} {k : ClassId} {ce : Cell} (hx : covers x f.pc = true) (h0 : x.catchType ≠ 0)
    (hl : S.vm.ClassLinks e.platform f.method.cls x.catchType k) (hq : S.heap[q]? = some ce) (ho : ∀ z, ce.vm ≠ .statics z) (h1 : ∃ z, S.vm.classes[ce.cls]? = some z) (h2 : ∃ z, S.vm.classes[k]? = some z) :
    wp (findHandler.go f q (x :: t)) Q E e d acts S ↔ (if S.vm.assignable ce.cls k = true then Q (.found x.handlerPc) d acts (S.setVm (S.vm.noted f.method.cls x.catchType (.cls k))) else wp (findHandler.go f q t) Q E e d acts (S.setVm (S.vm.noted f.method.cls x.catchType (.cls k)))) := by
  simp only [covers] at hx
  obtain ⟨ha, ht⟩ := (resolveClass_links e.toSetting hl).op (op := VmOp.resolveClass f.method.cls x.catchType) rfl
  have hal : S.vm.Alike (S.vm.noted f.method.cls x.catchType (.cls k)) := (Vm.Alike.refl S.vm).noted _ _ _
  obtain ⟨k1, hk1⟩ := h1
  obtain ⟨k2, hk2⟩ := h2
  obtain ⟨k1', hk1', -⟩ := hal.2.2 _ _ hk1
  obtain ⟨k2', hk2', -⟩ := hal.2.2 _ _ hk2
  by_cases hfit : S.vm.assignable ce.cls k = true
  · have hfit' : (S.vm.noted f.method.cls x.catchType (.cls k)).assignable ce.cls k = true := by rw [hal.assignable]; exact hfit
    rw [if_pos hfit]
    simp [findHandler.go, hx, h0, ha, ht, hq, ho, hk1', hk2', hfit', VmOp.dirties, VmOp.acts]
  · have hfit' : (S.vm.noted f.method.cls x.catchType (.cls k)).assignable ce.cls k = false := by
      rw [hal.assignable]
      cases hz : S.vm.assignable ce.cls k with
      | false => rfl
      | true => exact absurd hz hfit
    rw [if_neg hfit]
    simp [findHandler.go, hx, h0, ha, ht, hq, ho, hk1', hk2', hfit', VmOp.dirties, VmOp.acts]
/-- the search comes to the row x: rows ahead of it don't cover the place, or name a class that doesn't take the object -/
theorem am_search {e : Env} {s : State} {f : JFrame} {q : Addr} {ce : Cell} (ho : ∀ z, ce.vm ≠ .statics z) (h1 : ∃ z, s.vm.classes[ce.cls]? = some z) (x : ExceptionTableEntry) (suf : List ExceptionTableEntry) (hx : covers x f.pc = true) (h0 : x.catchType ≠ 0)
    (hc : ∃ k, s.vm.ClassLinks e.platform f.method.cls x.catchType k ∧ s.vm.assignable ce.cls k = true) :
    ∀ (pre : List ExceptionTableEntry) (S : State), s.WarmedH S.vm → S.heap[q]? = some ce → (∀ z ∈ pre, covers z f.pc = false ∨ (z.catchType ≠ 0 ∧ ∃ k, s.vm.ClassLinks e.platform f.method.cls z.catchType k ∧ s.vm.assignable ce.cls k = false)) →
      ∃ vm', s.WarmedH vm' ∧ ∀ (Q : Handler → Pre) (E : CtlPost) (d : Bool) (acts : List Action), wp (findHandler.go f q (pre ++ x :: suf)) Q E e d acts S ↔ Q (.found x.handlerPc) d acts (S.setVm vm') := by
  obtain ⟨k0, hk0⟩ := h1
  intro pre
  induction pre with
  | nil =>
    intro S hW hq _
    obtain ⟨k, hl, hfit⟩ := hc
    obtain ⟨dk, _, _, kt, hd, _, _, _, _, hkt, _, hopen⟩ := hl.here
    obtain ⟨k0', hk0', -⟩ := hW.alike.2.2 _ _ hk0
    obtain ⟨kt', hkt', -⟩ := hW.alike.2.2 _ _ hkt
    refine ⟨_, hW.noted hd hopen (State.rightAt_cls hl), fun Q E d acts => ?_⟩
    rw [List.nil_append, am_row hx h0 (hW.classLinks hl) hq ho ⟨k0', hk0'⟩ ⟨kt', hkt'⟩, if_pos (by rw [hW.alike.assignable]; exact hfit)]
  | cons z zs ih =>
    intro S hW hq hpass
    have hrest := fun w hw => hpass w (List.mem_cons_of_mem _ hw)
    by_cases hcov : covers z f.pc = true
    · rcases hpass z List.mem_cons_self with hn | ⟨hz0, k, hl, hno⟩
      · rw [hn] at hcov; cases hcov
      · obtain ⟨dk, _, _, kt, hd, _, _, _, _, hkt, _, hopen⟩ := hl.here
        obtain ⟨k0', hk0', -⟩ := hW.alike.2.2 _ _ hk0
        obtain ⟨kt', hkt', -⟩ := hW.alike.2.2 _ _ hkt
        obtain ⟨vm', hW', hfin⟩ := ih (S.setVm (S.vm.noted f.method.cls z.catchType (.cls k))) (hW.noted hd hopen (State.rightAt_cls hl)) hq hrest
        refine ⟨vm', hW', fun Q E d acts => ?_⟩
        rw [List.cons_append, am_row hcov hz0 (hW.classLinks hl) hq ho ⟨k0', hk0'⟩ ⟨kt', hkt'⟩, if_neg (by rw [hW.alike.assignable, hno]; decide)]
        exact hfin Q E d acts
    · obtain ⟨vm', hW', hfin⟩ := ih S hW hq hrest
      refine ⟨vm', hW', fun Q E d acts => ?_⟩
      rw [List.cons_append, W.findHandler_go_skip (by simpa using hcov)]
      exact hfin Q E d acts
variable {P : am_P} {TAB : List Cond} {NST : (List (String × Nat × MethodName × String)) × (List (String × String × String)) × (List MethodName) × (List (Nat × Nat))} {cl : List vw_C} {tt : List FieldType} {D : va_G} {ac : Nat → ClassId} {AO : List String} {b bs KC KS y pc pc' len : Nat} {lo lo' : am_L} {st st' : List Value} {h h' : am_H}
variable {p : Program} {l : Launch} {e : Env} {R : Room} {s : State} {m : MethodId} {args : Array Value} {below : List Frame} {meth : Method} {c : Code} {ls : Array Slot} {H : Heap} {locs : List Loc} {cells slots : Nat} {Q : State → Prop}
/-- into the handler -/
theorem am_caught {T : State} {q : Addr} {ce : Cell} {g : JFrame} (X : Stand p l e R s m args below meth c T locs cells slots) (hg : g.method = m) (hq : T.heap[q]? = some ce) (hv : ce.vm = .none) (h1 : ∃ z, s.vm.classes[ce.cls]? = some z)
    (pre : List ExceptionTableEntry) (x : ExceptionTableEntry) (suf : List ExceptionTableEntry) (hsplit : c.exceptionTable.toList = pre ++ x :: suf) (hx : covers x g.pc = true) (h0 : x.catchType ≠ 0) (hc : ∃ k, s.vm.ClassLinks e.platform m.cls x.catchType k ∧ s.vm.assignable ce.cls k = true)
    (hpass : ∀ z ∈ pre, covers z g.pc = false ∨ (z.catchType ≠ 0 ∧ ∃ k, s.vm.ClassLinks e.platform m.cls z.catchType k ∧ s.vm.assignable ce.cls k = false)) :
    ∃ vm', Stand p l e R s m args below meth c (T.setVm vm') locs cells slots ∧ ∀ target, Steps p.tables e below ((T.setVm vm').setTop { g with pc := x.handlerPc, stack := [.ref q] }) target → Steps p.tables e below ((T.setTop g).pushFrame (.throwing q)) target := by
  subst hg
  obtain ⟨vm', hW', hfin⟩ := am_search (e := e) (s := s) (f := g) (q := q) (ce := ce) (fun z hz => by rw [hv] at hz; cases hz) h1 x suf hx h0 hc pre ((T.setTop g).pushFrame (.throwing q)) X.warmed (by rw [Stand.throwing_heap]; exact hq) hpass
  refine ⟨vm', X.noted hW', fun target hrest => ?_⟩
  obtain ⟨hgo, hw⟩ := X.here.throwing q (g := g)
  refine Steps.head hgo hw ?_
  have hstep : (stepThrowing e ((T.setTop g).pushFrame (.throwing q)) q (.java g :: T.frames.tail)).1 = (((T.setTop g).pushFrame (.throwing q)).setVm vm').setFrames (.java { g with pc := x.handlerPc, stack := [.ref q] } :: T.frames.tail) := by
    simp only [stepThrowing, searchFrame, vmDo]
    generalize hr : Sem.go _ e false [] ((T.setTop g).pushFrame (.throwing q)) = res
    obtain ⟨as, rfl, ha⟩ := Sem.eq_ok_of hr (a := Handler.found x.handlerPc) (s' := ((T.setTop g).pushFrame (.throwing q)).setVm vm') (acts' := []) (by
      simp [W.findHandler_eq (s := (T.setTop g).pushFrame (.throwing q)) (f := g) (meth := meth) (code := c) X.method' X.code, hsplit, hfin])
    rfl
  rw [stepThread_throwing (frames_entered X.here.top _), hstep]
  obtain ⟨g0, hr⟩ := X.frames_eq
  have hr' : (T.setVm vm').frames = .java g0 :: below := hr
  rw [State.setTop_of_frames _ hr'] at hrest
  rw [hr, List.tail_cons]
  have e1 : (((T.setTop g).pushFrame (.throwing q)).setVm vm').setFrames (.java { g with pc := x.handlerPc, stack := [.ref q] } :: below) = (T.setVm vm').setFrames (.java { g with pc := x.handlerPc, stack := [.ref q] } :: below) := by
    have e2 : (T.setTop g).pushFrame (.throwing q) = T.setFrames (.throwing q :: .java g :: below) := by
      rw [State.pushFrame, State.frames_setTop _ hr, State.setTop_of_frames _ hr, State.setFrames_setFrames]
    rw [e2]
    have e3 : (T.setFrames (.throwing q :: .java g :: below)).setVm vm' = (T.setVm vm').setFrames (.throwing q :: .java g :: below) := rfl
    rw [e3, State.setFrames_setFrames]
  rw [e1]
  exact hrest
end BD
section BE
variable {P : am_P} {TAB : List Cond} {NST : (List (String × Nat × MethodName × String)) × (List (String × String × String)) × (List MethodName) × (List (Nat × Nat))} {cl : List vw_C} {tt : List FieldType} {D : va_G} {ac : Nat → ClassId} {AO : List String} {b bs : Nat}
variable {p : Program} {l : Launch} {e : Env}
/-- what the tables say of handlers -/
def am_okE (P : am_P) (TAB : List Cond) (NST : (List (String × Nat × MethodName × String)) × (List (String × String × String)) × (List MethodName) × (List (Nat × Nat))) (cl : List vw_C) : Prop := ∀ (y : Nat), ∀ q ∈ am_hd (am_me P y), q.2.2.2.1 ≠ 0 ∧ (∃ (X : String) (T : u_T) (N : Nat), cl[q.2.2.2.2]? = some (X, T, N) ∧ Cond.classLink (am_nm (am_me P y)).cls q.2.2.2.1 X ∈ TAB) ∧ ∀ E ∈ am_xl P, E ≠ q.2.2.2.2 → (E, q.2.2.2.2) ∈ NST.2.2.2
set_option maxHeartbeats 4000000 in
theorem am_catch (hexec : p.tables.exec = Jvm.exec) (okE : am_okE P TAB NST cl) : am_okH p l e P TAB NST AO cl tt D ac b bs := by
  intro y pc E pc2 kx lo h1 hfh hkx R s m args below meth c ls T locs cells slots KC KS rest env at_ hf X q ce r hq hv hE hc Q kk
  obtain ⟨hb, hml, -, hlocks, hown, hnm, htab⟩ := at_
  have hK := env.2.2.2.1
  have hNC := env.2.2.2.2.2.2.2.2.2.2.1
  have hpl : e.platform.magicAccessors = ({} : Platform).magicAccessors := by rw [X.admits.platform]
  unfold am_fh at hfh
  split at hfh
  · rename_i hxl
    split at hfh
    · rename_i q0 hfind
      obtain ⟨hp0, as, bsu, hl, hno⟩ := List.find?_eq_some_iff_append.mp hfind
      simp only [Bool.and_eq_true, decide_eq_true_eq] at hp0
      rw [hl, List.map_append, List.map_cons] at htab
      obtain ⟨pre, suf0, hs1, hs2, hs3⟩ := List.map_eq_append_iff.mp htab
      obtain ⟨x, suf, hs4, hs5, hs6⟩ := List.map_eq_cons_iff.mp hs3
      rw [hs4] at hs1
      have e0 : x.startPc = q0.1 ∧ x.endPc = q0.2.1 ∧ x.handlerPc = q0.2.2.1 ∧ x.catchType = q0.2.2.2.1 := by
        injection hs5 with a1 a2
        injection a2 with a2 a3
        injection a3 with a3 a4
        exact ⟨a1, a2, a3, a4⟩
      have ceE : ce.cls = D.1 E := Option.some.inj (hc.symm.trans (hK.1 E r hE).2.1)
      obtain ⟨-, kE, hkE, -⟩ := (hK.1 E r hE).2
      have hself : s.vm.assignable (D.1 E) (D.1 E) = true := va_assign (hK.1 E r hE).2
      obtain ⟨z0, ⟨X0, T0, N0, z1, z2⟩, -⟩ := okE y q0 (by rw [hl]; exact List.mem_append_right _ List.mem_cons_self)
      have hlinkOf : ∀ (F : Nat) (ty : Nat) (X0 : String) (T0 : u_T) (N0 : Nat), cl[F]? = some (X0, T0, N0) → (Cond.classLink (am_nm (am_me P y)).cls ty X0).before args s = true → s.vm.ClassLinks e.platform m.cls ty (D.1 F) := by
        intro F ty X0 T0 N0 g1 g2
        obtain ⟨k, g3, g4⟩ := Cond.classLink_spec hown g2 e.platform hpl
        cases g3.symm.trans (hK.1 F _ g1).2.1
        exact g4
      have hcov : covers x pc = true := by
        simp only [covers]
        rw [e0.1, e0.2.1]
        simp [hp0.1.1, hp0.1.2]
      have hcx : ∃ k, s.vm.ClassLinks e.platform m.cls x.catchType k ∧ s.vm.assignable ce.cls k = true := by
        refine ⟨D.1 q0.2.2.2.2, ?_, ?_⟩
        · rw [e0.2.2.2]
          exact hlinkOf _ _ X0 T0 N0 z1 (env.1 _ z2)
        · rw [ceE, hp0.2]; exact hself
      have hpass : ∀ z ∈ pre, covers z pc = false ∨ (z.catchType ≠ 0 ∧ ∃ k, s.vm.ClassLinks e.platform m.cls z.catchType k ∧ s.vm.assignable ce.cls k = false) := by
        intro z hz
        have hz1 : (z.startPc, z.endPc, z.handlerPc, z.catchType) ∈ as.map (fun q => (q.1, q.2.1, q.2.2.1, q.2.2.2.1)) := by
          rw [← hs2]
          exact List.mem_map.mpr ⟨z, hz, rfl⟩
        obtain ⟨w, hw, hwe⟩ := List.mem_map.mp hz1
        injection hwe with a1 a2
        injection a2 with a2 a3
        injection a3 with a3 a4
        obtain ⟨w0, ⟨Xw, Tw, Nw, w1, w2⟩, w3⟩ := okE y w (by rw [hl]; exact List.mem_append_left _ hw)
        by_cases hcv : covers z pc = true
        · right
          have hne : E ≠ w.2.2.2.2 := by
            intro he
            have := hno w hw
            simp only [covers] at hcv
            rw [← a1, ← a2] at hcv
            simp [he] at this
            simp at hcv
            omega
          refine ⟨by rw [← a4]; exact w0, D.1 w.2.2.2.2, ?_, ?_⟩
          · rw [← a4]
            exact hlinkOf _ _ Xw Tw Nw w1 (env.1 _ w2)
          · rw [ceE]
            exact hNC (E, w.2.2.2.2) (w3 E hxl hne)
        · left
          simpa using hcv
      obtain ⟨vm', X', st1⟩ := am_caught (g := F0 m pc ls rest) X rfl hq hv ⟨kE, by rw [ceE]; exact hkE⟩ pre x suf hs1 hcov (by rw [e0.2.2.2]; exact z0) hcx hpass
      have hkl : kx < am_ml (am_me P y) := by rw [← hf.1.2.1]; exact hkx.1
      have hw : W p l e R s m args below meth c T.heap locs cells slots Q (F0 m x.handlerPc ls [.ref q]) := by
        rw [e0.2.2.1]
        split at hfh
        · rename_i k hd
          cases hfh
          exact lv_astore hexec hb hd hf.1.has hkl rfl fun ls' hl' => kk ls' ⟨hf.1.st1 hkx.2 (fun v hv => by cases hv) hl', hf.2⟩
        · rename_i k hd
          cases hfh
          exact lv_astore_n hexec hb hd rfl hf.1.has hkl rfl fun ls' hl' => kk ls' ⟨hf.1.st1 hkx.2 (fun v hv => by cases hv) hl', hf.2⟩
        · cases hfh
      obtain ⟨t, g1, g2⟩ := hw (T.setVm vm') rfl X'
      exact ⟨t, st1 t g1, g2⟩
    · cases hfh
  · cases hfh
end BE
