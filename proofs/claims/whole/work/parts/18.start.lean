/-! From the abstract machine's run of the law to the law's walk. -/
section BH
def R_law : String := "GluedMachinesLaw"
def lw_P (b : Addr) (xs : List Int32) (args : Array Value) (s : State) : Prop := args = #[.ref b] ∧ s.IntsAt b xs ∧ xs.length ≤ 2048 ∧ (Jvm.Cond.and given_1 narrow_1).before args s = true
def lw_Q (_ : Array Value) (s : State) (o : Outcome) (t : State) : Prop := o = .returned (some (.int 1)) ∧ Framed s o t [] 601024 7293034
def lw_Z (below : List Frame) (a : Array Value) (s : State) : State → Prop := fun t => ∃ o, t.status = .running ∧ Ended t below o ∧ lw_Q a s o t
/-- what holds at the law's entry -/
def lw_At (p : Program) (s : State) (m : MethodId) (meth : Method) (c : Code) (b L : Nat) (xs : Nat → Int32) : Prop :=
  p.tables.exec = Jvm.exec ∧ c.code = code ∧ meth.sig.returnType = ret ∧ c.maxLocals = 7 ∧ s.vm.findClass R_law = some m.cls ∧ (∀ w ∈ lw_tbl, w.before #[Value.ref b] s = true) ∧ va_X b L xs s s.heap ∧ b < s.heap.size ∧ meth.locks = false ∧ (Jvm.Cond.and given_1 narrow_1).before #[Value.ref b] s = true
variable {s : State} {args : Array Value}
theorem tb_inst : ∀ q ∈ tb_cl, ∃ n, Cond.instantiable q.1 n ∈ lw_tbl := by
  have h : tb_cl.all (fun q => decide (Cond.instantiable q.1 (if q.2.2 = 0 then 6 else q.2.2) ∈ lw_tbl)) = true := by decide +kernel
  intro q hq
  exact ⟨_, of_decide_eq_true (List.all_eq_true.mp h q hq)⟩
theorem tb_sub {w : Cond} (h : w ∈ tb_TAB) : w ∈ lw_tbl := (List.mem_filter.mp h).1
theorem tb_world (hts : ∀ w ∈ lw_tbl, w.before args s = true) (hao : ∀ C ∈ tb_AO, va_AO C s) : ∃ (D : va_G) (ac : Nat → ClassId), va_K D tb_cl (am_tys ac tb_tt) s := by
  have h1 : ∀ c : Nat, ∃ x : ClassId × (Nat → Nat), ∀ q, tb_cl[c]? = some q → u_Kn s q.1 q.2.1 q.2.2 x.1 x.2 := by
    intro c
    cases hc : tb_cl[c]? with
    | none => exact ⟨(0, fun _ => 0), fun q hq => by cases hq⟩
    | some q =>
      obtain ⟨n, hn⟩ := tb_inst q (List.mem_of_getElem? hc)
      obtain ⟨cC, iS, hk⟩ := u_known (n := n) (fun w hw => hts w (tb_sub hw)) (tb_okC c q.1 q.2.1 q.2.2 hc).1 (hts _ hn)
      exact ⟨(cC, iS), fun q' hq' => by cases hq'; exact hk⟩
  have hp : ∀ ty : FieldType, Cond.arrayClass ty ∈ lw_tbl → ∃ cA : ClassId, ArrOfT s cA ty ∧ s.vm.findClass ("[" ++ ty.toString) = some cA := by
    intro ty hty
    obtain ⟨cA, kA, comp, g1, g2, g3⟩ := Cond.arrayClass_spec (hts _ hty)
    exact ⟨cA, fun n z => ⟨fun k h => (by cases h), kA, g2, comp, g3⟩, g1⟩
  have ho : ∀ C, C ∈ tb_AO → ∃ cA : ClassId, ArrOfT s cA (.object C) ∧ va_RA s cA (.object C) := by
    intro C hC
    obtain ⟨comp, c, k, g1, g2, g3, g4, g5⟩ := Cond.arrayOver_spec (hao C hC)
    exact ⟨c, fun N z => ⟨(fun k h => by cases h), k, g3, comp, g4⟩, k, comp, g3, g4, g1, g5⟩
  have h2 : ∀ t : Nat, ∃ cA : ClassId, ∀ ty, tb_tt[t]? = some ty → ArrOfT s cA ty ∧ va_RA s cA ty := by
    intro t
    match t with
    | 0 =>
      obtain ⟨cA, g1, g2⟩ := hp .int (tb_sub tb_okA.1)
      exact ⟨cA, fun ty h => by cases h; exact ⟨g1, g2⟩⟩
    | 1 =>
      obtain ⟨cA, g1, g2⟩ := hp .long (tb_sub tb_okA.2.1)
      exact ⟨cA, fun ty h => by cases h; exact ⟨g1, g2⟩⟩
    | 2 =>
      obtain ⟨cA, g1, g2⟩ := hp .boolean (tb_sub tb_okA.2.2)
      exact ⟨cA, fun ty h => by cases h; exact ⟨g1, g2⟩⟩
    | 3 =>
      obtain ⟨cA, g⟩ := ho "GluedMachines$Formula" (by simp [tb_AO])
      exact ⟨cA, fun ty h => by cases h; exact g⟩
    | 4 =>
      obtain ⟨cA, g⟩ := ho "GluedMachines$Event" (by simp [tb_AO])
      exact ⟨cA, fun ty h => by cases h; exact g⟩
    | t + 5 => exact ⟨0, fun ty h => by cases h⟩
  refine ⟨(fun c => (Classical.choose (h1 c)).1, fun c => (Classical.choose (h1 c)).2), fun t => Classical.choose (h2 t), fun c q hq => Classical.choose_spec (h1 c) q hq, fun k q hk => ?_⟩
  unfold am_tys at hk
  rw [List.getElem?_mapIdx] at hk
  cases hh : tb_tt[k]? with
  | none => rw [hh] at hk; cases hk
  | some ty =>
    rw [hh] at hk
    cases hk
    exact Classical.choose_spec (h2 k) ty hh
theorem tb_static {C n d : String} (h1 : (Cond.laysStatic C n d).before args s = true) (h2 : (Cond.isRef (.static C n d)).before args s = true) : am_SF C n d s.heap.size s s.heap := by
  obtain ⟨cS, k, i, f, a, cell, g1, g2, g3, g4, g5, g6, g7, g8, g9⟩ := Cond.laysStatic_spec h1
  obtain ⟨v, hv⟩ : ∃ v, cell.slots[f.slot]? = some v := ⟨_, Array.getElem?_eq_getElem g8⟩
  refine ⟨cS, k, i, f, a, cell, v, g1, g2, g3, g4, g5, g6, g7, g8, g9, hv, ?_, (Array.getElem?_eq_some_iff.mp g5).1⟩
  have he : (Term.static C n d).eval args s none [] s = some v := by
    simp [Term.eval, State.fieldNamed?, g2, g3, g4, g5, g6, hv]
  simp only [Cond.before, Cond.holds, Cond.value, he] at h2
  cases v <;> simp_all [Value.isRef]
theorem tb_nestin : ∀ q ∈ tb_NST.1, Cond.methodLinkNest q.1 q.2.1 q.2.2.1 q.2.2.2 ∈ lw_tbl := by
  have h : tb_NST.1.all (fun q => decide (Cond.methodLinkNest q.1 q.2.1 q.2.2.1 q.2.2.2 ∈ lw_tbl)) = true := by decide +kernel
  exact fun q hq => of_decide_eq_true (List.all_eq_true.mp h q hq)
theorem tb_declin : ∀ q ∈ tb_NST.2.2.1, Cond.declares q ∈ lw_tbl := by
  have h : tb_NST.2.2.1.all (fun q => decide (Cond.declares q ∈ lw_tbl)) = true := by decide +kernel
  exact fun q hq => of_decide_eq_true (List.all_eq_true.mp h q hq)
theorem tb_statin : ∀ q ∈ tb_NST.2.1, Cond.laysStatic q.1 q.2.1 q.2.2 ∈ lw_tbl := by
  have h : tb_NST.2.1.all (fun q => decide (Cond.laysStatic q.1 q.2.1 q.2.2 ∈ lw_tbl)) = true := by decide +kernel
  exact fun q hq => of_decide_eq_true (List.all_eq_true.mp h q hq)
theorem tb_overin : ∀ C ∈ tb_AO, Cond.arrayOver (.object C) ∈ lw_tbl := by
  have h : tb_AO.all (fun C => decide (Cond.arrayOver (.object C) ∈ lw_tbl)) = true := by decide +kernel
  exact fun q hq => of_decide_eq_true (List.all_eq_true.mp h q hq)
theorem tb_ncin : ∀ q ∈ tb_NST.2.2.2, ∃ (a b : vw_C), tb_cl[q.1]? = some a ∧ tb_cl[q.2]? = some b ∧ Cond.not (.castable a.1 b.1) ∈ flatC (Jvm.Cond.and given_1 narrow_1) := by
  intro q hq
  simp only [tb_NST, List.mem_cons, List.not_mem_nil, or_false] at hq
  rcases hq with rfl | rfl | rfl | rfl | rfl | rfl <;> exact ⟨_, _, rfl, rfl, by decide +kernel⟩
theorem tb_refin : ∀ q ∈ tb_NST.2.1, Cond.isRef (.static q.1 q.2.1 q.2.2) ∈ flatC (Jvm.Cond.and given_1 narrow_1) := by
  have h : tb_NST.2.1.all (fun q => decide (Cond.isRef (.static q.1 q.2.1 q.2.2) ∈ flatC (Jvm.Cond.and given_1 narrow_1))) = true := by decide +kernel
  exact fun q hq => of_decide_eq_true (List.all_eq_true.mp h q hq)
theorem tb_castin : Cond.castable "[I" "java/lang/Cloneable" ∈ lw_tbl := by decide +kernel
theorem tb_law (L : Nat) (xs : Nat → Int32) : am_me (tb_P L xs) 151 = (⟨"GluedMachinesLaw", "law", "([I)Z"⟩, code, 7, ret, [], 10, 144) := rfl
/-- the law's walk out of a run of the abstract machine -/
theorem whole_run {p : Program} {e : Env} {s : State} {m : MethodId} {below : List Frame} {meth : Method} {c : Code} (l : Launch) (hfl : l.stackTraces = false) {b L : Nat} {xs : Nat → Int32} (hnm : meth.name = "law") (htab : c.exceptionTable = #[]) (C0 : lw_At p s m meth c b L xs) {n : Nat} {h' : am_H}
    (hrun : am_run (tb_P L xs) n 151 0 (some (.ref am_scr) :: List.replicate 6 none) [] [] = some (.inl (some (.int 1)), h')) (hKC : h'.length ≤ 601024) (hKS : am_sl h' ≤ 7293034) :
    W p l e room_1 s m #[Value.ref b] below meth c s.heap [] 0 0 (lw_Z below #[Value.ref b] s) (entryFrame m ([Value.ref b] : List Value).toArray 7) := by
  obtain ⟨hexec, hb, hr, hml, hown, hts, hX, hbl, hlocks, hgv⟩ := C0
  have hfl2 := flat_of_before _ hgv
  have hao : ∀ C ∈ tb_AO, va_AO C s := fun C hC => va_AO.of (hts _ (tb_overin C hC))
  obtain ⟨D, ac, hK⟩ := tb_world hts hao
  have env : am_env (tb_P L xs) tb_TAB tb_NST tb_AO tb_cl tb_tt D ac s.heap.size b s #[Value.ref b] := by
    refine ⟨fun w hw => hts w (tb_sub hw), fun q hq => va_Nw.of rfl (hts _ (tb_nestin q hq)), hao, hK, hX, hbl, hbl, Nat.le_refl _, fun q hq => tb_static (hts _ (tb_statin q hq)) (hfl2 _ (tb_refin q hq)), fun x hx => va_Nw.of rfl (hts _ (tb_declin x hx)), fun q hq => ?_, va_Nw.of rfl (hts _ tb_castin)⟩
    obtain ⟨qa, qb, ha, hb', hin⟩ := tb_ncin q hq
    obtain ⟨ca, cb, f1, f2, f3⟩ := va_Nc.of (hfl2 _ hin)
    have k1 := (hK.1 _ _ ha).2.1
    have k2 := (hK.1 _ _ hb').2.1
    cases f1.symm.trans k1
    cases f2.symm.trans k2
    exact f3
  have sim := am_sim (p := p) (l := l) (e := e) (b := s.heap.size) (bs := b) hexec tb_good (tb_OK L xs) (tb_okK L xs) (am_throw (AO := tb_AO) (tt := tb_tt) (D := D) (ac := ac) hexec hfl tb_good (tb_okY L xs)) (am_catch hexec (tb_okE L xs)) n 151 0 _ _ _ _ _ hrun
  have h0 := sim room_1 s m #[Value.ref b] below meth c ((lg_sl (([Value.ref am_scr] : List Value).map (am_sv s.heap.size b)) ++ List.replicate (7 - (lg_sl (([Value.ref am_scr] : List Value).map (am_sv s.heap.size b))).length) Slot.unset).toArray) s.heap [] 0 0 601024 7293034 env ⟨hb, hml, hr, hlocks, hown, hnm, by rw [htab]; rfl⟩ (show 10 ≤ 12 by decide) (show 144 ≤ 426 by decide) ⟨hKC, hKS⟩ ⟨am_entry (n := 7) [Value.ref am_scr] (by decide), ⟨fun k q hk => (by cases hk), rfl⟩, va_S.rf, rfl, ⟨Nat.zero_le _, by decide⟩, ⟨Nat.zero_le _, by decide⟩, by decide⟩
  have e1 : ([Value.ref am_scr] : List Value).map (am_sv s.heap.size b) = [Value.ref b] := by
    simp [am_sv, am_ad]
  rw [e1] at h0
  rw [lg_entry_eq]
  refine am_W_mono (fun t ht => ?_) h0
  obtain ⟨q1, q2, q3, q4, ⟨Lc, q5, q6⟩, q7⟩ := ht
  refine ⟨.returned (some (.int 1)), q1, q7, rfl, ⟨_, rfl⟩, q3, q5.weaken (fun y hy hlt => absurd hlt (Nat.not_lt.mpr (q6 y hy))) (Nat.le_refl _) (Nat.le_refl _)⟩
end BH
