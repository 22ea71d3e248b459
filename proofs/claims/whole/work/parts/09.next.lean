/-! One step that goes on, of any instruction. -/
section AX
/-- what holds of the machine's tables and of the heap below b at the beginning of an invocation -/
def am_env (P : am_P) (TAB : List Cond) (NST : (List (String × Nat × MethodName × String)) × (List (String × String × String)) × (List MethodName) × (List (Nat × Nat))) (AO : List String) (cl : List vw_C) (tt : List FieldType) (D : va_G) (ac : Nat → ClassId) (b bs : Nat) (s : State) (args : Array Value) : Prop :=
  (∀ w ∈ TAB, w.before args s = true) ∧ (∀ q ∈ NST.1, va_Nw (.methodLinkNest q.1 q.2.1 q.2.2.1 q.2.2.2) s) ∧ (∀ C ∈ AO, va_AO C s) ∧ va_K D cl (am_tys ac tt) s ∧ va_X bs (am_sL P) (am_sX P) s s.heap ∧ bs < s.heap.size ∧ bs < b ∧ b ≤ s.heap.size ∧ (∀ q ∈ NST.2.1, am_SF q.1 q.2.1 q.2.2 b s s.heap) ∧ (∀ x ∈ NST.2.2.1, va_Nw (.declares x) s) ∧ (∀ q ∈ NST.2.2.2, s.vm.assignable (D.1 q.1) (D.1 q.2) = false) ∧ va_Nw (.castable "[I" "java/lang/Cloneable") s
/-- the method y is the one that runs -/
def am_at (P : am_P) (y : Nat) (s : State) (m : MethodId) (meth : Method) (c : Code) : Prop :=
  c.code = am_cd (am_me P y) ∧ c.maxLocals = am_ml (am_me P y) ∧ meth.sig.returnType = am_rt (am_me P y) ∧ meth.locks = false ∧ s.vm.findClass (am_nm (am_me P y)).cls = some m.cls ∧ meth.name = (am_nm (am_me P y)).name ∧ c.exceptionTable.toList.map (fun q => (q.startPc, q.endPc, q.handlerPc, q.catchType)) = (am_hd (am_me P y)).map (fun q => (q.1, q.2.1, q.2.2.1, q.2.2.2.1))
/-- what the tables of the abstract machine say is in the words -/
def am_OK (P : am_P) (TAB : List Cond) (AO : List String) (cl : List vw_C) (tt : List FieldType) : Prop :=
  am_okF P TAB cl ∧ am_okC TAB cl ∧ am_okT P cl tt ∧ am_okA TAB ∧ am_okN P TAB cl ∧ am_okR P TAB tt AO ∧ am_okS P TAB ∧ am_okL P TAB
variable {P : am_P} {TAB : List Cond} {NST : (List (String × Nat × MethodName × String)) × (List (String × String × String)) × (List MethodName) × (List (Nat × Nat))} {cl : List vw_C} {tt : List FieldType} {D : va_G} {ac : Nat → ClassId} {AO : List String} {b bs KC KS y pc pc' len : Nat} {lo lo' : am_L} {st st' : List Value} {h h' : am_H}
variable {p : Program} {l : Launch} {e : Env} {R : Room} {s : State} {m : MethodId} {args : Array Value} {below : List Frame} {meth : Method} {c : Code} {ls : Array Slot} {H : Heap} {locs : List Loc} {cells slots : Nat} {Q : State → Prop}
-- a step that goes on is no call
theorem am_call_no {P : am_P} {y z : Nat} {as r : List Value} {q : Nat × am_L × List Value × am_H} : ¬ am_call P y z as r = some (.inl q) := by
  unfold am_call
  intro hx
  obtain ⟨-, hy⟩ := am_if_inv hx
  clear hx; have hx := hy; clear hy
  cases hx
theorem am_as_no {n : Nat} {st : List Value} {k : List Value → List Value → Option am_O} {o : am_O} (hk : ∀ a r, ¬ k a r = some o) : ¬ am_as n st k = some o := by
  unfold am_as
  intro hx
  obtain ⟨-, hy⟩ := am_if_inv hx
  clear hx; have hx := hy; clear hy
  exact hk _ _ hx
theorem am_r1_no {st : List Value} {k : Nat → List Value → Option am_O} {o : am_O} (hk : ∀ a r, ¬ k a r = some o) : ¬ am_r1 st k = some o := by
  intro hx
  obtain ⟨a, r, -, hy⟩ := am_r1_inv hx
  clear hx; have hx := hy; clear hy
  exact hk _ _ hx
theorem am_gB_no {h : am_H} {a : Nat} {k : Nat → List Value → Option am_O} {o : am_O} (hk : ∀ a r, ¬ k a r = some o) : ¬ am_gB h a k = some o := by
  intro hx
  obtain ⟨a, r, -, hy⟩ := am_gB_inv hx
  clear hx; have hx := hy; clear hy
  exact hk _ _ hx
theorem am_if_no {c : Prop} [Decidable c] {x : Option am_O} {o : am_O} (hk : ¬ x = some o) : ¬ (if c then x else none) = some o := by
  intro hx
  exact hk (am_if_inv hx).2
set_option maxHeartbeats 4000000 in
theorem am_next (hexec : p.tables.exec = Jvm.exec) (ok : am_OK P TAB AO cl tt) (env : am_env P TAB NST AO cl tt D ac b bs s args) (at_ : am_at P y s m meth c) (hrf : am_rf (am_me P y) ≤ R.frames) (hrl : am_rl (am_me P y) ≤ R.locals) {i : Instr}
    (hd : decode (am_cd (am_me P y)) pc = .ok (i, len)) (hl : am_ln i len = true) (hx : am_ex P y pc i lo st h = some (.inl (pc', lo', st', h'))) (hkk : h'.length ≤ KC ∧ am_sl h' ≤ KS) (hf : am_fr D cl b bs ac (am_ml (am_me P y)) KC KS R s ls H locs cells slots lo h)
    (kk : ∀ (ls' : Array Slot) (H' : Heap) (locs' : List Loc) (cells' slots' : Nat), am_fr D cl b bs ac (am_ml (am_me P y)) KC KS R s ls' H' locs' cells' slots' lo' h' → W p l e R s m args below meth c H' locs' cells' slots' Q (F0 m pc' ls' (st'.map (am_sv b bs)))) :
    W p l e R s m args below meth c H locs cells slots Q (F0 m pc ls (st.map (am_sv b bs))) := by
  obtain ⟨oF, oC, oT, oA, oN, oR, oS, oK⟩ := ok
  obtain ⟨hts, hnst, hAO, hK, hX, hbl, hbb, hbs, -, -, -, hcc⟩ := env
  obtain ⟨hb, hml, hr, hlocks, hown, hnm, -⟩ := at_
  cases i with
  | iconst =>
    obtain rfl : len = 1 := by simpa [am_ln] using hl
    exact am_n_iconst hexec hb hd hx hf kk
  | bipush =>
    obtain rfl : len = 2 := by simpa [am_ln] using hl
    exact am_n_bipush hexec hb hd hx hf kk
  | sipush =>
    obtain rfl : len = 3 := by simpa [am_ln] using hl
    exact am_n_sipush hexec hb hd hx hf kk
  | lconst =>
    obtain rfl : len = 1 := by simpa [am_ln] using hl
    exact am_n_lconst hexec hb hd hx hf kk
  | aconst_null =>
    obtain rfl : len = 1 := by simpa [am_ln] using hl
    exact am_n_aconst_null hexec hb hd hx hf kk
  | iload =>
    obtain rfl : len = 2 := by simpa [am_ln] using hl
    exact am_n_iload hexec hb hd hx hf kk
  | iload_n =>
    obtain rfl : len = 1 := by simpa [am_ln] using hl
    exact am_n_iload_n hexec hb hd hx hf kk
  | lload =>
    obtain rfl : len = 2 := by simpa [am_ln] using hl
    exact am_n_lload hexec hb hd hx hf kk
  | lload_n =>
    obtain rfl : len = 1 := by simpa [am_ln] using hl
    exact am_n_lload_n hexec hb hd hx hf kk
  | aload =>
    obtain rfl : len = 2 := by simpa [am_ln] using hl
    exact am_n_aload hexec hb hd hx hf kk
  | aload_n =>
    obtain rfl : len = 1 := by simpa [am_ln] using hl
    exact am_n_aload_n hexec hb hd hx hf kk
  | istore =>
    obtain rfl : len = 2 := by simpa [am_ln] using hl
    exact am_n_istore hexec hb hd hx hf kk
  | istore_n =>
    obtain rfl : len = 1 := by simpa [am_ln] using hl
    exact am_n_istore_n hexec hb hd hx hf kk
  | lstore =>
    obtain rfl : len = 2 := by simpa [am_ln] using hl
    exact am_n_lstore hexec hb hd hx hf kk
  | lstore_n =>
    obtain rfl : len = 1 := by simpa [am_ln] using hl
    exact am_n_lstore_n hexec hb hd hx hf kk
  | astore =>
    obtain rfl : len = 2 := by simpa [am_ln] using hl
    exact am_n_astore hexec hb hd hx hf kk
  | astore_n =>
    obtain rfl : len = 1 := by simpa [am_ln] using hl
    exact am_n_astore_n hexec hb hd hx hf kk
  | iinc =>
    obtain rfl : len = 3 := by simpa [am_ln] using hl
    exact am_n_iinc hexec hb hd hx hf kk
  | iadd =>
    obtain rfl : len = 1 := by simpa [am_ln] using hl
    exact am_n_iadd hexec hb hd hx hf kk
  | isub =>
    obtain rfl : len = 1 := by simpa [am_ln] using hl
    exact am_n_isub hexec hb hd hx hf kk
  | imul =>
    obtain rfl : len = 1 := by simpa [am_ln] using hl
    exact am_n_imul hexec hb hd hx hf kk
  | idiv =>
    obtain rfl : len = 1 := by simpa [am_ln] using hl
    exact am_n_idiv hexec hb hd hx hf kk
  | iand =>
    obtain rfl : len = 1 := by simpa [am_ln] using hl
    exact am_n_iand hexec hb hd hx hf kk
  | ior =>
    obtain rfl : len = 1 := by simpa [am_ln] using hl
    exact am_n_ior hexec hb hd hx hf kk
  | ixor =>
    obtain rfl : len = 1 := by simpa [am_ln] using hl
    exact am_n_ixor hexec hb hd hx hf kk
  | ishl =>
    obtain rfl : len = 1 := by simpa [am_ln] using hl
    exact am_n_ishl hexec hb hd hx hf kk
  | iushr =>
    obtain rfl : len = 1 := by simpa [am_ln] using hl
    exact am_n_iushr hexec hb hd hx hf kk
  | land =>
    obtain rfl : len = 1 := by simpa [am_ln] using hl
    exact am_n_land hexec hb hd hx hf kk
  | lor =>
    obtain rfl : len = 1 := by simpa [am_ln] using hl
    exact am_n_lor hexec hb hd hx hf kk
  | lshl =>
    obtain rfl : len = 1 := by simpa [am_ln] using hl
    exact am_n_lshl hexec hb hd hx hf kk
  | lcmp =>
    obtain rfl : len = 1 := by simpa [am_ln] using hl
    exact am_n_lcmp hexec hb hd hx hf kk
  | i2l =>
    obtain rfl : len = 1 := by simpa [am_ln] using hl
    exact am_n_i2l hexec hb hd hx hf kk
  | dup =>
    obtain rfl : len = 1 := by simpa [am_ln] using hl
    exact am_n_dup hexec hb hd hx hf kk
  | pop =>
    obtain rfl : len = 1 := by simpa [am_ln] using hl
    exact am_n_pop hexec hb hd hx hf kk
  | dup_x1 =>
    obtain rfl : len = 1 := by simpa [am_ln] using hl
    exact am_n_dup_x1 hexec hb hd hx hf kk
  | dup_x2 =>
    obtain rfl : len = 1 := by simpa [am_ln] using hl
    exact am_n_dup_x2 hexec hb hd hx hf kk
  | dup2 =>
    obtain rfl : len = 1 := by simpa [am_ln] using hl
    exact am_n_dup2 hexec hb hd hx hf kk
  | ifCond =>
    obtain rfl : len = 3 := by simpa [am_ln] using hl
    exact am_n_ifCond hexec hb hd hx hf kk
  | if_icmp =>
    obtain rfl : len = 3 := by simpa [am_ln] using hl
    exact am_n_if_icmp hexec hb hd hx hf kk
  | ifnull =>
    obtain rfl : len = 3 := by simpa [am_ln] using hl
    exact am_n_ifnull hexec hb hd hx hf kk
  | ifnonnull =>
    obtain rfl : len = 3 := by simpa [am_ln] using hl
    exact am_n_ifnonnull hexec hb hd hx hf kk
  | goto =>
    obtain rfl : len = 3 := by simpa [am_ln] using hl
    exact am_n_goto hexec hb hd hx hf kk
  | tableswitch => exact am_n_tableswitch hexec hb hd hx hf kk
  | lookupswitch => exact am_n_lookupswitch hexec hb hd hx hf kk
  | ldc_w =>
    obtain rfl : len = 3 := by simpa [am_ln] using hl
    exact am_n_ldc_w hexec hb hts hown oK hd hx hf kk
  | getfield =>
    obtain rfl : len = 3 := by simpa [am_ln] using hl
    exact am_n_getfield hexec hb hts hown hK oF oC hd hx hf kk
  | putfield =>
    obtain rfl : len = 3 := by simpa [am_ln] using hl
    exact am_n_putfield hexec hb hts hown hK oF oC hbs hnm hd hx hf kk
  | iaload =>
    obtain rfl : len = 1 := by simpa [am_ln] using hl
    exact am_n_iaload hexec hb hK oT hX hbl hbb hd hx hf kk
  | baload =>
    obtain rfl : len = 1 := by simpa [am_ln] using hl
    exact am_n_baload hexec hb hK oT hd hx hf kk
  | laload =>
    obtain rfl : len = 1 := by simpa [am_ln] using hl
    exact am_n_laload hexec hb hK oT hd hx hf kk
  | aaload =>
    obtain rfl : len = 1 := by simpa [am_ln] using hl
    exact am_n_aaload hexec hb hK oT hd hx hf kk
  | iastore =>
    obtain rfl : len = 1 := by simpa [am_ln] using hl
    exact am_n_iastore hexec hb hK oT hbs hd hx hf kk
  | bastore =>
    obtain rfl : len = 1 := by simpa [am_ln] using hl
    exact am_n_bastore hexec hb hK oT hbs hd hx hf kk
  | lastore =>
    obtain rfl : len = 1 := by simpa [am_ln] using hl
    exact am_n_lastore hexec hb hK oT hbs hd hx hf kk
  | aastore =>
    obtain rfl : len = 1 := by simpa [am_ln] using hl
    exact am_n_aastore hexec hb hK oT hbs hd hx hf kk
  | arraylength =>
    obtain rfl : len = 1 := by simpa [am_ln] using hl
    exact am_n_arraylength hexec hb hK oT hX hbl hbb hd hx hf kk
  | newarray =>
    obtain rfl : len = 2 := by simpa [am_ln] using hl
    exact am_n_newarray hexec hb hts oA hK oT hbs hkk hd hx hf kk
  | anewarray =>
    obtain rfl : len = 3 := by simpa [am_ln] using hl
    exact am_n_anewarray hexec hb hts hown hK oR hAO hbs hkk hd hx hf kk
  | new ix =>
    obtain rfl : len = 3 := by simpa [am_ln] using hl
    simp only [am_ex] at hx
    split at hx
    · rename_i hnw
      exact am_n_new hexec hb hnw hts hown hK oN oC hbs hkk hd hx hf kk
    · split at hx
      · split at hx
        · obtain ⟨-, hy⟩ := am_if_inv hx
          clear hx; have hx := hy; clear hy
          cases hx
        · cases hx
      · cases hx
  | invokespecial ix =>
    obtain rfl : len = 3 := by simpa [am_ln] using hl
    simp only [am_ex] at hx
    split at hx
    · rename_i hsp
      exact am_n_objInit hexec hb hsp hts hown oS hml hrf hrl hd hx hf kk
    · cases hx
    · split at hx
      · exact absurd hx (am_as_no fun as r => am_r1_no fun a r => am_call_no)
      · cases hx
  | checkcast ix =>
    obtain rfl : len = 3 := by simpa [am_ln] using hl
    simp only [am_ex] at hx
    split at hx
    · rename_i hsp
      exact am_n_castA hexec hb hsp hts hown oS hK oT hd hx hf kk
    · cases hx
  | invokevirtual ix =>
    obtain rfl : len = 3 := by simpa [am_ln] using hl
    simp only [am_ex] at hx
    split at hx
    · rename_i hsp
      exact am_n_clone hexec hb hsp hts hown oS hcc hK oT hbs hml hrf hrl hkk hd hx hf kk
    · cases hx
    · split at hx
      · exact absurd hx (am_as_no fun as r => am_r1_no fun a r => am_gB_no fun c fs => am_if_no am_call_no)
      · cases hx
  | invokestatic ix =>
    obtain rfl : len = 3 := by simpa [am_ln] using hl
    simp only [am_ex] at hx
    split at hx
    · rename_i hsp
      exact am_n_mmax hexec hb hsp hts hown oS hml hrf hrl hd hx hf kk
    · rename_i hsp
      exact am_n_mmin hexec hb hsp hts hown oS hml hrf hrl hd hx hf kk
    · rename_i hsp
      exact am_n_copy hexec hb hsp hts hown oS hK oT hbs hml hrf hrl hd hx hf kk
    · cases hx
    · split at hx
      · exact absurd hx (am_as_no fun as r => am_call_no)
      · cases hx
  | ireturn =>
    simp only [am_ex] at hx
    split at hx
    · exact absurd hx (am_if_no (fun q => by cases q))
    · cases hx
  | areturn =>
    simp only [am_ex] at hx
    obtain ⟨-, hy⟩ := am_if_inv hx
    clear hx; have hx := hy; clear hy
    split at hx <;> cases hx
  | return_ =>
    simp only [am_ex] at hx
    obtain ⟨-, hy⟩ := am_if_inv hx
    clear hx; have hx := hy; clear hy
    split at hx <;> cases hx
  | _ =>
    simp only [am_ex] at hx
    cases hx
end AX
