/-! Steps that make objects and arrays of objects, and calls of members that are known. -/
section AU
/-- what the tables say of the classes that are made -/
def am_okN (P : am_P) (TAB : List Cond) (cl : List vw_C) : Prop := ∀ (y ix ci : Nat), am_nw P y ix = some ci → ∃ (C : String) (T : u_T) (N : Nat) (ty : Nat → FieldType), cl[ci]? = some (C, T, N) ∧ Cond.classLink (am_nm (am_me P y)).cls ix C ∈ TAB ∧ Cond.instantiable C N ∈ TAB ∧ Cond.initialized C ∈ TAB ∧ am_ez (.inr (ci, am_df P ci)) = N ∧ (∀ k, k < N → parseFieldDescriptor (T k).2.2.1 = some (ty k)) ∧ (∀ j, j < N → defaultValue (ty j) = vp_V (am_df P ci) j) ∧ ∀ b bs : Nat, (am_df P ci).map (am_sv b bs) = am_df P ci
/-- .. of the arrays of objects that are made -/
def am_okR (P : am_P) (TAB : List Cond) (tt : List FieldType) (AO : List String) : Prop := ∀ (y ix t : Nat), am_an P y ix = some t → ∃ C : String, tt[t]? = some (.object C) ∧ Cond.classLink (am_nm (am_me P y)).cls ix C ∈ TAB ∧ C ∈ AO
/-- .. of members that are known -/
def am_okS (P : am_P) (TAB : List Cond) : Prop := ∀ (y ix k : Nat), am_sp P y ix = some k →
  (k = 0 → Cond.methodLink (am_nm (am_me P y)).cls ix Lib.objectInit ∈ TAB ∧ Cond.instanceMethod Lib.objectInit ∈ TAB ∧ Cond.code Lib.objectInit ⟨#[0xb1]⟩ 1 none ∈ TAB) ∧
  (k = 1 → Cond.methodLink (am_nm (am_me P y)).cls ix Lib.Math.max.name ∈ TAB ∧ Cond.static Lib.Math.max.name ∈ TAB ∧ Cond.initialized "java/lang/Math" ∈ TAB ∧ Cond.code Lib.Math.max.name Lib.Math.max.code 2 (some .int) ∈ TAB) ∧
  (k = 2 → Cond.methodLink (am_nm (am_me P y)).cls ix Lib.Math.min.name ∈ TAB ∧ Cond.static Lib.Math.min.name ∈ TAB ∧ Cond.initialized "java/lang/Math" ∈ TAB ∧ Cond.code Lib.Math.min.name Lib.Math.min.code 2 (some .int) ∈ TAB) ∧
  (k = 3 → Cond.methodLink (am_nm (am_me P y)).cls ix arraycopyName ∈ TAB ∧ Cond.native arraycopyName ∈ TAB ∧ Cond.static arraycopyName ∈ TAB ∧ Cond.initialized "java/lang/System" ∈ TAB) ∧
  (k = 4 → Cond.methodLink (am_nm (am_me P y)).cls ix ⟨"[I", "clone", "()Ljava/lang/Object;"⟩ ∈ TAB ∧ Cond.sameMethod "[I" "java/lang/Object" "clone" "()Ljava/lang/Object;" ∈ TAB ∧ Cond.native ⟨"java/lang/Object", "clone", "()Ljava/lang/Object;"⟩ ∈ TAB ∧ Cond.instanceMethod ⟨"java/lang/Object", "clone", "()Ljava/lang/Object;"⟩ ∈ TAB ∧ Cond.selects "[I" ⟨"[I", "clone", "()Ljava/lang/Object;"⟩ ⟨"java/lang/Object", "clone", "()Ljava/lang/Object;"⟩ ∈ TAB) ∧
  (k = 5 → Cond.classLink (am_nm (am_me P y)).cls ix "[I" ∈ TAB)
/-- .. of constants -/
def am_okL (P : am_P) (TAB : List Cond) : Prop := ∀ (y ix : Nat) (v : Int32), am_kc P y ix = some v → Cond.constant (am_nm (am_me P y)).cls ix v ∈ TAB
variable {P : am_P} {TAB : List Cond} {cl : List vw_C} {tt : List FieldType} {D : va_G} {ac : Nat → ClassId} {AO : List String} {b bs n KC KS y pc pc' len : Nat} {lo lo' : am_L} {st st' : List Value} {h h' : am_H}
variable {p : Program} {l : Launch} {e : Env} {R : Room} {s : State} {m : MethodId} {args : Array Value} {below : List Frame} {meth : Method} {c : Code} {ls : Array Slot} {H : Heap} {locs : List Loc} {cells slots : Nat} {Q : State → Prop} {cc : ByteArray}
theorem am_ad_len (hf : am_fr D cl b bs ac n KC KS R s ls H locs cells slots lo h) {z : am_E} (hk : (h ++ [z]).length ≤ KC) : am_ad b bs h.length = b + h.length := by
  unfold am_ad
  rw [if_neg]
  have h1 := hf.2.2.2.2.2.2
  simp at hk
  omega
theorem am_n_new (hexec : p.tables.exec = Jvm.exec) (hb : c.code = cc) {ix ci : Nat} (hnw : am_nw P y ix = some ci) (hts : ∀ w ∈ TAB, w.before args s = true) (hown : s.vm.findClass (am_nm (am_me P y)).cls = some m.cls) (hK : va_K D cl (am_tys ac tt) s) (oN : am_okN P TAB cl) (oC : am_okC TAB cl) (hbs : b ≤ s.heap.size) (hkk : h'.length ≤ KC ∧ am_sl h' ≤ KS) (hd : decode cc pc = .ok (.new ix, 3)) (hx : am_nx (pc + 3) lo (.ref h.length :: st) (h ++ [.inr (ci, am_df P ci)]) = some (.inl (pc', lo', st', h'))) (hf : am_fr D cl b bs ac n KC KS R s ls H locs cells slots lo h)
    (kk : ∀ (ls' : Array Slot) (H' : Heap) (locs' : List Loc) (cells' slots' : Nat), am_fr D cl b bs ac n KC KS R s ls' H' locs' cells' slots' lo' h' → W p l e R s m args below meth c H' locs' cells' slots' Q (F0 m pc' ls' (st'.map (am_sv b bs)))) : W p l e R s m args below meth c H locs cells slots Q (F0 m pc ls (st.map (am_sv b bs))) := by
  obtain ⟨rfl, rfl, rfl, rfl⟩ := am_nx_inv hx
  obtain ⟨C, T, N, ty, h1, h2, h3, h4, h5, h6, h7, h8⟩ := oN y ix ci hnw
  obtain ⟨r1, r2⟩ := hf.room (z := .inr (ci, am_df P ci)) h5 hkk
  refine va_new (D := D) hexec hb hts (oC _ _ _ _ h1).1 ty h6 hown (hts _ h2) (hts _ h3) (hts _ h4) hK hf.2.1.1 (am_ws_D b bs ac h) hf.2.2.1 (fun q hq => Nat.le_trans hbs hq) h1 h7 r1 r2 hd fun q H1 hP hD hS => ?_
  refine am_exactN hP hD hf.eq fun hq hz => ?_
  subst hq
  have hP : va_P D cl (am_ws b bs ac h ++ [(b + h.length, am_sE b bs ac (.inr (ci, am_df P ci)))]) H1 := by
    show va_P D cl (am_ws b bs ac h ++ [(b + h.length, .inr (ci, (am_df P ci).map (am_sv b bs)))]) H1
    rw [h8]
    exact hP
  rw [am_ws_push] at hP
  have e6 := kk _ _ _ _ _ (hf.push (k := N) h5 hP hS hz hkk)
  simp only [List.map_cons, am_sv, am_ad_len hf hkk.1] at e6
  exact e6
theorem am_n_anewarray (hexec : p.tables.exec = Jvm.exec) (hb : c.code = cc) {ix : Nat} (hts : ∀ w ∈ TAB, w.before args s = true) (hown : s.vm.findClass (am_nm (am_me P y)).cls = some m.cls) (hK : va_K D cl (am_tys ac tt) s) (oR : am_okR P TAB tt AO) (hAO : ∀ C ∈ AO, va_AO C s) (hbs : b ≤ s.heap.size) (hkk : h'.length ≤ KC ∧ am_sl h' ≤ KS) (hd : decode cc pc = .ok (.anewarray ix, 3)) (hx : (match am_an P y ix with
    | some t => am_i1 st fun x r => if 0 ≤ x.toInt ∧ x.toInt < 100000 then am_nx (pc + 3) lo (.ref h.length :: r) (h ++ [am_R t x.toNatClampNeg (fun _ => none)]) else none
    | none => none) = some (.inl (pc', lo', st', h'))) (hf : am_fr D cl b bs ac n KC KS R s ls H locs cells slots lo h)
    (kk : ∀ (ls' : Array Slot) (H' : Heap) (locs' : List Loc) (cells' slots' : Nat), am_fr D cl b bs ac n KC KS R s ls' H' locs' cells' slots' lo' h' → W p l e R s m args below meth c H' locs' cells' slots' Q (F0 m pc' ls' (st'.map (am_sv b bs)))) : W p l e R s m args below meth c H locs cells slots Q (F0 m pc ls (st.map (am_sv b bs))) := by
  split at hx
  · rename_i t ht
    obtain ⟨C, c1, c2, c3⟩ := oR y ix t ht
    obtain ⟨u, r, rfl, hy⟩ := am_i1_inv hx
    clear hx; have hx := hy; clear hy
    obtain ⟨⟨hu0, hu1⟩, hy⟩ := am_if_inv hx
    clear hx; have hx := hy; clear hy
    have hn : ¬ u < 0 := by
      intro q
      have := Int32.lt_iff_toInt_lt.mp q
      simp at this
      omega
    have hN : u.toNatClampNeg < 100000 := by
      show u.toInt.toNat < 100000
      omega
    obtain ⟨rfl, rfl, rfl, rfl⟩ := am_nx_inv hx
    obtain ⟨r1, r2⟩ := hf.room (z := am_R t u.toNatClampNeg (fun _ => none)) rfl hkk
    refine va_newq (D := D) hexec hb hown (hts _ c2) (hAO C c3) hK hf.2.1.1 (am_ws_D b bs ac h) hf.2.2.1 (fun q hq => Nat.le_trans hbs hq) hn rfl (by omega) r1 r2 hd fun q cA H1 hK1 hP hD hS => ?_
    have hcA : cA = ac t := by
      have h1 : va_RA s cA (.object C) := (hK1.2 (am_tys ac tt).length (cA, .object C) (by simp)).2
      have h2 : va_RA s (ac t) (.object C) := (hK.2 t _ (am_tys_at c1)).2
      obtain ⟨-, -, -, -, -, g1⟩ := h1
      obtain ⟨-, -, -, -, -, g2⟩ := h2
      exact Option.some.inj (g1.symm.trans g2)
    subst hcA
    refine am_exactN hP hD hf.eq fun hq hz => ?_
    subst hq
    have hP : va_P D cl (am_ws b bs ac h ++ [(b + h.length, am_sE b bs ac (am_R t u.toNatClampNeg (fun _ => none)))]) H1 := hP
    rw [am_ws_push] at hP
    have e6 := kk _ _ _ _ _ (hf.push (k := u.toNatClampNeg) rfl hP hS hz hkk)
    simp only [List.map_cons, am_sv, am_ad_len hf hkk.1] at e6
    exact e6
  · cases hx
theorem am_n_objInit (hexec : p.tables.exec = Jvm.exec) (hb : c.code = cc) {ix : Nat} (hsp : am_sp P y ix = some 0) (hts : ∀ w ∈ TAB, w.before args s = true) (hown : s.vm.findClass (am_nm (am_me P y)).cls = some m.cls) (oS : am_okS P TAB) (hml : c.maxLocals = n) (hrf : am_rf (am_me P y) ≤ R.frames) (hrl : am_rl (am_me P y) ≤ R.locals) (hd : decode cc pc = .ok (.invokespecial ix, 3)) (hx : am_r1 st (fun _ r => if 1 ≤ am_rf (am_me P y) ∧ am_wd r + 12 ≤ am_rl (am_me P y) then am_nx (pc + 3) lo r h else none) = some (.inl (pc', lo', st', h'))) (hf : am_fr D cl b bs ac n KC KS R s ls H locs cells slots lo h)
    (kk : ∀ (ls' : Array Slot) (H' : Heap) (locs' : List Loc) (cells' slots' : Nat), am_fr D cl b bs ac n KC KS R s ls' H' locs' cells' slots' lo' h' → W p l e R s m args below meth c H' locs' cells' slots' Q (F0 m pc' ls' (st'.map (am_sv b bs)))) : W p l e R s m args below meth c H locs cells slots Q (F0 m pc ls (st.map (am_sv b bs))) := by
  obtain ⟨a, r, rfl, hy⟩ := am_r1_inv hx
  clear hx; have hx := hy; clear hy
  obtain ⟨⟨q1, q2⟩, hy⟩ := am_if_inv hx
  clear hx; have hx := hy; clear hy
  obtain ⟨rfl, rfl, rfl, rfl⟩ := am_nx_inv hx
  obtain ⟨w1, w2, w3⟩ := (oS y ix 0 hsp).1 rfl
  refine W.objInit hexec hb hown (hts _ w1) (hts _ w2) (hts _ w3) (g := F0 m pc ls ((Value.ref a :: r).map (am_sv b bs))) rfl (by rw [hml]; exact hf.1.1) (a := am_ad b bs a) (rest := r.map (am_sv b bs)) rfl hd (Nat.le_trans q1 hrf) ?_ (kk _ _ _ _ _ hf)
  rw [am_wd_sv]
  show 2 * 0 + _ + 12 ≤ _
  omega
theorem am_n_mmax (hexec : p.tables.exec = Jvm.exec) (hb : c.code = cc) {ix : Nat} (hsp : am_sp P y ix = some 1) (hts : ∀ w ∈ TAB, w.before args s = true) (hown : s.vm.findClass (am_nm (am_me P y)).cls = some m.cls) (oS : am_okS P TAB) (hml : c.maxLocals = n) (hrf : am_rf (am_me P y) ≤ R.frames) (hrl : am_rl (am_me P y) ≤ R.locals) (hd : decode cc pc = .ok (.invokestatic ix, 3)) (hx : am_i2 st (fun u v r => if 1 ≤ am_rf (am_me P y) ∧ am_wd r + 13 ≤ am_rl (am_me P y) then am_nx (pc + 3) lo (.int (if u < v then v else u) :: r) h else none) = some (.inl (pc', lo', st', h'))) (hf : am_fr D cl b bs ac n KC KS R s ls H locs cells slots lo h)
    (kk : ∀ (ls' : Array Slot) (H' : Heap) (locs' : List Loc) (cells' slots' : Nat), am_fr D cl b bs ac n KC KS R s ls' H' locs' cells' slots' lo' h' → W p l e R s m args below meth c H' locs' cells' slots' Q (F0 m pc' ls' (st'.map (am_sv b bs)))) : W p l e R s m args below meth c H locs cells slots Q (F0 m pc ls (st.map (am_sv b bs))) := by
  obtain ⟨u, v, r, rfl, hy⟩ := am_i2_inv hx
  clear hx; have hx := hy; clear hy
  obtain ⟨⟨q1, q2⟩, hy⟩ := am_if_inv hx
  clear hx; have hx := hy; clear hy
  obtain ⟨rfl, rfl, rfl, rfl⟩ := am_nx_inv hx
  obtain ⟨w1, w2, w3, w4⟩ := (oS y ix 1 hsp).2.1 rfl
  exact va_mmax hexec hb (by rw [hml]; exact hf.1.1.symm) hown (hts _ w1) (hts _ w2) (hts _ w3) (hts _ w4) (Nat.le_trans q1 hrf) (by rw [am_wd_sv]; omega) (Nat.le_trans (Nat.le_add_right _ _) hf.2.2.2.2.1.2) (Nat.le_trans (Nat.le_add_right _ _) hf.2.2.2.2.2.1.2) hd (kk _ _ _ _ _ hf)
theorem am_n_mmin (hexec : p.tables.exec = Jvm.exec) (hb : c.code = cc) {ix : Nat} (hsp : am_sp P y ix = some 2) (hts : ∀ w ∈ TAB, w.before args s = true) (hown : s.vm.findClass (am_nm (am_me P y)).cls = some m.cls) (oS : am_okS P TAB) (hml : c.maxLocals = n) (hrf : am_rf (am_me P y) ≤ R.frames) (hrl : am_rl (am_me P y) ≤ R.locals) (hd : decode cc pc = .ok (.invokestatic ix, 3)) (hx : am_i2 st (fun u v r => if 1 ≤ am_rf (am_me P y) ∧ am_wd r + 13 ≤ am_rl (am_me P y) then am_nx (pc + 3) lo (.int (if v < u then v else u) :: r) h else none) = some (.inl (pc', lo', st', h'))) (hf : am_fr D cl b bs ac n KC KS R s ls H locs cells slots lo h)
    (kk : ∀ (ls' : Array Slot) (H' : Heap) (locs' : List Loc) (cells' slots' : Nat), am_fr D cl b bs ac n KC KS R s ls' H' locs' cells' slots' lo' h' → W p l e R s m args below meth c H' locs' cells' slots' Q (F0 m pc' ls' (st'.map (am_sv b bs)))) : W p l e R s m args below meth c H locs cells slots Q (F0 m pc ls (st.map (am_sv b bs))) := by
  obtain ⟨u, v, r, rfl, hy⟩ := am_i2_inv hx
  clear hx; have hx := hy; clear hy
  obtain ⟨⟨q1, q2⟩, hy⟩ := am_if_inv hx
  clear hx; have hx := hy; clear hy
  obtain ⟨rfl, rfl, rfl, rfl⟩ := am_nx_inv hx
  obtain ⟨w1, w2, w3, w4⟩ := (oS y ix 2 hsp).2.2.1 rfl
  exact va_mmin hexec hb (by rw [hml]; exact hf.1.1.symm) hown (hts _ w1) (hts _ w2) (hts _ w3) (hts _ w4) (Nat.le_trans q1 hrf) (by rw [am_wd_sv]; omega) (Nat.le_trans (Nat.le_add_right _ _) hf.2.2.2.2.1.2) (Nat.le_trans (Nat.le_add_right _ _) hf.2.2.2.2.2.1.2) hd (kk _ _ _ _ _ hf)
theorem am_n_copy (hexec : p.tables.exec = Jvm.exec) (hb : c.code = cc) {ix : Nat} (hsp : am_sp P y ix = some 3) (hts : ∀ w ∈ TAB, w.before args s = true) (hown : s.vm.findClass (am_nm (am_me P y)).cls = some m.cls) (oS : am_okS P TAB) (hK : va_K D cl (am_tys ac tt) s) (oT : am_okT P cl tt) (hbs : b ≤ s.heap.size) (hml : c.maxLocals = n) (hrf : am_rf (am_me P y) ≤ R.frames) (hrl : am_rl (am_me P y) ≤ R.locals) (hd : decode cc pc = .ok (.invokestatic ix, 3)) (hx : am_cy st (fun a0 sp a1 dp k r => am_gI h a0 fun n0 f => am_gI h a1 fun n1 g =>
        if (0 ≤ sp.toInt ∧ 0 ≤ dp.toInt ∧ 0 ≤ k.toInt ∧ sp.toNatClampNeg + k.toNatClampNeg ≤ n0 ∧ dp.toNatClampNeg + k.toNatClampNeg ≤ n1) ∧ 1 ≤ am_rf (am_me P y) ∧ am_wd r + (nativeFrameWords "java/lang/System" "arraycopy" 5 + 11) ≤ am_rl (am_me P y) then
          am_nx (pc + 3) lo r (h.set a1 (am_I n1 (va_cpy f g sp.toNatClampNeg dp.toNatClampNeg k.toNatClampNeg))) else none) = some (.inl (pc', lo', st', h'))) (hf : am_fr D cl b bs ac n KC KS R s ls H locs cells slots lo h)
    (kk : ∀ (ls' : Array Slot) (H' : Heap) (locs' : List Loc) (cells' slots' : Nat), am_fr D cl b bs ac n KC KS R s ls' H' locs' cells' slots' lo' h' → W p l e R s m args below meth c H' locs' cells' slots' Q (F0 m pc' ls' (st'.map (am_sv b bs)))) : W p l e R s m args below meth c H locs cells slots Q (F0 m pc ls (st.map (am_sv b bs))) := by
  obtain ⟨a0, sp, a1, dp, k, r, rfl, hy⟩ := am_cy_inv hx
  clear hx; have hx := hy; clear hy
  obtain ⟨n0, f, ha0, hy⟩ := am_gI_inv hx
  clear hx; have hx := hy; clear hy
  obtain ⟨n1, g, ha1, hy⟩ := am_gI_inv hx
  clear hx; have hx := hy; clear hy
  obtain ⟨⟨⟨k1, k2, k3, k4, k5⟩, q1, q2⟩, hy⟩ := am_if_inv hx
  clear hx; have hx := hy; clear hy
  obtain ⟨rfl, rfl, rfl, rfl⟩ := am_nx_inv hx
  have nn : ∀ u : Int32, 0 ≤ u.toInt → ¬ u < 0 := by
    intro u hu q
    have := Int32.lt_iff_toInt_lt.mp q
    simp at this
    omega
  obtain ⟨w1, w2, w3, w4⟩ := (oS y ix 3 hsp).2.2.2.1 rfl
  have e2 : (Value.int k :: .int dp :: Value.ref a1 :: .int sp :: Value.ref a0 :: r).map (am_sv b bs) = .int k :: .int dp :: .ref (b + a1) :: .int sp :: .ref (b + a0) :: r.map (am_sv b bs) := by simp [am_sv, hf.ad ha0, hf.ad ha1]
  rw [e2]
  refine va_copyi (D := D) (ty := .int) hexec hb (by rw [hml]; exact hf.1.1.symm) hown (hts _ w1) (hts _ w2) (hts _ w3) (hts _ w4) hK hf.2.1.1 (am_ws_D b bs ac h) hf.2.2.1 a0 a1 0 0 (am_ws_get ha0) (am_ws_get ha1) (am_tys_at oT.1) (am_tys_at oT.1) rfl (nn sp k1) (nn dp k2) (nn k k3) k4 k5 (fun _ _ => rfl) (Nat.le_trans q1 hrf) (by rw [am_wd_sv]; omega) hd fun H1 locs1 hP _ hS => ?_
  have hP : va_P D cl ((am_ws b bs ac h).set a1 (b + a1, am_sE b bs ac (am_I n1 (va_cpy f g sp.toNatClampNeg dp.toNatClampNeg k.toNatClampNeg)))) H1 := hP
  rw [am_ws_set] at hP
  exact am_exact hP hS.1 hbs (by rw [List.length_set]; exact hf.eq) fun hz => kk _ _ _ _ _ (hf.put ha1 rfl hP hS hz)
theorem am_n_ldc_w (hexec : p.tables.exec = Jvm.exec) (hb : c.code = cc) {ix : Nat} (hts : ∀ w ∈ TAB, w.before args s = true) (hown : s.vm.findClass (am_nm (am_me P y)).cls = some m.cls) (oK : am_okL P TAB) (hd : decode cc pc = .ok (.ldc_w ix, 3)) (hx : (match am_kc P y ix with
    | some v => am_nx (pc + 3) lo (.int v :: st) h
    | none => none) = some (.inl (pc', lo', st', h'))) (hf : am_fr D cl b bs ac n KC KS R s ls H locs cells slots lo h)
    (kk : ∀ (ls' : Array Slot) (H' : Heap) (locs' : List Loc) (cells' slots' : Nat), am_fr D cl b bs ac n KC KS R s ls' H' locs' cells' slots' lo' h' → W p l e R s m args below meth c H' locs' cells' slots' Q (F0 m pc' ls' (st'.map (am_sv b bs)))) : W p l e R s m args below meth c H locs cells slots Q (F0 m pc ls (st.map (am_sv b bs))) := by
  split at hx
  · rename_i v hv
    obtain ⟨rfl, rfl, rfl, rfl⟩ := am_nx_inv hx
    exact lv_ldcw hexec hb hown (hts _ (oK y ix v hv)) hd (kk _ _ _ _ _ hf)
  · cases hx
theorem am_n_clone (hexec : p.tables.exec = Jvm.exec) (hb : c.code = cc) {ix : Nat} (hsp : am_sp P y ix = some 4) (hts : ∀ w ∈ TAB, w.before args s = true) (hown : s.vm.findClass (am_nm (am_me P y)).cls = some m.cls) (oS : am_okS P TAB) (hcc : va_Nw (.castable "[I" "java/lang/Cloneable") s) (hK : va_K D cl (am_tys ac tt) s) (oT : am_okT P cl tt) (hbs : b ≤ s.heap.size) (hml : c.maxLocals = n) (hrf : am_rf (am_me P y) ≤ R.frames) (hrl : am_rl (am_me P y) ≤ R.locals) (hkk : h'.length ≤ KC ∧ am_sl h' ≤ KS) (hd : decode cc pc = .ok (.invokevirtual ix, 3)) (hx : am_r1 st (fun a r => am_gI h a fun n f => if 1 ≤ am_rf (am_me P y) ∧ am_wd r + 14 ≤ am_rl (am_me P y) then am_nx (pc + 3) lo (.ref h.length :: r) (h ++ [am_I n f]) else none) = some (.inl (pc', lo', st', h'))) (hf : am_fr D cl b bs ac n KC KS R s ls H locs cells slots lo h)
    (kk : ∀ (ls' : Array Slot) (H' : Heap) (locs' : List Loc) (cells' slots' : Nat), am_fr D cl b bs ac n KC KS R s ls' H' locs' cells' slots' lo' h' → W p l e R s m args below meth c H' locs' cells' slots' Q (F0 m pc' ls' (st'.map (am_sv b bs)))) : W p l e R s m args below meth c H locs cells slots Q (F0 m pc ls (st.map (am_sv b bs))) := by
  obtain ⟨a, r, rfl, hy⟩ := am_r1_inv hx
  clear hx; have hx := hy; clear hy
  obtain ⟨k, f, ha, hy⟩ := am_gI_inv hx
  clear hx; have hx := hy; clear hy
  obtain ⟨⟨q1, q2⟩, hy⟩ := am_if_inv hx
  clear hx; have hx := hy; clear hy
  obtain ⟨rfl, rfl, rfl, rfl⟩ := am_nx_inv hx
  obtain ⟨w1, w2, w3, w4, w5⟩ := (oS y ix 4 hsp).2.2.2.2.1 rfl
  obtain ⟨r1, r2⟩ := hf.room (z := am_I k f) (k := k) rfl hkk
  have e2 : (Value.ref a :: r).map (am_sv b bs) = .ref (b + a) :: r.map (am_sv b bs) := by simp [am_sv, hf.ad ha]
  rw [e2]
  have hRA : va_RA s (ac 0) .int := (hK.2 0 _ (am_tys_at oT.1)).2
  refine va_clone (D := D) (x := (k, .inl f)) hexec hb (by rw [hml]; exact hf.1.1.symm) hown (hts _ w1) (hts _ w2) (hts _ w3) (hts _ w4) (hts _ w5) hcc hK hf.2.1.1 (am_ws_D b bs ac h) hf.2.2.1 (fun q hq => Nat.le_trans hbs hq) a 0 (am_ws_get ha) (am_tys_at oT.1) (va_nm_int hRA) (fun i v hv => ?_) (Nat.le_trans q1 hrf) (by rw [am_wd_sv]; omega) r1 r2 hd fun q H1 hK1 hP hD hS => ?_
  · have hz : (vp_cell (ac 0) (k, .inl f)).slots[i]? = some v := hv
    have hi : i < k := by
      have := (Array.getElem?_eq_some_iff.mp hz).1
      rw [vp_cell_i, arrV_size] at this
      exact this
    rw [vp_cell_i, arrV_read _ _ hi] at hz
    cases hz
    rfl
  · refine am_exactN hP hD hf.eq fun hq hz => ?_
    subst hq
    have hP : va_P D cl (am_ws b bs ac h ++ [(b + h.length, am_sE b bs ac (am_I k f))]) H1 := hP
    rw [am_ws_push] at hP
    have e6 := kk _ _ _ _ _ (hf.push (k := k) rfl hP hS hz hkk)
    simp only [List.map_cons, am_sv, am_ad_len hf hkk.1] at e6
    exact e6
theorem am_n_castA (hexec : p.tables.exec = Jvm.exec) (hb : c.code = cc) {ix : Nat} (hsp : am_sp P y ix = some 5) (hts : ∀ w ∈ TAB, w.before args s = true) (hown : s.vm.findClass (am_nm (am_me P y)).cls = some m.cls) (oS : am_okS P TAB) (hK : va_K D cl (am_tys ac tt) s) (oT : am_okT P cl tt) (hd : decode cc pc = .ok (.checkcast ix, 3)) (hx : am_r1 st (fun a r => am_gI h a fun _ _ => am_nx (pc + 3) lo (.ref a :: r) h) = some (.inl (pc', lo', st', h'))) (hf : am_fr D cl b bs ac n KC KS R s ls H locs cells slots lo h)
    (kk : ∀ (ls' : Array Slot) (H' : Heap) (locs' : List Loc) (cells' slots' : Nat), am_fr D cl b bs ac n KC KS R s ls' H' locs' cells' slots' lo' h' → W p l e R s m args below meth c H' locs' cells' slots' Q (F0 m pc' ls' (st'.map (am_sv b bs)))) : W p l e R s m args below meth c H locs cells slots Q (F0 m pc ls (st.map (am_sv b bs))) := by
  obtain ⟨a, r, rfl, hy⟩ := am_r1_inv hx
  clear hx; have hx := hy; clear hy
  obtain ⟨k, f, ha, hy⟩ := am_gI_inv hx
  clear hx; have hx := hy; clear hy
  obtain ⟨rfl, rfl, rfl, rfl⟩ := am_nx_inv hx
  have w1 := (oS y ix 5 hsp).2.2.2.2.2 rfl
  have e2 : (Value.ref a :: r).map (am_sv b bs) = .ref (b + a) :: r.map (am_sv b bs) := by simp [am_sv, hf.ad ha]
  have e3 := kk _ _ _ _ _ hf
  rw [e2] at e3 ⊢
  exact va_castA (D := D) hexec hb hown (hts _ w1) hf.2.1.1 a (am_ws_get ha) (va_nm_int (hK.2 0 _ (am_tys_at oT.1)).2) hd e3
end AU
