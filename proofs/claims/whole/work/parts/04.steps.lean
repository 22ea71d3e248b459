/-! Each step of the abstract machine that goes on is a step of the real one. -/
section AS
theorem am_nx_inv {pc pc' : Nat} {lo lo' : am_L} {st st' : List Value} {h h' : am_H} (hx : am_nx pc lo st h = some (.inl (pc', lo', st', h'))) : pc = pc' ∧ lo = lo' ∧ st = st' ∧ h = h' := by
  unfold am_nx at hx
  cases hx
  exact ⟨rfl, rfl, rfl, rfl⟩
theorem am_i1_inv {st : List Value} {k : Int32 → List Value → Option am_O} {o : am_O} (hx : am_i1 st k = some o) : ∃ (x : Int32) (r : List Value), st = .int x :: r ∧ k x r = some o := by
  unfold am_i1 at hx
  split at hx
  · exact ⟨_, _, rfl, hx⟩
  · cases hx
theorem am_i2_inv {st : List Value} {k : Int32 → Int32 → List Value → Option am_O} {o : am_O} (hx : am_i2 st k = some o) : ∃ (x y : Int32) (r : List Value), st = .int y :: .int x :: r ∧ k x y r = some o := by
  unfold am_i2 at hx
  split at hx
  · exact ⟨_, _, _, rfl, hx⟩
  · cases hx
theorem am_j2_inv {st : List Value} {k : Int64 → Int64 → List Value → Option am_O} {o : am_O} (hx : am_j2 st k = some o) : ∃ (x y : Int64) (r : List Value), st = .long y :: .long x :: r ∧ k x y r = some o := by
  unfold am_j2 at hx
  split at hx
  · exact ⟨_, _, _, rfl, hx⟩
  · cases hx
theorem am_ij_inv {st : List Value} {k : Int64 → Int32 → List Value → Option am_O} {o : am_O} (hx : am_ij st k = some o) : ∃ (x : Int64) (y : Int32) (r : List Value), st = .int y :: .long x :: r ∧ k x y r = some o := by
  unfold am_ij at hx
  split at hx
  · exact ⟨_, _, _, rfl, hx⟩
  · cases hx
theorem am_r1_inv {st : List Value} {k : Nat → List Value → Option am_O} {o : am_O} (hx : am_r1 st k = some o) : ∃ (a : Nat) (r : List Value), st = .ref a :: r ∧ k a r = some o := by
  unfold am_r1 at hx
  split at hx
  · exact ⟨_, _, rfl, hx⟩
  · cases hx
theorem am_ir_inv {st : List Value} {k : Int32 → Nat → List Value → Option am_O} {o : am_O} (hx : am_ir st k = some o) : ∃ (i : Int32) (a : Nat) (r : List Value), st = .int i :: .ref a :: r ∧ k i a r = some o := by
  unfold am_ir at hx
  split at hx
  · exact ⟨_, _, _, rfl, hx⟩
  · cases hx
theorem am_vr_inv {st : List Value} {k : Value → Nat → List Value → Option am_O} {o : am_O} (hx : am_vr st k = some o) : ∃ (v : Value) (a : Nat) (r : List Value), st = v :: .ref a :: r ∧ k v a r = some o := by
  unfold am_vr at hx
  split at hx
  · exact ⟨_, _, _, rfl, hx⟩
  · cases hx
theorem am_vir_inv {st : List Value} {k : Value → Int32 → Nat → List Value → Option am_O} {o : am_O} (hx : am_vir st k = some o) : ∃ (v : Value) (i : Int32) (a : Nat) (r : List Value), st = v :: .int i :: .ref a :: r ∧ k v i a r = some o := by
  unfold am_vir at hx
  split at hx
  · exact ⟨_, _, _, _, rfl, hx⟩
  · cases hx
theorem am_cy_inv {st : List Value} {k : Nat → Int32 → Nat → Int32 → Int32 → List Value → Option am_O} {o : am_O} (hx : am_cy st k = some o) : ∃ (a0 : Nat) (sp : Int32) (a1 : Nat) (dp n : Int32) (r : List Value), st = .int n :: .int dp :: .ref a1 :: .int sp :: .ref a0 :: r ∧ k a0 sp a1 dp n r = some o := by
  unfold am_cy at hx
  split at hx
  · exact ⟨_, _, _, _, _, _, rfl, hx⟩
  · cases hx
theorem am_gI_inv {h : am_H} {a : Nat} {k : Nat → (Nat → Int32) → Option am_O} {o : am_O} (hx : am_gI h a k = some o) : ∃ (n : Nat) (f : Nat → Int32), h[a]? = some (am_I n f) ∧ k n f = some o := by
  unfold am_gI at hx
  split at hx
  · rename_i he
    exact ⟨_, _, he, hx⟩
  · cases hx
theorem am_gJ_inv {h : am_H} {a : Nat} {k : Nat → (Nat → Int64) → Option am_O} {o : am_O} (hx : am_gJ h a k = some o) : ∃ (n : Nat) (f : Nat → Int64), h[a]? = some (am_J n f) ∧ k n f = some o := by
  unfold am_gJ at hx
  split at hx
  · rename_i he
    exact ⟨_, _, he, hx⟩
  · cases hx
theorem am_gZ_inv {h : am_H} {a : Nat} {k : Nat → (Nat → Int32) → Option am_O} {o : am_O} (hx : am_gZ h a k = some o) : ∃ (n : Nat) (f : Nat → Int32), h[a]? = some (am_Z n f) ∧ k n f = some o := by
  unfold am_gZ at hx
  split at hx
  · rename_i he
    exact ⟨_, _, he, hx⟩
  · cases hx
theorem am_gR_inv {h : am_H} {a : Nat} {k : Nat → Nat → (Nat → Option Nat) → Option am_O} {o : am_O} (hx : am_gR h a k = some o) : ∃ (t n : Nat) (g : Nat → Option Nat), h[a]? = some (am_R t n g) ∧ k t n g = some o := by
  unfold am_gR at hx
  split at hx
  · rename_i he
    exact ⟨_, _, _, he, hx⟩
  · cases hx
theorem am_gB_inv {h : am_H} {a : Nat} {k : Nat → List Value → Option am_O} {o : am_O} (hx : am_gB h a k = some o) : ∃ (c : Nat) (fs : List Value), h[a]? = some (am_B c fs) ∧ k c fs = some o := by
  unfold am_gB at hx
  split at hx
  · rename_i he
    exact ⟨_, _, he, hx⟩
  · cases hx
theorem am_to_inv {pc : Nat} {off : Int} {k : Nat → Option am_O} {o : am_O} (hx : am_to pc off k = some o) : ∃ t : Nat, (pc : Int) + off = (t : Int) ∧ k t = some o := by
  unfold am_to at hx
  split at hx
  · rename_i h0
    exact ⟨_, (Int.toNat_of_nonneg h0).symm, hx⟩
  · cases hx
theorem am_if_inv {c : Prop} [Decidable c] {x : Option am_O} {o : am_O} (hx : (if c then x else none) = some o) : c ∧ x = some o := by
  split at hx
  · rename_i h
    exact ⟨h, hx⟩
  · cases hx
theorem am_vin {i : Int32} {n : Nat} (h : am_in i n = true) : vp_in i n := by
  unfold am_in at h
  simp only [Bool.and_eq_true, decide_eq_true_eq] at h
  exact vp_in_iff.mpr h
def am_tys (ac : Nat → ClassId) (tt : List FieldType) : List (ClassId × FieldType) := tt.mapIdx (fun t ty => (ac t, ty))
theorem am_tys_at {ac : Nat → ClassId} {tt : List FieldType} {t : Nat} {ty : FieldType} (h : tt[t]? = some ty) : (am_tys ac tt)[t]? = some (ac t, ty) := by
  unfold am_tys
  rw [List.getElem?_mapIdx, h]
  rfl
/-- the real frame beside the abstract one: KC and KS are the cells and slots of the abstract heap at the run's end -/
def am_fr (D : va_G) (cl : List vw_C) (b bs : Nat) (ac : Nat → ClassId) (n KC KS : Nat) (R : Room) (s : State) (ls : Array Slot) (H : Heap) (locs : List Loc) (cells slots : Nat) (lo : am_L) (h : am_H) : Prop :=
  am_LR b bs n ls lo ∧ am_HR D cl b bs ac h H ∧ va_S (fun q => b ≤ q) s.heap H locs ∧ s.heap.size + cells = H.size ∧ (h.length ≤ KC ∧ cells + (KC - h.length) ≤ R.cells) ∧ (am_sl h ≤ KS ∧ slots + (KS - am_sl h) ≤ R.slots) ∧ KC ≤ am_scr
/-- what the tables say of fields -/
def am_okF (P : am_P) (TAB : List Cond) (cl : List vw_C) : Prop := ∀ (y ix ci k : Nat) (ty : FieldType) (wr : Bool), am_fd P y ix = some (ci, k, ty, wr) → ∃ (C : String) (T : u_T) (N : Nat), cl[ci]? = some (C, T, N) ∧ k < N ∧ Cond.fieldLink (am_nm (am_me P y)).cls ix (T k).1 (T k).2.1 (T k).2.2.1 ∈ TAB ∧ parseFieldDescriptor (T k).2.2.1 = some ty ∧ (wr = true → (T k).2.2.2 = false ∨ ((T k).2.2.2 = true ∧ (am_nm (am_me P y)).name = "<init>" ∧ (T k).1 = (am_nm (am_me P y)).cls))
/-- .. of classes -/
def am_okC (TAB : List Cond) (cl : List vw_C) : Prop := ∀ (ci : Nat) (C : String) (T : u_T) (N : Nat), cl[ci]? = some (C, T, N) → (∀ w ∈ u_ws C T N, w ∈ TAB) ∧ (∃ ty0 : Nat → FieldType, ∀ k, k < N → parseFieldDescriptor (T k).2.2.1 = some (ty0 k)) ∧ ∀ x, x < N → ∀ z, z < N → x ≠ z → (T x).2.1 ≠ (T z).2.1
/-- .. of types of arrays -/
def am_okT (P : am_P) (cl : List vw_C) (tt : List FieldType) : Prop := tt[0]? = some .int ∧ tt[1]? = some .long ∧ tt[2]? = some .boolean ∧ tt.length = 5 ∧ ∀ t : Nat, 2 < t → ∀ ty, tt[t]? = some ty → ∃ (C : String) (T : u_T) (N : Nat), ty = .object C ∧ cl[am_cp P t]? = some (C, T, N)
variable {P : am_P} {TAB : List Cond} {cl : List vw_C} {tt : List FieldType} {D : va_G} {ac : Nat → ClassId} {b bs n KC KS y pc pc' len : Nat} {lo lo' : am_L} {st st' : List Value} {h h' : am_H}
variable {p : Program} {l : Launch} {e : Env} {R : Room} {s : State} {m : MethodId} {args : Array Value} {below : List Frame} {meth : Method} {c : Code} {ls : Array Slot} {H : Heap} {locs : List Loc} {cells slots : Nat} {Q : State → Prop} {cc : ByteArray}

theorem am_n_iconst (hexec : p.tables.exec = Jvm.exec) (hb : c.code = cc) {k : Int} (hd : decode cc pc = .ok (.iconst k, 1)) (hx : am_nx (pc + 1) lo (.int (Int32.ofInt k) :: st) h = some (.inl (pc', lo', st', h'))) (hf : am_fr D cl b bs ac n KC KS R s ls H locs cells slots lo h) 
    (kk : ∀ (ls' : Array Slot) (H' : Heap) (locs' : List Loc) (cells' slots' : Nat), am_fr D cl b bs ac n KC KS R s ls' H' locs' cells' slots' lo' h' → W p l e R s m args below meth c H' locs' cells' slots' Q (F0 m pc' ls' (st'.map (am_sv b bs)))) : W p l e R s m args below meth c H locs cells slots Q (F0 m pc ls (st.map (am_sv b bs))) := by
  obtain ⟨rfl, rfl, rfl, rfl⟩ := am_nx_inv hx
  exact lv_iconst hexec hb hd rfl (kk _ _ _ _ _ hf)
theorem am_n_bipush (hexec : p.tables.exec = Jvm.exec) (hb : c.code = cc) {k : Int} (hd : decode cc pc = .ok (.bipush k, 2)) (hx : am_nx (pc + 2) lo (.int (Int8.ofInt k).toInt32 :: st) h = some (.inl (pc', lo', st', h'))) (hf : am_fr D cl b bs ac n KC KS R s ls H locs cells slots lo h) 
    (kk : ∀ (ls' : Array Slot) (H' : Heap) (locs' : List Loc) (cells' slots' : Nat), am_fr D cl b bs ac n KC KS R s ls' H' locs' cells' slots' lo' h' → W p l e R s m args below meth c H' locs' cells' slots' Q (F0 m pc' ls' (st'.map (am_sv b bs)))) : W p l e R s m args below meth c H locs cells slots Q (F0 m pc ls (st.map (am_sv b bs))) := by
  obtain ⟨rfl, rfl, rfl, rfl⟩ := am_nx_inv hx
  exact lv_bipush hexec hb hd rfl (kk _ _ _ _ _ hf)
theorem am_n_sipush (hexec : p.tables.exec = Jvm.exec) (hb : c.code = cc) {k : Int} (hd : decode cc pc = .ok (.sipush k, 3)) (hx : am_nx (pc + 3) lo (.int (Int16.ofInt k).toInt32 :: st) h = some (.inl (pc', lo', st', h'))) (hf : am_fr D cl b bs ac n KC KS R s ls H locs cells slots lo h) 
    (kk : ∀ (ls' : Array Slot) (H' : Heap) (locs' : List Loc) (cells' slots' : Nat), am_fr D cl b bs ac n KC KS R s ls' H' locs' cells' slots' lo' h' → W p l e R s m args below meth c H' locs' cells' slots' Q (F0 m pc' ls' (st'.map (am_sv b bs)))) : W p l e R s m args below meth c H locs cells slots Q (F0 m pc ls (st.map (am_sv b bs))) := by
  obtain ⟨rfl, rfl, rfl, rfl⟩ := am_nx_inv hx
  exact lv_sipush hexec hb hd rfl (kk _ _ _ _ _ hf)
theorem am_n_lconst (hexec : p.tables.exec = Jvm.exec) (hb : c.code = cc) {k : Fin 2} (hd : decode cc pc = .ok (.lconst k, 1)) (hx : am_nx (pc + 1) lo (.long (Int64.ofNat (k : Nat)) :: st) h = some (.inl (pc', lo', st', h'))) (hf : am_fr D cl b bs ac n KC KS R s ls H locs cells slots lo h) 
    (kk : ∀ (ls' : Array Slot) (H' : Heap) (locs' : List Loc) (cells' slots' : Nat), am_fr D cl b bs ac n KC KS R s ls' H' locs' cells' slots' lo' h' → W p l e R s m args below meth c H' locs' cells' slots' Q (F0 m pc' ls' (st'.map (am_sv b bs)))) : W p l e R s m args below meth c H locs cells slots Q (F0 m pc ls (st.map (am_sv b bs))) := by
  obtain ⟨rfl, rfl, rfl, rfl⟩ := am_nx_inv hx
  exact lv_lconst hexec hb hd rfl (kk _ _ _ _ _ hf)
theorem am_n_aconst_null (hexec : p.tables.exec = Jvm.exec) (hb : c.code = cc)  (hd : decode cc pc = .ok (.aconst_null, 1)) (hx : am_nx (pc + 1) lo (.null :: st) h = some (.inl (pc', lo', st', h'))) (hf : am_fr D cl b bs ac n KC KS R s ls H locs cells slots lo h) 
    (kk : ∀ (ls' : Array Slot) (H' : Heap) (locs' : List Loc) (cells' slots' : Nat), am_fr D cl b bs ac n KC KS R s ls' H' locs' cells' slots' lo' h' → W p l e R s m args below meth c H' locs' cells' slots' Q (F0 m pc' ls' (st'.map (am_sv b bs)))) : W p l e R s m args below meth c H locs cells slots Q (F0 m pc ls (st.map (am_sv b bs))) := by
  obtain ⟨rfl, rfl, rfl, rfl⟩ := am_nx_inv hx
  exact lv_null hexec hb hd (kk _ _ _ _ _ hf)
theorem am_n_iload (hexec : p.tables.exec = Jvm.exec) (hb : c.code = cc) {k : Nat} (hd : decode cc pc = .ok (.iload k, 2)) (hx : am_li (pc + 2) k lo st h = some (.inl (pc', lo', st', h'))) (hf : am_fr D cl b bs ac n KC KS R s ls H locs cells slots lo h) 
    (kk : ∀ (ls' : Array Slot) (H' : Heap) (locs' : List Loc) (cells' slots' : Nat), am_fr D cl b bs ac n KC KS R s ls' H' locs' cells' slots' lo' h' → W p l e R s m args below meth c H' locs' cells' slots' Q (F0 m pc' ls' (st'.map (am_sv b bs)))) : W p l e R s m args below meth c H locs cells slots Q (F0 m pc ls (st.map (am_sv b bs))) := by
  unfold am_li at hx
  split at hx
  · rename_i hk
    obtain ⟨rfl, rfl, rfl, rfl⟩ := am_nx_inv hx
    exact lv_iload hexec hb hd (hf.1.2.2.2 _ _ hk) (kk _ _ _ _ _ hf)
  · cases hx
theorem am_n_iload_n (hexec : p.tables.exec = Jvm.exec) (hb : c.code = cc) {k : Fin 4} (hd : decode cc pc = .ok (.iload_n k, 1)) (hx : am_li (pc + 1) k lo st h = some (.inl (pc', lo', st', h'))) (hf : am_fr D cl b bs ac n KC KS R s ls H locs cells slots lo h) 
    (kk : ∀ (ls' : Array Slot) (H' : Heap) (locs' : List Loc) (cells' slots' : Nat), am_fr D cl b bs ac n KC KS R s ls' H' locs' cells' slots' lo' h' → W p l e R s m args below meth c H' locs' cells' slots' Q (F0 m pc' ls' (st'.map (am_sv b bs)))) : W p l e R s m args below meth c H locs cells slots Q (F0 m pc ls (st.map (am_sv b bs))) := by
  unfold am_li at hx
  split at hx
  · rename_i hk
    obtain ⟨rfl, rfl, rfl, rfl⟩ := am_nx_inv hx
    exact lv_iload_n hexec hb hd rfl (hf.1.2.2.2 _ _ hk) (kk _ _ _ _ _ hf)
  · cases hx
theorem am_n_lload (hexec : p.tables.exec = Jvm.exec) (hb : c.code = cc) {k : Nat} (hd : decode cc pc = .ok (.lload k, 2)) (hx : am_lj (pc + 2) k lo st h = some (.inl (pc', lo', st', h'))) (hf : am_fr D cl b bs ac n KC KS R s ls H locs cells slots lo h) 
    (kk : ∀ (ls' : Array Slot) (H' : Heap) (locs' : List Loc) (cells' slots' : Nat), am_fr D cl b bs ac n KC KS R s ls' H' locs' cells' slots' lo' h' → W p l e R s m args below meth c H' locs' cells' slots' Q (F0 m pc' ls' (st'.map (am_sv b bs)))) : W p l e R s m args below meth c H locs cells slots Q (F0 m pc ls (st.map (am_sv b bs))) := by
  unfold am_lj at hx
  split at hx
  · rename_i hk
    obtain ⟨rfl, rfl, rfl, rfl⟩ := am_nx_inv hx
    exact lv_lload hexec hb hd (hf.1.2.2.2 _ _ hk) (kk _ _ _ _ _ hf)
  · cases hx
theorem am_n_lload_n (hexec : p.tables.exec = Jvm.exec) (hb : c.code = cc) {k : Fin 4} (hd : decode cc pc = .ok (.lload_n k, 1)) (hx : am_lj (pc + 1) k lo st h = some (.inl (pc', lo', st', h'))) (hf : am_fr D cl b bs ac n KC KS R s ls H locs cells slots lo h) 
    (kk : ∀ (ls' : Array Slot) (H' : Heap) (locs' : List Loc) (cells' slots' : Nat), am_fr D cl b bs ac n KC KS R s ls' H' locs' cells' slots' lo' h' → W p l e R s m args below meth c H' locs' cells' slots' Q (F0 m pc' ls' (st'.map (am_sv b bs)))) : W p l e R s m args below meth c H locs cells slots Q (F0 m pc ls (st.map (am_sv b bs))) := by
  unfold am_lj at hx
  split at hx
  · rename_i hk
    obtain ⟨rfl, rfl, rfl, rfl⟩ := am_nx_inv hx
    exact lv_lload_n hexec hb hd rfl (hf.1.2.2.2 _ _ hk) (kk _ _ _ _ _ hf)
  · cases hx
theorem am_n_aload (hexec : p.tables.exec = Jvm.exec) (hb : c.code = cc) {k : Nat} (hd : decode cc pc = .ok (.aload k, 2)) (hx : am_la (pc + 2) k lo st h = some (.inl (pc', lo', st', h'))) (hf : am_fr D cl b bs ac n KC KS R s ls H locs cells slots lo h) 
    (kk : ∀ (ls' : Array Slot) (H' : Heap) (locs' : List Loc) (cells' slots' : Nat), am_fr D cl b bs ac n KC KS R s ls' H' locs' cells' slots' lo' h' → W p l e R s m args below meth c H' locs' cells' slots' Q (F0 m pc' ls' (st'.map (am_sv b bs)))) : W p l e R s m args below meth c H locs cells slots Q (F0 m pc ls (st.map (am_sv b bs))) := by
  unfold am_la at hx
  split at hx
  · rename_i hk
    obtain ⟨rfl, rfl, rfl, rfl⟩ := am_nx_inv hx
    exact lv_aload hexec hb hd (hf.1.2.2.2 _ _ hk) (kk _ _ _ _ _ hf)
  · rename_i hk
    obtain ⟨rfl, rfl, rfl, rfl⟩ := am_nx_inv hx
    exact lv_aloadN hexec hb hd (hf.1.2.2.2 _ _ hk) (kk _ _ _ _ _ hf)
  · cases hx
theorem am_n_aload_n (hexec : p.tables.exec = Jvm.exec) (hb : c.code = cc) {k : Fin 4} (hd : decode cc pc = .ok (.aload_n k, 1)) (hx : am_la (pc + 1) k lo st h = some (.inl (pc', lo', st', h'))) (hf : am_fr D cl b bs ac n KC KS R s ls H locs cells slots lo h) 
    (kk : ∀ (ls' : Array Slot) (H' : Heap) (locs' : List Loc) (cells' slots' : Nat), am_fr D cl b bs ac n KC KS R s ls' H' locs' cells' slots' lo' h' → W p l e R s m args below meth c H' locs' cells' slots' Q (F0 m pc' ls' (st'.map (am_sv b bs)))) : W p l e R s m args below meth c H locs cells slots Q (F0 m pc ls (st.map (am_sv b bs))) := by
  unfold am_la at hx
  split at hx
  · rename_i hk
    obtain ⟨rfl, rfl, rfl, rfl⟩ := am_nx_inv hx
    exact lv_aload_n hexec hb hd rfl (hf.1.2.2.2 _ _ hk) (kk _ _ _ _ _ hf)
  · rename_i hk
    obtain ⟨rfl, rfl, rfl, rfl⟩ := am_nx_inv hx
    exact lv_aload_nN hexec hb hd rfl (hf.1.2.2.2 _ _ hk) (kk _ _ _ _ _ hf)
  · cases hx
theorem am_s1_inv {k : Nat} {v : Value} {r : List Value} (hx : am_s1 pc' k v lo r h = some (.inl (pc, lo', st', h'))) : (k < lo.length ∧ am_pv lo k = true ∧ v.category = 1) ∧ pc' = pc ∧ lo' = lo.set k (some v) ∧ st' = r ∧ h' = h := by
  unfold am_s1 at hx
  obtain ⟨hc, hy⟩ := am_if_inv hx
  clear hx; have hx := hy; clear hy
  obtain ⟨rfl, rfl, rfl, rfl⟩ := am_nx_inv hx
  simp only [Bool.and_eq_true, decide_eq_true_eq, beq_iff_eq] at hc
  exact ⟨⟨hc.1.1, hc.1.2, hc.2⟩, rfl, rfl, rfl, rfl⟩
theorem am_s2_inv {k : Nat} {v : Value} {r : List Value} (hx : am_s2 pc' k v lo r h = some (.inl (pc, lo', st', h'))) : (k + 1 < lo.length ∧ am_pv lo k = true ∧ v.category = 2) ∧ pc' = pc ∧ lo' = (lo.set k (some v)).set (k + 1) none ∧ st' = r ∧ h' = h := by
  unfold am_s2 at hx
  obtain ⟨hc, hy⟩ := am_if_inv hx
  clear hx; have hx := hy; clear hy
  obtain ⟨rfl, rfl, rfl, rfl⟩ := am_nx_inv hx
  simp only [Bool.and_eq_true, decide_eq_true_eq, beq_iff_eq] at hc
  exact ⟨⟨hc.1.1, hc.1.2, hc.2⟩, rfl, rfl, rfl, rfl⟩
theorem am_n_istore (hexec : p.tables.exec = Jvm.exec) (hb : c.code = cc) {k : Nat} (hd : decode cc pc = .ok (.istore k, 2)) (hx : am_si (pc + 2) k lo st h = some (.inl (pc', lo', st', h'))) (hf : am_fr D cl b bs ac n KC KS R s ls H locs cells slots lo h) 
    (kk : ∀ (ls' : Array Slot) (H' : Heap) (locs' : List Loc) (cells' slots' : Nat), am_fr D cl b bs ac n KC KS R s ls' H' locs' cells' slots' lo' h' → W p l e R s m args below meth c H' locs' cells' slots' Q (F0 m pc' ls' (st'.map (am_sv b bs)))) : W p l e R s m args below meth c H locs cells slots Q (F0 m pc ls (st.map (am_sv b bs))) := by
  unfold am_si at hx
  split at hx
  · obtain ⟨⟨h1, h2, -⟩, rfl, rfl, rfl, rfl⟩ := am_s1_inv hx
    refine lv_istore hexec hb hd hf.1.has (by rw [← hf.1.2.1]; exact h1) rfl fun ls' hl' => kk _ _ _ _ _ ⟨hf.1.st1 h2 (fun v hv => by cases hv; rfl) hl', hf.2⟩
  · cases hx
theorem am_n_astore (hexec : p.tables.exec = Jvm.exec) (hb : c.code = cc) {k : Nat} (hd : decode cc pc = .ok (.astore k, 2)) (hx : am_sa (pc + 2) k lo st h = some (.inl (pc', lo', st', h'))) (hf : am_fr D cl b bs ac n KC KS R s ls H locs cells slots lo h) 
    (kk : ∀ (ls' : Array Slot) (H' : Heap) (locs' : List Loc) (cells' slots' : Nat), am_fr D cl b bs ac n KC KS R s ls' H' locs' cells' slots' lo' h' → W p l e R s m args below meth c H' locs' cells' slots' Q (F0 m pc' ls' (st'.map (am_sv b bs)))) : W p l e R s m args below meth c H locs cells slots Q (F0 m pc ls (st.map (am_sv b bs))) := by
  unfold am_sa at hx
  split at hx
  · obtain ⟨⟨h1, h2, -⟩, rfl, rfl, rfl, rfl⟩ := am_s1_inv hx
    refine lv_astore hexec hb hd hf.1.has (by rw [← hf.1.2.1]; exact h1) rfl fun ls' hl' => kk _ _ _ _ _ ⟨hf.1.st1 h2 (fun v hv => by cases hv; rfl) hl', hf.2⟩
  · obtain ⟨⟨h1, h2, -⟩, rfl, rfl, rfl, rfl⟩ := am_s1_inv hx
    refine lv_astoreN hexec hb hd hf.1.has (by rw [← hf.1.2.1]; exact h1) rfl fun ls' hl' => kk _ _ _ _ _ ⟨hf.1.st1 h2 (fun v hv => by cases hv; rfl) hl', hf.2⟩
  · cases hx
theorem am_n_lstore (hexec : p.tables.exec = Jvm.exec) (hb : c.code = cc) {k : Nat} (hd : decode cc pc = .ok (.lstore k, 2)) (hx : am_sj (pc + 2) k lo st h = some (.inl (pc', lo', st', h'))) (hf : am_fr D cl b bs ac n KC KS R s ls H locs cells slots lo h) 
    (kk : ∀ (ls' : Array Slot) (H' : Heap) (locs' : List Loc) (cells' slots' : Nat), am_fr D cl b bs ac n KC KS R s ls' H' locs' cells' slots' lo' h' → W p l e R s m args below meth c H' locs' cells' slots' Q (F0 m pc' ls' (st'.map (am_sv b bs)))) : W p l e R s m args below meth c H locs cells slots Q (F0 m pc ls (st.map (am_sv b bs))) := by
  unfold am_sj at hx
  split at hx
  · obtain ⟨⟨h1, h2, -⟩, rfl, rfl, rfl, rfl⟩ := am_s2_inv hx
    refine lv_lstore hexec hb hd hf.1.has (by rw [← hf.1.2.1]; exact h1) rfl fun ls' hl' => kk _ _ _ _ _ ⟨hf.1.st2 h2 hl', hf.2⟩
  · cases hx
theorem am_n_istore_n (hexec : p.tables.exec = Jvm.exec) (hb : c.code = cc) {k : Fin 4} (hd : decode cc pc = .ok (.istore_n k, 1)) (hx : am_si (pc + 1) k lo st h = some (.inl (pc', lo', st', h'))) (hf : am_fr D cl b bs ac n KC KS R s ls H locs cells slots lo h) 
    (kk : ∀ (ls' : Array Slot) (H' : Heap) (locs' : List Loc) (cells' slots' : Nat), am_fr D cl b bs ac n KC KS R s ls' H' locs' cells' slots' lo' h' → W p l e R s m args below meth c H' locs' cells' slots' Q (F0 m pc' ls' (st'.map (am_sv b bs)))) : W p l e R s m args below meth c H locs cells slots Q (F0 m pc ls (st.map (am_sv b bs))) := by
  unfold am_si at hx
  split at hx
  · obtain ⟨⟨h1, h2, -⟩, rfl, rfl, rfl, rfl⟩ := am_s1_inv hx
    refine lv_istore_n hexec hb hd rfl hf.1.has (by rw [← hf.1.2.1]; exact h1) rfl fun ls' hl' => kk _ _ _ _ _ ⟨hf.1.st1 h2 (fun v hv => by cases hv; rfl) hl', hf.2⟩
  · cases hx
theorem am_n_astore_n (hexec : p.tables.exec = Jvm.exec) (hb : c.code = cc) {k : Fin 4} (hd : decode cc pc = .ok (.astore_n k, 1)) (hx : am_sa (pc + 1) k lo st h = some (.inl (pc', lo', st', h'))) (hf : am_fr D cl b bs ac n KC KS R s ls H locs cells slots lo h) 
    (kk : ∀ (ls' : Array Slot) (H' : Heap) (locs' : List Loc) (cells' slots' : Nat), am_fr D cl b bs ac n KC KS R s ls' H' locs' cells' slots' lo' h' → W p l e R s m args below meth c H' locs' cells' slots' Q (F0 m pc' ls' (st'.map (am_sv b bs)))) : W p l e R s m args below meth c H locs cells slots Q (F0 m pc ls (st.map (am_sv b bs))) := by
  unfold am_sa at hx
  split at hx
  · obtain ⟨⟨h1, h2, -⟩, rfl, rfl, rfl, rfl⟩ := am_s1_inv hx
    refine lv_astore_n hexec hb hd rfl hf.1.has (by rw [← hf.1.2.1]; exact h1) rfl fun ls' hl' => kk _ _ _ _ _ ⟨hf.1.st1 h2 (fun v hv => by cases hv; rfl) hl', hf.2⟩
  · obtain ⟨⟨h1, h2, -⟩, rfl, rfl, rfl, rfl⟩ := am_s1_inv hx
    refine lv_astore_nN hexec hb hd rfl hf.1.has (by rw [← hf.1.2.1]; exact h1) rfl fun ls' hl' => kk _ _ _ _ _ ⟨hf.1.st1 h2 (fun v hv => by cases hv; rfl) hl', hf.2⟩
  · cases hx
theorem am_n_lstore_n (hexec : p.tables.exec = Jvm.exec) (hb : c.code = cc) {k : Fin 4} (hd : decode cc pc = .ok (.lstore_n k, 1)) (hx : am_sj (pc + 1) k lo st h = some (.inl (pc', lo', st', h'))) (hf : am_fr D cl b bs ac n KC KS R s ls H locs cells slots lo h) 
    (kk : ∀ (ls' : Array Slot) (H' : Heap) (locs' : List Loc) (cells' slots' : Nat), am_fr D cl b bs ac n KC KS R s ls' H' locs' cells' slots' lo' h' → W p l e R s m args below meth c H' locs' cells' slots' Q (F0 m pc' ls' (st'.map (am_sv b bs)))) : W p l e R s m args below meth c H locs cells slots Q (F0 m pc ls (st.map (am_sv b bs))) := by
  unfold am_sj at hx
  split at hx
  · obtain ⟨⟨h1, h2, -⟩, rfl, rfl, rfl, rfl⟩ := am_s2_inv hx
    refine lv_lstore_n hexec hb hd rfl hf.1.has (by rw [← hf.1.2.1]; exact h1) rfl fun ls' hl' => kk _ _ _ _ _ ⟨hf.1.st2 h2 hl', hf.2⟩
  · cases hx
theorem am_n_iinc (hexec : p.tables.exec = Jvm.exec) (hb : c.code = cc) {k : Nat} {d : Int} (hd : decode cc pc = .ok (.iinc k d, 3)) (hx : (match lo[k]? with
    | some (some (.int x)) => am_s1 (pc + 3) k (.int (x + Int32.ofInt d)) lo st h
    | _ => none) = some (.inl (pc', lo', st', h'))) (hf : am_fr D cl b bs ac n KC KS R s ls H locs cells slots lo h) 
    (kk : ∀ (ls' : Array Slot) (H' : Heap) (locs' : List Loc) (cells' slots' : Nat), am_fr D cl b bs ac n KC KS R s ls' H' locs' cells' slots' lo' h' → W p l e R s m args below meth c H' locs' cells' slots' Q (F0 m pc' ls' (st'.map (am_sv b bs)))) : W p l e R s m args below meth c H locs cells slots Q (F0 m pc ls (st.map (am_sv b bs))) := by
  split at hx
  · rename_i x hk
    obtain ⟨⟨h1, h2, -⟩, rfl, rfl, rfl, rfl⟩ := am_s1_inv hx
    obtain ⟨j, hj⟩ := List.getElem?_of_mem (am_mem_pr (b := b) (bs := bs) hk)
    refine lv_iinc hexec hb hd hf.1.has hj rfl (by rw [← hf.1.2.1]; exact h1) rfl fun ls' hl' => kk _ _ _ _ _ ⟨hf.1.st1 h2 (fun v hv => by cases hv; rfl) hl', hf.2⟩
  · cases hx
theorem am_n_iadd (hexec : p.tables.exec = Jvm.exec) (hb : c.code = cc)  (hd : decode cc pc = .ok (.iadd, 1)) (hx : am_i2 st (fun u v r => am_nx (pc + 1) lo (.int (u + v) :: r) h) = some (.inl (pc', lo', st', h'))) (hf : am_fr D cl b bs ac n KC KS R s ls H locs cells slots lo h) 
    (kk : ∀ (ls' : Array Slot) (H' : Heap) (locs' : List Loc) (cells' slots' : Nat), am_fr D cl b bs ac n KC KS R s ls' H' locs' cells' slots' lo' h' → W p l e R s m args below meth c H' locs' cells' slots' Q (F0 m pc' ls' (st'.map (am_sv b bs)))) : W p l e R s m args below meth c H locs cells slots Q (F0 m pc ls (st.map (am_sv b bs))) := by
  obtain ⟨u, v, r, rfl, hy⟩ := am_i2_inv hx
  clear hx; have hx := hy; clear hy
  obtain ⟨rfl, rfl, rfl, rfl⟩ := am_nx_inv hx
  exact lv_iadd hexec hb hd (kk _ _ _ _ _ hf)
theorem am_n_isub (hexec : p.tables.exec = Jvm.exec) (hb : c.code = cc)  (hd : decode cc pc = .ok (.isub, 1)) (hx : am_i2 st (fun u v r => am_nx (pc + 1) lo (.int (u - v) :: r) h) = some (.inl (pc', lo', st', h'))) (hf : am_fr D cl b bs ac n KC KS R s ls H locs cells slots lo h) 
    (kk : ∀ (ls' : Array Slot) (H' : Heap) (locs' : List Loc) (cells' slots' : Nat), am_fr D cl b bs ac n KC KS R s ls' H' locs' cells' slots' lo' h' → W p l e R s m args below meth c H' locs' cells' slots' Q (F0 m pc' ls' (st'.map (am_sv b bs)))) : W p l e R s m args below meth c H locs cells slots Q (F0 m pc ls (st.map (am_sv b bs))) := by
  obtain ⟨u, v, r, rfl, hy⟩ := am_i2_inv hx
  clear hx; have hx := hy; clear hy
  obtain ⟨rfl, rfl, rfl, rfl⟩ := am_nx_inv hx
  exact lv_isub hexec hb hd (kk _ _ _ _ _ hf)
theorem am_n_imul (hexec : p.tables.exec = Jvm.exec) (hb : c.code = cc)  (hd : decode cc pc = .ok (.imul, 1)) (hx : am_i2 st (fun u v r => am_nx (pc + 1) lo (.int (u * v) :: r) h) = some (.inl (pc', lo', st', h'))) (hf : am_fr D cl b bs ac n KC KS R s ls H locs cells slots lo h) 
    (kk : ∀ (ls' : Array Slot) (H' : Heap) (locs' : List Loc) (cells' slots' : Nat), am_fr D cl b bs ac n KC KS R s ls' H' locs' cells' slots' lo' h' → W p l e R s m args below meth c H' locs' cells' slots' Q (F0 m pc' ls' (st'.map (am_sv b bs)))) : W p l e R s m args below meth c H locs cells slots Q (F0 m pc ls (st.map (am_sv b bs))) := by
  obtain ⟨u, v, r, rfl, hy⟩ := am_i2_inv hx
  clear hx; have hx := hy; clear hy
  obtain ⟨rfl, rfl, rfl, rfl⟩ := am_nx_inv hx
  exact lv_imul hexec hb hd (kk _ _ _ _ _ hf)
theorem am_n_iand (hexec : p.tables.exec = Jvm.exec) (hb : c.code = cc)  (hd : decode cc pc = .ok (.iand, 1)) (hx : am_i2 st (fun u v r => am_nx (pc + 1) lo (.int (u &&& v) :: r) h) = some (.inl (pc', lo', st', h'))) (hf : am_fr D cl b bs ac n KC KS R s ls H locs cells slots lo h) 
    (kk : ∀ (ls' : Array Slot) (H' : Heap) (locs' : List Loc) (cells' slots' : Nat), am_fr D cl b bs ac n KC KS R s ls' H' locs' cells' slots' lo' h' → W p l e R s m args below meth c H' locs' cells' slots' Q (F0 m pc' ls' (st'.map (am_sv b bs)))) : W p l e R s m args below meth c H locs cells slots Q (F0 m pc ls (st.map (am_sv b bs))) := by
  obtain ⟨u, v, r, rfl, hy⟩ := am_i2_inv hx
  clear hx; have hx := hy; clear hy
  obtain ⟨rfl, rfl, rfl, rfl⟩ := am_nx_inv hx
  exact lv_iand hexec hb hd (kk _ _ _ _ _ hf)
theorem am_n_ior (hexec : p.tables.exec = Jvm.exec) (hb : c.code = cc)  (hd : decode cc pc = .ok (.ior, 1)) (hx : am_i2 st (fun u v r => am_nx (pc + 1) lo (.int (u ||| v) :: r) h) = some (.inl (pc', lo', st', h'))) (hf : am_fr D cl b bs ac n KC KS R s ls H locs cells slots lo h) 
    (kk : ∀ (ls' : Array Slot) (H' : Heap) (locs' : List Loc) (cells' slots' : Nat), am_fr D cl b bs ac n KC KS R s ls' H' locs' cells' slots' lo' h' → W p l e R s m args below meth c H' locs' cells' slots' Q (F0 m pc' ls' (st'.map (am_sv b bs)))) : W p l e R s m args below meth c H locs cells slots Q (F0 m pc ls (st.map (am_sv b bs))) := by
  obtain ⟨u, v, r, rfl, hy⟩ := am_i2_inv hx
  clear hx; have hx := hy; clear hy
  obtain ⟨rfl, rfl, rfl, rfl⟩ := am_nx_inv hx
  exact lv_ior hexec hb hd (kk _ _ _ _ _ hf)
theorem am_n_ixor (hexec : p.tables.exec = Jvm.exec) (hb : c.code = cc)  (hd : decode cc pc = .ok (.ixor, 1)) (hx : am_i2 st (fun u v r => am_nx (pc + 1) lo (.int (u ^^^ v) :: r) h) = some (.inl (pc', lo', st', h'))) (hf : am_fr D cl b bs ac n KC KS R s ls H locs cells slots lo h) 
    (kk : ∀ (ls' : Array Slot) (H' : Heap) (locs' : List Loc) (cells' slots' : Nat), am_fr D cl b bs ac n KC KS R s ls' H' locs' cells' slots' lo' h' → W p l e R s m args below meth c H' locs' cells' slots' Q (F0 m pc' ls' (st'.map (am_sv b bs)))) : W p l e R s m args below meth c H locs cells slots Q (F0 m pc ls (st.map (am_sv b bs))) := by
  obtain ⟨u, v, r, rfl, hy⟩ := am_i2_inv hx
  clear hx; have hx := hy; clear hy
  obtain ⟨rfl, rfl, rfl, rfl⟩ := am_nx_inv hx
  exact lv_ixor hexec hb hd (kk _ _ _ _ _ hf)
theorem am_n_ishl (hexec : p.tables.exec = Jvm.exec) (hb : c.code = cc)  (hd : decode cc pc = .ok (.ishl, 1)) (hx : am_i2 st (fun u v r => am_nx (pc + 1) lo (.int (u <<< (v &&& 31)) :: r) h) = some (.inl (pc', lo', st', h'))) (hf : am_fr D cl b bs ac n KC KS R s ls H locs cells slots lo h) 
    (kk : ∀ (ls' : Array Slot) (H' : Heap) (locs' : List Loc) (cells' slots' : Nat), am_fr D cl b bs ac n KC KS R s ls' H' locs' cells' slots' lo' h' → W p l e R s m args below meth c H' locs' cells' slots' Q (F0 m pc' ls' (st'.map (am_sv b bs)))) : W p l e R s m args below meth c H locs cells slots Q (F0 m pc ls (st.map (am_sv b bs))) := by
  obtain ⟨u, v, r, rfl, hy⟩ := am_i2_inv hx
  clear hx; have hx := hy; clear hy
  obtain ⟨rfl, rfl, rfl, rfl⟩ := am_nx_inv hx
  exact lv_ishl hexec hb hd (kk _ _ _ _ _ hf)
theorem am_n_iushr (hexec : p.tables.exec = Jvm.exec) (hb : c.code = cc)  (hd : decode cc pc = .ok (.iushr, 1)) (hx : am_i2 st (fun u v r => am_nx (pc + 1) lo (.int (u.toUInt32 >>> (v.toUInt32 &&& Int32.toUInt32 31)).toInt32 :: r) h) = some (.inl (pc', lo', st', h'))) (hf : am_fr D cl b bs ac n KC KS R s ls H locs cells slots lo h) 
    (kk : ∀ (ls' : Array Slot) (H' : Heap) (locs' : List Loc) (cells' slots' : Nat), am_fr D cl b bs ac n KC KS R s ls' H' locs' cells' slots' lo' h' → W p l e R s m args below meth c H' locs' cells' slots' Q (F0 m pc' ls' (st'.map (am_sv b bs)))) : W p l e R s m args below meth c H locs cells slots Q (F0 m pc ls (st.map (am_sv b bs))) := by
  obtain ⟨u, v, r, rfl, hy⟩ := am_i2_inv hx
  clear hx; have hx := hy; clear hy
  obtain ⟨rfl, rfl, rfl, rfl⟩ := am_nx_inv hx
  exact lv_iushr hexec hb hd rfl (kk _ _ _ _ _ hf)
theorem am_n_idiv (hexec : p.tables.exec = Jvm.exec) (hb : c.code = cc)  (hd : decode cc pc = .ok (.idiv, 1)) (hx : am_i2 st (fun u v r => if v = 0 then none else am_nx (pc + 1) lo (.int (u / v) :: r) h) = some (.inl (pc', lo', st', h'))) (hf : am_fr D cl b bs ac n KC KS R s ls H locs cells slots lo h) 
    (kk : ∀ (ls' : Array Slot) (H' : Heap) (locs' : List Loc) (cells' slots' : Nat), am_fr D cl b bs ac n KC KS R s ls' H' locs' cells' slots' lo' h' → W p l e R s m args below meth c H' locs' cells' slots' Q (F0 m pc' ls' (st'.map (am_sv b bs)))) : W p l e R s m args below meth c H locs cells slots Q (F0 m pc ls (st.map (am_sv b bs))) := by
  obtain ⟨u, v, r, rfl, hy⟩ := am_i2_inv hx
  clear hx; have hx := hy; clear hy
  split at hx
  · cases hx
  · rename_i hne
    obtain ⟨rfl, rfl, rfl, rfl⟩ := am_nx_inv hx
    exact lv_idiv hexec hb hd hne (kk _ _ _ _ _ hf)
theorem am_n_land (hexec : p.tables.exec = Jvm.exec) (hb : c.code = cc)  (hd : decode cc pc = .ok (.land, 1)) (hx : am_j2 st (fun u v r => am_nx (pc + 1) lo (.long (u &&& v) :: r) h) = some (.inl (pc', lo', st', h'))) (hf : am_fr D cl b bs ac n KC KS R s ls H locs cells slots lo h) 
    (kk : ∀ (ls' : Array Slot) (H' : Heap) (locs' : List Loc) (cells' slots' : Nat), am_fr D cl b bs ac n KC KS R s ls' H' locs' cells' slots' lo' h' → W p l e R s m args below meth c H' locs' cells' slots' Q (F0 m pc' ls' (st'.map (am_sv b bs)))) : W p l e R s m args below meth c H locs cells slots Q (F0 m pc ls (st.map (am_sv b bs))) := by
  obtain ⟨u, v, r, rfl, hy⟩ := am_j2_inv hx
  clear hx; have hx := hy; clear hy
  obtain ⟨rfl, rfl, rfl, rfl⟩ := am_nx_inv hx
  exact lv_land hexec hb hd (kk _ _ _ _ _ hf)
theorem am_n_lor (hexec : p.tables.exec = Jvm.exec) (hb : c.code = cc)  (hd : decode cc pc = .ok (.lor, 1)) (hx : am_j2 st (fun u v r => am_nx (pc + 1) lo (.long (u ||| v) :: r) h) = some (.inl (pc', lo', st', h'))) (hf : am_fr D cl b bs ac n KC KS R s ls H locs cells slots lo h) 
    (kk : ∀ (ls' : Array Slot) (H' : Heap) (locs' : List Loc) (cells' slots' : Nat), am_fr D cl b bs ac n KC KS R s ls' H' locs' cells' slots' lo' h' → W p l e R s m args below meth c H' locs' cells' slots' Q (F0 m pc' ls' (st'.map (am_sv b bs)))) : W p l e R s m args below meth c H locs cells slots Q (F0 m pc ls (st.map (am_sv b bs))) := by
  obtain ⟨u, v, r, rfl, hy⟩ := am_j2_inv hx
  clear hx; have hx := hy; clear hy
  obtain ⟨rfl, rfl, rfl, rfl⟩ := am_nx_inv hx
  exact lv_lor hexec hb hd (kk _ _ _ _ _ hf)
theorem am_n_lshl (hexec : p.tables.exec = Jvm.exec) (hb : c.code = cc)  (hd : decode cc pc = .ok (.lshl, 1)) (hx : am_ij st (fun u v r => am_nx (pc + 1) lo (.long (u <<< (v.toInt64 &&& 63)) :: r) h) = some (.inl (pc', lo', st', h'))) (hf : am_fr D cl b bs ac n KC KS R s ls H locs cells slots lo h) 
    (kk : ∀ (ls' : Array Slot) (H' : Heap) (locs' : List Loc) (cells' slots' : Nat), am_fr D cl b bs ac n KC KS R s ls' H' locs' cells' slots' lo' h' → W p l e R s m args below meth c H' locs' cells' slots' Q (F0 m pc' ls' (st'.map (am_sv b bs)))) : W p l e R s m args below meth c H locs cells slots Q (F0 m pc ls (st.map (am_sv b bs))) := by
  obtain ⟨u, v, r, rfl, hy⟩ := am_ij_inv hx
  clear hx; have hx := hy; clear hy
  obtain ⟨rfl, rfl, rfl, rfl⟩ := am_nx_inv hx
  exact lv_lshl hexec hb hd rfl (kk _ _ _ _ _ hf)
theorem am_n_lcmp (hexec : p.tables.exec = Jvm.exec) (hb : c.code = cc)  (hd : decode cc pc = .ok (.lcmp, 1)) (hx : am_j2 st (fun u v r => am_nx (pc + 1) lo (.int (lg_cmp u v) :: r) h) = some (.inl (pc', lo', st', h'))) (hf : am_fr D cl b bs ac n KC KS R s ls H locs cells slots lo h) 
    (kk : ∀ (ls' : Array Slot) (H' : Heap) (locs' : List Loc) (cells' slots' : Nat), am_fr D cl b bs ac n KC KS R s ls' H' locs' cells' slots' lo' h' → W p l e R s m args below meth c H' locs' cells' slots' Q (F0 m pc' ls' (st'.map (am_sv b bs)))) : W p l e R s m args below meth c H locs cells slots Q (F0 m pc ls (st.map (am_sv b bs))) := by
  obtain ⟨u, v, r, rfl, hy⟩ := am_j2_inv hx
  clear hx; have hx := hy; clear hy
  obtain ⟨rfl, rfl, rfl, rfl⟩ := am_nx_inv hx
  exact W.lcmp hexec hb hd (kk _ _ _ _ _ hf)
theorem am_n_i2l (hexec : p.tables.exec = Jvm.exec) (hb : c.code = cc)  (hd : decode cc pc = .ok (.i2l, 1)) (hx : am_i1 st (fun u r => am_nx (pc + 1) lo (.long u.toInt64 :: r) h) = some (.inl (pc', lo', st', h'))) (hf : am_fr D cl b bs ac n KC KS R s ls H locs cells slots lo h) 
    (kk : ∀ (ls' : Array Slot) (H' : Heap) (locs' : List Loc) (cells' slots' : Nat), am_fr D cl b bs ac n KC KS R s ls' H' locs' cells' slots' lo' h' → W p l e R s m args below meth c H' locs' cells' slots' Q (F0 m pc' ls' (st'.map (am_sv b bs)))) : W p l e R s m args below meth c H locs cells slots Q (F0 m pc ls (st.map (am_sv b bs))) := by
  obtain ⟨u, r, rfl, hy⟩ := am_i1_inv hx
  clear hx; have hx := hy; clear hy
  obtain ⟨rfl, rfl, rfl, rfl⟩ := am_nx_inv hx
  exact lv_i2l hexec hb hd rfl (kk _ _ _ _ _ hf)
-- the stack
theorem am_n_dup (hexec : p.tables.exec = Jvm.exec) (hb : c.code = cc)  (hd : decode cc pc = .ok (.dup, 1)) (hx : (match st with
    | v :: r => if v.category = 1 then am_nx (pc + 1) lo (v :: v :: r) h else none
    | _ => none) = some (.inl (pc', lo', st', h'))) (hf : am_fr D cl b bs ac n KC KS R s ls H locs cells slots lo h) 
    (kk : ∀ (ls' : Array Slot) (H' : Heap) (locs' : List Loc) (cells' slots' : Nat), am_fr D cl b bs ac n KC KS R s ls' H' locs' cells' slots' lo' h' → W p l e R s m args below meth c H' locs' cells' slots' Q (F0 m pc' ls' (st'.map (am_sv b bs)))) : W p l e R s m args below meth c H locs cells slots Q (F0 m pc ls (st.map (am_sv b bs))) := by
  split at hx
  · obtain ⟨hc, hy⟩ := am_if_inv hx
    clear hx; have hx := hy; clear hy
    obtain ⟨rfl, rfl, rfl, rfl⟩ := am_nx_inv hx
    exact lv_dup hexec hb hd (by rw [am_sv_cat]; exact hc) (kk _ _ _ _ _ hf)
  · cases hx
theorem am_n_dup_x1 (hexec : p.tables.exec = Jvm.exec) (hb : c.code = cc)  (hd : decode cc pc = .ok (.dup_x1, 1)) (hx : (match st with
    | v :: w :: r => if v.category = 1 ∧ w.category = 1 then am_nx (pc + 1) lo (v :: w :: v :: r) h else none
    | _ => none) = some (.inl (pc', lo', st', h'))) (hf : am_fr D cl b bs ac n KC KS R s ls H locs cells slots lo h) 
    (kk : ∀ (ls' : Array Slot) (H' : Heap) (locs' : List Loc) (cells' slots' : Nat), am_fr D cl b bs ac n KC KS R s ls' H' locs' cells' slots' lo' h' → W p l e R s m args below meth c H' locs' cells' slots' Q (F0 m pc' ls' (st'.map (am_sv b bs)))) : W p l e R s m args below meth c H locs cells slots Q (F0 m pc ls (st.map (am_sv b bs))) := by
  split at hx
  · obtain ⟨hc, hy⟩ := am_if_inv hx
    clear hx; have hx := hy; clear hy
    obtain ⟨rfl, rfl, rfl, rfl⟩ := am_nx_inv hx
    exact lv_dup_x1 hexec hb hd (by rw [am_sv_cat]; exact hc.1) (by rw [am_sv_cat]; exact hc.2) (kk _ _ _ _ _ hf)
  · cases hx
theorem am_n_dup_x2 (hexec : p.tables.exec = Jvm.exec) (hb : c.code = cc)  (hd : decode cc pc = .ok (.dup_x2, 1)) (hx : (match st with
    | v :: w :: u :: r => if v.category = 1 ∧ w.category = 1 ∧ u.category = 1 then am_nx (pc + 1) lo (v :: w :: u :: v :: r) h else none
    | _ => none) = some (.inl (pc', lo', st', h'))) (hf : am_fr D cl b bs ac n KC KS R s ls H locs cells slots lo h) 
    (kk : ∀ (ls' : Array Slot) (H' : Heap) (locs' : List Loc) (cells' slots' : Nat), am_fr D cl b bs ac n KC KS R s ls' H' locs' cells' slots' lo' h' → W p l e R s m args below meth c H' locs' cells' slots' Q (F0 m pc' ls' (st'.map (am_sv b bs)))) : W p l e R s m args below meth c H locs cells slots Q (F0 m pc ls (st.map (am_sv b bs))) := by
  split at hx
  · obtain ⟨hc, hy⟩ := am_if_inv hx
    clear hx; have hx := hy; clear hy
    obtain ⟨rfl, rfl, rfl, rfl⟩ := am_nx_inv hx
    exact lv_dup_x2 hexec hb hd (by rw [am_sv_cat]; exact hc.1) (by rw [am_sv_cat]; exact hc.2.1) (by rw [am_sv_cat]; exact hc.2.2) (kk _ _ _ _ _ hf)
  · cases hx
theorem am_n_dup2 (hexec : p.tables.exec = Jvm.exec) (hb : c.code = cc)  (hd : decode cc pc = .ok (.dup2, 1)) (hx : (match st with
    | v :: w :: r => if v.category = 1 ∧ w.category = 1 then am_nx (pc + 1) lo (v :: w :: v :: w :: r) h else none
    | _ => none) = some (.inl (pc', lo', st', h'))) (hf : am_fr D cl b bs ac n KC KS R s ls H locs cells slots lo h) 
    (kk : ∀ (ls' : Array Slot) (H' : Heap) (locs' : List Loc) (cells' slots' : Nat), am_fr D cl b bs ac n KC KS R s ls' H' locs' cells' slots' lo' h' → W p l e R s m args below meth c H' locs' cells' slots' Q (F0 m pc' ls' (st'.map (am_sv b bs)))) : W p l e R s m args below meth c H locs cells slots Q (F0 m pc ls (st.map (am_sv b bs))) := by
  split at hx
  · obtain ⟨hc, hy⟩ := am_if_inv hx
    clear hx; have hx := hy; clear hy
    obtain ⟨rfl, rfl, rfl, rfl⟩ := am_nx_inv hx
    exact lv_dup2_11 hexec hb hd (by rw [am_sv_cat]; exact hc.1) (by rw [am_sv_cat]; exact hc.2) (kk _ _ _ _ _ hf)
  · cases hx
theorem am_n_pop (hexec : p.tables.exec = Jvm.exec) (hb : c.code = cc)  (hd : decode cc pc = .ok (.pop, 1)) (hx : (match st with
    | v :: r => if v.category = 1 then am_nx (pc + 1) lo r h else none
    | _ => none) = some (.inl (pc', lo', st', h'))) (hf : am_fr D cl b bs ac n KC KS R s ls H locs cells slots lo h) 
    (kk : ∀ (ls' : Array Slot) (H' : Heap) (locs' : List Loc) (cells' slots' : Nat), am_fr D cl b bs ac n KC KS R s ls' H' locs' cells' slots' lo' h' → W p l e R s m args below meth c H' locs' cells' slots' Q (F0 m pc' ls' (st'.map (am_sv b bs)))) : W p l e R s m args below meth c H locs cells slots Q (F0 m pc ls (st.map (am_sv b bs))) := by
  split at hx
  · obtain ⟨hc, hy⟩ := am_if_inv hx
    clear hx; have hx := hy; clear hy
    obtain ⟨rfl, rfl, rfl, rfl⟩ := am_nx_inv hx
    exact lv_pop hexec hb hd (by rw [am_sv_cat]; exact hc) (kk _ _ _ _ _ hf)
  · cases hx
theorem am_n_ifCond (hexec : p.tables.exec = Jvm.exec) (hb : c.code = cc) {cn : ClassFile.Cond} {off : Int} (hd : decode cc pc = .ok (.ifCond cn off, 3)) (hx : am_i1 st (fun u r => am_to pc off fun t => am_nx (if am_cc cn u 0 = true then t else pc + 3) lo r h) = some (.inl (pc', lo', st', h'))) (hf : am_fr D cl b bs ac n KC KS R s ls H locs cells slots lo h) 
    (kk : ∀ (ls' : Array Slot) (H' : Heap) (locs' : List Loc) (cells' slots' : Nat), am_fr D cl b bs ac n KC KS R s ls' H' locs' cells' slots' lo' h' → W p l e R s m args below meth c H' locs' cells' slots' Q (F0 m pc' ls' (st'.map (am_sv b bs)))) : W p l e R s m args below meth c H locs cells slots Q (F0 m pc ls (st.map (am_sv b bs))) := by
  obtain ⟨u, r, rfl, hy⟩ := am_i1_inv hx
  clear hx; have hx := hy; clear hy
  obtain ⟨t, ht, hy⟩ := am_to_inv hx
  clear hx; have hx := hy; clear hy
  obtain ⟨rfl, rfl, rfl, rfl⟩ := am_nx_inv hx
  cases cn with
  | eq =>
    refine lv_if_eq hexec hb hd ht (fun hc => ?_) (fun hc => ?_)
    · have e1 : am_cc .eq u 0 = true := by simp [am_cc, hc]
      rw [if_pos e1] at kk
      exact kk _ _ _ _ _ hf
    · have e1 : ¬ am_cc .eq u 0 = true := by simp [am_cc, hc]
      rw [if_neg e1] at kk
      exact kk _ _ _ _ _ hf
  | ne =>
    refine lv_if_ne hexec hb hd ht (fun hc => ?_) (fun hc => ?_)
    · have e1 : am_cc .ne u 0 = true := by simp [am_cc, hc]
      rw [if_pos e1] at kk
      exact kk _ _ _ _ _ hf
    · have e1 : ¬ am_cc .ne u 0 = true := by simp [am_cc, hc]
      rw [if_neg e1] at kk
      exact kk _ _ _ _ _ hf
  | lt =>
    refine lv_if_lt hexec hb hd ht (fun hc => ?_) (fun hc => ?_)
    · have e1 : am_cc .lt u 0 = true := by simp [am_cc, hc]
      rw [if_pos e1] at kk
      exact kk _ _ _ _ _ hf
    · have e1 : ¬ am_cc .lt u 0 = true := by simp [am_cc, hc]
      rw [if_neg e1] at kk
      exact kk _ _ _ _ _ hf
  | ge =>
    refine lv_if_ge hexec hb hd ht (fun hc => ?_) (fun hc => ?_)
    · have e1 : am_cc .ge u 0 = true := by simp [am_cc, hc]
      rw [if_pos e1] at kk
      exact kk _ _ _ _ _ hf
    · have e1 : ¬ am_cc .ge u 0 = true := by simp [am_cc, hc]
      rw [if_neg e1] at kk
      exact kk _ _ _ _ _ hf
  | gt =>
    refine lv_if_gt hexec hb hd ht (fun hc => ?_) (fun hc => ?_)
    · have e1 : am_cc .gt u 0 = true := by simp [am_cc, hc]
      rw [if_pos e1] at kk
      exact kk _ _ _ _ _ hf
    · have e1 : ¬ am_cc .gt u 0 = true := by simp [am_cc, hc]
      rw [if_neg e1] at kk
      exact kk _ _ _ _ _ hf
  | le =>
    refine lv_if_le hexec hb hd ht (fun hc => ?_) (fun hc => ?_)
    · have e1 : am_cc .le u 0 = true := by simp [am_cc, hc]
      rw [if_pos e1] at kk
      exact kk _ _ _ _ _ hf
    · have e1 : ¬ am_cc .le u 0 = true := by simp [am_cc, hc]
      rw [if_neg e1] at kk
      exact kk _ _ _ _ _ hf
theorem am_n_if_icmp (hexec : p.tables.exec = Jvm.exec) (hb : c.code = cc) {cn : ClassFile.Cond} {off : Int} (hd : decode cc pc = .ok (.if_icmp cn off, 3)) (hx : am_i2 st (fun u v r => am_to pc off fun t => am_nx (if am_cc cn u v = true then t else pc + 3) lo r h) = some (.inl (pc', lo', st', h'))) (hf : am_fr D cl b bs ac n KC KS R s ls H locs cells slots lo h) 
    (kk : ∀ (ls' : Array Slot) (H' : Heap) (locs' : List Loc) (cells' slots' : Nat), am_fr D cl b bs ac n KC KS R s ls' H' locs' cells' slots' lo' h' → W p l e R s m args below meth c H' locs' cells' slots' Q (F0 m pc' ls' (st'.map (am_sv b bs)))) : W p l e R s m args below meth c H locs cells slots Q (F0 m pc ls (st.map (am_sv b bs))) := by
  obtain ⟨u, v, r, rfl, hy⟩ := am_i2_inv hx
  clear hx; have hx := hy; clear hy
  obtain ⟨t, ht, hy⟩ := am_to_inv hx
  clear hx; have hx := hy; clear hy
  obtain ⟨rfl, rfl, rfl, rfl⟩ := am_nx_inv hx
  cases cn with
  | eq =>
    refine lv_icmp_eq hexec hb hd ht (fun hc => ?_) (fun hc => ?_)
    · have e1 : am_cc .eq u v = true := by simp [am_cc, hc]
      rw [if_pos e1] at kk
      exact kk _ _ _ _ _ hf
    · have e1 : ¬ am_cc .eq u v = true := by simp [am_cc, hc]
      rw [if_neg e1] at kk
      exact kk _ _ _ _ _ hf
  | ne =>
    refine lv_icmp_ne hexec hb hd ht (fun hc => ?_) (fun hc => ?_)
    · have e1 : am_cc .ne u v = true := by simp [am_cc, hc]
      rw [if_pos e1] at kk
      exact kk _ _ _ _ _ hf
    · have e1 : ¬ am_cc .ne u v = true := by simp [am_cc, hc]
      rw [if_neg e1] at kk
      exact kk _ _ _ _ _ hf
  | lt =>
    refine lv_icmp_lt hexec hb hd ht (fun hc => ?_) (fun hc => ?_)
    · have e1 : am_cc .lt u v = true := by simp [am_cc, hc]
      rw [if_pos e1] at kk
      exact kk _ _ _ _ _ hf
    · have e1 : ¬ am_cc .lt u v = true := by simp [am_cc, hc]
      rw [if_neg e1] at kk
      exact kk _ _ _ _ _ hf
  | ge =>
    refine lv_icmp_ge hexec hb hd ht (fun hc => ?_) (fun hc => ?_)
    · have e1 : am_cc .ge u v = true := by simp [am_cc, hc]
      rw [if_pos e1] at kk
      exact kk _ _ _ _ _ hf
    · have e1 : ¬ am_cc .ge u v = true := by simp [am_cc, hc]
      rw [if_neg e1] at kk
      exact kk _ _ _ _ _ hf
  | gt =>
    refine lv_icmp_gt hexec hb hd ht (fun hc => ?_) (fun hc => ?_)
    · have e1 : am_cc .gt u v = true := by simp [am_cc, hc]
      rw [if_pos e1] at kk
      exact kk _ _ _ _ _ hf
    · have e1 : ¬ am_cc .gt u v = true := by simp [am_cc, hc]
      rw [if_neg e1] at kk
      exact kk _ _ _ _ _ hf
  | le =>
    refine lv_icmp_le hexec hb hd ht (fun hc => ?_) (fun hc => ?_)
    · have e1 : am_cc .le u v = true := by simp [am_cc, hc]
      rw [if_pos e1] at kk
      exact kk _ _ _ _ _ hf
    · have e1 : ¬ am_cc .le u v = true := by simp [am_cc, hc]
      rw [if_neg e1] at kk
      exact kk _ _ _ _ _ hf
theorem am_n_ifnull (hexec : p.tables.exec = Jvm.exec) (hb : c.code = cc) {off : Int} (hd : decode cc pc = .ok (.ifnull off, 3)) (hx : (match st with
    | .null :: r => am_to pc off fun t => am_nx t lo r h
    | .ref _ :: r => am_nx (pc + 3) lo r h
    | _ => none) = some (.inl (pc', lo', st', h'))) (hf : am_fr D cl b bs ac n KC KS R s ls H locs cells slots lo h) 
    (kk : ∀ (ls' : Array Slot) (H' : Heap) (locs' : List Loc) (cells' slots' : Nat), am_fr D cl b bs ac n KC KS R s ls' H' locs' cells' slots' lo' h' → W p l e R s m args below meth c H' locs' cells' slots' Q (F0 m pc' ls' (st'.map (am_sv b bs)))) : W p l e R s m args below meth c H locs cells slots Q (F0 m pc ls (st.map (am_sv b bs))) := by
  split at hx
  · obtain ⟨t, ht, hy⟩ := am_to_inv hx
    clear hx; have hx := hy; clear hy
    obtain ⟨rfl, rfl, rfl, rfl⟩ := am_nx_inv hx
    exact lv_ifnullN hexec hb hd ht (kk _ _ _ _ _ hf)
  · obtain ⟨rfl, rfl, rfl, rfl⟩ := am_nx_inv hx
    exact lv_ifnull hexec hb hd (kk _ _ _ _ _ hf)
  · cases hx
theorem am_n_ifnonnull (hexec : p.tables.exec = Jvm.exec) (hb : c.code = cc) {off : Int} (hd : decode cc pc = .ok (.ifnonnull off, 3)) (hx : (match st with
    | .null :: r => am_nx (pc + 3) lo r h
    | .ref _ :: r => am_to pc off fun t => am_nx t lo r h
    | _ => none) = some (.inl (pc', lo', st', h'))) (hf : am_fr D cl b bs ac n KC KS R s ls H locs cells slots lo h) 
    (kk : ∀ (ls' : Array Slot) (H' : Heap) (locs' : List Loc) (cells' slots' : Nat), am_fr D cl b bs ac n KC KS R s ls' H' locs' cells' slots' lo' h' → W p l e R s m args below meth c H' locs' cells' slots' Q (F0 m pc' ls' (st'.map (am_sv b bs)))) : W p l e R s m args below meth c H locs cells slots Q (F0 m pc ls (st.map (am_sv b bs))) := by
  split at hx
  · obtain ⟨rfl, rfl, rfl, rfl⟩ := am_nx_inv hx
    exact lv_ifnonnullN hexec hb hd (kk _ _ _ _ _ hf)
  · obtain ⟨t, ht, hy⟩ := am_to_inv hx
    clear hx; have hx := hy; clear hy
    obtain ⟨rfl, rfl, rfl, rfl⟩ := am_nx_inv hx
    exact lv_ifnonnull hexec hb hd ht (kk _ _ _ _ _ hf)
  · cases hx
theorem am_n_goto (hexec : p.tables.exec = Jvm.exec) (hb : c.code = cc) {off : Int} (hd : decode cc pc = .ok (.goto off, 3)) (hx : am_to pc off (fun t => am_nx t lo st h) = some (.inl (pc', lo', st', h'))) (hf : am_fr D cl b bs ac n KC KS R s ls H locs cells slots lo h) 
    (kk : ∀ (ls' : Array Slot) (H' : Heap) (locs' : List Loc) (cells' slots' : Nat), am_fr D cl b bs ac n KC KS R s ls' H' locs' cells' slots' lo' h' → W p l e R s m args below meth c H' locs' cells' slots' Q (F0 m pc' ls' (st'.map (am_sv b bs)))) : W p l e R s m args below meth c H locs cells slots Q (F0 m pc ls (st.map (am_sv b bs))) := by
  obtain ⟨t, ht, hy⟩ := am_to_inv hx
  clear hx; have hx := hy; clear hy
  obtain ⟨rfl, rfl, rfl, rfl⟩ := am_nx_inv hx
  exact lv_goto hexec hb hd ht (kk _ _ _ _ _ hf)
theorem am_n_tableswitch (hexec : p.tables.exec = Jvm.exec) (hb : c.code = cc) {d a z : Int} {offs : Array Int} (hd : decode cc pc = .ok (.tableswitch d a z offs, len)) (hx : am_i1 st (fun x r => if x.toInt < a ∨ z < x.toInt then am_to pc d fun t => am_nx t lo r h else match offs[(x.toInt - a).toNat]? with
    | some o => am_to pc o fun t => am_nx t lo r h
    | none => none) = some (.inl (pc', lo', st', h'))) (hf : am_fr D cl b bs ac n KC KS R s ls H locs cells slots lo h) 
    (kk : ∀ (ls' : Array Slot) (H' : Heap) (locs' : List Loc) (cells' slots' : Nat), am_fr D cl b bs ac n KC KS R s ls' H' locs' cells' slots' lo' h' → W p l e R s m args below meth c H' locs' cells' slots' Q (F0 m pc' ls' (st'.map (am_sv b bs)))) : W p l e R s m args below meth c H locs cells slots Q (F0 m pc ls (st.map (am_sv b bs))) := by
  obtain ⟨u, r, rfl, hy⟩ := am_i1_inv hx
  clear hx; have hx := hy; clear hy
  split at hx
  · rename_i hc
    obtain ⟨t, ht, hy⟩ := am_to_inv hx
    clear hx; have hx := hy; clear hy
    obtain ⟨rfl, rfl, rfl, rfl⟩ := am_nx_inv hx
    exact lv_tableOut hexec hb hd hc ht (kk _ _ _ _ _ hf)
  · rename_i hc
    split at hx
    · rename_i o ho
      obtain ⟨t, ht, hy⟩ := am_to_inv hx
      clear hx; have hx := hy; clear hy
      obtain ⟨rfl, rfl, rfl, rfl⟩ := am_nx_inv hx
      exact lv_tableIn hexec hb hd (fun q => hc (Or.inl q)) (fun q => hc (Or.inr q)) ho ht (kk _ _ _ _ _ hf)
    · cases hx
theorem am_n_lookupswitch (hexec : p.tables.exec = Jvm.exec) (hb : c.code = cc) {d : Int} {ps : Array (Int × Int)} (hd : decode cc pc = .ok (.lookupswitch d ps, len)) (hx : am_i1 st (fun x r => if (ps.toList.zip (ps.toList.drop 1)).all (fun q => decide (q.1.1 < q.2.1)) = true then am_to pc (Op.lookupswitch.offset ps.toList d x.toInt) fun t => am_nx t lo r h else none) = some (.inl (pc', lo', st', h'))) (hf : am_fr D cl b bs ac n KC KS R s ls H locs cells slots lo h) 
    (kk : ∀ (ls' : Array Slot) (H' : Heap) (locs' : List Loc) (cells' slots' : Nat), am_fr D cl b bs ac n KC KS R s ls' H' locs' cells' slots' lo' h' → W p l e R s m args below meth c H' locs' cells' slots' Q (F0 m pc' ls' (st'.map (am_sv b bs)))) : W p l e R s m args below meth c H locs cells slots Q (F0 m pc ls (st.map (am_sv b bs))) := by
  obtain ⟨u, r, rfl, hy⟩ := am_i1_inv hx
  clear hx; have hx := hy; clear hy
  obtain ⟨hc, hy⟩ := am_if_inv hx
  clear hx; have hx := hy; clear hy
  obtain ⟨t, ht, hy⟩ := am_to_inv hx
  clear hx; have hx := hy; clear hy
  obtain ⟨rfl, rfl, rfl, rfl⟩ := am_nx_inv hx
  exact lv_lookup hexec hb hd hc rfl ht (kk _ _ _ _ _ hf)
end AS
