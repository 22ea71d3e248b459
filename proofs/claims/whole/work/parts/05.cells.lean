/-! Steps that read, write or make cells. -/
section AT
variable {P : am_P} {TAB : List Cond} {cl : List vw_C} {tt : List FieldType} {D : va_G} {ac : Nat → ClassId} {b bs n KC KS y pc pc' len : Nat} {lo lo' : am_L} {st st' : List Value} {h h' : am_H}
variable {p : Program} {l : Launch} {e : Env} {R : Room} {s : State} {m : MethodId} {args : Array Value} {below : List Frame} {meth : Method} {c : Code} {ls : Array Slot} {H : Heap} {locs : List Loc} {cells slots : Nat} {Q : State → Prop} {cc : ByteArray}
theorem am_sl_push (h : am_H) (x : am_E) : am_sl (h ++ [x]) = am_sl h + am_ez x := by
  unfold am_sl
  simp
theorem am_sl_set {h : am_H} {a : Nat} {x z : am_E} (ha : h[a]? = some x) (hz : am_ez z = am_ez x) : am_sl (h.set a z) = am_sl h := by
  unfold am_sl
  induction h generalizing a with
  | nil => simp at ha
  | cons v r ih =>
    cases a with
    | zero =>
      simp at ha
      subst ha
      simp [hz]
    | succ a =>
      simp at ha
      have h1 := ih ha
      simp only [List.set_cons_succ, List.map_cons, List.sum_cons, h1]
/-- the heap is just as long as the abstract one -/
theorem am_exact {H1 : Heap} {locs1 : List Loc} {g : JFrame} (hP : va_P D cl (am_ws b bs ac h) H1) (hS : s.heap.size ≤ H1.size) (hbs : b ≤ s.heap.size) (hc : s.heap.size + cells = b + h.length)
    (k : H1.size = b + h.length → W p l e R s m args below meth c H1 locs1 cells slots Q g) : W p l e R s m args below meth c H1 locs1 cells slots Q g := by
  intro T hT X
  have up := X.heapSize
  rw [hT] at up
  have lw : b + h.length ≤ H1.size := by
    by_cases h0 : h.length = 0
    · omega
    · have hi : h.length - 1 < h.length := by omega
      have h1 : h[h.length - 1]? = some (h[h.length - 1]) := List.getElem?_eq_getElem hi
      have h2 := (hP _ _ (am_ws_get (b := b) (bs := bs) (ac := ac) h1)).lt
      dsimp only at h2
      omega
  exact k (by omega) T hT X
theorem am_fresh {q : Nat} {x : va_E} (hD : va_D (fun q => b ≤ q) (am_ws b bs ac h ++ [(q, x)])) : b + h.length ≤ q := by
  have hl := am_ws_len b bs ac h
  have h1 : (am_ws b bs ac h ++ [(q, x)])[h.length]? = some (q, x) := by
    rw [List.getElem?_append_right (by omega), hl, Nat.sub_self]
    rfl
  have h2 : b ≤ q := hD.2 _ _ h1
  by_cases h3 : b + h.length ≤ q
  · exact h3
  · have hi : q - b < h.length := by omega
    have h4 : (am_ws b bs ac h ++ [(q, x)])[q - b]? = some (b + (q - b), am_sE b bs ac h[q - b]) := by
      rw [List.getElem?_append_left (by omega)]
      exact am_ws_get (List.getElem?_eq_getElem hi)
    have h5 := hD.1 _ _ _ _ h4 h1 (by dsimp only; omega)
    omega
theorem am_exactN {H1 : Heap} {locs1 : List Loc} {q : Nat} {x : va_E} {g : JFrame} (hP : va_P D cl (am_ws b bs ac h ++ [(q, x)]) H1) (hD : va_D (fun q => b ≤ q) (am_ws b bs ac h ++ [(q, x)])) (hc : s.heap.size + cells = b + h.length)
    (k : q = b + h.length → H1.size = b + h.length + 1 → W p l e R s m args below meth c H1 locs1 (cells + 1) slots Q g) : W p l e R s m args below meth c H1 locs1 (cells + 1) slots Q g := by
  intro T hT X
  have up := X.heapSize
  rw [hT] at up
  have h1 := am_fresh hD
  have h2 : (am_ws b bs ac h ++ [(q, x)])[h.length]? = some (q, x) := by
    rw [List.getElem?_append_right (by rw [am_ws_len]; omega), am_ws_len, Nat.sub_self]
    rfl
  have h3 := (hP _ _ h2).lt
  dsimp only at h3
  exact k (by omega) (by omega) T hT X
theorem am_fr.ad {a : Nat} {x : am_E} (hf : am_fr D cl b bs ac n KC KS R s ls H locs cells slots lo h) (ha : h[a]? = some x) : am_ad b bs a = b + a := am_ad_in (Nat.le_trans hf.2.2.2.2.1.1 hf.2.2.2.2.2.2) ha
/-- a cell is written -/
theorem am_fr.put {H1 : Heap} {locs1 : List Loc} {a : Nat} {x z : am_E} (hf : am_fr D cl b bs ac n KC KS R s ls H locs cells slots lo h) (ha : h[a]? = some x) (hz : am_ez z = am_ez x) (hP : va_P D cl (am_ws b bs ac (h.set a z)) H1) (hS : va_S (fun q => b ≤ q) s.heap H1 locs1) (hs : H1.size = b + (h.set a z).length) : am_fr D cl b bs ac n KC KS R s ls H1 locs1 cells slots lo (h.set a z) := by
  obtain ⟨f1, ⟨-, f2⟩, f3, f4, f5, f6, f7⟩ := hf
  rw [List.length_set] at hs
  refine ⟨f1, ⟨hP, by rw [List.length_set]; exact hs⟩, hS, by omega, by rw [List.length_set]; exact f5, by rw [am_sl_set ha hz]; exact f6, f7⟩
theorem am_fr.eq (hf : am_fr D cl b bs ac n KC KS R s ls H locs cells slots lo h) : s.heap.size + cells = b + h.length := by
  have h1 := hf.2.1.2
  have h2 := hf.2.2.2.1
  omega
/-- a cell is made -/
theorem am_fr.push {H1 : Heap} {z : am_E} {k : Nat} (hf : am_fr D cl b bs ac n KC KS R s ls H locs cells slots lo h) (hz : am_ez z = k) (hP : va_P D cl (am_ws b bs ac (h ++ [z])) H1) (hS : va_S (fun q => b ≤ q) s.heap H1 locs) (hs : H1.size = b + h.length + 1) (hk : (h ++ [z]).length ≤ KC ∧ am_sl (h ++ [z]) ≤ KS) : am_fr D cl b bs ac n KC KS R s ls H1 locs (cells + 1) (slots + k) lo (h ++ [z]) := by
  obtain ⟨f1, ⟨-, f2⟩, f3, f4, f5, f6, f7⟩ := hf
  have e1 : (h ++ [z]).length = h.length + 1 := by simp
  have e2 := am_sl_push h z
  rw [e1] at hk
  refine ⟨f1, ⟨hP, by rw [e1]; omega⟩, hS, by omega, ⟨by omega, by omega⟩, ⟨by omega, by omega⟩, f7⟩
theorem am_fr.room {z : am_E} {k : Nat} (hf : am_fr D cl b bs ac n KC KS R s ls H locs cells slots lo h) (hz : am_ez z = k) (hk : (h ++ [z]).length ≤ KC ∧ am_sl (h ++ [z]) ≤ KS) : cells + 1 ≤ R.cells ∧ slots + k ≤ R.slots := by
  obtain ⟨f1, ⟨-, f2⟩, f3, f4, f5, f6, f7⟩ := hf
  have e1 : (h ++ [z]).length = h.length + 1 := by simp
  have e2 := am_sl_push h z
  rw [e1] at hk
  exact ⟨by omega, by omega⟩

theorem am_n_getfield (hexec : p.tables.exec = Jvm.exec) (hb : c.code = cc) {ix : Nat} (hts : ∀ w ∈ TAB, w.before args s = true) (hown : s.vm.findClass (am_nm (am_me P y)).cls = some m.cls) (hK : va_K D cl (am_tys ac tt) s) (oF : am_okF P TAB cl) (oC : am_okC TAB cl) (hd : decode cc pc = .ok (.getfield ix, 3)) (hx : (match am_fd P y ix with
    | some (ci, k, _, _) => am_r1 st fun a r => am_gB h a fun c fs => if c = ci then (match fs[k]? with
      | some v => am_nx (pc + 3) lo (v :: r) h
      | none => none) else none
    | none => none) = some (.inl (pc', lo', st', h'))) (hf : am_fr D cl b bs ac n KC KS R s ls H locs cells slots lo h)
    (kk : ∀ (ls' : Array Slot) (H' : Heap) (locs' : List Loc) (cells' slots' : Nat), am_fr D cl b bs ac n KC KS R s ls' H' locs' cells' slots' lo' h' → W p l e R s m args below meth c H' locs' cells' slots' Q (F0 m pc' ls' (st'.map (am_sv b bs)))) : W p l e R s m args below meth c H locs cells slots Q (F0 m pc ls (st.map (am_sv b bs))) := by
  split at hx
  · rename_i ci k ty wr hfd
    obtain ⟨a, r, rfl, hy⟩ := am_r1_inv hx
    clear hx; have hx := hy; clear hy
    obtain ⟨c1, fs, ha, hy⟩ := am_gB_inv hx
    clear hx; have hx := hy; clear hy
    obtain ⟨hc1, hy⟩ := am_if_inv hx
    clear hx; have hx := hy; clear hy
    subst hc1
    split at hx
    · rename_i v hv
      obtain ⟨rfl, rfl, rfl, rfl⟩ := am_nx_inv hx
      obtain ⟨C, T, N, h1, h2, h3, h4, -⟩ := oF y ix _ k ty wr hfd
      have e2 : (Value.ref a :: r).map (am_sv b bs) = .ref (b + a) :: r.map (am_sv b bs) := by simp [am_sv, hf.ad ha]
      rw [e2]
      exact va_get (D := D) (v := am_sv b bs v) hexec hb hts (oC _ _ _ _ h1).1 hown hK hf.2.1.1 a (am_ws_get ha) h1 k h2 (hts _ h3) (fun _ q => q) (by rw [List.getElem?_map, hv]; rfl) hd (kk _ _ _ _ _ hf)
    · cases hx
  · cases hx
theorem am_ft_ok {ty : FieldType} {v : Value} (h : am_ft ty v = true) : narrow ty (am_sv b bs v) = am_sv b bs v ∧ fits ty (am_sv b bs v) = true := by
  cases ty <;> cases v <;> simp [am_ft] at h
  all_goals first
    | exact ⟨rfl, rfl⟩
    | (rcases h with h | h <;> subst h <;> exact ⟨by rfl, by rfl⟩)
theorem am_n_putfield (hexec : p.tables.exec = Jvm.exec) (hb : c.code = cc) {ix : Nat} (hts : ∀ w ∈ TAB, w.before args s = true) (hown : s.vm.findClass (am_nm (am_me P y)).cls = some m.cls) (hK : va_K D cl (am_tys ac tt) s) (oF : am_okF P TAB cl) (oC : am_okC TAB cl) (hbs : b ≤ s.heap.size) (hnm : meth.name = (am_nm (am_me P y)).name) (hd : decode cc pc = .ok (.putfield ix, 3)) (hx : (match am_fd P y ix with
    | some (ci, k, ty, true) => am_vr st fun v a r => am_gB h a fun c fs => if c = ci ∧ k < fs.length ∧ am_ft ty v = true then am_nx (pc + 3) lo r (h.set a (.inr (c, fs.set k v))) else none
    | _ => none) = some (.inl (pc', lo', st', h'))) (hf : am_fr D cl b bs ac n KC KS R s ls H locs cells slots lo h)
    (kk : ∀ (ls' : Array Slot) (H' : Heap) (locs' : List Loc) (cells' slots' : Nat), am_fr D cl b bs ac n KC KS R s ls' H' locs' cells' slots' lo' h' → W p l e R s m args below meth c H' locs' cells' slots' Q (F0 m pc' ls' (st'.map (am_sv b bs)))) : W p l e R s m args below meth c H locs cells slots Q (F0 m pc ls (st.map (am_sv b bs))) := by
  split at hx
  · rename_i ci k ty hfd
    obtain ⟨v, a, r, rfl, hy⟩ := am_vr_inv hx
    clear hx; have hx := hy; clear hy
    obtain ⟨c1, fs, ha, hy⟩ := am_gB_inv hx
    clear hx; have hx := hy; clear hy
    obtain ⟨⟨hc1, hk, hft⟩, hy⟩ := am_if_inv hx
    clear hx; have hx := hy; clear hy
    subst hc1
    obtain ⟨rfl, rfl, rfl, rfl⟩ := am_nx_inv hx
    obtain ⟨C, T, N, h1, h2, h3, h4, h5⟩ := oF y ix _ k ty true hfd
    obtain ⟨o1, ⟨ty0, o2⟩, o3⟩ := oC _ _ _ _ h1
    obtain ⟨g1, g2⟩ := am_ft_ok (b := b) (bs := bs) hft
    have e2 : (v :: Value.ref a :: r).map (am_sv b bs) = am_sv b bs v :: .ref (b + a) :: r.map (am_sv b bs) := by simp [am_sv, hf.ad ha]
    rw [e2]
    have e3 : (am_ws b bs ac h).set a (b + a, .inr (c1, (fs.map (am_sv b bs)).set k (am_sv b bs v))) = am_ws b bs ac (h.set a (.inr (c1, fs.set k v))) := by
      rw [← am_ws_set, am_sE, List.map_set]
    have e4 : am_ez (.inr (c1, fs.set k v)) = am_ez (.inr (c1, fs)) := by
      cases fs with
      | nil => simp at hk
      | cons x t => cases k <;> simp [am_ez]
    have hl : k < (fs.map (am_sv b bs)).length := by rw [List.length_map]; exact hk
    have fin : ∀ (H1 : Heap) (locs1 : List Loc), va_P D cl ((am_ws b bs ac h).set a (b + a, .inr (c1, (fs.map (am_sv b bs)).set k (am_sv b bs v)))) H1 → va_D (fun q => b ≤ q) ((am_ws b bs ac h).set a (b + a, .inr (c1, (fs.map (am_sv b bs)).set k (am_sv b bs v)))) → va_S (fun q => b ≤ q) s.heap H1 locs1 → W p l e R s m args below meth c H1 locs1 cells slots Q (F0 m (pc + 3) ls (r.map (am_sv b bs))) := by
      intro H1 locs1 hP _ hS
      rw [e3] at hP
      exact am_exact hP hS.1 hbs (by rw [List.length_set]; exact hf.eq) fun hz => kk _ _ _ _ _ (hf.put ha e4 hP hS hz)
    rcases h5 rfl with h6 | ⟨h6, h7, h8⟩
    · exact va_put (D := D) hexec hb hts o1 ty0 o2 o3 hown hK hf.2.1.1 (am_ws_D b bs ac h) hf.2.2.1 a (am_ws_get ha) h1 k h2 (hts _ h3) (fun _ q => q) h6 h4 g1 g2 hl hd fin
    · exact va_putF (D := D) hexec hb hts o1 ty0 o2 o3 hown hK hf.2.1.1 (am_ws_D b bs ac h) hf.2.2.1 a (am_ws_get ha) h1 k h2 (hts _ h3) (fun _ q => q) h6 (hnm.trans h7) h8 h4 g1 g2 hl hd fin
  · cases hx
theorem am_n_baload (hexec : p.tables.exec = Jvm.exec) (hb : c.code = cc)  (hK : va_K D cl (am_tys ac tt) s) (oT : am_okT P cl tt) (hd : decode cc pc = .ok (.baload, 1)) (hx : am_ir st (fun i a r => am_gZ h a fun n f => if am_in i n = true then am_nx (pc + 1) lo (.int (f i.toNatClampNeg) :: r) h else none) = some (.inl (pc', lo', st', h'))) (hf : am_fr D cl b bs ac n KC KS R s ls H locs cells slots lo h)
    (kk : ∀ (ls' : Array Slot) (H' : Heap) (locs' : List Loc) (cells' slots' : Nat), am_fr D cl b bs ac n KC KS R s ls' H' locs' cells' slots' lo' h' → W p l e R s m args below meth c H' locs' cells' slots' Q (F0 m pc' ls' (st'.map (am_sv b bs)))) : W p l e R s m args below meth c H locs cells slots Q (F0 m pc ls (st.map (am_sv b bs))) := by
  obtain ⟨i, a, r, rfl, hy⟩ := am_ir_inv hx
  clear hx; have hx := hy; clear hy
  obtain ⟨k, f, ha, hy⟩ := am_gZ_inv hx
  clear hx; have hx := hy; clear hy
  obtain ⟨hi, hy⟩ := am_if_inv hx
  clear hx; have hx := hy; clear hy
  obtain ⟨rfl, rfl, rfl, rfl⟩ := am_nx_inv hx
  have e2 : (Value.int i :: Value.ref a :: r).map (am_sv b bs) = .int i :: .ref (b + a) :: r.map (am_sv b bs) := by simp [am_sv, hf.ad ha]
  rw [e2]
  exact va_zald (D := D) hexec hb hK hf.2.1.1 a 2 (am_ws_get ha) (am_tys_at oT.2.2.1) (am_vin hi) hd (kk _ _ _ _ _ hf)
theorem am_n_laload (hexec : p.tables.exec = Jvm.exec) (hb : c.code = cc)  (hK : va_K D cl (am_tys ac tt) s) (oT : am_okT P cl tt) (hd : decode cc pc = .ok (.laload, 1)) (hx : am_ir st (fun i a r => am_gJ h a fun n f => if am_in i n = true then am_nx (pc + 1) lo (.long (f i.toNatClampNeg) :: r) h else none) = some (.inl (pc', lo', st', h'))) (hf : am_fr D cl b bs ac n KC KS R s ls H locs cells slots lo h)
    (kk : ∀ (ls' : Array Slot) (H' : Heap) (locs' : List Loc) (cells' slots' : Nat), am_fr D cl b bs ac n KC KS R s ls' H' locs' cells' slots' lo' h' → W p l e R s m args below meth c H' locs' cells' slots' Q (F0 m pc' ls' (st'.map (am_sv b bs)))) : W p l e R s m args below meth c H locs cells slots Q (F0 m pc ls (st.map (am_sv b bs))) := by
  obtain ⟨i, a, r, rfl, hy⟩ := am_ir_inv hx
  clear hx; have hx := hy; clear hy
  obtain ⟨k, f, ha, hy⟩ := am_gJ_inv hx
  clear hx; have hx := hy; clear hy
  obtain ⟨hi, hy⟩ := am_if_inv hx
  clear hx; have hx := hy; clear hy
  obtain ⟨rfl, rfl, rfl, rfl⟩ := am_nx_inv hx
  have e2 : (Value.int i :: Value.ref a :: r).map (am_sv b bs) = .int i :: .ref (b + a) :: r.map (am_sv b bs) := by simp [am_sv, hf.ad ha]
  rw [e2]
  exact va_lald (D := D) hexec hb hK hf.2.1.1 a 1 (am_ws_get ha) (am_tys_at oT.2.1) (am_vin hi) hd (kk _ _ _ _ _ hf)
theorem am_n_iaload (hexec : p.tables.exec = Jvm.exec) (hb : c.code = cc)  (hK : va_K D cl (am_tys ac tt) s) (oT : am_okT P cl tt) (hX : va_X bs (am_sL P) (am_sX P) s s.heap) (hbl : bs < s.heap.size) (hbb : bs < b) (hd : decode cc pc = .ok (.iaload, 1)) (hx : am_ir st (fun i a r => if a = am_scr then (if am_in i (am_sL P) = true then am_nx (pc + 1) lo (.int (am_sX P i.toNatClampNeg) :: r) h else none) else am_gI h a fun n f => if am_in i n = true then am_nx (pc + 1) lo (.int (f i.toNatClampNeg) :: r) h else none) = some (.inl (pc', lo', st', h'))) (hf : am_fr D cl b bs ac n KC KS R s ls H locs cells slots lo h)
    (kk : ∀ (ls' : Array Slot) (H' : Heap) (locs' : List Loc) (cells' slots' : Nat), am_fr D cl b bs ac n KC KS R s ls' H' locs' cells' slots' lo' h' → W p l e R s m args below meth c H' locs' cells' slots' Q (F0 m pc' ls' (st'.map (am_sv b bs)))) : W p l e R s m args below meth c H locs cells slots Q (F0 m pc ls (st.map (am_sv b bs))) := by
  obtain ⟨i, a, r, rfl, hy⟩ := am_ir_inv hx
  clear hx; have hx := hy; clear hy
  split at hx
  · rename_i ha
    obtain ⟨hi, hy⟩ := am_if_inv hx
    clear hx; have hx := hy; clear hy
    obtain ⟨rfl, rfl, rfl, rfl⟩ := am_nx_inv hx
    have e2 : (Value.int i :: Value.ref a :: r).map (am_sv b bs) = .int i :: .ref bs :: r.map (am_sv b bs) := by simp [am_sv, am_ad, ha]
    rw [e2]
    exact va_sld hexec hb hX hbl (show ¬ b ≤ bs by omega) hf.2.2.1 (am_vin hi) hd (kk _ _ _ _ _ hf)
  · obtain ⟨k, f, ha, hy⟩ := am_gI_inv hx
    clear hx; have hx := hy; clear hy
    obtain ⟨hi, hy⟩ := am_if_inv hx
    clear hx; have hx := hy; clear hy
    obtain ⟨rfl, rfl, rfl, rfl⟩ := am_nx_inv hx
    have e2 : (Value.int i :: Value.ref a :: r).map (am_sv b bs) = .int i :: .ref (b + a) :: r.map (am_sv b bs) := by simp [am_sv, hf.ad ha]
    rw [e2]
    exact va_iald (D := D) hexec hb hK hf.2.1.1 a 0 (am_ws_get ha) (am_tys_at oT.1) (am_vin hi) hd (kk _ _ _ _ _ hf)
theorem am_n_aaload (hexec : p.tables.exec = Jvm.exec) (hb : c.code = cc)  (hK : va_K D cl (am_tys ac tt) s) (oT : am_okT P cl tt) (hd : decode cc pc = .ok (.aaload, 1)) (hx : am_ir st (fun i a r => am_gR h a fun t n g => if am_in i n = true ∧ 2 < t ∧ t < 5 then am_nx (pc + 1) lo (va_rf (g i.toNatClampNeg) :: r) h else none) = some (.inl (pc', lo', st', h'))) (hf : am_fr D cl b bs ac n KC KS R s ls H locs cells slots lo h)
    (kk : ∀ (ls' : Array Slot) (H' : Heap) (locs' : List Loc) (cells' slots' : Nat), am_fr D cl b bs ac n KC KS R s ls' H' locs' cells' slots' lo' h' → W p l e R s m args below meth c H' locs' cells' slots' Q (F0 m pc' ls' (st'.map (am_sv b bs)))) : W p l e R s m args below meth c H locs cells slots Q (F0 m pc ls (st.map (am_sv b bs))) := by
  obtain ⟨i, a, r, rfl, hy⟩ := am_ir_inv hx
  clear hx; have hx := hy; clear hy
  obtain ⟨t, k, g, ha, hy⟩ := am_gR_inv hx
  clear hx; have hx := hy; clear hy
  obtain ⟨⟨hi, t1, t2⟩, hy⟩ := am_if_inv hx
  clear hx; have hx := hy; clear hy
  obtain ⟨rfl, rfl, rfl, rfl⟩ := am_nx_inv hx
  have ht := List.getElem?_eq_getElem (show t < tt.length by rw [oT.2.2.2.1]; exact t2)
  obtain ⟨C, T, N, t3, -⟩ := oT.2.2.2.2 t t1 _ ht
  rw [t3] at ht
  have e2 : (Value.int i :: Value.ref a :: r).map (am_sv b bs) = .int i :: .ref (b + a) :: r.map (am_sv b bs) := by simp [am_sv, hf.ad ha]
  rw [e2]
  refine va_aldq (D := D) (f := fun j => (g j).map (am_ad b bs)) hexec hb hK hf.2.1.1 a t (am_ws_get ha) (am_tys_at ht) (am_vin hi) hd ?_
  have e3 : va_rf ((g i.toNatClampNeg).map (am_ad b bs)) = am_sv b bs (va_rf (g i.toNatClampNeg)) := by cases g i.toNatClampNeg <;> rfl
  rw [e3]
  exact kk _ _ _ _ _ hf
theorem am_n_iastore (hexec : p.tables.exec = Jvm.exec) (hb : c.code = cc)  (hK : va_K D cl (am_tys ac tt) s) (oT : am_okT P cl tt) (hbs : b ≤ s.heap.size) (hd : decode cc pc = .ok (.iastore, 1)) (hx : am_vir st (fun v i a r => (match v with
    | .int x => am_gI h a fun n f => if am_in i n = true then am_nx (pc + 1) lo r (h.set a (am_I n (upd f i.toNatClampNeg x))) else none
    | _ => none)) = some (.inl (pc', lo', st', h'))) (hf : am_fr D cl b bs ac n KC KS R s ls H locs cells slots lo h)
    (kk : ∀ (ls' : Array Slot) (H' : Heap) (locs' : List Loc) (cells' slots' : Nat), am_fr D cl b bs ac n KC KS R s ls' H' locs' cells' slots' lo' h' → W p l e R s m args below meth c H' locs' cells' slots' Q (F0 m pc' ls' (st'.map (am_sv b bs)))) : W p l e R s m args below meth c H locs cells slots Q (F0 m pc ls (st.map (am_sv b bs))) := by
  obtain ⟨v, i, a, r, rfl, hy⟩ := am_vir_inv hx
  clear hx; have hx := hy; clear hy
  split at hx
  · rename_i x
    obtain ⟨k, f, ha, hy⟩ := am_gI_inv hx
    clear hx; have hx := hy; clear hy
    obtain ⟨hi, hy⟩ := am_if_inv hx
    clear hx; have hx := hy; clear hy
    obtain ⟨rfl, rfl, rfl, rfl⟩ := am_nx_inv hx
    have e2 : (Value.int x :: Value.int i :: Value.ref a :: r).map (am_sv b bs) = .int x :: .int i :: .ref (b + a) :: r.map (am_sv b bs) := by simp [am_sv, hf.ad ha]
    rw [e2]
    refine va_iast (D := D) hexec hb hK hf.2.1.1 (am_ws_D b bs ac h) hf.2.2.1 a 0 (am_ws_get ha) (am_tys_at oT.1) (am_vin hi) hd fun H1 locs1 hP _ hS => ?_
    have hP : va_P D cl ((am_ws b bs ac h).set a (b + a, am_sE b bs ac (am_I k (upd f i.toNatClampNeg x)))) H1 := hP
    rw [am_ws_set] at hP
    exact am_exact hP hS.1 hbs (by rw [List.length_set]; exact hf.eq) fun hz => kk _ _ _ _ _ (hf.put ha rfl hP hS hz)
  · cases hx
theorem am_n_bastore (hexec : p.tables.exec = Jvm.exec) (hb : c.code = cc)  (hK : va_K D cl (am_tys ac tt) s) (oT : am_okT P cl tt) (hbs : b ≤ s.heap.size) (hd : decode cc pc = .ok (.bastore, 1)) (hx : am_vir st (fun v i a r => (match v with
    | .int x => am_gZ h a fun n f => if am_in i n = true then am_nx (pc + 1) lo r (h.set a (am_Z n (upd f i.toNatClampNeg (vp_nar .boolean x)))) else none
    | _ => none)) = some (.inl (pc', lo', st', h'))) (hf : am_fr D cl b bs ac n KC KS R s ls H locs cells slots lo h)
    (kk : ∀ (ls' : Array Slot) (H' : Heap) (locs' : List Loc) (cells' slots' : Nat), am_fr D cl b bs ac n KC KS R s ls' H' locs' cells' slots' lo' h' → W p l e R s m args below meth c H' locs' cells' slots' Q (F0 m pc' ls' (st'.map (am_sv b bs)))) : W p l e R s m args below meth c H locs cells slots Q (F0 m pc ls (st.map (am_sv b bs))) := by
  obtain ⟨v, i, a, r, rfl, hy⟩ := am_vir_inv hx
  clear hx; have hx := hy; clear hy
  split at hx
  · rename_i x
    obtain ⟨k, f, ha, hy⟩ := am_gZ_inv hx
    clear hx; have hx := hy; clear hy
    obtain ⟨hi, hy⟩ := am_if_inv hx
    clear hx; have hx := hy; clear hy
    obtain ⟨rfl, rfl, rfl, rfl⟩ := am_nx_inv hx
    have e2 : (Value.int x :: Value.int i :: Value.ref a :: r).map (am_sv b bs) = .int x :: .int i :: .ref (b + a) :: r.map (am_sv b bs) := by simp [am_sv, hf.ad ha]
    rw [e2]
    refine va_zast (D := D) hexec hb hK hf.2.1.1 (am_ws_D b bs ac h) hf.2.2.1 a 2 (am_ws_get ha) (am_tys_at oT.2.2.1) (am_vin hi) hd fun H1 locs1 hP _ hS => ?_
    have hP : va_P D cl ((am_ws b bs ac h).set a (b + a, am_sE b bs ac (am_Z k (upd f i.toNatClampNeg (vp_nar .boolean x))))) H1 := hP
    rw [am_ws_set] at hP
    exact am_exact hP hS.1 hbs (by rw [List.length_set]; exact hf.eq) fun hz => kk _ _ _ _ _ (hf.put ha rfl hP hS hz)
  · cases hx
theorem am_n_lastore (hexec : p.tables.exec = Jvm.exec) (hb : c.code = cc)  (hK : va_K D cl (am_tys ac tt) s) (oT : am_okT P cl tt) (hbs : b ≤ s.heap.size) (hd : decode cc pc = .ok (.lastore, 1)) (hx : am_vir st (fun v i a r => (match v with
    | .long x => am_gJ h a fun n f => if am_in i n = true then am_nx (pc + 1) lo r (h.set a (am_J n (vp_updL f i.toNatClampNeg x))) else none
    | _ => none)) = some (.inl (pc', lo', st', h'))) (hf : am_fr D cl b bs ac n KC KS R s ls H locs cells slots lo h)
    (kk : ∀ (ls' : Array Slot) (H' : Heap) (locs' : List Loc) (cells' slots' : Nat), am_fr D cl b bs ac n KC KS R s ls' H' locs' cells' slots' lo' h' → W p l e R s m args below meth c H' locs' cells' slots' Q (F0 m pc' ls' (st'.map (am_sv b bs)))) : W p l e R s m args below meth c H locs cells slots Q (F0 m pc ls (st.map (am_sv b bs))) := by
  obtain ⟨v, i, a, r, rfl, hy⟩ := am_vir_inv hx
  clear hx; have hx := hy; clear hy
  split at hx
  · rename_i x
    obtain ⟨k, f, ha, hy⟩ := am_gJ_inv hx
    clear hx; have hx := hy; clear hy
    obtain ⟨hi, hy⟩ := am_if_inv hx
    clear hx; have hx := hy; clear hy
    obtain ⟨rfl, rfl, rfl, rfl⟩ := am_nx_inv hx
    have e2 : (Value.long x :: Value.int i :: Value.ref a :: r).map (am_sv b bs) = .long x :: .int i :: .ref (b + a) :: r.map (am_sv b bs) := by simp [am_sv, hf.ad ha]
    rw [e2]
    refine va_last (D := D) hexec hb hK hf.2.1.1 (am_ws_D b bs ac h) hf.2.2.1 a 1 (am_ws_get ha) (am_tys_at oT.2.1) (am_vin hi) hd fun H1 locs1 hP _ hS => ?_
    have hP : va_P D cl ((am_ws b bs ac h).set a (b + a, am_sE b bs ac (am_J k (vp_updL f i.toNatClampNeg x)))) H1 := hP
    rw [am_ws_set] at hP
    exact am_exact hP hS.1 hbs (by rw [List.length_set]; exact hf.eq) fun hz => kk _ _ _ _ _ (hf.put ha rfl hP hS hz)
  · cases hx
theorem am_n_aastore (hexec : p.tables.exec = Jvm.exec) (hb : c.code = cc)  (hK : va_K D cl (am_tys ac tt) s) (oT : am_okT P cl tt) (hbs : b ≤ s.heap.size) (hd : decode cc pc = .ok (.aastore, 1)) (hx : am_vir st (fun v i a r => (match v with
    | .ref x => am_gR h a fun t n g => am_gB h x fun ci _ => if (am_in i n = true ∧ 2 < t ∧ t < 5) ∧ am_cp P t = ci then am_nx (pc + 1) lo r (h.set a (am_R t n (va_up g i.toNatClampNeg (some x)))) else none
    | _ => none)) = some (.inl (pc', lo', st', h'))) (hf : am_fr D cl b bs ac n KC KS R s ls H locs cells slots lo h)
    (kk : ∀ (ls' : Array Slot) (H' : Heap) (locs' : List Loc) (cells' slots' : Nat), am_fr D cl b bs ac n KC KS R s ls' H' locs' cells' slots' lo' h' → W p l e R s m args below meth c H' locs' cells' slots' Q (F0 m pc' ls' (st'.map (am_sv b bs)))) : W p l e R s m args below meth c H locs cells slots Q (F0 m pc ls (st.map (am_sv b bs))) := by
  obtain ⟨v, i, a, r, rfl, hy⟩ := am_vir_inv hx
  clear hx; have hx := hy; clear hy
  split at hx
  · rename_i x
    obtain ⟨t, k, g, ha, hy⟩ := am_gR_inv hx
    clear hx; have hx := hy; clear hy
    obtain ⟨ci, fs, hv, hy⟩ := am_gB_inv hx
    clear hx; have hx := hy; clear hy
    obtain ⟨⟨⟨hi, t1, t2⟩, hci⟩, hy⟩ := am_if_inv hx
    clear hx; have hx := hy; clear hy
    subst hci
    obtain ⟨rfl, rfl, rfl, rfl⟩ := am_nx_inv hx
    have ht := List.getElem?_eq_getElem (show t < tt.length by rw [oT.2.2.2.1]; exact t2)
    obtain ⟨C, T, N, t3, t4⟩ := oT.2.2.2.2 t t1 _ ht
    rw [t3] at ht
    have e2 : (Value.ref x :: Value.int i :: Value.ref a :: r).map (am_sv b bs) = .ref (b + x) :: .int i :: .ref (b + a) :: r.map (am_sv b bs) := by simp [am_sv, hf.ad ha, hf.ad hv]
    rw [e2]
    refine va_astq (D := D) (r := (C, T, N)) (f := fun j => (g j).map (am_ad b bs)) hexec hb hK hf.2.1.1 (am_ws_D b bs ac h) hf.2.2.1 a t x _ (am_ws_get ha) (am_tys_at ht) (am_ws_get hv) t4 (am_vin hi) hd fun H1 locs1 hP _ hS => ?_
    have e3 : va_up (fun j => (g j).map (am_ad b bs)) i.toNatClampNeg (some (b + x)) = fun j => (va_up g i.toNatClampNeg (some x) j).map (am_ad b bs) := by
      funext j
      unfold va_up
      split
      · simp [hf.ad hv]
      · rfl
    rw [e3] at hP
    have hP : va_P D cl ((am_ws b bs ac h).set a (b + a, am_sE b bs ac (am_R t k (va_up g i.toNatClampNeg (some x))))) H1 := hP
    rw [am_ws_set] at hP
    exact am_exact hP hS.1 hbs (by rw [List.length_set]; exact hf.eq) fun hz => kk _ _ _ _ _ (hf.put ha rfl hP hS hz)
  · cases hx
theorem am_n_arraylength (hexec : p.tables.exec = Jvm.exec) (hb : c.code = cc)  (hK : va_K D cl (am_tys ac tt) s) (oT : am_okT P cl tt) (hX : va_X bs (am_sL P) (am_sX P) s s.heap) (hbl : bs < s.heap.size) (hbb : bs < b) (hd : decode cc pc = .ok (.arraylength, 1)) (hx : am_r1 st (fun a r => if a = am_scr then am_nx (pc + 1) lo (.int (Int32.ofNat (am_sL P)) :: r) h else (match h[a]? with
    | some (.inl (t, n, _)) => if t < 5 then am_nx (pc + 1) lo (.int (Int32.ofNat n) :: r) h else none
    | _ => none)) = some (.inl (pc', lo', st', h'))) (hf : am_fr D cl b bs ac n KC KS R s ls H locs cells slots lo h)
    (kk : ∀ (ls' : Array Slot) (H' : Heap) (locs' : List Loc) (cells' slots' : Nat), am_fr D cl b bs ac n KC KS R s ls' H' locs' cells' slots' lo' h' → W p l e R s m args below meth c H' locs' cells' slots' Q (F0 m pc' ls' (st'.map (am_sv b bs)))) : W p l e R s m args below meth c H locs cells slots Q (F0 m pc ls (st.map (am_sv b bs))) := by
  obtain ⟨a, r, rfl, hy⟩ := am_r1_inv hx
  clear hx; have hx := hy; clear hy
  split at hx
  · rename_i ha
    obtain ⟨rfl, rfl, rfl, rfl⟩ := am_nx_inv hx
    have e2 : (Value.ref a :: r).map (am_sv b bs) = .ref bs :: r.map (am_sv b bs) := by simp [am_sv, am_ad, ha]
    rw [e2]
    exact va_slen hexec hb hX hbl (show ¬ b ≤ bs by omega) hf.2.2.1 hd (kk _ _ _ _ _ hf)
  · split at hx
    · rename_i t k z ha
      obtain ⟨t5, hy⟩ := am_if_inv hx
      clear hx; have hx := hy; clear hy
      obtain ⟨rfl, rfl, rfl, rfl⟩ := am_nx_inv hx
      have e2 : (Value.ref a :: r).map (am_sv b bs) = .ref (b + a) :: r.map (am_sv b bs) := by simp [am_sv, hf.ad ha]
      rw [e2]
      have ht := List.getElem?_eq_getElem (show t < tt.length by rw [oT.2.2.2.1]; exact t5)
      refine va_alen (D := D) hexec hb hK hf.2.1.1 a t (am_ws_get ha) (am_tys_at ht) ?_ hd (kk _ _ _ _ _ hf)
      rcases z with z | z | z | z | z <;> rfl
    · cases hx
/-- .. of the classes of arrays of numbers -/
def am_okA (TAB : List Cond) : Prop := Cond.arrayClass .int ∈ TAB ∧ Cond.arrayClass .long ∈ TAB ∧ Cond.arrayClass .boolean ∈ TAB
theorem am_n_newarray (hexec : p.tables.exec = Jvm.exec) (hb : c.code = cc) {ty : ArrayType} (hts : ∀ w ∈ TAB, w.before args s = true) (oA : am_okA TAB) (hK : va_K D cl (am_tys ac tt) s) (oT : am_okT P cl tt) (hbs : b ≤ s.heap.size) (hkk : h'.length ≤ KC ∧ am_sl h' ≤ KS) (hd : decode cc pc = .ok (.newarray ty, 2)) (hx : am_i1 st (fun x r => if 0 ≤ x.toInt ∧ x.toInt < 100000 then (match (generalizing := false) ty with
    | .int => am_nx (pc + 2) lo (.ref h.length :: r) (h ++ [am_I x.toNatClampNeg (fun _ => 0)])
    | .long => am_nx (pc + 2) lo (.ref h.length :: r) (h ++ [am_J x.toNatClampNeg (fun _ => 0)])
    | .boolean => am_nx (pc + 2) lo (.ref h.length :: r) (h ++ [am_Z x.toNatClampNeg (fun _ => 0)])
    | _ => none) else none) = some (.inl (pc', lo', st', h'))) (hf : am_fr D cl b bs ac n KC KS R s ls H locs cells slots lo h)
    (kk : ∀ (ls' : Array Slot) (H' : Heap) (locs' : List Loc) (cells' slots' : Nat), am_fr D cl b bs ac n KC KS R s ls' H' locs' cells' slots' lo' h' → W p l e R s m args below meth c H' locs' cells' slots' Q (F0 m pc' ls' (st'.map (am_sv b bs)))) : W p l e R s m args below meth c H locs cells slots Q (F0 m pc ls (st.map (am_sv b bs))) := by
  obtain ⟨u, r, rfl, hy⟩ := am_i1_inv hx
  clear hx; have hx := hy; clear hy
  obtain ⟨⟨hu0, hu1⟩, hy⟩ := am_if_inv hx
  clear hx; have hx := hy; clear hy
  have hn : ¬ u < 0 := by
    intro q
    have := Int32.lt_iff_toInt_lt.mp q
    simp at this
    omega
  have hN : u.toNatClampNeg < 100000 := by
    show u.toInt.toNat < 100000
    omega
  cases ty with
  | int =>
    obtain ⟨rfl, rfl, rfl, rfl⟩ := am_nx_inv hx
    obtain ⟨r1, r2⟩ := hf.room (z := am_I u.toNatClampNeg (fun _ => 0)) rfl hkk
    refine va_newa (D := D) (atype := .int) (ty := .int) (a0 := (u.toNatClampNeg, .inl (fun _ => 0))) hexec hb (hts _ (oA.1)) rfl hK hf.2.1.1 (am_ws_D b bs ac h) hf.2.2.1 (fun q hq => Nat.le_trans hbs hq) (fun cA => rfl) hn rfl (by simp only [componentBytes]; omega) r1 r2 hd fun q cA H1 hK1 hP hD hS => ?_
    have hcA : cA = ac 0 := by
      have h1 : va_RA s cA .int := (hK1.2 (am_tys ac tt).length (cA, .int) (by simp)).2
      have h2 : va_RA s (ac 0) .int := (hK.2 0 _ (am_tys_at oT.1)).2
      exact Option.some.inj (h1.symm.trans h2)
    subst hcA
    refine am_exactN hP hD hf.eq fun hq hz => ?_
    subst hq
    have hP : va_P D cl (am_ws b bs ac h ++ [(b + h.length, am_sE b bs ac (am_I u.toNatClampNeg (fun _ => 0)))]) H1 := hP
    rw [am_ws_push] at hP
    have e5 : am_ad b bs h.length = b + h.length := by
      unfold am_ad
      rw [if_neg]
      have := hf.2.2.2.2.2.2
      have := hkk.1
      simp at this
      omega
    have e6 := kk _ _ _ _ _ (hf.push (k := u.toNatClampNeg) rfl hP hS hz hkk)
    simp only [List.map_cons, am_sv, e5] at e6
    exact e6
  | long =>
    obtain ⟨rfl, rfl, rfl, rfl⟩ := am_nx_inv hx
    obtain ⟨r1, r2⟩ := hf.room (z := am_J u.toNatClampNeg (fun _ => 0)) rfl hkk
    refine va_newa (D := D) (atype := .long) (ty := .long) (a0 := (u.toNatClampNeg, .inr (.inl (fun _ => 0)))) hexec hb (hts _ (oA.2.1)) rfl hK hf.2.1.1 (am_ws_D b bs ac h) hf.2.2.1 (fun q hq => Nat.le_trans hbs hq) (fun cA => rfl) hn rfl (by simp only [componentBytes]; omega) r1 r2 hd fun q cA H1 hK1 hP hD hS => ?_
    have hcA : cA = ac 1 := by
      have h1 : va_RA s cA .long := (hK1.2 (am_tys ac tt).length (cA, .long) (by simp)).2
      have h2 : va_RA s (ac 1) .long := (hK.2 1 _ (am_tys_at oT.2.1)).2
      exact Option.some.inj (h1.symm.trans h2)
    subst hcA
    refine am_exactN hP hD hf.eq fun hq hz => ?_
    subst hq
    have hP : va_P D cl (am_ws b bs ac h ++ [(b + h.length, am_sE b bs ac (am_J u.toNatClampNeg (fun _ => 0)))]) H1 := hP
    rw [am_ws_push] at hP
    have e5 : am_ad b bs h.length = b + h.length := by
      unfold am_ad
      rw [if_neg]
      have := hf.2.2.2.2.2.2
      have := hkk.1
      simp at this
      omega
    have e6 := kk _ _ _ _ _ (hf.push (k := u.toNatClampNeg) rfl hP hS hz hkk)
    simp only [List.map_cons, am_sv, e5] at e6
    exact e6
  | boolean =>
    obtain ⟨rfl, rfl, rfl, rfl⟩ := am_nx_inv hx
    obtain ⟨r1, r2⟩ := hf.room (z := am_Z u.toNatClampNeg (fun _ => 0)) rfl hkk
    refine va_newa (D := D) (atype := .boolean) (ty := .boolean) (a0 := (u.toNatClampNeg, .inl (fun _ => 0))) hexec hb (hts _ (oA.2.2)) rfl hK hf.2.1.1 (am_ws_D b bs ac h) hf.2.2.1 (fun q hq => Nat.le_trans hbs hq) (fun cA => rfl) hn rfl (by simp only [componentBytes]; omega) r1 r2 hd fun q cA H1 hK1 hP hD hS => ?_
    have hcA : cA = ac 2 := by
      have h1 : va_RA s cA .boolean := (hK1.2 (am_tys ac tt).length (cA, .boolean) (by simp)).2
      have h2 : va_RA s (ac 2) .boolean := (hK.2 2 _ (am_tys_at oT.2.2.1)).2
      exact Option.some.inj (h1.symm.trans h2)
    subst hcA
    refine am_exactN hP hD hf.eq fun hq hz => ?_
    subst hq
    have hP : va_P D cl (am_ws b bs ac h ++ [(b + h.length, am_sE b bs ac (am_Z u.toNatClampNeg (fun _ => 0)))]) H1 := hP
    rw [am_ws_push] at hP
    have e5 : am_ad b bs h.length = b + h.length := by
      unfold am_ad
      rw [if_neg]
      have := hf.2.2.2.2.2.2
      have := hkk.1
      simp at this
      omega
    have e6 := kk _ _ _ _ _ (hf.push (k := u.toNatClampNeg) rfl hP hS hz hkk)
    simp only [List.map_cons, am_sv, e5] at e6
    exact e6
  | _ => cases hx
end AT
