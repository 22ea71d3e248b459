/-! New objects, out of nothing. -/
section ZM
variable {L : Nat} {xs : Nat → Int32} {Q : am_A → am_H → Prop} {h0 tl tl' l : am_H} {o : am_E} {P : am_P} {y pc a b n : Nat} {lo : am_L} {st : List Value}
theorem at_0 (ha : a = h0.length) : (h0 ++ o :: tl)[a]? = some o := by
  subst ha
  simp
theorem ln_0 : (h0 ++ o :: tl).length = h0.length + (o :: tl).length := List.length_append
theorem go_app {st : List Value} (ht : tl ++ l = tl') (k : go P y pc lo st (h0 ++ o :: tl') Q) : go P y pc lo st ((h0 ++ o :: tl) ++ l) Q := by
  subst ht
  rw [List.append_assoc]
  exact k
theorem g_newIN {x : Int32} (d : decode (am_cd (am_me P y)) pc = .ok (.newarray .int, 2)) (hx : x = nn n) (hn : n < 100000) (ha : a = h0.length + (o :: tl).length) (ht : tl ++ [am_I n (fun _ => 0)] = tl') (kk : go P y (pc + 2) lo (.ref a :: st) (h0 ++ o :: tl') Q) : go P y pc lo (.int x :: st) (h0 ++ o :: tl) Q := by
  subst hx ha
  refine g_newI d (by rw [nn_toInt (by omega)]; omega) ?_
  rw [nn_cl (by omega), ln_0]
  exact go_app ht kk
theorem g_newJN {x : Int32} (d : decode (am_cd (am_me P y)) pc = .ok (.newarray .long, 2)) (hx : x = nn n) (hn : n < 100000) (ha : a = h0.length + (o :: tl).length) (ht : tl ++ [am_J n (fun _ => 0)] = tl') (kk : go P y (pc + 2) lo (.ref a :: st) (h0 ++ o :: tl') Q) : go P y pc lo (.int x :: st) (h0 ++ o :: tl) Q := by
  subst hx ha
  refine g_newJ d (by rw [nn_toInt (by omega)]; omega) ?_
  rw [nn_cl (by omega), ln_0]
  exact go_app ht kk
theorem g_newZN {x : Int32} (d : decode (am_cd (am_me P y)) pc = .ok (.newarray .boolean, 2)) (hx : x = nn n) (hn : n < 100000) (ha : a = h0.length + (o :: tl).length) (ht : tl ++ [am_Z n (fun _ => 0)] = tl') (kk : go P y (pc + 2) lo (.ref a :: st) (h0 ++ o :: tl') Q) : go P y pc lo (.int x :: st) (h0 ++ o :: tl) Q := by
  subst hx ha
  refine g_newZ d (by rw [nn_toInt (by omega)]; omega) ?_
  rw [nn_cl (by omega), ln_0]
  exact go_app ht kk
theorem g_newRN {x : Int32} {ix t : Nat} (d : decode (am_cd (am_me P y)) pc = .ok (.anewarray ix, 3)) (hk : am_an P y ix = some t) (hx : x = nn n) (hn : n < 100000) (ha : a = h0.length + (o :: tl).length) (ht : tl ++ [am_R t n (fun _ => none)] = tl') (kk : go P y (pc + 3) lo (.ref a :: st) (h0 ++ o :: tl') Q) : go P y pc lo (.int x :: st) (h0 ++ o :: tl) Q := by
  subst hx ha
  refine g_newR d hk (by rw [nn_toInt (by omega)]; omega) ?_
  rw [nn_cl (by omega), ln_0]
  exact go_app ht kk
theorem g_newN {ix ci : Nat} (d : decode (am_cd (am_me P y)) pc = .ok (.new ix, 3)) (ht : am_nw P y ix = some ci) (ha : a = h0.length + (o :: tl).length) (kk : go P y (pc + 3) lo (.ref a :: st) ((h0 ++ o :: tl) ++ [.inr (ci, am_df P ci)]) Q) : go P y pc lo st (h0 ++ o :: tl) Q := by
  subst ha
  refine g_new d ht ?_
  rw [ln_0]
  exact kk
theorem set_same {h : am_H} {v : am_E} (hb : h[b]? = some v) : h.set b v = h := by
  refine List.ext_getElem? fun j => ?_
  rw [List.getElem?_set]
  by_cases c : b = j
  · subst c
    rw [if_pos rfl, if_pos (List.getElem?_eq_some_iff.mp hb).1, hb]
  · rw [if_neg c]
theorem set_at {h : am_H} {v w : am_E} (hb : h[b]? = some v) : (h.set b w)[b]? = some w := by
  rw [List.getElem?_set, if_pos rfl, if_pos (List.getElem?_eq_some_iff.mp hb).1]
theorem set_ne {h : am_H} {w : am_E} (hab : a ≠ b) : (h.set b w)[a]? = h[a]? := by
  rw [List.getElem?_set, if_neg (fun q => hab q.symm)]
theorem upd_lt {f : Nat → Int32} {x : Int32} {i : Nat} (hf : ∀ j, j < i → f j = x) : ∀ j, j < i + 1 → upd f i x j = x := fun j hj => by
  show va_up f i x j = x
  by_cases c : j = i
  · rw [c, va_up_self]
  · rw [va_up_ne _ _ c]
    exact hf j (by omega)
theorem s_4L {x : Int32} : ∀ (k i : Nat) {h : am_H} {f : Nat → Int32} {Q : am_A → am_H → Prop}, i + k = 6 → h[b]? = some (am_I 6 f) → (∀ j, j < i → f j = x) → (∀ g, (∀ j, j < 6 → g j = x) → Q (.inl none) (h.set b (am_I 6 g))) → go (tb_P L xs) 4 5 [some (.ref b), some (.int x), some (.int (nn i)), some (.int (nn 6))] [] h Q := by
  intro k
  induction k with
  | zero =>
    intro i h f Q hi hb hf kk
    have hi : i = 6 := by omega
    subst hi
    refine g_iload_n k4_5 rfl ?_
    refine g_iload_n k4_6 rfl ?_
    refine g_icge_t k4_7 (t := 20) rfl (by decide) ?_
    refine g_return k4_20 t4 ?_
    have := kk f hf
    rw [set_same hb] at this
    exact this
  | succ k ih =>
    intro i h f Q hi hb hf kk
    obtain ⟨e1, e2⟩ := ix_in (i := nn i) (j := i) (n := 6) rfl (by omega) (by omega)
    refine g_iload_n k4_5 rfl ?_
    refine g_iload_n k4_6 rfl ?_
    refine g_icge_f k4_7 (t := 20) rfl (by rw [nn_toInt (by omega), nn_toInt (by omega)]; omega) ?_
    refine g_aload_n k4_10 rfl ?_
    refine g_iload_n k4_11 rfl ?_
    refine g_iload_n k4_12 rfl ?_
    refine g_iastore k4_13 hb e1 rfl ?_
    rw [e2]
    refine g_iincN k4_14 rfl rfl rfl ?_
    refine g_goto k4_17 (t := 5) rfl ?_
    refine ih (i + 1) (by omega) (set_at hb) (upd_lt hf) (fun g hg => ?_)
    rw [List.set_set]
    exact kk g hg
theorem s_4 {x : Int32} {h : am_H} {f : Nat → Int32} (hb : h[b]? = some (am_I 6 f)) (hs : b < 1000) (kk : ∀ g, (∀ j, j < 6 → g j = x) → Q (.inl none) (h.set b (am_I 6 g))) : go (tb_P L xs) 4 0 [some (.ref b), some (.int x), none, none] [] h Q := by
  refine g_iconst (v := nn 0) k4_0 ci_0 ?_
  refine g_istore_n k4_1 rfl rfl ?_
  refine g_aload_n k4_2 rfl ?_
  refine g_alen k4_3 (by unfold am_scr; omega) hb (by omega) ?_
  refine g_istore_n k4_4 rfl rfl ?_
  exact s_4L 6 0 (by omega) hb (fun j hj => by omega) kk
theorem s_1 (ha : a = h0.length) (kk : Q (.inl none) (h0 ++ [.inr (1, [.ref (a + 1), .ref (a + 2), .ref (a + 3), .int (nn 0)]), am_I 24 (fun _ => 0), am_I 25 (fun _ => 0), am_I 25 (fun _ => 0)])) : go (tb_P L xs) 1 0 [some (.ref a)] [] (h0 ++ [.inr (1, [.null, .null, .null, .int 0])]) Q := by
  refine g_aload_n k1_0 rfl ?_
  refine g_oinit k1_1 s1_1 r1_1 ?_
  refine g_aload_n k1_4 rfl ?_
  refine g_bipush (v := nn 24) k1_5 cb_24 ?_
  refine g_newIN (a := a + 1) (tl' := [am_I 24 (fun _ => 0)]) k1_7 rfl (by omega) (by rw [ha]; rfl) rfl ?_
  refine g_putN (fs' := [.ref (a + 1), .null, .null, .int 0]) k1_9 f1_9 ha (by show 0 < 4; omega) rfl rfl ?_
  refine g_aload_n k1_12 rfl ?_
  refine g_bipush (v := nn 25) k1_13 cb_25 ?_
  refine g_newIN (a := a + 2) (tl' := [am_I 24 (fun _ => 0), am_I 25 (fun _ => 0)]) k1_15 rfl (by omega) (by rw [ha]; rfl) rfl ?_
  refine g_putN (fs' := [.ref (a + 1), .ref (a + 2), .null, .int 0]) k1_17 f1_17 ha (by show 1 < 4; omega) rfl rfl ?_
  refine g_aload_n k1_20 rfl ?_
  refine g_bipush (v := nn 25) k1_21 cb_25 ?_
  refine g_newIN (a := a + 3) (tl' := [am_I 24 (fun _ => 0), am_I 25 (fun _ => 0), am_I 25 (fun _ => 0)]) k1_23 rfl (by omega) (by rw [ha]; rfl) rfl ?_
  refine g_putN (fs' := [.ref (a + 1), .ref (a + 2), .ref (a + 3), .int 0]) k1_25 f1_25 ha (by show 2 < 4; omega) rfl rfl ?_
  refine g_aload_n k1_28 rfl ?_
  refine g_iconst (v := nn 0) k1_29 ci_0 ?_
  refine g_putN (fs' := [.ref (a + 1), .ref (a + 2), .ref (a + 3), .int (nn 0)]) k1_30 f1_30 ha (by show 3 < 4; omega) rfl rfl ?_
  refine g_return k1_33 t1 ?_
  exact kk
theorem s_3 (ha : a = h0.length) (kk : Q (.inl none) (h0 ++ [.inr (4, [.ref (a + 1), .ref (a + 2), .int (nn 0), .int (nn 0), .ref (a + 3), .ref (a + 4)]), am_R 3 6 (fun _ => none), am_R 3 6 (fun _ => none), am_J 65 (fun _ => 0), am_J 65 (fun _ => 0)])) : go (tb_P L xs) 3 0 [some (.ref a)] [] (h0 ++ [.inr (4, [.null, .null, .int 0, .int 0, .null, .null])]) Q := by
  refine g_aload_n k3_0 rfl ?_
  refine g_oinit k3_1 s3_1 r3_1 ?_
  refine g_aload_n k3_4 rfl ?_
  refine g_bipush (v := nn 6) k3_5 cb_6 ?_
  refine g_newRN (a := a + 1) (tl' := [am_R 3 6 (fun _ => none)]) k3_7 n3_7 rfl (by omega) (by rw [ha]; rfl) rfl ?_
  refine g_putN (fs' := [.ref (a + 1), .null, .int 0, .int 0, .null, .null]) k3_10 f3_10 ha (by show 0 < 6; omega) rfl rfl ?_
  refine g_aload_n k3_13 rfl ?_
  refine g_bipush (v := nn 6) k3_14 cb_6 ?_
  refine g_newRN (a := a + 2) (tl' := [am_R 3 6 (fun _ => none), am_R 3 6 (fun _ => none)]) k3_16 n3_16 rfl (by omega) (by rw [ha]; rfl) rfl ?_
  refine g_putN (fs' := [.ref (a + 1), .ref (a + 2), .int 0, .int 0, .null, .null]) k3_19 f3_19 ha (by show 1 < 6; omega) rfl rfl ?_
  refine g_aload_n k3_22 rfl ?_
  refine g_iconst (v := nn 0) k3_23 ci_0 ?_
  refine g_putN (fs' := [.ref (a + 1), .ref (a + 2), .int (nn 0), .int 0, .null, .null]) k3_24 f3_24 ha (by show 2 < 6; omega) rfl rfl ?_
  refine g_aload_n k3_27 rfl ?_
  refine g_iconst (v := nn 0) k3_28 ci_0 ?_
  refine g_putN (fs' := [.ref (a + 1), .ref (a + 2), .int (nn 0), .int (nn 0), .null, .null]) k3_29 f3_29 ha (by show 3 < 6; omega) rfl rfl ?_
  refine g_aload_n k3_32 rfl ?_
  refine g_bipush (v := nn 65) k3_33 cb_65 ?_
  refine g_newJN (a := a + 3) (tl' := [am_R 3 6 (fun _ => none), am_R 3 6 (fun _ => none), am_J 65 (fun _ => 0)]) k3_35 rfl (by omega) (by rw [ha]; rfl) rfl ?_
  refine g_putN (fs' := [.ref (a + 1), .ref (a + 2), .int (nn 0), .int (nn 0), .ref (a + 3), .null]) k3_37 f3_37 ha (by show 4 < 6; omega) rfl rfl ?_
  refine g_aload_n k3_40 rfl ?_
  refine g_bipush (v := nn 65) k3_41 cb_65 ?_
  refine g_newJN (a := a + 4) (tl' := [am_R 3 6 (fun _ => none), am_R 3 6 (fun _ => none), am_J 65 (fun _ => 0), am_J 65 (fun _ => 0)]) k3_43 rfl (by omega) (by rw [ha]; rfl) rfl ?_
  refine g_putN (fs' := [.ref (a + 1), .ref (a + 2), .int (nn 0), .int (nn 0), .ref (a + 3), .ref (a + 4)]) k3_45 f3_45 ha (by show 5 < 6; omega) rfl rfl ?_
  refine g_return k3_48 t3 ?_
  exact kk
theorem s_5 (ha : a = h0.length) (kk : Q (.inl none) (h0 ++ [.inr (6, [.ref (b), .ref (a + 1), .ref (a + 2), .int (nn 0)]), am_I 7 (fun _ => 0), am_I 7 (fun _ => 0)])) : go (tb_P L xs) 5 0 [some (.ref a), some (.ref b)] [] (h0 ++ [.inr (6, [.null, .null, .null, .int 0])]) Q := by
  refine g_aload_n k5_0 rfl ?_
  refine g_oinit k5_1 s5_1 r5_1 ?_
  refine g_aload_n k5_4 rfl ?_
  refine g_bipush (v := nn 7) k5_5 cb_7 ?_
  refine g_newIN (a := a + 1) (tl' := [am_I 7 (fun _ => 0)]) k5_7 rfl (by omega) (by rw [ha]; rfl) rfl ?_
  refine g_putN (fs' := [.null, .ref (a + 1), .null, .int 0]) k5_9 f5_9 ha (by show 1 < 4; omega) rfl rfl ?_
  refine g_aload_n k5_12 rfl ?_
  refine g_bipush (v := nn 7) k5_13 cb_7 ?_
  refine g_newIN (a := a + 2) (tl' := [am_I 7 (fun _ => 0), am_I 7 (fun _ => 0)]) k5_15 rfl (by omega) (by rw [ha]; rfl) rfl ?_
  refine g_putN (fs' := [.null, .ref (a + 1), .ref (a + 2), .int 0]) k5_17 f5_17 ha (by show 2 < 4; omega) rfl rfl ?_
  refine g_aload_n k5_20 rfl ?_
  refine g_iconst (v := nn 0) k5_21 ci_0 ?_
  refine g_putN (fs' := [.null, .ref (a + 1), .ref (a + 2), .int (nn 0)]) k5_22 f5_22 ha (by show 3 < 4; omega) rfl rfl ?_
  refine g_aload_n k5_25 rfl ?_
  refine g_aload_n k5_26 rfl ?_
  refine g_putN (fs' := [.ref (b), .ref (a + 1), .ref (a + 2), .int (nn 0)]) k5_27 f5_27 ha (by show 0 < 4; omega) rfl rfl ?_
  refine g_return k5_30 t5 ?_
  exact kk
theorem s_6 (ha : a = h0.length) (kk : Q (.inl none) (h0 ++ [.inr (7, [.ref (b), .ref (a + 1), .ref (a + 2), .int (nn 0), .int (nn 0), .int (nn 0)]), am_I 7 (fun _ => 0), am_I 360 (fun _ => 0)])) : go (tb_P L xs) 6 0 [some (.ref a), some (.ref b)] [] (h0 ++ [.inr (7, [.null, .null, .null, .int 0, .int 0, .int 0])]) Q := by
  refine g_aload_n k6_0 rfl ?_
  refine g_oinit k6_1 s6_1 r6_1 ?_
  refine g_aload_n k6_4 rfl ?_
  refine g_bipush (v := nn 7) k6_5 cb_7 ?_
  refine g_newIN (a := a + 1) (tl' := [am_I 7 (fun _ => 0)]) k6_7 rfl (by omega) (by rw [ha]; rfl) rfl ?_
  refine g_putN (fs' := [.null, .ref (a + 1), .null, .int 0, .int 0, .int 0]) k6_9 f6_9 ha (by show 1 < 6; omega) rfl rfl ?_
  refine g_aload_n k6_12 rfl ?_
  refine g_sipush (v := nn 360) k6_13 cs_360 ?_
  refine g_newIN (a := a + 2) (tl' := [am_I 7 (fun _ => 0), am_I 360 (fun _ => 0)]) k6_16 rfl (by omega) (by rw [ha]; rfl) rfl ?_
  refine g_putN (fs' := [.null, .ref (a + 1), .ref (a + 2), .int 0, .int 0, .int 0]) k6_18 f6_18 ha (by show 2 < 6; omega) rfl rfl ?_
  refine g_aload_n k6_21 rfl ?_
  refine g_iconst (v := nn 0) k6_22 ci_0 ?_
  refine g_putN (fs' := [.null, .ref (a + 1), .ref (a + 2), .int (nn 0), .int 0, .int 0]) k6_23 f6_23 ha (by show 3 < 6; omega) rfl rfl ?_
  refine g_aload_n k6_26 rfl ?_
  refine g_iconst (v := nn 0) k6_27 ci_0 ?_
  refine g_putN (fs' := [.null, .ref (a + 1), .ref (a + 2), .int (nn 0), .int (nn 0), .int 0]) k6_28 f6_28 ha (by show 4 < 6; omega) rfl rfl ?_
  refine g_aload_n k6_31 rfl ?_
  refine g_iconst (v := nn 0) k6_32 ci_0 ?_
  refine g_putN (fs' := [.null, .ref (a + 1), .ref (a + 2), .int (nn 0), .int (nn 0), .int (nn 0)]) k6_33 f6_33 ha (by show 5 < 6; omega) rfl rfl ?_
  refine g_aload_n k6_36 rfl ?_
  refine g_aload_n k6_37 rfl ?_
  refine g_putN (fs' := [.ref (b), .ref (a + 1), .ref (a + 2), .int (nn 0), .int (nn 0), .int (nn 0)]) k6_38 f6_38 ha (by show 0 < 6; omega) rfl rfl ?_
  refine g_return k6_41 t6 ?_
  exact kk
theorem s_2 (ha : a = h0.length) (h9 : a < 900) (kk : ∀ g, (∀ j, j < 6 → g j = nn 1) → Q (.inl none) (h0 ++ [.inr (5, [.ref (a + 1), .ref (a + 2), .ref (a + 3), .int (nn 0), .ref (a + 4), .null, .ref (a + 9), .ref (a + 10)]), am_I 6 g, am_I 7 (fun _ => 0), am_R 4 12 (fun _ => none), .inr (4, [.ref (a + 4 + 1), .ref (a + 4 + 2), .int (nn 0), .int (nn 0), .ref (a + 4 + 3), .ref (a + 4 + 4)]), am_R 3 6 (fun _ => none), am_R 3 6 (fun _ => none), am_J 65 (fun _ => 0), am_J 65 (fun _ => 0), am_I 7 (fun _ => 0), am_I 7 (fun _ => 0)])) : go (tb_P L xs) 2 0 [some (.ref a)] [] (h0 ++ [.inr (5, [.null, .null, .null, .int 0, .null, .null, .null, .null])]) Q := by
  refine g_aload_n k2_0 rfl ?_
  refine g_oinit k2_1 s2_1 r2_1 ?_
  refine g_aload_n k2_4 rfl ?_
  refine g_bipush (v := nn 6) k2_5 cb_6 ?_
  refine g_newIN (a := a + 1) (tl' := [am_I 6 (fun _ => 0)]) k2_7 rfl (by omega) (by rw [ha]; rfl) rfl ?_
  refine g_putN (fs' := [.ref (a + 1), .null, .null, .int 0, .null, .null, .null, .null]) k2_9 f2_9 ha (by show 0 < 8; omega) rfl rfl ?_
  refine g_aload_n k2_12 rfl ?_
  refine g_bipush (v := nn 7) k2_13 cb_7 ?_
  refine g_newIN (a := a + 2) (tl' := [am_I 6 (fun _ => 0), am_I 7 (fun _ => 0)]) k2_15 rfl (by omega) (by rw [ha]; rfl) rfl ?_
  refine g_putN (fs' := [.ref (a + 1), .ref (a + 2), .null, .int 0, .null, .null, .null, .null]) k2_17 f2_17 ha (by show 1 < 8; omega) rfl rfl ?_
  refine g_aload_n k2_20 rfl ?_
  refine g_bipush (v := nn 12) k2_21 cb_12 ?_
  refine g_newRN (a := a + 3) (tl' := [am_I 6 (fun _ => 0), am_I 7 (fun _ => 0), am_R 4 12 (fun _ => none)]) k2_23 n2_23 rfl (by omega) (by rw [ha]; rfl) rfl ?_
  refine g_putN (fs' := [.ref (a + 1), .ref (a + 2), .ref (a + 3), .int 0, .null, .null, .null, .null]) k2_26 f2_26 ha (by show 2 < 8; omega) rfl rfl ?_
  refine g_aload_n k2_29 rfl ?_
  refine g_iconst (v := nn 0) k2_30 ci_0 ?_
  refine g_putN (fs' := [.ref (a + 1), .ref (a + 2), .ref (a + 3), .int (nn 0), .null, .null, .null, .null]) k2_31 f2_31 ha (by show 3 < 8; omega) rfl rfl ?_
  refine g_aload_n k2_34 rfl ?_
  refine g_newN (a := a + 4) k2_35 n2_35 (by rw [ha]; rfl) ?_
  rw [show am_df (tb_P L xs) 4 = [.null, .null, .int 0, .int 0, .null, .null] from rfl]
  refine g_dup k2_38 rfl ?_
  refine g_callI0 k2_39 s2_39 c2_39 l3 (by omega) trivial rfl r2_39 ?_
  refine s_3 (a := a + 4) (by rw [ha, ln_0]; rfl) ?_
  refine af_void ?_
  refine go_app (tl' := [am_I 6 (fun _ => 0), am_I 7 (fun _ => 0), am_R 4 12 (fun _ => none), .inr (4, [.ref (a + 4 + 1), .ref (a + 4 + 2), .int (nn 0), .int (nn 0), .ref (a + 4 + 3), .ref (a + 4 + 4)]), am_R 3 6 (fun _ => none), am_R 3 6 (fun _ => none), am_J 65 (fun _ => 0), am_J 65 (fun _ => 0)]) rfl ?_
  refine g_putN (fs' := [.ref (a + 1), .ref (a + 2), .ref (a + 3), .int (nn 0), .ref (a + 4), .null, .null, .null]) k2_42 f2_42 ha (by show 4 < 8; omega) rfl rfl ?_
  refine g_aload_n k2_45 rfl ?_
  refine g_null k2_46 ?_
  refine g_putN (fs' := [.ref (a + 1), .ref (a + 2), .ref (a + 3), .int (nn 0), .ref (a + 4), .null, .null, .null]) k2_47 f2_47 ha (by show 5 < 8; omega) rfl rfl ?_
  refine g_aload_n k2_50 rfl ?_
  refine g_bipush (v := nn 7) k2_51 cb_7 ?_
  refine g_newIN (a := a + 9) (tl' := [am_I 6 (fun _ => 0), am_I 7 (fun _ => 0), am_R 4 12 (fun _ => none), .inr (4, [.ref (a + 4 + 1), .ref (a + 4 + 2), .int (nn 0), .int (nn 0), .ref (a + 4 + 3), .ref (a + 4 + 4)]), am_R 3 6 (fun _ => none), am_R 3 6 (fun _ => none), am_J 65 (fun _ => 0), am_J 65 (fun _ => 0), am_I 7 (fun _ => 0)]) k2_53 rfl (by omega) (by rw [ha]; rfl) rfl ?_
  refine g_putN (fs' := [.ref (a + 1), .ref (a + 2), .ref (a + 3), .int (nn 0), .ref (a + 4), .null, .ref (a + 9), .null]) k2_55 f2_55 ha (by show 6 < 8; omega) rfl rfl ?_
  refine g_aload_n k2_58 rfl ?_
  refine g_bipush (v := nn 7) k2_59 cb_7 ?_
  refine g_newIN (a := a + 10) (tl' := [am_I 6 (fun _ => 0), am_I 7 (fun _ => 0), am_R 4 12 (fun _ => none), .inr (4, [.ref (a + 4 + 1), .ref (a + 4 + 2), .int (nn 0), .int (nn 0), .ref (a + 4 + 3), .ref (a + 4 + 4)]), am_R 3 6 (fun _ => none), am_R 3 6 (fun _ => none), am_J 65 (fun _ => 0), am_J 65 (fun _ => 0), am_I 7 (fun _ => 0), am_I 7 (fun _ => 0)]) k2_61 rfl (by omega) (by rw [ha]; rfl) rfl ?_
  refine g_putN (fs' := [.ref (a + 1), .ref (a + 2), .ref (a + 3), .int (nn 0), .ref (a + 4), .null, .ref (a + 9), .ref (a + 10)]) k2_63 f2_63 ha (by show 7 < 8; omega) rfl rfl ?_
  refine g_aload_n k2_66 rfl ?_
  refine g_get k2_67 f2_67 (at_0 ha) rfl ?_
  refine g_iconst (v := nn 1) k2_70 ci_1 ?_
  refine g_callS2 k2_71 s2_71 c2_71 l4 (by omega) ⟨rfl, rfl⟩ rfl r2_71 ?_
  refine s_4 (f := fun _ => 0) (by rw [List.getElem?_append_right (by omega), show a + 1 - h0.length = 1 by omega]; rfl) (by omega) (fun g hg => ?_)
  refine af_void ?_
  rw [show (h0 ++ .inr (5, [.ref (a + 1), .ref (a + 2), .ref (a + 3), .int (nn 0), .ref (a + 4), .null, .ref (a + 9), .ref (a + 10)]) :: [am_I 6 (fun _ => 0), am_I 7 (fun _ => 0), am_R 4 12 (fun _ => none), .inr (4, [.ref (a + 4 + 1), .ref (a + 4 + 2), .int (nn 0), .int (nn 0), .ref (a + 4 + 3), .ref (a + 4 + 4)]), am_R 3 6 (fun _ => none), am_R 3 6 (fun _ => none), am_J 65 (fun _ => 0), am_J 65 (fun _ => 0), am_I 7 (fun _ => 0), am_I 7 (fun _ => 0)]).set (a + 1) (am_I 6 g) = h0 ++ .inr (5, [.ref (a + 1), .ref (a + 2), .ref (a + 3), .int (nn 0), .ref (a + 4), .null, .ref (a + 9), .ref (a + 10)]) :: [am_I 6 g, am_I 7 (fun _ => 0), am_R 4 12 (fun _ => none), .inr (4, [.ref (a + 4 + 1), .ref (a + 4 + 2), .int (nn 0), .int (nn 0), .ref (a + 4 + 3), .ref (a + 4 + 4)]), am_R 3 6 (fun _ => none), am_R 3 6 (fun _ => none), am_J 65 (fun _ => 0), am_J 65 (fun _ => 0), am_I 7 (fun _ => 0), am_I 7 (fun _ => 0)] by rw [List.set_append_right _ _ (by omega), show a + 1 - h0.length = 1 by omega]; rfl]
  refine g_return k2_74 t2 ?_
  exact kk g hg
theorem s_0 (ha : a = h0.length) (h9 : a < 800) (kk : ∀ g, (∀ j, j < 6 → g j = nn 1) → Q (.inl none) (h0 ++ [.inr (0, [.ref (a + 1), .ref (a + 5), .int (nn 0), .ref (a + 7), .ref (a + 18), .ref (a + 21), .ref (a + 6), .int (nn 0)]), .inr (1, [.ref (a + 1 + 1), .ref (a + 1 + 2), .ref (a + 1 + 3), .int (nn 0)]), am_I 24 (fun _ => 0), am_I 25 (fun _ => 0), am_I 25 (fun _ => 0), am_R 3 30 (fun _ => none), am_I 7 (fun _ => 0), .inr (5, [.ref (a + 7 + 1), .ref (a + 7 + 2), .ref (a + 7 + 3), .int (nn 0), .ref (a + 7 + 4), .null, .ref (a + 7 + 9), .ref (a + 7 + 10)]), am_I 6 g, am_I 7 (fun _ => 0), am_R 4 12 (fun _ => none), .inr (4, [.ref (a + 7 + 4 + 1), .ref (a + 7 + 4 + 2), .int (nn 0), .int (nn 0), .ref (a + 7 + 4 + 3), .ref (a + 7 + 4 + 4)]), am_R 3 6 (fun _ => none), am_R 3 6 (fun _ => none), am_J 65 (fun _ => 0), am_J 65 (fun _ => 0), am_I 7 (fun _ => 0), am_I 7 (fun _ => 0), .inr (6, [.ref (a + 7), .ref (a + 18 + 1), .ref (a + 18 + 2), .int (nn 0)]), am_I 7 (fun _ => 0), am_I 7 (fun _ => 0), .inr (7, [.ref (a + 7), .ref (a + 21 + 1), .ref (a + 21 + 2), .int (nn 0), .int (nn 0), .int (nn 0)]), am_I 7 (fun _ => 0), am_I 360 (fun _ => 0)])) : go (tb_P L xs) 0 0 [some (.ref a), none] [] (h0 ++ [.inr (0, [.null, .null, .int 0, .null, .null, .null, .null, .int 0])]) Q := by
  refine g_aload_n k0_0 rfl ?_
  refine g_oinit k0_1 s0_1 r0_1 ?_
  refine g_aload_n k0_4 rfl ?_
  refine g_newN (a := a + 1) k0_5 n0_5 (by rw [ha]; rfl) ?_
  rw [show am_df (tb_P L xs) 1 = [.null, .null, .null, .int 0] from rfl]
  refine g_dup k0_8 rfl ?_
  refine g_callI0 k0_9 s0_9 c0_9 l1 (by omega) trivial rfl r0_9 ?_
  refine s_1 (a := a + 1) (by rw [ha, ln_0]; rfl) ?_
  refine af_void ?_
  refine go_app (tl' := [.inr (1, [.ref (a + 1 + 1), .ref (a + 1 + 2), .ref (a + 1 + 3), .int (nn 0)]), am_I 24 (fun _ => 0), am_I 25 (fun _ => 0), am_I 25 (fun _ => 0)]) rfl ?_
  refine g_putN (fs' := [.ref (a + 1), .null, .int 0, .null, .null, .null, .null, .int 0]) k0_12 f0_12 ha (by show 0 < 8; omega) rfl rfl ?_
  refine g_aload_n k0_15 rfl ?_
  refine g_bipush (v := nn 30) k0_16 cb_30 ?_
  refine g_newRN (a := a + 5) (tl' := [.inr (1, [.ref (a + 1 + 1), .ref (a + 1 + 2), .ref (a + 1 + 3), .int (nn 0)]), am_I 24 (fun _ => 0), am_I 25 (fun _ => 0), am_I 25 (fun _ => 0), am_R 3 30 (fun _ => none)]) k0_18 n0_18 rfl (by omega) (by rw [ha]; rfl) rfl ?_
  refine g_putN (fs' := [.ref (a + 1), .ref (a + 5), .int 0, .null, .null, .null, .null, .int 0]) k0_21 f0_21 ha (by show 1 < 8; omega) rfl rfl ?_
  refine g_aload_n k0_24 rfl ?_
  refine g_iconst (v := nn 0) k0_25 ci_0 ?_
  refine g_putN (fs' := [.ref (a + 1), .ref (a + 5), .int (nn 0), .null, .null, .null, .null, .int 0]) k0_26 f0_26 ha (by show 2 < 8; omega) rfl rfl ?_
  refine g_aload_n k0_29 rfl ?_
  refine g_bipush (v := nn 7) k0_30 cb_7 ?_
  refine g_newIN (a := a + 6) (tl' := [.inr (1, [.ref (a + 1 + 1), .ref (a + 1 + 2), .ref (a + 1 + 3), .int (nn 0)]), am_I 24 (fun _ => 0), am_I 25 (fun _ => 0), am_I 25 (fun _ => 0), am_R 3 30 (fun _ => none), am_I 7 (fun _ => 0)]) k0_32 rfl (by omega) (by rw [ha]; rfl) rfl ?_
  refine g_putN (fs' := [.ref (a + 1), .ref (a + 5), .int (nn 0), .null, .null, .null, .ref (a + 6), .int 0]) k0_34 f0_34 ha (by show 6 < 8; omega) rfl rfl ?_
  refine g_aload_n k0_37 rfl ?_
  refine g_iconst (v := nn 0) k0_38 ci_0 ?_
  refine g_putN (fs' := [.ref (a + 1), .ref (a + 5), .int (nn 0), .null, .null, .null, .ref (a + 6), .int (nn 0)]) k0_39 f0_39 ha (by show 7 < 8; omega) rfl rfl ?_
  refine g_newN (a := a + 7) k0_42 n0_42 (by rw [ha]; rfl) ?_
  rw [show am_df (tb_P L xs) 5 = [.null, .null, .null, .int 0, .null, .null, .null, .null] from rfl]
  refine g_dup k0_45 rfl ?_
  refine g_callI0 k0_46 s0_46 c0_46 l2 (by omega) trivial rfl r0_46 ?_
  refine s_2 (a := a + 7) (by rw [ha, ln_0]; rfl) (by omega) (fun g hg => ?_)
  refine af_void ?_
  refine go_app (tl' := [.inr (1, [.ref (a + 1 + 1), .ref (a + 1 + 2), .ref (a + 1 + 3), .int (nn 0)]), am_I 24 (fun _ => 0), am_I 25 (fun _ => 0), am_I 25 (fun _ => 0), am_R 3 30 (fun _ => none), am_I 7 (fun _ => 0), .inr (5, [.ref (a + 7 + 1), .ref (a + 7 + 2), .ref (a + 7 + 3), .int (nn 0), .ref (a + 7 + 4), .null, .ref (a + 7 + 9), .ref (a + 7 + 10)]), am_I 6 g, am_I 7 (fun _ => 0), am_R 4 12 (fun _ => none), .inr (4, [.ref (a + 7 + 4 + 1), .ref (a + 7 + 4 + 2), .int (nn 0), .int (nn 0), .ref (a + 7 + 4 + 3), .ref (a + 7 + 4 + 4)]), am_R 3 6 (fun _ => none), am_R 3 6 (fun _ => none), am_J 65 (fun _ => 0), am_J 65 (fun _ => 0), am_I 7 (fun _ => 0), am_I 7 (fun _ => 0)]) rfl ?_
  refine g_astore_n k0_49 rfl rfl ?_
  refine g_aload_n k0_50 rfl ?_
  refine g_aload_n k0_51 rfl ?_
  refine g_putN (fs' := [.ref (a + 1), .ref (a + 5), .int (nn 0), .ref (a + 7), .null, .null, .ref (a + 6), .int (nn 0)]) k0_52 f0_52 ha (by show 3 < 8; omega) rfl rfl ?_
  refine g_aload_n k0_55 rfl ?_
  refine g_newN (a := a + 18) k0_56 n0_56 (by rw [ha]; rfl) ?_
  rw [show am_df (tb_P L xs) 6 = [.null, .null, .null, .int 0] from rfl]
  refine g_dup k0_59 rfl ?_
  refine g_aload_n k0_60 rfl ?_
  refine g_callI1 k0_61 s0_61 c0_61 l5 (by omega) rfl rfl r0_61 ?_
  refine s_5 (a := a + 18) (b := a + 7) (by rw [ha, ln_0]; rfl) ?_
  refine af_void ?_
  refine go_app (tl' := [.inr (1, [.ref (a + 1 + 1), .ref (a + 1 + 2), .ref (a + 1 + 3), .int (nn 0)]), am_I 24 (fun _ => 0), am_I 25 (fun _ => 0), am_I 25 (fun _ => 0), am_R 3 30 (fun _ => none), am_I 7 (fun _ => 0), .inr (5, [.ref (a + 7 + 1), .ref (a + 7 + 2), .ref (a + 7 + 3), .int (nn 0), .ref (a + 7 + 4), .null, .ref (a + 7 + 9), .ref (a + 7 + 10)]), am_I 6 g, am_I 7 (fun _ => 0), am_R 4 12 (fun _ => none), .inr (4, [.ref (a + 7 + 4 + 1), .ref (a + 7 + 4 + 2), .int (nn 0), .int (nn 0), .ref (a + 7 + 4 + 3), .ref (a + 7 + 4 + 4)]), am_R 3 6 (fun _ => none), am_R 3 6 (fun _ => none), am_J 65 (fun _ => 0), am_J 65 (fun _ => 0), am_I 7 (fun _ => 0), am_I 7 (fun _ => 0), .inr (6, [.ref (a + 7), .ref (a + 18 + 1), .ref (a + 18 + 2), .int (nn 0)]), am_I 7 (fun _ => 0), am_I 7 (fun _ => 0)]) rfl ?_
  refine g_putN (fs' := [.ref (a + 1), .ref (a + 5), .int (nn 0), .ref (a + 7), .ref (a + 18), .null, .ref (a + 6), .int (nn 0)]) k0_64 f0_64 ha (by show 4 < 8; omega) rfl rfl ?_
  refine g_aload_n k0_67 rfl ?_
  refine g_newN (a := a + 21) k0_68 n0_68 (by rw [ha]; rfl) ?_
  rw [show am_df (tb_P L xs) 7 = [.null, .null, .null, .int 0, .int 0, .int 0] from rfl]
  refine g_dup k0_71 rfl ?_
  refine g_aload_n k0_72 rfl ?_
  refine g_callI1 k0_73 s0_73 c0_73 l6 (by omega) rfl rfl r0_73 ?_
  refine s_6 (a := a + 21) (b := a + 7) (by rw [ha, ln_0]; rfl) ?_
  refine af_void ?_
  refine go_app (tl' := [.inr (1, [.ref (a + 1 + 1), .ref (a + 1 + 2), .ref (a + 1 + 3), .int (nn 0)]), am_I 24 (fun _ => 0), am_I 25 (fun _ => 0), am_I 25 (fun _ => 0), am_R 3 30 (fun _ => none), am_I 7 (fun _ => 0), .inr (5, [.ref (a + 7 + 1), .ref (a + 7 + 2), .ref (a + 7 + 3), .int (nn 0), .ref (a + 7 + 4), .null, .ref (a + 7 + 9), .ref (a + 7 + 10)]), am_I 6 g, am_I 7 (fun _ => 0), am_R 4 12 (fun _ => none), .inr (4, [.ref (a + 7 + 4 + 1), .ref (a + 7 + 4 + 2), .int (nn 0), .int (nn 0), .ref (a + 7 + 4 + 3), .ref (a + 7 + 4 + 4)]), am_R 3 6 (fun _ => none), am_R 3 6 (fun _ => none), am_J 65 (fun _ => 0), am_J 65 (fun _ => 0), am_I 7 (fun _ => 0), am_I 7 (fun _ => 0), .inr (6, [.ref (a + 7), .ref (a + 18 + 1), .ref (a + 18 + 2), .int (nn 0)]), am_I 7 (fun _ => 0), am_I 7 (fun _ => 0), .inr (7, [.ref (a + 7), .ref (a + 21 + 1), .ref (a + 21 + 2), .int (nn 0), .int (nn 0), .int (nn 0)]), am_I 7 (fun _ => 0), am_I 360 (fun _ => 0)]) rfl ?_
  refine g_putN (fs' := [.ref (a + 1), .ref (a + 5), .int (nn 0), .ref (a + 7), .ref (a + 18), .ref (a + 21), .ref (a + 6), .int (nn 0)]) k0_76 f0_76 ha (by show 5 < 8; omega) rfl rfl ?_
  refine g_return k0_79 t0 ?_
  exact kk g hg
theorem s_104A {fs : List Value} : ∀ (k i : Nat) {h : am_H} {f : Nat → Int32} {Q : am_A → am_H → Prop}, i + k = 6 → h[a]? = some (.inr (8, fs)) → fs[1]? = some (.ref b) → h[b]? = some (am_I 6 f) → a ≠ b → (∀ j, j < i → f j = nn 1) → (∀ g, (∀ j, j < 6 → g j = nn 1) → go (tb_P L xs) 104 199 [some (.ref a), some (.int (nn 6))] [] (h.set b (am_I 6 g)) Q) → go (tb_P L xs) 104 180 [some (.ref a), some (.int (nn i))] [] h Q := by
  intro k
  induction k with
  | zero =>
    intro i h f Q hi hA hF hb hab hf kk
    have hi : i = 6 := by omega
    subst hi
    refine g_iload_n k104_180 rfl ?_
    refine g_bipush (v := nn 6) k104_181 cb_6 ?_
    refine g_icge_t k104_183 (t := 199) rfl (by decide) ?_
    have := kk f hf
    rw [set_same hb] at this
    exact this
  | succ k ih =>
    intro i h f Q hi hA hF hb hab hf kk
    obtain ⟨e1, e2⟩ := ix_in (i := nn i) (j := i) (n := 6) rfl (by omega) (by omega)
    refine g_iload_n k104_180 rfl ?_
    refine g_bipush (v := nn 6) k104_181 cb_6 ?_
    refine g_icge_f k104_183 (t := 199) rfl (by rw [nn_toInt (by omega), nn_toInt (by omega)]; omega) ?_
    refine g_aload_n k104_186 rfl ?_
    refine g_get k104_187 f104_187 hA hF ?_
    refine g_iload_n k104_190 rfl ?_
    refine g_iconst (v := nn 1) k104_191 ci_1 ?_
    refine g_iastore k104_192 hb e1 rfl ?_
    rw [e2]
    refine g_iincN k104_193 rfl rfl rfl ?_
    refine g_goto k104_196 (t := 180) rfl ?_
    refine ih (i + 1) (by omega) (by rw [set_ne hab]; exact hA) hF (set_at hb) hab (upd_lt hf) (fun g hg => ?_)
    rw [List.set_set]
    exact kk g hg
theorem s_104B {fs : List Value} : ∀ (k i : Nat) {h : am_H} {f : Nat → Int32} {Q : am_A → am_H → Prop}, i + k = 72 → h[a]? = some (.inr (8, fs)) → fs[16]? = some (.ref b) → h[b]? = some (am_I 72 f) → a ≠ b → (∀ j, j < i → f j = -1) → (∀ g, (∀ j, j < 72 → g j = -1) → Q (.inl none) (h.set b (am_I 72 g))) → go (tb_P L xs) 104 201 [some (.ref a), some (.int (nn i))] [] h Q := by
  intro k
  induction k with
  | zero =>
    intro i h f Q hi hA hF hb hab hf kk
    have hi : i = 72 := by omega
    subst hi
    refine g_iload_n k104_201 rfl ?_
    refine g_bipush (v := nn 72) k104_202 cb_72 ?_
    refine g_icge_t k104_204 (t := 220) rfl (by decide) ?_
    refine g_return k104_220 t104 ?_
    have := kk f hf
    rw [set_same hb] at this
    exact this
  | succ k ih =>
    intro i h f Q hi hA hF hb hab hf kk
    obtain ⟨e1, e2⟩ := ix_in (i := nn i) (j := i) (n := 72) rfl (by omega) (by omega)
    refine g_iload_n k104_201 rfl ?_
    refine g_bipush (v := nn 72) k104_202 cb_72 ?_
    refine g_icge_f k104_204 (t := 220) rfl (by rw [nn_toInt (by omega), nn_toInt (by omega)]; omega) ?_
    refine g_aload_n k104_207 rfl ?_
    refine g_get k104_208 f104_208 hA hF ?_
    refine g_iload_n k104_211 rfl ?_
    refine g_iconst (v := -1) k104_212 ci_m1 ?_
    refine g_iastore k104_213 hb e1 rfl ?_
    rw [e2]
    refine g_iincN k104_214 rfl rfl rfl ?_
    refine g_goto k104_217 (t := 201) rfl ?_
    refine ih (i + 1) (by omega) (by rw [set_ne hab]; exact hA) hF (set_at hb) hab (upd_lt hf) (fun g hg => ?_)
    rw [List.set_set]
    exact kk g hg
theorem s_104 (ha : a = h0.length) (kk : ∀ g1 g2, (∀ j, j < 6 → g1 j = nn 1) → (∀ j, j < 72 → g2 j = -1) → Q (.inl none) (h0 ++ [.inr (8, [.int 0, .ref (a + 1), .ref (a + 2), .int 0, .ref (a + 3), .int 0, .ref (a + 4), .ref (a + 5), .ref (a + 6), .ref (a + 7), .ref (a + 8), .int 0, .ref (a + 9), .ref (a + 10), .ref (a + 11), .ref (a + 12), .ref (a + 13), .ref (a + 14), .ref (a + 15), .ref (a + 16), .int (-1), .ref (a + 17), .ref (a + 18), .int 0, .int 0, .int 0, .ref (a + 19), .int 0, .ref (a + 20), .int 0, .ref (a + 21), .int 0, .int 0]), am_I 6 g1, am_I 6 (fun _ => 0), am_I 24 (fun _ => 0), am_I 30 (fun _ => 0), am_I 720 (fun _ => 0), am_Z 30 (fun _ => 0), am_Z 30 (fun _ => 0), am_Z 30 (fun _ => 0), am_I 12 (fun _ => 0), am_I 12 (fun _ => 0), am_I 12 (fun _ => 0), am_I 12 (fun _ => 0), am_I 72 g2, am_I 12 (fun _ => 0), am_I 2 (fun _ => 0), am_I 12 (fun _ => 0), am_I 6 (fun _ => 0), am_I 6 (fun _ => 0), am_I 366 (fun _ => 0), am_I 7 (fun _ => 0), am_I 30 (fun _ => 0)])) : go (tb_P L xs) 104 0 [some (.ref a), none] [] (h0 ++ [.inr (8, [.int 0, .null, .null, .int 0, .null, .int 0, .null, .null, .null, .null, .null, .int 0, .null, .null, .null, .null, .null, .null, .null, .null, .int 0, .null, .null, .int 0, .int 0, .int 0, .null, .int 0, .null, .int 0, .null, .int 0, .int 0])]) Q := by
  refine g_aload_n k104_0 rfl ?_
  refine g_oinit k104_1 s104_1 r104_1 ?_
  refine g_aload_n k104_4 rfl ?_
  refine g_bipush (v := nn 6) k104_5 cb_6 ?_
  refine g_newIN (a := a + 1) (tl' := [am_I 6 (fun _ => 0)]) k104_7 rfl (by omega) (by rw [ha]; rfl) rfl ?_
  refine g_putN (fs' := [.int 0, .ref (a + 1), .null, .int 0, .null, .int 0, .null, .null, .null, .null, .null, .int 0, .null, .null, .null, .null, .null, .null, .null, .null, .int 0, .null, .null, .int 0, .int 0, .int 0, .null, .int 0, .null, .int 0, .null, .int 0, .int 0]) k104_9 f104_9 ha (by show 1 < 33; omega) rfl rfl ?_
  refine g_aload_n k104_12 rfl ?_
  refine g_bipush (v := nn 6) k104_13 cb_6 ?_
  refine g_newIN (a := a + 2) (tl' := [am_I 6 (fun _ => 0), am_I 6 (fun _ => 0)]) k104_15 rfl (by omega) (by rw [ha]; rfl) rfl ?_
  refine g_putN (fs' := [.int 0, .ref (a + 1), .ref (a + 2), .int 0, .null, .int 0, .null, .null, .null, .null, .null, .int 0, .null, .null, .null, .null, .null, .null, .null, .null, .int 0, .null, .null, .int 0, .int 0, .int 0, .null, .int 0, .null, .int 0, .null, .int 0, .int 0]) k104_17 f104_17 ha (by show 2 < 33; omega) rfl rfl ?_
  refine g_aload_n k104_20 rfl ?_
  refine g_bipush (v := nn 24) k104_21 cb_24 ?_
  refine g_newIN (a := a + 3) (tl' := [am_I 6 (fun _ => 0), am_I 6 (fun _ => 0), am_I 24 (fun _ => 0)]) k104_23 rfl (by omega) (by rw [ha]; rfl) rfl ?_
  refine g_putN (fs' := [.int 0, .ref (a + 1), .ref (a + 2), .int 0, .ref (a + 3), .int 0, .null, .null, .null, .null, .null, .int 0, .null, .null, .null, .null, .null, .null, .null, .null, .int 0, .null, .null, .int 0, .int 0, .int 0, .null, .int 0, .null, .int 0, .null, .int 0, .int 0]) k104_25 f104_25 ha (by show 4 < 33; omega) rfl rfl ?_
  refine g_aload_n k104_28 rfl ?_
  refine g_bipush (v := nn 30) k104_29 cb_30 ?_
  refine g_newIN (a := a + 4) (tl' := [am_I 6 (fun _ => 0), am_I 6 (fun _ => 0), am_I 24 (fun _ => 0), am_I 30 (fun _ => 0)]) k104_31 rfl (by omega) (by rw [ha]; rfl) rfl ?_
  refine g_putN (fs' := [.int 0, .ref (a + 1), .ref (a + 2), .int 0, .ref (a + 3), .int 0, .ref (a + 4), .null, .null, .null, .null, .int 0, .null, .null, .null, .null, .null, .null, .null, .null, .int 0, .null, .null, .int 0, .int 0, .int 0, .null, .int 0, .null, .int 0, .null, .int 0, .int 0]) k104_33 f104_33 ha (by show 6 < 33; omega) rfl rfl ?_
  refine g_aload_n k104_36 rfl ?_
  refine g_sipush (v := nn 720) k104_37 cs_720 ?_
  refine g_newIN (a := a + 5) (tl' := [am_I 6 (fun _ => 0), am_I 6 (fun _ => 0), am_I 24 (fun _ => 0), am_I 30 (fun _ => 0), am_I 720 (fun _ => 0)]) k104_40 rfl (by omega) (by rw [ha]; rfl) rfl ?_
  refine g_putN (fs' := [.int 0, .ref (a + 1), .ref (a + 2), .int 0, .ref (a + 3), .int 0, .ref (a + 4), .ref (a + 5), .null, .null, .null, .int 0, .null, .null, .null, .null, .null, .null, .null, .null, .int 0, .null, .null, .int 0, .int 0, .int 0, .null, .int 0, .null, .int 0, .null, .int 0, .int 0]) k104_42 f104_42 ha (by show 7 < 33; omega) rfl rfl ?_
  refine g_aload_n k104_45 rfl ?_
  refine g_bipush (v := nn 30) k104_46 cb_30 ?_
  refine g_newZN (a := a + 6) (tl' := [am_I 6 (fun _ => 0), am_I 6 (fun _ => 0), am_I 24 (fun _ => 0), am_I 30 (fun _ => 0), am_I 720 (fun _ => 0), am_Z 30 (fun _ => 0)]) k104_48 rfl (by omega) (by rw [ha]; rfl) rfl ?_
  refine g_putN (fs' := [.int 0, .ref (a + 1), .ref (a + 2), .int 0, .ref (a + 3), .int 0, .ref (a + 4), .ref (a + 5), .ref (a + 6), .null, .null, .int 0, .null, .null, .null, .null, .null, .null, .null, .null, .int 0, .null, .null, .int 0, .int 0, .int 0, .null, .int 0, .null, .int 0, .null, .int 0, .int 0]) k104_50 f104_50 ha (by show 8 < 33; omega) rfl rfl ?_
  refine g_aload_n k104_53 rfl ?_
  refine g_bipush (v := nn 30) k104_54 cb_30 ?_
  refine g_newZN (a := a + 7) (tl' := [am_I 6 (fun _ => 0), am_I 6 (fun _ => 0), am_I 24 (fun _ => 0), am_I 30 (fun _ => 0), am_I 720 (fun _ => 0), am_Z 30 (fun _ => 0), am_Z 30 (fun _ => 0)]) k104_56 rfl (by omega) (by rw [ha]; rfl) rfl ?_
  refine g_putN (fs' := [.int 0, .ref (a + 1), .ref (a + 2), .int 0, .ref (a + 3), .int 0, .ref (a + 4), .ref (a + 5), .ref (a + 6), .ref (a + 7), .null, .int 0, .null, .null, .null, .null, .null, .null, .null, .null, .int 0, .null, .null, .int 0, .int 0, .int 0, .null, .int 0, .null, .int 0, .null, .int 0, .int 0]) k104_58 f104_58 ha (by show 9 < 33; omega) rfl rfl ?_
  refine g_aload_n k104_61 rfl ?_
  refine g_bipush (v := nn 30) k104_62 cb_30 ?_
  refine g_newZN (a := a + 8) (tl' := [am_I 6 (fun _ => 0), am_I 6 (fun _ => 0), am_I 24 (fun _ => 0), am_I 30 (fun _ => 0), am_I 720 (fun _ => 0), am_Z 30 (fun _ => 0), am_Z 30 (fun _ => 0), am_Z 30 (fun _ => 0)]) k104_64 rfl (by omega) (by rw [ha]; rfl) rfl ?_
  refine g_putN (fs' := [.int 0, .ref (a + 1), .ref (a + 2), .int 0, .ref (a + 3), .int 0, .ref (a + 4), .ref (a + 5), .ref (a + 6), .ref (a + 7), .ref (a + 8), .int 0, .null, .null, .null, .null, .null, .null, .null, .null, .int 0, .null, .null, .int 0, .int 0, .int 0, .null, .int 0, .null, .int 0, .null, .int 0, .int 0]) k104_66 f104_66 ha (by show 10 < 33; omega) rfl rfl ?_
  refine g_aload_n k104_69 rfl ?_
  refine g_bipush (v := nn 12) k104_70 cb_12 ?_
  refine g_newIN (a := a + 9) (tl' := [am_I 6 (fun _ => 0), am_I 6 (fun _ => 0), am_I 24 (fun _ => 0), am_I 30 (fun _ => 0), am_I 720 (fun _ => 0), am_Z 30 (fun _ => 0), am_Z 30 (fun _ => 0), am_Z 30 (fun _ => 0), am_I 12 (fun _ => 0)]) k104_72 rfl (by omega) (by rw [ha]; rfl) rfl ?_
  refine g_putN (fs' := [.int 0, .ref (a + 1), .ref (a + 2), .int 0, .ref (a + 3), .int 0, .ref (a + 4), .ref (a + 5), .ref (a + 6), .ref (a + 7), .ref (a + 8), .int 0, .ref (a + 9), .null, .null, .null, .null, .null, .null, .null, .int 0, .null, .null, .int 0, .int 0, .int 0, .null, .int 0, .null, .int 0, .null, .int 0, .int 0]) k104_74 f104_74 ha (by show 12 < 33; omega) rfl rfl ?_
  refine g_aload_n k104_77 rfl ?_
  refine g_bipush (v := nn 12) k104_78 cb_12 ?_
  refine g_newIN (a := a + 10) (tl' := [am_I 6 (fun _ => 0), am_I 6 (fun _ => 0), am_I 24 (fun _ => 0), am_I 30 (fun _ => 0), am_I 720 (fun _ => 0), am_Z 30 (fun _ => 0), am_Z 30 (fun _ => 0), am_Z 30 (fun _ => 0), am_I 12 (fun _ => 0), am_I 12 (fun _ => 0)]) k104_80 rfl (by omega) (by rw [ha]; rfl) rfl ?_
  refine g_putN (fs' := [.int 0, .ref (a + 1), .ref (a + 2), .int 0, .ref (a + 3), .int 0, .ref (a + 4), .ref (a + 5), .ref (a + 6), .ref (a + 7), .ref (a + 8), .int 0, .ref (a + 9), .ref (a + 10), .null, .null, .null, .null, .null, .null, .int 0, .null, .null, .int 0, .int 0, .int 0, .null, .int 0, .null, .int 0, .null, .int 0, .int 0]) k104_82 f104_82 ha (by show 13 < 33; omega) rfl rfl ?_
  refine g_aload_n k104_85 rfl ?_
  refine g_bipush (v := nn 12) k104_86 cb_12 ?_
  refine g_newIN (a := a + 11) (tl' := [am_I 6 (fun _ => 0), am_I 6 (fun _ => 0), am_I 24 (fun _ => 0), am_I 30 (fun _ => 0), am_I 720 (fun _ => 0), am_Z 30 (fun _ => 0), am_Z 30 (fun _ => 0), am_Z 30 (fun _ => 0), am_I 12 (fun _ => 0), am_I 12 (fun _ => 0), am_I 12 (fun _ => 0)]) k104_88 rfl (by omega) (by rw [ha]; rfl) rfl ?_
  refine g_putN (fs' := [.int 0, .ref (a + 1), .ref (a + 2), .int 0, .ref (a + 3), .int 0, .ref (a + 4), .ref (a + 5), .ref (a + 6), .ref (a + 7), .ref (a + 8), .int 0, .ref (a + 9), .ref (a + 10), .ref (a + 11), .null, .null, .null, .null, .null, .int 0, .null, .null, .int 0, .int 0, .int 0, .null, .int 0, .null, .int 0, .null, .int 0, .int 0]) k104_90 f104_90 ha (by show 14 < 33; omega) rfl rfl ?_
  refine g_aload_n k104_93 rfl ?_
  refine g_bipush (v := nn 12) k104_94 cb_12 ?_
  refine g_newIN (a := a + 12) (tl' := [am_I 6 (fun _ => 0), am_I 6 (fun _ => 0), am_I 24 (fun _ => 0), am_I 30 (fun _ => 0), am_I 720 (fun _ => 0), am_Z 30 (fun _ => 0), am_Z 30 (fun _ => 0), am_Z 30 (fun _ => 0), am_I 12 (fun _ => 0), am_I 12 (fun _ => 0), am_I 12 (fun _ => 0), am_I 12 (fun _ => 0)]) k104_96 rfl (by omega) (by rw [ha]; rfl) rfl ?_
  refine g_putN (fs' := [.int 0, .ref (a + 1), .ref (a + 2), .int 0, .ref (a + 3), .int 0, .ref (a + 4), .ref (a + 5), .ref (a + 6), .ref (a + 7), .ref (a + 8), .int 0, .ref (a + 9), .ref (a + 10), .ref (a + 11), .ref (a + 12), .null, .null, .null, .null, .int 0, .null, .null, .int 0, .int 0, .int 0, .null, .int 0, .null, .int 0, .null, .int 0, .int 0]) k104_98 f104_98 ha (by show 15 < 33; omega) rfl rfl ?_
  refine g_aload_n k104_101 rfl ?_
  refine g_bipush (v := nn 72) k104_102 cb_72 ?_
  refine g_newIN (a := a + 13) (tl' := [am_I 6 (fun _ => 0), am_I 6 (fun _ => 0), am_I 24 (fun _ => 0), am_I 30 (fun _ => 0), am_I 720 (fun _ => 0), am_Z 30 (fun _ => 0), am_Z 30 (fun _ => 0), am_Z 30 (fun _ => 0), am_I 12 (fun _ => 0), am_I 12 (fun _ => 0), am_I 12 (fun _ => 0), am_I 12 (fun _ => 0), am_I 72 (fun _ => 0)]) k104_104 rfl (by omega) (by rw [ha]; rfl) rfl ?_
  refine g_putN (fs' := [.int 0, .ref (a + 1), .ref (a + 2), .int 0, .ref (a + 3), .int 0, .ref (a + 4), .ref (a + 5), .ref (a + 6), .ref (a + 7), .ref (a + 8), .int 0, .ref (a + 9), .ref (a + 10), .ref (a + 11), .ref (a + 12), .ref (a + 13), .null, .null, .null, .int 0, .null, .null, .int 0, .int 0, .int 0, .null, .int 0, .null, .int 0, .null, .int 0, .int 0]) k104_106 f104_106 ha (by show 16 < 33; omega) rfl rfl ?_
  refine g_aload_n k104_109 rfl ?_
  refine g_bipush (v := nn 12) k104_110 cb_12 ?_
  refine g_newIN (a := a + 14) (tl' := [am_I 6 (fun _ => 0), am_I 6 (fun _ => 0), am_I 24 (fun _ => 0), am_I 30 (fun _ => 0), am_I 720 (fun _ => 0), am_Z 30 (fun _ => 0), am_Z 30 (fun _ => 0), am_Z 30 (fun _ => 0), am_I 12 (fun _ => 0), am_I 12 (fun _ => 0), am_I 12 (fun _ => 0), am_I 12 (fun _ => 0), am_I 72 (fun _ => 0), am_I 12 (fun _ => 0)]) k104_112 rfl (by omega) (by rw [ha]; rfl) rfl ?_
  refine g_putN (fs' := [.int 0, .ref (a + 1), .ref (a + 2), .int 0, .ref (a + 3), .int 0, .ref (a + 4), .ref (a + 5), .ref (a + 6), .ref (a + 7), .ref (a + 8), .int 0, .ref (a + 9), .ref (a + 10), .ref (a + 11), .ref (a + 12), .ref (a + 13), .ref (a + 14), .null, .null, .int 0, .null, .null, .int 0, .int 0, .int 0, .null, .int 0, .null, .int 0, .null, .int 0, .int 0]) k104_114 f104_114 ha (by show 17 < 33; omega) rfl rfl ?_
  refine g_aload_n k104_117 rfl ?_
  refine g_iconst (v := nn 2) k104_118 ci_2 ?_
  refine g_newIN (a := a + 15) (tl' := [am_I 6 (fun _ => 0), am_I 6 (fun _ => 0), am_I 24 (fun _ => 0), am_I 30 (fun _ => 0), am_I 720 (fun _ => 0), am_Z 30 (fun _ => 0), am_Z 30 (fun _ => 0), am_Z 30 (fun _ => 0), am_I 12 (fun _ => 0), am_I 12 (fun _ => 0), am_I 12 (fun _ => 0), am_I 12 (fun _ => 0), am_I 72 (fun _ => 0), am_I 12 (fun _ => 0), am_I 2 (fun _ => 0)]) k104_119 rfl (by omega) (by rw [ha]; rfl) rfl ?_
  refine g_putN (fs' := [.int 0, .ref (a + 1), .ref (a + 2), .int 0, .ref (a + 3), .int 0, .ref (a + 4), .ref (a + 5), .ref (a + 6), .ref (a + 7), .ref (a + 8), .int 0, .ref (a + 9), .ref (a + 10), .ref (a + 11), .ref (a + 12), .ref (a + 13), .ref (a + 14), .ref (a + 15), .null, .int 0, .null, .null, .int 0, .int 0, .int 0, .null, .int 0, .null, .int 0, .null, .int 0, .int 0]) k104_121 f104_121 ha (by show 18 < 33; omega) rfl rfl ?_
  refine g_aload_n k104_124 rfl ?_
  refine g_bipush (v := nn 12) k104_125 cb_12 ?_
  refine g_newIN (a := a + 16) (tl' := [am_I 6 (fun _ => 0), am_I 6 (fun _ => 0), am_I 24 (fun _ => 0), am_I 30 (fun _ => 0), am_I 720 (fun _ => 0), am_Z 30 (fun _ => 0), am_Z 30 (fun _ => 0), am_Z 30 (fun _ => 0), am_I 12 (fun _ => 0), am_I 12 (fun _ => 0), am_I 12 (fun _ => 0), am_I 12 (fun _ => 0), am_I 72 (fun _ => 0), am_I 12 (fun _ => 0), am_I 2 (fun _ => 0), am_I 12 (fun _ => 0)]) k104_127 rfl (by omega) (by rw [ha]; rfl) rfl ?_
  refine g_putN (fs' := [.int 0, .ref (a + 1), .ref (a + 2), .int 0, .ref (a + 3), .int 0, .ref (a + 4), .ref (a + 5), .ref (a + 6), .ref (a + 7), .ref (a + 8), .int 0, .ref (a + 9), .ref (a + 10), .ref (a + 11), .ref (a + 12), .ref (a + 13), .ref (a + 14), .ref (a + 15), .ref (a + 16), .int 0, .null, .null, .int 0, .int 0, .int 0, .null, .int 0, .null, .int 0, .null, .int 0, .int 0]) k104_129 f104_129 ha (by show 19 < 33; omega) rfl rfl ?_
  refine g_aload_n k104_132 rfl ?_
  refine g_iconst (v := -1) k104_133 ci_m1 ?_
  refine g_putN (fs' := [.int 0, .ref (a + 1), .ref (a + 2), .int 0, .ref (a + 3), .int 0, .ref (a + 4), .ref (a + 5), .ref (a + 6), .ref (a + 7), .ref (a + 8), .int 0, .ref (a + 9), .ref (a + 10), .ref (a + 11), .ref (a + 12), .ref (a + 13), .ref (a + 14), .ref (a + 15), .ref (a + 16), .int (-1), .null, .null, .int 0, .int 0, .int 0, .null, .int 0, .null, .int 0, .null, .int 0, .int 0]) k104_134 f104_134 ha (by show 20 < 33; omega) rfl rfl ?_
  refine g_aload_n k104_137 rfl ?_
  refine g_bipush (v := nn 6) k104_138 cb_6 ?_
  refine g_newIN (a := a + 17) (tl' := [am_I 6 (fun _ => 0), am_I 6 (fun _ => 0), am_I 24 (fun _ => 0), am_I 30 (fun _ => 0), am_I 720 (fun _ => 0), am_Z 30 (fun _ => 0), am_Z 30 (fun _ => 0), am_Z 30 (fun _ => 0), am_I 12 (fun _ => 0), am_I 12 (fun _ => 0), am_I 12 (fun _ => 0), am_I 12 (fun _ => 0), am_I 72 (fun _ => 0), am_I 12 (fun _ => 0), am_I 2 (fun _ => 0), am_I 12 (fun _ => 0), am_I 6 (fun _ => 0)]) k104_140 rfl (by omega) (by rw [ha]; rfl) rfl ?_
  refine g_putN (fs' := [.int 0, .ref (a + 1), .ref (a + 2), .int 0, .ref (a + 3), .int 0, .ref (a + 4), .ref (a + 5), .ref (a + 6), .ref (a + 7), .ref (a + 8), .int 0, .ref (a + 9), .ref (a + 10), .ref (a + 11), .ref (a + 12), .ref (a + 13), .ref (a + 14), .ref (a + 15), .ref (a + 16), .int (-1), .ref (a + 17), .null, .int 0, .int 0, .int 0, .null, .int 0, .null, .int 0, .null, .int 0, .int 0]) k104_142 f104_142 ha (by show 21 < 33; omega) rfl rfl ?_
  refine g_aload_n k104_145 rfl ?_
  refine g_bipush (v := nn 6) k104_146 cb_6 ?_
  refine g_newIN (a := a + 18) (tl' := [am_I 6 (fun _ => 0), am_I 6 (fun _ => 0), am_I 24 (fun _ => 0), am_I 30 (fun _ => 0), am_I 720 (fun _ => 0), am_Z 30 (fun _ => 0), am_Z 30 (fun _ => 0), am_Z 30 (fun _ => 0), am_I 12 (fun _ => 0), am_I 12 (fun _ => 0), am_I 12 (fun _ => 0), am_I 12 (fun _ => 0), am_I 72 (fun _ => 0), am_I 12 (fun _ => 0), am_I 2 (fun _ => 0), am_I 12 (fun _ => 0), am_I 6 (fun _ => 0), am_I 6 (fun _ => 0)]) k104_148 rfl (by omega) (by rw [ha]; rfl) rfl ?_
  refine g_putN (fs' := [.int 0, .ref (a + 1), .ref (a + 2), .int 0, .ref (a + 3), .int 0, .ref (a + 4), .ref (a + 5), .ref (a + 6), .ref (a + 7), .ref (a + 8), .int 0, .ref (a + 9), .ref (a + 10), .ref (a + 11), .ref (a + 12), .ref (a + 13), .ref (a + 14), .ref (a + 15), .ref (a + 16), .int (-1), .ref (a + 17), .ref (a + 18), .int 0, .int 0, .int 0, .null, .int 0, .null, .int 0, .null, .int 0, .int 0]) k104_150 f104_150 ha (by show 22 < 33; omega) rfl rfl ?_
  refine g_aload_n k104_153 rfl ?_
  refine g_sipush (v := nn 366) k104_154 cs_366 ?_
  refine g_newIN (a := a + 19) (tl' := [am_I 6 (fun _ => 0), am_I 6 (fun _ => 0), am_I 24 (fun _ => 0), am_I 30 (fun _ => 0), am_I 720 (fun _ => 0), am_Z 30 (fun _ => 0), am_Z 30 (fun _ => 0), am_Z 30 (fun _ => 0), am_I 12 (fun _ => 0), am_I 12 (fun _ => 0), am_I 12 (fun _ => 0), am_I 12 (fun _ => 0), am_I 72 (fun _ => 0), am_I 12 (fun _ => 0), am_I 2 (fun _ => 0), am_I 12 (fun _ => 0), am_I 6 (fun _ => 0), am_I 6 (fun _ => 0), am_I 366 (fun _ => 0)]) k104_157 rfl (by omega) (by rw [ha]; rfl) rfl ?_
  refine g_putN (fs' := [.int 0, .ref (a + 1), .ref (a + 2), .int 0, .ref (a + 3), .int 0, .ref (a + 4), .ref (a + 5), .ref (a + 6), .ref (a + 7), .ref (a + 8), .int 0, .ref (a + 9), .ref (a + 10), .ref (a + 11), .ref (a + 12), .ref (a + 13), .ref (a + 14), .ref (a + 15), .ref (a + 16), .int (-1), .ref (a + 17), .ref (a + 18), .int 0, .int 0, .int 0, .ref (a + 19), .int 0, .null, .int 0, .null, .int 0, .int 0]) k104_159 f104_159 ha (by show 26 < 33; omega) rfl rfl ?_
  refine g_aload_n k104_162 rfl ?_
  refine g_bipush (v := nn 7) k104_163 cb_7 ?_
  refine g_newIN (a := a + 20) (tl' := [am_I 6 (fun _ => 0), am_I 6 (fun _ => 0), am_I 24 (fun _ => 0), am_I 30 (fun _ => 0), am_I 720 (fun _ => 0), am_Z 30 (fun _ => 0), am_Z 30 (fun _ => 0), am_Z 30 (fun _ => 0), am_I 12 (fun _ => 0), am_I 12 (fun _ => 0), am_I 12 (fun _ => 0), am_I 12 (fun _ => 0), am_I 72 (fun _ => 0), am_I 12 (fun _ => 0), am_I 2 (fun _ => 0), am_I 12 (fun _ => 0), am_I 6 (fun _ => 0), am_I 6 (fun _ => 0), am_I 366 (fun _ => 0), am_I 7 (fun _ => 0)]) k104_165 rfl (by omega) (by rw [ha]; rfl) rfl ?_
  refine g_putN (fs' := [.int 0, .ref (a + 1), .ref (a + 2), .int 0, .ref (a + 3), .int 0, .ref (a + 4), .ref (a + 5), .ref (a + 6), .ref (a + 7), .ref (a + 8), .int 0, .ref (a + 9), .ref (a + 10), .ref (a + 11), .ref (a + 12), .ref (a + 13), .ref (a + 14), .ref (a + 15), .ref (a + 16), .int (-1), .ref (a + 17), .ref (a + 18), .int 0, .int 0, .int 0, .ref (a + 19), .int 0, .ref (a + 20), .int 0, .null, .int 0, .int 0]) k104_167 f104_167 ha (by show 28 < 33; omega) rfl rfl ?_
  refine g_aload_n k104_170 rfl ?_
  refine g_bipush (v := nn 30) k104_171 cb_30 ?_
  refine g_newIN (a := a + 21) (tl' := [am_I 6 (fun _ => 0), am_I 6 (fun _ => 0), am_I 24 (fun _ => 0), am_I 30 (fun _ => 0), am_I 720 (fun _ => 0), am_Z 30 (fun _ => 0), am_Z 30 (fun _ => 0), am_Z 30 (fun _ => 0), am_I 12 (fun _ => 0), am_I 12 (fun _ => 0), am_I 12 (fun _ => 0), am_I 12 (fun _ => 0), am_I 72 (fun _ => 0), am_I 12 (fun _ => 0), am_I 2 (fun _ => 0), am_I 12 (fun _ => 0), am_I 6 (fun _ => 0), am_I 6 (fun _ => 0), am_I 366 (fun _ => 0), am_I 7 (fun _ => 0), am_I 30 (fun _ => 0)]) k104_173 rfl (by omega) (by rw [ha]; rfl) rfl ?_
  refine g_putN (fs' := [.int 0, .ref (a + 1), .ref (a + 2), .int 0, .ref (a + 3), .int 0, .ref (a + 4), .ref (a + 5), .ref (a + 6), .ref (a + 7), .ref (a + 8), .int 0, .ref (a + 9), .ref (a + 10), .ref (a + 11), .ref (a + 12), .ref (a + 13), .ref (a + 14), .ref (a + 15), .ref (a + 16), .int (-1), .ref (a + 17), .ref (a + 18), .int 0, .int 0, .int 0, .ref (a + 19), .int 0, .ref (a + 20), .int 0, .ref (a + 21), .int 0, .int 0]) k104_175 f104_175 ha (by show 30 < 33; omega) rfl rfl ?_
  refine g_iconst (v := nn 0) k104_178 ci_0 ?_
  refine g_istore_n k104_179 rfl rfl ?_
  refine s_104A (b := a + 1) (f := fun _ => 0) 6 0 (by omega) (at_0 ha) rfl (by rw [List.getElem?_append_right (by omega), show a + 1 - h0.length = 1 by omega]; rfl) (by omega) (fun j hj => by omega) (fun g1 hg1 => ?_)
  rw [show (h0 ++ .inr (8, [.int 0, .ref (a + 1), .ref (a + 2), .int 0, .ref (a + 3), .int 0, .ref (a + 4), .ref (a + 5), .ref (a + 6), .ref (a + 7), .ref (a + 8), .int 0, .ref (a + 9), .ref (a + 10), .ref (a + 11), .ref (a + 12), .ref (a + 13), .ref (a + 14), .ref (a + 15), .ref (a + 16), .int (-1), .ref (a + 17), .ref (a + 18), .int 0, .int 0, .int 0, .ref (a + 19), .int 0, .ref (a + 20), .int 0, .ref (a + 21), .int 0, .int 0]) :: [am_I 6 (fun _ => 0), am_I 6 (fun _ => 0), am_I 24 (fun _ => 0), am_I 30 (fun _ => 0), am_I 720 (fun _ => 0), am_Z 30 (fun _ => 0), am_Z 30 (fun _ => 0), am_Z 30 (fun _ => 0), am_I 12 (fun _ => 0), am_I 12 (fun _ => 0), am_I 12 (fun _ => 0), am_I 12 (fun _ => 0), am_I 72 (fun _ => 0), am_I 12 (fun _ => 0), am_I 2 (fun _ => 0), am_I 12 (fun _ => 0), am_I 6 (fun _ => 0), am_I 6 (fun _ => 0), am_I 366 (fun _ => 0), am_I 7 (fun _ => 0), am_I 30 (fun _ => 0)]).set (a + 1) (am_I 6 g1) = h0 ++ .inr (8, [.int 0, .ref (a + 1), .ref (a + 2), .int 0, .ref (a + 3), .int 0, .ref (a + 4), .ref (a + 5), .ref (a + 6), .ref (a + 7), .ref (a + 8), .int 0, .ref (a + 9), .ref (a + 10), .ref (a + 11), .ref (a + 12), .ref (a + 13), .ref (a + 14), .ref (a + 15), .ref (a + 16), .int (-1), .ref (a + 17), .ref (a + 18), .int 0, .int 0, .int 0, .ref (a + 19), .int 0, .ref (a + 20), .int 0, .ref (a + 21), .int 0, .int 0]) :: [am_I 6 g1, am_I 6 (fun _ => 0), am_I 24 (fun _ => 0), am_I 30 (fun _ => 0), am_I 720 (fun _ => 0), am_Z 30 (fun _ => 0), am_Z 30 (fun _ => 0), am_Z 30 (fun _ => 0), am_I 12 (fun _ => 0), am_I 12 (fun _ => 0), am_I 12 (fun _ => 0), am_I 12 (fun _ => 0), am_I 72 (fun _ => 0), am_I 12 (fun _ => 0), am_I 2 (fun _ => 0), am_I 12 (fun _ => 0), am_I 6 (fun _ => 0), am_I 6 (fun _ => 0), am_I 366 (fun _ => 0), am_I 7 (fun _ => 0), am_I 30 (fun _ => 0)] by rw [List.set_append_right _ _ (by omega), show a + 1 - h0.length = 1 by omega]; rfl]
  refine g_iconst (v := nn 0) k104_199 ci_0 ?_
  refine g_istore_n k104_200 rfl rfl ?_
  refine s_104B (b := a + 13) (f := fun _ => 0) 72 0 (by omega) (at_0 ha) rfl (by rw [List.getElem?_append_right (by omega), show a + 13 - h0.length = 13 by omega]; rfl) (by omega) (fun j hj => by omega) (fun g2 hg2 => ?_)
  rw [show (h0 ++ .inr (8, [.int 0, .ref (a + 1), .ref (a + 2), .int 0, .ref (a + 3), .int 0, .ref (a + 4), .ref (a + 5), .ref (a + 6), .ref (a + 7), .ref (a + 8), .int 0, .ref (a + 9), .ref (a + 10), .ref (a + 11), .ref (a + 12), .ref (a + 13), .ref (a + 14), .ref (a + 15), .ref (a + 16), .int (-1), .ref (a + 17), .ref (a + 18), .int 0, .int 0, .int 0, .ref (a + 19), .int 0, .ref (a + 20), .int 0, .ref (a + 21), .int 0, .int 0]) :: [am_I 6 g1, am_I 6 (fun _ => 0), am_I 24 (fun _ => 0), am_I 30 (fun _ => 0), am_I 720 (fun _ => 0), am_Z 30 (fun _ => 0), am_Z 30 (fun _ => 0), am_Z 30 (fun _ => 0), am_I 12 (fun _ => 0), am_I 12 (fun _ => 0), am_I 12 (fun _ => 0), am_I 12 (fun _ => 0), am_I 72 (fun _ => 0), am_I 12 (fun _ => 0), am_I 2 (fun _ => 0), am_I 12 (fun _ => 0), am_I 6 (fun _ => 0), am_I 6 (fun _ => 0), am_I 366 (fun _ => 0), am_I 7 (fun _ => 0), am_I 30 (fun _ => 0)]).set (a + 13) (am_I 72 g2) = h0 ++ .inr (8, [.int 0, .ref (a + 1), .ref (a + 2), .int 0, .ref (a + 3), .int 0, .ref (a + 4), .ref (a + 5), .ref (a + 6), .ref (a + 7), .ref (a + 8), .int 0, .ref (a + 9), .ref (a + 10), .ref (a + 11), .ref (a + 12), .ref (a + 13), .ref (a + 14), .ref (a + 15), .ref (a + 16), .int (-1), .ref (a + 17), .ref (a + 18), .int 0, .int 0, .int 0, .ref (a + 19), .int 0, .ref (a + 20), .int 0, .ref (a + 21), .int 0, .int 0]) :: [am_I 6 g1, am_I 6 (fun _ => 0), am_I 24 (fun _ => 0), am_I 30 (fun _ => 0), am_I 720 (fun _ => 0), am_Z 30 (fun _ => 0), am_Z 30 (fun _ => 0), am_Z 30 (fun _ => 0), am_I 12 (fun _ => 0), am_I 12 (fun _ => 0), am_I 12 (fun _ => 0), am_I 12 (fun _ => 0), am_I 72 g2, am_I 12 (fun _ => 0), am_I 2 (fun _ => 0), am_I 12 (fun _ => 0), am_I 6 (fun _ => 0), am_I 6 (fun _ => 0), am_I 366 (fun _ => 0), am_I 7 (fun _ => 0), am_I 30 (fun _ => 0)] by rw [List.set_append_right _ _ (by omega), show a + 13 - h0.length = 13 by omega]; rfl]
  exact kk g1 g2 hg1 hg2
end ZM
