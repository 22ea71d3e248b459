/-! The class: an event is told. -/
section ZF
variable {L : Nat} {xs : Nat → Int32} {Q : am_A → am_H → Prop} {dy dy' : List (Nat × Nat)} {σ σ' : Nat → Nat → Int32} {ρ ρ' : Nat → Nat → Option Nat} {τ τ' : Nat → Nat → Int64} {A : TD} {W : RS} {F E : Nat → Nat} {f e u ad kd v s i p N m r : Nat} {x z w a b : Int32} {uo : Option Nat}
theorem ap_at {l : am_H} {a : Nat} {s : Nat × Nat} (h : me_sh dy a = some s) : (mk dy σ ρ τ ++ l)[a]? = some (me_cell a s (σ a) (ρ a) (τ a)) := by
  have h1 := mk_at (σ := σ) (ρ := ρ) (τ := τ) h
  rw [List.getElem?_append_left (List.getElem?_eq_some_iff.mp h1).1]
  exact h1
theorem g_putN {P : am_P} {y pc ix ci k : Nat} {lo : am_L} {st : List Value} {h0 tl : am_H} {ty : FieldType} {fs fs' : List Value} {v : Value} {n : Nat} (d : decode (am_cd (am_me P y)) pc = .ok (.putfield ix, 3)) (hf : am_fd P y ix = some (ci, k, ty, true)) (hn : n = h0.length) (hk : k < fs.length) (hv : am_ft ty v = true) (he : fs.set k v = fs') (kk : go P y (pc + 3) lo st (h0 ++ .inr (ci, fs') :: tl) Q) : go P y pc lo (v :: .ref n :: st) (h0 ++ .inr (ci, fs) :: tl) Q := by
  subst hn
  refine g_put d hf (by simp) hk hv ?_ kk
  rw [he]
  simp
theorem upr_id {α : Type} (g : Nat → Nat → α) (a : Nat) : upr g a (g a) = g := by
  funext a'
  unfold upr
  split
  · rename_i h; rw [h]
  · rfl
theorem am_ft_rf {c : String} {x : Option Nat} : am_ft (.object c) (va_rf x) = true := by
  cases x <;> rfl
theorem s_63 {h0 : am_H} {m r : Int32} {rf : Option Nat} (kk : Q (.inl none) (h0 ++ [.inr (3, [.int m, .int r, va_rf rf, .null, .null, .ref (h0.length + 1)]), am_R 3 6 (fun _ => none)])) : go (tb_P L xs) 63 0 [some (.ref h0.length), some (.int m), some (.int r), some (va_rf rf)] [] (h0 ++ [.inr (3, [.int 0, .int 0, .null, .null, .null, .null])]) Q := by
  refine g_aload_n k63_0 rfl ?_
  refine g_oinit k63_1 s63_1 r63_1 ?_
  refine g_aload_n k63_4 rfl ?_
  refine g_null k63_5 ?_
  refine g_putN k63_6 f63_6 rfl (by show 3 < 6; omega) rfl rfl ?_
  refine g_aload_n k63_9 rfl ?_
  refine g_null k63_10 ?_
  refine g_putN k63_11 f63_11 rfl (by show 4 < 6; omega) rfl rfl ?_
  refine g_aload_n k63_14 rfl ?_
  refine g_bipush (v := nn 6) k63_15 cb_6 ?_
  refine g_newR k63_17 n63_17 (by rw [ti_6]; omega) ?_
  rw [show (nn 6).toNatClampNeg = 6 from rfl, List.append_assoc, List.length_append]
  refine g_putN (tl := [am_R 3 6 (fun _ => none)]) k63_20 f63_20 rfl (by show 5 < 6; omega) rfl rfl ?_
  refine g_aload_n k63_23 rfl ?_
  refine g_iload_n k63_24 rfl ?_
  refine g_putN k63_25 f63_25 rfl (by show 0 < 6; omega) rfl rfl ?_
  refine g_aload_n k63_28 rfl ?_
  refine g_iload_n k63_29 rfl ?_
  refine g_putN k63_30 f63_30 rfl (by show 1 < 6; omega) rfl rfl ?_
  refine g_aload_n k63_33 rfl ?_
  refine g_aloadq_n k63_34 rfl ?_
  refine g_putN k63_35 f63_35 rfl (by show 2 < 6; omega) am_ft_rf rfl ?_
  refine g_return k63_38 t63 ?_
  exact kk
theorem s_62r {l : am_H} (ok : TOK A) (hX : RepX A F E dy σ ρ) (hw : w.toInt = -1 ∨ (0 ≤ w.toInt ∧ w.toInt < td_ne A)) (kk : Q (.inl (some (va_rf ((io w).map E)))) (mk dy σ ρ τ ++ l)) : go (tb_P L xs) 62 0 [some (.ref 7), some (.int w)] [] (mk dy σ ρ τ ++ l) Q := by
  have hne := ok.2.2.1
  have h11 := hX.2.1.1
  have a7 : me_sh dy 7 = some (5 + 5, 0) := rfl
  have a10 : me_sh dy 10 = some (4, 12) := rfl
  refine g_iload_n k62_0 rfl ?_
  refine g_aload_n k62_1 rfl ?_
  refine g_get k62_2 f62_2 (ap_at a7) rfl ?_
  rw [h11]
  refine g_callS2 k62_5 s62_5 c62_5 l26 (by omega) ⟨rfl, rfl⟩ rfl r62_5 ?_
  refine s_26 ?_
  refine af_ret ?_
  unfold io at kk
  by_cases h : w.toInt = -1
  · rw [if_pos h] at kk
    refine g_ifeq_t k62_8 (t := 20) rfl (bb_f (by omega)) ?_
    refine g_null k62_20 ?_
    refine g_areturnq (x := none) k62_21 (by rw [t62]; rfl) ?_
    exact kk
  · rw [if_neg h] at kk
    have hw : 0 ≤ w.toInt ∧ w.toInt < td_ne A := by omega
    obtain ⟨u, rfl, hu⟩ := in_nn hw
    rw [show (nn u).toInt.toNat = u by rw [nn_toInt (by omega)]; rfl] at kk
    have g10 := (hX.2.1.2.1 u hu).1
    refine g_ifeq_f k62_8 (t := 20) rfl (by rw [bb_t (by rw [nn_toInt (k := td_ne A) (by omega)]; exact hw)]; decide) ?_
    refine g_aload_n k62_11 rfl ?_
    refine g_get k62_12 f62_12 (ap_at a7) rfl ?_
    refine g_iload_n k62_15 rfl ?_
    obtain ⟨e1, e2⟩ := ix_in (i := nn u) (j := u) (n := 12) rfl (by omega) (by omega)
    refine g_aaload k62_16 (ap_at a10) (by omega) e1 ?_
    rw [e2, g10]
    refine g_goto k62_17 (t := 21) rfl ?_
    refine g_areturnq k62_21 (by rw [t62]; rfl) ?_
    exact kk
theorem s_61 (hdy : dy.length < 100000) (ok : TOK A) (hX : RepX A F E dy σ ρ) (k1 : (w.toInt = -1 ∨ (x.toInt = 1 ∧ (0 ≤ w.toInt ∧ w.toInt < td_ne A) ∧ td_ma A w.toInt.toNat = 0)) → Q (.inl (some (.int (nn 1)))) (mk dy σ ρ τ)) (k0 : ¬ (w.toInt = -1 ∨ (x.toInt = 1 ∧ (0 ≤ w.toInt ∧ w.toInt < td_ne A) ∧ td_ma A w.toInt.toNat = 0)) → Q (.inl (some (.int (nn 0)))) (mk dy σ ρ τ)) : go (tb_P L xs) 61 0 [some (.ref 0), some (.int x), some (.int w), none] [] (mk dy σ ρ τ) Q := by
  have hne := ok.2.2.1
  have t1 := ti_1
  have tm := ti_m1
  by_cases hw : 0 ≤ w.toInt ∧ w.toInt < td_ne A
  · obtain ⟨u, rfl, hu⟩ := in_nn hw
    have e1 : (nn u).toInt.toNat = u := by rw [nn_toInt (by omega)]; rfl
    rw [e1] at k1 k0
    obtain ⟨⟨h47, hA8, hA3⟩, hma, _⟩ := (hX.2.1.2.1 u hu).2
    have hm1 := (ok.2.2.2.1 u hu).1
    refine g_iload_n k61_0 rfl ?_
    refine g_iconst (v := -1) k61_1 ci_m1 ?_
    refine g_icne_t k61_2 (t := 7) rfl (fun q => by rw [q] at hw; omega) ?_
    refine g_aload_n k61_7 rfl ?_
    refine m_get k61_8 f61_8 rfl rfl ?_
    refine g_iload_n k61_11 rfl ?_
    refine m_callV1 k61_12 s61_12 c61_12 l62 (by omega) rfl rfl r61_12 rfl ?_
    refine s_62a hdy ok hX hu ?_
    refine af_ret ?_
    refine g_astore_n k61_15 rfl rfl ?_
    refine g_iload_n k61_16 rfl ?_
    refine g_iconst (v := nn 1) k61_17 ci_1 ?_
    refine g_icneT k61_18 (t := 36) rfl (fun h18 => ?_) (fun h18 => ?_)
    · skip
      refine g_iconst (v := nn 0) k61_36 ci_0 ?_
      refine g_breturn k61_37 t61 (by decide) ?_
      first
        | exact k1 (Or.inr ⟨by omega, hw, h29⟩)
        | (refine k0 (fun q => ?_)
           rcases q with q | q
           · omega
           · exact h29 q.2.2)
        | (refine k0 (fun q => ?_)
           rcases q with q | q
           · omega
           · omega)
    · skip
      refine g_aload_n k61_21 rfl ?_
      refine g_ifnull_f k61_22 ?_
      refine g_aload_n k61_25 rfl ?_
      refine m_get k61_26 f61_26 (by assumption) rfl ?_
      rw [hma]
      refine g_ifneN k61_29 (t := 36) rfl (by omega) (fun h29 => ?_) (fun h29 => ?_)
      · skip
        refine g_iconst (v := nn 0) k61_36 ci_0 ?_
        refine g_breturn k61_37 t61 (by decide) ?_
        first
          | exact k1 (Or.inr ⟨by omega, hw, h29⟩)
          | (refine k0 (fun q => ?_)
             rcases q with q | q
             · omega
             · exact h29 q.2.2)
          | (refine k0 (fun q => ?_)
             rcases q with q | q
             · omega
             · omega)
      · skip
        refine g_iconst (v := nn 1) k61_32 ci_1 ?_
        refine g_goto k61_33 (t := 37) rfl ?_
        refine g_breturn k61_37 t61 (by decide) ?_
        first
          | exact k1 (Or.inr ⟨by omega, hw, h29⟩)
          | (refine k0 (fun q => ?_)
             rcases q with q | q
             · omega
             · exact h29 q.2.2)
          | (refine k0 (fun q => ?_)
             rcases q with q | q
             · omega
             · omega)
  · refine g_iload_n k61_0 rfl ?_
    refine g_iconst (v := -1) k61_1 ci_m1 ?_
    refine g_icneT k61_2 (t := 7) rfl (fun h2 => ?_) (fun h2 => ?_)
    · skip
      refine g_aload_n k61_7 rfl ?_
      refine m_get k61_8 f61_8 rfl rfl ?_
      refine g_iload_n k61_11 rfl ?_
      refine m_callV1 k61_12 s61_12 c61_12 l62 (by omega) rfl rfl r61_12 rfl ?_
      refine s_62b hdy ok hX hw ?_
      refine af_ret ?_
      refine g_astoreq_n (x := none) k61_15 rfl rfl ?_
      refine g_iload_n k61_16 rfl ?_
      refine g_iconst (v := nn 1) k61_17 ci_1 ?_
      refine g_icneT k61_18 (t := 36) rfl (fun h18 => ?_) (fun h18 => ?_)
      · skip
        refine g_iconst (v := nn 0) k61_36 ci_0 ?_
        refine g_breturn k61_37 t61 (by decide) ?_
        first
          | exact k1 (Or.inl (by omega))
          | (refine k0 (fun q => ?_)
             rcases q with q | q
             · omega
             · exact hw q.2.1)
      · skip
        refine g_aloadq_n (x := none) k61_21 rfl ?_
        refine g_ifnull_t k61_22 (t := 36) rfl ?_
        refine g_iconst (v := nn 0) k61_36 ci_0 ?_
        refine g_breturn k61_37 t61 (by decide) ?_
        first
          | exact k1 (Or.inl (by omega))
          | (refine k0 (fun q => ?_)
             rcases q with q | q
             · omega
             · exact hw q.2.1)
    · skip
      refine g_iconst (v := nn 1) k61_5 ci_1 ?_
      refine g_breturn k61_6 t61 (by decide) ?_
      first
        | exact k1 (Or.inl (by omega))
        | (refine k0 (fun q => ?_)
           rcases q with q | q
           · omega
           · exact hw q.2.1)
theorem s_64 {n : Nat} (hdy : dy.length < 100000) (hn : n < 12) (h3 : σ 7 3 = nn n) (h8 : me_sh dy N = some (8, 0)) (kk : Q (.inl (some (.int (nn n)))) (mk dy (up2 σ 7 3 (nn (n + 1))) (up2 ρ 10 n (some N)) τ)) : go (tb_P L xs) 64 0 [some (.ref 7), some (.ref N)] [] (mk dy σ ρ τ) Q := by
  refine g_aload_n k64_0 rfl ?_
  refine m_get k64_1 f64_1 rfl rfl ?_
  refine g_aload_n k64_4 rfl ?_
  refine m_get k64_5 f64_5 rfl rfl ?_
  rw [h3]
  refine g_aload_n k64_8 rfl ?_
  refine m_aast k64_9 rfl h8 ⟨⟨by omega, by omega⟩, rfl⟩ rfl (by omega) (by omega) ?_
  refine g_aload_n k64_10 rfl ?_
  refine g_dup k64_11 rfl ?_
  refine m_get k64_12 f64_12 rfl rfl ?_
  rw [h3]
  refine g_iconst (v := nn 1) k64_15 ci_1 ?_
  refine g_iaddN k64_16 ?_
  refine m_putI k64_17 f64_17 rfl rfl rfl ?_
  refine g_aload_n k64_20 rfl ?_
  refine m_get k64_21 f64_21 rfl rfl ?_
  rw [up2_at]
  refine g_iconst (v := nn 1) k64_24 ci_1 ?_
  refine g_isubN k64_25 (by omega) ?_
  refine g_ireturn k64_26 t64 ?_
  rw [show n + 1 - 1 = n by omega]
  exact kk
theorem RepX.ae (ok : TOK A) (hX : RepX A F E dy σ ρ) (hd : ∀ a s, me_sh dy a = some s → me_sh dy' a = some s ∧ a < N) (h47 : 47 ≤ N) (h8 : me_sh dy' N = some (8, 0)) (h3 : me_sh dy' (N + 1) = some (3, 6)) (hs1 : ∀ a k, a < 47 → (a ≠ 7 ∨ k ≠ 3) → σ' a k = σ a k) (hs2 : ∀ a k, 47 ≤ a → a < N → σ' a k = σ a k) (h73 : σ' 7 3 = nn (td_ne A + 1)) (hr1 : ∀ a k, a < 47 → (a ≠ 10 ∨ k ≠ td_ne A) → ρ' a k = ρ a k) (hr2 : ∀ a k, 47 ≤ a → a < N → ρ' a k = ρ a k) (h10 : ρ' 10 (td_ne A) = some N) (g0 : σ' N 0 = nn m) (g1 : σ' N 1 = nn r) (g2 : ρ' N 2 = uo.map E) (g3 : ρ' N 3 = none) (g4 : ρ' N 4 = none) (g5 : ∀ v, v < 6 → ρ' (N + 1) v = none) (huo : ∀ u, uo = some u → u < td_ne A) : RepX (td_ae A m r uo) F (fun j => if j = td_ne A then N else E j) dy' σ' ρ' := by
  obtain ⟨⟨a1, a2⟩, ⟨b1, b2, b3⟩, ⟨c1, c2, c3, c4⟩, d, g, g6⟩ := hX
  have hd1 : ∀ a s, me_sh dy a = some s → me_sh dy' a = some s := fun a s q => (hd a s q).1
  have hss : ∀ a k (s : Nat × Nat), 47 ≤ a → me_sh dy a = some s → s ≠ (0, 25) → σ' a k = σ a k := fun a k s q1 q2 _ => hs2 a k q1 (hd a s q2).2
  have hrr : ∀ a k (s : Nat × Nat), 47 ≤ a → me_sh dy a = some s → ρ' a k = ρ a k := fun a k s q1 q2 => hr2 a k q1 (hd a s q2).2
  have mp : ∀ o : Option Nat, (∀ u, o = some u → u < td_ne A) → o.map (fun j => if j = td_ne A then N else E j) = o.map E := fun o ho => by
    cases o with
    | none => rfl
    | some u =>
      have := ho u rfl
      show some (if u = td_ne A then N else E u) = some (E u)
      rw [if_neg (by omega)]
  refine ⟨⟨by rw [hs1 0 2 (by omega) (by omega)]; exact a1, fun f hf => ⟨by rw [hr1 5 f (by omega) (by omega)]; exact (a2 f hf).1, (a2 f hf).2.mono hd1 hss (ok.2.1 f hf).1.2⟩⟩, ⟨h73, fun j hj => ?_, fun j k hj hk q => ?_⟩, ⟨by rw [hs1 11 2 (by omega) (by omega)]; exact c1, by rw [hs1 11 3 (by omega) (by omega)]; exact c2, fun i hi => by rw [hr1 12 i (by omega) (by omega)]; exact c3 i hi, fun i hi => by rw [hr1 13 i (by omega) (by omega)]; exact c4 i hi⟩, by rw [hr1 7 5 (by omega) (by omega)]; exact d, fun v hv => by rw [hs1 8 v (by omega) (by omega), hs1 9 v (by omega) (by omega)]; exact g v hv, by rw [hs1 9 6 (by omega) (by omega)]; exact g6⟩
  · have hj : j < td_ne A + 1 := hj
    dsimp only
    by_cases c : j = td_ne A
    · rw [if_pos c, c]
      refine ⟨h10, ⟨h47, h8, h3⟩, ?_, ?_, ?_, ?_, ?_, fun v hv => ?_⟩
      · show σ' N 0 = nn (if td_ne A = td_ne A then m else td_ma A (td_ne A))
        rw [if_pos rfl]; exact g0
      · show σ' N 1 = nn (if td_ne A = td_ne A then r else td_rg A (td_ne A))
        rw [if_pos rfl]; exact g1
      · show ρ' N 2 = (if td_ne A = td_ne A then uo else td_rf A (td_ne A)).map _
        rw [if_pos rfl, mp uo huo]; exact g2
      · show ρ' N 3 = (if td_ne A = td_ne A then none else td_gd A (td_ne A)).map _
        rw [if_pos rfl]; exact g3
      · show ρ' N 4 = (if td_ne A = td_ne A then none else td_wt A (td_ne A)).map _
        rw [if_pos rfl]; exact g4
      · show ρ' (N + 1) v = (td_as A (td_ne A) v).map _
        rw [ok.2.2.2.2.1 (td_ne A) v (Nat.le_refl _)]; exact g5 v hv
    · rw [if_neg c]
      have hjA : j < td_ne A := by omega
      refine ⟨by rw [hr1 10 j (by omega) (by omega)]; exact (b2 j hjA).1, ?_⟩
      obtain ⟨p, q1, q2, q3, q4, q5, q6⟩ := (b2 j hjA).2.mono hd1 hss hrr
      refine ⟨p, ?_, ?_, ?_, ?_, ?_, q6⟩
      · show σ' (E j) 0 = nn (if j = td_ne A then m else td_ma A j)
        rw [if_neg c]; exact q1
      · show σ' (E j) 1 = nn (if j = td_ne A then r else td_rg A j)
        rw [if_neg c]; exact q2
      · show ρ' (E j) 2 = (if j = td_ne A then uo else td_rf A j).map _
        rw [if_neg c, mp _ (fun u hu => by have := ((ok.2.2.2.1 j hjA).2.2.1 u hu).1; omega)]; exact q3
      · show ρ' (E j) 3 = (if j = td_ne A then none else td_gd A j).map _
        rw [if_neg c]; exact q4
      · show ρ' (E j) 4 = (if j = td_ne A then none else td_wt A j).map _
        rw [if_neg c]; exact q5
  · have hj : j < td_ne A + 1 := hj
    have hk : k < td_ne A + 1 := hk
    have q : (if j = td_ne A then N else E j) = (if k = td_ne A then N else E k) := q
    have lt : ∀ i, i < td_ne A → E i < N := fun i hi => (hd _ _ (b2 i hi).2.1.2.1).2
    by_cases cj : j = td_ne A
    · by_cases ck : k = td_ne A
      · omega
      · rw [if_pos cj, if_neg ck] at q
        have := lt k (by omega)
        omega
    · by_cases ck : k = td_ne A
      · rw [if_neg cj, if_pos ck] at q
        have := lt j (by omega)
        omega
      · rw [if_neg cj, if_neg ck] at q
        exact b3 j k (by omega) (by omega) q
theorem sh_lt {a : Nat} {s : Nat × Nat} (h : me_sh dy a = some s) : a < 47 + dy.length := by
  unfold me_sh at h
  have := (List.getElem?_eq_some_iff.mp h).1
  rw [List.length_append] at this
  have e : me_s0.length = 47 := rfl
  omega
theorem sh_new {l : List (Nat × Nat)} {k : Nat} : me_sh (dy ++ l) (47 + dy.length + k) = l[k]? := by
  unfold me_sh
  rw [← List.append_assoc, List.getElem?_append_right (by rw [List.length_append]; have e : me_s0.length = 47 := rfl; omega)]
  congr 1
  rw [List.length_append]
  have e : me_s0.length = 47 := rfl
  omega
theorem s_59 (hdy : dy.length < 90000) (ok : TOK A) (hS : XS A W F E dy σ ρ τ) (k1 : ¬ eok A x z w → oX A W F E σ τ (dy ++ [(14, 0)]) σ ρ τ → Q (.inr 9) (mk (dy ++ [(14, 0)]) σ ρ τ)) (k2 : eok A x z w → td_ne A = 12 → oX A W F E σ τ (dy ++ [(15, 0)]) σ ρ τ → Q (.inr 10) (mk (dy ++ [(15, 0)]) σ ρ τ)) (k0 : eok A x z w → td_ne A < 12 → ∀ E' σ' ρ', oX (td_ae A x.toInt.toNat z.toInt.toNat (io w)) W F E' σ τ (dy ++ [(8, 0), (3, 6)]) σ' ρ' τ → Q (.inl (some (.int (nn (td_ne A))))) (mk (dy ++ [(8, 0), (3, 6)]) σ' ρ' τ)) : go (tb_P L xs) 59 0 [some (.ref 0), some (.int x), some (.int z), some (.int w)] [] (mk dy σ ρ τ) Q := by
  have hdy2 : dy.length < 100000 := by omega
  have bad : ¬ eok A x z w → Q (.inr 9) (mk (dy ++ [(14, 0)]) σ ρ τ) := fun h => k1 h (hS.thr ok)
  have t4 := ti_4
  have hne := ok.2.2.1
  have h11 := hS.1.2.1.1
  by_cases hx : x.toInt = 0 ∨ x.toInt = 1
  · by_cases hz : 1 ≤ z.toInt ∧ z.toInt ≤ 4
    · have hzs := sub1.mpr hz
      rw [← t4] at hzs
      refine g_iload_n k59_0 rfl ?_
      refine g_callS1 k59_1 s59_1 c59_1 l60 (by omega) rfl rfl r59_1 ?_
      refine s_60 ?_
      refine af_ret ?_
      refine g_ifeq_f k59_4 (t := 26) rfl (by rw [bb_t hx]; decide) ?_
      refine g_iload_n k59_7 rfl ?_
      refine g_iconst (v := nn 1) k59_8 ci_1 ?_
      refine g_isub k59_9 ?_
      refine g_iconst (v := nn 4) k59_10 ci_4 ?_
      refine g_callS2 k59_11 s59_11 c59_11 l26 (by omega) ⟨rfl, rfl⟩ rfl r59_11 ?_
      refine s_26 ?_
      refine af_ret ?_
      refine g_ifeq_f k59_14 (t := 26) rfl (by rw [bb_t hzs]; decide) ?_
      refine g_aload_n k59_17 rfl ?_
      refine g_iload_n k59_18 rfl ?_
      refine g_iload_n k59_19 rfl ?_
      refine m_callV2 k59_20 s59_20 c59_20 l61 (by omega) ⟨rfl, rfl⟩ rfl r59_20 rfl ?_
      refine s_61 hdy2 ok hS.1 (fun hr => ?_) (fun hr => ?_)
      · refine af_ret ?_
        have hok : eok A x z w := ⟨by omega, hz, hr⟩
        by_cases hf : td_ne A = 12
        · refine g_ifne_t k59_23 (t := 34) rfl (by decide) ?_
          refine g_aload_n k59_34 rfl ?_
          refine m_get k59_35 f59_35 rfl rfl ?_
          refine m_get k59_38 f59_38 rfl rfl ?_
          rw [h11]
          refine g_bipush (v := nn 12) k59_41 cb_12 ?_
          refine g_icne_f k59_43 (t := 54) rfl (by rw [hf]) ?_
          refine m_throw k59_46 n59_46 k59_49 k59_50 k59_53 x59_46 (by omega) r59_46 (o59 _) ?_
          exact k2 hok hf (hS.thr ok)
        · have hq := k0 hok (by omega)
          obtain ⟨m, rfl, hm⟩ := in_nn (x := x) (n := 2) ⟨by omega, by omega⟩
          obtain ⟨r, rfl, hr5⟩ := in_nn (x := z) (n := 5) ⟨by omega, by omega⟩
          rw [nn_toInt (by omega), nn_toInt (by omega)] at hq
          simp only [Int.toNat_natCast] at hq
          refine g_ifne_t k59_23 (t := 34) rfl (by decide) ?_
          refine g_aload_n k59_34 rfl ?_
          refine m_get k59_35 f59_35 rfl rfl ?_
          refine m_get k59_38 f59_38 rfl rfl ?_
          rw [h11]
          refine g_bipush (v := nn 12) k59_41 cb_12 ?_
          refine g_icne_t k59_43 (t := 54) rfl (by rw [Ne, nn_inj (by omega) (by omega)]; exact hf) ?_
          refine g_aload_n k59_54 rfl ?_
          refine m_get k59_55 f59_55 rfl rfl ?_
          refine g_new k59_58 n59_58 ?_
          rw [show am_df (tb_P L xs) 3 = [.int 0, .int 0, .null, .null, .null, .null] from rfl]
          refine g_dup k59_61 rfl ?_
          refine g_iload_n k59_62 rfl ?_
          refine g_iload_n k59_63 rfl ?_
          refine g_aload_n k59_64 rfl ?_
          refine g_get k59_65 f59_65 (ap_at (show me_sh dy 0 = some (0 + 5, 0) from rfl)) rfl ?_
          refine g_iload_n k59_68 rfl ?_
          refine g_callV (as := [.int w]) k59_69 s59_69 c59_69 rfl rfl (ap_at (show me_sh dy 7 = some (am_rc (tb_P L xs) 62 + 5, 0) from rfl)) r59_69 (en0_eq l62 (fun v hv => by simp only [List.mem_cons, List.not_mem_nil, or_false] at hv; rcases hv with rfl | rfl <;> rfl) (show 2 ≤ 2 by omega)) ?_
          refine s_62r ok hS.1 (by rcases hr with q | q; exact Or.inl q; exact Or.inr q.2.1) ?_
          refine af_ret ?_
          refine g_callI3 k59_72 s59_72 c59_72 l63 (by omega) ⟨rfl, rfl, va_cat _⟩ rfl r59_72 ?_
          refine s_63 ?_
          refine af_void ?_
          have hmk : mk dy σ ρ τ ++ [.inr (3, [.int (nn m), .int (nn r), va_rf ((io w).map E), .null, .null, .ref ((mk dy σ ρ τ).length + 1)]), am_R 3 6 (fun _ => none)] = mk (dy ++ [(8, 0), (3, 6)]) (upr σ (47 + dy.length) (fun k => if k = 0 then nn m else nn r)) (upr (upr ρ (47 + dy.length) (fun k => if k = 2 then (io w).map E else none)) (47 + dy.length + 1) (fun _ => none)) τ := by
            have p1 := mk_push (dy := dy) (σ := σ) (ρ := ρ) (τ := τ) (8, 0) (fun k => if k = 0 then nn m else nn r) (fun k => if k = 2 then (io w).map E else none) (τ (47 + dy.length))
            rw [upr_id] at p1
            have p2 := mk_push (dy := dy ++ [(8, 0)]) (σ := upr σ (47 + dy.length) (fun k => if k = 0 then nn m else nn r)) (ρ := upr ρ (47 + dy.length) (fun k => if k = 2 then (io w).map E else none)) (τ := τ) (3, 6) (upr σ (47 + dy.length) (fun k => if k = 0 then nn m else nn r) (47 + (dy ++ [(8, 0)]).length)) (fun _ => none) (τ (47 + (dy ++ [(8, 0)]).length))
            rw [upr_id, upr_id, ← p1, List.append_assoc, List.append_assoc] at p2
            have el : 47 + (dy ++ [((8, 0) : Nat × Nat)]).length = 47 + dy.length + 1 := by
              rw [List.length_append]
              rfl
            rw [el] at p2
            rw [mk_len]
            exact p2
          rw [hmk, mk_len]
          have hdl : (dy ++ [(8, 0), (3, 6)]).length < 100000 := by simp; omega
          have s8 : me_sh (dy ++ [(8, 0), (3, 6)]) (47 + dy.length) = some (8, 0) := sh_new (k := 0)
          have s3 : me_sh (dy ++ [(8, 0), (3, 6)]) (47 + dy.length + 1) = some (3, 6) := sh_new (k := 1)
          refine m_callV1 k59_75 s59_75 c59_75 l64 (by omega) rfl rfl r59_75 rfl ?_
          refine s_64 (n := td_ne A) hdl (by omega) (by rw [upr_ne (by omega)]; exact h11) s8 ?_
          refine af_ret ?_
          refine g_ireturn k59_78 t59 ?_
          have ra := fun a k (h1 : a ≠ 47 + dy.length) (h2 : a ≠ 47 + dy.length + 1) (h3 : a ≠ 10 ∨ k ≠ td_ne A) => show up2 (upr (upr ρ (47 + dy.length) (fun k => if k = 2 then (io w).map E else none)) (47 + dy.length + 1) (fun _ => none)) 10 (td_ne A) (some (47 + dy.length)) a k = ρ a k by rw [up2_ne h3, upr_ne h2, upr_ne h1]
          have rN := fun k => show up2 (upr (upr ρ (47 + dy.length) (fun k => if k = 2 then (io w).map E else none)) (47 + dy.length + 1) (fun _ => none)) 10 (td_ne A) (some (47 + dy.length)) (47 + dy.length) k = if k = 2 then (io w).map E else none by rw [up2_ne (by omega), upr_ne (by omega), upr_at]
          have sa := fun a k (h1 : a ≠ 47 + dy.length) (h3 : a ≠ 7 ∨ k ≠ 3) => show up2 (upr σ (47 + dy.length) (fun k => if k = 0 then nn m else nn r)) 7 3 (nn (td_ne A + 1)) a k = σ a k by rw [up2_ne h3, upr_ne h1]
          have sN := fun k => show up2 (upr σ (47 + dy.length) (fun k => if k = 0 then nn m else nn r)) 7 3 (nn (td_ne A + 1)) (47 + dy.length) k = if k = 0 then nn m else nn r by rw [up2_ne (by omega), upr_at]
          refine hq _ _ _ ⟨⟨RepX.ae (N := 47 + dy.length) ok hS.1 (fun a s h => ⟨sh_app h, sh_lt h⟩) (by omega) s8 s3 (fun a k h1 h2 => sa a k (by omega) h2) (fun a k h1 h2 => sa a k (by omega) (by omega)) up2_at (fun a k h1 h2 => ra a k (by omega) (by omega) h2) (fun a k h1 h2 => ra a k (by omega) (by omega) (by omega)) up2_at (sN 0) (sN 1) (rN 2) (rN 3) (rN 4) (fun v hv => by rw [up2_ne (by omega), upr_at]) (fun u hu => ?_), hS.2.1, hS.2.2.agr (fun a k h => sa a k (by omega) (by omega))⟩, ?_, tE.rf τ⟩
          · unfold io at hu
            by_cases c : w.toInt = -1
            · rw [if_pos c] at hu
              cases hu
            · rw [if_neg c] at hu
              cases hu
              omega
          · exact ((fX.rf σ).ur (by omega)).up (by omega)
      · refine af_ret ?_
        refine g_ifne_f k59_23 (t := 34) rfl rfl ?_
        refine m_throw k59_26 n59_26 k59_29 k59_30 k59_33 x59_26 (by omega) r59_26 (o59 _) ?_
        exact bad (fun q => hr q.2.2)
    · refine g_iload_n k59_0 rfl ?_
      refine g_callS1 k59_1 s59_1 c59_1 l60 (by omega) rfl rfl r59_1 ?_
      refine s_60 ?_
      refine af_ret ?_
      refine g_ifeq_f k59_4 (t := 26) rfl (by rw [bb_t hx]; decide) ?_
      refine g_iload_n k59_7 rfl ?_
      refine g_iconst (v := nn 1) k59_8 ci_1 ?_
      refine g_isub k59_9 ?_
      refine g_iconst (v := nn 4) k59_10 ci_4 ?_
      refine g_callS2 k59_11 s59_11 c59_11 l26 (by omega) ⟨rfl, rfl⟩ rfl r59_11 ?_
      refine s_26 ?_
      refine af_ret ?_
      refine g_ifeq_t k59_14 (t := 26) rfl (bb_f (by rw [t4]; exact fun q => hz (sub1.mp q))) ?_
      refine m_throw k59_26 n59_26 k59_29 k59_30 k59_33 x59_26 (by omega) r59_26 (o59 _) ?_
      exact bad (fun q => hz q.2.1)
  · refine g_iload_n k59_0 rfl ?_
    refine g_callS1 k59_1 s59_1 c59_1 l60 (by omega) rfl rfl r59_1 ?_
    refine s_60 ?_
    refine af_ret ?_
    refine g_ifeq_t k59_4 (t := 26) rfl (bb_f hx) ?_
    refine m_throw k59_26 n59_26 k59_29 k59_30 k59_33 x59_26 (by omega) r59_26 (o59 _) ?_
    exact bad (fun q => hx (by have := q.1; omega))
end ZF
