/-! The class: a formula is told. -/
section ZH
variable {L : Nat} {xs : Nat → Int32} {Q : am_A → am_H → Prop} {dy dy' : List (Nat × Nat)} {σ σ' : Nat → Nat → Int32} {ρ ρ' : Nat → Nat → Option Nat} {τ τ' : Nat → Nat → Int64} {A : TD} {W : RS} {F E : Nat → Nat} {ws : Nat → Int32} {kd en : Nat → Nat} {i j n N f e : Nat} {x w : Int32}
theorem nn_cl {k : Nat} (h : k < 2147483648) : (nn k).toNatClampNeg = k := by
  show (nn k).toInt.toNat = k
  rw [nn_toInt h]
  rfl
theorem s_56 {h : am_H} {f : Nat → Int32} (ha : h[2]? = some (am_I 24 f)) (hn : n ≤ 24) (kk : ∀ g, (∀ i, i < n → g i = f i) → Q (.inl (some (.ref h.length))) (h ++ [am_I n g])) : go (tb_P L xs) 56 0 [some (.ref 2), some (.int (nn n)), none] [] h Q := by
  have hlen := (List.getElem?_eq_some_iff.mp ha).1
  refine g_iload_n k56_0 rfl ?_
  refine g_aload_n k56_1 rfl ?_
  refine g_alen k56_2 (by decide) ha (by omega) ?_
  by_cases c : n = 24
  · subst c
    refine g_icne_f k56_3 (t := 14) rfl rfl ?_
    refine g_aload_n k56_6 rfl ?_
    refine g_clone k56_7 s56_7 ha r56_7 ?_
    refine g_cast (n := 24) (f := f) k56_10 s56_10 (by simp) ?_
    refine g_areturn k56_13 (by rw [t56]; rfl) ?_
    exact kk f (fun _ _ => rfl)
  · refine g_icne_t k56_3 (t := 14) rfl (by show nn n ≠ nn 24; rw [Ne, nn_inj (by omega) (by omega)]; exact c) ?_
    refine g_iload_n k56_14 rfl ?_
    refine g_newI k56_15 (by rw [nn_toInt (by omega)]; omega) ?_
    rw [nn_cl (by omega)]
    refine g_astore_n k56_17 rfl rfl ?_
    refine g_aload_n k56_18 rfl ?_
    refine g_iconst (v := nn 0) k56_19 ci_0 ?_
    refine g_aload_n k56_20 rfl ?_
    refine g_iconst (v := nn 0) k56_21 ci_0 ?_
    refine g_aload_n k56_22 rfl ?_
    have ha2 : (h ++ [am_I n (fun _ => 0)])[2]? = some (am_I 24 f) := by
      rw [List.getElem?_append_left hlen]
      exact ha
    refine g_alen k56_23 (by decide) ha2 (by omega) ?_
    refine g_iload_n k56_24 rfl ?_
    refine g_min k56_25 s56_25 r56_25 ?_
    rw [if_pos (show nn n < Int32.ofNat 24 by
      rw [Int32.lt_iff_toInt_lt]
      show (nn n).toInt < (nn 24).toInt
      rw [nn_toInt (by omega), nn_toInt (by omega)]
      omega)]
    refine g_copy (n0 := 24) (n1 := n) (f := f) (g := fun _ => 0) k56_28 s56_28 ha2 (by simp) ?_ r56_28 rfl ?_
    · rw [ti_0, nn_cl (by omega), nn_cl (by omega), nn_toInt (by omega)]
      omega
    · rw [nn_cl (by omega), nn_cl (by omega)]
      refine g_aload_n k56_31 rfl ?_
      refine g_areturn k56_32 (by rw [t56]; rfl) ?_
      rw [show (h ++ [am_I n (fun _ => 0)]).set h.length (am_I n (va_cpy f (fun _ => 0) 0 0 n)) = h ++ [am_I n (va_cpy f (fun _ => 0) 0 0 n)] by simp]
      refine kk _ (fun i hi => ?_)
      unfold va_cpy
      rw [if_pos (by omega)]
      congr 1
      omega
theorem mk_pushI (f : Nat → Int32) : mk dy σ ρ τ ++ [am_I n f] = mk (dy ++ [(0, n)]) (upr σ (47 + dy.length) f) ρ τ := by
  have h := mk_push (dy := dy) (σ := σ) (ρ := ρ) (τ := τ) (0, n) f (ρ (47 + dy.length)) (τ (47 + dy.length))
  rw [upr_id, upr_id] at h
  exact h
theorem mk_pushF : mk dy σ ρ τ ++ [.inr (2, [.ref (47 + dy.length + 2), .ref (47 + dy.length + 3), .ref (47 + dy.length + 4), .ref (47 + dy.length + 1), .int 0, .int 0])] = mk (dy ++ [(7, 0)]) (upr σ (47 + dy.length) (fun _ => 0)) ρ τ := by
  have h := mk_push (dy := dy) (σ := σ) (ρ := ρ) (τ := τ) (7, 0) (fun _ => 0) (ρ (47 + dy.length)) (τ (47 + dy.length))
  rw [upr_id, upr_id] at h
  exact h
/-- what a formula brings -/
def dF (n : Nat) : List (Nat × Nat) := [(7, 0), (0, 25), (0, n), (0, n), (0, n)]
theorem mk_five (g : Nat → Int32) : mk dy σ ρ τ ++ [.inr (2, [.ref (47 + dy.length + 2), .ref (47 + dy.length + 3), .ref (47 + dy.length + 4), .ref (47 + dy.length + 1), .int 0, .int 0]), am_I 25 (fun _ => 0), am_I n g, am_I n (fun _ => 0), am_I n (fun _ => 0)] = mk (dy ++ dF n) (upr (upr (upr (upr (upr σ (47 + dy.length) (fun _ => 0)) (47 + dy.length + 1) (fun _ => 0)) (47 + dy.length + 2) g) (47 + dy.length + 3) (fun _ => 0)) (47 + dy.length + 4) (fun _ => 0)) ρ τ := by
  have e1 : ∀ (d : List (Nat × Nat)) (s : Nat × Nat), 47 + (d ++ [s]).length = 47 + d.length + 1 := fun d s => by
    rw [List.length_append]
    rfl
  have h1 := mk_pushF (dy := dy) (σ := σ) (ρ := ρ) (τ := τ)
  have h2 := mk_pushI (dy := dy ++ [(7, 0)]) (σ := upr σ (47 + dy.length) (fun _ => 0)) (ρ := ρ) (τ := τ) (n := 25) (fun _ => 0)
  rw [← h1, e1] at h2
  have h3 := mk_pushI (dy := dy ++ [(7, 0)] ++ [(0, 25)]) (σ := upr (upr σ (47 + dy.length) (fun _ => 0)) (47 + dy.length + 1) (fun _ => 0)) (ρ := ρ) (τ := τ) (n := n) g
  rw [← h2, e1, e1] at h3
  have h4 := mk_pushI (dy := dy ++ [(7, 0)] ++ [(0, 25)] ++ [(0, n)]) (σ := upr (upr (upr σ (47 + dy.length) (fun _ => 0)) (47 + dy.length + 1) (fun _ => 0)) (47 + dy.length + 2) g) (ρ := ρ) (τ := τ) (n := n) (fun _ => 0)
  rw [← h3, e1, e1, e1] at h4
  have h5 := mk_pushI (dy := dy ++ [(7, 0)] ++ [(0, 25)] ++ [(0, n)] ++ [(0, n)]) (σ := upr (upr (upr (upr σ (47 + dy.length) (fun _ => 0)) (47 + dy.length + 1) (fun _ => 0)) (47 + dy.length + 2) g) (47 + dy.length + 3) (fun _ => 0)) (ρ := ρ) (τ := τ) (n := n) (fun _ => 0)
  rw [← h4, e1, e1, e1, e1] at h5
  simp only [List.append_assoc] at h5
  exact h5
theorem s_55L (hdy : dy.length < 100000) (hn : n ≤ 24) (h47 : 47 ≤ N) (hok : ∀ j, j < n → wd_ok (ws j)) (hc : CP ws n 0 kd en) (hN : me_sh dy N = some (7, 0)) (hN2 : me_sh dy (N + 2) = some (0, n)) (hN3 : me_sh dy (N + 3) = some (0, n)) (hN4 : me_sh dy (N + 4) = some (0, n)) : ∀ (k i : Nat) {σ : Nat → Nat → Int32} {x : Int32} {Q : am_A → am_H → Prop}, i + k = n → σ 1 3 = nn n → KE σ n 0 kd en → (∀ j, j < n → σ (N + 2) j = ws j) → (∀ j, j < i → σ (N + 3) j = nn (en (j + 1)) ∧ σ (N + 4) j = nn (en (en (j + 1)))) → bt x (fun v => (List.range i).any (fun j => mw (ws j) v)) → (∀ σ' y, (∀ a, a ≠ N + 3 → a ≠ N + 4 → σ' a = σ a) → (∀ j, j < n → σ' (N + 3) j = nn (en (j + 1)) ∧ σ' (N + 4) j = nn (en (en (j + 1)))) → bt y (fun v => (List.range n).any (fun j => mw (ws j) v)) → go (tb_P L xs) 55 108 [some (.ref N), some (.ref 1), some (.int y), some (.int (nn n))] [] (mk dy σ' ρ τ) Q) → go (tb_P L xs) 55 51 [some (.ref N), some (.ref 1), some (.int x), some (.int (nn i))] [] (mk dy σ ρ τ) Q := by
  intro k
  induction k with
  | zero =>
    intro i σ x Q hi h3 hke hw hs hx kk
    have hin : i = n := by omega
    subst hin
    refine g_iload_n k55_51 rfl ?_
    refine g_aload_n k55_52 rfl ?_
    refine m_get k55_53 f55_53 rfl rfl ?_
    rw [h3]
    refine g_icge_t k55_56 (t := 108) rfl (by rw [nn_toInt (by omega)]; omega) ?_
    exact kk σ x (fun _ _ _ => rfl) hs hx
  | succ k ih =>
    intro i σ x Q hi h3 hke hw hs hx kk
    have l1 := hc.le (j := i + 1) (by omega) (by omega)
    have l2 := hc.le (j := en (i + 1)) (by omega) l1
    have e1 := (hke (i + 1) (by omega) (by omega)).2
    have e2 := (hke (en (i + 1)) (by omega) l1).2
    have hwi := hw i (by omega)
    refine g_iload_n k55_51 rfl ?_
    refine g_aload_n k55_52 rfl ?_
    refine m_get k55_53 f55_53 rfl rfl ?_
    rw [h3]
    refine g_icge_f k55_56 (t := 108) rfl (by rw [nn_toInt (by omega), nn_toInt (by omega)]; omega) ?_
    refine g_aload_n k55_59 rfl ?_
    refine m_get k55_60 f55_60 (by assumption) rfl ?_
    refine g_iload_n k55_63 rfl ?_
    refine g_aload_n k55_64 rfl ?_
    refine m_get k55_65 f55_65 rfl rfl ?_
    refine g_iload_n k55_68 rfl ?_
    refine g_iconst (v := nn 1) k55_69 ci_1 ?_
    refine g_iaddN k55_70 ?_
    refine m_iald k55_71 hdy rfl rfl (by omega) (by omega) ?_
    rw [e1]
    refine m_iast k55_72 (by assumption) rfl (by omega) (by omega) ?_
    refine g_aload_n k55_73 rfl ?_
    refine m_get k55_74 f55_74 (by assumption) rfl ?_
    refine g_iload_n k55_77 rfl ?_
    refine g_aload_n k55_78 rfl ?_
    refine m_get k55_79 f55_79 rfl rfl ?_
    refine g_aload_n k55_82 rfl ?_
    refine m_get k55_83 f55_83 (by assumption) rfl ?_
    refine g_iload_n k55_86 rfl ?_
    refine m_iald k55_87 hdy (by assumption) rfl (by omega) (by omega) ?_
    rw [up2_at]
    refine m_iald k55_88 hdy rfl rfl (by omega) (by omega) ?_
    rw [up2_ne (by omega), e2]
    refine m_iast k55_89 (by assumption) rfl (by omega) (by omega) ?_
    refine g_iload_n k55_90 rfl ?_
    refine g_aload_n k55_91 rfl ?_
    refine m_get k55_92 f55_92 (by assumption) rfl ?_
    refine g_iload_n k55_95 rfl ?_
    refine m_iald k55_96 hdy (by assumption) rfl (by omega) (by omega) ?_
    rw [up2_ne (by omega), up2_ne (by omega), hwi]
    refine g_callS1 k55_97 s55_97 c55_97 l57 (by omega) rfl rfl r55_97 ?_
    refine s_57 (hok i (by omega)) (fun z hz => ?_)
    refine af_ret ?_
    refine g_ior k55_100 ?_
    refine g_istore_n k55_101 rfl rfl ?_
    refine g_iincN k55_102 rfl rfl rfl ?_
    refine g_goto k55_105 (t := 51) rfl ?_
    refine ih (i + 1) (by omega) (by rw [up2_ne (by omega), up2_ne (by omega)]; exact h3) (fun j h1 h2 => by rw [up2_ne (by omega), up2_ne (by omega), up2_ne (by omega), up2_ne (by omega)]; exact hke j h1 h2) (fun j hj => by rw [up2_ne (by omega), up2_ne (by omega)]; exact hw j hj) (fun j hj => ?_) (bt_congr (bt_or hx hz) (fun v _ => by rw [List.range_succ, List.any_append]; simp)) (fun σ' y g1 g2 g3 => kk σ' y (fun a h1 h2 => ?_) g2 g3)
    · rw [up2_ne (a := N + 3) (by omega), up2_of, up2_of, up2_ne (a := N + 4) (by omega)]
      by_cases c : j = i
      · rw [if_pos c, if_pos c, c]
        exact ⟨rfl, rfl⟩
      · rw [if_neg c, if_neg c]
        exact hs j (by omega)
    · rw [g1 a h1 h2]
      funext q
      rw [up2_ne (Or.inl h2), up2_ne (Or.inl h1)]
theorem go_heap {P : am_P} {y pc : Nat} {lo : am_L} {st : List Value} {h h' : am_H} (e : h = h') (k : go P y pc lo st h' Q) : go P y pc lo st h Q := by
  rw [e]
  exact k
/-- a formula as it is made -/
def FM (ws : Nat → Int32) (n : Nat) (kd : Nat → Nat) (N : Nat) (dy : List (Nat × Nat)) (σ : Nat → Nat → Int32) : Prop := (47 ≤ N ∧ me_sh dy N = some (7, 0) ∧ me_sh dy (N + 1) = some (0, 25) ∧ me_sh dy (N + 2) = some (0, n) ∧ me_sh dy (N + 3) = some (0, n) ∧ me_sh dy (N + 4) = some (0, n)) ∧ (∀ i, i < n → σ (N + 2) i = ws i) ∧ (∃ kd en, FK ws n kd en ∧ ∀ i, i < n → σ (N + 3) i = nn (en (i + 1)) ∧ σ (N + 4) i = nn (en (en (i + 1)))) ∧ σ N 4 = bb (kd 0 = 2) ∧ bt (σ N 5) (fun v => (List.range n).any (fun j => mw (ws j) v))
theorem s_55 (hdy : dy.length < 90000) (hn : 1 ≤ n ∧ n ≤ 24) (hok : ∀ j, j < n → wd_ok (ws j)) (hc : CP ws n 0 kd en) (hall : ∀ j, j < n → kd j ≠ 0) (h3 : σ 1 3 = nn n) (hw : ∀ j, j < n → σ 2 j = ws j) (hke : KE σ n 0 kd en) (kk : ∀ σ', (∀ a, a < 47 + dy.length → σ' a = σ a) → FM ws n kd (47 + dy.length) (dy ++ dF n) σ' → Q (.inl none) (mk (dy ++ dF n) σ' ρ τ)) : go (tb_P L xs) 55 0 [some (.ref (47 + dy.length)), some (.ref 1), none, none] [] (mk dy σ ρ τ ++ [.inr (2, [.null, .null, .null, .null, .int 0, .int 0])]) Q := by
  have hln : 47 + dy.length = (mk dy σ ρ τ).length := mk_len.symm
  have a1 : me_sh dy 1 = some (1 + 5, 0) := rfl
  have a2 : me_sh dy 2 = some (0, 24) := rfl
  have t25 := ti_25
  refine g_aload_n k55_0 rfl ?_
  refine g_oinit k55_1 s55_1 r55_1 ?_
  refine g_aload_n k55_4 rfl ?_
  refine g_bipush (v := nn 25) k55_5 cb_25 ?_
  refine g_newI k55_7 (by rw [t25]; omega) ?_
  rw [show (nn 25).toNatClampNeg = 25 from rfl, List.append_assoc, List.length_append, ← hln]
  refine g_putN (tl := [am_I 25 (fun _ => 0)]) k55_9 f55_9 hln (by show 3 < 6; omega) rfl rfl ?_
  refine g_aload_n k55_12 rfl ?_
  refine g_aload_n k55_13 rfl ?_
  refine g_get k55_14 f55_14 (ap_at a1) rfl ?_
  refine g_aload_n k55_17 rfl ?_
  refine g_get k55_18 f55_18 (ap_at a1) rfl ?_
  rw [h3]
  refine g_callS2 k55_21 s55_21 c55_21 l56 (by omega) ⟨rfl, rfl⟩ rfl r55_21 ?_
  refine s_56 (f := σ 2) (ap_at a2) hn.2 (fun g hg => ?_)
  refine af_ret ?_
  rw [List.append_assoc, List.length_append, ← hln]
  refine g_putN (tl := [am_I 25 (fun _ => 0), am_I n g]) k55_24 f55_24 hln (by show 0 < 6; omega) rfl rfl ?_
  refine g_aload_n k55_27 rfl ?_
  refine g_aload_n k55_28 rfl ?_
  refine g_get k55_29 f55_29 (ap_at a1) rfl ?_
  rw [h3]
  refine g_newI k55_32 (by rw [nn_toInt (by omega)]; omega) ?_
  rw [nn_cl (by omega), List.append_assoc, List.length_append, ← hln]
  refine g_putN (tl := [am_I 25 (fun _ => 0), am_I n g, am_I n (fun _ => 0)]) k55_34 f55_34 hln (by show 1 < 6; omega) rfl rfl ?_
  refine g_aload_n k55_37 rfl ?_
  refine g_aload_n k55_38 rfl ?_
  refine g_get k55_39 f55_39 (ap_at a1) rfl ?_
  rw [h3]
  refine g_newI k55_42 (by rw [nn_toInt (by omega)]; omega) ?_
  rw [nn_cl (by omega), List.append_assoc, List.length_append, ← hln]
  refine g_putN (tl := [am_I 25 (fun _ => 0), am_I n g, am_I n (fun _ => 0), am_I n (fun _ => 0)]) k55_44 f55_44 hln (by show 2 < 6; omega) rfl rfl ?_
  refine go_heap (mk_five (dy := dy) (σ := σ) (ρ := ρ) (τ := τ) (n := n) g) ?_
  have hdl : (dy ++ dF n).length < 100000 := by
    rw [List.length_append]
    show dy.length + 5 < 100000
    omega
  have sN : me_sh (dy ++ dF n) (47 + dy.length) = some (7, 0) := sh_new (k := 0)
  have s1 : me_sh (dy ++ dF n) (47 + dy.length + 1) = some (0, 25) := sh_new (k := 1)
  have s2 : me_sh (dy ++ dF n) (47 + dy.length + 2) = some (0, n) := sh_new (k := 2)
  have s3 : me_sh (dy ++ dF n) (47 + dy.length + 3) = some (0, n) := sh_new (k := 3)
  have s4 : me_sh (dy ++ dF n) (47 + dy.length + 4) = some (0, n) := sh_new (k := 4)
  refine g_iconst (v := nn 0) k55_47 ci_0 ?_
  refine g_istore_n k55_48 rfl rfl ?_
  refine g_iconst (v := nn 0) k55_49 ci_0 ?_
  refine g_istore_n k55_50 rfl rfl ?_
  refine s_55L hdl hn.2 (by omega) hok hc sN s2 s3 s4 n 0 (by omega) (by rw [upr_ne (by omega), upr_ne (by omega), upr_ne (by omega), upr_ne (by omega), upr_ne (by omega)]; exact h3) (fun j h1 h2 => by rw [upr_ne (by omega), upr_ne (by omega), upr_ne (by omega), upr_ne (by omega), upr_ne (by omega), upr_ne (by omega), upr_ne (by omega), upr_ne (by omega), upr_ne (by omega), upr_ne (by omega)]; exact hke j h1 h2) (fun j hj => by rw [upr_ne (by omega), upr_ne (by omega), upr_at]; exact (hg j hj).trans (hw j hj)) (fun j hj => by omega) (bt_congr bt_0 (fun v _ => by simp)) (fun σ' y g1 g2 g3 => ?_)
  have k0 : σ' 3 0 = nn (kd 0) := by
    rw [g1 3 (by omega) (by omega), upr_ne (by omega), upr_ne (by omega), upr_ne (by omega), upr_ne (by omega), upr_ne (by omega)]
    exact (hke 0 (by omega) (by omega)).1
  have c0 := hc.c3 (j := 0) (by omega) (by omega)
  refine g_aload_n k55_108 rfl ?_
  refine g_aload_n k55_109 rfl ?_
  refine m_get k55_110 f55_110 rfl rfl ?_
  refine g_iconst (v := nn 0) k55_113 ci_0 ?_
  refine m_iald k55_114 hdl rfl rfl (by omega) (by omega) ?_
  rw [k0]
  refine g_iconst (v := nn 2) k55_115 ci_2 ?_
  refine g_icneN k55_116 (t := 123) rfl ⟨by omega, by omega⟩ (fun h116 => ?_) (fun h116 => ?_)
  · skip
    refine g_iconst (v := nn 0) k55_123 ci_0 ?_
    refine m_putI k55_124 f55_124 (by assumption) rfl rfl ?_
    refine g_aload_n k55_127 rfl ?_
    refine g_iload_n k55_128 rfl ?_
    refine m_putI k55_129 f55_129 (by assumption) rfl rfl ?_
    refine g_return k55_132 t55 ?_
    refine kk _ (fun a ha => ?_) ⟨⟨by omega, sN, s1, s2, s3, s4⟩, fun j hj => ?_, ⟨kd, en, ⟨hc, hok, hall⟩, fun j hj => ?_⟩, ?_, ?_⟩
    · funext q
      rw [up2_ne (by omega), up2_ne (by omega), g1 a (by omega) (by omega), upr_ne (by omega), upr_ne (by omega), upr_ne (by omega), upr_ne (by omega), upr_ne (by omega)]
    · rw [up2_ne (by omega), up2_ne (by omega), g1 _ (by omega) (by omega), upr_ne (by omega), upr_ne (by omega), upr_at]
      exact (hg j hj).trans (hw j hj)
    · rw [up2_ne (by omega), up2_ne (by omega), up2_ne (by omega), up2_ne (by omega)]
      exact g2 j hj
    · rw [up2_ne (by omega), up2_at]
      first
        | rw [bb_t h116]
        | rw [bb_f h116]
    · rw [up2_at]
      exact g3
  · skip
    refine g_iconst (v := nn 1) k55_119 ci_1 ?_
    refine g_goto k55_120 (t := 124) rfl ?_
    refine m_putI k55_124 f55_124 (by assumption) rfl rfl ?_
    refine g_aload_n k55_127 rfl ?_
    refine g_iload_n k55_128 rfl ?_
    refine m_putI k55_129 f55_129 (by assumption) rfl rfl ?_
    refine g_return k55_132 t55 ?_
    refine kk _ (fun a ha => ?_) ⟨⟨by omega, sN, s1, s2, s3, s4⟩, fun j hj => ?_, ⟨kd, en, ⟨hc, hok, hall⟩, fun j hj => ?_⟩, ?_, ?_⟩
    · funext q
      rw [up2_ne (by omega), up2_ne (by omega), g1 a (by omega) (by omega), upr_ne (by omega), upr_ne (by omega), upr_ne (by omega), upr_ne (by omega), upr_ne (by omega)]
    · rw [up2_ne (by omega), up2_ne (by omega), g1 _ (by omega) (by omega), upr_ne (by omega), upr_ne (by omega), upr_at]
      exact (hg j hj).trans (hw j hj)
    · rw [up2_ne (by omega), up2_ne (by omega), up2_ne (by omega), up2_ne (by omega)]
      exact g2 j hj
    · rw [up2_ne (by omega), up2_at]
      first
        | rw [bb_t h116]
        | rw [bb_f h116]
    · rw [up2_at]
      exact g3
theorem FX.af {t : Bool} (hf : f ≠ td_nf A) {ad : Nat} (h : FX A f ad dy σ) : FX (td_af A n ws t) f ad dy σ := by
  have e1 : td_ln (td_af A n ws t) f = td_ln A f := if_neg hf
  have e2 : td_fw (td_af A n ws t) f = td_fw A f := if_neg hf
  have e3 : td_ft (td_af A n ws t) f = td_ft A f := if_neg hf
  have e4 : td_mn (td_af A n ws t) f = td_mn A f := by
    funext v
    unfold td_mn
    rw [e1, e2]
  unfold FX
  rw [e1, e2, e3, e4]
  exact h
theorem FM.fx {t : Bool} (h : FM ws n kd N dy σ) (ht : t = decide (kd 0 = 2)) : FX (td_af A n ws t) (td_nf A) N dy σ := by
  have e1 : td_ln (td_af A n ws t) (td_nf A) = n := if_pos rfl
  have e2 : td_fw (td_af A n ws t) (td_nf A) = ws := if_pos rfl
  have e3 : td_ft (td_af A n ws t) (td_nf A) = t := if_pos rfl
  have e4 : td_mn (td_af A n ws t) (td_nf A) = fun v => (List.range n).any (fun j => mw (ws j) v) := by
    funext v
    unfold td_mn
    rw [e1, e2]
    rfl
  unfold FX
  rw [e1, e2, e3, e4]
  obtain ⟨a, b, c, d, g⟩ := h
  refine ⟨a, b, c, ?_, g⟩
  rw [d, ht]
  exact bb_congr (by rw [decide_eq_true_eq])
theorem ev_af {t : Bool} {row : Nat → Int32} (hf : f ≠ td_nf A) : ev (td_af A n ws t) f row = ev A f row := by
  have e1 : td_ln (td_af A n ws t) f = td_ln A f := if_neg hf
  have e2 : td_fw (td_af A n ws t) f = td_fw A f := if_neg hf
  unfold ev
  rw [e1, e2]
theorem ho_af {t : Bool} {m : Nat} {row : Nat → Int32} (ok : TOK A) (hm : m < 2) : td_ho (td_af A n ws t) m row = td_ho A m row := by
  unfold td_ho
  rw [List.range_eq_range', List.range_eq_range']
  refine all_congr' (td_ic A m) 0 (fun j _ hj => ?_)
  have h1 := ((ok.2.2.2.2.2.1 m hm).2 j (by omega)).1
  show decide ((ev (td_af A n ws t) (td_iv A m j) row).toInt = 1) = _
  rw [ev_af (by omega)]
theorem CX.af {t : Bool} (ok : TOK A) (h : CX A τ) : CX (td_af A n ws t) τ := fun s hs => by
  obtain ⟨h1, h2⟩ := h s hs
  unfold KN at h1 h2 ⊢
  rw [ho_af ok (by omega), ho_af ok (by omega)]
  exact ⟨h1, h2⟩
theorem RepX.af {t : Bool} (ok : TOK A) (hX : RepX A F E dy σ ρ) (hd : ∀ a s, me_sh dy a = some s → me_sh dy' a = some s ∧ a < N) (h47 : 47 ≤ N) (hF : FX (td_af A n ws t) (td_nf A) N dy' σ') (hs1 : ∀ a k, a = 8 ∨ a = 9 ∨ (a = 7 ∧ k = 3) ∨ (a = 11 ∧ (k = 2 ∨ k = 3)) → σ' a k = σ a k) (hs2 : ∀ a k, 47 ≤ a → a < N → σ' a k = σ a k) (h02 : σ' 0 2 = nn (td_nf A + 1)) (hr1 : ∀ a k, (a ≠ 5 ∨ k ≠ td_nf A) → ρ' a k = ρ a k) (h5 : ρ' 5 (td_nf A) = some N) : RepX (td_af A n ws t) (fun j => if j = td_nf A then N else F j) E dy' σ' ρ' := by
  obtain ⟨⟨a1, a2⟩, ⟨b1, b2, b3⟩, ⟨c1, c2, c3, c4⟩, d, g, g6⟩ := hX
  have hd1 : ∀ a s, me_sh dy a = some s → me_sh dy' a = some s := fun a s q => (hd a s q).1
  have hss : ∀ a k (s : Nat × Nat), 47 ≤ a → me_sh dy a = some s → s ≠ (0, 25) → σ' a k = σ a k := fun a k s q1 q2 _ => hs2 a k q1 (hd a s q2).2
  have mp : ∀ o : Option Nat, (∀ u, o = some u → u < td_nf A) → o.map F = o.map (fun j => if j = td_nf A then N else F j) := fun o ho => by
    cases o with
    | none => rfl
    | some u =>
      have := ho u rfl
      show some (F u) = some (if u = td_nf A then N else F u)
      rw [if_neg (by omega)]
  refine ⟨⟨h02, fun f hf => ?_⟩, ⟨by rw [hs1 7 3 (by omega)]; exact b1, fun e he => ⟨by rw [hr1 10 e (by omega)]; exact (b2 e he).1, ?_⟩, b3⟩, ⟨by rw [hs1 11 2 (by omega)]; exact c1, by rw [hs1 11 3 (by omega)]; exact c2, fun i hi => ?_, fun i hi => ?_⟩, ?_, fun v hv => by rw [hs1 8 v (by omega), hs1 9 v (by omega)]; exact g v hv, by rw [hs1 9 6 (by omega)]; exact g6⟩
  · have hf : f < td_nf A + 1 := hf
    dsimp only
    by_cases c : f = td_nf A
    · rw [if_pos c, c]
      exact ⟨h5, hF⟩
    · rw [if_neg c]
      exact ⟨by rw [hr1 5 f (by omega)]; exact (a2 f (by omega)).1, ((a2 f (by omega)).2.mono hd1 hss (ok.2.1 f (by omega)).1.2).af c⟩
  · obtain ⟨p, q1, q2, q3, q4, q5, q6⟩ := (b2 e he).2.mono hd1 hss (ρ' := ρ') (fun a k s h1 _ => hr1 a k (by omega))
    obtain ⟨-, -, -, o1, o2, o3⟩ := ok.2.2.2.1 e he
    exact ⟨p, q1, q2, q3, q4.trans (mp _ (fun u hu => (o1 u hu).1)), q5.trans (mp _ (fun u hu => (o2 u hu).1)), fun v hv => (q6 v hv).trans (mp _ (fun u hu => (o3 v u hv hu).1))⟩
  · have hi : i < td_ic A 0 := hi
    rw [hr1 12 i (by omega), c3 i hi]
    have := ((ok.2.2.2.2.2.1 0 (by omega)).2 i hi).1
    show some (F (td_iv A 0 i)) = some (if td_iv A 0 i = td_nf A then N else F (td_iv A 0 i))
    rw [if_neg (by omega)]
  · have hi : i < td_ic A 1 := hi
    rw [hr1 13 i (by omega), c4 i hi]
    have := ((ok.2.2.2.2.2.1 1 (by omega)).2 i hi).1
    show some (F (td_iv A 1 i)) = some (if td_iv A 1 i = td_nf A then N else F (td_iv A 1 i))
    rw [if_neg (by omega)]
  · rw [hr1 7 5 (by omega), d]
    exact mp _ (fun u hu => (ok.2.2.2.2.2.2.1 u hu).1)
theorem s_47 (hdy : dy.length < 90000) (ok : TOK A) (wo : WOK W) (hS : XS A W F E dy σ ρ τ) (k1 : ky (rs_w W) (rs_n W) [] = false → ∀ σ', oX A (rs_cl W) F E σ τ (dy ++ [(14, 0)]) σ' ρ τ → Q (.inr 9) (mk (dy ++ [(14, 0)]) σ' ρ τ)) (k2 : ky (rs_w W) (rs_n W) [] = true → td_nf A = 30 → ∀ σ', oX A W F E σ τ (dy ++ [(15, 0)]) σ' ρ τ → Q (.inr 10) (mk (dy ++ [(15, 0)]) σ' ρ τ)) (k0 : ky (rs_w W) (rs_n W) [] = true → td_nf A < 30 → ∀ F' σ' ρ', oX (td_af A (rs_n W) (rs_w W) (decide (53 ≤ (rs_w W 0).toInt ∧ (rs_w W 0).toInt ≤ 57))) (rs_cl W) F' E σ τ (dy ++ dF (rs_n W)) σ' ρ' τ → Q (.inl (some (.int (nn (td_nf A))))) (mk (dy ++ dF (rs_n W)) σ' ρ' τ)) : go (tb_P L xs) 47 0 [some (.ref 0)] [] (mk dy σ ρ τ) Q := by
  have hdy2 : dy.length < 100000 := by omega
  have hn := wo.1.1
  have hnf := ok.1
  refine g_aload_n k47_0 rfl ?_
  refine m_get k47_1 f47_1 rfl rfl ?_
  refine m_callV0 k47_4 s47_4 c47_4 l48 (by omega) trivial rfl r47_4 rfl ?_
  refine s_48 hdy2 hn wo.1.2 hS.2.2.1.1 hS.2.2.1.2 (fun σ1 kd en g1 hc hke => ?_)
  refine af_ret ?_
  have fx1 : fX σ σ1 := fun a h1 h2 => g1 a (by omega) (by omega)
  have hX1 : RepX A F E dy σ1 ρ := hS.1.agr ok ⟨fun a k h => by rw [g1 a (by omega) (by omega)], fun a k s h1 _ _ => by rw [g1 a (by omega) (by omega)]⟩
  have hR1 : RunX W σ1 := hS.2.2.agr (fun a k h => by rw [g1 a (by omega) (by omega)])
  have h02 := hX1.1.1
  by_cases hy : ky (rs_w W) (rs_n W) [] = true
  · by_cases hf : td_nf A = 30
    · refine g_ifne_t k47_7 (t := 25) rfl (by rw [bb_t hy]; decide) ?_
      refine g_aload_n k47_25 rfl ?_
      refine m_get k47_26 f47_26 rfl rfl ?_
      rw [h02]
      refine g_bipush (v := nn 30) k47_29 cb_30 ?_
      refine g_icne_f k47_31 (t := 42) rfl (by rw [hf]) ?_
      refine m_throw k47_34 n47_34 k47_37 k47_38 k47_41 x47_34 (by omega) r47_34 (o47 _) ?_
      exact k2 hy hf σ1 ⟨XS.app ok ⟨hX1, hS.2.1, hR1⟩, fx1, tE.rf τ⟩
    · have hq := k0 hy (by omega)
      have hkd := ky_eq wo.1.2 hc
      rw [hy] at hkd
      obtain ⟨hk0, he0⟩ := of_decide_eq_true hkd.symm
      obtain ⟨hall, hkr⟩ := hc.yes wo.1.2 hk0 he0
      obtain ⟨hn1, -⟩ := ky_kr wo.1.2 hy
      have ht : decide (53 ≤ (rs_w W 0).toInt ∧ (rs_w W 0).toInt ≤ 57) = decide (kd 0 = 2) := by
        rcases hc.2 0 (by omega) (by omega) with ⟨-, q⟩ | ⟨-, q, -⟩
        · rw [q]
          unfold kw
          by_cases c : 53 ≤ (rs_w W 0).toInt ∧ (rs_w W 0).toInt ≤ 57
          · rw [if_pos c, decide_eq_true c]
            rfl
          · rw [if_neg c, decide_eq_false c]
            rfl
        · exact absurd q hk0
      refine g_ifne_t k47_7 (t := 25) rfl (by rw [bb_t hy]; decide) ?_
      refine g_aload_n k47_25 rfl ?_
      refine m_get k47_26 f47_26 rfl rfl ?_
      rw [h02]
      refine g_bipush (v := nn 30) k47_29 cb_30 ?_
      refine g_icne_t k47_31 (t := 42) rfl (by rw [Ne, nn_inj (by omega) (by omega)]; exact hf) ?_
      refine g_aload_n k47_42 rfl ?_
      refine m_get k47_43 f47_43 rfl rfl ?_
      refine g_aload_n k47_46 rfl ?_
      refine m_get k47_47 f47_47 rfl rfl ?_
      rw [h02]
      refine g_new k47_50 n47_50 ?_
      rw [show am_df (tb_P L xs) 2 = [.null, .null, .null, .null, .int 0, .int 0] from rfl, mk_len]
      refine g_dup k47_53 rfl ?_
      refine g_aload_n k47_54 rfl ?_
      refine g_get k47_55 f47_55 (ap_at (show me_sh dy 0 = some (0 + 5, 0) from rfl)) rfl ?_
      refine g_callI1 k47_58 s47_58 c47_58 l55 (by omega) rfl rfl r47_58 ?_
      refine s_55 hdy ⟨hn1, hn⟩ wo.1.2 hc hall hR1.1.1 hR1.1.2 hke (fun σ2 g2 hFM => ?_)
      refine af_void ?_
      have hdl : (dy ++ dF (rs_n W)).length < 100000 := by
        rw [List.length_append]
        show dy.length + 5 < 100000
        omega
      have sN : me_sh (dy ++ dF (rs_n W)) (47 + dy.length) = some (7, 0) := hFM.1.2.1
      refine m_aast k47_61 rfl sN ⟨⟨by omega, by omega⟩, rfl⟩ rfl (by omega) (by omega) ?_
      refine g_aload_n k47_62 rfl ?_
      refine m_get k47_63 f47_63 rfl rfl ?_
      refine m_callV0 k47_66 s47_66 c47_66 l54 (by omega) trivial rfl r47_66 rfl ?_
      refine s_54 ?_
      refine af_void ?_
      refine g_aload_n k47_69 rfl ?_
      refine g_dup k47_70 rfl ?_
      refine m_get k47_71 f47_71 rfl rfl ?_
      rw [up2_ne (by omega), g2 0 (by omega), h02]
      refine g_iconst (v := nn 1) k47_74 ci_1 ?_
      refine g_iaddN k47_75 ?_
      refine m_putI k47_76 f47_76 rfl rfl rfl ?_
      refine g_aload_n k47_79 rfl ?_
      refine m_get k47_80 f47_80 rfl rfl ?_
      rw [up2_at]
      refine g_iconst (v := nn 1) k47_83 ci_1 ?_
      refine g_isubN k47_84 (by omega) ?_
      refine g_ireturn k47_85 t47 ?_
      rw [show td_nf A + 1 - 1 = td_nf A by omega]
      have sa : ∀ a k, a < 47 + dy.length → (a ≠ 1 ∨ k ≠ 3) → (a ≠ 0 ∨ k ≠ 2) → up2 (up2 σ2 1 3 (nn 0)) 0 2 (nn (td_nf A + 1)) a k = σ1 a k := fun a k h1 h2 h3 => by rw [up2_ne h3, up2_ne h2, g2 a h1]
      have hFM2 : FM (rs_w W) (rs_n W) kd (47 + dy.length) (dy ++ dF (rs_n W)) (up2 (up2 σ2 1 3 (nn 0)) 0 2 (nn (td_nf A + 1))) := by
        have e : ∀ a, 47 ≤ a → up2 (up2 σ2 1 3 (nn 0)) 0 2 (nn (td_nf A + 1)) a = σ2 a := fun a ha => funext fun q => by rw [up2_ne (by omega), up2_ne (by omega)]
        unfold FM
        rw [e _ (by omega), e _ (by omega), e _ (by omega), e _ (by omega)]
        exact hFM
      refine hq _ _ _ ⟨⟨RepX.af (N := 47 + dy.length) ok hX1 (fun a s h => ⟨sh_app h, sh_lt h⟩) (by omega) (hFM2.fx ht) (fun a k h => sa a k (by omega) (by omega) (by omega)) (fun a k h1 h2 => sa a k h2 (by omega) (by omega)) up2_at (fun a k h => up2_ne h) up2_at, hS.2.1.af ok, ⟨⟨?_, fun i hi => ?_⟩, ⟨?_, ?_, ?_, ?_, fun ho => ⟨fun v hv => ?_, fun j v hj hv => ?_⟩⟩, ?_, fun hsw v hv => ?_⟩⟩, ?_, tE.rf τ⟩
      · rw [up2_ne (by omega), up2_at]
        rfl
      · have hi : i < 0 := hi
        omega
      · rw [sa 21 4 (by omega) (by omega) (by omega)]
        exact hR1.2.1.1
      · rw [sa 21 5 (by omega) (by omega) (by omega)]
        exact hR1.2.1.2.1
      · rw [sa 21 3 (by omega) (by omega) (by omega)]
        exact hR1.2.1.2.2.1
      · rw [sa 22 6 (by omega) (by omega) (by omega)]
        exact hR1.2.1.2.2.2.1
      · rw [sa 22 v (by omega) (by omega) (by omega)]
        exact (hR1.2.1.2.2.2.2 ho).1 v hv
      · rw [sa 23 _ (by omega) (by omega) (by omega)]
        exact (hR1.2.1.2.2.2.2 ho).2 j v hj hv
      · rw [sa 0 7 (by omega) (by omega) (by omega)]
        exact hR1.2.2.1
      · rw [sa 6 v (by omega) (by omega) (by omega)]
        exact hR1.2.2.2 hsw v hv
      · intro a h1 h2
        funext q
        rw [sa a q (by omega) (by omega) (by omega), fx1 a h1 h2]
  · refine g_ifne_f k47_7 (t := 25) rfl (bb_f hy) ?_
    refine g_aload_n k47_10 rfl ?_
    refine m_get k47_11 f47_11 rfl rfl ?_
    refine m_callV0 k47_14 s47_14 c47_14 l54 (by omega) trivial rfl r47_14 rfl ?_
    refine s_54 ?_
    refine af_void ?_
    refine m_throw k47_17 n47_17 k47_20 k47_21 k47_24 x47_17 (by omega) r47_17 (o47 _) ?_
    refine k1 (by simpa using hy) _ ⟨XS.app ok ⟨hX1.agr ok ⟨fun a k h => up2_ne (by omega), fun a k s h1 _ _ => up2_ne (by omega)⟩, hS.2.1, ⟨⟨rfl, fun i hi => ?_⟩, hR1.2⟩⟩, fx1.up (by omega), tE.rf τ⟩
    have hi : i < 0 := hi
    omega
end ZH
