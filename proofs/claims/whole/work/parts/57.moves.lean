/-! The class: the beginning, and whether it always moves. -/
section YH
variable {L : Nat} {xs : Nat → Int32} {Q : am_A → am_H → Prop} {dy dy' : List (Nat × Nat)} {σ σ' : Nat → Nat → Int32} {ρ ρ' : Nat → Nat → Option Nat} {τ τ' : Nat → Nat → Int64} {A : TD} {W : RS} {F E : Nat → Nat} {f e u r ad m kd : Nat} {rw : Nat → Int32} {s d : Nat → Nat} {x y kc : Int32}
theorem s_8 (hdy : dy.length < 100000) (ok : TOK A) (hX : RepX A F E dy σ ρ) (hC : CX A τ) (kk : ∀ σ' τ', fD dy σ σ' → tE τ τ' → CX A τ' → row7 σ' (dp (td_in A) 0) → Q (.inl (some (.int (bb (td_ri A (rd (td_in A) 0) = true))))) (mk dy σ' ρ τ')) : go (tb_P L xs) 8 0 [some (.ref 18)] [] (mk dy σ ρ τ) Q := by
  have f1 : ∀ a, a ≠ 19 → upr σ 19 (va_cpy (σ 9) (σ 19) 0 0 7) a = σ a := fun a ha => upr_ne ha
  have hrow : row7 (upr σ 19 (va_cpy (σ 9) (σ 19) 0 0 7)) (dp (td_in A) 0) := fun v hv => by
    rw [upr_at, cpy7, if_pos hv]
    unfold dp
    by_cases c : v = 6
    · rw [if_pos c, c]
      exact hX.2.2.2.2.2
    · rw [if_neg c]
      exact (hX.2.2.2.2.1 v (by omega)).2
  have hX1 := hX.agr ok (f19 (dy := dy) f1).ag
  have h4 : ∀ v, v < 7 → dp (td_in A) 0 v < 4 := fun v hv => by
    unfold dp
    by_cases c : v = 6
    · rw [if_pos c]
      omega
    · rw [if_neg c]
      have := ok.2.2.2.2.2.2.2 v (by omega)
      omega
  refine g_aload_n k8_0 rfl ?_
  refine m_get k8_1 f8_1 rfl rfl ?_
  refine m_get k8_4 f8_4 rfl rfl ?_
  refine g_iconst (v := nn 0) k8_7 ci_0 ?_
  refine g_aload_n k8_8 rfl ?_
  refine m_get k8_9 f8_9 rfl rfl ?_
  refine g_iconst (v := nn 0) k8_12 ci_0 ?_
  refine g_bipush (v := nn 7) k8_13 cb_7 ?_
  refine m_copy k8_15 s8_15 rfl rfl rfl rfl rfl (by omega) r8_15 ?_
  refine g_aload_n k8_18 rfl ?_
  refine m_get k8_19 f8_19 rfl rfl ?_
  refine m_get k8_22 f8_22 rfl rfl ?_
  refine g_iconst (v := nn 1) k8_25 ci_1 ?_
  refine g_aload_n k8_26 rfl ?_
  refine m_get k8_27 f8_27 rfl rfl ?_
  refine m_callV2 k8_30 s8_30 c8_30 l9 (by omega) ⟨rfl, rfl⟩ rfl r8_30 rfl ?_
  refine s_9 (m := 1) hdy ok hX1 hC (by omega) (by omega) rfl (hrow.rX h4) (fun σ1 τ1 hs1 ht1 hC1 => ?_)
  refine af_ret ?_
  refine g_breturnB k8_33 t8 ?_
  have hz := kk σ1 τ1 ((f19 f1).tr hs1.fD) ht1 hC1 (fun v hv => by rw [hs1.st (by omega)]; exact hrow v hv)
  have e1 : td_rt A (decide (1 = 0)) (dp (td_in A) 0) = td_ri A (rd (td_in A) 0) := ri_congr ok (fun v hv => rd_lt hv (by unfold dp; rw [if_neg (by omega)]))
  rw [e1]
  exact hz
/-- nothing but the parameter of the row, and what formulas note, is another -/
def fP (dy : List (Nat × Nat)) (σ σ' : Nat → Nat → Int32) : Prop := ∀ a k, (a ≠ 19 ∨ k < 6) → (a < 47 ∨ me_sh dy a ≠ some (0, 25)) → σ' a k = σ a k
theorem fP.rf (σ : Nat → Nat → Int32) : fP dy σ σ := fun _ _ _ _ => rfl
theorem fP.tr {σ σ1 σ2 : Nat → Nat → Int32} (h1 : fP dy σ σ1) (h2 : fP dy σ1 σ2) : fP dy σ σ2 := fun a k g1 g2 => (h2 a k g1 g2).trans (h1 a k g1 g2)
theorem fE.fP (h : fE dy σ σ') : fP dy σ σ' := fun a k _ g => by rw [h a g]
theorem fP.up {z : Int32} (h : fP dy σ σ') : fP dy σ (up2 σ' 19 6 z) := fun a k g1 g2 => by
  rw [up2_ne (by omega)]
  exact h a k g1 g2
theorem fP.ag (h : fP dy σ σ') : agX dy σ σ' := ⟨fun a k q => h a k (by omega) (Or.inl (by omega)), fun a k s h1 h2 h3 => h a k (by omega) (Or.inr (fun q => h3 (Option.some.inj (h2.symm.trans q))))⟩
theorem fP.fD (h : fP dy σ σ') : fD dy σ σ' := fun a k _ _ g3 _ _ g6 => h a k (Or.inl g3) g6
theorem s_89P (hdy : dy.length < 100000) (ok : TOK A) (he : e < td_ne A) : ∀ (k p : Nat) {b : Bool} {σ : Nat → Nat → Int32} {Q : am_A → am_H → Prop}, p + k = td_rg A e → RepX A F E dy σ ρ → (∀ v, v < 6 → σ 19 v = nn (s v) ∧ s v < 4) → (∀ σ' b' l4, fP dy σ σ' → b' = (b || (decide (td_ma A e = 1) && (List.range' p k).any (fun p => td_en A e (td_rp (rd s 0) (nn p))))) → go (tb_P L xs) 89 77 [some (.ref 18), some (.int (bb (b' = true))), some (.int (nn e)), some (.ref (E e)), l4] [] (mk dy σ' ρ τ) Q) → go (tb_P L xs) 89 32 [some (.ref 18), some (.int (bb (b = true))), some (.int (nn e)), some (.ref (E e)), some (.int (nn p))] [] (mk dy σ ρ τ) Q := by
  have hm1 := (ok.2.2.2.1 e he).1
  have hr4 := (ok.2.2.2.1 e he).2.1
  intro k
  induction k with
  | zero =>
    intro p b σ Q hp hX hrow kk
    obtain ⟨⟨h47, hA8, hA3⟩, hma, hrg, _⟩ := (hX.2.1.2.1 e he).2
    refine g_aload_n k89_32 rfl ?_
    refine m_get k89_33 f89_33 (by assumption) rfl ?_
    rw [hma]
    refine g_iconst (v := nn 1) k89_36 ci_1 ?_
    refine g_icneN k89_37 (t := 77) rfl ⟨by omega, by omega⟩ (fun h37 => ?_) (fun h37 => ?_)
    · skip
      exact kk σ b _ (fP.rf σ) (by simp)
    · skip
      refine g_iload k89_40 rfl ?_
      refine g_aload_n k89_42 rfl ?_
      refine m_get k89_43 f89_43 (by assumption) rfl ?_
      rw [hrg]
      refine g_icge_t k89_46 (t := 77) rfl (by rw [nn_toInt (by omega), nn_toInt (by omega)]; omega) ?_
      exact kk σ b _ (fP.rf σ) (by simp)
  | succ k ih =>
    intro p b σ Q hp hX hrow kk
    obtain ⟨⟨h47, hA8, hA3⟩, hma, hrg, _⟩ := (hX.2.1.2.1 e he).2
    have f1 : fP dy σ (up2 σ 19 6 (nn p)) := (fP.rf σ).up
    have hX1 := hX.agr ok f1.ag
    have a1 : ag (fun _ => true) (up2 σ 19 6 (nn p) 19) (td_rp (rd s 0) (nn p)) := fun v hv _ => by
      rw [up2_of]
      unfold td_rp rd
      by_cases c : v = 6
      · rw [if_pos c, if_pos c]
      · rw [if_neg c, if_neg c, if_neg c]
        exact (hrow v (by omega)).1
    have nf1 : ∀ v, v ≤ 6 → nf (up2 σ 19 6 (nn p) 19 v) := fun v hv => by
      rw [up2_of]
      by_cases c : v = 6
      · rw [if_pos c]
        exact nf_nn (by omega)
      · rw [if_neg c, (hrow v (by omega)).1]
        have := (hrow v (by omega)).2
        exact nf_nn (by omega)
    rw [List.range'_succ] at kk
    refine g_aload_n k89_32 rfl ?_
    refine m_get k89_33 f89_33 (by assumption) rfl ?_
    rw [hma]
    refine g_iconst (v := nn 1) k89_36 ci_1 ?_
    refine g_icneN k89_37 (t := 77) rfl ⟨by omega, by omega⟩ (fun h37 => ?_) (fun h37 => ?_)
    · skip
      first
        | exact kk σ b _ (fP.rf σ) (by rw [show b = true from h50, Bool.true_or])
        | exact kk σ b _ (fP.rf σ) (by rw [decide_eq_false h37]; simp)
    · skip
      refine g_iload k89_40 rfl ?_
      refine g_aload_n k89_42 rfl ?_
      refine m_get k89_43 f89_43 (by assumption) rfl ?_
      rw [hrg]
      refine g_icge_f k89_46 (t := 77) rfl (by rw [nn_toInt (by omega), nn_toInt (by omega)]; omega) ?_
      refine g_iload_n k89_49 rfl ?_
      refine g_ifneB k89_50 (t := 77) rfl (fun h50 => ?_) (fun h50 => ?_)
      · skip
        first
          | exact kk σ b _ (fP.rf σ) (by rw [show b = true from h50, Bool.true_or])
          | exact kk σ b _ (fP.rf σ) (by rw [decide_eq_false h37]; simp)
      · skip
        refine g_aload_n k89_53 rfl ?_
        refine m_get k89_54 f89_54 rfl rfl ?_
        refine g_bipush (v := nn 6) k89_57 cb_6 ?_
        refine g_iload k89_59 rfl ?_
        refine m_iast k89_61 rfl rfl (by omega) (by omega) ?_
        refine g_aload_n k89_62 rfl ?_
        refine g_aload_n k89_63 rfl ?_
        refine m_get k89_64 f89_64 rfl rfl ?_
        refine m_callV1 k89_67 s89_67 c89_67 l23 (by omega) rfl rfl r89_67 (by assumption) ?_
        refine s_23 hdy ok hX1 he (by omega) rfl nf1 (fun σ1 hs => ?_)
        refine af_ret ?_
        rw [en_ag (M := fun _ => true) ok he (fun _ _ => rfl) a1]
        refine g_istore_n k89_70 rfl rfl ?_
        refine g_iincN k89_71 rfl rfl rfl ?_
        refine g_goto k89_74 (t := 32) rfl ?_
        have hb : b = false := by simpa using h50
        refine ih (p + 1) (by omega) (hX1.agr ok hs.ag) (fun v hv => by rw [hs.st (show (19 : Nat) < 47 by omega), up2_ne (by omega)]; exact hrow v hv) (fun σ' b' l4 g1 g2 => kk σ' b' l4 ((f1.tr hs.fP).tr g1) ?_)
        rw [g2, hb, decide_eq_true h37, List.any_cons]
        rfl
theorem s_89L (hdy : dy.length < 100000) (ok : TOK A) : ∀ (k e : Nat) {b : Bool} {σ : Nat → Nat → Int32} {l3 l4 : Option Value} {Q : am_A → am_H → Prop}, e + k = td_ne A → RepX A F E dy σ ρ → (∀ v, v < 6 → σ 19 v = nn (s v) ∧ s v < 4) → (∀ σ', fP dy σ σ' → σ' 19 6 = nn 0 → Q (.inl (some (.int (bb ((b || (List.range' e k).any (td_m1 A (rd s 0))) = true))))) (mk dy σ' ρ τ)) → go (tb_P L xs) 89 4 [some (.ref 18), some (.int (bb (b = true))), some (.int (nn e)), l3, l4] [] (mk dy σ ρ τ) Q := by
  have hne := ok.2.2.1
  intro k
  induction k with
  | zero =>
    intro e b σ l3 l4 Q he hX hrow kk
    have h11 := hX.2.1.1
    refine g_iload_n k89_4 rfl ?_
    refine g_aload_n k89_5 rfl ?_
    refine m_get k89_6 f89_6 rfl rfl ?_
    refine m_get k89_9 f89_9 rfl rfl ?_
    rw [h11]
    refine g_icge_t k89_12 (t := 83) rfl (by rw [nn_toInt (by omega), nn_toInt (by omega)]; omega) ?_
    refine g_aload_n k89_83 rfl ?_
    refine m_get k89_84 f89_84 rfl rfl ?_
    refine g_bipush (v := nn 6) k89_87 cb_6 ?_
    refine g_iconst (v := nn 0) k89_89 ci_0 ?_
    refine m_iast k89_90 rfl rfl (by omega) (by omega) ?_
    refine g_iload_n k89_91 rfl ?_
    refine g_breturnB k89_92 t89 ?_
    have hz := kk _ (fP.rf σ).up up2_at
    rw [show (b || (List.range' e 0).any (td_m1 A (rd s 0))) = b by simp] at hz
    exact hz
  | succ k ih =>
    intro e b σ l3 l4 Q he hX hrow kk
    have h11 := hX.2.1.1
    have heA : e < td_ne A := by omega
    have g10 := (hX.2.1.2.1 e heA).1
    rw [List.range'_succ, List.any_cons] at kk
    refine g_iload_n k89_4 rfl ?_
    refine g_aload_n k89_5 rfl ?_
    refine m_get k89_6 f89_6 rfl rfl ?_
    refine m_get k89_9 f89_9 rfl rfl ?_
    rw [h11]
    refine g_icge_f k89_12 (t := 83) rfl (by rw [nn_toInt (by omega), nn_toInt (by omega)]; omega) ?_
    refine g_iload_n k89_15 rfl ?_
    refine g_ifneB k89_16 (t := 83) rfl (fun h16 => ?_) (fun h16 => ?_)
    · skip
      refine g_aload_n k89_83 rfl ?_
      refine m_get k89_84 f89_84 rfl rfl ?_
      refine g_bipush (v := nn 6) k89_87 cb_6 ?_
      refine g_iconst (v := nn 0) k89_89 ci_0 ?_
      refine m_iast k89_90 rfl rfl (by omega) (by omega) ?_
      refine g_iload_n k89_91 rfl ?_
      refine g_breturnB k89_92 t89 ?_
      have hz := kk _ (fP.rf σ).up up2_at
      rw [show b = true from h16, Bool.true_or] at hz
      rw [show b = true from h16]
      exact hz
    · skip
      refine g_aload_n k89_19 rfl ?_
      refine m_get k89_20 f89_20 rfl rfl ?_
      refine m_get k89_23 f89_23 rfl rfl ?_
      refine g_iload_n k89_26 rfl ?_
      refine m_aald k89_27 rfl ⟨by omega, by omega⟩ rfl (by omega) (by omega) ?_
      rw [g10, va_rs]
      refine g_astore_n k89_28 rfl rfl ?_
      refine g_iconst (v := nn 0) k89_29 ci_0 ?_
      refine g_istore k89_30 rfl rfl ?_
      refine s_89P hdy ok heA (td_rg A e) 0 (by omega) hX hrow (fun σ1 b1 l4 hs1 hb1 => ?_)
      refine g_iincN k89_77 rfl rfl rfl ?_
      refine g_goto k89_80 (t := 4) rfl ?_
      refine ih (e + 1) (by omega) (hX.agr ok hs1.ag) (fun v hv => by rw [hs1 19 v (Or.inr hv) (Or.inl (by omega))]; exact hrow v hv) (fun σ' g1 g2 => ?_)
      have hz := kk σ' (hs1.tr g1) g2
      rw [← Bool.or_assoc, show (b || td_m1 A (rd s 0) e) = b1 by rw [hb1]; unfold td_m1; rw [List.range_eq_range']] at hz
      exact hz
theorem s_89 (hdy : dy.length < 100000) (ok : TOK A) (hX : RepX A F E dy σ ρ) (hrow : ∀ v, v < 6 → σ 19 v = nn (s v) ∧ s v < 4) (kk : ∀ σ', fP dy σ σ' → σ' 19 6 = nn 0 → Q (.inl (some (.int (bb (td_mv A (rd s 0) = true))))) (mk dy σ' ρ τ)) : go (tb_P L xs) 89 0 [some (.ref 18), none, none, none, none] [] (mk dy σ ρ τ) Q := by
  refine g_iconst (v := nn 0) k89_0 ci_0 ?_
  refine g_istore_n k89_1 rfl rfl ?_
  refine g_iconst (v := nn 0) k89_2 ci_0 ?_
  refine g_istore_n k89_3 rfl rfl ?_
  refine s_89L (b := false) hdy ok (td_ne A) 0 (by omega) hX hrow (fun σ' g1 g2 => ?_)
  have hz := kk σ' g1 g2
  unfold td_mv at hz
  rw [Bool.false_or, ← List.range_eq_range']
  exact hz
theorem s_88M (hdy : dy.length < 100000) (ok : TOK A) (hX : RepX A F E dy σ ρ) : ∀ (k e : Nat) {x : Int32} {M : Nat → Bool} {Q : am_A → am_H → Prop}, e + k = td_ne A → bt x M → (∀ y, bt y (fun v => M v || (List.range' e k).any (fun e => decide (td_ma A e = 1) && td_em A e v)) → go (tb_P L xs) 88 66 [some (.ref 18), some (.int y), some (.int (nn (e + k)))] [] (mk dy σ ρ τ) Q) → go (tb_P L xs) 88 14 [some (.ref 18), some (.int x), some (.int (nn e))] [] (mk dy σ ρ τ) Q := by
  have hne := ok.2.2.1
  have h11 := hX.2.1.1
  intro k
  induction k with
  | zero =>
    intro e x M Q he hx kk
    refine g_iload_n k88_14 rfl ?_
    refine g_aload_n k88_15 rfl ?_
    refine m_get k88_16 f88_16 rfl rfl ?_
    refine m_get k88_19 f88_19 rfl rfl ?_
    rw [h11]
    refine g_icge_t k88_22 (t := 66) rfl (by rw [nn_toInt (by omega), nn_toInt (by omega)]; omega) ?_
    exact kk x (bt_congr hx (fun v _ => by simp))
  | succ k ih =>
    intro e x M Q he hx kk
    have heA : e < td_ne A := by omega
    have g10 := (hX.2.1.2.1 e heA).1
    obtain ⟨⟨h47, hA8, hA3⟩, hma, _⟩ := (hX.2.1.2.1 e heA).2
    have hm1 := (ok.2.2.2.1 e heA).1
    rw [List.range'_succ] at kk
    refine g_iload_n k88_14 rfl ?_
    refine g_aload_n k88_15 rfl ?_
    refine m_get k88_16 f88_16 rfl rfl ?_
    refine m_get k88_19 f88_19 rfl rfl ?_
    rw [h11]
    refine g_icge_f k88_22 (t := 66) rfl (by rw [nn_toInt (by omega), nn_toInt (by omega)]; omega) ?_
    refine g_iload_n k88_25 rfl ?_
    refine g_aload_n k88_26 rfl ?_
    refine m_get k88_27 f88_27 rfl rfl ?_
    refine m_get k88_30 f88_30 rfl rfl ?_
    refine g_iload_n k88_33 rfl ?_
    refine m_aald k88_34 rfl ⟨by omega, by omega⟩ rfl (by omega) (by omega) ?_
    rw [g10, va_rs]
    refine m_get k88_35 f88_35 (by assumption) rfl ?_
    rw [hma]
    refine g_iconst (v := nn 1) k88_38 ci_1 ?_
    refine g_icneN k88_39 (t := 57) rfl ⟨by omega, by omega⟩ (fun h39 => ?_) (fun h39 => ?_)
    · skip
      refine g_iconst (v := nn 0) k88_57 ci_0 ?_
      refine g_ior k88_58 ?_
      refine g_istore_n k88_59 rfl rfl ?_
      refine g_iincN k88_60 rfl rfl rfl ?_
      refine g_goto k88_63 (t := 14) rfl ?_
      first
        | (refine ih (e + 1) (by omega) (bt_or hx bt_0) (fun y hy => ?_)
           have hz := kk y (bt_congr hy (fun v _ => by rw [List.any_cons, decide_eq_false h39, Bool.false_and, ← Bool.or_assoc]))
           rw [show e + (k + 1) = e + 1 + k by omega] at hz
           exact hz)
        | (refine ih (e + 1) (by omega) (bt_or hx hz) (fun y hy => ?_)
           have hz2 := kk y (bt_congr hy (fun v _ => by rw [List.any_cons, decide_eq_true h39, Bool.true_and, ← Bool.or_assoc]))
           rw [show e + (k + 1) = e + 1 + k by omega] at hz2
           exact hz2)
    · skip
      refine g_aload_n k88_42 rfl ?_
      refine m_get k88_43 f88_43 rfl rfl ?_
      refine m_get k88_46 f88_46 rfl rfl ?_
      refine g_iload_n k88_49 rfl ?_
      refine m_aald k88_50 rfl ⟨by omega, by omega⟩ rfl (by omega) (by omega) ?_
      rw [g10, va_rs]
      refine m_callV0 k88_51 s88_51 c88_51 l19 (by omega) trivial rfl r88_51 (by assumption) ?_
      refine s_19 hdy ok hX heA (fun z hz => ?_)
      refine af_ret ?_
      refine g_goto k88_54 (t := 58) rfl ?_
      refine g_ior k88_58 ?_
      refine g_istore_n k88_59 rfl rfl ?_
      refine g_iincN k88_60 rfl rfl rfl ?_
      refine g_goto k88_63 (t := 14) rfl ?_
      first
        | (refine ih (e + 1) (by omega) (bt_or hx bt_0) (fun y hy => ?_)
           have hz := kk y (bt_congr hy (fun v _ => by rw [List.any_cons, decide_eq_false h39, Bool.false_and, ← Bool.or_assoc]))
           rw [show e + (k + 1) = e + 1 + k by omega] at hz
           exact hz)
        | (refine ih (e + 1) (by omega) (bt_or hx hz) (fun y hy => ?_)
           have hz2 := kk y (bt_congr hy (fun v _ => by rw [List.any_cons, decide_eq_true h39, Bool.true_and, ← Bool.or_assoc]))
           rw [show e + (k + 1) = e + 1 + k by omega] at hz2
           exact hz2)
abbrev lx6 (A : TD) : Nat → Nat := lm A (td_m6 A) 1
theorem lx6_4 (ok : TOK A) : ∀ v, v < 7 → 1 ≤ lx6 A v ∧ lx6 A v ≤ 4 := fun v hv => lm_4 ok (by omega) hv
theorem lx6_sz (ok : TOK A) (h : bx (lx6 A) 7 d) : (∀ v, v < 6 → d v < 4) ∧ d 6 = 0 := by
  refine ⟨fun v hv => ?_, ?_⟩
  · have := h v (by omega)
    have := (lx6_4 ok v (by omega)).2
    omega
  · have h6 : d 6 < lm A (td_m6 A) 1 6 := h 6 (by omega)
    unfold lm at h6
    rw [if_pos rfl] at h6
    split at h6 <;> omega
theorem s_88L (hdy : dy.length < 100000) (ok : TOK A) : ∀ (n k : Nat) {σ : Nat → Nat → Int32} {τ : Nat → Nat → Int64} {d : Nat → Nat} {Q : am_A → am_H → Prop}, k + n = pd (lx6 A) 7 → (k < pd (lx6 A) 7 → vl (lx6 A) 7 d = k) → bx (lx6 A) 7 d → RepX A F E dy σ ρ → CX A τ → row7 σ d → σ 18 3 = nn (pd (lx6 A) 7) → (∀ v, v < 7 → σ 20 v = nn (lx6 A v)) → (∀ D, bx (lx6 A) 7 D → vl (lx6 A) 7 D < k → bad6 A D = false) →
    (∀ σ' τ' D, fD dy σ σ' → tE τ τ' → CX A τ' → row7 σ' D → LST (bad6 A) (lx6 A) D → Q (.inl (some (.int (nn 0)))) (mk dy σ' ρ τ')) →
    (∀ σ' τ', fD dy σ σ' → tE τ τ' → CX A τ' → (∀ D, bx (lx6 A) 7 D → bad6 A D = false) → Q (.inl (some (.int (nn 1)))) (mk dy σ' ρ τ')) →
    go (tb_P L xs) 88 74 [some (.ref 18), some (.int x), some (.int (nn k))] [] (mk dy σ ρ τ) Q := by
  have hl4 := lx6_4 ok
  have hpd := pd_4 7 hl4
  have hpd2 : pd (lx6 A) 7 ≤ 16384 := hpd.2
  intro n
  induction n with
  | zero =>
    intro k σ τ d Q hk hvl hd hX hC hrow h3 h20 hM kA kB
    refine g_iload_n k88_74 rfl ?_
    refine g_aload_n k88_75 rfl ?_
    refine m_get k88_76 f88_76 rfl rfl ?_
    rw [h3]
    refine g_icge_t k88_79 (t := 119) rfl (by rw [nn_toInt (by omega), nn_toInt (by omega)]; omega) ?_
    refine g_iconst (v := nn 1) k88_119 ci_1 ?_
    refine g_breturn k88_120 t88 (by decide) ?_
    refine kB σ τ (fD.rf σ) (tE.rf τ) hC (fun D hD => hM D hD ?_)
    have := vl_lt 7 hD
    omega
  | succ n ih =>
    intro k σ τ d Q hk hvl hd hX hC hrow h3 h20 hM kA kB
    have hvk := hvl (by omega)
    obtain ⟨hd4, hd6⟩ := lx6_sz ok hd
    have hd47 : ∀ v, v < 7 → d v < 4 := fun v hv => by
      by_cases c : v = 6
      · rw [c, hd6]; omega
      · exact hd4 v (by omega)
    have hrX := hrow.rX hd47
    have tail : ∀ (σ1 : Nat → Nat → Int32) (τ1 : Nat → Nat → Int64), fD dy σ σ1 → row7 σ1 d → σ1 18 3 = σ 18 3 → σ1 20 = σ 20 → tE τ τ1 → CX A τ1 → bad6 A d = false → go (tb_P L xs) 88 109 [some (.ref 18), some (.int x), some (.int (nn k))] [] (mk dy σ1 ρ τ1) Q := by
      intro σ1 τ1 hs1 r1 q3 q20 ht1 hC1 hbd
      refine g_aload_n k88_109 rfl ?_
      refine m_callV0 k88_110 s88_110 c88_110 l31 (by omega) trivial rfl r88_110 rfl ?_
      refine s_31 (lim := lx6 A) (d := d) hdy (fun v hv => (hl4 v hv).2) (fun v hv => by rw [q20]; exact h20 v hv) r1 hd (fun σ2 hs2 hr2 => ?_)
      refine af_void ?_
      refine g_iincN k88_113 rfl rfl rfl ?_
      refine g_goto k88_116 (t := 74) rfl ?_
      obtain ⟨c1, c2, c3⟩ := ct_vl (sz := lx6 A) 7 hd
      refine ih (k + 1) (d := (ct (lx6 A) 7 d).2) (by omega) (fun hlt => ?_) c1 (hX.agr ok (hs1.tr (f19 hs2)).ag) hC1 hr2 (by rw [hs2 18 (by omega), q3]; exact h3) (fun v hv => by rw [hs2 20 (by omega), q20]; exact h20 v hv) (fun D hD hlt => ?_) (fun σ' τ' D g1 g2 g3 g4 g5 => kA σ' τ' D ((hs1.tr (f19 hs2)).tr g1) (ht1.tr g2) g3 g4 g5) (fun σ' τ' g1 g2 g3 g4 => kB σ' τ' ((hs1.tr (f19 hs2)).tr g1) (ht1.tr g2) g3 g4)
      · cases hct : (ct (lx6 A) 7 d).1 with
        | true => rw [c2 hct, hvk]
        | false =>
          have := (c3 hct).1
          omega
      · by_cases c : vl (lx6 A) 7 D = k
        · rw [b6_ind ok D d (fun v hv _ => vl_inj hD hd (by omega) v hv)]
          exact hbd
        · exact hM D hD (by omega)
    refine g_iload_n k88_74 rfl ?_
    refine g_aload_n k88_75 rfl ?_
    refine m_get k88_76 f88_76 rfl rfl ?_
    rw [h3]
    refine g_icge_f k88_79 (t := 119) rfl (by rw [nn_toInt (by omega), nn_toInt (by omega)]; omega) ?_
    refine g_aload_n k88_82 rfl ?_
    refine m_get k88_83 f88_83 rfl rfl ?_
    refine m_get k88_86 f88_86 rfl rfl ?_
    refine g_iconst (v := nn 1) k88_89 ci_1 ?_
    refine g_aload_n k88_90 rfl ?_
    refine m_get k88_91 f88_91 rfl rfl ?_
    refine m_callV2 k88_94 s88_94 c88_94 l9 (by omega) ⟨rfl, rfl⟩ rfl r88_94 rfl ?_
    refine s_9 (m := 1) hdy ok hX hC (by omega) (by omega) rfl hrX (fun σ1 τ1 hs1 ht1 hC1 => ?_)
    refine af_ret ?_
    refine g_ifeqB k88_97 (t := 109) rfl (fun h97 => ?_) (fun h97 => ?_)
    · skip
      first
        | (refine tail σ2 τ1 (hs1.fD.tr hs2.fD) r2 (by rw [hs2 18 3 (by omega) (Or.inl (by omega)), hs1.st (by omega)]) (by funext q; rw [hs2 20 q (by omega) (Or.inl (by omega)), hs1.st (by omega)]) ht1 hC1 ?_
           unfold bad6
           rw [show td_mv A (rd d 0) = true from h104]
           exact Bool.and_false _)
        | (refine tail σ1 τ1 hs1.fD (fun v hv => by rw [hs1.st (by omega)]; exact hrow v hv) (by rw [hs1.st (by omega)]) (hs1.st (by omega)) ht1 hC1 ?_
           have h97' : td_ri A (rd d 0) = false := by
             have : ¬ td_ri A (rd d 0) = true := h97
             simpa using this
           unfold bad6
           rw [h97']
           rfl)
    · skip
      refine g_aload_n k88_100 rfl ?_
      refine m_callV0 k88_101 s88_101 c88_101 l89 (by omega) trivial rfl r88_101 rfl ?_
      refine s_89 (s := d) hdy ok (hX.agr ok hs1.ag) (fun v hv => by rw [hs1.st (by omega)]; exact hrX.1 v hv) (fun σ2 hs2 h6 => ?_)
      refine af_ret ?_
      have r2 : row7 σ2 d := fun v hv => by
        by_cases c : v = 6
        · rw [c, h6, hd6]
        · rw [hs2 19 v (Or.inr (by omega)) (Or.inl (by omega)), hs1.st (by omega)]
          exact hrow v hv
      refine g_ifneB k88_104 (t := 109) rfl (fun h104 => ?_) (fun h104 => ?_)
      · skip
        first
          | (refine tail σ2 τ1 (hs1.fD.tr hs2.fD) r2 (by rw [hs2 18 3 (by omega) (Or.inl (by omega)), hs1.st (by omega)]) (by funext q; rw [hs2 20 q (by omega) (Or.inl (by omega)), hs1.st (by omega)]) ht1 hC1 ?_
             unfold bad6
             rw [show td_mv A (rd d 0) = true from h104]
             exact Bool.and_false _)
          | (refine tail σ1 τ1 hs1.fD (fun v hv => by rw [hs1.st (by omega)]; exact hrow v hv) (by rw [hs1.st (by omega)]) (hs1.st (by omega)) ht1 hC1 ?_
             have h97' : td_ri A (rd d 0) = false := by
               have : ¬ td_ri A (rd d 0) = true := h97
               simpa using this
             unfold bad6
             rw [h97']
             rfl)
      · skip
        refine g_iconst (v := nn 0) k88_107 ci_0 ?_
        refine g_breturn k88_108 t88 (by decide) ?_
        refine kA σ2 τ1 d (hs1.fD.tr hs2.fD) ht1 hC1 r2 ⟨hd, ?_, fun D hD hbD hlx => ?_⟩
        · unfold bad6
          have h104' : td_mv A (rd d 0) = false := by simpa using h104
          rw [h104', show td_ri A (rd d 0) = true from h97]
          rfl
        · have hlt := vl_lx 7 hD hd hlx
          rw [hM D hD (by omega)] at hbD
          cases hbD
theorem s_88 (hdy : dy.length < 100000) (ok : TOK A) (hX : RepX A F E dy σ ρ) (hC : CX A τ) (kA : ∀ σ' τ' D, fD dy σ σ' → tE τ τ' → CX A τ' → row7 σ' D → LST (bad6 A) (lx6 A) D → Q (.inl (some (.int (nn 0)))) (mk dy σ' ρ τ')) (kB : ∀ σ' τ', fD dy σ σ' → tE τ τ' → CX A τ' → (∀ D, bx (lx6 A) 7 D → bad6 A D = false) → Q (.inl (some (.int (nn 1)))) (mk dy σ' ρ τ')) : go (tb_P L xs) 88 0 [some (.ref 18), none, none] [] (mk dy σ ρ τ) Q := by
  refine g_aload_n k88_0 rfl ?_
  refine m_get k88_1 f88_1 rfl rfl ?_
  refine m_get k88_4 f88_4 rfl rfl ?_
  refine g_iconst (v := nn 1) k88_7 ci_1 ?_
  refine m_callV1 k88_8 s88_8 c88_8 l20 (by omega) rfl rfl r88_8 rfl ?_
  refine s_20 (m := 1) hdy ok hX (by omega) (fun x hx => ?_)
  refine af_ret ?_
  refine g_istore_n k88_11 rfl rfl ?_
  refine g_iconst (v := nn 0) k88_12 ci_0 ?_
  refine g_istore_n k88_13 rfl rfl ?_
  refine s_88M hdy ok hX (td_ne A) 0 (by omega) hx (fun y hy => ?_)
  refine g_aload_n k88_66 rfl ?_
  refine g_iload_n k88_67 rfl ?_
  refine g_iconst (v := nn 1) k88_68 ci_1 ?_
  refine m_callV2 k88_69 s88_69 c88_69 l22 (by omega) ⟨rfl, rfl⟩ rfl r88_69 rfl ?_
  refine s_22 (rg := 1) (M := td_m6 A) hdy ok hX (by omega) (bt_congr hy (fun v _ => by rw [← List.range_eq_range']; unfold td_m6; simp)) (fun σ1 hs1 h3 hr1 => ?_)
  refine af_void ?_
  refine g_iconst (v := nn 0) k88_72 ci_0 ?_
  refine g_istore_n k88_73 rfl rfl ?_
  refine s_88L hdy ok (pd (lx6 A) 7) 0 (d := fun _ => 0) (by omega) (fun _ => vl_zero 7 (fun _ _ => rfl)) (fun v hv => by have := (lx6_4 ok v hv).1; show 0 < lx6 A v; omega) (hX.agr ok hs1.ag) hC (fun v hv => (hr1 v hv).1) h3 (fun v hv => (hr1 v hv).2) (fun D _ q => absurd q (by omega)) (fun σ' τ' D g1 g2 g3 g4 g5 => kA σ' τ' D (hs1.fD.tr g1) g2 g3 g4 g5) (fun σ' τ' g1 g2 g3 g4 => kB σ' τ' (hs1.fD.tr g1) g2 g3 g4)
end YH
