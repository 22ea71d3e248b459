/-! The reference: where events lead. -/
section LA
variable {L : Nat} {xs : Nat → Int32} {Q : am_A → am_H → Prop} {dy : List (Nat × Nat)} {σ : Nat → Nat → Int32} {ρ : Nat → Nat → Option Nat} {τ : Nat → Nat → Int64} {A : TD} {e : Nat} {prm : Int32}
/-- what an event makes of a variable -/
def td_ld (A : TD) (e : Nat) (rw : Nat → Int32) (v : Nat) : Int32 := match td_as A e v with
  | none => rw v
  | some f => ev A f rw
/-- nothing but the pile and next is another -/
def ld_S (σ σ' : Nat → Nat → Int32) : Prop := ∀ a k, a ≠ 45 → a ≠ 42 → (a ≠ 24 ∨ k ≠ 29) → σ' a k = σ a k
theorem ld_S.tr {σ σ1 σ2 : Nat → Nat → Int32} (h1 : ld_S σ σ1) (h2 : ld_S σ1 σ2) : ld_S σ σ2 := fun a k g1 g2 g3 => (h2 a k g1 g2 g3).trans (h1 a k g1 g2 g3)
theorem fi_S.ld {σ σ' : Nat → Nat → Int32} (h : fi_S σ σ') : ld_S σ σ' := fun a k h1 _ h3 => h a k h1 h3
theorem ld_S.rf (σ : Nat → Nat → Int32) : ld_S σ σ := fun _ _ _ _ _ => rfl
theorem ld_S.rs {σ σ' : Nat → Nat → Int32} (h : ld_S σ σ') : rs_S σ σ' := fun a k _ h2 h3 h4 => h a k h3 h2 (h4.imp id fun q => q.1)
theorem ld_S.put {σ : Nat → Nat → Int32} (v : Nat) (x : Int32) : ld_S σ (up2 σ 42 v x) := fun a k _ h2 _ => by
  unfold up2
  rw [if_neg h2]
theorem rM_ld {σ σ' : Nat → Nat → Int32} (h : ld_S σ σ') (prm : Int32) : rM σ' False prm = rM σ False prm := by
  funext v
  unfold rM
  rw [h 41 v (by decide) (by decide) (Or.inl (by decide))]
  rfl
theorem s_134L (hdy : dy.length < 100000) (ok : TOK A) (he : e < td_ne A) : ∀ (k j : Nat) {σ : Nat → Nat → Int32} {l4 : Option Value} {Q : am_A → am_H → Prop}, j + k = 3 → RepM A σ → (∀ σ', ld_S σ σ' → (∀ u, σ' 42 u = if 3 * td_ma A e + j ≤ u ∧ u < 3 * td_ma A e + 3 then td_ld A e (rM σ False prm) u else σ 42 u) → Q (.inl none) (mk dy σ' ρ τ)) → go (tb_P L xs) 134 9 [some (.ref 24), some (.int (nn e)), some (.int prm), some (.int (nn (3 * td_ma A e + j))), l4] [] (mk dy σ ρ τ) Q := by
  intro k
  induction k with
  | zero =>
    intro j σ l4 Q hj hR kk
    have hma := (hR.2.1.2 e he).1
    have hm1 := (ok.2.2.2.1 e he).1
    have hne := ok.2.2.1
    refine g_iload_n k134_9 rfl ?_
    refine g_iconst (v := nn 3) k134_10 ci_3 ?_
    refine g_aload_n k134_11 rfl ?_
    refine m_get k134_12 f134_12 rfl rfl ?_
    refine g_iload_n k134_15 rfl ?_
    refine m_iald k134_16 hdy rfl rfl (by omega) (by omega) ?_
    rw [hma]
    refine g_imulN k134_17 ?_
    refine g_iconst (v := nn 3) k134_18 ci_3 ?_
    refine g_iaddN k134_19 ?_
    refine g_icge_t k134_20 (t := 71) rfl (by rw [nn_toInt (by omega), nn_toInt (by omega)]; omega) ?_
    refine g_return k134_71 t134 ?_
    exact kk σ (ld_S.rf σ) (fun u => by rw [if_neg (by omega)])
  | succ k ih =>
    intro j σ l4 Q hj hR kk
    have hma := (hR.2.1.2 e he).1
    have hm1 := (ok.2.2.2.1 e he).1
    have hne := ok.2.2.1
    have hnf := ok.1
    have has := hR.2.2.1 e (3 * td_ma A e + j) (by omega) (by omega)
    have hnext : ∀ (σ1 : Nat → Nat → Int32) (l4 : Option Value), fi_S σ σ1 → go (tb_P L xs) 134 9 [some (.ref 24), some (.int (nn e)), some (.int prm), some (.int (nn (3 * td_ma A e + j + 1))), l4] [] (mk dy (up2 σ1 42 (3 * td_ma A e + j) (td_ld A e (rM σ False prm) (3 * td_ma A e + j))) ρ τ) Q := by
      intro σ1 l4 hs1
      have hs2 := hs1.ld.tr (ld_S.put (σ := σ1) (3 * td_ma A e + j) (td_ld A e (rM σ False prm) (3 * td_ma A e + j)))
      refine ih (j + 1) (by omega) (hR.mono hs2.rs) (fun σ' hs' hu => kk σ' (hs2.tr hs') (fun u => ?_))
      rw [hu u, rM_ld hs2]
      have e1 := hs1 42 u (by decide) (Or.inl (by decide))
      by_cases c1 : 3 * td_ma A e + (j + 1) ≤ u ∧ u < 3 * td_ma A e + 3
      · rw [if_pos c1, if_pos (by omega)]
      · rw [if_neg c1]
        by_cases c2 : u = 3 * td_ma A e + j
        · subst c2
          rw [if_pos (by omega)]
          simp [up2]
        · rw [if_neg (by omega), ← e1]
          simp [up2, c2]
    cases hc : td_as A e (3 * td_ma A e + j) with
    | none =>
      rw [hc, oi_none] at has
      have hl : td_ld A e (rM σ False prm) (3 * td_ma A e + j) = σ 41 (3 * td_ma A e + j) := by
        unfold td_ld
        rw [hc]
        show rM σ False prm _ = _
        unfold rM
        rw [if_neg (by omega), if_neg (by simp)]
      rw [hl] at hnext
      refine g_iload_n k134_9 rfl ?_
      refine g_iconst (v := nn 3) k134_10 ci_3 ?_
      refine g_aload_n k134_11 rfl ?_
      refine m_get k134_12 f134_12 rfl rfl ?_
      refine g_iload_n k134_15 rfl ?_
      refine m_iald k134_16 hdy rfl rfl (by omega) (by omega) ?_
      rw [hma]
      refine g_imulN k134_17 ?_
      refine g_iconst (v := nn 3) k134_18 ci_3 ?_
      refine g_iaddN k134_19 ?_
      refine g_icge_f k134_20 (t := 71) rfl (by rw [nn_toInt (by omega), nn_toInt (by omega)]; omega) ?_
      refine g_aload_n k134_23 rfl ?_
      refine m_get k134_24 f134_24 rfl rfl ?_
      refine g_bipush (v := nn 6) k134_27 cb_6 ?_
      refine g_iload_n k134_29 rfl ?_
      refine g_imulN k134_30 ?_
      refine g_iload_n k134_31 rfl ?_
      refine g_iaddN k134_32 ?_
      refine m_iald k134_33 hdy rfl rfl (by omega) (by omega) ?_
      rw [has]
      refine g_istore k134_34 rfl rfl ?_
      refine g_aload_n k134_36 rfl ?_
      refine m_get k134_37 f134_37 rfl rfl ?_
      refine g_iload_n k134_40 rfl ?_
      refine g_iload k134_41 rfl ?_
      refine g_iconst (v := -1) k134_43 ci_m1 ?_
      refine g_icne_f k134_44 (t := 56) rfl rfl ?_
      refine g_aload_n k134_47 rfl ?_
      refine m_get k134_48 f134_48 rfl rfl ?_
      refine g_iload_n k134_51 rfl ?_
      refine m_iald k134_52 hdy rfl rfl (by omega) (by omega) ?_
      refine g_goto k134_53 (t := 64) rfl ?_
      refine m_iast k134_64 rfl rfl (by omega) (by omega) ?_
      refine g_iincN k134_65 rfl rfl rfl ?_
      refine g_goto k134_68 (t := 9) rfl ?_
      exact hnext σ _ (fi_S.rf σ)
    | some f =>
      rw [hc, oi_some] at has
      have hf := ((ok.2.2.2.1 e he).2.2.2.2.2 _ f (by omega) hc).1
      have hl : td_ld A e (rM σ False prm) (3 * td_ma A e + j) = ev A f (rM σ False prm) := by
        unfold td_ld
        rw [hc]
      rw [hl] at hnext
      refine g_iload_n k134_9 rfl ?_
      refine g_iconst (v := nn 3) k134_10 ci_3 ?_
      refine g_aload_n k134_11 rfl ?_
      refine m_get k134_12 f134_12 rfl rfl ?_
      refine g_iload_n k134_15 rfl ?_
      refine m_iald k134_16 hdy rfl rfl (by omega) (by omega) ?_
      rw [hma]
      refine g_imulN k134_17 ?_
      refine g_iconst (v := nn 3) k134_18 ci_3 ?_
      refine g_iaddN k134_19 ?_
      refine g_icge_f k134_20 (t := 71) rfl (by rw [nn_toInt (by omega), nn_toInt (by omega)]; omega) ?_
      refine g_aload_n k134_23 rfl ?_
      refine m_get k134_24 f134_24 rfl rfl ?_
      refine g_bipush (v := nn 6) k134_27 cb_6 ?_
      refine g_iload_n k134_29 rfl ?_
      refine g_imulN k134_30 ?_
      refine g_iload_n k134_31 rfl ?_
      refine g_iaddN k134_32 ?_
      refine m_iald k134_33 hdy rfl rfl (by omega) (by omega) ?_
      rw [has]
      refine g_istore k134_34 rfl rfl ?_
      refine g_aload_n k134_36 rfl ?_
      refine m_get k134_37 f134_37 rfl rfl ?_
      refine g_iload_n k134_40 rfl ?_
      refine g_iload k134_41 rfl ?_
      refine g_iconst (v := -1) k134_43 ci_m1 ?_
      refine g_icne_t k134_44 (t := 56) rfl (fun q => ti_nn_m1 (k := f) (by omega) (congrArg Int32.toInt q)) ?_
      refine g_aload_n k134_56 rfl ?_
      refine g_iload k134_57 rfl ?_
      refine g_iconst (v := nn 0) k134_59 ci_0 ?_
      refine g_iload_n k134_60 rfl ?_
      refine m_callV3 k134_61 s134_61 c134_61 l128 (by omega) ⟨rfl, rfl, rfl⟩ rfl r134_61 rfl ?_
      refine s_128 (lt := False) hdy ok hR hf rfl (fun σ1 hs1 => ?_)
      refine af_ret ?_
      refine m_iast k134_64 rfl rfl (by omega) (by omega) ?_
      refine g_iincN k134_65 rfl rfl rfl ?_
      refine g_goto k134_68 (t := 9) rfl ?_
      exact hnext σ1 _ hs1
theorem s_134 (hdy : dy.length < 100000) (ok : TOK A) (he : e < td_ne A) (hR : RepM A σ) (kk : ∀ σ', ld_S σ σ' → (∀ u, σ' 42 u = if 3 * td_ma A e ≤ u ∧ u < 3 * td_ma A e + 3 then td_ld A e (rM σ False prm) u else σ 42 u) → Q (.inl none) (mk dy σ' ρ τ)) : go (tb_P L xs) 134 0 [some (.ref 24), some (.int (nn e)), some (.int prm), none, none] [] (mk dy σ ρ τ) Q := by
  have hma := (hR.2.1.2 e he).1
  have hne := ok.2.2.1
  refine g_iconst (v := nn 3) k134_0 ci_3 ?_
  refine g_aload_n k134_1 rfl ?_
  refine m_get k134_2 f134_2 rfl rfl ?_
  refine g_iload_n k134_5 rfl ?_
  refine m_iald k134_6 hdy rfl rfl (by omega) (by omega) ?_
  rw [hma]
  refine g_imulN k134_7 ?_
  refine g_istore_n k134_8 rfl rfl ?_
  exact s_134L hdy ok he 3 0 (by omega) hR (fun σ' hs hu => kk σ' hs (fun u => by rw [hu u]; rfl))
/-- next is within the sizes -/
def td_wn (A : TD) (nx : Nat → Int32) (v : Nat) : Bool := decide (0 ≤ (nx v).toInt ∧ (nx v).toInt < td_sz A v)
theorem s_135L {to : Nat} (hdy : dy.length < 100000) (ok : TOK A) (hto : to ≤ 6) (hR : RepM A σ) : ∀ (k i : Nat) {b : Bool} {Q : am_A → am_H → Prop} {fr : Int32}, i + k = to → Q (.inl (some (.int (bb ((b && (List.range' i k).all (td_wn A (σ 42))) = true))))) (mk dy σ ρ τ) → go (tb_P L xs) 135 5 [some (.ref 24), some (.int fr), some (.int (nn to)), some (.int (bb (b = true))), some (.int (nn i))] [] (mk dy σ ρ τ) Q := by
  intro k
  induction k with
  | zero =>
    intro i b Q fr hi kk
    refine g_iload k135_5 rfl ?_
    refine g_iload_n k135_7 rfl ?_
    refine g_icge_t k135_8 (t := 54) rfl (by rw [nn_toInt (by omega), nn_toInt (by omega)]; omega) ?_
    refine g_iload_n k135_54 rfl ?_
    refine g_breturnB k135_55 t135 ?_
    rw [show (b && (List.range' i 0).all (td_wn A (σ 42))) = b by simp] at kk
    exact kk
  | succ k ih =>
    intro i b Q fr hi kk
    have hsz := (hR.2.2.2.2.2 i (by omega)).1
    have hs4 := ok.2.2.2.2.2.2.2 i (by omega)
    rw [show (List.range' i (k + 1)).all (td_wn A (σ 42)) = (td_wn A (σ 42) i && (List.range' (i + 1) k).all (td_wn A (σ 42))) by rw [List.range'_succ, List.all_cons]] at kk
    refine g_iload k135_5 rfl ?_
    refine g_iload_n k135_7 rfl ?_
    refine g_icge_f k135_8 (t := 54) rfl (by rw [nn_toInt (by omega), nn_toInt (by omega)]; omega) ?_
    refine g_iload_n k135_11 rfl ?_
    refine g_ifeqB k135_12 (t := 46) rfl (fun h12 => ?_) (fun h12 => ?_)
    · skip
      refine g_iconst (v := nn 0) k135_46 ci_0 ?_
      refine g_istore_n k135_47 rfl rfl ?_
      refine g_iincN k135_48 rfl rfl rfl ?_
      refine g_goto k135_51 (t := 5) rfl ?_
      first
        | (have hb : b = false := by simpa using h12
           subst hb
           exact ih (i + 1) (b := false) (by omega) (by rw [Bool.false_and] at kk ⊢; exact kk))
        | (have hb : b = true := h12
           subst hb
           rw [nn_toInt (by omega)] at h39
           have e0 : td_wn A (σ 42) i = true := by unfold td_wn; simp only [decide_eq_true_eq]; omega
           rw [e0, Bool.true_and] at kk
           exact ih (i + 1) (b := true) (by omega) kk)
        | (rw [nn_toInt (by omega)] at h39
           have e0 : td_wn A (σ 42) i = false := by unfold td_wn; simp only [decide_eq_false_iff_not]; omega
           rw [e0, Bool.false_and, Bool.and_false] at kk
           exact ih (i + 1) (b := false) (by omega) (by rw [Bool.false_and]; exact kk))
        | (have h22 := h22
           have e0 : td_wn A (σ 42) i = false := by unfold td_wn; simp only [decide_eq_false_iff_not]; omega
           rw [e0, Bool.false_and, Bool.and_false] at kk
           exact ih (i + 1) (b := false) (by omega) (by rw [Bool.false_and]; exact kk))
    · skip
      refine g_aload_n k135_15 rfl ?_
      refine m_get k135_16 f135_16 rfl rfl ?_
      refine g_iload k135_19 rfl ?_
      refine m_iald k135_21 hdy rfl rfl (by omega) (by omega) ?_
      refine g_iflt k135_22 (t := 46) rfl (fun h22 => ?_) (fun h22 => ?_)
      · skip
        refine g_iconst (v := nn 0) k135_46 ci_0 ?_
        refine g_istore_n k135_47 rfl rfl ?_
        refine g_iincN k135_48 rfl rfl rfl ?_
        refine g_goto k135_51 (t := 5) rfl ?_
        first
          | (have hb : b = false := by simpa using h12
             subst hb
             exact ih (i + 1) (b := false) (by omega) (by rw [Bool.false_and] at kk ⊢; exact kk))
          | (have hb : b = true := h12
             subst hb
             rw [nn_toInt (by omega)] at h39
             have e0 : td_wn A (σ 42) i = true := by unfold td_wn; simp only [decide_eq_true_eq]; omega
             rw [e0, Bool.true_and] at kk
             exact ih (i + 1) (b := true) (by omega) kk)
          | (rw [nn_toInt (by omega)] at h39
             have e0 : td_wn A (σ 42) i = false := by unfold td_wn; simp only [decide_eq_false_iff_not]; omega
             rw [e0, Bool.false_and, Bool.and_false] at kk
             exact ih (i + 1) (b := false) (by omega) (by rw [Bool.false_and]; exact kk))
          | (have h22 := h22
             have e0 : td_wn A (σ 42) i = false := by unfold td_wn; simp only [decide_eq_false_iff_not]; omega
             rw [e0, Bool.false_and, Bool.and_false] at kk
             exact ih (i + 1) (b := false) (by omega) (by rw [Bool.false_and]; exact kk))
      · skip
        refine g_aload_n k135_25 rfl ?_
        refine m_get k135_26 f135_26 rfl rfl ?_
        refine g_iload k135_29 rfl ?_
        refine m_iald k135_31 hdy rfl rfl (by omega) (by omega) ?_
        refine g_aload_n k135_32 rfl ?_
        refine m_get k135_33 f135_33 rfl rfl ?_
        refine g_iload k135_36 rfl ?_
        refine m_iald k135_38 hdy rfl rfl (by omega) (by omega) ?_
        rw [hsz]
        refine g_icge k135_39 (t := 46) rfl (fun h39 => ?_) (fun h39 => ?_)
        · skip
          refine g_iconst (v := nn 0) k135_46 ci_0 ?_
          refine g_istore_n k135_47 rfl rfl ?_
          refine g_iincN k135_48 rfl rfl rfl ?_
          refine g_goto k135_51 (t := 5) rfl ?_
          first
            | (have hb : b = false := by simpa using h12
               subst hb
               exact ih (i + 1) (b := false) (by omega) (by rw [Bool.false_and] at kk ⊢; exact kk))
            | (have hb : b = true := h12
               subst hb
               rw [nn_toInt (by omega)] at h39
               have e0 : td_wn A (σ 42) i = true := by unfold td_wn; simp only [decide_eq_true_eq]; omega
               rw [e0, Bool.true_and] at kk
               exact ih (i + 1) (b := true) (by omega) kk)
            | (rw [nn_toInt (by omega)] at h39
               have e0 : td_wn A (σ 42) i = false := by unfold td_wn; simp only [decide_eq_false_iff_not]; omega
               rw [e0, Bool.false_and, Bool.and_false] at kk
               exact ih (i + 1) (b := false) (by omega) (by rw [Bool.false_and]; exact kk))
            | (have h22 := h22
               have e0 : td_wn A (σ 42) i = false := by unfold td_wn; simp only [decide_eq_false_iff_not]; omega
               rw [e0, Bool.false_and, Bool.and_false] at kk
               exact ih (i + 1) (b := false) (by omega) (by rw [Bool.false_and]; exact kk))
        · skip
          refine g_iconst (v := nn 1) k135_42 ci_1 ?_
          refine g_goto k135_43 (t := 47) rfl ?_
          refine g_istore_n k135_47 rfl rfl ?_
          refine g_iincN k135_48 rfl rfl rfl ?_
          refine g_goto k135_51 (t := 5) rfl ?_
          first
            | (have hb : b = false := by simpa using h12
               subst hb
               exact ih (i + 1) (b := false) (by omega) (by rw [Bool.false_and] at kk ⊢; exact kk))
            | (have hb : b = true := h12
               subst hb
               rw [nn_toInt (by omega)] at h39
               have e0 : td_wn A (σ 42) i = true := by unfold td_wn; simp only [decide_eq_true_eq]; omega
               rw [e0, Bool.true_and] at kk
               exact ih (i + 1) (b := true) (by omega) kk)
            | (rw [nn_toInt (by omega)] at h39
               have e0 : td_wn A (σ 42) i = false := by unfold td_wn; simp only [decide_eq_false_iff_not]; omega
               rw [e0, Bool.false_and, Bool.and_false] at kk
               exact ih (i + 1) (b := false) (by omega) (by rw [Bool.false_and]; exact kk))
            | (have h22 := h22
               have e0 : td_wn A (σ 42) i = false := by unfold td_wn; simp only [decide_eq_false_iff_not]; omega
               rw [e0, Bool.false_and, Bool.and_false] at kk
               exact ih (i + 1) (b := false) (by omega) (by rw [Bool.false_and]; exact kk))
theorem s_135 {fr to : Nat} (hdy : dy.length < 100000) (ok : TOK A) (hft : fr ≤ to) (hto : to ≤ 6) (hR : RepM A σ) (kk : Q (.inl (some (.int (bb ((List.range' fr (to - fr)).all (td_wn A (σ 42)) = true))))) (mk dy σ ρ τ)) : go (tb_P L xs) 135 0 [some (.ref 24), some (.int (nn fr)), some (.int (nn to)), none, none] [] (mk dy σ ρ τ) Q := by
  refine g_iconst (v := nn 1) k135_0 ci_1 ?_
  refine g_istore_n k135_1 rfl rfl ?_
  refine g_iload_n k135_2 rfl ?_
  refine g_istore k135_3 rfl rfl ?_
  exact s_135L hdy ok hto hR (to - fr) fr (b := true) (by omega) (by rw [Bool.true_and]; exact kk)
end LA
