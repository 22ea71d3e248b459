/-! The reference: both events, the witness followed. -/
section LB
variable {L : Nat} {xs : Nat → Int32} {Q : am_A → am_H → Prop} {dy : List (Nat × Nat)} {σ : Nat → Nat → Int32} {ρ : Nat → Nat → Option Nat} {τ : Nat → Nat → Int64} {A : TD} {e : Nat} {prm : Int32}
/-- the same row with another parameter -/
def td_rp (rw : Nat → Int32) (w : Int32) : Nat → Int32 := fun v => if v = 6 then w else rw v
theorem rM_rp (σ : Nat → Nat → Int32) (prm w : Int32) : rM σ False w = td_rp (rM σ False prm) w := by
  funext v
  unfold td_rp rM
  split
  · rfl
  · rfl
/-- where an event leads, together with the one that it refines -/
def td_bo (A : TD) (e : Nat) (rw : Nat → Int32) (v : Nat) : Int32 := match td_rf A e with
  | none => if 3 * td_ma A e ≤ v ∧ v < 3 * td_ma A e + 3 then td_ld A e rw v else rw v
  | some u => if 3 * td_ma A u ≤ v ∧ v < 3 * td_ma A u + 3 then td_ld A u (td_rp rw (td_wi A e rw)) v else if 3 * td_ma A e ≤ v ∧ v < 3 * td_ma A e + 3 then td_ld A e rw v else rw v
/-- .. is a state -/
def td_bs (A : TD) (e : Nat) (rw : Nat → Int32) : Bool := (List.range' 0 6).all (td_wn A (td_bo A e rw))
/-- the refined event may be done with the witness -/
def td_fo (A : TD) (e : Nat) (rw : Nat → Int32) : Bool := match td_rf A e with
  | none => true
  | some u => decide (0 ≤ (td_wi A e rw).toInt ∧ (td_wi A e rw).toInt < td_rg A u) && td_en A u (td_rp rw (td_wi A e rw))
theorem s_138L (hdy : dy.length < 100000) : ∀ (k j : Nat) {σ : Nat → Nat → Int32} {Q : am_A → am_H → Prop}, j + k = 6 → (∀ σ', ld_S σ σ' → (∀ u, σ' 42 u = if j ≤ u ∧ u < 6 then σ 41 u else σ 42 u) → go (tb_P L xs) 138 26 [some (.ref 24), some (.int (nn e)), some (.int prm), some (.int (nn 6))] [] (mk dy σ' ρ τ) Q) → go (tb_P L xs) 138 2 [some (.ref 24), some (.int (nn e)), some (.int prm), some (.int (nn j))] [] (mk dy σ ρ τ) Q := by
  intro k
  induction k with
  | zero =>
    intro j σ Q hj kk
    have hj6 : j = 6 := by omega
    subst hj6
    refine g_iload_n k138_2 rfl ?_
    refine g_bipush (v := nn 6) k138_3 cb_6 ?_
    refine g_icge_t k138_5 (t := 26) rfl (by decide) ?_
    exact kk σ (ld_S.rf σ) (fun u => by rw [if_neg (by omega)])
  | succ k ih =>
    intro j σ Q hj kk
    refine g_iload_n k138_2 rfl ?_
    refine g_bipush (v := nn 6) k138_3 cb_6 ?_
    refine g_icge_f k138_5 (t := 26) rfl (by rw [nn_toInt (by omega), nn_toInt (by omega)]; omega) ?_
    refine g_aload_n k138_8 rfl ?_
    refine m_get k138_9 f138_9 rfl rfl ?_
    refine g_iload_n k138_12 rfl ?_
    refine g_aload_n k138_13 rfl ?_
    refine m_get k138_14 f138_14 rfl rfl ?_
    refine g_iload_n k138_17 rfl ?_
    refine m_iald k138_18 hdy rfl rfl (by omega) (by omega) ?_
    refine m_iast k138_19 rfl rfl (by omega) (by omega) ?_
    refine g_iincN k138_20 rfl rfl rfl ?_
    refine g_goto k138_23 (t := 2) rfl ?_
    have hs := ld_S.put (σ := σ) j (σ 41 j)
    refine ih (j + 1) (by omega) (fun σ' hs' hu => kk σ' (hs.tr hs') (fun u => ?_))
    rw [hu u]
    by_cases c1 : j + 1 ≤ u ∧ u < 6
    · rw [if_pos c1, if_pos (by omega)]
      rfl
    · rw [if_neg c1]
      by_cases c2 : u = j
      · subst c2
        rw [if_pos (by omega)]
        simp [up2]
      · rw [if_neg (by omega)]
        simp [up2, c2]
theorem s_138 (hdy : dy.length < 100000) (ok : TOK A) (he : e < td_ne A) (hR : RepM A σ) (kk : ∀ σ', ld_S σ σ' → (∀ u, u < 6 → σ' 42 u = td_bo A e (rM σ False prm) u) → Q (.inl (some (.int (bb (td_bs A e (rM σ False prm) = true))))) (mk dy σ' ρ τ)) : go (tb_P L xs) 138 0 [some (.ref 24), some (.int (nn e)), some (.int prm), none] [] (mk dy σ ρ τ) Q := by
  have hne := ok.2.2.1
  have hend : ∀ σ3, ld_S σ σ3 → RepM A σ3 → (∀ u, u < 6 → σ3 42 u = td_bo A e (rM σ False prm) u) → Q (.inl (some (.int (bb ((List.range' 0 (6 - 0)).all (td_wn A (σ3 42)) = true))))) (mk dy σ3 ρ τ) := by
    intro σ3 h3 _ hu
    have hq := kk σ3 h3 hu
    have e1 : td_bs A e (rM σ False prm) = (List.range' 0 (6 - 0)).all (td_wn A (σ3 42)) := by
      unfold td_bs
      have e2 : ∀ v, v < 6 → td_wn A (td_bo A e (rM σ False prm)) v = td_wn A (σ3 42) v := fun v hv => by
        unfold td_wn
        rw [hu v hv]
      have e0 : List.range' 0 6 = [0, 1, 2, 3, 4, 5] := by decide
      show (List.range' 0 6).all _ = (List.range' 0 6).all _
      rw [e0]
      simp only [List.all_cons, List.all_nil]
      rw [e2 0 (by decide), e2 1 (by decide), e2 2 (by decide), e2 3 (by decide), e2 4 (by decide), e2 5 (by decide)]
    rw [e1] at hq
    exact hq
  refine g_iconst (v := nn 0) k138_0 ci_0 ?_
  refine g_istore_n k138_1 rfl rfl ?_
  refine s_138L hdy 6 0 (by omega) (fun σ1 hs1 hu1 => ?_)
  have hR1 := hR.mono hs1.rs
  have hr1 := rM_ld hs1 prm
  have hrf : σ1 35 e = oi (td_rf A e) := (hR1.2.1.2 e he).2.2.1
  have hb1 : ∀ u, u < 6 → σ1 42 u = rM σ False prm u := fun u hu => by
    rw [hu1 u, if_pos (by omega)]
    unfold rM
    rw [if_neg (by omega), if_neg (by simp)]
  cases hc : td_rf A e with
  | none =>
    rw [hc, oi_none] at hrf
    refine g_aload_n k138_26 rfl ?_
    refine g_iload_n k138_27 rfl ?_
    refine g_iload_n k138_28 rfl ?_
    refine m_callV2 k138_29 s138_29 c138_29 l134 (by omega) ⟨rfl, rfl⟩ rfl r138_29 rfl ?_
    refine s_134 hdy ok he hR1 (fun σ2 hs2 hu2 => ?_)
    refine af_void ?_
    have hR2 := hR1.mono hs2.rs
    have hrf2 : σ2 35 e = -1 := (hs2 35 e (by decide) (by decide) (Or.inl (by decide))).trans hrf
    refine g_aload_n k138_32 rfl ?_
    refine m_get k138_33 f138_33 rfl rfl ?_
    refine g_iload_n k138_36 rfl ?_
    refine m_iald k138_37 hdy rfl rfl (by omega) (by omega) ?_
    rw [hrf2]
    refine g_iconst (v := -1) k138_38 ci_m1 ?_
    refine g_iceq_t k138_39 (t := 58) rfl rfl ?_
    refine g_aload_n k138_58 rfl ?_
    refine g_iconst (v := nn 0) k138_59 ci_0 ?_
    refine g_bipush (v := nn 6) k138_60 cb_6 ?_
    refine m_callV2 k138_62 s138_62 c138_62 l135 (by omega) ⟨rfl, rfl⟩ rfl r138_62 rfl ?_
    refine s_135 (fr := 0) (to := 6) hdy ok (by omega) (by omega) hR2 ?_
    refine af_ret ?_
    refine g_breturnB k138_65 t138 ?_
    refine hend σ2 (hs1.tr hs2) hR2 (fun u hu => ?_)
    rw [hu2 u, hr1, hb1 u hu]
    unfold td_bo
    rw [hc]
  | some u =>
    rw [hc, oi_some] at hrf
    have hu := (ok.2.2.2.1 e he).2.2.1 u hc
    refine g_aload_n k138_26 rfl ?_
    refine g_iload_n k138_27 rfl ?_
    refine g_iload_n k138_28 rfl ?_
    refine m_callV2 k138_29 s138_29 c138_29 l134 (by omega) ⟨rfl, rfl⟩ rfl r138_29 rfl ?_
    refine s_134 hdy ok he hR1 (fun σ2 hs2 hu2 => ?_)
    refine af_void ?_
    have hR2 := hR1.mono hs2.rs
    have hr2 := rM_ld hs2 prm
    have hrf2 : σ2 35 e = nn u := (hs2 35 e (by decide) (by decide) (Or.inl (by decide))).trans hrf
    refine g_aload_n k138_32 rfl ?_
    refine m_get k138_33 f138_33 rfl rfl ?_
    refine g_iload_n k138_36 rfl ?_
    refine m_iald k138_37 hdy rfl rfl (by omega) (by omega) ?_
    rw [hrf2]
    refine g_iconst (v := -1) k138_38 ci_m1 ?_
    refine g_iceq_f k138_39 (t := 58) rfl (fun q => ti_nn_m1 (k := u) (by omega) (congrArg Int32.toInt q)) ?_
    refine g_aload_n k138_42 rfl ?_
    refine g_aload_n k138_43 rfl ?_
    refine m_get k138_44 f138_44 rfl rfl ?_
    refine g_iload_n k138_47 rfl ?_
    refine m_iald k138_48 hdy rfl rfl (by omega) (by omega) ?_
    rw [hrf2]
    refine g_aload_n k138_49 rfl ?_
    refine g_iload_n k138_50 rfl ?_
    refine g_iload_n k138_51 rfl ?_
    refine m_callV2 k138_52 s138_52 c138_52 l137 (by omega) ⟨rfl, rfl⟩ rfl r138_52 rfl ?_
    refine s_137 hdy ok he hR2 (fun σ3 hs3 => ?_)
    refine af_ret ?_
    have hR3 := hR2.mono hs3.rs
    refine m_callV2 k138_55 s138_55 c138_55 l134 (by omega) ⟨rfl, rfl⟩ rfl r138_55 rfl ?_
    refine s_134 hdy ok (by omega) hR3 (fun σ4 hs4 hu4 => ?_)
    refine af_void ?_
    have hR4 := hR3.mono hs4.rs
    refine g_aload_n k138_58 rfl ?_
    refine g_iconst (v := nn 0) k138_59 ci_0 ?_
    refine g_bipush (v := nn 6) k138_60 cb_6 ?_
    refine m_callV2 k138_62 s138_62 c138_62 l135 (by omega) ⟨rfl, rfl⟩ rfl r138_62 rfl ?_
    refine s_135 (fr := 0) (to := 6) hdy ok (by omega) (by omega) hR4 ?_
    refine af_ret ?_
    refine g_breturnB k138_65 t138 ?_
    refine hend σ4 (((hs1.tr hs2).tr hs3.ld).tr hs4) hR4 (fun v hv => ?_)
    have e3 := hs3 42 v (by decide) (Or.inl (by decide))
    rw [hu4 v, rM_ld hs3.ld, rM_rp σ2 prm, hr2, hr1, e3, hu2 v, hr1, hb1 v hv]
    unfold td_bo
    rw [hc]
theorem s_136 (hdy : dy.length < 100000) (ok : TOK A) (he : e < td_ne A) (hR : RepM A σ) (kk : ∀ σ', fi_S σ σ' → Q (.inl (some (.int (bb (td_fo A e (rM σ False prm) = true))))) (mk dy σ' ρ τ)) : go (tb_P L xs) 136 0 [some (.ref 24), some (.int (nn e)), some (.int prm), none, none] [] (mk dy σ ρ τ) Q := by
  have hne := ok.2.2.1
  have hrf : σ 35 e = oi (td_rf A e) := (hR.2.1.2 e he).2.2.1
  unfold td_fo at kk
  cases hc : td_rf A e with
  | none =>
    rw [hc, oi_none] at hrf
    rw [hc] at kk
    refine g_aload_n k136_0 rfl ?_
    refine m_get k136_1 f136_1 rfl rfl ?_
    refine g_iload_n k136_4 rfl ?_
    refine m_iald k136_5 hdy rfl rfl (by omega) (by omega) ?_
    rw [hrf]
    refine g_istore_n k136_6 rfl rfl ?_
    refine g_iload_n k136_7 rfl ?_
    refine g_iconst (v := -1) k136_8 ci_m1 ?_
    refine g_icne_f k136_9 (t := 14) rfl rfl ?_
    refine g_iconst (v := nn 1) k136_12 ci_1 ?_
    refine g_breturn k136_13 t136 (by decide) ?_
    exact kk σ (fi_S.rf σ)
  | some u =>
    rw [hc, oi_some] at hrf
    rw [hc] at kk
    dsimp only at kk
    have hu := (ok.2.2.2.1 e he).2.2.1 u hc
    have hu4 := (ok.2.2.2.1 u (by omega)).2.1
    refine g_aload_n k136_0 rfl ?_
    refine m_get k136_1 f136_1 rfl rfl ?_
    refine g_iload_n k136_4 rfl ?_
    refine m_iald k136_5 hdy rfl rfl (by omega) (by omega) ?_
    rw [hrf]
    refine g_istore_n k136_6 rfl rfl ?_
    refine g_iload_n k136_7 rfl ?_
    refine g_iconst (v := -1) k136_8 ci_m1 ?_
    refine g_icne_t k136_9 (t := 14) rfl (fun q => ti_nn_m1 (k := u) (by omega) (congrArg Int32.toInt q)) ?_
    refine g_aload_n k136_14 rfl ?_
    refine g_iload_n k136_15 rfl ?_
    refine g_iload_n k136_16 rfl ?_
    refine m_callV2 k136_17 s136_17 c136_17 l137 (by omega) ⟨rfl, rfl⟩ rfl r136_17 rfl ?_
    refine s_137 hdy ok he hR (fun σ1 hs1 => ?_)
    refine af_ret ?_
    have hR1 := hR.mono hs1.rs
    have hrg := (hR1.2.1.2 u (by omega)).2.1
    refine g_istore k136_20 rfl rfl ?_
    refine g_iload k136_22 rfl ?_
    refine g_iflt k136_24 (t := 52) rfl (fun h24 => ?_) (fun h24 => ?_)
    · skip
      refine g_iconst (v := nn 0) k136_52 ci_0 ?_
      refine g_breturn k136_53 t136 (by decide) ?_
      first
        | (have hq := kk σ2 (hs1.tr hs2)
           rw [rM_fi hs1, rM_rp σ prm] at h45
           rw [nn_toInt (by omega)] at h35
           first
             | (rw [bb_t (by rw [h45, Bool.and_true]; exact decide_eq_true ⟨h24, h35⟩)] at hq; exact hq)
             | (rw [bb_f (by simp [h45])] at hq; exact hq))
        | (have hq := kk σ1 hs1
           rw [nn_toInt (by omega)] at h35
           rw [bb_f (by simp; omega)] at hq
           exact hq)
        | (have hq := kk σ1 hs1
           rw [bb_f (by simp; omega)] at hq
           exact hq)
    · skip
      refine g_iload k136_27 rfl ?_
      refine g_aload_n k136_29 rfl ?_
      refine m_get k136_30 f136_30 rfl rfl ?_
      refine g_iload_n k136_33 rfl ?_
      refine m_iald k136_34 hdy rfl rfl (by omega) (by omega) ?_
      rw [hrg]
      refine g_icge k136_35 (t := 52) rfl (fun h35 => ?_) (fun h35 => ?_)
      · skip
        refine g_iconst (v := nn 0) k136_52 ci_0 ?_
        refine g_breturn k136_53 t136 (by decide) ?_
        first
          | (have hq := kk σ2 (hs1.tr hs2)
             rw [rM_fi hs1, rM_rp σ prm] at h45
             rw [nn_toInt (by omega)] at h35
             first
               | (rw [bb_t (by rw [h45, Bool.and_true]; exact decide_eq_true ⟨h24, h35⟩)] at hq; exact hq)
               | (rw [bb_f (by simp [h45])] at hq; exact hq))
          | (have hq := kk σ1 hs1
             rw [nn_toInt (by omega)] at h35
             rw [bb_f (by simp; omega)] at hq
             exact hq)
          | (have hq := kk σ1 hs1
             rw [bb_f (by simp; omega)] at hq
             exact hq)
      · skip
        refine g_aload_n k136_38 rfl ?_
        refine g_iload_n k136_39 rfl ?_
        refine g_iload k136_40 rfl ?_
        refine m_callV2 k136_42 s136_42 c136_42 l132 (by omega) ⟨rfl, rfl⟩ rfl r136_42 rfl ?_
        refine s_132 hdy ok (by omega) hR1 (fun σ2 hs2 => ?_)
        refine af_ret ?_
        refine g_ifeqB k136_45 (t := 52) rfl (fun h45 => ?_) (fun h45 => ?_)
        · skip
          refine g_iconst (v := nn 0) k136_52 ci_0 ?_
          refine g_breturn k136_53 t136 (by decide) ?_
          first
            | (have hq := kk σ2 (hs1.tr hs2)
               rw [rM_fi hs1, rM_rp σ prm] at h45
               rw [nn_toInt (by omega)] at h35
               first
                 | (rw [bb_t (by rw [h45, Bool.and_true]; exact decide_eq_true ⟨h24, h35⟩)] at hq; exact hq)
                 | (rw [bb_f (by simp [h45])] at hq; exact hq))
            | (have hq := kk σ1 hs1
               rw [nn_toInt (by omega)] at h35
               rw [bb_f (by simp; omega)] at hq
               exact hq)
            | (have hq := kk σ1 hs1
               rw [bb_f (by simp; omega)] at hq
               exact hq)
        · skip
          refine g_iconst (v := nn 1) k136_48 ci_1 ?_
          refine g_goto k136_49 (t := 53) rfl ?_
          refine g_breturn k136_53 t136 (by decide) ?_
          first
            | (have hq := kk σ2 (hs1.tr hs2)
               rw [rM_fi hs1, rM_rp σ prm] at h45
               rw [nn_toInt (by omega)] at h35
               first
                 | (rw [bb_t (by rw [h45, Bool.and_true]; exact decide_eq_true ⟨h24, h35⟩)] at hq; exact hq)
                 | (rw [bb_f (by simp [h45])] at hq; exact hq))
            | (have hq := kk σ1 hs1
               rw [nn_toInt (by omega)] at h35
               rw [bb_f (by simp; omega)] at hq
               exact hq)
            | (have hq := kk σ1 hs1
               rw [bb_f (by simp; omega)] at hq
               exact hq)
end LB
