/-! The reference: isDone. -/
section LJ
variable {L : Nat} {xs : Nat → Int32} {Q : am_A → am_H → Prop} {dy : List (Nat × Nat)} {σ : Nat → Nat → Int32} {ρ : Nat → Nat → Option Nat} {τ : Nat → Nat → Int64} {A : TD} {e kd p : Nat} {d : Nat → Nat} {x2 : Int32}
theorem s_125I (hdy : dy.length < 100000) (hkd : kd ≤ 6) : ∀ (k j : Nat) {σ : Nat → Nat → Int32} {Q : am_A → am_H → Prop}, j + k = 6 → (∀ v, v < 6 → σ 26 v = nn (td_in A v)) → (∀ σ', (∀ a, a ≠ 41 → σ' a = σ a) → (∀ v, v < 6 → σ' 41 v = if j ≤ v then (if kd = 0 then nn (td_in A v) else nn 0) else σ 41 v) → go (tb_P L xs) 125 39 [some (.ref 24), some (.int (nn kd)), some (.int x2), some (.int (nn 6)), none, none, none] [] (mk dy σ' ρ τ) Q) → go (tb_P L xs) 125 7 [some (.ref 24), some (.int (nn kd)), some (.int x2), some (.int (nn j)), none, none, none] [] (mk dy σ ρ τ) Q := by
  intro k
  induction k with
  | zero =>
    intro j σ Q hj hi kk
    have hj6 : j = 6 := by omega
    subst hj6
    refine g_iload_n k125_7 rfl ?_
    refine g_bipush (v := nn 6) k125_8 cb_6 ?_
    refine g_icge_t k125_10 (t := 39) rfl (by decide) ?_
    exact kk σ (fun _ _ => rfl) (fun v hv => by rw [if_neg (by omega)])
  | succ k ih =>
    intro j σ Q hj hi kk
    have hij := hi j (by omega)
    have hnext : ∀ x : Int32, x = (if kd = 0 then nn (td_in A j) else nn 0) → go (tb_P L xs) 125 7 [some (.ref 24), some (.int (nn kd)), some (.int x2), some (.int (nn (j + 1))), none, none, none] [] (mk dy (up2 σ 41 j x) ρ τ) Q := by
      intro x hx
      refine ih (j + 1) (by omega) (fun v hv => hi v hv) (fun σ' h1 h2 => kk σ' (fun a ha => ?_) (fun v hv => ?_))
      · rw [h1 a ha]
        funext q
        unfold up2
        rw [if_neg ha]
      · rw [h2 v hv]
        by_cases c : j + 1 ≤ v
        · rw [if_pos c, if_pos (show j ≤ v by omega)]
        · rw [if_neg c]
          by_cases c2 : v = j
          · subst c2
            rw [if_pos (show v ≤ v by omega), ← hx]
            simp [up2]
          · rw [if_neg (show ¬ j ≤ v by omega)]
            simp [up2, c2]
    refine g_iload_n k125_7 rfl ?_
    refine g_bipush (v := nn 6) k125_8 cb_6 ?_
    refine g_icge_f k125_10 (t := 39) rfl (by rw [nn_toInt (by omega), nn_toInt (by omega)]; omega) ?_
    refine g_aload_n k125_13 rfl ?_
    refine m_get k125_14 f125_14 rfl rfl ?_
    refine g_iload_n k125_17 rfl ?_
    refine g_iload_n k125_18 rfl ?_
    refine g_ifneN k125_19 (t := 31) rfl (by omega) (fun h19 => ?_) (fun h19 => ?_)
    · skip
      refine g_iconst (v := nn 0) k125_31 ci_0 ?_
      refine m_iast k125_32 rfl rfl (by omega) (by omega) ?_
      refine g_iincN k125_33 rfl rfl rfl ?_
      refine g_goto k125_36 (t := 7) rfl ?_
      first | (exact hnext _ (by rw [if_pos h19])) | (exact hnext _ (by rw [if_neg h19]))
    · skip
      refine g_aload_n k125_22 rfl ?_
      refine m_get k125_23 f125_23 rfl rfl ?_
      refine g_iload_n k125_26 rfl ?_
      refine m_iald k125_27 hdy rfl rfl (by omega) (by omega) ?_
      rw [hij]
      refine g_goto k125_28 (t := 32) rfl ?_
      refine m_iast k125_32 rfl rfl (by omega) (by omega) ?_
      refine g_iincN k125_33 rfl rfl rfl ?_
      refine g_goto k125_36 (t := 7) rfl ?_
      first | (exact hnext _ (by rw [if_pos h19])) | (exact hnext _ (by rw [if_neg h19]))
theorem s_125_0 (hdy : dy.length < 100000) (ok : TOK A) (hR : RepM A σ) (kk : ∀ σ', rs_S σ σ' → (∀ v, v < 6 → σ' 41 v = nn (td_in A v)) → σ' 24 32 = nn 0 → Q (.inl (some (.int (bb (td_ri A (rd (td_in A) 0) = true))))) (mk dy σ' ρ τ)) : go (tb_P L xs) 125 0 [some (.ref 24), some (.int (nn 0)), some (.int x2), none, none, none, none] [] (mk dy σ ρ τ) Q := by
  have hs0 : rs_S σ (up2 σ 24 32 (nn 0)) := fun a k _ _ _ g => by
    unfold up2
    rcases g with g | g
    · rw [if_neg g]
    · rw [if_neg g.2]
      split <;> rfl
  refine g_aload_n k125_0 rfl ?_
  refine g_iconst (v := nn 0) k125_1 ci_0 ?_
  refine m_putI k125_2 f125_2 rfl rfl rfl ?_
  refine g_iconst (v := nn 0) k125_5 ci_0 ?_
  refine g_istore_n k125_6 rfl rfl ?_
  refine s_125I (A := A) (kd := 0) hdy (by omega) 6 0 (by omega) (fun v hv => (hR.2.2.2.2.2 v hv).2) (fun σ1 h1 h2 => ?_)
  have hs1 : rs_S (up2 σ 24 32 (nn 0)) σ1 := fun a k g1 _ _ _ => by rw [h1 a g1]
  have hR1 := (hR.mono hs0).mono hs1
  have hd1 : ∀ v, v < 6 → σ1 41 v = nn (td_in A v) := fun v hv => by rw [h2 v hv, if_pos (Nat.zero_le v), if_pos rfl]
  refine g_iload_n k125_39 rfl ?_
  refine g_ifne_f k125_40 (t := 49) rfl rfl ?_
  refine g_aload_n k125_43 rfl ?_
  refine g_iconst (v := nn 0) k125_44 ci_0 ?_
  refine m_callV1 k125_45 s125_45 c125_45 l126 (by omega) rfl rfl r125_45 rfl ?_
  refine s_126 (lt := False) hdy ok hR1 rfl (fun σ2 hs2 => ?_)
  refine af_ret ?_
  rw [rd_ri ok hd1]
  refine g_breturnB k125_48 t125 ?_
  exact kk σ2 ((hs0.tr hs1).tr hs2.rs) (ld_41 hs2.ld hd1) ((hs2 24 32 (by decide) (Or.inr (by decide))).trans (by rw [h1 24 (by decide)]; rfl))
theorem s_125_u (hdy : dy.length < 100000) (ok : TOK A) (he : e < td_ne A) (hk : td_hk A kd e) (hk5 : 1 ≤ kd ∧ kd ≤ 5) (hma : td_ma A e = 0) (hR : RepM A σ) (kt : ∀ σ', rs_S σ σ' → sch (td_bp A kd e true) (td_sz A) 3 (pd (td_sz A) 3) (fun _ => 0) = none → Q (.inl (some (.int (nn 1)))) (mk dy σ' ρ τ)) (kf : ∀ σ' d' p, rs_S σ σ' → sch (td_bp A kd e true) (td_sz A) 3 (pd (td_sz A) 3) (fun _ => 0) = some (d', p) → (∀ v, v < 6 → σ' 41 v = nn (d' v)) → σ' 24 32 = nn p → Q (.inl (some (.int (nn 0)))) (mk dy σ' ρ τ)) : go (tb_P L xs) 125 0 [some (.ref 24), some (.int (nn kd)), some (.int (nn e)), none, none, none, none] [] (mk dy σ ρ τ) Q := by
  have hs0 : rs_S σ (up2 σ 24 32 (nn 0)) := fun a k _ _ _ g => by
    unfold up2
    rcases g with g | g
    · rw [if_neg g]
    · rw [if_neg g.2]
      split <;> rfl
  refine g_aload_n k125_0 rfl ?_
  refine g_iconst (v := nn 0) k125_1 ci_0 ?_
  refine m_putI k125_2 f125_2 rfl rfl rfl ?_
  refine g_iconst (v := nn 0) k125_5 ci_0 ?_
  refine g_istore_n k125_6 rfl rfl ?_
  refine s_125I (A := A) (kd := kd) hdy (by omega) 6 0 (by omega) (fun v hv => (hR.2.2.2.2.2 v hv).2) (fun σ1 h1 h2 => ?_)
  have hs1 : rs_S (up2 σ 24 32 (nn 0)) σ1 := fun a k g1 _ _ _ => by rw [h1 a g1]
  have hR1 := (hR.mono hs0).mono hs1
  have hne := ok.2.2.1
  have hd1 : ∀ v, v < 6 → σ1 41 v = nn ((fun _ => 0) v) := fun v hv => by rw [h2 v hv, if_pos (Nat.zero_le v), if_neg (by omega)]
  have hma1 := (hR1.2.1.2 e he).1
  rw [hma] at hma1
  refine g_iload_n k125_39 rfl ?_
  refine g_ifne_t k125_40 (t := 49) rfl (by intro q; have q2 := (nn_inj (a := kd) (b := 0) (by omega) (by omega)).mp q; omega) ?_
  refine g_iload_n k125_49 rfl ?_
  refine g_bipush (v := nn 6) k125_50 cb_6 ?_
  refine g_icge_f k125_52 (t := 68) rfl (by rw [nn_toInt (by omega), nn_toInt (by omega)]; omega) ?_
  refine g_aload_n k125_55 rfl ?_
  refine m_get k125_56 f125_56 rfl rfl ?_
  refine g_iload_n k125_59 rfl ?_
  refine m_iald k125_60 hdy rfl rfl (by omega) (by omega) ?_
  rw [hma1]
  refine g_ifne_f k125_61 (t := 68) rfl rfl ?_
  refine g_iconst (v := nn 1) k125_64 ci_1 ?_
  refine g_goto k125_65 (t := 69) rfl ?_
  refine g_istore_n k125_69 rfl rfl ?_
  refine g_iconst (v := nn 1) k125_70 ci_1 ?_
  refine g_istore k125_71 rfl rfl ?_
  exact s_125A1 hdy ok he hk hk5 (pd (td_sz A) 3) (d := fun _ => 0) (by rw [vl_zero 3 (fun v _ => rfl)]; omega) hR1 hd1 (fun v hv => (ok.2.2.2.2.2.2.2 v hv).1) (by rw [h1 24 (by decide)]; rfl) (fun σ' hs h => kt σ' ((hs0.tr hs1).tr hs) h) (fun σ' d' p hs h g1 g2 => kf σ' d' p ((hs0.tr hs1).tr hs) h g1 g2)
theorem s_125_l (hdy : dy.length < 100000) (ok : TOK A) (he : e < td_ne A) (hk : td_hk A kd e) (hk5 : 1 ≤ kd ∧ kd ≤ 5) (hma : td_ma A e = 1) (hR : RepM A σ) (kt : ∀ σ', rs_S σ σ' → sch (td_bp A kd e false) (td_sz A) 6 (pd (td_sz A) 6) (fun _ => 0) = none → Q (.inl (some (.int (nn 1)))) (mk dy σ' ρ τ)) (kf : ∀ σ' d' p, rs_S σ σ' → sch (td_bp A kd e false) (td_sz A) 6 (pd (td_sz A) 6) (fun _ => 0) = some (d', p) → (∀ v, v < 6 → σ' 41 v = nn (d' v)) → σ' 24 32 = nn p → Q (.inl (some (.int (nn 0)))) (mk dy σ' ρ τ)) : go (tb_P L xs) 125 0 [some (.ref 24), some (.int (nn kd)), some (.int (nn e)), none, none, none, none] [] (mk dy σ ρ τ) Q := by
  have hs0 : rs_S σ (up2 σ 24 32 (nn 0)) := fun a k _ _ _ g => by
    unfold up2
    rcases g with g | g
    · rw [if_neg g]
    · rw [if_neg g.2]
      split <;> rfl
  refine g_aload_n k125_0 rfl ?_
  refine g_iconst (v := nn 0) k125_1 ci_0 ?_
  refine m_putI k125_2 f125_2 rfl rfl rfl ?_
  refine g_iconst (v := nn 0) k125_5 ci_0 ?_
  refine g_istore_n k125_6 rfl rfl ?_
  refine s_125I (A := A) (kd := kd) hdy (by omega) 6 0 (by omega) (fun v hv => (hR.2.2.2.2.2 v hv).2) (fun σ1 h1 h2 => ?_)
  have hs1 : rs_S (up2 σ 24 32 (nn 0)) σ1 := fun a k g1 _ _ _ => by rw [h1 a g1]
  have hR1 := (hR.mono hs0).mono hs1
  have hne := ok.2.2.1
  have hd1 : ∀ v, v < 6 → σ1 41 v = nn ((fun _ => 0) v) := fun v hv => by rw [h2 v hv, if_pos (Nat.zero_le v), if_neg (by omega)]
  have hma1 := (hR1.2.1.2 e he).1
  rw [hma] at hma1
  refine g_iload_n k125_39 rfl ?_
  refine g_ifne_t k125_40 (t := 49) rfl (by intro q; have q2 := (nn_inj (a := kd) (b := 0) (by omega) (by omega)).mp q; omega) ?_
  refine g_iload_n k125_49 rfl ?_
  refine g_bipush (v := nn 6) k125_50 cb_6 ?_
  refine g_icge_f k125_52 (t := 68) rfl (by rw [nn_toInt (by omega), nn_toInt (by omega)]; omega) ?_
  refine g_aload_n k125_55 rfl ?_
  refine m_get k125_56 f125_56 rfl rfl ?_
  refine g_iload_n k125_59 rfl ?_
  refine m_iald k125_60 hdy rfl rfl (by omega) (by omega) ?_
  rw [hma1]
  refine g_ifne_t k125_61 (t := 68) rfl (by decide) ?_
  refine g_iconst (v := nn 0) k125_68 ci_0 ?_
  refine g_istore_n k125_69 rfl rfl ?_
  refine g_iconst (v := nn 1) k125_70 ci_1 ?_
  refine g_istore k125_71 rfl rfl ?_
  exact s_125A0 hdy ok he hk hk5 (pd (td_sz A) 6) (d := fun _ => 0) (by rw [vl_zero 6 (fun v _ => rfl)]; omega) hR1 hd1 (fun v hv => (ok.2.2.2.2.2.2.2 v hv).1) (by rw [h1 24 (by decide)]; rfl) (fun σ' hs h => kt σ' ((hs0.tr hs1).tr hs) h) (fun σ' d' p hs h g1 g2 => kf σ' d' p ((hs0.tr hs1).tr hs) h g1 g2)
theorem s_125_6 (hdy : dy.length < 100000) (ok : TOK A)  (hR : RepM A σ) (kt : ∀ σ', rs_S σ σ' → sch (td_b6 A) (td_sz A) 6 (pd (td_sz A) 6) (fun _ => 0) = none → Q (.inl (some (.int (nn 1)))) (mk dy σ' ρ τ)) (kf : ∀ σ' d' p, rs_S σ σ' → sch (td_b6 A) (td_sz A) 6 (pd (td_sz A) 6) (fun _ => 0) = some (d', p) → (∀ v, v < 6 → σ' 41 v = nn (d' v)) → σ' 24 32 = nn p → Q (.inl (some (.int (nn 0)))) (mk dy σ' ρ τ)) : go (tb_P L xs) 125 0 [some (.ref 24), some (.int (nn 6)), some (.int x2), none, none, none, none] [] (mk dy σ ρ τ) Q := by
  have hs0 : rs_S σ (up2 σ 24 32 (nn 0)) := fun a k _ _ _ g => by
    unfold up2
    rcases g with g | g
    · rw [if_neg g]
    · rw [if_neg g.2]
      split <;> rfl
  refine g_aload_n k125_0 rfl ?_
  refine g_iconst (v := nn 0) k125_1 ci_0 ?_
  refine m_putI k125_2 f125_2 rfl rfl rfl ?_
  refine g_iconst (v := nn 0) k125_5 ci_0 ?_
  refine g_istore_n k125_6 rfl rfl ?_
  refine s_125I (A := A) (kd := 6) hdy (by omega) 6 0 (by omega) (fun v hv => (hR.2.2.2.2.2 v hv).2) (fun σ1 h1 h2 => ?_)
  have hs1 : rs_S (up2 σ 24 32 (nn 0)) σ1 := fun a k g1 _ _ _ => by rw [h1 a g1]
  have hR1 := (hR.mono hs0).mono hs1
  have hne := ok.2.2.1
  have hd1 : ∀ v, v < 6 → σ1 41 v = nn ((fun _ => 0) v) := fun v hv => by rw [h2 v hv, if_pos (Nat.zero_le v), if_neg (by omega)]
  refine g_iload_n k125_39 rfl ?_
  refine g_ifne_t k125_40 (t := 49) rfl (by decide) ?_
  refine g_iload_n k125_49 rfl ?_
  refine g_bipush (v := nn 6) k125_50 cb_6 ?_
  refine g_icge_t k125_52 (t := 68) rfl (by decide) ?_
  refine g_iconst (v := nn 0) k125_68 ci_0 ?_
  refine g_istore_n k125_69 rfl rfl ?_
  refine g_iconst (v := nn 1) k125_70 ci_1 ?_
  refine g_istore k125_71 rfl rfl ?_
  exact s_125B hdy ok (pd (td_sz A) 6) (d := fun _ => 0) (by rw [vl_zero 6 (fun v _ => rfl)]; omega) hR1 hd1 (fun v hv => (ok.2.2.2.2.2.2.2 v hv).1) (by rw [h1 24 (by decide)]; rfl) (fun σ' hs h => kt σ' ((hs0.tr hs1).tr hs) h) (fun σ' d' p hs h g1 g2 => kf σ' d' p ((hs0.tr hs1).tr hs) h g1 g2)
end LJ
