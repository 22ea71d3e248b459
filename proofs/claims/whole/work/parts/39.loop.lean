/-! The reference: duties in all states, the loop over the states. -/
section LH
variable {L : Nat} {xs : Nat → Int32} {Q : am_A → am_H → Prop} {dy : List (Nat × Nat)} {σ : Nat → Nat → Int32} {ρ : Nat → Nat → Option Nat} {τ : Nat → Nat → Int64} {A : TD} {e kd p : Nat} {d : Nat → Nat} {l2 l5 l6 : Option Value}
theorem s_125N1 (hdy : dy.length < 100000) (ok : TOK A) (hR : RepM A σ) (hd : ∀ v, v < 6 → σ 41 v = nn (d v)) (hb : ∀ v, v < 6 → d v < td_sz A v) (k1 : ∀ σ', (∀ a, a ≠ 41 → σ' a = σ a) → (∀ v, v < 6 → σ' 41 v = nn ((ct (td_sz A) 3 d).2 v)) → (ct (td_sz A) 3 d).1 = true → go (tb_P L xs) 125 73 [some (.ref 24), some (.int (nn kd)), l2, some (.int (bb (true = true))), some (.int (nn 1)), l5, l6] [] (mk dy σ' ρ τ) Q) (k2 : ∀ σ', (∀ a, a ≠ 41 → σ' a = σ a) → (ct (td_sz A) 3 d).1 = false → Q (.inl (some (.int (nn 1)))) (mk dy σ' ρ τ)) : go (tb_P L xs) 125 168 [some (.ref 24), some (.int (nn kd)), l2, some (.int (bb (true = true))), some (.int (nn 1)), l5, l6] [] (mk dy σ ρ τ) Q := by
  refine g_aload_n k125_168 rfl ?_
  refine g_iload_n k125_169 rfl ?_
  refine g_ifeq_f k125_170 (t := 177) rfl (by decide) ?_
  refine g_iconst (v := nn 2) k125_173 ci_2 ?_
  refine g_goto k125_174 (t := 178) rfl ?_
  refine m_callV1 k125_178 s125_178 c125_178 l139 (by omega) rfl rfl r125_178 rfl ?_
  refine s_139 (r := 2) hdy ok (by omega) hR hd (fun v hv => hb v (by omega)) (fun σ1 h1 h2 => ?_)
  refine af_ret ?_
  refine g_istore k125_181 rfl rfl ?_
  refine g_goto k125_183 (t := 73) rfl ?_
  by_cases hc : (ct (td_sz A) 3 d).1 = true
  · rw [bb_t hc]
    exact k1 σ1 h1 h2 hc
  · rw [bb_f hc]
    refine g_iload k125_73 rfl ?_
    refine g_ifeq_t k125_75 (t := 186) rfl rfl ?_
    refine g_iconst (v := nn 1) k125_186 ci_1 ?_
    refine g_breturn k125_187 t125 (by decide) ?_
    exact k2 σ1 h1 (by simpa using hc)
theorem s_125N0 (hdy : dy.length < 100000) (ok : TOK A) (hR : RepM A σ) (hd : ∀ v, v < 6 → σ 41 v = nn (d v)) (hb : ∀ v, v < 6 → d v < td_sz A v) (k1 : ∀ σ', (∀ a, a ≠ 41 → σ' a = σ a) → (∀ v, v < 6 → σ' 41 v = nn ((ct (td_sz A) 6 d).2 v)) → (ct (td_sz A) 6 d).1 = true → go (tb_P L xs) 125 73 [some (.ref 24), some (.int (nn kd)), l2, some (.int (bb (false = true))), some (.int (nn 1)), l5, l6] [] (mk dy σ' ρ τ) Q) (k2 : ∀ σ', (∀ a, a ≠ 41 → σ' a = σ a) → (ct (td_sz A) 6 d).1 = false → Q (.inl (some (.int (nn 1)))) (mk dy σ' ρ τ)) : go (tb_P L xs) 125 168 [some (.ref 24), some (.int (nn kd)), l2, some (.int (bb (false = true))), some (.int (nn 1)), l5, l6] [] (mk dy σ ρ τ) Q := by
  refine g_aload_n k125_168 rfl ?_
  refine g_iload_n k125_169 rfl ?_
  refine g_ifeq_t k125_170 (t := 177) rfl rfl ?_
  refine g_iconst (v := nn 5) k125_177 ci_5 ?_
  refine m_callV1 k125_178 s125_178 c125_178 l139 (by omega) rfl rfl r125_178 rfl ?_
  refine s_139 (r := 5) hdy ok (by omega) hR hd (fun v hv => hb v (by omega)) (fun σ1 h1 h2 => ?_)
  refine af_ret ?_
  refine g_istore k125_181 rfl rfl ?_
  refine g_goto k125_183 (t := 73) rfl ?_
  by_cases hc : (ct (td_sz A) 6 d).1 = true
  · rw [bb_t hc]
    exact k1 σ1 h1 h2 hc
  · rw [bb_f hc]
    refine g_iload k125_73 rfl ?_
    refine g_ifeq_t k125_75 (t := 186) rfl rfl ?_
    refine g_iconst (v := nn 1) k125_186 ci_1 ?_
    refine g_breturn k125_187 t125 (by decide) ?_
    exact k2 σ1 h1 (by simpa using hc)
theorem s_125A1 (hdy : dy.length < 100000) (ok : TOK A) (he : e < td_ne A) (hk : td_hk A kd e) (hk5 : 1 ≤ kd ∧ kd ≤ 5) : ∀ (n : Nat) {σ : Nat → Nat → Int32} {d : Nat → Nat} {l5 l6 : Option Value} {Q : am_A → am_H → Prop}, vl (td_sz A) 3 d + n = pd (td_sz A) 3 → RepM A σ → (∀ v, v < 6 → σ 41 v = nn (d v)) → (∀ v, v < 6 → d v < td_sz A v) → σ 24 32 = nn 0 →
    (∀ σ', rs_S σ σ' → sch (td_bp A kd e true) (td_sz A) 3 n d = none → Q (.inl (some (.int (nn 1)))) (mk dy σ' ρ τ)) → (∀ σ' d' p, rs_S σ σ' → sch (td_bp A kd e true) (td_sz A) 3 n d = some (d', p) → (∀ v, v < 6 → σ' 41 v = nn (d' v)) → σ' 24 32 = nn p → Q (.inl (some (.int (nn 0)))) (mk dy σ' ρ τ)) →
    go (tb_P L xs) 125 73 [some (.ref 24), some (.int (nn kd)), some (.int (nn e)), some (.int (bb (true = true))), some (.int (nn 1)), l5, l6] [] (mk dy σ ρ τ) Q := by
  intro n
  induction n with
  | zero =>
    intro σ d l5 l6 Q hn hR hd hb hz kt kf
    have := vl_lt (sz := td_sz A) 3 (d := d) (fun v hv => hb v (by omega))
    omega
  | succ n ih =>
    intro σ d l5 l6 Q hn hR hd hb hz kt kf
    have hct := ct_vl (sz := td_sz A) 3 (d := d) (fun v hv => hb v (by omega))
    have hsch : sch (td_bp A kd e true) (td_sz A) 3 (n + 1) d = (match td_bp A kd e true d with
      | some p => some (d, p)
      | none => if (ct (td_sz A) 3 d).1 = true then sch (td_bp A kd e true) (td_sz A) 3 n (ct (td_sz A) 3 d).2 else none) := rfl
    have hnext : ∀ (σ1 : Nat → Nat → Int32) (l5 l6 : Option Value), rs_S σ σ1 → (∀ v, v < 6 → σ1 41 v = nn (d v)) → σ1 24 32 = nn 0 → td_bp A kd e true d = none → go (tb_P L xs) 125 168 [some (.ref 24), some (.int (nn kd)), some (.int (nn e)), some (.int (bb (true = true))), some (.int (nn 1)), l5, l6] [] (mk dy σ1 ρ τ) Q := by
      intro σ1 l5 l6 hs1 hd1 hz1 hbp
      rw [hsch, hbp] at kt kf
      dsimp only at kt kf
      refine s_125N1 hdy ok (hR.mono hs1) hd1 hb (fun σ2 h1 h2 hc => ?_) (fun σ2 h1 hc => ?_)
      · rw [if_pos hc] at kt kf
        have hs2 : rs_S σ1 σ2 := fun a k g1 _ _ _ => by rw [h1 a g1]
        refine ih (d := (ct (td_sz A) 3 d).2) (by rw [hct.2.1 hc]; omega) ((hR.mono hs1).mono hs2) h2 (fun v hv => ?_) (by rw [h1 24 (by decide)]; exact hz1) (fun σ' hs h => kt σ' ((hs1.tr hs2).tr hs) h) (fun σ' d' p hs h g1 g2 => kf σ' d' p ((hs1.tr hs2).tr hs) h g1 g2)
        by_cases hvr : v < 3
        · exact hct.1 v hvr
        · rw [ct_ge 3 (by omega)]
          exact hb v hv
      · rw [if_neg (by rw [hc]; simp)] at kt
        exact kt σ2 (hs1.tr (fun a k g1 _ _ _ => by rw [h1 a g1])) rfl
    have hrtd : td_rt A true d = td_ho A 0 (rd d 0) := rfl
    refine g_iload k125_73 rfl ?_
    refine g_ifeq_f k125_75 (t := 186) rfl (by decide) ?_
    refine g_iload_n k125_78 rfl ?_
    refine g_ifeq_f k125_79 (t := 91) rfl (by decide) ?_
    refine g_aload_n k125_82 rfl ?_
    refine g_iconst (v := nn 0) k125_83 ci_0 ?_
    refine g_iconst (v := nn 0) k125_84 ci_0 ?_
    refine m_callV2 k125_85 s125_85 c125_85 l127 (by omega) ⟨rfl, rfl⟩ rfl r125_85 rfl ?_
    refine s_127 (m := 0) (lt := False) hdy ok (by omega) hR rfl (fun σ1 hs1 => ?_)
    refine af_ret ?_
    rw [rd_ho ok (by omega) hd]
    refine g_goto k125_88 (t := 96) rfl ?_
    refine g_istore k125_96 rfl rfl ?_
    refine g_iload k125_98 rfl ?_
    refine g_ifeqB k125_100 (t := 118) rfl (fun h100 => ?_) (fun h100 => ?_)
    · skip
      refine g_iconst (v := nn 0) k125_118 ci_0 ?_
      refine g_istore k125_119 rfl rfl ?_
      have hz1 : σ1 24 32 = nn 0 := (hs1 24 32 (by decide) (Or.inr (by decide))).trans hz
      first
        | (have h100 := h100
           rw [bb_t h100]
           have hbp : td_bp A kd e true d = (List.range' 0 (td_rg A e)).find? (fun p => !td_kp A kd e (rd d p)) := by
             unfold td_bp
             rw [hrtd, if_pos h100, List.range_eq_range']
           refine s_125P (rt := true) (d := d) hdy ok he hk hk5 hb (td_rg A e) 0 (by omega) (hR.mono hs1.rs) (ld_41 hs1.ld hd) (fun σ2 l6 hs2 h => ?_) (fun σ2 q hs2 h => ?_)
           · exact hnext σ2 _ _ ((hs1.ld.tr hs2).rs) (ld_41 hs2 (ld_41 hs1.ld hd)) ((hs2 24 32 (by decide) (by decide) (Or.inr (by decide))).trans hz1) (by rw [hbp]; exact h)
           · refine kf _ d q (((hs1.ld.tr hs2).rs).tr (fun a k _ _ _ g => ?_)) ?_ (fun v hv => ?_) (by simp [up2])
             · unfold up2
               rcases g with g | g
               · rw [if_neg g]
               · rw [if_neg g.2]
                 split <;> rfl
             · rw [hsch, hbp, h]
             · have e1 := ld_41 hs2 (ld_41 hs1.ld hd) v hv
               exact e1)
        | (rw [bb_f h100]
           refine g_iload k125_121 rfl ?_
           refine g_ifeq_t k125_123 (t := 168) rfl rfl ?_
           refine hnext σ1 _ _ hs1.rs (ld_41 hs1.ld hd) hz1 ?_
           unfold td_bp
           rw [hrtd, if_neg h100])
    · skip
      refine g_iload_n k125_103 rfl ?_
      refine g_bipush (v := nn 6) k125_104 cb_6 ?_
      refine g_icne_t k125_106 (t := 118) rfl (by intro q; have q2 := (nn_inj (by omega) (by omega)).mp q; omega) ?_
      refine g_iconst (v := nn 0) k125_118 ci_0 ?_
      refine g_istore k125_119 rfl rfl ?_
      have hz1 : σ1 24 32 = nn 0 := (hs1 24 32 (by decide) (Or.inr (by decide))).trans hz
      first
        | (have h100 := h100
           rw [bb_t h100]
           have hbp : td_bp A kd e true d = (List.range' 0 (td_rg A e)).find? (fun p => !td_kp A kd e (rd d p)) := by
             unfold td_bp
             rw [hrtd, if_pos h100, List.range_eq_range']
           refine s_125P (rt := true) (d := d) hdy ok he hk hk5 hb (td_rg A e) 0 (by omega) (hR.mono hs1.rs) (ld_41 hs1.ld hd) (fun σ2 l6 hs2 h => ?_) (fun σ2 q hs2 h => ?_)
           · exact hnext σ2 _ _ ((hs1.ld.tr hs2).rs) (ld_41 hs2 (ld_41 hs1.ld hd)) ((hs2 24 32 (by decide) (by decide) (Or.inr (by decide))).trans hz1) (by rw [hbp]; exact h)
           · refine kf _ d q (((hs1.ld.tr hs2).rs).tr (fun a k _ _ _ g => ?_)) ?_ (fun v hv => ?_) (by simp [up2])
             · unfold up2
               rcases g with g | g
               · rw [if_neg g]
               · rw [if_neg g.2]
                 split <;> rfl
             · rw [hsch, hbp, h]
             · have e1 := ld_41 hs2 (ld_41 hs1.ld hd) v hv
               exact e1)
        | (rw [bb_f h100]
           refine g_iload k125_121 rfl ?_
           refine g_ifeq_t k125_123 (t := 168) rfl rfl ?_
           refine hnext σ1 _ _ hs1.rs (ld_41 hs1.ld hd) hz1 ?_
           unfold td_bp
           rw [hrtd, if_neg h100])
theorem s_125A0 (hdy : dy.length < 100000) (ok : TOK A) (he : e < td_ne A) (hk : td_hk A kd e) (hk5 : 1 ≤ kd ∧ kd ≤ 5) : ∀ (n : Nat) {σ : Nat → Nat → Int32} {d : Nat → Nat} {l5 l6 : Option Value} {Q : am_A → am_H → Prop}, vl (td_sz A) 6 d + n = pd (td_sz A) 6 → RepM A σ → (∀ v, v < 6 → σ 41 v = nn (d v)) → (∀ v, v < 6 → d v < td_sz A v) → σ 24 32 = nn 0 →
    (∀ σ', rs_S σ σ' → sch (td_bp A kd e false) (td_sz A) 6 n d = none → Q (.inl (some (.int (nn 1)))) (mk dy σ' ρ τ)) → (∀ σ' d' p, rs_S σ σ' → sch (td_bp A kd e false) (td_sz A) 6 n d = some (d', p) → (∀ v, v < 6 → σ' 41 v = nn (d' v)) → σ' 24 32 = nn p → Q (.inl (some (.int (nn 0)))) (mk dy σ' ρ τ)) →
    go (tb_P L xs) 125 73 [some (.ref 24), some (.int (nn kd)), some (.int (nn e)), some (.int (bb (false = true))), some (.int (nn 1)), l5, l6] [] (mk dy σ ρ τ) Q := by
  intro n
  induction n with
  | zero =>
    intro σ d l5 l6 Q hn hR hd hb hz kt kf
    have := vl_lt (sz := td_sz A) 6 (d := d) (fun v hv => hb v (by omega))
    omega
  | succ n ih =>
    intro σ d l5 l6 Q hn hR hd hb hz kt kf
    have hct := ct_vl (sz := td_sz A) 6 (d := d) (fun v hv => hb v (by omega))
    have hsch : sch (td_bp A kd e false) (td_sz A) 6 (n + 1) d = (match td_bp A kd e false d with
      | some p => some (d, p)
      | none => if (ct (td_sz A) 6 d).1 = true then sch (td_bp A kd e false) (td_sz A) 6 n (ct (td_sz A) 6 d).2 else none) := rfl
    have hnext : ∀ (σ1 : Nat → Nat → Int32) (l5 l6 : Option Value), rs_S σ σ1 → (∀ v, v < 6 → σ1 41 v = nn (d v)) → σ1 24 32 = nn 0 → td_bp A kd e false d = none → go (tb_P L xs) 125 168 [some (.ref 24), some (.int (nn kd)), some (.int (nn e)), some (.int (bb (false = true))), some (.int (nn 1)), l5, l6] [] (mk dy σ1 ρ τ) Q := by
      intro σ1 l5 l6 hs1 hd1 hz1 hbp
      rw [hsch, hbp] at kt kf
      dsimp only at kt kf
      refine s_125N0 hdy ok (hR.mono hs1) hd1 hb (fun σ2 h1 h2 hc => ?_) (fun σ2 h1 hc => ?_)
      · rw [if_pos hc] at kt kf
        have hs2 : rs_S σ1 σ2 := fun a k g1 _ _ _ => by rw [h1 a g1]
        refine ih (d := (ct (td_sz A) 6 d).2) (by rw [hct.2.1 hc]; omega) ((hR.mono hs1).mono hs2) h2 (fun v hv => ?_) (by rw [h1 24 (by decide)]; exact hz1) (fun σ' hs h => kt σ' ((hs1.tr hs2).tr hs) h) (fun σ' d' p hs h g1 g2 => kf σ' d' p ((hs1.tr hs2).tr hs) h g1 g2)
        by_cases hvr : v < 6
        · exact hct.1 v hvr
        · rw [ct_ge 6 (by omega)]
          exact hb v hv
      · rw [if_neg (by rw [hc]; simp)] at kt
        exact kt σ2 (hs1.tr (fun a k g1 _ _ _ => by rw [h1 a g1])) rfl
    have hrtd : td_rt A false d = td_ri A (rd d 0) := rfl
    refine g_iload k125_73 rfl ?_
    refine g_ifeq_f k125_75 (t := 186) rfl (by decide) ?_
    refine g_iload_n k125_78 rfl ?_
    refine g_ifeq_t k125_79 (t := 91) rfl rfl ?_
    refine g_aload_n k125_91 rfl ?_
    refine g_iconst (v := nn 0) k125_92 ci_0 ?_
    refine m_callV1 k125_93 s125_93 c125_93 l126 (by omega) rfl rfl r125_93 rfl ?_
    refine s_126 (lt := False) hdy ok hR rfl (fun σ1 hs1 => ?_)
    refine af_ret ?_
    rw [rd_ri ok hd]
    refine g_istore k125_96 rfl rfl ?_
    refine g_iload k125_98 rfl ?_
    refine g_ifeqB k125_100 (t := 118) rfl (fun h100 => ?_) (fun h100 => ?_)
    · skip
      refine g_iconst (v := nn 0) k125_118 ci_0 ?_
      refine g_istore k125_119 rfl rfl ?_
      have hz1 : σ1 24 32 = nn 0 := (hs1 24 32 (by decide) (Or.inr (by decide))).trans hz
      first
        | (have h100 := h100
           rw [bb_t h100]
           have hbp : td_bp A kd e false d = (List.range' 0 (td_rg A e)).find? (fun p => !td_kp A kd e (rd d p)) := by
             unfold td_bp
             rw [hrtd, if_pos h100, List.range_eq_range']
           refine s_125P (rt := true) (d := d) hdy ok he hk hk5 hb (td_rg A e) 0 (by omega) (hR.mono hs1.rs) (ld_41 hs1.ld hd) (fun σ2 l6 hs2 h => ?_) (fun σ2 q hs2 h => ?_)
           · exact hnext σ2 _ _ ((hs1.ld.tr hs2).rs) (ld_41 hs2 (ld_41 hs1.ld hd)) ((hs2 24 32 (by decide) (by decide) (Or.inr (by decide))).trans hz1) (by rw [hbp]; exact h)
           · refine kf _ d q (((hs1.ld.tr hs2).rs).tr (fun a k _ _ _ g => ?_)) ?_ (fun v hv => ?_) (by simp [up2])
             · unfold up2
               rcases g with g | g
               · rw [if_neg g]
               · rw [if_neg g.2]
                 split <;> rfl
             · rw [hsch, hbp, h]
             · have e1 := ld_41 hs2 (ld_41 hs1.ld hd) v hv
               exact e1)
        | (rw [bb_f h100]
           refine g_iload k125_121 rfl ?_
           refine g_ifeq_t k125_123 (t := 168) rfl rfl ?_
           refine hnext σ1 _ _ hs1.rs (ld_41 hs1.ld hd) hz1 ?_
           unfold td_bp
           rw [hrtd, if_neg h100])
    · skip
      refine g_iload_n k125_103 rfl ?_
      refine g_bipush (v := nn 6) k125_104 cb_6 ?_
      refine g_icne_t k125_106 (t := 118) rfl (by intro q; have q2 := (nn_inj (by omega) (by omega)).mp q; omega) ?_
      refine g_iconst (v := nn 0) k125_118 ci_0 ?_
      refine g_istore k125_119 rfl rfl ?_
      have hz1 : σ1 24 32 = nn 0 := (hs1 24 32 (by decide) (Or.inr (by decide))).trans hz
      first
        | (have h100 := h100
           rw [bb_t h100]
           have hbp : td_bp A kd e false d = (List.range' 0 (td_rg A e)).find? (fun p => !td_kp A kd e (rd d p)) := by
             unfold td_bp
             rw [hrtd, if_pos h100, List.range_eq_range']
           refine s_125P (rt := true) (d := d) hdy ok he hk hk5 hb (td_rg A e) 0 (by omega) (hR.mono hs1.rs) (ld_41 hs1.ld hd) (fun σ2 l6 hs2 h => ?_) (fun σ2 q hs2 h => ?_)
           · exact hnext σ2 _ _ ((hs1.ld.tr hs2).rs) (ld_41 hs2 (ld_41 hs1.ld hd)) ((hs2 24 32 (by decide) (by decide) (Or.inr (by decide))).trans hz1) (by rw [hbp]; exact h)
           · refine kf _ d q (((hs1.ld.tr hs2).rs).tr (fun a k _ _ _ g => ?_)) ?_ (fun v hv => ?_) (by simp [up2])
             · unfold up2
               rcases g with g | g
               · rw [if_neg g]
               · rw [if_neg g.2]
                 split <;> rfl
             · rw [hsch, hbp, h]
             · have e1 := ld_41 hs2 (ld_41 hs1.ld hd) v hv
               exact e1)
        | (rw [bb_f h100]
           refine g_iload k125_121 rfl ?_
           refine g_ifeq_t k125_123 (t := 168) rfl rfl ?_
           refine hnext σ1 _ _ hs1.rs (ld_41 hs1.ld hd) hz1 ?_
           unfold td_bp
           rw [hrtd, if_neg h100])
end LH
