/-! The reference: how many duties are open. -/
section LO
variable {L : Nat} {xs : Nat → Int32} {Q : am_A → am_H → Prop} {dy : List (Nat × Nat)} {σ : Nat → Nat → Int32} {ρ : Nat → Nat → Option Nat} {τ : Nat → Nat → Int64} {A : TD} {e kd : Nat} {x z x2 : Int32}
/-- where an event's duty of a kind is broken first -/
def td_R (A : TD) (kd e : Nat) : Option ((Nat → Nat) × Nat) := if td_ma A e = 0 then sch (td_bp A kd e true) (td_sz A) 3 (pd (td_sz A) 3) (fun _ => 0) else sch (td_bp A kd e false) (td_sz A) 6 (pd (td_sz A) 6) (fun _ => 0)
def td_R0 (A : TD) : Option ((Nat → Nat) × Nat) := if td_ri A (rd (td_in A) 0) = true then none else some (td_in A, 0)
def td_R6 (A : TD) : Option ((Nat → Nat) × Nat) := sch (td_b6 A) (td_sz A) 6 (pd (td_sz A) 6) (fun _ => 0)
theorem dk_hk (h : td_dk A kd e = true) : td_hk A kd e := by
  unfold td_dk at h
  unfold td_hk
  simp only [Bool.or_eq_true, Bool.and_eq_true, decide_eq_true_eq, Option.isNone_iff_eq_none] at h
  rcases h with (h | h) | ⟨h1, (h2 | h2) | h2⟩
  · exact Or.inl h
  · exact Or.inr (Or.inl h)
  · exact Or.inr (Or.inr ⟨h1, Or.inl h2⟩)
  · exact Or.inr (Or.inr ⟨h1, Or.inr (Or.inl h2.1)⟩)
  · exact Or.inr (Or.inr ⟨h1, Or.inr (Or.inr h2)⟩)
theorem dn_He (hdy : dy.length < 100000) (ok : TOK A) (he : e < td_ne A) (hk5 : 1 ≤ kd ∧ kd ≤ 5) (hk : td_dk A kd e = true) : dn_H L xs dy ρ τ A (nn kd) (nn e) (td_R A kd e) := by
  intro σ Q hR kt kf
  have hm := (ok.2.2.2.1 e he).1
  unfold td_R at kt kf
  by_cases h0 : td_ma A e = 0
  · rw [if_pos h0] at kt kf
    exact s_125_u hdy ok he (dk_hk hk) hk5 h0 hR kt kf
  · rw [if_neg h0] at kt kf
    exact s_125_l hdy ok he (dk_hk hk) hk5 (by omega) hR kt kf
theorem dn_H6 (hdy : dy.length < 100000) (ok : TOK A) : dn_H L xs dy ρ τ A (nn 6) z (td_R6 A) := by
  intro σ Q hR kt kf
  exact s_125_6 hdy ok hR kt kf
/-- 1 if an event has a duty of a kind and it is open -/
def td_o1 (A : TD) (e kd : Nat) : Nat := if td_dk A kd e = true then (if (td_R A kd e).isSome = true then 1 else 0) else 0
def td_oe (A : TD) (e : Nat) : Nat := ((List.range' 1 5).map (td_o1 A e)).sum
def td_op (A : TD) : Nat := (if (td_R0 A).isSome = true then 1 else 0) + ((List.range' 0 (td_ne A)).map (td_oe A)).sum
theorem s_141K (hdy : dy.length < 100000) (ok : TOK A) (he : e < td_ne A) : ∀ (k kd n : Nat) {σ : Nat → Nat → Int32} {Q : am_A → am_H → Prop}, kd + k = 6 → 1 ≤ kd → RepM A σ → (∀ σ' l3, rs_S σ σ' → go (tb_P L xs) 141 70 [some (.ref 24), some (.int (nn (n + ((List.range' kd k).map (td_o1 A e)).sum))), some (.int (nn e)), l3] [] (mk dy σ' ρ τ) Q) → go (tb_P L xs) 141 32 [some (.ref 24), some (.int (nn n)), some (.int (nn e)), some (.int (nn kd))] [] (mk dy σ ρ τ) Q := by
  intro k
  induction k with
  | zero =>
    intro kd n σ Q hk h1 hR kk
    have hk6 : kd = 6 := by omega
    subst hk6
    refine g_iload_n k141_32 rfl ?_
    refine g_bipush (v := nn 6) k141_33 cb_6 ?_
    refine g_icge_t k141_35 (t := 70) rfl (by decide) ?_
    exact kk σ _ (rs_S.rf σ)
  | succ k ih =>
    intro kd n σ Q hk h1 hR kk
    have hne := ok.2.2.1
    rw [List.range'_succ, List.map_cons, List.sum_cons, ← Nat.add_assoc] at kk
    have hnext : ∀ (σ1 : Nat → Nat → Int32) (q : Nat), rs_S σ σ1 → q = td_o1 A e kd → go (tb_P L xs) 141 32 [some (.ref 24), some (.int (nn (n + q))), some (.int (nn e)), some (.int (nn (kd + 1)))] [] (mk dy σ1 ρ τ) Q := by
      intro σ1 q hs hq
      subst hq
      exact ih (kd + 1) (n + td_o1 A e kd) (by omega) (by omega) (hR.mono hs) (fun σ' l3 hs' => kk σ' l3 (hs.tr hs'))
    refine g_iload_n k141_32 rfl ?_
    refine g_bipush (v := nn 6) k141_33 cb_6 ?_
    refine g_icge_f k141_35 (t := 70) rfl (by rw [nn_toInt (by omega), nn_toInt (by omega)]; omega) ?_
    refine g_iload_n k141_38 rfl ?_
    refine g_aload_n k141_39 rfl ?_
    refine g_iload_n k141_40 rfl ?_
    refine g_iload_n k141_41 rfl ?_
    refine m_callV2 k141_42 s141_42 c141_42 l124 (by omega) ⟨rfl, rfl⟩ rfl r141_42 rfl ?_
    refine s_124e hdy ok hR ⟨h1, by omega⟩ he ?_
    refine af_ret ?_
    refine g_ifneB k141_45 (t := 57) rfl (fun h45 => ?_) (fun h45 => ?_)
    · skip
      refine g_iconst (v := nn 0) k141_57 ci_0 ?_
      refine g_goto k141_58 (t := 62) rfl ?_
      refine g_iaddN k141_62 ?_
      refine g_istore_n k141_63 rfl rfl ?_
      refine g_iincN k141_64 rfl rfl rfl ?_
      refine g_goto k141_67 (t := 32) rfl ?_
      refine hnext σ 0 (rs_S.rf σ) ?_
      have hdk : td_dk A kd e = false := by simpa using h45
      unfold td_o1
      rw [hdk]
      rfl
    · skip
      have hdk : td_dk A kd e = true := by simpa using h45
      refine g_aload_n k141_48 rfl ?_
      refine g_iload_n k141_49 rfl ?_
      refine g_iload_n k141_50 rfl ?_
      refine m_callV2 k141_51 s141_51 c141_51 l125 (by omega) ⟨rfl, rfl⟩ rfl r141_51 rfl ?_
      refine dn_He hdy ok he ⟨h1, by omega⟩ hdk hR (fun σ1 hs1 hr => ?_) (fun σ1 d1 p1 hs1 hr _ _ => ?_)
      · refine af_ret ?_
        refine g_ifeq_f k141_54 (t := 61) rfl (by decide) ?_
        refine g_iconst (v := nn 0) k141_57 ci_0 ?_
        refine g_goto k141_58 (t := 62) rfl ?_
        refine g_iaddN k141_62 ?_
        refine g_istore_n k141_63 rfl rfl ?_
        refine g_iincN k141_64 rfl rfl rfl ?_
        refine g_goto k141_67 (t := 32) rfl ?_
        refine hnext σ1 0 hs1 ?_
        unfold td_o1
        rw [hdk, hr]
        rfl
      · refine af_ret ?_
        refine g_ifeq_t k141_54 (t := 61) rfl rfl ?_
        refine g_iconst (v := nn 1) k141_61 ci_1 ?_
        refine g_iaddN k141_62 ?_
        refine g_istore_n k141_63 rfl rfl ?_
        refine g_iincN k141_64 rfl rfl rfl ?_
        refine g_goto k141_67 (t := 32) rfl ?_
        refine hnext σ1 1 hs1 ?_
        unfold td_o1
        rw [hdk, hr]
        rfl
theorem s_141L (hdy : dy.length < 100000) (ok : TOK A) : ∀ (k e n : Nat) {σ : Nat → Nat → Int32} {l3 : Option Value} {Q : am_A → am_H → Prop}, e + k = td_ne A → RepM A σ → (∀ σ', rs_S σ σ' → Q (.inl (some (.int (nn (n + ((List.range' e k).map (td_oe A)).sum))))) (mk dy σ' ρ τ)) → go (tb_P L xs) 141 22 [some (.ref 24), some (.int (nn n)), some (.int (nn e)), l3] [] (mk dy σ ρ τ) Q := by
  intro k
  induction k with
  | zero =>
    intro e n σ l3 Q he hR kk
    have hne := ok.2.2.1
    have hev := hR.2.1.1
    refine g_iload_n k141_22 rfl ?_
    refine g_aload_n k141_23 rfl ?_
    refine m_get k141_24 f141_24 rfl rfl ?_
    rw [hev]
    refine g_icge_t k141_27 (t := 76) rfl (by rw [nn_toInt (by omega), nn_toInt (by omega)]; omega) ?_
    refine g_iload_n k141_76 rfl ?_
    refine g_ireturn k141_77 t141 ?_
    exact kk σ (rs_S.rf σ)
  | succ k ih =>
    intro e n σ l3 Q he hR kk
    have hne := ok.2.2.1
    have hev := hR.2.1.1
    rw [List.range'_succ, List.map_cons, List.sum_cons, ← Nat.add_assoc] at kk
    refine g_iload_n k141_22 rfl ?_
    refine g_aload_n k141_23 rfl ?_
    refine m_get k141_24 f141_24 rfl rfl ?_
    rw [hev]
    refine g_icge_f k141_27 (t := 76) rfl (by rw [nn_toInt (by omega), nn_toInt (by omega)]; omega) ?_
    refine g_iconst (v := nn 1) k141_30 ci_1 ?_
    refine g_istore_n k141_31 rfl rfl ?_
    refine s_141K hdy ok (by omega) 5 1 n (by omega) (by omega) hR (fun σ' l3 hs => ?_)
    refine g_iincN k141_70 rfl rfl rfl ?_
    refine g_goto k141_73 (t := 22) rfl ?_
    exact ih (e + 1) (n + td_oe A e) (by omega) (hR.mono hs) (fun σ'' hs'' => kk σ'' (hs.tr hs''))
theorem s_141 (hdy : dy.length < 100000) (ok : TOK A) (hR : RepM A σ) (kk : ∀ σ', dn_S σ σ' → σ' 24 0 = nn 0 → σ' 24 27 = σ 24 27 → (∀ v, σ' 44 v = σ 44 v) → Q (.inl (some (.int (nn (td_op A))))) (mk dy σ' ρ τ)) : go (tb_P L xs) 141 0 [some (.ref 24), none, none, none] [] (mk dy σ ρ τ) Q := by
  refine g_aload_n k141_0 rfl ?_
  refine g_iconst (v := nn 0) k141_1 ci_0 ?_
  refine m_putI k141_2 f141_2 rfl rfl rfl ?_
  refine g_aload_n k141_5 rfl ?_
  refine g_iconst (v := nn 0) k141_6 ci_0 ?_
  refine g_iconst (v := nn 0) k141_7 ci_0 ?_
  refine m_callV2 k141_8 s141_8 c141_8 l125 (by omega) ⟨rfl, rfl⟩ rfl r141_8 rfl ?_
  refine dn_H0 hdy ok (hR.mono_dn (dn_up (Or.inl rfl))) (fun σ1 hs1 hr => ?_) (fun σ1 d1 p1 hs1 hr _ _ => ?_)
  · refine af_ret ?_
    refine g_ifeq_f k141_11 (t := 18) rfl (by decide) ?_
    refine g_iconst (v := nn 0) k141_14 ci_0 ?_
    refine g_goto k141_15 (t := 19) rfl ?_
    refine g_istore_n k141_19 rfl rfl ?_
    refine g_iconst (v := nn 0) k141_20 ci_0 ?_
    refine g_istore_n k141_21 rfl rfl ?_
    refine s_141L hdy ok (td_ne A) 0 0 (by omega) ((hR.mono_dn (dn_up (Or.inl rfl))).mono hs1) (fun σ2 hs2 => ?_)
    have hs := hs1.tr hs2
    refine (fun h1 h2 h3 => ?_ : σ2 24 0 = nn 0 → σ2 24 27 = σ 24 27 → (∀ v, σ2 44 v = σ 44 v) → _) ?_ ?_ ?_
    · have hq := kk σ2 ((dn_up (σ := σ) (k := 0) (v := nn 0) (Or.inl rfl)).tr hs.dn) h1 h2 h3
      have e0 : (if (td_R0 A).isSome = true then 1 else 0) = 0 := by
        unfold td_R0
        rw [hr]
        rfl
      unfold td_op at hq
      rw [e0] at hq
      exact hq
    · exact hs 24 0 (by decide) (by decide) (by decide) (Or.inr (by decide))
    · exact hs 24 27 (by decide) (by decide) (by decide) (Or.inr (by decide))
    · exact fun v => hs 44 v (by decide) (by decide) (by decide) (Or.inl (by decide))
  · refine af_ret ?_
    refine g_ifeq_t k141_11 (t := 18) rfl rfl ?_
    refine g_iconst (v := nn 1) k141_18 ci_1 ?_
    refine g_istore_n k141_19 rfl rfl ?_
    refine g_iconst (v := nn 0) k141_20 ci_0 ?_
    refine g_istore_n k141_21 rfl rfl ?_
    refine s_141L hdy ok (td_ne A) 0 1 (by omega) ((hR.mono_dn (dn_up (Or.inl rfl))).mono hs1) (fun σ2 hs2 => ?_)
    have hs := hs1.tr hs2
    refine (fun h1 h2 h3 => ?_ : σ2 24 0 = nn 0 → σ2 24 27 = σ 24 27 → (∀ v, σ2 44 v = σ 44 v) → _) ?_ ?_ ?_
    · have hq := kk σ2 ((dn_up (σ := σ) (k := 0) (v := nn 0) (Or.inl rfl)).tr hs.dn) h1 h2 h3
      have e0 : (if (td_R0 A).isSome = true then 1 else 0) = 1 := by
        unfold td_R0
        rw [hr]
        rfl
      unfold td_op at hq
      rw [e0] at hq
      exact hq
    · exact hs 24 0 (by decide) (by decide) (by decide) (Or.inr (by decide))
    · exact hs 24 27 (by decide) (by decide) (by decide) (Or.inr (by decide))
    · exact fun v => hs 44 v (by decide) (by decide) (by decide) (Or.inl (by decide))
end LO
