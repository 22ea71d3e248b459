/-! The reference: done. -/
section LN
variable {L : Nat} {xs : Nat → Int32} {Q : am_A → am_H → Prop} {dy : List (Nat × Nat)} {σ : Nat → Nat → Int32} {ρ : Nat → Nat → Option Nat} {τ : Nat → Nat → Int64} {A : TD} {e kd : Nat} {x z x2 : Int32}
theorem dn_S.tr {σ σ1 σ2 : Nat → Nat → Int32} (h1 : dn_S σ σ1) (h2 : dn_S σ1 σ2) : dn_S σ σ2 := fun a k g1 g2 g3 g4 g5 => (h2 a k g1 g2 g3 g4 g5).trans (h1 a k g1 g2 g3 g4 g5)
theorem dn_S.rf (σ : Nat → Nat → Int32) : dn_S σ σ := fun _ _ _ _ _ _ _ => rfl
theorem dn_up {k : Nat} {v : Int32} (hk : k = 0 ∨ k = 27) : dn_S σ (up2 σ 24 k v) := fun a q _ _ _ _ g => by
  unfold up2
  rcases g with g | g
  · rw [if_neg g]
  · rw [if_neg (show q ≠ k by omega)]
    split <;> rfl
/-- what isDone of a kind and an event finds -/
def dn_H (L : Nat) (xs : Nat → Int32) (dy : List (Nat × Nat)) (ρ : Nat → Nat → Option Nat) (τ : Nat → Nat → Int64) (A : TD) (x z : Int32) (R : Option ((Nat → Nat) × Nat)) : Prop := ∀ {σ : Nat → Nat → Int32} {Q : am_A → am_H → Prop}, RepM A σ → (∀ σ', rs_S σ σ' → R = none → Q (.inl (some (.int (nn 1)))) (mk dy σ' ρ τ)) → (∀ σ' d' p, rs_S σ σ' → R = some (d', p) → (∀ v, v < 6 → σ' 41 v = nn (d' v)) → σ' 24 32 = nn p → Q (.inl (some (.int (nn 0)))) (mk dy σ' ρ τ)) → go (tb_P L xs) 125 0 [some (.ref 24), some (.int x), some (.int z), none, none, none, none] [] (mk dy σ ρ τ) Q
theorem dn_H0 (hdy : dy.length < 100000) (ok : TOK A) : dn_H L xs dy ρ τ A (nn 0) z (if td_ri A (rd (td_in A) 0) = true then none else some (td_in A, 0)) := by
  intro σ Q hR kt kf
  refine s_125_0 hdy ok hR (fun σ' hs hd hz => ?_)
  by_cases hc : td_ri A (rd (td_in A) 0) = true
  · rw [bb_t hc]
    exact kt σ' hs (by rw [if_pos hc])
  · rw [bb_f hc]
    exact kf σ' (td_in A) 0 hs (by rw [if_neg hc]) hd hz
theorem s_123L {is : Int32} (hdy : dy.length < 100000) : ∀ (k j : Nat) {σ : Nat → Nat → Int32} {Q : am_A → am_H → Prop}, j + k = 6 → (∀ σ', (∀ a, a ≠ 44 → σ' a = σ a) → (∀ v, v < 6 → j ≤ v → σ' 44 v = σ 41 v) → (∀ v, v < j → σ' 44 v = σ 44 v) → go (tb_P L xs) 123 77 [some (.ref 24), some (.int x), some (.int z), some (.int is), some (.int (nn 6))] [] (mk dy σ' ρ τ) Q) → go (tb_P L xs) 123 50 [some (.ref 24), some (.int x), some (.int z), some (.int is), some (.int (nn j))] [] (mk dy σ ρ τ) Q := by
  intro k
  induction k with
  | zero =>
    intro j σ Q hj kk
    have hj6 : j = 6 := by omega
    subst hj6
    refine g_iload k123_50 rfl ?_
    refine g_bipush (v := nn 6) k123_52 cb_6 ?_
    refine g_icge_t k123_54 (t := 77) rfl (by decide) ?_
    exact kk σ (fun _ _ => rfl) (fun v h1 h2 => by omega) (fun _ _ => rfl)
  | succ k ih =>
    intro j σ Q hj kk
    refine g_iload k123_50 rfl ?_
    refine g_bipush (v := nn 6) k123_52 cb_6 ?_
    refine g_icge_f k123_54 (t := 77) rfl (by rw [nn_toInt (by omega), nn_toInt (by omega)]; omega) ?_
    refine g_aload_n k123_57 rfl ?_
    refine m_get k123_58 f123_58 rfl rfl ?_
    refine g_iload k123_61 rfl ?_
    refine g_aload_n k123_63 rfl ?_
    refine m_get k123_64 f123_64 rfl rfl ?_
    refine g_iload k123_67 rfl ?_
    refine m_iald k123_69 hdy rfl rfl (by omega) (by omega) ?_
    refine m_iast k123_70 rfl rfl (by omega) (by omega) ?_
    refine g_iincN k123_71 rfl rfl rfl ?_
    refine g_goto k123_74 (t := 50) rfl ?_
    refine ih (j + 1) (by omega) (fun σ' h1 h2 h3 => kk σ' (fun a ha => ?_) (fun v hv hjv => ?_) (fun v hv => ?_))
    · rw [h1 a ha]
      funext q
      unfold up2
      rw [if_neg ha]
    · by_cases c : v = j
      · subst c
        rw [h3 v (by omega)]
        simp [up2]
      · rw [h2 v hv (by omega)]
        simp [up2]
    · rw [h3 v (by omega)]
      have c : v ≠ j := by omega
      simp [up2, c]
theorem s_123x (hdy : dy.length < 100000) (hnd : ∀ {Q : am_A → am_H → Prop}, Q (.inl (some (.int (nn 1)))) (mk dy σ ρ τ) → go (tb_P L xs) 124 0 [some (.ref 24), some (.int x), some (.int z)] [] (mk dy σ ρ τ) Q) (kk : Q (.inl (some (.int (nn 0)))) (mk dy (up2 σ 24 0 (nn 1)) ρ τ)) : go (tb_P L xs) 123 0 [some (.ref 24), some (.int x), some (.int z), none, none] [] (mk dy σ ρ τ) Q := by
  refine g_aload_n k123_0 rfl ?_
  refine g_aload_n k123_1 rfl ?_
  refine g_iload_n k123_2 rfl ?_
  refine g_iload_n k123_3 rfl ?_
  refine m_callV2 k123_4 s123_4 c123_4 l124 (by omega) ⟨rfl, rfl⟩ rfl r123_4 rfl ?_
  refine hnd ?_
  refine af_ret ?_
  refine g_ifeq_f k123_7 (t := 14) rfl (by decide) ?_
  refine g_iconst (v := nn 1) k123_10 ci_1 ?_
  refine g_goto k123_11 (t := 15) rfl ?_
  refine m_putI k123_15 f123_15 rfl rfl rfl ?_
  refine g_aload_n k123_18 rfl ?_
  refine m_get k123_19 f123_19 rfl rfl ?_
  rw [show up2 σ 24 0 (nn 1) 24 0 = nn 1 from rfl]
  refine g_ifeq_f k123_22 (t := 27) rfl (by decide) ?_
  refine g_iconst (v := nn 0) k123_25 ci_0 ?_
  refine g_breturn k123_26 t123 (by decide) ?_
  exact kk
theorem s_123 {R : Option ((Nat → Nat) × Nat)} (hdy : dy.length < 100000) (hR : RepM A σ) (hnd : ∀ {Q : am_A → am_H → Prop}, Q (.inl (some (.int (nn 0)))) (mk dy σ ρ τ) → go (tb_P L xs) 124 0 [some (.ref 24), some (.int x), some (.int z)] [] (mk dy σ ρ τ) Q) (H : dn_H L xs dy ρ τ A x z R) (kt : ∀ σ', dn_S σ σ' → R = none → σ' 24 0 = nn 0 → σ' 24 27 = nn 0 → Q (.inl (some (.int (nn 1)))) (mk dy σ' ρ τ)) (kf : ∀ σ' d' p, dn_S σ σ' → R = some (d', p) → σ' 24 0 = nn 0 → σ' 24 27 = nn 1 → (∀ v, v < 6 → σ' 44 v = nn (d' v)) → σ' 44 6 = nn p → Q (.inl (some (.int (nn 0)))) (mk dy σ' ρ τ)) : go (tb_P L xs) 123 0 [some (.ref 24), some (.int x), some (.int z), none, none] [] (mk dy σ ρ τ) Q := by
  refine g_aload_n k123_0 rfl ?_
  refine g_aload_n k123_1 rfl ?_
  refine g_iload_n k123_2 rfl ?_
  refine g_iload_n k123_3 rfl ?_
  refine m_callV2 k123_4 s123_4 c123_4 l124 (by omega) ⟨rfl, rfl⟩ rfl r123_4 rfl ?_
  refine hnd ?_
  refine af_ret ?_
  refine g_ifeq_t k123_7 (t := 14) rfl rfl ?_
  refine g_iconst (v := nn 0) k123_14 ci_0 ?_
  refine m_putI k123_15 f123_15 rfl rfl rfl ?_
  refine g_aload_n k123_18 rfl ?_
  refine m_get k123_19 f123_19 rfl rfl ?_
  refine g_ifeq_t k123_22 (t := 27) rfl rfl ?_
  refine g_aload_n k123_27 rfl ?_
  refine g_iload_n k123_28 rfl ?_
  refine g_iload_n k123_29 rfl ?_
  refine m_callV2 k123_30 s123_30 c123_30 l125 (by omega) ⟨rfl, rfl⟩ rfl r123_30 rfl ?_
  refine H (hR.mono_dn (dn_up (Or.inl rfl))) (fun σ1 hs1 hr => ?_) (fun σ1 d1 p1 hs1 hr hd1 hp1 => ?_)
  · refine af_ret ?_
    refine g_istore_n k123_33 rfl rfl ?_
    refine g_aload_n k123_34 rfl ?_
    refine g_iload_n k123_35 rfl ?_
    refine g_ifne_t k123_36 (t := 43) rfl (by decide) ?_
    refine g_iconst (v := nn 0) k123_43 ci_0 ?_
    refine m_putI k123_44 f123_44 rfl rfl rfl ?_
    refine g_iconst (v := nn 0) k123_47 ci_0 ?_
    refine g_istore k123_48 rfl rfl ?_
    refine s_123L hdy 6 0 (by omega) (fun σ3 h1 h2 h3 => ?_)
    refine g_aload_n k123_77 rfl ?_
    refine m_get k123_78 f123_78 rfl rfl ?_
    refine g_bipush (v := nn 6) k123_81 cb_6 ?_
    refine g_aload_n k123_83 rfl ?_
    refine m_get k123_84 f123_84 rfl rfl ?_
    refine m_iast k123_87 rfl rfl (by omega) (by omega) ?_
    refine g_iload_n k123_88 rfl ?_
    refine g_breturn k123_89 t123 (by decide) ?_
    refine kt (up2 σ3 44 6 (σ3 24 32)) ((((dn_up (σ := σ) (k := 0) (v := nn 0) (Or.inl rfl)).tr hs1.dn).tr (dn_up (σ := σ1) (k := 27) (v := nn 0) (Or.inr rfl))).tr (fun a k _ _ _ g4 _ => ?_)) hr ?_ ?_
    · unfold up2
      rw [if_neg g4, h1 a g4]
      rfl
    · show σ3 24 0 = nn 0
      rw [h1 24 (by decide)]
      show σ1 24 0 = nn 0
      rw [hs1 24 0 (by decide) (by decide) (by decide) (Or.inr (by decide))]
      rfl
    · show σ3 24 27 = nn 0
      rw [h1 24 (by decide)]
      rfl
  · refine af_ret ?_
    refine g_istore_n k123_33 rfl rfl ?_
    refine g_aload_n k123_34 rfl ?_
    refine g_iload_n k123_35 rfl ?_
    refine g_ifne_f k123_36 (t := 43) rfl rfl ?_
    refine g_iconst (v := nn 1) k123_39 ci_1 ?_
    refine g_goto k123_40 (t := 44) rfl ?_
    refine m_putI k123_44 f123_44 rfl rfl rfl ?_
    refine g_iconst (v := nn 0) k123_47 ci_0 ?_
    refine g_istore k123_48 rfl rfl ?_
    refine s_123L hdy 6 0 (by omega) (fun σ3 h1 h2 h3 => ?_)
    refine g_aload_n k123_77 rfl ?_
    refine m_get k123_78 f123_78 rfl rfl ?_
    refine g_bipush (v := nn 6) k123_81 cb_6 ?_
    refine g_aload_n k123_83 rfl ?_
    refine m_get k123_84 f123_84 rfl rfl ?_
    refine m_iast k123_87 rfl rfl (by omega) (by omega) ?_
    refine g_iload_n k123_88 rfl ?_
    refine g_breturn k123_89 t123 (by decide) ?_
    refine kf (up2 σ3 44 6 (σ3 24 32)) d1 p1 ((((dn_up (σ := σ) (k := 0) (v := nn 0) (Or.inl rfl)).tr hs1.dn).tr (dn_up (σ := σ1) (k := 27) (v := nn 1) (Or.inr rfl))).tr (fun a k _ _ _ g4 _ => ?_)) hr ?_ ?_ (fun v hv => ?_) ?_
    · unfold up2
      rw [if_neg g4, h1 a g4]
      rfl
    · show σ3 24 0 = nn 0
      rw [h1 24 (by decide)]
      show σ1 24 0 = nn 0
      rw [hs1 24 0 (by decide) (by decide) (by decide) (Or.inr (by decide))]
      rfl
    · show σ3 24 27 = nn 1
      rw [h1 24 (by decide)]
      rfl
    · have e1 : up2 σ3 44 6 (σ3 24 32) 44 v = σ3 44 v := by
        have c : v ≠ 6 := by omega
        simp [up2, c]
      rw [e1, h2 v hv (by omega)]
      exact hd1 v hv
    · have e1 : up2 σ3 44 6 (σ3 24 32) 44 6 = σ3 24 32 := by simp [up2]
      rw [e1, h1 24 (by decide)]
      exact hp1
end LN
