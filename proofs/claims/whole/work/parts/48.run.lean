/-! The reference: its run. -/
section LR
variable {L : Nat} {xs : Nat → Int32} {Q : am_A → am_H → Prop} {dy : List (Nat × Nat)} {σ σ' : Nat → Nat → Int32} {ρ : Nat → Nat → Option Nat} {τ : Nat → Nat → Int64} {A : TD} {W : RS} {x z w : Int32} {e p : Nat} {r1 r2 : Nat → Int32}
theorem bo_all {v : Nat} (ok : TOK A) (he : e < td_ne A) (h : ag (fun _ => true) r1 r2) (hv : v < 6) : td_bo A e r1 v = td_bo A e r2 v := by
  rcases bo_di (M := fun _ => true) ok he hv (fun _ _ => rfl) h with q | ⟨q1, q2⟩
  · exact q
  · rw [q1, q2]
    exact h v (by omega) rfl
theorem bs_all (ok : TOK A) (he : e < td_ne A) (h : ag (fun _ => true) r1 r2) : td_bs A e r1 = td_bs A e r2 := by
  unfold td_bs
  exact all_congr' 6 0 (fun v _ hv => wn_congr (bo_all ok he h (by omega)))
/-- the state that is -/
def cur (A : TD) (W : RS) (v : Nat) : Nat := if rs_on W = true then rs_r W (rs_k W) v else td_in A v
theorem s_145L (hdy : dy.length < 100000) : ∀ (k j : Nat) {σ : Nat → Nat → Int32} {Q : am_A → am_H → Prop}, j + k = 6 → RepM A σ → RunM W σ → WOK W → (∀ σ', (∀ a, a ≠ 41 → σ' a = σ a) → (∀ v, v < 6 → j ≤ v → σ' 41 v = nn (cur A W v)) → (∀ v, v < j → σ' 41 v = σ 41 v) → Q (.inl none) (mk dy σ' ρ τ)) → go (tb_P L xs) 145 2 [some (.ref 24), some (.int (nn j))] [] (mk dy σ ρ τ) Q := by
  intro k
  induction k with
  | zero =>
    intro j σ Q hj hR hW wo kk
    have hj6 : j = 6 := by omega
    subst hj6
    refine g_iload_n k145_2 rfl ?_
    refine g_bipush (v := nn 6) k145_3 cb_6 ?_
    refine g_icge_t k145_5 (t := 50) rfl (by decide) ?_
    refine g_return k145_50 t145 ?_
    exact kk σ (fun _ _ => rfl) (fun v h1 h2 => by omega) (fun _ _ => rfl)
  | succ k ih =>
    intro j σ Q hj hR hW wo kk
    have h23 := hW.2.1.1
    have nxt : ∀ x, x = nn (cur A W j) → go (tb_P L xs) 145 2 [some (.ref 24), some (.int (nn (j + 1)))] [] (mk dy (up2 σ 41 j x) ρ τ) Q := by
      intro x hx
      subst hx
      refine ih (j + 1) (by omega) (hR.agr (fun a k h => up2_ne (by omega))) (hW.agr (fun a k h => up2_ne (by omega))) wo (fun σ' h1 h2 h3 => kk σ' (fun a ha => ?_) (fun v hv hjv => ?_) (fun v hv => ?_))
      · rw [h1 a ha]
        funext q
        exact up2_ne (Or.inl ha)
      · by_cases c : v = j
        · subst c
          rw [h3 v (by omega), up2_at]
        · exact h2 v hv (by omega)
      · rw [h3 v (by omega)]
        exact up2_ne (by omega)
    by_cases ho : rs_on W = true
    · obtain ⟨g1, g2, g3⟩ := hW.2.1.2 ho
      have h60 := (wo.2 ho).1
      have hrow := g3 (rs_k W) j (Nat.le_refl _) (by omega)
      refine g_iload_n k145_2 rfl ?_
      refine g_bipush (v := nn 6) k145_3 cb_6 ?_
      refine g_icge_f k145_5 (t := 50) rfl (by rw [nn_toInt (by omega), nn_toInt (by omega)]; omega) ?_
      refine g_aload_n k145_8 rfl ?_
      refine m_get k145_9 f145_9 rfl rfl ?_
      refine g_iload_n k145_12 rfl ?_
      refine g_aload_n k145_13 rfl ?_
      refine m_get k145_14 f145_14 rfl rfl ?_
      rw [h23]
      refine g_ifeq_f k145_17 (t := 37) rfl (by rw [bb_t ho]; decide) ?_
      refine g_aload_n k145_20 rfl ?_
      refine m_get k145_21 f145_21 rfl rfl ?_
      refine g_bipush (v := nn 6) k145_24 cb_6 ?_
      refine g_aload_n k145_26 rfl ?_
      refine m_get k145_27 f145_27 rfl rfl ?_
      rw [g2]
      refine g_imulN k145_30 ?_
      refine g_iload_n k145_31 rfl ?_
      refine g_iaddN k145_32 ?_
      refine m_iald k145_33 hdy rfl rfl (by omega) (by omega) ?_
      refine g_goto k145_34 (t := 43) rfl ?_
      refine m_iast k145_43 rfl rfl (by omega) (by omega) ?_
      refine g_iincN k145_44 rfl rfl rfl ?_
      refine g_goto k145_47 (t := 2) rfl ?_
      exact nxt _ (by unfold cur; rw [if_pos ho]; exact hrow)
    · have hrow := (hR.2.2.2.2.2 j (by omega)).2
      refine g_iload_n k145_2 rfl ?_
      refine g_bipush (v := nn 6) k145_3 cb_6 ?_
      refine g_icge_f k145_5 (t := 50) rfl (by rw [nn_toInt (by omega), nn_toInt (by omega)]; omega) ?_
      refine g_aload_n k145_8 rfl ?_
      refine m_get k145_9 f145_9 rfl rfl ?_
      refine g_iload_n k145_12 rfl ?_
      refine g_aload_n k145_13 rfl ?_
      refine m_get k145_14 f145_14 rfl rfl ?_
      rw [h23]
      refine g_ifeq_t k145_17 (t := 37) rfl (bb_f ho) ?_
      refine g_aload_n k145_37 rfl ?_
      refine m_get k145_38 f145_38 rfl rfl ?_
      refine g_iload_n k145_41 rfl ?_
      refine m_iald k145_42 hdy rfl rfl (by omega) (by omega) ?_
      refine m_iast k145_43 rfl rfl (by omega) (by omega) ?_
      refine g_iincN k145_44 rfl rfl rfl ?_
      refine g_goto k145_47 (t := 2) rfl ?_
      exact nxt _ (by unfold cur; rw [if_neg ho]; exact hrow)
theorem s_145 (hdy : dy.length < 100000) (hR : RepM A σ) (hW : RunM W σ) (wo : WOK W) (kk : ∀ σ', rs_S σ σ' → (∀ v, v < 6 → σ' 41 v = nn (cur A W v)) → Q (.inl none) (mk dy σ' ρ τ)) : go (tb_P L xs) 145 0 [some (.ref 24), none] [] (mk dy σ ρ τ) Q := by
  refine g_iconst (v := nn 0) k145_0 ci_0 ?_
  refine g_istore_n k145_1 rfl rfl ?_
  exact s_145L hdy 6 0 (by omega) hR hW wo (fun σ' h1 h2 _ => kk σ' (fun a k g _ _ _ => by rw [h1 a g]) (fun v hv => h2 v hv (by omega)))
/-- a lower event and a parameter of it -/
def lev (A : TD) (x z : Int32) : Prop := (0 ≤ x.toInt ∧ x.toInt < td_ne A) ∧ td_ma A x.toInt.toNat = 1 ∧ 0 ≤ z.toInt ∧ z.toInt < td_rg A x.toInt.toNat
theorem s_144 (hdy : dy.length < 100000) (ok : TOK A) (hR : RepM A σ) (hW : RunM W σ) (k1 : ¬ lev A x z → Q (.inl (some (.int (nn 1)))) (mk dy σ ρ τ)) (k2 : lev A x z → rs_on W = false → Q (.inl (some (.int (nn 2)))) (mk dy σ ρ τ)) (k0 : lev A x z → rs_on W = true → Q (.inl (some (.int (nn 0)))) (mk dy σ ρ τ)) : go (tb_P L xs) 144 0 [some (.ref 24), some (.int x), some (.int z)] [] (mk dy σ ρ τ) Q := by
  have hne := ok.2.2.1
  have h23 := hW.2.1.1
  by_cases hx : 0 ≤ x.toInt ∧ x.toInt < td_ne A
  · obtain ⟨e, rfl, he⟩ := in_nn hx
    have e1 : (nn e).toInt.toNat = e := by rw [nn_toInt (by omega)]; rfl
    unfold lev at k1 k2 k0
    rw [e1] at k1 k2 k0
    have hma := (hR.2.1.2 e he).1
    have hrg := (hR.2.1.2 e he).2.1
    have hm1 := (ok.2.2.2.1 e he).1
    have hr4 := (ok.2.2.2.1 e he).2.1
    refine g_aload_n k144_0 rfl ?_
    refine g_iload_n k144_1 rfl ?_
    refine m_callV1 k144_2 s144_2 c144_2 l115 (by omega) rfl rfl r144_2 rfl ?_
    refine s_115 ok hR ?_
    refine af_ret ?_
    refine g_ifne_f k144_5 (t := 31) rfl (bb_f (fun q => q hx)) ?_
    refine g_aload_n k144_8 rfl ?_
    refine m_get k144_9 f144_9 rfl rfl ?_
    refine g_iload_n k144_12 rfl ?_
    refine m_iald k144_13 hdy rfl rfl (by omega) (by omega) ?_
    rw [hma]
    refine g_ifeqN k144_14 (t := 31) rfl (by omega) (fun h14 => ?_) (fun h14 => ?_)
    · skip
      refine g_iconst (v := nn 1) k144_31 ci_1 ?_
      refine g_goto k144_32 (t := 47) rfl ?_
      refine g_ireturn k144_47 t144 ?_
      first
        | exact k1 (fun q => by obtain ⟨-, q1, q2, q3⟩ := q; omega)
        | exact k0 ⟨hx, by omega, by omega, by omega⟩ h39
        | exact k2 ⟨hx, by omega, by omega, by omega⟩ (by simpa using h39)
    · skip
      refine g_iload_n k144_17 rfl ?_
      refine g_iflt k144_18 (t := 31) rfl (fun h18 => ?_) (fun h18 => ?_)
      · skip
        refine g_iconst (v := nn 1) k144_31 ci_1 ?_
        refine g_goto k144_32 (t := 47) rfl ?_
        refine g_ireturn k144_47 t144 ?_
        first
          | exact k1 (fun q => by obtain ⟨-, q1, q2, q3⟩ := q; omega)
          | exact k0 ⟨hx, by omega, by omega, by omega⟩ h39
          | exact k2 ⟨hx, by omega, by omega, by omega⟩ (by simpa using h39)
      · skip
        refine g_iload_n k144_21 rfl ?_
        refine g_aload_n k144_22 rfl ?_
        refine m_get k144_23 f144_23 rfl rfl ?_
        refine g_iload_n k144_26 rfl ?_
        refine m_iald k144_27 hdy rfl rfl (by omega) (by omega) ?_
        rw [hrg]
        have hrt := nn_toInt (k := td_rg A e) (by omega)
        refine g_iclt k144_28 (t := 35) rfl (fun h28 => ?_) (fun h28 => ?_)
        · skip
          refine g_aload_n k144_35 rfl ?_
          refine m_get k144_36 f144_36 rfl rfl ?_
          rw [h23]
          refine g_ifneB k144_39 (t := 46) rfl (fun h39 => ?_) (fun h39 => ?_)
          · skip
            refine g_iconst (v := nn 0) k144_46 ci_0 ?_
            refine g_ireturn k144_47 t144 ?_
            first
              | exact k1 (fun q => by obtain ⟨-, q1, q2, q3⟩ := q; omega)
              | exact k0 ⟨hx, by omega, by omega, by omega⟩ h39
              | exact k2 ⟨hx, by omega, by omega, by omega⟩ (by simpa using h39)
          · skip
            refine g_iconst (v := nn 2) k144_42 ci_2 ?_
            refine g_goto k144_43 (t := 47) rfl ?_
            refine g_ireturn k144_47 t144 ?_
            first
              | exact k1 (fun q => by obtain ⟨-, q1, q2, q3⟩ := q; omega)
              | exact k0 ⟨hx, by omega, by omega, by omega⟩ h39
              | exact k2 ⟨hx, by omega, by omega, by omega⟩ (by simpa using h39)
        · skip
          refine g_iconst (v := nn 1) k144_31 ci_1 ?_
          refine g_goto k144_32 (t := 47) rfl ?_
          refine g_ireturn k144_47 t144 ?_
          first
            | exact k1 (fun q => by obtain ⟨-, q1, q2, q3⟩ := q; omega)
            | exact k0 ⟨hx, by omega, by omega, by omega⟩ h39
            | exact k2 ⟨hx, by omega, by omega, by omega⟩ (by simpa using h39)
  · refine g_aload_n k144_0 rfl ?_
    refine g_iload_n k144_1 rfl ?_
    refine m_callV1 k144_2 s144_2 c144_2 l115 (by omega) rfl rfl r144_2 rfl ?_
    refine s_115 ok hR ?_
    refine af_ret ?_
    refine g_ifne_t k144_5 (t := 31) rfl (by rw [bb_t hx]; decide) ?_
    refine g_iconst (v := nn 1) k144_31 ci_1 ?_
    refine g_goto k144_32 (t := 47) rfl ?_
    refine g_ireturn k144_47 t144 ?_
    exact k1 (fun q => hx q.1)
/-- the reference's row is that of the state -/
theorem cur_ag (hd : ∀ v, v < 6 → σ 41 v = nn (cur A W v)) : ag (fun _ => true) (rM σ False (nn p)) (rd (cur A W) p) := rd_ag hd
theorem lev_of (ok : TOK A) (h : lev A x z) : ∃ e p, x = nn e ∧ z = nn p ∧ e < td_ne A ∧ p < td_rg A e ∧ td_ma A e = 1 ∧ x.toInt.toNat = e ∧ z.toInt.toNat = p ∧ e < 12 ∧ p < 4 := by
  obtain ⟨hx, hm, hz1, hz2⟩ := h
  have hne := ok.2.2.1
  obtain ⟨e, rfl, he⟩ := in_nn hx
  have e1 : (nn e).toInt.toNat = e := by rw [nn_toInt (by omega)]; rfl
  rw [e1] at hm hz2
  have hr4 := (ok.2.2.2.1 e he).2.1
  obtain ⟨p, rfl, hp⟩ := in_nn ⟨hz1, hz2⟩
  exact ⟨e, p, rfl, rfl, he, hp, hm, e1, by rw [nn_toInt (by omega)]; rfl, by omega, by omega⟩
theorem s_143 (hdy : dy.length < 100000) (ok : TOK A) (hR : RepM A σ) (hW : RunM W σ) (wo : WOK W) (k1 : ¬ lev A x z → ∀ σ', oM A W 1 σ σ' → Q (.inl (some (.int (nn 0)))) (mk dy σ' ρ τ)) (k2 : lev A x z → rs_on W = false → ∀ σ', oM A W 2 σ σ' → Q (.inl (some (.int (nn 0)))) (mk dy σ' ρ τ)) (k0 : lev A x z → rs_on W = true → ∀ σ', oM A W 0 σ σ' → Q (.inl (some (.int (bb ((td_en A x.toInt.toNat (rd (cur A W) z.toInt.toNat) && td_bs A x.toInt.toNat (rd (cur A W) z.toInt.toNat)) = true))))) (mk dy σ' ρ τ)) : go (tb_P L xs) 143 0 [some (.ref 24), some (.int x), some (.int z)] [] (mk dy σ ρ τ) Q := by
  have h0 : ∀ v, up2 σ 24 0 v 24 0 = v := fun v => rfl
  refine g_aload_n k143_0 rfl ?_
  refine g_aload_n k143_1 rfl ?_
  refine g_iload_n k143_2 rfl ?_
  refine g_iload_n k143_3 rfl ?_
  refine m_callV2 k143_4 s143_4 c143_4 l144 (by omega) ⟨rfl, rfl⟩ rfl r143_4 rfl ?_
  refine s_144 hdy ok hR hW (fun hc => ?_) (fun hc ho => ?_) (fun hc ho => ?_)
  · refine af_ret ?_
    refine m_putI k143_7 f143_7 rfl rfl rfl ?_
    refine g_aload_n k143_10 rfl ?_
    refine m_get k143_11 f143_11 rfl rfl ?_
    rw [h0]
    refine g_ifeq_f k143_14 (t := 19) rfl (by decide) ?_
    refine g_iconst (v := nn 0) k143_17 ci_0 ?_
    refine g_breturn k143_18 t143 (by decide) ?_
    exact k1 hc _ (oM_t hR hW)
  · refine af_ret ?_
    refine m_putI k143_7 f143_7 rfl rfl rfl ?_
    refine g_aload_n k143_10 rfl ?_
    refine m_get k143_11 f143_11 rfl rfl ?_
    rw [h0]
    refine g_ifeq_f k143_14 (t := 19) rfl (by decide) ?_
    refine g_iconst (v := nn 0) k143_17 ci_0 ?_
    refine g_breturn k143_18 t143 (by decide) ?_
    exact k2 hc ho _ (oM_t hR hW)
  · refine af_ret ?_
    have hq := k0 hc ho
    obtain ⟨e, p, rfl, rfl, he, hp, hm, e1, e2, he12, hp4⟩ := lev_of ok hc
    rw [e1, e2] at hq
    have hR0 : RepM A (up2 σ 24 0 (nn 0)) := hR.agr (fun a k h => up2_ne (by omega))
    have hW0 : RunM W (up2 σ 24 0 (nn 0)) := hW.agr (fun a k h => up2_ne (by omega))
    have o1 : ∀ σ2, rs_S (up2 σ 24 0 (nn 0)) σ2 → oM A W 0 σ σ2 := fun σ2 h => ⟨((fM.rf σ).up (by omega)).tr h.fM, hR0.agr (rs_agA h), hW0.agr (rs_agW h), by rw [h 24 0 (by decide) (by decide) (by decide) (by decide)]; exact up2_at⟩
    refine m_putI k143_7 f143_7 rfl rfl rfl ?_
    refine g_aload_n k143_10 rfl ?_
    refine m_get k143_11 f143_11 rfl rfl ?_
    rw [h0]
    refine g_ifeq_t k143_14 (t := 19) rfl rfl ?_
    refine g_aload_n k143_19 rfl ?_
    refine m_callV0 k143_20 s143_20 c143_20 l145 (by omega) trivial rfl r143_20 rfl ?_
    refine s_145 hdy hR0 hW0 wo (fun σ1 hs1 hd1 => ?_)
    refine af_void ?_
    refine g_aload_n k143_23 rfl ?_
    refine g_iload_n k143_24 rfl ?_
    refine g_iload_n k143_25 rfl ?_
    refine m_callV2 k143_26 s143_26 c143_26 l132 (by omega) ⟨rfl, rfl⟩ rfl r143_26 rfl ?_
    refine s_132 hdy ok he (hR0.agr (rs_agA hs1)) (fun σ2 hs2 => ?_)
    refine af_ret ?_
    rw [en_ag (M := fun _ => true) ok he (fun _ _ => rfl) (cur_ag hd1)]
    refine g_ifeqB k143_29 (t := 45) rfl (fun h29 => ?_) (fun h29 => ?_)
    · skip
      refine g_iconst (v := nn 0) k143_45 ci_0 ?_
      refine g_breturn k143_46 t143 (by decide) ?_
      first
        | (have hz := (hq _ (o1 _ (hs1.tr (hs2.rs.tr hs3.rs))))
           rw [h29, h38] at hz
           exact hz)
        | (have hz := (hq _ (o1 _ (hs1.tr (hs2.rs.tr hs3.rs))))
           have h38' : td_bs A e (rd (cur A W) p) = false := by simpa using h38
           rw [h38', Bool.and_false] at hz
           exact hz)
        | (have hz := (hq _ (o1 _ (hs1.tr hs2.rs)))
           have h29' : td_en A e (rd (cur A W) p) = false := by simpa using h29
           rw [h29', Bool.false_and] at hz
           exact hz)
    · skip
      refine g_aload_n k143_32 rfl ?_
      refine g_iload_n k143_33 rfl ?_
      refine g_iload_n k143_34 rfl ?_
      refine m_callV2 k143_35 s143_35 c143_35 l138 (by omega) ⟨rfl, rfl⟩ rfl r143_35 rfl ?_
      refine s_138 hdy ok he ((hR0.agr (rs_agA hs1)).agr (rs_agA hs2.rs)) (fun σ3 hs3 hb3 => ?_)
      refine af_ret ?_
      rw [rM_fi hs2, bs_all ok he (cur_ag hd1)]
      refine g_ifeqB k143_38 (t := 45) rfl (fun h38 => ?_) (fun h38 => ?_)
      · skip
        refine g_iconst (v := nn 0) k143_45 ci_0 ?_
        refine g_breturn k143_46 t143 (by decide) ?_
        first
          | (have hz := (hq _ (o1 _ (hs1.tr (hs2.rs.tr hs3.rs))))
             rw [h29, h38] at hz
             exact hz)
          | (have hz := (hq _ (o1 _ (hs1.tr (hs2.rs.tr hs3.rs))))
             have h38' : td_bs A e (rd (cur A W) p) = false := by simpa using h38
             rw [h38', Bool.and_false] at hz
             exact hz)
          | (have hz := (hq _ (o1 _ (hs1.tr hs2.rs)))
             have h29' : td_en A e (rd (cur A W) p) = false := by simpa using h29
             rw [h29', Bool.false_and] at hz
             exact hz)
      · skip
        refine g_iconst (v := nn 1) k143_41 ci_1 ?_
        refine g_goto k143_42 (t := 46) rfl ?_
        refine g_breturn k143_46 t143 (by decide) ?_
        first
          | (have hz := (hq _ (o1 _ (hs1.tr (hs2.rs.tr hs3.rs))))
             rw [h29, h38] at hz
             exact hz)
          | (have hz := (hq _ (o1 _ (hs1.tr (hs2.rs.tr hs3.rs))))
             have h38' : td_bs A e (rd (cur A W) p) = false := by simpa using h38
             rw [h38', Bool.and_false] at hz
             exact hz)
          | (have hz := (hq _ (o1 _ (hs1.tr hs2.rs)))
             have h29' : td_en A e (rd (cur A W) p) = false := by simpa using h29
             rw [h29', Bool.false_and] at hz
             exact hz)
/-- a step of the run -/
def rs_fi (A : TD) (W : RS) (e p : Nat) : RS := (W.1, (true, !td_fo A e (rd (cur A W) p), rs_k W + 1, fun j v => if j = rs_k W + 1 then (td_bo A e (rd (cur A W) p) v).toInt.toNat else rs_r W j v), W.2.2)
def rs_st (A : TD) (W : RS) : RS := (W.1, (true, false, 0, fun _ v => td_in A v), W.2.2)
def rs_bk (W : RS) : RS := (W.1, (true, false, rs_k W - 1, rs_r W), W.2.2)
/-- an event may be done -/
def can (A : TD) (W : RS) (e p : Nat) : Prop := td_en A e (rd (cur A W) p) = true ∧ td_bs A e (rd (cur A W) p) = true ∧ rs_tn W = false ∧ rs_k W ≠ 60
theorem s_146L {b : Int32} {kx : Nat} (hdy : dy.length < 100000) (hk : kx ≤ 60) : ∀ (k j : Nat) {σ : Nat → Nat → Int32} {Q : am_A → am_H → Prop}, j + k = 6 → σ 24 25 = nn kx → (∀ σ', (∀ a, a ≠ 43 → σ' a = σ a) → (∀ v, v < 6 → j ≤ v → σ' 43 (6 * kx + v) = σ 42 v) → (∀ i, i < 6 * kx + j → σ' 43 i = σ 43 i) → go (tb_P L xs) 146 130 [some (.ref 24), some (.int x), some (.int z), some (.int b), some (.int (nn 6))] [] (mk dy σ' ρ τ) Q) → go (tb_P L xs) 146 95 [some (.ref 24), some (.int x), some (.int z), some (.int b), some (.int (nn j))] [] (mk dy σ ρ τ) Q := by
  intro k
  induction k with
  | zero =>
    intro j σ Q hj h25 kk
    have hj6 : j = 6 := by omega
    subst hj6
    refine g_iload k146_95 rfl ?_
    refine g_bipush (v := nn 6) k146_97 cb_6 ?_
    refine g_icge_t k146_99 (t := 130) rfl (by decide) ?_
    exact kk σ (fun _ _ => rfl) (fun v h1 h2 => by omega) (fun _ _ => rfl)
  | succ k ih =>
    intro j σ Q hj h25 kk
    refine g_iload k146_95 rfl ?_
    refine g_bipush (v := nn 6) k146_97 cb_6 ?_
    refine g_icge_f k146_99 (t := 130) rfl (by rw [nn_toInt (by omega), nn_toInt (by omega)]; omega) ?_
    refine g_aload_n k146_102 rfl ?_
    refine m_get k146_103 f146_103 rfl rfl ?_
    refine g_bipush (v := nn 6) k146_106 cb_6 ?_
    refine g_aload_n k146_108 rfl ?_
    refine m_get k146_109 f146_109 rfl rfl ?_
    rw [h25]
    refine g_imulN k146_112 ?_
    refine g_iload k146_113 rfl ?_
    refine g_iaddN k146_115 ?_
    refine g_aload_n k146_116 rfl ?_
    refine m_get k146_117 f146_117 rfl rfl ?_
    refine g_iload k146_120 rfl ?_
    refine m_iald k146_122 hdy rfl rfl (by omega) (by omega) ?_
    refine m_iast k146_123 rfl rfl (by omega) (by omega) ?_
    refine g_iincN k146_124 rfl rfl rfl ?_
    refine g_goto k146_127 (t := 95) rfl ?_
    refine ih (j + 1) (by omega) h25 (fun σ' h1 h2 h3 => kk σ' (fun a ha => ?_) (fun v hv hjv => ?_) (fun i hi => ?_))
    · rw [h1 a ha]
      funext q
      exact up2_ne (Or.inl ha)
    · by_cases c : v = j
      · subst c
        rw [h3 _ (by omega), up2_at]
      · rw [h2 v hv (by omega)]
        exact up2_ne (Or.inl (by decide))
    · rw [h3 i (by omega)]
      exact up2_ne (by omega)
theorem s_146 (hdy : dy.length < 100000) (ok : TOK A) (hR : RepM A σ) (hW : RunM W σ) (wo : WOK W) (k1 : ¬ lev A x z → ∀ σ', oM A W 1 σ σ' → Q (.inl (some (.int (nn 0)))) (mk dy σ' ρ τ)) (k2 : lev A x z → rs_on W = false → ∀ σ', oM A W 2 σ σ' → Q (.inl (some (.int (nn 0)))) (mk dy σ' ρ τ)) (k3 : lev A x z → rs_on W = true → ¬ can A W x.toInt.toNat z.toInt.toNat → ∀ σ', oM A W 3 σ σ' → Q (.inl (some (.int (nn 0)))) (mk dy σ' ρ τ)) (k0 : lev A x z → rs_on W = true → can A W x.toInt.toNat z.toInt.toNat → ∀ σ', oM A (rs_fi A W x.toInt.toNat z.toInt.toNat) 0 σ σ' → Q (.inl (some (.int (nn (rs_k W + 1))))) (mk dy σ' ρ τ)) : go (tb_P L xs) 146 0 [some (.ref 24), some (.int x), some (.int z), none, none] [] (mk dy σ ρ τ) Q := by
  have h0 : ∀ v, up2 σ 24 0 v 24 0 = v := fun v => rfl
  refine g_aload_n k146_0 rfl ?_
  refine g_aload_n k146_1 rfl ?_
  refine g_iload_n k146_2 rfl ?_
  refine g_iload_n k146_3 rfl ?_
  refine m_callV2 k146_4 s146_4 c146_4 l144 (by omega) ⟨rfl, rfl⟩ rfl r146_4 rfl ?_
  refine s_144 hdy ok hR hW (fun hc => ?_) (fun hc ho => ?_) (fun hc ho => ?_)
  · refine af_ret ?_
    refine m_putI k146_7 f146_7 rfl rfl rfl ?_
    refine g_aload_n k146_10 rfl ?_
    refine m_get k146_11 f146_11 rfl rfl ?_
    rw [h0]
    refine g_ifeq_f k146_14 (t := 19) rfl (by decide) ?_
    refine g_iconst (v := nn 0) k146_17 ci_0 ?_
    refine g_ireturn k146_18 t146 ?_
    exact k1 hc _ (oM_t hR hW)
  · refine af_ret ?_
    refine m_putI k146_7 f146_7 rfl rfl rfl ?_
    refine g_aload_n k146_10 rfl ?_
    refine m_get k146_11 f146_11 rfl rfl ?_
    rw [h0]
    refine g_ifeq_f k146_14 (t := 19) rfl (by decide) ?_
    refine g_iconst (v := nn 0) k146_17 ci_0 ?_
    refine g_ireturn k146_18 t146 ?_
    exact k2 hc ho _ (oM_t hR hW)
  · refine af_ret ?_
    have hq3 := k3 hc ho
    have hq0 := k0 hc ho
    obtain ⟨e, p, rfl, rfl, he, hp, hm, e1, e2, he12, hp4⟩ := lev_of ok hc
    rw [e1, e2] at hq3 hq0
    obtain ⟨g1, g2, g3⟩ := hW.2.1.2 ho
    have h60 := (wo.2 ho).1
    have hR0 : RepM A (up2 σ 24 0 (nn 0)) := hR.agr (fun a k h => up2_ne (by omega))
    have hW0 : RunM W (up2 σ 24 0 (nn 0)) := hW.agr (fun a k h => up2_ne (by omega))
    have s0 : rs_S (up2 σ 24 0 (nn 0)) (up2 σ 24 0 (nn 0)) := rs_S.rf _
    have bad : ∀ (b : Bool) σ2, rs_S (up2 σ 24 0 (nn 0)) σ2 → ¬ can A W e p → go (tb_P L xs) 146 70 [some (.ref 24), some (.int (nn e)), some (.int (nn p)), some (.int (bb (b = true))), none] [.int (nn 3), .ref 24] (mk dy σ2 ρ τ) Q := by
      intro b σ2 hs hn
      refine m_putI k146_70 f146_70 rfl rfl rfl ?_
      refine g_aload_n k146_73 rfl ?_
      refine m_get k146_74 f146_74 rfl rfl ?_
      rw [up2_at]
      refine g_ifeq_f k146_77 (t := 82) rfl (by decide) ?_
      refine g_iconst (v := nn 0) k146_80 ci_0 ?_
      refine g_ireturn k146_81 t146 ?_
      exact hq3 hn _ ⟨(((fM.rf σ).up (by omega)).tr hs.fM).up (by omega), (hR0.agr (rs_agA hs)).agr (fun a k h => up2_ne (by omega)), (hW0.agr (rs_agW hs)).agr (fun a k h => up2_ne (by omega)), up2_at⟩
    have good : ∀ σ2, rs_S (up2 σ 24 0 (nn 0)) σ2 → (∀ v, v < 6 → σ2 42 v = td_bo A e (rd (cur A W) p) v) → can A W e p → go (tb_P L xs) 146 70 [some (.ref 24), some (.int (nn e)), some (.int (nn p)), some (.int (bb (td_fo A e (rd (cur A W) p) = true))), none] [.int (nn 0), .ref 24] (mk dy σ2 ρ τ) Q := by
      intro σ2 hs hb hcn
      have hk60 := hcn.2.2.2
      have q25 : σ2 24 25 = nn (rs_k W) := by
        rw [hs 24 25 (by decide) (by decide) (by decide) (by decide)]
        exact g2
      have rng : ∀ v, v < 6 → td_bo A e (rd (cur A W) p) v = nn (td_bo A e (rd (cur A W) p) v).toInt.toNat := by
        intro v hv
        have h1 := hcn.2.1
        unfold td_bs at h1
        rw [List.all_eq_true] at h1
        have h2 := h1 v (List.mem_range'.mpr ⟨v, hv, by omega⟩)
        unfold td_wn at h2
        have h3 := of_decide_eq_true h2
        exact (nn_of h3.1).1
      refine m_putI k146_70 f146_70 rfl rfl rfl ?_
      refine g_aload_n k146_73 rfl ?_
      refine m_get k146_74 f146_74 rfl rfl ?_
      rw [up2_at]
      refine g_ifeq_t k146_77 (t := 82) rfl rfl ?_
      refine g_aload_n k146_82 rfl ?_
      refine g_dup k146_83 rfl ?_
      refine m_get k146_84 f146_84 rfl rfl ?_
      rw [up2_ne (by decide), q25]
      refine g_iconst (v := nn 1) k146_87 ci_1 ?_
      refine g_iaddN k146_88 ?_
      refine m_putI k146_89 f146_89 rfl rfl rfl ?_
      refine g_iconst (v := nn 0) k146_92 ci_0 ?_
      refine g_istore k146_93 rfl rfl ?_
      refine s_146L hdy (kx := rs_k W + 1) (by omega) 6 0 (by omega) up2_at (fun σ3 h1 h2 h3 => ?_)
      refine g_aload_n k146_130 rfl ?_
      refine g_iload_n k146_131 rfl ?_
      refine g_ifneB k146_132 (t := 139) rfl (fun h132 => ?_) (fun h132 => ?_)
      · skip
        refine g_iconst (v := nn 0) k146_139 ci_0 ?_
        refine m_putI k146_140 f146_140 rfl rfl rfl ?_
        refine g_aload_n k146_143 rfl ?_
        refine m_get k146_144 f146_144 rfl rfl ?_
        refine g_ireturn k146_147 t146 ?_
        rw [up2_ne (by omega), h1 24 (by decide), up2_at]
        refine hq0 hcn _ ⟨?_, ?_, ⟨?_, ⟨?_, fun _ => ⟨?_, ?_, fun j v hj hv => ?_⟩⟩, ?_⟩, ?_⟩
        · refine fM.up (fM.tr ((((fM.rf σ).up (by omega)).tr hs.fM).up (a := 24) (k := 0) (v := nn 0) (by omega) |>.up (a := 24) (k := 25) (v := nn (rs_k W + 1)) (by omega)) (fun a ha => h1 a (by omega))) (by omega)
        · refine RepM.agr (hR0.agr (rs_agA hs)) (fun a k h => ?_)
          rw [up2_ne (by omega), h1 a (by omega), up2_ne (by omega), up2_ne (by omega)]
        · refine ⟨?_, fun i hi => ?_⟩
          · rw [up2_ne (by omega), h1 24 (by decide), up2_ne (by omega), up2_ne (by omega)]
            exact (hW0.agr (rs_agW hs)).1.1
          · rw [up2_ne (by omega), h1 27 (by decide), up2_ne (by omega), up2_ne (by omega)]
            exact (hW0.agr (rs_agW hs)).1.2 i hi
        · rw [up2_ne (by omega), h1 24 (by decide), up2_ne (by omega), up2_ne (by omega), (hW0.agr (rs_agW hs)).2.1.1, bb_t ho]
          rfl
        · rw [up2_at]
          first
            | (show nn 0 = bb ((!td_fo A e (rd (cur A W) p)) = true)
               rw [h132]
               rfl)
            | (show nn 1 = bb ((!td_fo A e (rd (cur A W) p)) = true)
               have h132' : td_fo A e (rd (cur A W) p) = false := by simpa using h132
               rw [h132']
               rfl)
        · rw [up2_ne (by omega), h1 24 (by decide), up2_at]
          rfl
        · show _ = nn (if j = rs_k W + 1 then (td_bo A e (rd (cur A W) p) v).toInt.toNat else rs_r W j v)
          rw [up2_ne (by omega)]
          by_cases c : j = rs_k W + 1
          · rw [if_pos c, c, h2 v hv (by omega), up2_ne (by omega), up2_ne (by omega), hb v hv]
            exact rng v hv
          · have hj' : j ≤ rs_k W + 1 := hj
            rw [if_neg c, h3 _ (by omega), up2_ne (by omega), up2_ne (by omega)]
            exact ((hW0.agr (rs_agW hs)).2.1.2 ho).2.2 j v (by omega) hv
        · refine ⟨?_, fun hsw v hv => ?_⟩
          · rw [up2_ne (by omega), h1 24 (by decide), up2_ne (by omega), up2_ne (by omega)]
            exact (hW0.agr (rs_agW hs)).2.2.1
          · rw [up2_ne (by omega), h1 44 (by decide), up2_ne (by omega), up2_ne (by omega)]
            exact (hW0.agr (rs_agW hs)).2.2.2 hsw v hv
        · rw [up2_ne (by omega), h1 24 (by decide), up2_ne (by omega), up2_at]
      · skip
        refine g_iconst (v := nn 1) k146_135 ci_1 ?_
        refine g_goto k146_136 (t := 140) rfl ?_
        refine m_putI k146_140 f146_140 rfl rfl rfl ?_
        refine g_aload_n k146_143 rfl ?_
        refine m_get k146_144 f146_144 rfl rfl ?_
        refine g_ireturn k146_147 t146 ?_
        rw [up2_ne (by omega), h1 24 (by decide), up2_at]
        refine hq0 hcn _ ⟨?_, ?_, ⟨?_, ⟨?_, fun _ => ⟨?_, ?_, fun j v hj hv => ?_⟩⟩, ?_⟩, ?_⟩
        · refine fM.up (fM.tr ((((fM.rf σ).up (by omega)).tr hs.fM).up (a := 24) (k := 0) (v := nn 0) (by omega) |>.up (a := 24) (k := 25) (v := nn (rs_k W + 1)) (by omega)) (fun a ha => h1 a (by omega))) (by omega)
        · refine RepM.agr (hR0.agr (rs_agA hs)) (fun a k h => ?_)
          rw [up2_ne (by omega), h1 a (by omega), up2_ne (by omega), up2_ne (by omega)]
        · refine ⟨?_, fun i hi => ?_⟩
          · rw [up2_ne (by omega), h1 24 (by decide), up2_ne (by omega), up2_ne (by omega)]
            exact (hW0.agr (rs_agW hs)).1.1
          · rw [up2_ne (by omega), h1 27 (by decide), up2_ne (by omega), up2_ne (by omega)]
            exact (hW0.agr (rs_agW hs)).1.2 i hi
        · rw [up2_ne (by omega), h1 24 (by decide), up2_ne (by omega), up2_ne (by omega), (hW0.agr (rs_agW hs)).2.1.1, bb_t ho]
          rfl
        · rw [up2_at]
          first
            | (show nn 0 = bb ((!td_fo A e (rd (cur A W) p)) = true)
               rw [h132]
               rfl)
            | (show nn 1 = bb ((!td_fo A e (rd (cur A W) p)) = true)
               have h132' : td_fo A e (rd (cur A W) p) = false := by simpa using h132
               rw [h132']
               rfl)
        · rw [up2_ne (by omega), h1 24 (by decide), up2_at]
          rfl
        · show _ = nn (if j = rs_k W + 1 then (td_bo A e (rd (cur A W) p) v).toInt.toNat else rs_r W j v)
          rw [up2_ne (by omega)]
          by_cases c : j = rs_k W + 1
          · rw [if_pos c, c, h2 v hv (by omega), up2_ne (by omega), up2_ne (by omega), hb v hv]
            exact rng v hv
          · have hj' : j ≤ rs_k W + 1 := hj
            rw [if_neg c, h3 _ (by omega), up2_ne (by omega), up2_ne (by omega)]
            exact ((hW0.agr (rs_agW hs)).2.1.2 ho).2.2 j v (by omega) hv
        · refine ⟨?_, fun hsw v hv => ?_⟩
          · rw [up2_ne (by omega), h1 24 (by decide), up2_ne (by omega), up2_ne (by omega)]
            exact (hW0.agr (rs_agW hs)).2.2.1
          · rw [up2_ne (by omega), h1 44 (by decide), up2_ne (by omega), up2_ne (by omega)]
            exact (hW0.agr (rs_agW hs)).2.2.2 hsw v hv
        · rw [up2_ne (by omega), h1 24 (by decide), up2_ne (by omega), up2_at]
    refine m_putI k146_7 f146_7 rfl rfl rfl ?_
    refine g_aload_n k146_10 rfl ?_
    refine m_get k146_11 f146_11 rfl rfl ?_
    rw [h0]
    refine g_ifeq_t k146_14 (t := 19) rfl rfl ?_
    refine g_aload_n k146_19 rfl ?_
    refine m_callV0 k146_20 s146_20 c146_20 l145 (by omega) trivial rfl r146_20 rfl ?_
    refine s_145 hdy hR0 hW0 wo (fun σ1 hs1 hd1 => ?_)
    refine af_void ?_
    refine g_aload_n k146_23 rfl ?_
    refine g_iload_n k146_24 rfl ?_
    refine g_iload_n k146_25 rfl ?_
    refine m_callV2 k146_26 s146_26 c146_26 l136 (by omega) ⟨rfl, rfl⟩ rfl r146_26 rfl ?_
    refine s_136 hdy ok he (hR0.agr (rs_agA hs1)) (fun σ2 hs2 => ?_)
    refine af_ret ?_
    rw [fo_ag (M := fun _ => true) ok he (fun _ _ => rfl) (cur_ag hd1)]
    refine g_istore_n k146_29 rfl rfl ?_
    refine g_aload_n k146_30 rfl ?_
    refine g_aload_n k146_31 rfl ?_
    refine g_iload_n k146_32 rfl ?_
    refine g_iload_n k146_33 rfl ?_
    refine m_callV2 k146_34 s146_34 c146_34 l132 (by omega) ⟨rfl, rfl⟩ rfl r146_34 rfl ?_
    refine s_132 hdy ok he ((hR0.agr (rs_agA hs1)).agr (rs_agA hs2.rs)) (fun σ3 hs3 => ?_)
    refine af_ret ?_
    rw [rM_fi hs2, en_ag (M := fun _ => true) ok he (fun _ _ => rfl) (cur_ag hd1)]
    refine g_ifeqB k146_37 (t := 65) rfl (fun h37 => ?_) (fun h37 => ?_)
    · skip
      refine g_iconst (v := nn 3) k146_65 ci_3 ?_
      refine g_goto k146_66 (t := 70) rfl ?_
      first
        | exact bad _ _ hs5 (fun q => q.2.2.2 h62)
        | exact good _ hs5 hb5 ⟨h37, h46, by simpa using h53, h62⟩
        | (refine bad _ _ hs5 (fun q => ?_)
           have := q.2.2.1
           rw [h53] at this
           cases this)
        | exact bad _ _ hs5 (fun q => h46 q.2.1)
        | exact bad _ _ (hs1.tr (hs2.rs.tr hs3.rs)) (fun q => h37 q.1)
    · skip
      refine g_aload_n k146_40 rfl ?_
      refine g_iload_n k146_41 rfl ?_
      refine g_iload_n k146_42 rfl ?_
      refine m_callV2 k146_43 s146_43 c146_43 l138 (by omega) ⟨rfl, rfl⟩ rfl r146_43 rfl ?_
      refine s_138 hdy ok he (((hR0.agr (rs_agA hs1)).agr (rs_agA hs2.rs)).agr (rs_agA hs3.rs)) (fun σ4 hs4 hb4 => ?_)
      refine af_ret ?_
      rw [rM_fi hs3, rM_fi hs2, bs_all ok he (cur_ag hd1)]
      have hb5 : ∀ v, v < 6 → σ4 42 v = td_bo A e (rd (cur A W) p) v := fun v hv => by
        rw [hb4 v hv, rM_fi hs3, rM_fi hs2]
        exact bo_all ok he (cur_ag hd1) hv
      have hs5 : rs_S (up2 σ 24 0 (nn 0)) σ4 := hs1.tr (hs2.rs.tr (hs3.rs.tr hs4.rs))
      have q24 : σ4 24 24 = bb (rs_tn W = true) := by
        rw [hs5 24 24 (by decide) (by decide) (by decide) (by decide)]
        exact g1
      have q25 : σ4 24 25 = nn (rs_k W) := by
        rw [hs5 24 25 (by decide) (by decide) (by decide) (by decide)]
        exact g2
      refine g_ifeqB k146_46 (t := 65) rfl (fun h46 => ?_) (fun h46 => ?_)
      · skip
        refine g_iconst (v := nn 3) k146_65 ci_3 ?_
        refine g_goto k146_66 (t := 70) rfl ?_
        first
          | exact bad _ _ hs5 (fun q => q.2.2.2 h62)
          | exact good _ hs5 hb5 ⟨h37, h46, by simpa using h53, h62⟩
          | (refine bad _ _ hs5 (fun q => ?_)
             have := q.2.2.1
             rw [h53] at this
             cases this)
          | exact bad _ _ hs5 (fun q => h46 q.2.1)
          | exact bad _ _ (hs1.tr (hs2.rs.tr hs3.rs)) (fun q => h37 q.1)
      · skip
        refine g_aload_n k146_49 rfl ?_
        refine m_get k146_50 f146_50 rfl rfl ?_
        rw [q24]
        refine g_ifneB k146_53 (t := 65) rfl (fun h53 => ?_) (fun h53 => ?_)
        · skip
          refine g_iconst (v := nn 3) k146_65 ci_3 ?_
          refine g_goto k146_66 (t := 70) rfl ?_
          first
            | exact bad _ _ hs5 (fun q => q.2.2.2 h62)
            | exact good _ hs5 hb5 ⟨h37, h46, by simpa using h53, h62⟩
            | (refine bad _ _ hs5 (fun q => ?_)
               have := q.2.2.1
               rw [h53] at this
               cases this)
            | exact bad _ _ hs5 (fun q => h46 q.2.1)
            | exact bad _ _ (hs1.tr (hs2.rs.tr hs3.rs)) (fun q => h37 q.1)
        · skip
          refine g_aload_n k146_56 rfl ?_
          refine m_get k146_57 f146_57 rfl rfl ?_
          rw [q25]
          refine g_bipush (v := nn 60) k146_60 cb_60 ?_
          refine g_icneN k146_62 (t := 69) rfl ⟨by omega, by omega⟩ (fun h62 => ?_) (fun h62 => ?_)
          · skip
            refine g_iconst (v := nn 0) k146_69 ci_0 ?_
            first
              | exact bad _ _ hs5 (fun q => q.2.2.2 h62)
              | exact good _ hs5 hb5 ⟨h37, h46, by simpa using h53, h62⟩
              | (refine bad _ _ hs5 (fun q => ?_)
                 have := q.2.2.1
                 rw [h53] at this
                 cases this)
              | exact bad _ _ hs5 (fun q => h46 q.2.1)
              | exact bad _ _ (hs1.tr (hs2.rs.tr hs3.rs)) (fun q => h37 q.1)
          · skip
            refine g_iconst (v := nn 3) k146_65 ci_3 ?_
            refine g_goto k146_66 (t := 70) rfl ?_
            first
              | exact bad _ _ hs5 (fun q => q.2.2.2 h62)
              | exact good _ hs5 hb5 ⟨h37, h46, by simpa using h53, h62⟩
              | (refine bad _ _ hs5 (fun q => ?_)
                 have := q.2.2.1
                 rw [h53] at this
                 cases this)
              | exact bad _ _ hs5 (fun q => h46 q.2.1)
              | exact bad _ _ (hs1.tr (hs2.rs.tr hs3.rs)) (fun q => h37 q.1)
theorem s_142L (hdy : dy.length < 100000) : ∀ (k j : Nat) {σ : Nat → Nat → Int32} {Q : am_A → am_H → Prop}, j + k = 6 → (∀ σ', (∀ a, a ≠ 43 → σ' a = σ a) → (∀ v, v < 6 → j ≤ v → σ' 43 v = σ 26 v) → (∀ i, i < j → σ' 43 i = σ 43 i) → Q (.inl none) (mk dy σ' ρ τ)) → go (tb_P L xs) 142 22 [some (.ref 24), some (.int (nn j))] [] (mk dy σ ρ τ) Q := by
  intro k
  induction k with
  | zero =>
    intro j σ Q hj kk
    have hj6 : j = 6 := by omega
    subst hj6
    refine g_iload_n k142_22 rfl ?_
    refine g_bipush (v := nn 6) k142_23 cb_6 ?_
    refine g_icge_t k142_25 (t := 46) rfl (by decide) ?_
    refine g_return k142_46 t142 ?_
    exact kk σ (fun _ _ => rfl) (fun v h1 h2 => by omega) (fun _ _ => rfl)
  | succ k ih =>
    intro j σ Q hj kk
    refine g_iload_n k142_22 rfl ?_
    refine g_bipush (v := nn 6) k142_23 cb_6 ?_
    refine g_icge_f k142_25 (t := 46) rfl (by rw [nn_toInt (by omega), nn_toInt (by omega)]; omega) ?_
    refine g_aload_n k142_28 rfl ?_
    refine m_get k142_29 f142_29 rfl rfl ?_
    refine g_iload_n k142_32 rfl ?_
    refine g_aload_n k142_33 rfl ?_
    refine m_get k142_34 f142_34 rfl rfl ?_
    refine g_iload_n k142_37 rfl ?_
    refine m_iald k142_38 hdy rfl rfl (by omega) (by omega) ?_
    refine m_iast k142_39 rfl rfl (by omega) (by omega) ?_
    refine g_iincN k142_40 rfl rfl rfl ?_
    refine g_goto k142_43 (t := 22) rfl ?_
    refine ih (j + 1) (by omega) (fun σ' h1 h2 h3 => kk σ' (fun a ha => ?_) (fun v hv hjv => ?_) (fun i hi => ?_))
    · rw [h1 a ha]
      funext q
      exact up2_ne (Or.inl ha)
    · by_cases c : v = j
      · subst c
        rw [h3 _ (by omega), up2_at]
      · rw [h2 v hv (by omega)]
        exact up2_ne (Or.inl (by decide))
    · rw [h3 i (by omega)]
      exact up2_ne (by omega)
theorem s_142 (hdy : dy.length < 100000) (hR : RepM A σ) (hW : RunM W σ) (kk : ∀ σ', oM A (rs_st A W) 0 σ σ' → Q (.inl none) (mk dy σ' ρ τ)) : go (tb_P L xs) 142 0 [some (.ref 24), none] [] (mk dy σ ρ τ) Q := by
  refine g_aload_n k142_0 rfl ?_
  refine g_iconst (v := nn 0) k142_1 ci_0 ?_
  refine m_putI k142_2 f142_2 rfl rfl rfl ?_
  refine g_aload_n k142_5 rfl ?_
  refine g_iconst (v := nn 1) k142_6 ci_1 ?_
  refine m_putI k142_7 f142_7 rfl rfl rfl ?_
  refine g_aload_n k142_10 rfl ?_
  refine g_iconst (v := nn 0) k142_11 ci_0 ?_
  refine m_putI k142_12 f142_12 rfl rfl rfl ?_
  refine g_aload_n k142_15 rfl ?_
  refine g_iconst (v := nn 0) k142_16 ci_0 ?_
  refine m_putI k142_17 f142_17 rfl rfl rfl ?_
  refine g_iconst (v := nn 0) k142_20 ci_0 ?_
  refine g_istore_n k142_21 rfl rfl ?_
  refine s_142L hdy 6 0 (by omega) (fun σ2 h1 h2 _ => kk σ2 ⟨fun a ha => ?_, ?_, ⟨?_, ⟨?_, fun _ => ⟨?_, ?_, fun j v hj hv => ?_⟩⟩, ?_⟩, ?_⟩)
  · rw [h1 a (by omega)]
    exact (((((fM.rf σ).up (by omega)).up (by omega)).up (by omega)).up (by omega)) a ha
  · refine hR.agr (fun a k h => ?_)
    rw [h1 a (by omega), up2_ne (by omega), up2_ne (by omega), up2_ne (by omega), up2_ne (by omega)]
  · refine ⟨?_, fun i hi => ?_⟩
    · rw [h1 24 (by decide)]
      exact hW.1.1
    · rw [h1 27 (by decide)]
      exact hW.1.2 i hi
  · rw [h1 24 (by decide)]
    rfl
  · rw [h1 24 (by decide)]
    rfl
  · rw [h1 24 (by decide)]
    rfl
  · have hj0 : j = 0 := Nat.le_zero.mp hj
    subst hj0
    rw [show 6 * 0 + v = v by omega, h2 v hv (by omega)]
    exact (hR.2.2.2.2.2 v hv).2
  · refine ⟨?_, fun hsw v hv => ?_⟩
    · rw [h1 24 (by decide)]
      exact hW.2.2.1
    · rw [h1 44 (by decide)]
      exact hW.2.2.2 hsw v hv
  · rw [h1 24 (by decide)]
    rfl
theorem s_147 (hdy : dy.length < 100000) (hR : RepM A σ) (hW : RunM W σ) (wo : WOK W) (k1 : ¬ (rs_on W = true ∧ rs_k W ≠ 0) → ∀ σ', oM A W 1 σ σ' → Q (.inl (some (.int (nn 0)))) (mk dy σ' ρ τ)) (k0 : rs_on W = true → rs_k W ≠ 0 → ∀ σ', oM A (rs_bk W) 0 σ σ' → Q (.inl (some (.int (nn (rs_k W - 1))))) (mk dy σ' ρ τ)) : go (tb_P L xs) 147 0 [some (.ref 24)] [] (mk dy σ ρ τ) Q := by
  have h0 : ∀ v, up2 σ 24 0 v 24 0 = v := fun v => rfl
  have h23 := hW.2.1.1
  have bad : ¬ (rs_on W = true ∧ rs_k W ≠ 0) → go (tb_P L xs) 147 20 [some (.ref 24)] [.int (nn 1), .ref 24] (mk dy σ ρ τ) Q := by
    intro hb
    refine m_putI k147_20 f147_20 rfl rfl rfl ?_
    refine g_aload_n k147_23 rfl ?_
    refine m_get k147_24 f147_24 rfl rfl ?_
    rw [h0]
    refine g_ifeq_f k147_27 (t := 32) rfl (by decide) ?_
    refine g_iconst (v := nn 0) k147_30 ci_0 ?_
    refine g_ireturn k147_31 t147 ?_
    exact k1 hb _ (oM_t hR hW)
  by_cases ho : rs_on W = true
  · obtain ⟨g1, g2, g3⟩ := hW.2.1.2 ho
    have h60 := (wo.2 ho).1
    by_cases hk : rs_k W = 0
    · refine g_aload_n k147_0 rfl ?_
      refine g_aload_n k147_1 rfl ?_
      refine m_get k147_2 f147_2 rfl rfl ?_
      rw [h23]
      refine g_ifeq_f k147_5 (t := 15) rfl (by rw [bb_t ho]; decide) ?_
      refine g_aload_n k147_8 rfl ?_
      refine m_get k147_9 f147_9 rfl rfl ?_
      rw [g2]
      refine g_ifne_f k147_12 (t := 19) rfl (by rw [hk]; rfl) ?_
      refine g_iconst (v := nn 1) k147_15 ci_1 ?_
      refine g_goto k147_16 (t := 20) rfl ?_
      exact bad (fun q => q.2 hk)
    · refine g_aload_n k147_0 rfl ?_
      refine g_aload_n k147_1 rfl ?_
      refine m_get k147_2 f147_2 rfl rfl ?_
      rw [h23]
      refine g_ifeq_f k147_5 (t := 15) rfl (by rw [bb_t ho]; decide) ?_
      refine g_aload_n k147_8 rfl ?_
      refine m_get k147_9 f147_9 rfl rfl ?_
      rw [g2]
      refine g_ifne_t k147_12 (t := 19) rfl (by rw [← nn_0, Ne, nn_inj (by omega) (by omega)]; exact hk) ?_
      refine g_iconst (v := nn 0) k147_19 ci_0 ?_
      refine m_putI k147_20 f147_20 rfl rfl rfl ?_
      refine g_aload_n k147_23 rfl ?_
      refine m_get k147_24 f147_24 rfl rfl ?_
      rw [h0]
      refine g_ifeq_t k147_27 (t := 32) rfl rfl ?_
      refine g_aload_n k147_32 rfl ?_
      refine g_dup k147_33 rfl ?_
      refine m_get k147_34 f147_34 rfl rfl ?_
      rw [show up2 σ 24 0 (nn 0) 24 25 = nn (rs_k W) from g2]
      refine g_iconst (v := nn 1) k147_37 ci_1 ?_
      refine g_isubN k147_38 (by omega) ?_
      refine m_putI k147_39 f147_39 rfl rfl rfl ?_
      refine g_aload_n k147_42 rfl ?_
      refine g_iconst (v := nn 0) k147_43 ci_0 ?_
      refine m_putI k147_44 f147_44 rfl rfl rfl ?_
      refine g_aload_n k147_47 rfl ?_
      refine m_get k147_48 f147_48 rfl rfl ?_
      rw [up2_ne (by decide), up2_at]
      refine g_ireturn k147_51 t147 ?_
      refine k0 ho hk _ ⟨(((fM.rf σ).up (by omega)).up (by omega)).up (by omega), hR.agr (fun a k h => by rw [up2_ne (by omega), up2_ne (by omega), up2_ne (by omega)]), ⟨hW.1, ⟨?_, fun _ => ⟨rfl, rfl, fun j v hj hv => ?_⟩⟩, hW.2.2⟩, rfl⟩
      · show σ 24 23 = bb (true = true)
        rw [h23, ho]
      · have hj' : j ≤ rs_k W - 1 := hj
        exact g3 j v (by omega) hv
  · refine g_aload_n k147_0 rfl ?_
    refine g_aload_n k147_1 rfl ?_
    refine m_get k147_2 f147_2 rfl rfl ?_
    rw [h23]
    refine g_ifeq_t k147_5 (t := 15) rfl (bb_f ho) ?_
    refine g_iconst (v := nn 1) k147_15 ci_1 ?_
    refine g_goto k147_16 (t := 20) rfl ?_
    exact bad (fun q => ho q.1)
theorem s_148 (hdy : dy.length < 100000) (hR : RepM A σ) (hW : RunM W σ) (wo : WOK W) (k1 : ¬ (0 ≤ x.toInt ∧ x.toInt < 6) → ∀ σ', oM A W 1 σ σ' → Q (.inl (some (.int (nn 0)))) (mk dy σ' ρ τ)) (k0 : 0 ≤ x.toInt ∧ x.toInt < 6 → ∀ σ', oM A W 0 σ σ' → Q (.inl (some (.int (if rs_on W = true then nn (rs_r W (rs_k W) x.toInt.toNat) else nn 0)))) (mk dy σ' ρ τ)) : go (tb_P L xs) 148 0 [some (.ref 24), some (.int x)] [] (mk dy σ ρ τ) Q := by
  have h0 : ∀ v, up2 σ 24 0 v 24 0 = v := fun v => rfl
  have h23 := hW.2.1.1
  have t5 := ti_5
  by_cases hx : 0 ≤ x.toInt ∧ x.toInt < 6
  · have hq := k0 hx
    obtain ⟨v, rfl, hv⟩ := in_nn (n := 6) hx
    rw [show (nn v).toInt.toNat = v by rw [nn_toInt (by omega)]; rfl] at hq
    by_cases ho : rs_on W = true
    · obtain ⟨g1, g2, g3⟩ := hW.2.1.2 ho
      have h60 := (wo.2 ho).1
      refine g_aload_n k148_0 rfl ?_
      refine g_iload_n k148_1 rfl ?_
      refine g_ifltN (t := 10) k148_2 rfl (by omega) ?_
      refine g_iload_n k148_5 rfl ?_
      refine g_iconst (v := nn 5) k148_6 ci_5 ?_
      refine g_icle_t k148_7 (t := 14) rfl (by rw [nn_toInt (by omega), ti_5]; omega) ?_
      refine g_iconst (v := nn 0) k148_14 ci_0 ?_
      refine m_putI k148_15 f148_15 rfl rfl rfl ?_
      refine g_aload_n k148_18 rfl ?_
      refine m_get k148_19 f148_19 rfl rfl ?_
      rw [h0]
      refine g_ifne_f k148_22 (t := 32) rfl rfl ?_
      refine g_aload_n k148_25 rfl ?_
      refine m_get k148_26 f148_26 rfl rfl ?_
      rw [show up2 σ 24 0 (nn 0) 24 23 = bb (rs_on W = true) from h23]
      refine g_ifne_t k148_29 (t := 36) rfl (by rw [bb_t ho]; decide) ?_
      refine g_aload_n k148_36 rfl ?_
      refine m_get k148_37 f148_37 rfl rfl ?_
      refine g_bipush (v := nn 6) k148_40 cb_6 ?_
      refine g_aload_n k148_42 rfl ?_
      refine m_get k148_43 f148_43 rfl rfl ?_
      rw [show up2 σ 24 0 (nn 0) 24 25 = nn (rs_k W) from g2]
      refine g_imulN k148_46 ?_
      refine g_iload_n k148_47 rfl ?_
      refine g_iaddN k148_48 ?_
      refine m_iald k148_49 hdy rfl rfl (by omega) (by omega) ?_
      rw [show up2 σ 24 0 (nn 0) 43 (6 * rs_k W + v) = nn (rs_r W (rs_k W) v) from g3 (rs_k W) v (Nat.le_refl _) hv]
      refine g_ireturn k148_50 t148 ?_
      have hz := hq _ (oM_t hR hW)
      rw [if_pos ho] at hz
      exact hz
    · refine g_aload_n k148_0 rfl ?_
      refine g_iload_n k148_1 rfl ?_
      refine g_ifltN (t := 10) k148_2 rfl (by omega) ?_
      refine g_iload_n k148_5 rfl ?_
      refine g_iconst (v := nn 5) k148_6 ci_5 ?_
      refine g_icle_t k148_7 (t := 14) rfl (by rw [nn_toInt (by omega), ti_5]; omega) ?_
      refine g_iconst (v := nn 0) k148_14 ci_0 ?_
      refine m_putI k148_15 f148_15 rfl rfl rfl ?_
      refine g_aload_n k148_18 rfl ?_
      refine m_get k148_19 f148_19 rfl rfl ?_
      rw [h0]
      refine g_ifne_f k148_22 (t := 32) rfl rfl ?_
      refine g_aload_n k148_25 rfl ?_
      refine m_get k148_26 f148_26 rfl rfl ?_
      rw [show up2 σ 24 0 (nn 0) 24 23 = bb (rs_on W = true) from h23]
      refine g_ifne_f k148_29 (t := 36) rfl (bb_f ho) ?_
      refine g_iconst (v := nn 0) k148_32 ci_0 ?_
      refine g_goto k148_33 (t := 50) rfl ?_
      refine g_ireturn k148_50 t148 ?_
      have hz := hq _ (oM_t hR hW)
      rw [if_neg ho] at hz
      exact hz
  · refine g_aload_n k148_0 rfl ?_
    refine g_iload_n k148_1 rfl ?_
    refine g_iflt k148_2 (t := 10) rfl (fun h2 => ?_) (fun h2 => ?_)
    · skip
      refine g_iconst (v := nn 1) k148_10 ci_1 ?_
      refine g_goto k148_11 (t := 15) rfl ?_
      refine m_putI k148_15 f148_15 rfl rfl rfl ?_
      refine g_aload_n k148_18 rfl ?_
      refine m_get k148_19 f148_19 rfl rfl ?_
      rw [h0]
      refine g_ifne_t k148_22 (t := 32) rfl (by decide) ?_
      refine g_iconst (v := nn 0) k148_32 ci_0 ?_
      refine g_goto k148_33 (t := 50) rfl ?_
      refine g_ireturn k148_50 t148 ?_
      exact k1 hx _ (oM_t hR hW)
    · skip
      refine g_iload_n k148_5 rfl ?_
      refine g_iconst (v := nn 5) k148_6 ci_5 ?_
      refine g_icle k148_7 (t := 14) rfl (fun h7 => ?_) (fun h7 => ?_)
      · skip
        exfalso
        omega
      · skip
        refine g_iconst (v := nn 1) k148_10 ci_1 ?_
        refine g_goto k148_11 (t := 15) rfl ?_
        refine m_putI k148_15 f148_15 rfl rfl rfl ?_
        refine g_aload_n k148_18 rfl ?_
        refine m_get k148_19 f148_19 rfl rfl ?_
        rw [h0]
        refine g_ifne_t k148_22 (t := 32) rfl (by decide) ?_
        refine g_iconst (v := nn 0) k148_32 ci_0 ?_
        refine g_goto k148_33 (t := 50) rfl ?_
        refine g_ireturn k148_50 t148 ?_
        exact k1 hx _ (oM_t hR hW)
theorem s_149 (hdy : dy.length < 100000) (hR : RepM A σ) (hW : RunM W σ) (kk : ∀ σ', oM A W 0 σ σ' → Q (.inl (some (.int (bb ((rs_on W && rs_tn W) = true))))) (mk dy σ' ρ τ)) : go (tb_P L xs) 149 0 [some (.ref 24)] [] (mk dy σ ρ τ) Q := by
  have h23 := hW.2.1.1
  have hq := kk _ (oM_t (c := 0) hR hW)
  by_cases ho : rs_on W = true
  · obtain ⟨g1, g2, g3⟩ := hW.2.1.2 ho
    rw [ho, Bool.true_and] at hq
    refine g_aload_n k149_0 rfl ?_
    refine g_iconst (v := nn 0) k149_1 ci_0 ?_
    refine m_putI k149_2 f149_2 rfl rfl rfl ?_
    refine g_aload_n k149_5 rfl ?_
    refine m_get k149_6 f149_6 rfl rfl ?_
    rw [show up2 σ 24 0 (nn 0) 24 23 = bb (rs_on W = true) from h23]
    refine g_ifeq_f k149_9 (t := 23) rfl (by rw [bb_t ho]; decide) ?_
    refine g_aload_n k149_12 rfl ?_
    refine m_get k149_13 f149_13 rfl rfl ?_
    rw [show up2 σ 24 0 (nn 0) 24 24 = bb (rs_tn W = true) from g1]
    refine g_ifeqB k149_16 (t := 23) rfl (fun h16 => ?_) (fun h16 => ?_)
    · skip
      refine g_iconst (v := nn 0) k149_23 ci_0 ?_
      refine g_breturn k149_24 t149 (by decide) ?_
      first
        | (rw [bb_t h16] at hq; exact hq)
        | (rw [bb_f h16] at hq; exact hq)
    · skip
      refine g_iconst (v := nn 1) k149_19 ci_1 ?_
      refine g_goto k149_20 (t := 24) rfl ?_
      refine g_breturn k149_24 t149 (by decide) ?_
      first
        | (rw [bb_t h16] at hq; exact hq)
        | (rw [bb_f h16] at hq; exact hq)
  · have ho' : rs_on W = false := by simpa using ho
    rw [ho', Bool.false_and] at hq
    refine g_aload_n k149_0 rfl ?_
    refine g_iconst (v := nn 0) k149_1 ci_0 ?_
    refine m_putI k149_2 f149_2 rfl rfl rfl ?_
    refine g_aload_n k149_5 rfl ?_
    refine m_get k149_6 f149_6 rfl rfl ?_
    rw [show up2 σ 24 0 (nn 0) 24 23 = bb (rs_on W = true) from h23]
    refine g_ifeq_t k149_9 (t := 23) rfl (bb_f ho) ?_
    refine g_iconst (v := nn 0) k149_23 ci_0 ?_
    refine g_breturn k149_24 t149 (by decide) ?_
    exact hq
theorem s_150 (hdy : dy.length < 100000) (ok : TOK A) (hR : RepM A σ) (hW : RunM W σ) (wo : WOK W) (kk : ∀ σ', oM A W 0 σ σ' → Q (.inl (some (.int (bb (td_ri A (rd (cur A W) 0) = true))))) (mk dy σ' ρ τ)) : go (tb_P L xs) 150 0 [some (.ref 24)] [] (mk dy σ ρ τ) Q := by
  have hR0 : RepM A (up2 σ 24 0 (nn 0)) := hR.agr (fun a k h => up2_ne (by omega))
  have hW0 : RunM W (up2 σ 24 0 (nn 0)) := hW.agr (fun a k h => up2_ne (by omega))
  refine g_aload_n k150_0 rfl ?_
  refine g_iconst (v := nn 0) k150_1 ci_0 ?_
  refine m_putI k150_2 f150_2 rfl rfl rfl ?_
  refine g_aload_n k150_5 rfl ?_
  refine m_callV0 k150_6 s150_6 c150_6 l145 (by omega) trivial rfl r150_6 rfl ?_
  refine s_145 hdy hR0 hW0 wo (fun σ1 hs1 hd1 => ?_)
  refine af_void ?_
  refine g_aload_n k150_9 rfl ?_
  refine g_iconst (v := nn 0) k150_10 ci_0 ?_
  refine m_callV1 k150_11 s150_11 c150_11 l126 (by omega) rfl rfl r150_11 rfl ?_
  refine s_126 (lt := False) hdy ok (hR0.agr (rs_agA hs1)) rfl (fun σ2 hs2 => ?_)
  refine af_ret ?_
  rw [rd_ri ok hd1]
  refine g_breturnB k150_14 t150 ?_
  have h := hs1.tr hs2.rs
  exact kk _ ⟨((fM.rf σ).up (by omega)).tr h.fM, hR0.agr (rs_agA h), hW0.agr (rs_agW h), by rw [h 24 0 (by decide) (by decide) (by decide) (by decide)]; exact up2_at⟩
end LR
