/-! The class: its run. -/
section ZE
variable {L : Nat} {xs : Nat → Int32} {Q : am_A → am_H → Prop} {dy dy' : List (Nat × Nat)} {σ σ' : Nat → Nat → Int32} {ρ ρ' : Nat → Nat → Option Nat} {τ τ' : Nat → Nat → Int64} {A : TD} {W : RS} {F E : Nat → Nat} {f e u r ad m kd v s i p : Nat} {x z w a b : Int32}
theorem cpy6 {g1 g2 : Nat → Int32} {sp dq v : Nat} : va_cpy g1 g2 sp dq 6 v = if dq ≤ v ∧ v < dq + 6 then g1 (sp + (v - dq)) else g2 v := rfl
theorem s_34 (hdy : dy.length < 100000) (ok : TOK A) (hS : XS A W F E dy σ ρ τ) (kk : ∀ σ', oX A (rs_st A W) F E σ τ dy σ' ρ τ → Q (.inl none) (mk dy σ' ρ τ)) : go (tb_P L xs) 34 0 [some (.ref 21)] [] (mk dy σ ρ τ) Q := by
  refine g_aload_n k34_0 rfl ?_
  refine m_callV0 k34_1 s34_1 c34_1 l35 (by omega) trivial rfl r34_1 rfl ?_
  refine s_35 ?_
  refine af_void ?_
  refine g_aload_n k34_4 rfl ?_
  refine g_iconst (v := nn 1) k34_5 ci_1 ?_
  refine m_putI k34_6 f34_6 rfl rfl rfl ?_
  refine g_aload_n k34_9 rfl ?_
  refine m_get k34_10 f34_10 rfl rfl ?_
  refine m_get k34_13 f34_13 rfl rfl ?_
  refine g_iconst (v := nn 0) k34_16 ci_0 ?_
  refine g_aload_n k34_17 rfl ?_
  refine m_get k34_18 f34_18 rfl rfl ?_
  refine g_iconst (v := nn 0) k34_21 ci_0 ?_
  refine g_bipush (v := nn 6) k34_22 cb_6 ?_
  refine m_copy k34_24 s34_24 rfl rfl rfl rfl rfl (by omega) r34_24 ?_
  refine g_return k34_27 t34 ?_
  refine kk _ ⟨⟨hS.1.agr ok ⟨fun a k h => ?_, fun a k s h1 _ _ => ?_⟩, hS.2.1, ⟨hS.2.2.1, ⟨rfl, rfl, rfl, ?_, fun _ => ⟨fun v hv => ?_, fun j v hj => ?_⟩⟩, hS.2.2.2.2⟩⟩, (((((fX.rf σ).up (by omega)).up (by omega)).up (by omega)).up (by omega)).ur (by omega), tE.rf τ⟩
  · rw [upr_ne (by omega), up2_ne (by omega), up2_ne (by omega), up2_ne (by omega), up2_ne (by omega)]
  · rw [upr_ne (by omega), up2_ne (by omega), up2_ne (by omega), up2_ne (by omega), up2_ne (by omega)]
  · rw [upr_at, cpy6, if_neg (by omega)]
    exact hS.2.2.2.1.2.2.2.1
  · rw [upr_at, cpy6, if_pos (by omega), show 0 + (v - 0) = v by omega]
    exact (hS.1.2.2.2.2.1 v hv).2
  · have hj : j < 0 := hj
    omega
theorem s_33 (hdy : dy.length < 100000) (ok : TOK A) (hS : XS A W F E dy σ ρ τ) (kk : ∀ σ', oX A (rs_st A W) F E σ τ dy σ' ρ τ → Q (.inl none) (mk dy σ' ρ τ)) : go (tb_P L xs) 33 0 [some (.ref 0)] [] (mk dy σ ρ τ) Q := by
  refine g_aload_n k33_0 rfl ?_
  refine m_get k33_1 f33_1 rfl rfl ?_
  refine m_callV0 k33_4 s33_4 c33_4 l34 (by omega) trivial rfl r33_4 rfl ?_
  refine s_34 hdy ok hS (fun σ' h => ?_)
  refine af_void ?_
  refine g_return k33_7 t33 ?_
  exact kk σ' h
theorem s_36 (hS : XS A W F E dy σ ρ τ) (kk : Q (.inl (some (.int (bb ((rs_on W && rs_tn W) = true))))) (mk dy σ ρ τ)) : go (tb_P L xs) 36 0 [some (.ref 0)] [] (mk dy σ ρ τ) Q := by
  have h5 := hS.2.2.2.1.2.1
  refine g_aload_n k36_0 rfl ?_
  refine m_get k36_1 f36_1 rfl rfl ?_
  refine m_get k36_4 f36_4 rfl rfl ?_
  rw [h5]
  refine g_breturnB k36_7 t36 ?_
  exact kk
theorem RunX.row (wo : WOK W) (h : RunX W σ) (ho : rs_on W = true) : rX σ 22 (cur A W) := by
  refine ⟨fun v hv => ?_, h.2.1.2.2.2.1⟩
  unfold cur
  rw [if_pos ho]
  exact ⟨(h.2.1.2.2.2.2 ho).1 v hv, (wo.2 ho).2 _ v (Nat.le_refl _) hv⟩
theorem s_37 (hdy : dy.length < 100000) (ok : TOK A) (wo : WOK W) (hS : XS A W F E dy σ ρ τ) (kk : ∀ σ' τ', oX A W F E σ τ dy σ' ρ τ' → Q (.inl (some (.int (bb (td_ri A (rd (cur A W) 0) = true))))) (mk dy σ' ρ τ')) : go (tb_P L xs) 37 0 [some (.ref 0)] [] (mk dy σ ρ τ) Q := by
  have h4 := hS.2.2.2.1.1
  by_cases ho : rs_on W = true
  · refine g_aload_n k37_0 rfl ?_
    refine m_get k37_1 f37_1 rfl rfl ?_
    refine m_get k37_4 f37_4 rfl rfl ?_
    refine g_iconst (v := nn 1) k37_7 ci_1 ?_
    refine g_aload_n k37_8 rfl ?_
    refine m_get k37_9 f37_9 rfl rfl ?_
    refine m_get k37_12 f37_12 rfl rfl ?_
    rw [h4]
    refine g_ifeq_f k37_15 (t := 28) rfl (by rw [bb_t ho]; decide) ?_
    refine g_aload_n k37_18 rfl ?_
    refine m_get k37_19 f37_19 rfl rfl ?_
    refine m_get k37_22 f37_22 rfl rfl ?_
    refine g_goto k37_25 (t := 35) rfl ?_
    refine m_callV2 k37_35 s37_35 c37_35 l9 (by omega) ⟨rfl, rfl⟩ rfl r37_35 rfl ?_
    refine s_9 (m := 1) hdy ok hS.1 hS.2.1 (by omega) (by omega) rfl (hS.2.2.row (A := A) wo ho) (fun σ1 τ1 hs1 ht1 hC1 => ?_)
    refine af_ret ?_
    refine g_breturnB k37_38 t37 ?_
    exact kk σ1 τ1 (hS.dn ok hs1.fD ht1 hC1)
  · have hr : rX σ 9 (cur A W) := by
      refine ⟨fun v hv => ?_, by rw [hS.1.2.2.2.2.2]; exact nf_nn (by omega)⟩
      unfold cur
      rw [if_neg ho]
      have h5 := ok.2.2.2.2.2.2.2 v hv
      exact ⟨(hS.1.2.2.2.2.1 v hv).2, by omega⟩
    refine g_aload_n k37_0 rfl ?_
    refine m_get k37_1 f37_1 rfl rfl ?_
    refine m_get k37_4 f37_4 rfl rfl ?_
    refine g_iconst (v := nn 1) k37_7 ci_1 ?_
    refine g_aload_n k37_8 rfl ?_
    refine m_get k37_9 f37_9 rfl rfl ?_
    refine m_get k37_12 f37_12 rfl rfl ?_
    rw [h4]
    refine g_ifeq_t k37_15 (t := 28) rfl (bb_f ho) ?_
    refine g_aload_n k37_28 rfl ?_
    refine m_get k37_29 f37_29 rfl rfl ?_
    refine m_get k37_32 f37_32 rfl rfl ?_
    refine m_callV2 k37_35 s37_35 c37_35 l9 (by omega) ⟨rfl, rfl⟩ rfl r37_35 rfl ?_
    refine s_9 (m := 1) hdy ok hS.1 hS.2.1 (by omega) (by omega) rfl hr (fun σ1 τ1 hs1 ht1 hC1 => ?_)
    refine af_ret ?_
    refine g_breturnB k37_38 t37 ?_
    exact kk σ1 τ1 (hS.dn ok hs1.fD ht1 hC1)
theorem s_103 (hdy : dy.length < 100000) (ok : TOK A) (hS : XS A W F E dy σ ρ τ) (k1 : ¬ (0 ≤ x.toInt ∧ x.toInt < 6) → oX A W F E σ τ (dy ++ [(14, 0)]) σ ρ τ → Q (.inr 9) (mk (dy ++ [(14, 0)]) σ ρ τ)) (k0 : 0 ≤ x.toInt ∧ x.toInt < 6 → Q (.inl (some (.int (if rs_on W = true then nn (rs_r W (rs_k W) x.toInt.toNat) else nn 0)))) (mk dy σ ρ τ)) : go (tb_P L xs) 103 0 [some (.ref 0), some (.int x)] [] (mk dy σ ρ τ) Q := by
  have h4 := hS.2.2.2.1.1
  by_cases hx : 0 ≤ x.toInt ∧ x.toInt < 6
  · have hq := k0 hx
    obtain ⟨v, rfl, hv⟩ := in_nn (n := 6) hx
    rw [show (nn v).toInt.toNat = v by rw [nn_toInt (by omega)]; rfl] at hq
    by_cases ho : rs_on W = true
    · have g := (hS.2.2.2.1.2.2.2.2 ho).1 v hv
      refine g_iload_n k103_0 rfl ?_
      refine g_callS1 k103_1 s103_1 c103_1 l40 (by omega) rfl rfl r103_1 ?_
      refine s_40 ?_
      refine af_ret ?_
      rw [bb_t hx]
      refine g_callS1 k103_4 s103_4 c103_4 l69 (by omega) rfl rfl r103_4 ?_
      refine s_69a ?_
      refine af_void ?_
      refine g_aload_n k103_7 rfl ?_
      refine m_get k103_8 f103_8 rfl rfl ?_
      refine m_get k103_11 f103_11 rfl rfl ?_
      rw [h4]
      refine g_ifeq_f k103_14 (t := 29) rfl (by rw [bb_t ho]; decide) ?_
      refine g_aload_n k103_17 rfl ?_
      refine m_get k103_18 f103_18 rfl rfl ?_
      refine m_get k103_21 f103_21 rfl rfl ?_
      refine g_iload_n k103_24 rfl ?_
      refine m_iald k103_25 hdy rfl rfl (by omega) (by omega) ?_
      rw [g]
      refine g_goto k103_26 (t := 30) rfl ?_
      refine g_ireturn k103_30 t103 ?_
      rw [if_pos ho] at hq
      exact hq
    · refine g_iload_n k103_0 rfl ?_
      refine g_callS1 k103_1 s103_1 c103_1 l40 (by omega) rfl rfl r103_1 ?_
      refine s_40 ?_
      refine af_ret ?_
      rw [bb_t hx]
      refine g_callS1 k103_4 s103_4 c103_4 l69 (by omega) rfl rfl r103_4 ?_
      refine s_69a ?_
      refine af_void ?_
      refine g_aload_n k103_7 rfl ?_
      refine m_get k103_8 f103_8 rfl rfl ?_
      refine m_get k103_11 f103_11 rfl rfl ?_
      rw [h4]
      refine g_ifeq_t k103_14 (t := 29) rfl (bb_f ho) ?_
      refine g_iconst (v := nn 0) k103_29 ci_0 ?_
      refine g_ireturn k103_30 t103 ?_
      rw [if_neg ho] at hq
      exact hq
  · refine g_iload_n k103_0 rfl ?_
    refine g_callS1 k103_1 s103_1 c103_1 l40 (by omega) rfl rfl r103_1 ?_
    refine s_40 ?_
    refine af_ret ?_
    rw [bb_f hx]
    refine g_callS1 k103_4 s103_4 c103_4 l69 (by omega) rfl rfl r103_4 ?_
    refine s_69b ?_
    refine af_thr (o103 _) ?_
    exact k1 hx (hS.thr ok)
theorem s_101 (hdy : dy.length < 100000) (ok : TOK A) (wo : WOK W) (hS : XS A W F E dy σ ρ τ) (ho : rs_on W = true) (hk : rs_k W ≠ 0) (kk : ∀ σ', oX A (rs_bk W) F E σ τ dy σ' ρ τ → Q (.inl (some (.int (nn (rs_k W - 1))))) (mk dy σ' ρ τ)) : go (tb_P L xs) 101 0 [some (.ref 21)] [] (mk dy σ ρ τ) Q := by
  have h3 := hS.2.2.2.1.2.2.1
  rw [if_pos ho] at h3
  have h60 := (wo.2 ho).1
  have hp := (hS.2.2.2.1.2.2.2.2 ho).2
  refine g_aload_n k101_0 rfl ?_
  refine g_dup k101_1 rfl ?_
  refine m_get k101_2 f101_2 rfl rfl ?_
  rw [h3]
  refine g_iconst (v := nn 1) k101_5 ci_1 ?_
  refine g_isubN k101_6 (by omega) ?_
  refine m_putI k101_7 f101_7 rfl rfl rfl ?_
  refine g_aload_n k101_10 rfl ?_
  refine m_get k101_11 f101_11 rfl rfl ?_
  refine g_aload_n k101_14 rfl ?_
  refine m_get k101_15 f101_15 rfl rfl ?_
  rw [up2_at]
  refine g_bipush (v := nn 6) k101_18 cb_6 ?_
  refine g_imulN k101_20 ?_
  refine g_aload_n k101_21 rfl ?_
  refine m_get k101_22 f101_22 rfl rfl ?_
  refine g_iconst (v := nn 0) k101_25 ci_0 ?_
  refine g_bipush (v := nn 6) k101_26 cb_6 ?_
  refine m_copy k101_28 s101_28 rfl rfl rfl rfl rfl (by omega) r101_28 ?_
  refine g_aload_n k101_31 rfl ?_
  refine g_iconst (v := nn 0) k101_32 ci_0 ?_
  refine m_putI k101_33 f101_33 rfl rfl rfl ?_
  refine g_aload_n k101_36 rfl ?_
  refine m_get k101_37 f101_37 rfl rfl ?_
  rw [up2_ne (by omega), upr_ne (by omega), up2_at]
  refine g_ireturn k101_40 t101 ?_
  refine kk _ ⟨⟨hS.1.agr ok ⟨fun a k h => ?_, fun a k s h1 _ _ => ?_⟩, hS.2.1, ⟨hS.2.2.1, ⟨?_, rfl, ?_, ?_, fun _ => ⟨fun v hv => ?_, fun j v hj hv => ?_⟩⟩, hS.2.2.2.2⟩⟩, (((fX.rf σ).up (by omega)).ur (by omega)).up (by omega), tE.rf τ⟩
  · rw [up2_ne (by omega), upr_ne (by omega), up2_ne (by omega)]
  · rw [up2_ne (by omega), upr_ne (by omega), up2_ne (by omega)]
  · rw [up2_ne (by omega), upr_ne (by omega), up2_ne (by omega), hS.2.2.2.1.1, bb_t ho]
    rfl
  · rw [up2_ne (by omega), upr_ne (by omega), up2_at]
    rfl
  · rw [up2_ne (by omega), upr_at, cpy6, if_neg (by omega)]
    exact hS.2.2.2.1.2.2.2.1
  · show _ = nn (rs_r W (rs_k W - 1) v)
    rw [up2_ne (by omega), upr_at, cpy6, if_pos (by omega), up2_ne (by omega)]
    rw [show (rs_k W - 1) * 6 + (v - 0) = 6 * (rs_k W - 1) + v by omega]
    exact hp (rs_k W - 1) v (by omega) hv
  · have hj : j < rs_k W - 1 := hj
    rw [up2_ne (by omega), upr_ne (by omega), up2_ne (by omega)]
    exact hp j v (by omega) hv
theorem s_100 (hdy : dy.length < 100000) (ok : TOK A) (wo : WOK W) (hS : XS A W F E dy σ ρ τ) (k1 : ¬ (rs_on W = true ∧ rs_k W ≠ 0) → oX A W F E σ τ (dy ++ [(15, 0)]) σ ρ τ → Q (.inr 10) (mk (dy ++ [(15, 0)]) σ ρ τ)) (k0 : rs_on W = true → rs_k W ≠ 0 → ∀ σ', oX A (rs_bk W) F E σ τ dy σ' ρ τ → Q (.inl (some (.int (nn (rs_k W - 1))))) (mk dy σ' ρ τ)) : go (tb_P L xs) 100 0 [some (.ref 0)] [] (mk dy σ ρ τ) Q := by
  have h3 := hS.2.2.2.1.2.2.1
  by_cases ho : rs_on W = true
  · rw [if_pos ho] at h3
    have h60 := (wo.2 ho).1
    by_cases hk : rs_k W = 0
    · refine g_aload_n k100_0 rfl ?_
      refine m_get k100_1 f100_1 rfl rfl ?_
      refine m_get k100_4 f100_4 rfl rfl ?_
      rw [h3]
      refine g_ifne_f k100_7 (t := 18) rfl (by rw [hk]; rfl) ?_
      refine m_throw k100_10 n100_10 k100_13 k100_14 k100_17 x100_10 (by omega) r100_10 (o100 _) ?_
      exact k1 (fun q => q.2 hk) (hS.thr ok)
    · refine g_aload_n k100_0 rfl ?_
      refine m_get k100_1 f100_1 rfl rfl ?_
      refine m_get k100_4 f100_4 rfl rfl ?_
      rw [h3]
      refine g_ifne_t k100_7 (t := 18) rfl (by rw [← nn_0, Ne, nn_inj (by omega) (by omega)]; exact hk) ?_
      refine g_aload_n k100_18 rfl ?_
      refine m_get k100_19 f100_19 rfl rfl ?_
      refine m_callV0 k100_22 s100_22 c100_22 l101 (by omega) trivial rfl r100_22 rfl ?_
      refine s_101 hdy ok wo hS ho hk (fun σ' h => ?_)
      refine af_ret ?_
      refine g_ireturn k100_25 t100 ?_
      exact k0 ho hk σ' h
  · rw [if_neg ho] at h3
    refine g_aload_n k100_0 rfl ?_
    refine m_get k100_1 f100_1 rfl rfl ?_
    refine m_get k100_4 f100_4 rfl rfl ?_
    rw [h3]
    refine g_ifne_f k100_7 (t := 18) rfl rfl ?_
    refine m_throw k100_10 n100_10 k100_13 k100_14 k100_17 x100_10 (by omega) r100_10 (o100 _) ?_
    exact k1 (fun q => ho q.1) (hS.thr ok)
theorem s_94a (hdy : dy.length < 100000) (ok : TOK A) (hX : RepX A F E dy σ ρ) (he : e < td_ne A) (hm : td_ma A e = 1) (hp : p < td_rg A e) (kk : Q (.inl (some (.ref (E e)))) (mk dy σ ρ τ)) : go (tb_P L xs) 94 0 [some (.ref 0), some (.int (nn e)), some (.int (nn p)), none] [] (mk dy σ ρ τ) Q := by
  obtain ⟨⟨h47, hA8, hA3⟩, hma, hrg, _⟩ := (hX.2.1.2.1 e he).2
  have hr4 := (ok.2.2.2.1 e he).2.1
  have hm1 := (ok.2.2.2.1 e he).1
  refine g_aload_n k94_0 rfl ?_
  refine g_iload_n k94_1 rfl ?_
  refine m_callV1 k94_2 s94_2 c94_2 l67 (by omega) rfl rfl r94_2 rfl ?_
  refine s_67a hdy ok hX he ?_
  refine af_ret ?_
  refine g_astore_n k94_5 rfl rfl ?_
  refine g_aload_n k94_6 rfl ?_
  refine m_get k94_7 f94_7 (by assumption) rfl ?_
  rw [hma]
  refine g_iconst (v := nn 1) k94_10 ci_1 ?_
  refine g_icne_f k94_11 (t := 29) rfl (by rw [hm]) ?_
  refine g_iload_n k94_14 rfl ?_
  refine g_aload_n k94_15 rfl ?_
  refine m_get k94_16 f94_16 (by assumption) rfl ?_
  rw [hrg]
  refine g_callS2 k94_19 s94_19 c94_19 l26 (by omega) ⟨rfl, rfl⟩ rfl r94_19 ?_
  refine s_26 ?_
  refine af_ret ?_
  refine g_ifeq_f k94_22 (t := 29) rfl (by rw [bb_t (by rw [nn_toInt (by omega), nn_toInt (by omega)]; omega)]; decide) ?_
  refine g_iconst (v := nn 1) k94_25 ci_1 ?_
  refine g_goto k94_26 (t := 30) rfl ?_
  refine g_callS1 k94_30 s94_30 c94_30 l69 (by omega) rfl rfl r94_30 ?_
  refine s_69a ?_
  refine af_void ?_
  refine g_aload_n k94_33 rfl ?_
  refine g_areturn k94_34 (by rw [t94]; rfl) ?_
  exact kk
theorem s_94b (hdy : dy.length < 100000) (ok : TOK A) (hX : RepX A F E dy σ ρ) (hx : ¬ lev A x z) (kk : Q (.inr 9) (mk (dy ++ [(14, 0)]) σ ρ τ)) : go (tb_P L xs) 94 0 [some (.ref 0), some (.int x), some (.int z), none] [] (mk dy σ ρ τ) Q := by
  have hne := ok.2.2.1
  by_cases hr : 0 ≤ x.toInt ∧ x.toInt < td_ne A
  · obtain ⟨e, rfl, he⟩ := in_nn hr
    have e1 : (nn e).toInt.toNat = e := by rw [nn_toInt (by omega)]; rfl
    unfold lev at hx
    rw [e1] at hx
    obtain ⟨⟨h47, hA8, hA3⟩, hma, hrg, _⟩ := (hX.2.1.2.1 e he).2
    have hr4 := (ok.2.2.2.1 e he).2.1
    have hm1 := (ok.2.2.2.1 e he).1
    by_cases hm : td_ma A e = 1
    · refine g_aload_n k94_0 rfl ?_
      refine g_iload_n k94_1 rfl ?_
      refine m_callV1 k94_2 s94_2 c94_2 l67 (by omega) rfl rfl r94_2 rfl ?_
      refine s_67a hdy ok hX he ?_
      refine af_ret ?_
      refine g_astore_n k94_5 rfl rfl ?_
      refine g_aload_n k94_6 rfl ?_
      refine m_get k94_7 f94_7 (by assumption) rfl ?_
      rw [hma]
      refine g_iconst (v := nn 1) k94_10 ci_1 ?_
      refine g_icne_f k94_11 (t := 29) rfl (by rw [hm]) ?_
      refine g_iload_n k94_14 rfl ?_
      refine g_aload_n k94_15 rfl ?_
      refine m_get k94_16 f94_16 (by assumption) rfl ?_
      rw [hrg]
      refine g_callS2 k94_19 s94_19 c94_19 l26 (by omega) ⟨rfl, rfl⟩ rfl r94_19 ?_
      refine s_26 ?_
      refine af_ret ?_
      refine g_ifeq_t k94_22 (t := 29) rfl (bb_f (by rw [nn_toInt (by omega)]; exact fun q => hx ⟨hr, hm, q⟩)) ?_
      refine g_iconst (v := nn 0) k94_29 ci_0 ?_
      refine g_callS1 k94_30 s94_30 c94_30 l69 (by omega) rfl rfl r94_30 ?_
      refine s_69b ?_
      refine af_thr (o94 _) ?_
      exact kk
    · refine g_aload_n k94_0 rfl ?_
      refine g_iload_n k94_1 rfl ?_
      refine m_callV1 k94_2 s94_2 c94_2 l67 (by omega) rfl rfl r94_2 rfl ?_
      refine s_67a hdy ok hX he ?_
      refine af_ret ?_
      refine g_astore_n k94_5 rfl rfl ?_
      refine g_aload_n k94_6 rfl ?_
      refine m_get k94_7 f94_7 (by assumption) rfl ?_
      rw [hma]
      refine g_iconst (v := nn 1) k94_10 ci_1 ?_
      refine g_icne_t k94_11 (t := 29) rfl (by rw [Ne, nn_inj (by omega) (by omega)]; exact hm) ?_
      refine g_iconst (v := nn 0) k94_29 ci_0 ?_
      refine g_callS1 k94_30 s94_30 c94_30 l69 (by omega) rfl rfl r94_30 ?_
      refine s_69b ?_
      refine af_thr (o94 _) ?_
      exact kk
  · refine g_aload_n k94_0 rfl ?_
    refine g_iload_n k94_1 rfl ?_
    refine m_callV1 k94_2 s94_2 c94_2 l67 (by omega) rfl rfl r94_2 rfl ?_
    refine s_67b hdy ok hX hr ?_
    refine af_thr (o94 _) ?_
    exact kk
/-- the run's row is that of the state -/
theorem row_p (wo : WOK W) (hS : XS A W F E dy σ ρ τ) (ho : rs_on W = true) (hp : p < 4) : rX (up2 σ 22 6 (nn p)) 22 (cur A W) ∧ ag (fun _ => true) (up2 σ 22 6 (nn p) 22) (rd (cur A W) p) := by
  have hr := hS.2.2.row (A := A) wo ho
  refine ⟨⟨fun v hv => by rw [up2_ne (by omega)]; exact hr.1 v hv, by rw [up2_at]; exact nf_nn (by omega)⟩, fun v hv _ => ?_⟩
  rw [up2_of]
  unfold rd
  by_cases c : v = 6
  · rw [if_pos c, if_pos c]
  · rw [if_neg c, if_neg c]
    exact (hr.1 v (by omega)).1
/-- the state is in the sizes -/
def inS (A : TD) (W : RS) : Prop := rs_on W = true → ∀ v, v < 6 → rs_r W (rs_k W) v < td_sz A v
theorem XS.p6 (ok : TOK A) (hS : XS A W F E dy σ ρ τ) (hp : p < 4) : XS A W F E dy (up2 σ 22 6 (nn p)) ρ τ := by
  refine ⟨hS.1.agr ok ⟨fun a k h => up2_ne (by omega), fun a k s h1 _ _ => up2_ne (by omega)⟩, hS.2.1, ⟨hS.2.2.1, ⟨hS.2.2.2.1.1, hS.2.2.2.1.2.1, hS.2.2.2.1.2.2.1, by rw [up2_at]; exact nf_nn (by omega), fun ho => ⟨fun v hv => by rw [up2_ne (by omega)]; exact (hS.2.2.2.1.2.2.2.2 ho).1 v hv, (hS.2.2.2.1.2.2.2.2 ho).2⟩⟩, hS.2.2.2.2⟩⟩
theorem fL.tr_p (h : fL dy (up2 σ 22 6 (nn p)) σ') : fX σ σ' := ((fX.rf σ).up (a := 22) (k := 6) (v := nn p) (by omega)).tr h.fD.fX
theorem s_95 (hdy : dy.length < 100000) (ok : TOK A) (wo : WOK W) (hS : XS A W F E dy σ ρ τ) (ho : rs_on W = true) (hin : ∀ v, v < 6 → cur A W v < td_sz A v) (he : e < td_ne A) (hp : p < 4) (kk : ∀ σ', fL dy (up2 σ 22 6 (nn p)) σ' → Q (.inl (some (.int (bb ((td_en A e (rd (cur A W) p) && td_bs A e (rd (cur A W) p)) = true))))) (mk dy σ' ρ τ)) : go (tb_P L xs) 95 0 [some (.ref 21), some (.ref (E e)), some (.int (nn p))] [] (mk dy σ ρ τ) Q := by
  obtain ⟨⟨h47, hA8, hA3⟩, _⟩ := (hS.1.2.1.2.1 e he).2
  obtain ⟨hrX, hag⟩ := row_p wo hS ho hp
  have hS1 := hS.p6 (p := p) ok hp
  have hir := hrX.ir ok hin
  have een := en_ag (M := fun _ => true) ok he (fun _ _ => rfl) hag
  have ebs := bs_all ok he hag
  refine g_aload_n k95_0 rfl ?_
  refine m_get k95_1 f95_1 rfl rfl ?_
  refine g_bipush (v := nn 6) k95_4 cb_6 ?_
  refine g_iload_n k95_6 rfl ?_
  refine m_iast k95_7 rfl rfl (by omega) (by omega) ?_
  refine g_aload_n k95_8 rfl ?_
  refine g_aload_n k95_9 rfl ?_
  refine m_get k95_10 f95_10 rfl rfl ?_
  refine m_callV1 k95_13 s95_13 c95_13 l23 (by omega) rfl rfl r95_13 (by assumption) ?_
  refine s_23 hdy ok hS1.1 he (by omega) rfl hrX.nf (fun σ1 hs1 => ?_)
  refine af_ret ?_
  rw [een]
  refine g_ifeqB k95_16 (t := 38) rfl (fun h16 => ?_) (fun h16 => ?_)
  · skip
    refine g_iconst (v := nn 0) k95_38 ci_0 ?_
    refine g_breturn k95_39 t95 (by decide) ?_
    have hz := kk σ1 hs1.fL
    have h16' : td_en A e (rd (cur A W) p) = false := by simpa using h16
    rw [h16', Bool.false_and] at hz
    exact hz
  · skip
    refine g_aload_n k95_19 rfl ?_
    refine m_get k95_20 f95_20 rfl rfl ?_
    refine g_aload_n k95_23 rfl ?_
    refine g_aload_n k95_24 rfl ?_
    refine m_get k95_25 f95_25 rfl rfl ?_
    refine m_callV2 k95_28 s95_28 c95_28 l30 (by omega) ⟨rfl, rfl⟩ rfl r95_28 rfl ?_
    refine s_30 hdy ok (hS1.1.agr ok hs1.ag) he (by omega) (by omega) (by omega) rfl (by rw [hs1.st (by omega)]; exact hrX.nf) (by rw [hs1.st (by omega)]; exact hir) (fun σ2 hs2 hbs hbo hb6 => ?_) (fun σ2 hs2 hbs => ?_)
    · refine af_ret ?_
      rw [hs1.st (by omega), ebs] at hbs
      have hz := kk σ2 (hs1.fL.tr hs2)
      rw [h16, hbs] at hz
      refine g_ifeq_f k95_31 (t := 38) rfl (by decide) ?_
      refine g_iconst (v := nn 1) k95_34 ci_1 ?_
      refine g_goto k95_35 (t := 39) rfl ?_
      refine g_breturn k95_39 t95 (by decide) ?_
      exact hz
    · refine af_ret ?_
      rw [hs1.st (by omega), ebs] at hbs
      have hz := kk σ2 (hs1.fL.tr hs2)
      rw [h16, hbs] at hz
      refine g_ifeq_t k95_31 (t := 38) rfl rfl ?_
      refine g_iconst (v := nn 0) k95_38 ci_0 ?_
      refine g_breturn k95_39 t95 (by decide) ?_
      exact hz
theorem XS.can (ok : TOK A) (hS : XS A W F E dy σ ρ τ) (hp : p < 4) (hs : fL dy (up2 σ 22 6 (nn p)) σ') : oX A W F E σ τ dy σ' ρ τ := by
  have h := (hS.p6 ok hp).dn ok hs.fD (tE.rf τ) hS.2.1
  exact ⟨h.1, hs.tr_p, tE.rf τ⟩
theorem cur_in (hi : inS A W) (ho : rs_on W = true) : ∀ v, v < 6 → cur A W v < td_sz A v := fun v hv => by
  unfold cur
  rw [if_pos ho]
  exact hi ho v hv
theorem s_93 (hdy : dy.length < 100000) (ok : TOK A) (wo : WOK W) (hi : inS A W) (hS : XS A W F E dy σ ρ τ) (k1 : ¬ lev A x z → oX A W F E σ τ (dy ++ [(14, 0)]) σ ρ τ → Q (.inr 9) (mk (dy ++ [(14, 0)]) σ ρ τ)) (k2 : lev A x z → rs_on W = false → oX A W F E σ τ (dy ++ [(15, 0)]) σ ρ τ → Q (.inr 10) (mk (dy ++ [(15, 0)]) σ ρ τ)) (k0 : lev A x z → rs_on W = true → ∀ σ', oX A W F E σ τ dy σ' ρ τ → Q (.inl (some (.int (bb ((td_en A x.toInt.toNat (rd (cur A W) z.toInt.toNat) && td_bs A x.toInt.toNat (rd (cur A W) z.toInt.toNat)) = true))))) (mk dy σ' ρ τ)) : go (tb_P L xs) 93 0 [some (.ref 0), some (.int x), some (.int z), none] [] (mk dy σ ρ τ) Q := by
  have h4 := hS.2.2.2.1.1
  by_cases hx : lev A x z
  · obtain ⟨e, p, rfl, rfl, he, hp, hm, e1, e2, he12, hp4⟩ := lev_of ok hx
    rw [e1, e2] at k0
    obtain ⟨⟨h47, hA8, hA3⟩, _⟩ := (hS.1.2.1.2.1 e he).2
    by_cases ho : rs_on W = true
    · refine g_aload_n k93_0 rfl ?_
      refine g_iload_n k93_1 rfl ?_
      refine g_iload_n k93_2 rfl ?_
      refine m_callV2 k93_3 s93_3 c93_3 l94 (by omega) ⟨rfl, rfl⟩ rfl r93_3 rfl ?_
      refine s_94a hdy ok hS.1 he hm hp ?_
      refine af_ret ?_
      refine g_astore_n k93_6 rfl rfl ?_
      refine g_aload_n k93_7 rfl ?_
      refine m_get k93_8 f93_8 rfl rfl ?_
      refine m_get k93_11 f93_11 rfl rfl ?_
      rw [h4]
      refine g_ifne_t k93_14 (t := 25) rfl (by rw [bb_t ho]; decide) ?_
      refine g_aload_n k93_25 rfl ?_
      refine m_get k93_26 f93_26 rfl rfl ?_
      refine g_aload_n k93_29 rfl ?_
      refine g_iload_n k93_30 rfl ?_
      refine m_callV2 k93_31 s93_31 c93_31 l95 (by omega) ⟨rfl, rfl⟩ rfl r93_31 rfl ?_
      refine s_95 hdy ok wo hS ho (cur_in hi ho) he hp4 (fun σ1 hs1 => ?_)
      refine af_ret ?_
      refine g_breturnB k93_34 t93 ?_
      exact k0 hx ho σ1 (hS.can ok hp4 hs1)
    · refine g_aload_n k93_0 rfl ?_
      refine g_iload_n k93_1 rfl ?_
      refine g_iload_n k93_2 rfl ?_
      refine m_callV2 k93_3 s93_3 c93_3 l94 (by omega) ⟨rfl, rfl⟩ rfl r93_3 rfl ?_
      refine s_94a hdy ok hS.1 he hm hp ?_
      refine af_ret ?_
      refine g_astore_n k93_6 rfl rfl ?_
      refine g_aload_n k93_7 rfl ?_
      refine m_get k93_8 f93_8 rfl rfl ?_
      refine m_get k93_11 f93_11 rfl rfl ?_
      rw [h4]
      refine g_ifne_f k93_14 (t := 25) rfl (bb_f ho) ?_
      refine m_throw k93_17 n93_17 k93_20 k93_21 k93_24 x93_17 (by omega) r93_17 (o93 _) ?_
      exact k2 hx (by simpa using ho) (hS.thr ok)
  · refine g_aload_n k93_0 rfl ?_
    refine g_iload_n k93_1 rfl ?_
    refine g_iload_n k93_2 rfl ?_
    refine m_callV2 k93_3 s93_3 c93_3 l94 (by omega) ⟨rfl, rfl⟩ rfl r93_3 rfl ?_
    refine s_94b hdy ok hS.1 hx ?_
    refine af_thr (o93 _) ?_
    exact k1 hx (hS.thr ok)
theorem s_98 (hdy : dy.length < 100000) (ok : TOK A) (wo : WOK W) (hS : XS A W F E dy σ ρ τ) (ho : rs_on W = true) (hin : ∀ v, v < 6 → cur A W v < td_sz A v) (he : e < td_ne A) (hp : p < 4) (hc : can A W e p) (kk : ∀ σ', fX σ σ' → XS A (rs_fi A W e p) F E dy σ' ρ τ → Q (.inl (some (.int (nn (rs_k W + 1))))) (mk dy σ' ρ τ)) : go (tb_P L xs) 98 0 [some (.ref 21), some (.ref (E e)), some (.int (nn p))] [] (mk dy σ ρ τ) Q := by
  obtain ⟨⟨h47, hA8, hA3⟩, _⟩ := (hS.1.2.1.2.1 e he).2
  obtain ⟨hrX, hag⟩ := row_p wo hS ho hp
  have hS1 := hS.p6 (p := p) ok hp
  have hir := hrX.ir ok hin
  have efo := fo_ag (M := fun _ => true) ok he (fun _ _ => rfl) hag
  have ebs := bs_all ok he hag
  have h60 := (wo.2 ho).1
  have hk60 := hc.2.2.2
  have h3 := hS.2.2.2.1.2.2.1
  rw [if_pos ho] at h3
  have fin : ∀ (σ1 : Nat → Nat → Int32) (b : Bool), fV dy (up2 σ 22 6 (nn p)) σ1 → b = !td_fo A e (rd (cur A W) p) → go (tb_P L xs) 98 29 [some (.ref 21), some (.ref (E e)), some (.int (nn p))] [.int (bb (b = true)), .ref 21] (mk dy σ1 ρ τ) Q := by
    intro σ1 b hs1 hb
    have hs5 : fD dy (up2 σ 22 6 (nn p)) σ1 := hs1.fL.fD
    have hX1 := hS1.1.agr ok hs1.ag
    have a5 : agX dy σ1 (up2 σ1 21 5 (bb (b = true))) := ⟨fun a k h => up2_ne (by omega), fun a k s h1 _ _ => up2_ne (by omega)⟩
    have e22 : up2 σ1 21 5 (bb (b = true)) 22 = up2 σ 22 6 (nn p) 22 := by
      rw [← hs1 22 (by omega) (Or.inl (by omega))]
      funext q
      exact up2_ne (by omega)
    refine m_putI k98_29 f98_29 rfl rfl (am_ft_bb _) ?_
    refine g_aload_n k98_32 rfl ?_
    refine m_get k98_33 f98_33 rfl rfl ?_
    refine g_aload_n k98_36 rfl ?_
    refine g_aload_n k98_37 rfl ?_
    refine m_get k98_38 f98_38 rfl rfl ?_
    refine m_callV2 k98_41 s98_41 c98_41 l30 (by omega) ⟨rfl, rfl⟩ rfl r98_41 rfl ?_
    refine s_30 hdy ok (hX1.agr ok a5) he (by omega) (by omega) (by omega) rfl (by rw [e22]; exact hrX.nf) (by rw [e22]; exact hir) (fun σ2 hs2 hbs hbo hb6 => ?_) (fun σ2 hs2 hbs => ?_)
    · refine af_ret ?_
      rw [e22] at hbs hbo
      have st2 : ∀ a, a < 47 → a ≠ 16 → a ≠ 17 → σ2 a = up2 σ1 21 5 (bb (b = true)) a := fun a h1 h2 h3 => hs2 a h2 h3 (Or.inl h1)
      have q3 : σ2 21 3 = nn (rs_k W) := by
        rw [st2 21 (by omega) (by omega) (by omega), up2_ne (by omega), hs1 21 (by omega) (Or.inl (by omega)), up2_ne (by omega)]
        exact h3
      have q22 : σ2 22 = up2 σ 22 6 (nn p) 22 := by rw [st2 22 (by omega) (by omega) (by omega), e22]
      have gst : ∀ a, a < 47 → a ≠ 16 → a ≠ 17 → a ≠ 21 → a ≠ 22 → σ2 a = σ a := fun a h1 h2 h3 h4 h5 => by
        rw [st2 a h1 h2 h3]
        funext q
        rw [up2_ne (Or.inl h4), hs1 a h3 (Or.inl h1), up2_ne (Or.inl h5)]
      have g21 : ∀ q, q ≠ 5 → σ2 21 q = σ 21 q := fun q hq => by
        rw [st2 21 (by omega) (by omega) (by omega), up2_ne (Or.inr hq), hs1 21 (by omega) (Or.inl (by omega)), up2_ne (by omega)]
      refine g_pop k98_44 rfl ?_
      refine g_aload_n k98_45 rfl ?_
      refine m_get k98_46 f98_46 rfl rfl ?_
      refine g_iconst (v := nn 0) k98_49 ci_0 ?_
      refine g_aload_n k98_50 rfl ?_
      refine m_get k98_51 f98_51 rfl rfl ?_
      refine g_aload_n k98_54 rfl ?_
      refine m_get k98_55 f98_55 rfl rfl ?_
      rw [q3]
      refine g_bipush (v := nn 6) k98_58 cb_6 ?_
      refine g_imulN k98_60 ?_
      refine g_bipush (v := nn 6) k98_61 cb_6 ?_
      refine m_copy k98_63 s98_63 rfl rfl rfl rfl rfl (by omega) r98_63 ?_
      refine g_aload_n k98_66 rfl ?_
      refine m_get k98_67 f98_67 rfl rfl ?_
      refine m_get k98_70 f98_70 rfl rfl ?_
      refine g_iconst (v := nn 0) k98_73 ci_0 ?_
      refine g_aload_n k98_74 rfl ?_
      refine m_get k98_75 f98_75 rfl rfl ?_
      refine g_iconst (v := nn 0) k98_78 ci_0 ?_
      refine g_bipush (v := nn 6) k98_79 cb_6 ?_
      refine m_copy k98_81 s98_81 rfl rfl rfl rfl rfl (by omega) r98_81 ?_
      refine g_aload_n k98_84 rfl ?_
      refine g_dup k98_85 rfl ?_
      refine m_get k98_86 f98_86 rfl rfl ?_
      rw [upr_ne (by omega), upr_ne (by omega), q3]
      refine g_iconst (v := nn 1) k98_89 ci_1 ?_
      refine g_iaddN k98_90 ?_
      refine m_putI k98_91 f98_91 rfl rfl rfl ?_
      refine g_aload_n k98_94 rfl ?_
      refine m_get k98_95 f98_95 rfl rfl ?_
      rw [up2_at]
      refine g_ireturn k98_98 t98 ?_
      refine kk _ ?_ ⟨?_, hS.2.1, ⟨?_, ⟨?_, ?_, ?_, ?_, fun _ => ⟨fun v hv => ?_, fun j v hj hv => ?_⟩⟩, ?_⟩⟩
      · exact (((((fX.rf σ).up (a := 22) (k := 6) (v := nn p) (by omega)).tr hs5.fX).up (a := 21) (k := 5) (v := bb (b = true)) (by omega)).tr hs2.fD.fX).ur (by omega) |>.ur (by omega) |>.up (by omega)
      · refine ((hX1.agr ok a5).agr ok hs2.ag).agr ok ⟨fun a k h => ?_, fun a k s h1 _ _ => ?_⟩
        · rw [up2_ne (by omega), upr_ne (by omega), upr_ne (by omega)]
        · rw [up2_ne (by omega), upr_ne (by omega), upr_ne (by omega)]
      · refine ⟨?_, fun i hi => ?_⟩
        · rw [up2_ne (by omega), upr_ne (by omega), upr_ne (by omega), gst 1 (by omega) (by omega) (by omega) (by omega) (by omega)]
          exact hS.2.2.1.1
        · rw [up2_ne (by omega), upr_ne (by omega), upr_ne (by omega), gst 2 (by omega) (by omega) (by omega) (by omega) (by omega)]
          exact hS.2.2.1.2 i hi
      · rw [up2_ne (by omega), upr_ne (by omega), upr_ne (by omega), g21 4 (by omega), hS.2.2.2.1.1, bb_t ho]
        rfl
      · rw [up2_ne (by omega), upr_ne (by omega), upr_ne (by omega), st2 21 (by omega) (by omega) (by omega), up2_at, hb]
        rfl
      · rw [up2_at]
        rfl
      · rw [up2_ne (by omega), upr_at, cpy6, if_neg (by omega), upr_ne (by omega), q22, up2_at]
        exact nf_nn (by omega)
      · show _ = nn (if rs_k W + 1 = rs_k W + 1 then (td_bo A e (rd (cur A W) p) v).toInt.toNat else rs_r W (rs_k W + 1) v)
        rw [if_pos rfl, up2_ne (by omega), upr_at, cpy6, if_pos (by omega), upr_ne (by omega), show 0 + (v - 0) = v by omega, hbo v hv, bo_all ok he hag hv]
        exact (dg_ok ok hc.2.1 v hv).1
      · have hj : j < rs_k W + 1 := hj
        show _ = nn (if j = rs_k W + 1 then (td_bo A e (rd (cur A W) p) v).toInt.toNat else rs_r W j v)
        rw [if_neg (by omega), up2_ne (by omega), upr_ne (by omega), upr_at, cpy6]
        by_cases c : j = rs_k W
        · rw [if_pos (by omega), q22, up2_ne (by omega), c, show 0 + (6 * rs_k W + v - rs_k W * 6) = v by omega]
          exact (hS.2.2.2.1.2.2.2.2 ho).1 v hv
        · rw [if_neg (by omega), gst 23 (by omega) (by omega) (by omega) (by omega) (by omega)]
          exact (hS.2.2.2.1.2.2.2.2 ho).2 j v (by omega) hv
      · refine ⟨?_, fun hsw v hv => ?_⟩
        · rw [up2_ne (by omega), upr_ne (by omega), upr_ne (by omega), gst 0 (by omega) (by omega) (by omega) (by omega) (by omega)]
          exact hS.2.2.2.2.1
        · rw [up2_ne (by omega), upr_ne (by omega), upr_ne (by omega), gst 6 (by omega) (by omega) (by omega) (by omega) (by omega)]
          exact hS.2.2.2.2.2 hsw v hv
    · refine af_ret ?_
      rw [e22, ebs, hc.2.1] at hbs
      cases hbs
  refine g_aload_n k98_0 rfl ?_
  refine m_get k98_1 f98_1 rfl rfl ?_
  refine g_bipush (v := nn 6) k98_4 cb_6 ?_
  refine g_iload_n k98_6 rfl ?_
  refine m_iast k98_7 rfl rfl (by omega) (by omega) ?_
  refine g_aload_n k98_8 rfl ?_
  refine g_aload_n k98_9 rfl ?_
  refine m_get k98_10 f98_10 rfl rfl ?_
  refine g_aload_n k98_13 rfl ?_
  refine g_aload_n k98_14 rfl ?_
  refine m_get k98_15 f98_15 rfl rfl ?_
  refine m_callV2 k98_18 s98_18 c98_18 l27 (by omega) ⟨rfl, rfl⟩ rfl r98_18 rfl ?_
  refine s_27 hdy ok hS1.1 he (by omega) (by omega) rfl hrX.nf (fun σ1 hs1 => ?_)
  refine af_ret ?_
  rw [efo]
  refine g_ifneB k98_21 (t := 28) rfl (fun h21 => ?_) (fun h21 => ?_)
  · skip
    refine g_iconst (v := nn 0) k98_28 ci_0 ?_
    first
      | exact fin σ1 false hs1 (by rw [h21]; rfl)
      | exact fin σ1 true hs1 (by rw [show td_fo A e (rd (cur A W) p) = false by simpa using h21]; rfl)
  · skip
    refine g_iconst (v := nn 1) k98_24 ci_1 ?_
    refine g_goto k98_25 (t := 29) rfl ?_
    first
      | exact fin σ1 false hs1 (by rw [h21]; rfl)
      | exact fin σ1 true hs1 (by rw [show td_fo A e (rd (cur A W) p) = false by simpa using h21]; rfl)
theorem s_97 (hdy : dy.length < 100000) (ok : TOK A) (wo : WOK W) (hi : inS A W) (hS : XS A W F E dy σ ρ τ) (k1 : ¬ lev A x z → oX A W F E σ τ (dy ++ [(14, 0)]) σ ρ τ → Q (.inr 9) (mk (dy ++ [(14, 0)]) σ ρ τ)) (k2 : lev A x z → rs_on W = false → oX A W F E σ τ (dy ++ [(15, 0)]) σ ρ τ → Q (.inr 10) (mk (dy ++ [(15, 0)]) σ ρ τ)) (k3 : lev A x z → rs_on W = true → ¬ can A W x.toInt.toNat z.toInt.toNat → ∀ σ', oX A W F E σ τ (dy ++ [(16, 0)]) σ' ρ τ → Q (.inr 11) (mk (dy ++ [(16, 0)]) σ' ρ τ)) (k0 : lev A x z → rs_on W = true → can A W x.toInt.toNat z.toInt.toNat → ∀ σ', oX A (rs_fi A W x.toInt.toNat z.toInt.toNat) F E σ τ dy σ' ρ τ → Q (.inl (some (.int (nn (rs_k W + 1))))) (mk dy σ' ρ τ)) : go (tb_P L xs) 97 0 [some (.ref 0), some (.int x), some (.int z), none] [] (mk dy σ ρ τ) Q := by
  have h4 := hS.2.2.2.1.1
  by_cases hx : lev A x z
  · obtain ⟨e, p, rfl, rfl, he, hp, hm, e1, e2, he12, hp4⟩ := lev_of ok hx
    rw [e1, e2] at k0 k3
    obtain ⟨⟨h47, hA8, hA3⟩, _⟩ := (hS.1.2.1.2.1 e he).2
    by_cases ho : rs_on W = true
    · have k3 := k3 hx ho
      have k0 := k0 hx ho
      have h60 := (wo.2 ho).1
      have h5 := hS.2.2.2.1.2.1
      have h3 := hS.2.2.2.1.2.2.1
      rw [ho, Bool.true_and] at h5
      rw [if_pos ho] at h3
      have k3' : ¬ can A W e p → Q (.inr 11) (mk (dy ++ [(16, 0)]) σ ρ τ) := fun h => k3 h σ (hS.thr ok)
      refine g_aload_n k97_0 rfl ?_
      refine g_iload_n k97_1 rfl ?_
      refine g_iload_n k97_2 rfl ?_
      refine m_callV2 k97_3 s97_3 c97_3 l94 (by omega) ⟨rfl, rfl⟩ rfl r97_3 rfl ?_
      refine s_94a hdy ok hS.1 he hm hp ?_
      refine af_ret ?_
      refine g_astore_n k97_6 rfl rfl ?_
      refine g_aload_n k97_7 rfl ?_
      refine m_get k97_8 f97_8 rfl rfl ?_
      refine m_get k97_11 f97_11 rfl rfl ?_
      rw [h4]
      refine g_ifne_t k97_14 (t := 25) rfl (by rw [bb_t ho]; decide) ?_
      refine g_aload_n k97_25 rfl ?_
      refine m_get k97_26 f97_26 rfl rfl ?_
      refine m_get k97_29 f97_29 rfl rfl ?_
      rw [h5]
      refine g_ifneB k97_32 (t := 59) rfl (fun h32 => ?_) (fun h32 => ?_)
      · skip
        refine m_throw k97_59 n97_59 k97_62 k97_63 k97_66 x97_59 (by omega) r97_59 (o97 _) ?_
        first
          | exact k3' (fun q => by have := q.2.2.1; rw [h32] at this; cases this)
          | exact k3' (fun q => q.2.2.2 h44)
          | (refine k3 (fun q => h56 ?_) σ1 ?_
             · rw [q.1, q.2.1]
               rfl
             · have h := hS.can ok hp4 hs1
               exact ⟨h.1.app ok, h.2⟩)
      · skip
        refine g_aload_n k97_35 rfl ?_
        refine m_get k97_36 f97_36 rfl rfl ?_
        refine m_get k97_39 f97_39 rfl rfl ?_
        rw [h3]
        refine g_bipush (v := nn 60) k97_42 cb_60 ?_
        refine g_iceqN k97_44 (t := 59) rfl ⟨by omega, by omega⟩ (fun h44 => ?_) (fun h44 => ?_)
        · skip
          refine m_throw k97_59 n97_59 k97_62 k97_63 k97_66 x97_59 (by omega) r97_59 (o97 _) ?_
          first
            | exact k3' (fun q => by have := q.2.2.1; rw [h32] at this; cases this)
            | exact k3' (fun q => q.2.2.2 h44)
            | (refine k3 (fun q => h56 ?_) σ1 ?_
               · rw [q.1, q.2.1]
                 rfl
               · have h := hS.can ok hp4 hs1
                 exact ⟨h.1.app ok, h.2⟩)
        · skip
          refine g_aload_n k97_47 rfl ?_
          refine m_get k97_48 f97_48 rfl rfl ?_
          refine g_aload_n k97_51 rfl ?_
          refine g_iload_n k97_52 rfl ?_
          refine m_callV2 k97_53 s97_53 c97_53 l95 (by omega) ⟨rfl, rfl⟩ rfl r97_53 rfl ?_
          refine s_95 hdy ok wo hS ho (cur_in hi ho) he hp4 (fun σ1 hs1 => ?_)
          refine af_ret ?_
          refine g_ifneB k97_56 (t := 67) rfl (fun h56 => ?_) (fun h56 => ?_)
          · skip
            have hc : can A W e p := by
              rw [Bool.and_eq_true] at h56
              exact ⟨h56.1, h56.2, by simpa using h32, h44⟩
            obtain ⟨⟨hX2, _, hR2⟩, _⟩ := hS.can ok hp4 hs1
            refine g_aload_n k97_67 rfl ?_
            refine m_get k97_68 f97_68 rfl rfl ?_
            refine g_aload_n k97_71 rfl ?_
            refine g_iload_n k97_72 rfl ?_
            refine m_callV2 k97_73 s97_73 c97_73 l98 (by omega) ⟨rfl, rfl⟩ rfl r97_73 rfl ?_
            refine s_98 hdy ok wo ⟨hX2, hS.2.1, hR2⟩ ho (cur_in hi ho) he hp4 hc (fun σ2 hf2 hS2 => ?_)
            refine af_ret ?_
            refine g_ireturn k97_76 t97 ?_
            exact k0 hc σ2 ⟨hS2, hs1.tr_p.tr hf2, tE.rf τ⟩
          · skip
            refine m_throw k97_59 n97_59 k97_62 k97_63 k97_66 x97_59 (by omega) r97_59 (o97 _) ?_
            first
              | exact k3' (fun q => by have := q.2.2.1; rw [h32] at this; cases this)
              | exact k3' (fun q => q.2.2.2 h44)
              | (refine k3 (fun q => h56 ?_) σ1 ?_
                 · rw [q.1, q.2.1]
                   rfl
                 · have h := hS.can ok hp4 hs1
                   exact ⟨h.1.app ok, h.2⟩)
    · refine g_aload_n k97_0 rfl ?_
      refine g_iload_n k97_1 rfl ?_
      refine g_iload_n k97_2 rfl ?_
      refine m_callV2 k97_3 s97_3 c97_3 l94 (by omega) ⟨rfl, rfl⟩ rfl r97_3 rfl ?_
      refine s_94a hdy ok hS.1 he hm hp ?_
      refine af_ret ?_
      refine g_astore_n k97_6 rfl rfl ?_
      refine g_aload_n k97_7 rfl ?_
      refine m_get k97_8 f97_8 rfl rfl ?_
      refine m_get k97_11 f97_11 rfl rfl ?_
      rw [h4]
      refine g_ifne_f k97_14 (t := 25) rfl (bb_f ho) ?_
      refine m_throw k97_17 n97_17 k97_20 k97_21 k97_24 x97_17 (by omega) r97_17 (o97 _) ?_
      exact k2 hx (by simpa using ho) (hS.thr ok)
  · refine g_aload_n k97_0 rfl ?_
    refine g_iload_n k97_1 rfl ?_
    refine g_iload_n k97_2 rfl ?_
    refine m_callV2 k97_3 s97_3 c97_3 l94 (by omega) ⟨rfl, rfl⟩ rfl r97_3 rfl ?_
    refine s_94b hdy ok hS.1 hx ?_
    refine af_thr (o97 _) ?_
    exact k1 hx (hS.thr ok)
end ZE
