/-! The class: what is told. -/
section ZC
variable {L : Nat} {xs : Nat → Int32} {Q : am_A → am_H → Prop} {dy dy' : List (Nat × Nat)} {σ σ' : Nat → Nat → Int32} {ρ ρ' : Nat → Nat → Option Nat} {τ τ' : Nat → Nat → Int64} {A : TD} {W : RS} {F E : Nat → Nat} {f e u r ad m kd v s i : Nat} {x z w a b : Int32}
theorem RepX.sv (ok : TOK A) (hv : v < 6) (h : RepX A F E dy σ ρ) : RepX (td_sv A v s i) F E dy (up2 (up2 σ 8 v (nn s)) 9 v (nn i)) ρ := by
  obtain ⟨⟨a1, a2⟩, ⟨b1, b2, b3⟩, c, d, g, g6⟩ := h
  have hs : ∀ a k (s' : Nat × Nat), 47 ≤ a → me_sh dy a = some s' → s' ≠ (0, 25) → up2 (up2 σ 8 v (nn s)) 9 v (nn i) a k = σ a k := fun a k _ h1 _ _ => by rw [up2_ne (by omega), up2_ne (by omega)]
  refine ⟨⟨a1, fun f hf => ⟨(a2 f hf).1, (a2 f hf).2.mono (fun _ _ q => q) hs (ok.2.1 f hf).1.2⟩⟩, ⟨b1, fun e he => ⟨(b2 e he).1, (b2 e he).2.mono (fun _ _ q => q) hs (fun _ _ _ _ _ => rfl)⟩, b3⟩, c, d, fun j hj => ?_, ?_⟩
  · show _ = nn (if j = v then s else td_sz A j) ∧ _ = nn (if j = v then i else td_in A j)
    rw [up2_ne (a := 8) (by omega), up2_of, up2_of, up2_ne (a := 9) (by omega)]
    by_cases c : j = v
    · rw [if_pos c, if_pos c, if_pos c, if_pos c]
      exact ⟨rfl, rfl⟩
    · rw [if_neg c, if_neg c, if_neg c, if_neg c]
      exact g j hj
  · rw [up2_ne (by omega), up2_ne (by omega)]
    exact g6
theorem sh_2 {s1 s2 : Nat × Nat} {a b : Nat} (h1 : me_sh dy a = some s1) (h2 : me_sh dy b = some s2) (hne : s1 ≠ s2) : a ≠ b := fun q => by
  rw [q, h2] at h1
  exact hne (Option.some.inj h1).symm
theorem RepX.sg (he : e < td_ne A) (h : RepX A F E dy σ ρ) : RepX (td_sg A e f) F E dy σ (up2 ρ (E e) 3 (some (F f))) := by
  obtain ⟨⟨a1, a2⟩, ⟨b1, b2, b3⟩, ⟨c1, c2, c3, c4⟩, d, g⟩ := h
  obtain ⟨h47, h8, -⟩ := (b2 e he).2.1
  refine ⟨⟨a1, fun f hf => ⟨by rw [up2_ne (by omega)]; exact (a2 f hf).1, (a2 f hf).2⟩⟩, ⟨b1, fun j hj => ⟨by rw [up2_ne (by omega)]; exact (b2 j hj).1, ?_⟩, b3⟩, ⟨c1, c2, fun i hi => by rw [up2_ne (by omega)]; exact c3 i hi, fun i hi => by rw [up2_ne (by omega)]; exact c4 i hi⟩, by rw [up2_ne (by omega)]; exact d, g⟩
  obtain ⟨p, q1, q2, q3, q4, q5, q6⟩ := (b2 j hj).2
  refine ⟨p, q1, q2, by rw [up2_ne (by omega)]; exact q3, ?_, by rw [up2_ne (by omega)]; exact q5, fun v hv => by rw [up2_ne (Or.inl (sh_2 p.2.2 h8 (by decide)))]; exact q6 v hv⟩
  show _ = (if j = e then some f else td_gd A j).map F
  by_cases c : j = e
  · rw [if_pos c, c, up2_at]
    rfl
  · rw [if_neg c, up2_ne (Or.inl (fun q => c (b3 j e hj he q)))]
    exact q4
theorem RepX.sw (he : e < td_ne A) (h : RepX A F E dy σ ρ) : RepX (td_sw A e f) F E dy σ (up2 ρ (E e) 4 (some (F f))) := by
  obtain ⟨⟨a1, a2⟩, ⟨b1, b2, b3⟩, ⟨c1, c2, c3, c4⟩, d, g⟩ := h
  obtain ⟨h47, h8, -⟩ := (b2 e he).2.1
  refine ⟨⟨a1, fun f hf => ⟨by rw [up2_ne (by omega)]; exact (a2 f hf).1, (a2 f hf).2⟩⟩, ⟨b1, fun j hj => ⟨by rw [up2_ne (by omega)]; exact (b2 j hj).1, ?_⟩, b3⟩, ⟨c1, c2, fun i hi => by rw [up2_ne (by omega)]; exact c3 i hi, fun i hi => by rw [up2_ne (by omega)]; exact c4 i hi⟩, by rw [up2_ne (by omega)]; exact d, g⟩
  obtain ⟨p, q1, q2, q3, q4, q5, q6⟩ := (b2 j hj).2
  refine ⟨p, q1, q2, by rw [up2_ne (by omega)]; exact q3, by rw [up2_ne (by omega)]; exact q4, ?_, fun v hv => by rw [up2_ne (Or.inl (sh_2 p.2.2 h8 (by decide)))]; exact q6 v hv⟩
  show _ = (if j = e then some f else td_wt A j).map F
  by_cases c : j = e
  · rw [if_pos c, c, up2_at]
    rfl
  · rw [if_neg c, up2_ne (Or.inl (fun q => c (b3 j e hj he q)))]
    exact q5
theorem RepX.sa (he : e < td_ne A) (h : RepX A F E dy σ ρ) : RepX (td_sa A e v f) F E dy σ (up2 ρ (E e + 1) v (some (F f))) := by
  obtain ⟨⟨a1, a2⟩, ⟨b1, b2, b3⟩, ⟨c1, c2, c3, c4⟩, d, g⟩ := h
  obtain ⟨h47, h8, h3⟩ := (b2 e he).2.1
  refine ⟨⟨a1, fun f hf => ⟨by rw [up2_ne (by omega)]; exact (a2 f hf).1, (a2 f hf).2⟩⟩, ⟨b1, fun j hj => ⟨by rw [up2_ne (by omega)]; exact (b2 j hj).1, ?_⟩, b3⟩, ⟨c1, c2, fun i hi => by rw [up2_ne (by omega)]; exact c3 i hi, fun i hi => by rw [up2_ne (by omega)]; exact c4 i hi⟩, by rw [up2_ne (by omega)]; exact d, g⟩
  obtain ⟨p, q1, q2, q3, q4, q5, q6⟩ := (b2 j hj).2
  have hn := sh_2 p.2.1 h3 (by decide)
  refine ⟨p, q1, q2, by rw [up2_ne (Or.inl hn)]; exact q3, by rw [up2_ne (Or.inl hn)]; exact q4, by rw [up2_ne (Or.inl hn)]; exact q5, fun u hu => ?_⟩
  show _ = (if j = e ∧ u = v then some f else td_as A j u).map F
  by_cases c : j = e
  · subst c
    rw [up2_of]
    by_cases c2 : u = v
    · rw [if_pos c2, if_pos ⟨rfl, c2⟩]
      rfl
    · rw [if_neg c2, if_neg (fun q => c2 q.2)]
      exact q6 u hu
  · rw [if_neg (fun q => c q.1), up2_ne (Or.inl (fun q => c (b3 j e hj he (by omega))))]
    exact q6 u hu
theorem RepX.sr (h : RepX A F E dy σ ρ) : RepX (td_sr A f) F E dy σ (up2 ρ 7 5 (some (F f))) := by
  obtain ⟨⟨a1, a2⟩, ⟨b1, b2, b3⟩, ⟨c1, c2, c3, c4⟩, d, g⟩ := h
  refine ⟨⟨a1, fun f hf => ⟨by rw [up2_ne (by omega)]; exact (a2 f hf).1, (a2 f hf).2⟩⟩, ⟨b1, fun j hj => ⟨by rw [up2_ne (by omega)]; exact (b2 j hj).1, ?_⟩, b3⟩, ⟨c1, c2, fun i hi => by rw [up2_ne (by omega)]; exact c3 i hi, fun i hi => by rw [up2_ne (by omega)]; exact c4 i hi⟩, by rw [up2_at]; rfl, g⟩
  exact (b2 j hj).2.mono (fun _ _ q => q) (fun _ _ _ _ _ _ => rfl) (fun a k s h1 _ => up2_ne (by omega))
theorem RepX.ai (hm : m < 2) (ok : TOK A) (h : RepX A F E dy σ ρ) : RepX (td_ai A m f) F E dy (up2 σ 11 (2 + m) (nn (td_ic A m + 1))) (up2 ρ (12 + m) (td_ic A m) (some (F f))) := by
  obtain ⟨⟨a1, a2⟩, ⟨b1, b2, b3⟩, ⟨c1, c2, c3, c4⟩, d, g, g6⟩ := h
  have hs : ∀ a k (s' : Nat × Nat), 47 ≤ a → me_sh dy a = some s' → s' ≠ (0, 25) → up2 σ 11 (2 + m) (nn (td_ic A m + 1)) a k = σ a k := fun a k _ h1 _ _ => by rw [up2_ne (by omega)]
  refine ⟨⟨by rw [up2_ne (by omega)]; exact a1, fun f hf => ⟨by rw [up2_ne (by omega)]; exact (a2 f hf).1, (a2 f hf).2.mono (fun _ _ q => q) hs (ok.2.1 f hf).1.2⟩⟩, ⟨by rw [up2_ne (by omega)]; exact b1, fun e he => ⟨by rw [up2_ne (by omega)]; exact (b2 e he).1, (b2 e he).2.mono (fun _ _ q => q) hs (fun a k s h1 _ => up2_ne (by omega))⟩, b3⟩, ⟨?_, ?_, fun i hi => ?_, fun i hi => ?_⟩, by rw [up2_ne (by omega)]; exact d, fun v hv => by rw [up2_ne (by omega), up2_ne (by omega)]; exact g v hv, by rw [up2_ne (by omega)]; exact g6⟩
  · show _ = nn (if 0 = m then td_ic A m + 1 else td_ic A 0)
    rw [up2_of]
    by_cases c : 0 = m
    · rw [if_pos c, if_pos (by omega)]
    · rw [if_neg c, if_neg (by omega)]
      exact c1
  · show _ = nn (if 1 = m then td_ic A m + 1 else td_ic A 1)
    rw [up2_of]
    by_cases c : 1 = m
    · rw [if_pos c, if_pos (by omega)]
    · rw [if_neg c, if_neg (by omega)]
      exact c2
  · have hi : i < (if 0 = m then td_ic A m + 1 else td_ic A 0) := hi
    show _ = some (F (if 0 = m ∧ i = td_ic A m then f else td_iv A 0 i))
    by_cases c : 0 = m
    · rw [if_pos c] at hi
      subst c
      rw [up2_of]
      by_cases ci : i = td_ic A 0
      · rw [if_pos ci, if_pos ⟨rfl, ci⟩]
      · rw [if_neg ci, if_neg (fun q => ci q.2)]
        exact c3 i (by omega)
    · rw [if_neg c] at hi
      rw [if_neg (fun q => c q.1), up2_ne (by omega)]
      exact c3 i hi
  · have hi : i < (if 1 = m then td_ic A m + 1 else td_ic A 1) := hi
    show _ = some (F (if 1 = m ∧ i = td_ic A m then f else td_iv A 1 i))
    by_cases c : 1 = m
    · rw [if_pos c] at hi
      subst c
      rw [up2_of]
      by_cases ci : i = td_ic A 1
      · rw [if_pos ci, if_pos ⟨rfl, ci⟩]
      · rw [if_neg ci, if_neg (fun q => ci q.2)]
        exact c4 i (by omega)
    · rw [if_neg c] at hi
      rw [if_neg (fun q => c q.1), up2_ne (by omega)]
      exact c4 i hi
theorem s_35 (kk : Q (.inl none) (mk dy (up2 (up2 (up2 σ 21 4 (nn 0)) 21 5 (nn 0)) 21 3 (nn 0)) ρ τ)) : go (tb_P L xs) 35 0 [some (.ref 21)] [] (mk dy σ ρ τ) Q := by
  refine g_aload_n k35_0 rfl ?_
  refine g_iconst (v := nn 0) k35_1 ci_0 ?_
  refine m_putI k35_2 f35_2 rfl rfl rfl ?_
  refine g_aload_n k35_5 rfl ?_
  refine g_iconst (v := nn 0) k35_6 ci_0 ?_
  refine m_putI k35_7 f35_7 rfl rfl rfl ?_
  refine g_aload_n k35_10 rfl ?_
  refine g_iconst (v := nn 0) k35_11 ci_0 ?_
  refine m_putI k35_12 f35_12 rfl rfl rfl ?_
  refine g_return k35_15 t35 ?_
  exact kk
theorem s_39 (hdy : dy.length < 100000) (ok : TOK A) (hS : XS A W F E dy σ ρ τ) (k1 : ¬ vok x z w → oX A W F E σ τ (dy ++ [(14, 0)]) σ ρ τ → Q (.inr 9) (mk (dy ++ [(14, 0)]) σ ρ τ)) (k0 : vok x z w → ∀ σ', oX (td_sv A x.toInt.toNat z.toInt.toNat w.toInt.toNat) (rs_off W) F E σ τ dy σ' ρ τ → Q (.inl none) (mk dy σ' ρ τ)) : go (tb_P L xs) 39 0 [some (.ref 0), some (.int x), some (.int z), some (.int w)] [] (mk dy σ ρ τ) Q := by
  have bad : ¬ vok x z w → Q (.inr 9) (mk (dy ++ [(14, 0)]) σ ρ τ) := fun h => k1 h (hS.thr ok)
  have t4 := ti_4
  by_cases hx : 0 ≤ x.toInt ∧ x.toInt < 6
  · by_cases hz : 1 ≤ z.toInt ∧ z.toInt ≤ 4
    · by_cases hw : 0 ≤ w.toInt ∧ w.toInt < z.toInt
      · have hq := k0 ⟨hx, hz, hw⟩
        have hzs := sub1.mpr hz
        rw [← t4] at hzs
        obtain ⟨v, rfl, hv⟩ := in_nn (n := 6) hx
        obtain ⟨s, rfl, hs⟩ := in_nn (x := z) (n := 5) ⟨by omega, by omega⟩
        obtain ⟨i, rfl, hi⟩ := in_nn (x := w) (n := 5) ⟨by omega, by omega⟩
        rw [nn_toInt (by omega), nn_toInt (by omega), nn_toInt (by omega)] at hq
        simp only [Int.toNat_natCast] at hq
        refine g_iload_n k39_0 rfl ?_
        refine g_callS1 k39_1 s39_1 c39_1 l40 (by omega) rfl rfl r39_1 ?_
        refine s_40 ?_
        refine af_ret ?_
        refine g_ifeq_f k39_4 (t := 25) rfl (by rw [bb_t hx]; decide) ?_
        refine g_iload_n k39_7 rfl ?_
        refine g_iconst (v := nn 1) k39_8 ci_1 ?_
        refine g_isub k39_9 ?_
        refine g_iconst (v := nn 4) k39_10 ci_4 ?_
        refine g_callS2 k39_11 s39_11 c39_11 l26 (by omega) ⟨rfl, rfl⟩ rfl r39_11 ?_
        refine s_26 ?_
        refine af_ret ?_
        refine g_ifeq_f k39_14 (t := 25) rfl (by rw [bb_t hzs]; decide) ?_
        refine g_iload_n k39_17 rfl ?_
        refine g_iload_n k39_18 rfl ?_
        refine g_callS2 k39_19 s39_19 c39_19 l26 (by omega) ⟨rfl, rfl⟩ rfl r39_19 ?_
        refine s_26 ?_
        refine af_ret ?_
        refine g_ifne_t k39_22 (t := 33) rfl (by rw [bb_t hw]; decide) ?_
        refine g_aload_n k39_33 rfl ?_
        refine m_get k39_34 f39_34 rfl rfl ?_
        refine m_get k39_37 f39_37 rfl rfl ?_
        refine g_iload_n k39_40 rfl ?_
        refine g_iload_n k39_41 rfl ?_
        refine m_iast k39_42 rfl rfl (by omega) (by omega) ?_
        refine g_aload_n k39_43 rfl ?_
        refine m_get k39_44 f39_44 rfl rfl ?_
        refine m_get k39_47 f39_47 rfl rfl ?_
        refine g_iload_n k39_50 rfl ?_
        refine g_iload_n k39_51 rfl ?_
        refine m_iast k39_52 rfl rfl (by omega) (by omega) ?_
        refine g_aload_n k39_53 rfl ?_
        refine m_get k39_54 f39_54 rfl rfl ?_
        refine m_callV0 k39_57 s39_57 c39_57 l35 (by omega) trivial rfl r39_57 rfl ?_
        refine s_35 ?_
        refine af_void ?_
        refine g_return k39_60 t39 ?_
        refine hq _ ⟨⟨RepX.agr (ok.sv (by rw [nn_toInt (by omega)] at hz hw; rw [nn_toInt (by omega)] at hw; omega)) (hS.1.sv ok hv) ⟨fun a k h => ?_, fun a k s h1 _ _ => ?_⟩, hS.2.1, ⟨hS.2.2.1, ⟨rfl, rfl, rfl, hS.2.2.2.1.2.2.2.1, fun q => by cases q⟩, hS.2.2.2.2⟩⟩, (((((fX.rf σ).up (by omega)).up (by omega)).up (by omega)).up (by omega)).up (by omega), tE.rf τ⟩
        · rw [up2_ne (by omega), up2_ne (by omega), up2_ne (by omega)]
        · rw [up2_ne (by omega), up2_ne (by omega), up2_ne (by omega)]
      · refine g_iload_n k39_0 rfl ?_
        refine g_callS1 k39_1 s39_1 c39_1 l40 (by omega) rfl rfl r39_1 ?_
        refine s_40 ?_
        refine af_ret ?_
        refine g_ifeq_f k39_4 (t := 25) rfl (by rw [bb_t hx]; decide) ?_
        refine g_iload_n k39_7 rfl ?_
        refine g_iconst (v := nn 1) k39_8 ci_1 ?_
        refine g_isub k39_9 ?_
        refine g_iconst (v := nn 4) k39_10 ci_4 ?_
        refine g_callS2 k39_11 s39_11 c39_11 l26 (by omega) ⟨rfl, rfl⟩ rfl r39_11 ?_
        refine s_26 ?_
        refine af_ret ?_
        refine g_ifeq_f k39_14 (t := 25) rfl (by rw [bb_t (by rw [t4]; exact sub1.mpr hz)]; decide) ?_
        refine g_iload_n k39_17 rfl ?_
        refine g_iload_n k39_18 rfl ?_
        refine g_callS2 k39_19 s39_19 c39_19 l26 (by omega) ⟨rfl, rfl⟩ rfl r39_19 ?_
        refine s_26 ?_
        refine af_ret ?_
        refine g_ifne_f k39_22 (t := 33) rfl (bb_f hw) ?_
        refine m_throw k39_25 n39_25 k39_28 k39_29 k39_32 x39_25 (by omega) r39_25 (o39 _) ?_
        exact bad (fun q => hw q.2.2)
    · refine g_iload_n k39_0 rfl ?_
      refine g_callS1 k39_1 s39_1 c39_1 l40 (by omega) rfl rfl r39_1 ?_
      refine s_40 ?_
      refine af_ret ?_
      refine g_ifeq_f k39_4 (t := 25) rfl (by rw [bb_t hx]; decide) ?_
      refine g_iload_n k39_7 rfl ?_
      refine g_iconst (v := nn 1) k39_8 ci_1 ?_
      refine g_isub k39_9 ?_
      refine g_iconst (v := nn 4) k39_10 ci_4 ?_
      refine g_callS2 k39_11 s39_11 c39_11 l26 (by omega) ⟨rfl, rfl⟩ rfl r39_11 ?_
      refine s_26 ?_
      refine af_ret ?_
      refine g_ifeq_t k39_14 (t := 25) rfl (bb_f (by rw [t4]; exact fun q => hz (sub1.mp q))) ?_
      refine m_throw k39_25 n39_25 k39_28 k39_29 k39_32 x39_25 (by omega) r39_25 (o39 _) ?_
      exact bad (fun q => hz q.2.1)
  · refine g_iload_n k39_0 rfl ?_
    refine g_callS1 k39_1 s39_1 c39_1 l40 (by omega) rfl rfl r39_1 ?_
    refine s_40 ?_
    refine af_ret ?_
    refine g_ifeq_t k39_4 (t := 25) rfl (bb_f hx) ?_
    refine m_throw k39_25 n39_25 k39_28 k39_29 k39_32 x39_25 (by omega) r39_25 (o39 _) ?_
    exact bad (fun q => hx q.1)
theorem s_45 (hdy : dy.length < 100000) (wo : WOK W) (hW : RunX W σ) (hn : rs_n W < 24) (kk : Q (.inl (some (.int (nn (rs_n W + 1))))) (mk dy (up2 (up2 σ 2 (rs_n W) x) 1 3 (nn (rs_n W + 1))) ρ τ)) : go (tb_P L xs) 45 0 [some (.ref 1), some (.int x)] [] (mk dy σ ρ τ) Q := by
  have h3 := hW.1.1
  refine g_aload_n k45_0 rfl ?_
  refine m_get k45_1 f45_1 rfl rfl ?_
  refine g_aload_n k45_4 rfl ?_
  refine m_get k45_5 f45_5 rfl rfl ?_
  rw [h3]
  refine g_iload_n k45_8 rfl ?_
  refine m_iast k45_9 rfl rfl (by omega) (by omega) ?_
  refine g_aload_n k45_10 rfl ?_
  refine g_dup k45_11 rfl ?_
  refine m_get k45_12 f45_12 rfl rfl ?_
  rw [up2_ne (by omega), h3]
  refine g_iconst (v := nn 1) k45_15 ci_1 ?_
  refine g_iaddN k45_16 ?_
  refine m_putI k45_17 f45_17 rfl rfl rfl ?_
  refine g_aload_n k45_20 rfl ?_
  refine m_get k45_21 f45_21 rfl rfl ?_
  rw [up2_at]
  refine g_ireturn k45_24 t45 ?_
  exact kk
theorem s_42 (hdy : dy.length < 100000) (ok : TOK A) (wo : WOK W) (hS : XS A W F E dy σ ρ τ) (k1 : ¬ wd_ok x → oX A W F E σ τ (dy ++ [(14, 0)]) σ ρ τ → Q (.inr 9) (mk (dy ++ [(14, 0)]) σ ρ τ)) (k2 : wd_ok x → rs_n W = 24 → oX A W F E σ τ (dy ++ [(15, 0)]) σ ρ τ → Q (.inr 10) (mk (dy ++ [(15, 0)]) σ ρ τ)) (k0 : wd_ok x → rs_n W < 24 → ∀ σ', oX A ((rs_n W + 1, fun j => if j = rs_n W then x else rs_w W j), W.2) F E σ τ dy σ' ρ τ → Q (.inl (some (.int (nn (rs_n W + 1))))) (mk dy σ' ρ τ)) : go (tb_P L xs) 42 0 [some (.ref 0), some (.int x)] [] (mk dy σ ρ τ) Q := by
  have hn := wo.1.1
  have h3 := hS.2.2.1.1
  unfold wd_ok at k0 k1 k2
  by_cases hx : (0 ≤ x.toInt ∧ x.toInt ≤ 9) ∨ (20 ≤ x.toInt ∧ x.toInt ≤ 25) ∨ x.toInt = 40 ∨ (50 ≤ x.toInt ∧ x.toInt ≤ 58)
  · by_cases hf : rs_n W = 24
    · refine g_iload_n k42_0 rfl ?_
      refine g_callS1 k42_1 s42_1 c42_1 l43 (by omega) rfl rfl r42_1 ?_
      refine s_43 ?_
      refine af_ret ?_
      refine g_ifne_t k42_4 (t := 15) rfl (by rw [bb_t hx]; decide) ?_
      refine g_aload_n k42_15 rfl ?_
      refine m_get k42_16 f42_16 rfl rfl ?_
      refine m_get k42_19 f42_19 rfl rfl ?_
      rw [h3]
      refine g_bipush (v := nn 24) k42_22 cb_24 ?_
      refine g_icne_f k42_24 (t := 35) rfl (by rw [hf]) ?_
      refine m_throw k42_27 n42_27 k42_30 k42_31 k42_34 x42_27 (by omega) r42_27 (o42 _) ?_
      exact k2 hx hf (hS.thr ok)
    · refine g_iload_n k42_0 rfl ?_
      refine g_callS1 k42_1 s42_1 c42_1 l43 (by omega) rfl rfl r42_1 ?_
      refine s_43 ?_
      refine af_ret ?_
      refine g_ifne_t k42_4 (t := 15) rfl (by rw [bb_t hx]; decide) ?_
      refine g_aload_n k42_15 rfl ?_
      refine m_get k42_16 f42_16 rfl rfl ?_
      refine m_get k42_19 f42_19 rfl rfl ?_
      rw [h3]
      refine g_bipush (v := nn 24) k42_22 cb_24 ?_
      refine g_icne_t k42_24 (t := 35) rfl (by rw [Ne, nn_inj (by omega) (by omega)]; exact hf) ?_
      refine g_aload_n k42_35 rfl ?_
      refine m_get k42_36 f42_36 rfl rfl ?_
      refine g_iload_n k42_39 rfl ?_
      refine m_callV1 k42_40 s42_40 c42_40 l45 (by omega) rfl rfl r42_40 rfl ?_
      refine s_45 hdy wo hS.2.2 (by omega) ?_
      refine af_ret ?_
      refine g_ireturn k42_43 t42 ?_
      refine k0 hx (by omega) _ ⟨⟨hS.1.agr ok ⟨fun a k h => by rw [up2_ne (by omega), up2_ne (by omega)], fun a k s h1 _ _ => by rw [up2_ne (by omega), up2_ne (by omega)]⟩, hS.2.1, ⟨⟨up2_at, fun i hi => ?_⟩, hS.2.2.2⟩⟩, ((fX.rf σ).up (by omega)).up (by omega), tE.rf τ⟩
      have hi : i < rs_n W + 1 := hi
      show _ = if i = rs_n W then x else rs_w W i
      rw [up2_ne (by omega), up2_of]
      by_cases c : i = rs_n W
      · rw [if_pos c, if_pos c]
      · rw [if_neg c, if_neg c]
        exact hS.2.2.1.2 i (by omega)
  · refine g_iload_n k42_0 rfl ?_
    refine g_callS1 k42_1 s42_1 c42_1 l43 (by omega) rfl rfl r42_1 ?_
    refine s_43 ?_
    refine af_ret ?_
    refine g_ifne_f k42_4 (t := 15) rfl (bb_f hx) ?_
    refine m_throw k42_7 n42_7 k42_10 k42_11 k42_14 x42_7 (by omega) r42_7 (o42 _) ?_
    exact k1 hx (hS.thr ok)
theorem s_66 (hdy : dy.length < 100000) (ok : TOK A) (hS : XS A W F E dy σ ρ τ) (k1 : ¬ (td_no A x z true = false) → oX A W F E σ τ (dy ++ [(14, 0)]) σ ρ τ → Q (.inr 9) (mk (dy ++ [(14, 0)]) σ ρ τ)) (k0 : td_no A x z true = false → ∀ ρ', oX (td_sg A x.toInt.toNat z.toInt.toNat) W F E σ τ dy σ ρ' τ → Q (.inl none) (mk dy σ ρ' τ)) : go (tb_P L xs) 66 0 [some (.ref 0), some (.int x), some (.int z), none, none] [] (mk dy σ ρ τ) Q := by
  have bad : ¬ (td_no A x z true = false) → Q (.inr 9) (mk (dy ++ [(14, 0)]) σ ρ τ) := fun h => k1 h (hS.thr ok)
  have hne := ok.2.2.1
  have hnf := ok.1
  have nox : td_no A x z true = false ↔ (0 ≤ x.toInt ∧ x.toInt < td_ne A) ∧ ((0 ≤ z.toInt ∧ z.toInt < td_nf A) ∧ td_ft A z.toInt.toNat = true) ∧ (decide (td_ma A x.toInt.toNat = 0) && td_hl A z.toInt.toNat) = false := by
    unfold td_no
    rw [Bool.not_eq_false', Bool.and_eq_true, Bool.and_eq_true, Bool.and_eq_true, decide_eq_true_eq, decide_eq_true_eq, beq_iff_eq, Bool.not_eq_true']
    constructor
    · rintro ⟨⟨⟨h1, h2⟩, h3⟩, h4⟩
      exact ⟨h1, ⟨h2, h3⟩, h4⟩
    · rintro ⟨h1, ⟨h2, h3⟩, h4⟩
      exact ⟨⟨⟨h1, h2⟩, h3⟩, h4⟩
  by_cases hx : 0 ≤ x.toInt ∧ x.toInt < td_ne A
  · obtain ⟨e, rfl, he⟩ := in_nn hx
    have e1 : (nn e).toInt.toNat = e := by rw [nn_toInt (by omega)]; rfl
    by_cases hz : (0 ≤ z.toInt ∧ z.toInt < td_nf A) ∧ td_ft A z.toInt.toNat = true
    · obtain ⟨f, rfl, hf⟩ := in_nn hz.1
      have e2 : (nn f).toInt.toNat = f := by rw [nn_toInt (by omega)]; rfl
      have ht := hz.2
      rw [e2] at ht
      rw [e1, e2] at nox
      obtain ⟨⟨h47, hA8, hA3⟩, hma, _⟩ := (hS.1.2.1.2.1 e he).2
      have hm1 := (ok.2.2.2.1 e he).1
      obtain ⟨⟨hf47, hA, _⟩, _⟩ := (hS.1.1.2 f hf).2
      by_cases hl : (decide (td_ma A e = 0) && td_hl A f) = false
      · have hq := k0 (nox.mpr ⟨hx, ⟨hz.1, ht⟩, hl⟩)
        rw [e1, e2] at hq
        refine g_aload_n k66_0 rfl ?_
        refine g_iload_n k66_1 rfl ?_
        refine m_callV1 k66_2 s66_2 c66_2 l67 (by omega) rfl rfl r66_2 rfl ?_
        refine s_67a hdy ok hS.1 he ?_
        refine af_ret ?_
        refine g_astore_n k66_5 rfl rfl ?_
        refine g_aload_n k66_6 rfl ?_
        refine g_iload_n k66_7 rfl ?_
        refine m_callV1 k66_8 s66_8 c66_8 l68 (by omega) rfl rfl r66_8 rfl ?_
        refine s_68a hdy ok hS.1 hf ht ?_
        refine af_ret ?_
        refine g_astore k66_11 rfl rfl ?_
        refine g_aload_n k66_13 rfl ?_
        refine g_aload k66_14 rfl ?_
        refine m_callV1 k66_16 s66_16 c66_16 l70 (by omega) rfl rfl r66_16 (by assumption) ?_
        refine s_70 ok hS.1 he hf ?_
        refine af_ret ?_
        rw [bb_t (by rw [hl]; rfl)]
        refine g_callS1 k66_19 s66_19 c66_19 l69 (by omega) rfl rfl r66_19 ?_
        refine s_69a ?_
        refine af_void ?_
        refine g_aload_n k66_22 rfl ?_
        refine g_aload k66_23 rfl ?_
        refine m_putR k66_25 f66_25 (by assumption) rfl rfl ?_
        refine g_return k66_28 t66 ?_
        exact hq _ ⟨⟨hS.1.sg he, hS.2.1, hS.2.2⟩, fX.rf σ, tE.rf τ⟩
      · have hl' : (decide (td_ma A e = 0) && td_hl A f) = true := by simpa using hl
        refine g_aload_n k66_0 rfl ?_
        refine g_iload_n k66_1 rfl ?_
        refine m_callV1 k66_2 s66_2 c66_2 l67 (by omega) rfl rfl r66_2 rfl ?_
        refine s_67a hdy ok hS.1 he ?_
        refine af_ret ?_
        refine g_astore_n k66_5 rfl rfl ?_
        refine g_aload_n k66_6 rfl ?_
        refine g_iload_n k66_7 rfl ?_
        refine m_callV1 k66_8 s66_8 c66_8 l68 (by omega) rfl rfl r66_8 rfl ?_
        refine s_68a hdy ok hS.1 hf ht ?_
        refine af_ret ?_
        refine g_astore k66_11 rfl rfl ?_
        refine g_aload_n k66_13 rfl ?_
        refine g_aload k66_14 rfl ?_
        refine m_callV1 k66_16 s66_16 c66_16 l70 (by omega) rfl rfl r66_16 (by assumption) ?_
        refine s_70 ok hS.1 he hf ?_
        refine af_ret ?_
        rw [bb_f (by rw [hl']; decide)]
        refine g_callS1 k66_19 s66_19 c66_19 l69 (by omega) rfl rfl r66_19 ?_
        refine s_69b ?_
        refine af_thr (o66 _) ?_
        exact bad (fun q => hl (nox.mp q).2.2)
    · refine g_aload_n k66_0 rfl ?_
      refine g_iload_n k66_1 rfl ?_
      refine m_callV1 k66_2 s66_2 c66_2 l67 (by omega) rfl rfl r66_2 rfl ?_
      refine s_67a hdy ok hS.1 he ?_
      refine af_ret ?_
      refine g_astore_n k66_5 rfl rfl ?_
      refine g_aload_n k66_6 rfl ?_
      refine g_iload_n k66_7 rfl ?_
      refine m_callV1 k66_8 s66_8 c66_8 l68 (by omega) rfl rfl r66_8 rfl ?_
      refine s_68b hdy ok hS.1 hz ?_
      refine af_thr (o66 _) ?_
      exact bad (fun q => hz (nox.mp q).2.1)
  · refine g_aload_n k66_0 rfl ?_
    refine g_iload_n k66_1 rfl ?_
    refine m_callV1 k66_2 s66_2 c66_2 l67 (by omega) rfl rfl r66_2 rfl ?_
    refine s_67b hdy ok hS.1 hx ?_
    refine af_thr (o66 _) ?_
    exact bad (fun q => hx (nox.mp q).1)
theorem s_77 (hdy : dy.length < 100000) (ok : TOK A) (hS : XS A W F E dy σ ρ τ) (k1 : ¬ (td_no A x z false = false ∧ td_rf A x.toInt.toNat ≠ none) → oX A W F E σ τ (dy ++ [(14, 0)]) σ ρ τ → Q (.inr 9) (mk (dy ++ [(14, 0)]) σ ρ τ)) (k0 : td_no A x z false = false → td_rf A x.toInt.toNat ≠ none → ∀ ρ', oX (td_sw A x.toInt.toNat z.toInt.toNat) W F E σ τ dy σ ρ' τ → Q (.inl none) (mk dy σ ρ' τ)) : go (tb_P L xs) 77 0 [some (.ref 0), some (.int x), some (.int z), none, none] [] (mk dy σ ρ τ) Q := by
  have bad : ¬ (td_no A x z false = false ∧ td_rf A x.toInt.toNat ≠ none) → Q (.inr 9) (mk (dy ++ [(14, 0)]) σ ρ τ) := fun h => k1 h (hS.thr ok)
  have hne := ok.2.2.1
  have hnf := ok.1
  have nox : td_no A x z false = false ↔ (0 ≤ x.toInt ∧ x.toInt < td_ne A) ∧ ((0 ≤ z.toInt ∧ z.toInt < td_nf A) ∧ td_ft A z.toInt.toNat = false) ∧ (decide (td_ma A x.toInt.toNat = 0) && td_hl A z.toInt.toNat) = false := by
    unfold td_no
    rw [Bool.not_eq_false', Bool.and_eq_true, Bool.and_eq_true, Bool.and_eq_true, decide_eq_true_eq, decide_eq_true_eq, beq_iff_eq, Bool.not_eq_true']
    constructor
    · rintro ⟨⟨⟨h1, h2⟩, h3⟩, h4⟩
      exact ⟨h1, ⟨h2, h3⟩, h4⟩
    · rintro ⟨h1, ⟨h2, h3⟩, h4⟩
      exact ⟨⟨⟨h1, h2⟩, h3⟩, h4⟩
  by_cases hx : 0 ≤ x.toInt ∧ x.toInt < td_ne A
  · obtain ⟨e, rfl, he⟩ := in_nn hx
    have e1 : (nn e).toInt.toNat = e := by rw [nn_toInt (by omega)]; rfl
    by_cases hz : (0 ≤ z.toInt ∧ z.toInt < td_nf A) ∧ td_ft A z.toInt.toNat = false
    · obtain ⟨f, rfl, hf⟩ := in_nn hz.1
      have e2 : (nn f).toInt.toNat = f := by rw [nn_toInt (by omega)]; rfl
      have ht := hz.2
      rw [e2] at ht
      rw [e1, e2] at nox
      obtain ⟨⟨h47, hA8, hA3⟩, hma, _⟩ := (hS.1.2.1.2.1 e he).2
      have hm1 := (ok.2.2.2.1 e he).1
      obtain ⟨⟨hf47, hA, _⟩, _⟩ := (hS.1.1.2 f hf).2
      obtain ⟨_, _, g2, _⟩ := (hS.1.2.1.2.1 e he).2.2
      rw [e1] at bad
      cases hg : td_rf A e with
      | none =>
        rw [hg] at g2
        have g2 : ρ (E e) 2 = none := g2
        refine g_aload_n k77_0 rfl ?_
        refine g_iload_n k77_1 rfl ?_
        refine m_callV1 k77_2 s77_2 c77_2 l67 (by omega) rfl rfl r77_2 rfl ?_
        refine s_67a hdy ok hS.1 he ?_
        refine af_ret ?_
        refine g_astore_n k77_5 rfl rfl ?_
        refine g_aload_n k77_6 rfl ?_
        refine g_iload_n k77_7 rfl ?_
        refine m_callV1 k77_8 s77_8 c77_8 l74 (by omega) rfl rfl r77_8 rfl ?_
        refine s_74a hdy ok hS.1 hf ht ?_
        refine af_ret ?_
        refine g_astore k77_11 rfl rfl ?_
        refine g_aload_n k77_13 rfl ?_
        refine m_get k77_14 f77_14 (by assumption) rfl ?_
        rw [g2, va_rn]
        refine g_ifnull_t k77_17 (t := 24) rfl ?_
        refine g_iconst (v := nn 0) k77_24 ci_0 ?_
        refine g_callS1 k77_25 s77_25 c77_25 l69 (by omega) rfl rfl r77_25 ?_
        refine s_69b ?_
        refine af_thr (o77 _) ?_
        exact bad (fun q => q.2 hg)
      | some u =>
        rw [hg] at g2
        have g2 : ρ (E e) 2 = some (E u) := g2
        have hm := ((ok.2.2.2.1 e he).2.2.1 u hg).2.1
        have hq := k0 (nox.mpr ⟨hx, ⟨hz.1, ht⟩, by rw [hm]; rfl⟩) (by rw [e1, hg]; exact fun q => by cases q)
        rw [e1, e2] at hq
        refine g_aload_n k77_0 rfl ?_
        refine g_iload_n k77_1 rfl ?_
        refine m_callV1 k77_2 s77_2 c77_2 l67 (by omega) rfl rfl r77_2 rfl ?_
        refine s_67a hdy ok hS.1 he ?_
        refine af_ret ?_
        refine g_astore_n k77_5 rfl rfl ?_
        refine g_aload_n k77_6 rfl ?_
        refine g_iload_n k77_7 rfl ?_
        refine m_callV1 k77_8 s77_8 c77_8 l74 (by omega) rfl rfl r77_8 rfl ?_
        refine s_74a hdy ok hS.1 hf ht ?_
        refine af_ret ?_
        refine g_astore k77_11 rfl rfl ?_
        refine g_aload_n k77_13 rfl ?_
        refine m_get k77_14 f77_14 (by assumption) rfl ?_
        rw [g2, va_rs]
        refine g_ifnull_f k77_17 ?_
        refine g_iconst (v := nn 1) k77_20 ci_1 ?_
        refine g_goto k77_21 (t := 25) rfl ?_
        refine g_callS1 k77_25 s77_25 c77_25 l69 (by omega) rfl rfl r77_25 ?_
        refine s_69a ?_
        refine af_void ?_
        refine g_aload_n k77_28 rfl ?_
        refine g_aload k77_29 rfl ?_
        refine m_putR k77_31 f77_31 (by assumption) rfl rfl ?_
        refine g_return k77_34 t77 ?_
        exact hq _ ⟨⟨hS.1.sw he, hS.2.1, hS.2.2⟩, fX.rf σ, tE.rf τ⟩
    · refine g_aload_n k77_0 rfl ?_
      refine g_iload_n k77_1 rfl ?_
      refine m_callV1 k77_2 s77_2 c77_2 l67 (by omega) rfl rfl r77_2 rfl ?_
      refine s_67a hdy ok hS.1 he ?_
      refine af_ret ?_
      refine g_astore_n k77_5 rfl rfl ?_
      refine g_aload_n k77_6 rfl ?_
      refine g_iload_n k77_7 rfl ?_
      refine m_callV1 k77_8 s77_8 c77_8 l74 (by omega) rfl rfl r77_8 rfl ?_
      refine s_74b hdy ok hS.1 hz ?_
      refine af_thr (o77 _) ?_
      exact bad (fun q => hz (nox.mp q.1).2.1)
  · refine g_aload_n k77_0 rfl ?_
    refine g_iload_n k77_1 rfl ?_
    refine m_callV1 k77_2 s77_2 c77_2 l67 (by omega) rfl rfl r77_2 rfl ?_
    refine s_67b hdy ok hS.1 hx ?_
    refine af_thr (o77 _) ?_
    exact bad (fun q => hx (nox.mp q.1).1)
theorem s_73 (hdy : dy.length < 100000) (ok : TOK A) (hS : XS A W F E dy σ ρ τ) (k1 : ¬ aok A x w z → oX A W F E σ τ (dy ++ [(14, 0)]) σ ρ τ → Q (.inr 9) (mk (dy ++ [(14, 0)]) σ ρ τ)) (k0 : aok A x w z → ∀ ρ', oX (td_sa A x.toInt.toNat w.toInt.toNat z.toInt.toNat) W F E σ τ dy σ ρ' τ → Q (.inl none) (mk dy σ ρ' τ)) : go (tb_P L xs) 73 0 [some (.ref 0), some (.int x), some (.int w), some (.int z), none, none] [] (mk dy σ ρ τ) Q := by
  have bad : ¬ aok A x w z → Q (.inr 9) (mk (dy ++ [(14, 0)]) σ ρ τ) := fun h => k1 h (hS.thr ok)
  have hne := ok.2.2.1
  have hnf := ok.1
  have nox : td_no A x z false = false ↔ (0 ≤ x.toInt ∧ x.toInt < td_ne A) ∧ ((0 ≤ z.toInt ∧ z.toInt < td_nf A) ∧ td_ft A z.toInt.toNat = false) ∧ (decide (td_ma A x.toInt.toNat = 0) && td_hl A z.toInt.toNat) = false := by
    unfold td_no
    rw [Bool.not_eq_false', Bool.and_eq_true, Bool.and_eq_true, Bool.and_eq_true, decide_eq_true_eq, decide_eq_true_eq, beq_iff_eq, Bool.not_eq_true']
    constructor
    · rintro ⟨⟨⟨h1, h2⟩, h3⟩, h4⟩
      exact ⟨h1, ⟨h2, h3⟩, h4⟩
    · rintro ⟨h1, ⟨h2, h3⟩, h4⟩
      exact ⟨⟨⟨h1, h2⟩, h3⟩, h4⟩
  by_cases hx : 0 ≤ x.toInt ∧ x.toInt < td_ne A
  · obtain ⟨e, rfl, he⟩ := in_nn hx
    have e1 : (nn e).toInt.toNat = e := by rw [nn_toInt (by omega)]; rfl
    by_cases hz : (0 ≤ z.toInt ∧ z.toInt < td_nf A) ∧ td_ft A z.toInt.toNat = false
    · obtain ⟨f, rfl, hf⟩ := in_nn hz.1
      have e2 : (nn f).toInt.toNat = f := by rw [nn_toInt (by omega)]; rfl
      have ht := hz.2
      rw [e2] at ht
      rw [e1, e2] at nox
      obtain ⟨⟨h47, hA8, hA3⟩, hma, _⟩ := (hS.1.2.1.2.1 e he).2
      have hm1 := (ok.2.2.2.1 e he).1
      obtain ⟨⟨hf47, hA, _⟩, _⟩ := (hS.1.1.2 f hf).2
      have hq := k0
      unfold aok at bad hq
      rw [nox, e1] at bad hq
      rw [e2] at hq
      by_cases hw : 0 ≤ w.toInt ∧ w.toInt < 6
      · obtain ⟨v, rfl, hv⟩ := in_nn (n := 6) hw
        have e3 : (nn v).toInt.toNat = v := by rw [nn_toInt (by omega)]; rfl
        rw [e3] at bad hq
        have hmo : (if (nn v).toInt < 3 then nn 0 else nn 1) = nn (v / 3) := by
          rw [nn_toInt (by omega)]
          by_cases c : v < 3
          · rw [if_pos (by omega), show v / 3 = 0 by omega]
          · rw [if_neg (by omega), show v / 3 = 1 by omega]
        by_cases hm : v / 3 = td_ma A e
        · by_cases hl : (decide (td_ma A e = 0) && td_hl A f) = false
          · have hq := hq ⟨⟨hx, ⟨hz.1, ht⟩, hl⟩, hw, hm⟩
            refine g_aload_n k73_0 rfl ?_
            refine g_iload_n k73_1 rfl ?_
            refine m_callV1 k73_2 s73_2 c73_2 l67 (by omega) rfl rfl r73_2 rfl ?_
            refine s_67a hdy ok hS.1 he ?_
            refine af_ret ?_
            refine g_astore k73_5 rfl rfl ?_
            refine g_aload_n k73_7 rfl ?_
            refine g_iload_n k73_8 rfl ?_
            refine m_callV1 k73_9 s73_9 c73_9 l74 (by omega) rfl rfl r73_9 rfl ?_
            refine s_74a hdy ok hS.1 hf ht ?_
            refine af_ret ?_
            refine g_astore k73_12 rfl rfl ?_
            refine g_iload_n k73_14 rfl ?_
            refine g_callS1 k73_15 s73_15 c73_15 l40 (by omega) rfl rfl r73_15 ?_
            refine s_40 ?_
            refine af_ret ?_
            refine g_ifeq_f k73_18 (t := 47) rfl (by rw [bb_t hw]; decide) ?_
            refine g_iload_n k73_21 rfl ?_
            refine g_callS1 k73_22 s73_22 c73_22 l75 (by omega) rfl rfl r73_22 ?_
            refine s_75 ?_
            refine af_ret ?_
            rw [hmo]
            refine g_aload k73_25 rfl ?_
            refine m_get k73_27 f73_27 (by assumption) rfl ?_
            rw [hma]
            refine g_icne_f k73_30 (t := 47) rfl (by rw [hm]) ?_
            refine g_aload k73_33 rfl ?_
            refine g_aload k73_35 rfl ?_
            refine m_callV1 k73_37 s73_37 c73_37 l70 (by omega) rfl rfl r73_37 (by assumption) ?_
            refine s_70 ok hS.1 he hf ?_
            refine af_ret ?_
            refine g_ifeq_f k73_40 (t := 47) rfl (by rw [bb_t (by rw [hl]; rfl)]; decide) ?_
            refine g_iconst (v := nn 1) k73_43 ci_1 ?_
            refine g_goto k73_44 (t := 48) rfl ?_
            refine g_callS1 k73_48 s73_48 c73_48 l69 (by omega) rfl rfl r73_48 ?_
            refine s_69a ?_
            refine af_void ?_
            refine g_aload k73_51 rfl ?_
            refine m_get k73_53 f73_53 (by assumption) rfl ?_
            refine g_iload_n k73_56 rfl ?_
            refine g_aload k73_57 rfl ?_
            refine m_aast k73_59 (by assumption) hA ⟨⟨by omega, by omega⟩, rfl⟩ rfl (by omega) (by omega) ?_
            refine g_return k73_60 t73 ?_
            exact hq _ ⟨⟨hS.1.sa he, hS.2.1, hS.2.2⟩, fX.rf σ, tE.rf τ⟩
          · refine g_aload_n k73_0 rfl ?_
            refine g_iload_n k73_1 rfl ?_
            refine m_callV1 k73_2 s73_2 c73_2 l67 (by omega) rfl rfl r73_2 rfl ?_
            refine s_67a hdy ok hS.1 he ?_
            refine af_ret ?_
            refine g_astore k73_5 rfl rfl ?_
            refine g_aload_n k73_7 rfl ?_
            refine g_iload_n k73_8 rfl ?_
            refine m_callV1 k73_9 s73_9 c73_9 l74 (by omega) rfl rfl r73_9 rfl ?_
            refine s_74a hdy ok hS.1 hf ht ?_
            refine af_ret ?_
            refine g_astore k73_12 rfl rfl ?_
            refine g_iload_n k73_14 rfl ?_
            refine g_callS1 k73_15 s73_15 c73_15 l40 (by omega) rfl rfl r73_15 ?_
            refine s_40 ?_
            refine af_ret ?_
            refine g_ifeq_f k73_18 (t := 47) rfl (by rw [bb_t hw]; decide) ?_
            refine g_iload_n k73_21 rfl ?_
            refine g_callS1 k73_22 s73_22 c73_22 l75 (by omega) rfl rfl r73_22 ?_
            refine s_75 ?_
            refine af_ret ?_
            rw [hmo]
            refine g_aload k73_25 rfl ?_
            refine m_get k73_27 f73_27 (by assumption) rfl ?_
            rw [hma]
            refine g_icne_f k73_30 (t := 47) rfl (by rw [hm]) ?_
            refine g_aload k73_33 rfl ?_
            refine g_aload k73_35 rfl ?_
            refine m_callV1 k73_37 s73_37 c73_37 l70 (by omega) rfl rfl r73_37 (by assumption) ?_
            refine s_70 ok hS.1 he hf ?_
            refine af_ret ?_
            refine g_ifeq_t k73_40 (t := 47) rfl (bb_f (by simpa using hl)) ?_
            refine g_iconst (v := nn 0) k73_47 ci_0 ?_
            refine g_callS1 k73_48 s73_48 c73_48 l69 (by omega) rfl rfl r73_48 ?_
            refine s_69b ?_
            refine af_thr (o73 _) ?_
            exact bad (fun q => hl q.1.2.2)
        · refine g_aload_n k73_0 rfl ?_
          refine g_iload_n k73_1 rfl ?_
          refine m_callV1 k73_2 s73_2 c73_2 l67 (by omega) rfl rfl r73_2 rfl ?_
          refine s_67a hdy ok hS.1 he ?_
          refine af_ret ?_
          refine g_astore k73_5 rfl rfl ?_
          refine g_aload_n k73_7 rfl ?_
          refine g_iload_n k73_8 rfl ?_
          refine m_callV1 k73_9 s73_9 c73_9 l74 (by omega) rfl rfl r73_9 rfl ?_
          refine s_74a hdy ok hS.1 hf ht ?_
          refine af_ret ?_
          refine g_astore k73_12 rfl rfl ?_
          refine g_iload_n k73_14 rfl ?_
          refine g_callS1 k73_15 s73_15 c73_15 l40 (by omega) rfl rfl r73_15 ?_
          refine s_40 ?_
          refine af_ret ?_
          refine g_ifeq_f k73_18 (t := 47) rfl (by rw [bb_t hw]; decide) ?_
          refine g_iload_n k73_21 rfl ?_
          refine g_callS1 k73_22 s73_22 c73_22 l75 (by omega) rfl rfl r73_22 ?_
          refine s_75 ?_
          refine af_ret ?_
          rw [hmo]
          refine g_aload k73_25 rfl ?_
          refine m_get k73_27 f73_27 (by assumption) rfl ?_
          rw [hma]
          refine g_icne_t k73_30 (t := 47) rfl (by rw [Ne, nn_inj (by omega) (by omega)]; exact hm) ?_
          refine g_iconst (v := nn 0) k73_47 ci_0 ?_
          refine g_callS1 k73_48 s73_48 c73_48 l69 (by omega) rfl rfl r73_48 ?_
          refine s_69b ?_
          refine af_thr (o73 _) ?_
          exact bad (fun q => hm q.2.2)
      · refine g_aload_n k73_0 rfl ?_
        refine g_iload_n k73_1 rfl ?_
        refine m_callV1 k73_2 s73_2 c73_2 l67 (by omega) rfl rfl r73_2 rfl ?_
        refine s_67a hdy ok hS.1 he ?_
        refine af_ret ?_
        refine g_astore k73_5 rfl rfl ?_
        refine g_aload_n k73_7 rfl ?_
        refine g_iload_n k73_8 rfl ?_
        refine m_callV1 k73_9 s73_9 c73_9 l74 (by omega) rfl rfl r73_9 rfl ?_
        refine s_74a hdy ok hS.1 hf ht ?_
        refine af_ret ?_
        refine g_astore k73_12 rfl rfl ?_
        refine g_iload_n k73_14 rfl ?_
        refine g_callS1 k73_15 s73_15 c73_15 l40 (by omega) rfl rfl r73_15 ?_
        refine s_40 ?_
        refine af_ret ?_
        refine g_ifeq_t k73_18 (t := 47) rfl (bb_f hw) ?_
        refine g_iconst (v := nn 0) k73_47 ci_0 ?_
        refine g_callS1 k73_48 s73_48 c73_48 l69 (by omega) rfl rfl r73_48 ?_
        refine s_69b ?_
        refine af_thr (o73 _) ?_
        exact bad (fun q => hw q.2.1)
    · refine g_aload_n k73_0 rfl ?_
      refine g_iload_n k73_1 rfl ?_
      refine m_callV1 k73_2 s73_2 c73_2 l67 (by omega) rfl rfl r73_2 rfl ?_
      refine s_67a hdy ok hS.1 he ?_
      refine af_ret ?_
      refine g_astore k73_5 rfl rfl ?_
      refine g_aload_n k73_7 rfl ?_
      refine g_iload_n k73_8 rfl ?_
      refine m_callV1 k73_9 s73_9 c73_9 l74 (by omega) rfl rfl r73_9 rfl ?_
      refine s_74b hdy ok hS.1 hz ?_
      refine af_thr (o73 _) ?_
      exact bad (fun q => hz (nox.mp q.1).2.1)
  · refine g_aload_n k73_0 rfl ?_
    refine g_iload_n k73_1 rfl ?_
    refine m_callV1 k73_2 s73_2 c73_2 l67 (by omega) rfl rfl r73_2 rfl ?_
    refine s_67b hdy ok hS.1 hx ?_
    refine af_thr (o73 _) ?_
    exact bad (fun q => hx (nox.mp q.1).1)
theorem s_84 (hdy : dy.length < 100000) (ok : TOK A) (hS : XS A W F E dy σ ρ τ) (k1 : ¬ rok A x → oX A W F E σ τ (dy ++ [(14, 0)]) σ ρ τ → Q (.inr 9) (mk (dy ++ [(14, 0)]) σ ρ τ)) (k0 : rok A x → ∀ ρ', oX (td_sr A x.toInt.toNat) W F E σ τ dy σ ρ' τ → Q (.inl none) (mk dy σ ρ' τ)) : go (tb_P L xs) 84 0 [some (.ref 0), some (.int x), none] [] (mk dy σ ρ τ) Q := by
  have bad : ¬ rok A x → Q (.inr 9) (mk (dy ++ [(14, 0)]) σ ρ τ) := fun h => k1 h (hS.thr ok)
  have hnf := ok.1
  by_cases hz : (0 ≤ x.toInt ∧ x.toInt < td_nf A) ∧ td_ft A x.toInt.toNat = false
  · obtain ⟨f, rfl, hf⟩ := in_nn hz.1
    have e2 : (nn f).toInt.toNat = f := by rw [nn_toInt (by omega)]; rfl
    have ht := hz.2
    have hq := k0
    unfold rok at bad hq
    rw [e2] at ht bad hq
    obtain ⟨⟨hf47, hA, _⟩, _⟩ := (hS.1.1.2 f hf).2
    by_cases hp : td_hp A f = true
    · refine g_aload_n k84_0 rfl ?_
      refine g_iload_n k84_1 rfl ?_
      refine m_callV1 k84_2 s84_2 c84_2 l74 (by omega) rfl rfl r84_2 rfl ?_
      refine s_74a hdy ok hS.1 hf ht ?_
      refine af_ret ?_
      refine g_astore_n k84_5 rfl rfl ?_
      refine g_aload_n k84_6 rfl ?_
      refine m_callV0 k84_7 s84_7 c84_7 l80 (by omega) trivial rfl r84_7 (by assumption) ?_
      refine s_80 hS.1 hf ?_
      refine af_ret ?_
      refine g_ifne_t k84_10 (t := 17) rfl (by rw [bb_t hp]; decide) ?_
      refine g_iconst (v := nn 0) k84_17 ci_0 ?_
      refine g_callS1 k84_18 s84_18 c84_18 l69 (by omega) rfl rfl r84_18 ?_
      refine s_69b ?_
      refine af_thr (o84 _) ?_
      exact bad (fun q => by rw [hp] at q; cases q.2.2)
    · refine g_aload_n k84_0 rfl ?_
      refine g_iload_n k84_1 rfl ?_
      refine m_callV1 k84_2 s84_2 c84_2 l74 (by omega) rfl rfl r84_2 rfl ?_
      refine s_74a hdy ok hS.1 hf ht ?_
      refine af_ret ?_
      refine g_astore_n k84_5 rfl rfl ?_
      refine g_aload_n k84_6 rfl ?_
      refine m_callV0 k84_7 s84_7 c84_7 l80 (by omega) trivial rfl r84_7 (by assumption) ?_
      refine s_80 hS.1 hf ?_
      refine af_ret ?_
      refine g_ifne_f k84_10 (t := 17) rfl (bb_f hp) ?_
      refine g_iconst (v := nn 1) k84_13 ci_1 ?_
      refine g_goto k84_14 (t := 18) rfl ?_
      refine g_callS1 k84_18 s84_18 c84_18 l69 (by omega) rfl rfl r84_18 ?_
      refine s_69a ?_
      refine af_void ?_
      refine g_aload_n k84_21 rfl ?_
      refine m_get k84_22 f84_22 rfl rfl ?_
      refine g_aload_n k84_25 rfl ?_
      refine m_putR k84_26 f84_26 rfl rfl rfl ?_
      refine g_return k84_29 t84 ?_
      exact hq ⟨hz.1, ht, by simpa using hp⟩ _ ⟨⟨hS.1.sr, hS.2.1, hS.2.2⟩, fX.rf σ, tE.rf τ⟩
  · refine g_aload_n k84_0 rfl ?_
    refine g_iload_n k84_1 rfl ?_
    refine m_callV1 k84_2 s84_2 c84_2 l74 (by omega) rfl rfl r84_2 rfl ?_
    refine s_74b hdy ok hS.1 hz ?_
    refine af_thr (o84 _) ?_
    exact bad (fun q => hz ⟨q.1, q.2.1⟩)
end ZC
