/-! The class: what is mentioned; duties; rows. -/
section YE
variable {L : Nat} {xs : Nat → Int32} {Q : am_A → am_H → Prop} {dy dy' : List (Nat × Nat)} {σ σ' : Nat → Nat → Int32} {ρ ρ' : Nat → Nat → Option Nat} {τ τ' : Nat → Nat → Int64} {A : TD} {W : RS} {F E : Nat → Nat} {f e u r ad m kd : Nat} {rw : Nat → Int32} {s : Nat → Nat} {x : Int32} {M : Nat → Bool}
theorem bt_mo (hX : RepX A F E dy σ ρ) (hf : f < td_nf A) : bt (σ (F f) 5) (td_mn A f) := (hX.1.2 f hf).2.2.2.2.2
theorem s_32 (hx : bt x M) (kk : Q (.inl (some (.int (nn (bn M))))) (mk dy σ ρ τ)) : go (tb_P L xs) 32 0 [some (.int x)] [] (mk dy σ ρ τ) Q := by
  refine g_iload_n k32_0 rfl ?_
  refine g_iload_n k32_1 rfl ?_
  refine g_iconst (v := nn 1) k32_2 ci_1 ?_
  refine g_iushr k32_3 ?_
  refine g_ldc k32_4 n32_4 ?_
  refine g_iand k32_7 ?_
  refine g_isub k32_8 ?_
  refine g_istore_n k32_9 rfl rfl ?_
  refine g_iload_n k32_10 rfl ?_
  refine g_ldc k32_11 n32_11 ?_
  refine g_iand k32_14 ?_
  refine g_iload_n k32_15 rfl ?_
  refine g_iconst (v := nn 2) k32_16 ci_2 ?_
  refine g_iushr k32_17 ?_
  refine g_ldc k32_18 n32_18 ?_
  refine g_iand k32_21 ?_
  refine g_iadd k32_22 ?_
  refine g_istore_n k32_23 rfl rfl ?_
  refine g_iload_n k32_24 rfl ?_
  refine g_iload_n k32_25 rfl ?_
  refine g_iconst (v := nn 4) k32_26 ci_4 ?_
  refine g_iushr k32_27 ?_
  refine g_iadd k32_28 ?_
  refine g_ldc k32_29 n32_29 ?_
  refine g_iand k32_32 ?_
  refine g_istore_n k32_33 rfl rfl ?_
  refine g_iload_n k32_34 rfl ?_
  refine g_iload_n k32_35 rfl ?_
  refine g_bipush (v := nn 8) k32_36 cb_8 ?_
  refine g_iushr k32_38 ?_
  refine g_iadd k32_39 ?_
  refine g_istore_n k32_40 rfl rfl ?_
  refine g_iload_n k32_41 rfl ?_
  refine g_iload_n k32_42 rfl ?_
  refine g_bipush (v := nn 16) k32_43 cb_16 ?_
  refine g_iushr k32_45 ?_
  refine g_iadd k32_46 ?_
  refine g_istore_n k32_47 rfl rfl ?_
  refine g_iload_n k32_48 rfl ?_
  refine g_bipush (v := nn 63) k32_49 cb_63 ?_
  refine g_iand k32_51 ?_
  refine g_ireturn k32_52 t32 ?_
  show Q (.inl (some (.int (bc5 (bc4 (bc3 (bc2 (bc1 x)))))))) _
  rw [bc_bn hx]
  exact kk
theorem s_16 (ok : TOK A) (hX : RepX A F E dy σ ρ) (he : e < td_ne A) (kk : ∀ x, bt x (fun kd => td_dk A kd e) → Q (.inl (some (.int x))) (mk dy σ ρ τ)) : go (tb_P L xs) 16 0 [some (.ref (E e)), none] [] (mk dy σ ρ τ) Q := by
  obtain ⟨⟨_, hA8, hA3⟩, hma, _, g2, _⟩ := (hX.2.1.2.1 e he).2
  have hm1 := (ok.2.2.2.1 e he).1
  have kinds : ∀ v, v < 7 → v = 0 ∨ v = 1 ∨ v = 2 ∨ v = 3 ∨ v = 4 ∨ v = 5 ∨ v = 6 := by omega
  by_cases hm : td_ma A e = 0
  · refine g_aload_n k16_0 rfl ?_
    refine m_get k16_1 f16_1 (by assumption) rfl ?_
    rw [hma]
    refine g_ifne_f k16_4 (t := 10) rfl (by rw [hm]; rfl) ?_
    refine g_bipush (v := nn 6) k16_7 cb_6 ?_
    refine g_ireturn k16_9 t16 ?_
    refine kk _ (bt_congr (bt_nn (k := 6) (by omega)) (fun v hv => ?_))
    unfold td_dk
    rw [hm]
    rcases kinds v hv with rfl | rfl | rfl | rfl | rfl | rfl | rfl <;> rfl
  · have hm : td_ma A e = 1 := by omega
    cases hg : td_rf A e with
    | none =>
      rw [hg] at g2
      have g2 : ρ (E e) 2 = none := g2
      refine g_aload_n k16_0 rfl ?_
      refine m_get k16_1 f16_1 (by assumption) rfl ?_
      rw [hma]
      refine g_ifne_t k16_4 (t := 10) rfl (by rw [hm]; decide) ?_
      refine g_aload_n k16_10 rfl ?_
      refine m_get k16_11 f16_11 (by assumption) rfl ?_
      rw [g2, va_rn]
      refine g_ifnonnull_f k16_14 ?_
      refine g_iconst (v := nn 5) k16_17 ci_5 ?_
      refine g_goto k16_18 (t := 22) rfl ?_
      refine g_istore_n k16_22 rfl rfl ?_
      refine g_bipush (v := nn 10) k16_23 cb_10 ?_
      refine g_iconst (v := nn 1) k16_25 ci_1 ?_
      refine g_iload_n k16_26 rfl ?_
      refine g_ishl k16_27 ?_
      refine g_ior k16_28 ?_
      refine g_ireturn k16_29 t16 ?_
      refine kk _ (bt_congr (bt_or (bt_nn (k := 10) (by omega)) (bt_1 (p := 5) (by omega))) (fun v hv => ?_))
      unfold td_dk
      rw [hm, hg]
      rcases kinds v hv with rfl | rfl | rfl | rfl | rfl | rfl | rfl <;> rfl
    | some u =>
      rw [hg] at g2
      have g2 : ρ (E e) 2 = some (E u) := g2
      refine g_aload_n k16_0 rfl ?_
      refine m_get k16_1 f16_1 (by assumption) rfl ?_
      rw [hma]
      refine g_ifne_t k16_4 (t := 10) rfl (by rw [hm]; decide) ?_
      refine g_aload_n k16_10 rfl ?_
      refine m_get k16_11 f16_11 (by assumption) rfl ?_
      rw [g2, va_rs]
      refine g_ifnonnull_t k16_14 (t := 21) rfl ?_
      refine g_iconst (v := nn 4) k16_21 ci_4 ?_
      refine g_istore_n k16_22 rfl rfl ?_
      refine g_bipush (v := nn 10) k16_23 cb_10 ?_
      refine g_iconst (v := nn 1) k16_25 ci_1 ?_
      refine g_iload_n k16_26 rfl ?_
      refine g_ishl k16_27 ?_
      refine g_ior k16_28 ?_
      refine g_ireturn k16_29 t16 ?_
      refine kk _ (bt_congr (bt_or (bt_nn (k := 10) (by omega)) (bt_1 (p := 4) (by omega))) (fun v hv => ?_))
      unfold td_dk
      rw [hm, hg]
      rcases kinds v hv with rfl | rfl | rfl | rfl | rfl | rfl | rfl <;> rfl
theorem s_21 (ok : TOK A) (hX : RepX A F E dy σ ρ) (he : e < td_ne A) (hk : kd < 7) (kk : Q (.inl (some (.int (bb (td_dk A kd e = true))))) (mk dy σ ρ τ)) : go (tb_P L xs) 21 0 [some (.ref (E e)), some (.int (nn kd))] [] (mk dy σ ρ τ) Q := by
  obtain ⟨⟨_, hA8, hA3⟩, _⟩ := (hX.2.1.2.1 e he).2
  refine g_aload_n k21_0 rfl ?_
  refine m_callV0 k21_1 s21_1 c21_1 l16 (by omega) trivial rfl r21_1 (by assumption) ?_
  refine s_16 ok hX he (fun x hx => ?_)
  refine af_ret ?_
  refine g_iconst (v := nn 1) k21_4 ci_1 ?_
  refine g_iload_n k21_5 rfl ?_
  refine g_ishl k21_6 ?_
  refine g_iand k21_7 ?_
  refine g_ifeqT k21_8 (t := 15) rfl (fun h8 => ?_) (fun h8 => ?_)
  · skip
    refine g_iconst (v := nn 0) k21_15 ci_0 ?_
    refine g_breturn k21_16 t21 (by decide) ?_
    first
      | (rw [(bt_t hx hk).mp h8] at kk; exact kk)
      | (have h8' : td_dk A kd e = true := by
           cases hd : td_dk A kd e with
           | true => rfl
           | false => exact absurd ((bt_t hx hk).mpr hd) h8
         rw [h8'] at kk
         exact kk)
  · skip
    refine g_iconst (v := nn 1) k21_11 ci_1 ?_
    refine g_goto k21_12 (t := 16) rfl ?_
    refine g_breturn k21_16 t21 (by decide) ?_
    first
      | (rw [(bt_t hx hk).mp h8] at kk; exact kk)
      | (have h8' : td_dk A kd e = true := by
           cases hd : td_dk A kd e with
           | true => rfl
           | false => exact absurd ((bt_t hx hk).mpr hd) h8
         rw [h8'] at kk
         exact kk)
theorem s_19L (hdy : dy.length < 100000) (ok : TOK A) (hX : RepX A F E dy σ ρ) (he : e < td_ne A) : ∀ (k j : Nat) {x : Int32} {M : Nat → Bool} {Q : am_A → am_H → Prop}, j + k = 6 → bt x M → (∀ y, bt y (fun v => M v || (List.range' j k).any (fun u => td_mo A (td_as A e u) v)) → Q (.inl (some (.int y))) (mk dy σ ρ τ)) → go (tb_P L xs) 19 40 [some (.ref (E e)), some (.int x), some (.int (nn j))] [] (mk dy σ ρ τ) Q := by
  obtain ⟨⟨_, hA8, hA3⟩, _, _, _, _, _, gas⟩ := (hX.2.1.2.1 e he).2
  intro k
  induction k with
  | zero =>
    intro j x M Q hj hx kk
    have hj6 : j = 6 := by omega
    subst hj6
    refine g_iload_n k19_40 rfl ?_
    refine g_bipush (v := nn 6) k19_41 cb_6 ?_
    refine g_icge_t k19_43 (t := 77) rfl (by decide) ?_
    refine g_iload_n k19_77 rfl ?_
    refine g_ireturn k19_78 t19 ?_
    exact kk x (bt_congr hx (fun v _ => by simp))
  | succ k ih =>
    intro j x M Q hj hx kk
    have gj := gas j (by omega)
    rw [List.range'_succ] at kk
    cases hg : td_as A e j with
    | none =>
      rw [hg] at gj
      have gj : ρ (E e + 1) j = none := gj
      refine g_iload_n k19_40 rfl ?_
      refine g_bipush (v := nn 6) k19_41 cb_6 ?_
      refine g_icge_f k19_43 (t := 77) rfl (by rw [nn_toInt (by omega), nn_toInt (by omega)]; omega) ?_
      refine g_iload_n k19_46 rfl ?_
      refine g_aload_n k19_47 rfl ?_
      refine m_get k19_48 f19_48 (by assumption) rfl ?_
      refine g_iload_n k19_51 rfl ?_
      refine m_aald k19_52 (by assumption) ⟨by omega, by omega⟩ rfl (by omega) (by omega) ?_
      rw [gj, va_rn]
      refine g_ifnonnull_f k19_53 ?_
      refine g_iconst (v := nn 0) k19_56 ci_0 ?_
      refine g_goto k19_57 (t := 69) rfl ?_
      refine g_ior k19_69 ?_
      refine g_istore_n k19_70 rfl rfl ?_
      refine g_iincN k19_71 rfl rfl rfl ?_
      refine g_goto k19_74 (t := 40) rfl ?_
      refine ih (j + 1) (by omega) (bt_or hx bt_0) (fun y hy => kk y (bt_congr hy (fun v _ => ?_)))
      rw [List.any_cons, hg]
      cases M v <;> rfl
    | some f =>
      rw [hg] at gj
      have gj : ρ (E e + 1) j = some (F f) := gj
      have hf := ((ok.2.2.2.1 e he).2.2.2.2.2 j f (by omega) hg).1
      obtain ⟨⟨_, hA, _⟩, _⟩ := (hX.1.2 f hf).2
      refine g_iload_n k19_40 rfl ?_
      refine g_bipush (v := nn 6) k19_41 cb_6 ?_
      refine g_icge_f k19_43 (t := 77) rfl (by rw [nn_toInt (by omega), nn_toInt (by omega)]; omega) ?_
      refine g_iload_n k19_46 rfl ?_
      refine g_aload_n k19_47 rfl ?_
      refine m_get k19_48 f19_48 (by assumption) rfl ?_
      refine g_iload_n k19_51 rfl ?_
      refine m_aald k19_52 (by assumption) ⟨by omega, by omega⟩ rfl (by omega) (by omega) ?_
      rw [gj, va_rs]
      refine g_ifnonnull_t k19_53 (t := 60) rfl ?_
      refine g_aload_n k19_60 rfl ?_
      refine m_get k19_61 f19_61 (by assumption) rfl ?_
      refine g_iload_n k19_64 rfl ?_
      refine m_aald k19_65 (by assumption) ⟨by omega, by omega⟩ rfl (by omega) (by omega) ?_
      rw [gj, va_rs]
      refine m_get k19_66 f19_66 (by assumption) rfl ?_
      refine g_ior k19_69 ?_
      refine g_istore_n k19_70 rfl rfl ?_
      refine g_iincN k19_71 rfl rfl rfl ?_
      refine g_goto k19_74 (t := 40) rfl ?_
      refine ih (j + 1) (by omega) (bt_or hx (bt_mo hX hf)) (fun y hy => kk y (bt_congr hy (fun v _ => ?_)))
      rw [List.any_cons, hg]
      show (M v || td_mn A f v || _) = (M v || (td_mn A f v || _))
      rw [Bool.or_assoc]
theorem s_19 (hdy : dy.length < 100000) (ok : TOK A) (hX : RepX A F E dy σ ρ) (he : e < td_ne A) (kk : ∀ y, bt y (td_em A e) → Q (.inl (some (.int y))) (mk dy σ ρ τ)) : go (tb_P L xs) 19 0 [some (.ref (E e)), none, none] [] (mk dy σ ρ τ) Q := by
  obtain ⟨⟨_, hA8, hA3⟩, _, _, _, g3, g4, _⟩ := (hX.2.1.2.1 e he).2
  have gm : ∀ (o : Option Nat) (x : Int32), (o = none → x = nn 0) → (∀ f, o = some f → f < td_nf A ∧ x = σ (F f) 5) → bt x (td_mo A o) := by
    intro o x h1 h2
    cases o with
    | none => rw [h1 rfl]; exact bt_0
    | some f =>
      obtain ⟨hf, hx⟩ := h2 f rfl
      rw [hx]
      exact bt_mo hX hf
  have lst : ∀ x y, bt x (td_mo A (td_gd A e)) → bt y (td_mo A (td_wt A e)) → go (tb_P L xs) 19 36 [some (.ref (E e)), none, none] [.int y, .int x] (mk dy σ ρ τ) Q := by
    intro x y hx hy
    refine g_ior k19_36 ?_
    refine g_istore_n k19_37 rfl rfl ?_
    refine g_iconst (v := nn 0) k19_38 ci_0 ?_
    refine g_istore_n k19_39 rfl rfl ?_
    refine s_19L hdy ok hX he 6 0 (by omega) (bt_or hx hy) (fun z hz => kk z (bt_congr hz (fun v _ => ?_)))
    unfold td_em
    rw [List.range_eq_range']
  have snd : ∀ x, bt x (td_mo A (td_gd A e)) → go (tb_P L xs) 19 18 [some (.ref (E e)), none, none] [.int x] (mk dy σ ρ τ) Q := by
    intro x hx
    cases hg : td_wt A e with
    | none =>
      rw [hg] at g4
      have g4 : ρ (E e) 4 = none := g4
      refine g_aload_n k19_18 rfl ?_
      refine m_get k19_19 f19_19 (by assumption) rfl ?_
      rw [g4, va_rn]
      refine g_ifnonnull_f k19_22 ?_
      refine g_iconst (v := nn 0) k19_25 ci_0 ?_
      refine g_goto k19_26 (t := 36) rfl ?_
      exact lst _ _ hx (by rw [hg]; exact bt_0)
    | some f =>
      rw [hg] at g4
      have g4 : ρ (E e) 4 = some (F f) := g4
      have hf := ((ok.2.2.2.1 e he).2.2.2.2.1 f hg).1
      obtain ⟨⟨_, hA, _⟩, _⟩ := (hX.1.2 f hf).2
      refine g_aload_n k19_18 rfl ?_
      refine m_get k19_19 f19_19 (by assumption) rfl ?_
      rw [g4, va_rs]
      refine g_ifnonnull_t k19_22 (t := 29) rfl ?_
      refine g_aload_n k19_29 rfl ?_
      refine m_get k19_30 f19_30 (by assumption) rfl ?_
      rw [g4, va_rs]
      refine m_get k19_33 f19_33 (by assumption) rfl ?_
      exact lst _ _ hx (by rw [hg]; exact bt_mo hX hf)
  cases hg : td_gd A e with
  | none =>
    rw [hg] at g3
    have g3 : ρ (E e) 3 = none := g3
    refine g_aload_n k19_0 rfl ?_
    refine m_get k19_1 f19_1 (by assumption) rfl ?_
    rw [g3, va_rn]
    refine g_ifnonnull_f k19_4 ?_
    refine g_iconst (v := nn 0) k19_7 ci_0 ?_
    refine g_goto k19_8 (t := 18) rfl ?_
    exact snd _ (by rw [hg]; exact bt_0)
  | some f =>
    rw [hg] at g3
    have g3 : ρ (E e) 3 = some (F f) := g3
    have hf := ((ok.2.2.2.1 e he).2.2.2.1 f hg).1
    obtain ⟨⟨_, hA, _⟩, _⟩ := (hX.1.2 f hf).2
    refine g_aload_n k19_0 rfl ?_
    refine m_get k19_1 f19_1 (by assumption) rfl ?_
    rw [g3, va_rs]
    refine g_ifnonnull_t k19_4 (t := 11) rfl ?_
    refine g_aload_n k19_11 rfl ?_
    refine m_get k19_12 f19_12 (by assumption) rfl ?_
    rw [g3, va_rs]
    refine m_get k19_15 f19_15 (by assumption) rfl ?_
    exact snd _ (by rw [hg]; exact bt_mo hX hf)
theorem s_20U {lm : Nat} (hdy : dy.length < 100000) (ok : TOK A) (hX : RepX A F E dy σ ρ) : ∀ (k j : Nat) {x : Int32} {M : Nat → Bool} {Q : am_A → am_H → Prop}, j + k = td_ic A 0 → bt x M → (∀ y, bt y (fun v => M v || (List.range' j k).any (fun i => td_mn A (td_iv A 0 i) v)) → go (tb_P L xs) 20 30 [some (.ref 11), some (.int (nn lm)), some (.int y), some (.int (nn (j + k)))] [] (mk dy σ ρ τ) Q) → go (tb_P L xs) 20 4 [some (.ref 11), some (.int (nn lm)), some (.int x), some (.int (nn j))] [] (mk dy σ ρ τ) Q := by
  have c0 := hX.2.2.1.1
  have hc6 := (ok.2.2.2.2.2.1 0 (by omega)).1
  intro k
  induction k with
  | zero =>
    intro j x M Q hj hx kk
    refine g_iload_n k20_4 rfl ?_
    refine g_aload_n k20_5 rfl ?_
    refine m_get k20_6 f20_6 rfl rfl ?_
    rw [c0]
    refine g_icge_t k20_9 (t := 30) rfl (by rw [nn_toInt (by omega), nn_toInt (by omega)]; omega) ?_
    exact kk x (bt_congr hx (fun v _ => by simp))
  | succ k ih =>
    intro j x M Q hj hx kk
    have gj := hX.2.2.1.2.2.1 j (by omega)
    have hf := ((ok.2.2.2.2.2.1 0 (by omega)).2 j (by omega)).1
    obtain ⟨⟨_, hA, _⟩, _⟩ := (hX.1.2 _ hf).2
    rw [List.range'_succ] at kk
    refine g_iload_n k20_4 rfl ?_
    refine g_aload_n k20_5 rfl ?_
    refine m_get k20_6 f20_6 rfl rfl ?_
    rw [c0]
    refine g_icge_f k20_9 (t := 30) rfl (by rw [nn_toInt (by omega), nn_toInt (by omega)]; omega) ?_
    refine g_iload_n k20_12 rfl ?_
    refine g_aload_n k20_13 rfl ?_
    refine m_get k20_14 f20_14 rfl rfl ?_
    refine g_iload_n k20_17 rfl ?_
    refine m_aald k20_18 rfl ⟨by omega, by omega⟩ rfl (by omega) (by omega) ?_
    rw [gj, va_rs]
    refine m_get k20_19 f20_19 (by assumption) rfl ?_
    refine g_ior k20_22 ?_
    refine g_istore_n k20_23 rfl rfl ?_
    refine g_iincN k20_24 rfl rfl rfl ?_
    refine g_goto k20_27 (t := 4) rfl ?_
    refine ih (j + 1) (by omega) (bt_or hx (bt_mo hX hf)) (fun y hy => ?_)
    have hz := kk y (bt_congr hy (fun v _ => by rw [List.any_cons, ← Bool.or_assoc]))
    rw [show j + (k + 1) = j + 1 + k by omega] at hz
    exact hz
theorem s_20W {lm : Nat} (hdy : dy.length < 100000) (ok : TOK A) (hX : RepX A F E dy σ ρ) : ∀ (k j : Nat) {x : Int32} {M : Nat → Bool} {Q : am_A → am_H → Prop}, j + k = td_ic A 1 → bt x M → (∀ y, bt y (fun v => M v || (List.range' j k).any (fun i => td_mn A (td_iv A 1 i) v)) → go (tb_P L xs) 20 64 [some (.ref 11), some (.int (nn lm)), some (.int y), some (.int (nn (j + k)))] [] (mk dy σ ρ τ) Q) → go (tb_P L xs) 20 38 [some (.ref 11), some (.int (nn lm)), some (.int x), some (.int (nn j))] [] (mk dy σ ρ τ) Q := by
  have c0 := hX.2.2.1.2.1
  have hc6 := (ok.2.2.2.2.2.1 1 (by omega)).1
  intro k
  induction k with
  | zero =>
    intro j x M Q hj hx kk
    refine g_iload_n k20_38 rfl ?_
    refine g_aload_n k20_39 rfl ?_
    refine m_get k20_40 f20_40 rfl rfl ?_
    rw [c0]
    refine g_icge_t k20_43 (t := 64) rfl (by rw [nn_toInt (by omega), nn_toInt (by omega)]; omega) ?_
    exact kk x (bt_congr hx (fun v _ => by simp))
  | succ k ih =>
    intro j x M Q hj hx kk
    have gj := hX.2.2.1.2.2.2 j (by omega)
    have hf := ((ok.2.2.2.2.2.1 1 (by omega)).2 j (by omega)).1
    obtain ⟨⟨_, hA, _⟩, _⟩ := (hX.1.2 _ hf).2
    rw [List.range'_succ] at kk
    refine g_iload_n k20_38 rfl ?_
    refine g_aload_n k20_39 rfl ?_
    refine m_get k20_40 f20_40 rfl rfl ?_
    rw [c0]
    refine g_icge_f k20_43 (t := 64) rfl (by rw [nn_toInt (by omega), nn_toInt (by omega)]; omega) ?_
    refine g_iload_n k20_46 rfl ?_
    refine g_aload_n k20_47 rfl ?_
    refine m_get k20_48 f20_48 rfl rfl ?_
    refine g_iload_n k20_51 rfl ?_
    refine m_aald k20_52 rfl ⟨by omega, by omega⟩ rfl (by omega) (by omega) ?_
    rw [gj, va_rs]
    refine m_get k20_53 f20_53 (by assumption) rfl ?_
    refine g_ior k20_56 ?_
    refine g_istore_n k20_57 rfl rfl ?_
    refine g_iincN k20_58 rfl rfl rfl ?_
    refine g_goto k20_61 (t := 38) rfl ?_
    refine ih (j + 1) (by omega) (bt_or hx (bt_mo hX hf)) (fun y hy => ?_)
    have hz := kk y (bt_congr hy (fun v _ => by rw [List.any_cons, ← Bool.or_assoc]))
    rw [show j + (k + 1) = j + 1 + k by omega] at hz
    exact hz
theorem s_20 (hdy : dy.length < 100000) (ok : TOK A) (hX : RepX A F E dy σ ρ) (hm : m < 2) (kk : ∀ y, bt y (fun v => td_im A 0 v || (decide (m = 1) && td_im A 1 v)) → Q (.inl (some (.int y))) (mk dy σ ρ τ)) : go (tb_P L xs) 20 0 [some (.ref 11), some (.int (nn m)), none, none] [] (mk dy σ ρ τ) Q := by
  refine g_iconst (v := nn 0) k20_0 ci_0 ?_
  refine g_istore_n k20_1 rfl rfl ?_
  refine g_iconst (v := nn 0) k20_2 ci_0 ?_
  refine g_istore_n k20_3 rfl rfl ?_
  refine s_20U hdy ok hX (td_ic A 0) 0 (by omega) bt_0 (fun y hy => ?_)
  refine g_iload_n k20_30 rfl ?_
  refine g_ifneN k20_31 (t := 36) rfl (by omega) (fun h31 => ?_) (fun h31 => ?_)
  · skip
    refine g_iconst (v := nn 0) k20_36 ci_0 ?_
    refine g_istore_n k20_37 rfl rfl ?_
    refine s_20W hdy ok hX (td_ic A 1) 0 (by omega) hy (fun z hz => ?_)
    refine g_iload_n k20_64 rfl ?_
    refine g_ireturn k20_65 t20 ?_
    first
      | (refine kk y (bt_congr hy (fun v _ => ?_))
         rw [decide_eq_false (show ¬ m = 1 by omega), Bool.false_and, Bool.or_false, Bool.false_or]
         unfold td_im
         rw [List.range_eq_range'])
      | (refine kk z (bt_congr hz (fun v _ => ?_))
         rw [decide_eq_true (show m = 1 by omega), Bool.true_and, Bool.false_or]
         unfold td_im
         rw [List.range_eq_range', List.range_eq_range'])
  · skip
    refine g_iload_n k20_34 rfl ?_
    refine g_ireturn k20_35 t20 ?_
    first
      | (refine kk y (bt_congr hy (fun v _ => ?_))
         rw [decide_eq_false (show ¬ m = 1 by omega), Bool.false_and, Bool.or_false, Bool.false_or]
         unfold td_im
         rw [List.range_eq_range'])
      | (refine kk z (bt_congr hz (fun v _ => ?_))
         rw [decide_eq_true (show m = 1 by omega), Bool.true_and, Bool.false_or]
         unfold td_im
         rw [List.range_eq_range', List.range_eq_range'])
theorem s_18 (hdy : dy.length < 100000) (ok : TOK A) (hX : RepX A F E dy σ ρ) (he : e < td_ne A) (kk : ∀ y, bt y (td_mf A e) → Q (.inl (some (.int y))) (mk dy σ ρ τ)) : go (tb_P L xs) 18 0 [some (.ref 18), some (.ref (E e)), none] [] (mk dy σ ρ τ) Q := by
  obtain ⟨⟨_, hA8, hA3⟩, hma, _, g2, _⟩ := (hX.2.1.2.1 e he).2
  have hm1 := (ok.2.2.2.1 e he).1
  have g5 := hX.2.2.2.1
  have dk5 : td_dk A 5 e = decide (td_ma A e = 1 ∧ td_rf A e = none) := by
    unfold td_dk
    cases td_rf A e <;> simp
  have last : ∀ y, bt y (fun v => td_em A e v || (td_im A 0 v || (decide (td_ma A e = 1) && td_im A 1 v)) || (decide (td_ma A e = 1 ∧ td_rf A e = none) && td_mo A (td_vr A) v)) → go (tb_P L xs) 18 51 [some (.ref 18), some (.ref (E e)), some (.int y)] [] (mk dy σ ρ τ) Q := by
    intro y hy
    cases hg : td_rf A e with
    | none =>
      rw [hg] at g2
      have g2 : ρ (E e) 2 = none := g2
      refine g_aload_n k18_51 rfl ?_
      refine m_get k18_52 f18_52 (by assumption) rfl ?_
      rw [g2, va_rn]
      refine g_ifnull_t k18_55 (t := 71) rfl ?_
      refine g_iload_n k18_71 rfl ?_
      refine g_ireturn k18_72 t18 ?_
      refine kk y (bt_congr hy (fun v _ => ?_))
      unfold td_mf
      rw [hg]
      dsimp only
      simp only [Bool.or_assoc, Bool.or_false]
    | some u =>
      rw [hg] at g2
      have g2 : ρ (E e) 2 = some (E u) := g2
      have hu : u < td_ne A := by have := ((ok.2.2.2.1 e he).2.2.1 u hg).1; omega
      obtain ⟨⟨_, hB8, _⟩, _⟩ := (hX.2.1.2.1 u hu).2
      refine g_aload_n k18_51 rfl ?_
      refine m_get k18_52 f18_52 (by assumption) rfl ?_
      rw [g2, va_rs]
      refine g_ifnull_f k18_55 ?_
      refine g_iload_n k18_58 rfl ?_
      refine g_aload_n k18_59 rfl ?_
      refine m_get k18_60 f18_60 (by assumption) rfl ?_
      rw [g2, va_rs]
      refine m_callV0 k18_63 s18_63 c18_63 l19 (by omega) trivial rfl r18_63 (by assumption) ?_
      refine s_19 hdy ok hX hu (fun z hz => ?_)
      refine af_ret ?_
      refine g_bipush (v := -65) k18_66 cb_m65 ?_
      refine g_iand k18_68 ?_
      refine g_ior k18_69 ?_
      refine g_istore_n k18_70 rfl rfl ?_
      refine g_iload_n k18_71 rfl ?_
      refine g_ireturn k18_72 t18 ?_
      refine kk _ (bt_congr (bt_or hy (bt_n64 hz)) (fun v _ => ?_))
      unfold td_mf
      rw [hg]
      dsimp only
      simp only [Bool.or_assoc, Bool.or_false]
  refine g_aload_n k18_0 rfl ?_
  refine m_callV0 k18_1 s18_1 c18_1 l19 (by omega) trivial rfl r18_1 (by assumption) ?_
  refine s_19 hdy ok hX he (fun x hx => ?_)
  refine af_ret ?_
  refine g_aload_n k18_4 rfl ?_
  refine m_get k18_5 f18_5 rfl rfl ?_
  refine m_get k18_8 f18_8 rfl rfl ?_
  refine g_aload_n k18_11 rfl ?_
  refine m_get k18_12 f18_12 (by assumption) rfl ?_
  rw [hma]
  refine m_callV1 k18_15 s18_15 c18_15 l20 (by omega) rfl rfl r18_15 rfl ?_
  refine s_20 hdy ok hX (by omega) (fun y hy => ?_)
  refine af_ret ?_
  refine g_ior k18_18 ?_
  refine g_istore_n k18_19 rfl rfl ?_
  refine g_aload_n k18_20 rfl ?_
  refine g_iconst (v := nn 5) k18_21 ci_5 ?_
  refine m_callV1 k18_22 s18_22 c18_22 l21 (by omega) rfl rfl r18_22 (by assumption) ?_
  refine s_21 (kd := 5) ok hX he (by omega) ?_
  refine af_ret ?_
  refine g_ifeqB k18_25 (t := 51) rfl (fun h25 => ?_) (fun h25 => ?_)
  · skip
    refine last _ (bt_congr (bt_or hx hy) (fun v _ => ?_))
    rw [dk5] at h25
    have h25' : decide (td_ma A e = 1 ∧ td_rf A e = none) = false := by simpa using h25
    rw [h25', Bool.false_and, Bool.or_false]
  · skip
    rw [dk5] at h25
    cases hv : td_vr A with
    | none =>
      rw [hv] at g5
      have g5 : ρ 7 5 = none := g5
      refine g_aload_n k18_28 rfl ?_
      refine m_get k18_29 f18_29 rfl rfl ?_
      refine m_get k18_32 f18_32 rfl rfl ?_
      rw [g5, va_rn]
      refine g_ifnull_t k18_35 (t := 51) rfl ?_
      refine last _ (bt_congr (bt_or hx hy) (fun v _ => ?_))
      rw [hv]
      show _ = (_ || (_ && false))
      rw [Bool.and_false, Bool.or_false]
    | some f =>
      rw [hv] at g5
      have g5 : ρ 7 5 = some (F f) := g5
      have hf := (ok.2.2.2.2.2.2.1 f hv).1
      obtain ⟨⟨_, hA, _⟩, _⟩ := (hX.1.2 f hf).2
      refine g_aload_n k18_28 rfl ?_
      refine m_get k18_29 f18_29 rfl rfl ?_
      refine m_get k18_32 f18_32 rfl rfl ?_
      rw [g5, va_rs]
      refine g_ifnull_f k18_35 ?_
      refine g_iload_n k18_38 rfl ?_
      refine g_aload_n k18_39 rfl ?_
      refine m_get k18_40 f18_40 rfl rfl ?_
      refine m_get k18_43 f18_43 rfl rfl ?_
      rw [g5, va_rs]
      refine m_get k18_46 f18_46 (by assumption) rfl ?_
      refine g_ior k18_49 ?_
      refine g_istore_n k18_50 rfl rfl ?_
      refine last _ (bt_congr (bt_or (bt_or hx hy) (bt_mo hX hf)) (fun v _ => ?_))
      rw [hv, h25, Bool.true_and]
      rfl
/-- nothing but the rows of the duties is another -/
def fR (σ σ' : Nat → Nat → Int32) : Prop := ∀ a k, a ≠ 19 → a ≠ 20 → (a ≠ 18 ∨ k ≠ 3) → σ' a k = σ a k
theorem fR.tr {σ σ1 σ2 : Nat → Nat → Int32} (h1 : fR σ σ1) (h2 : fR σ1 σ2) : fR σ σ2 := fun a k g1 g2 g3 => (h2 a k g1 g2 g3).trans (h1 a k g1 g2 g3)
theorem fR.ag (h : fR σ σ') : agX dy σ σ' := ⟨fun a k q => h a k (by omega) (by omega) (by omega), fun a k s h1 h2 h3 => h a k (by omega) (by omega) (by omega)⟩
/-- how far a digit goes -/
def lm (A : TD) (M : Nat → Bool) (rg : Nat) (v : Nat) : Nat := if M v = true then (if v = 6 then rg else td_sz A v) else 1
theorem lm_4 {rg v : Nat} (ok : TOK A) (hr : 1 ≤ rg ∧ rg ≤ 4) (hv : v < 7) : 1 ≤ lm A M rg v ∧ lm A M rg v ≤ 4 := by
  unfold lm
  split
  · split
    · exact hr
    · have := ok.2.2.2.2.2.2.2 v (by omega)
      omega
  · omega
theorem pd_4 {lim : Nat → Nat} : ∀ (r : Nat), (∀ v, v < r → 1 ≤ lim v ∧ lim v ≤ 4) → 1 ≤ pd lim r ∧ pd lim r ≤ 4 ^ r
  | 0, _ => ⟨Nat.le_refl _, Nat.le_refl _⟩
  | r + 1, h => by
    obtain ⟨i1, i2⟩ := pd_4 r (fun v hv => h v (by omega))
    obtain ⟨h1, h2⟩ := h r (by omega)
    show 1 ≤ pd lim r * lim r ∧ pd lim r * lim r ≤ 4 ^ (r + 1)
    rw [Nat.pow_succ]
    exact ⟨Nat.mul_le_mul i1 h1, Nat.mul_le_mul i2 h2⟩
theorem s_22L {rg : Nat} (hdy : dy.length < 100000) (ok : TOK A) (hr : 1 ≤ rg ∧ rg ≤ 4) (hx : bt x M) : ∀ (k j : Nat) {σ : Nat → Nat → Int32} {l4 : Option Value} {Q : am_A → am_H → Prop}, j + k = 7 → (∀ v, v < 6 → σ 8 v = nn (td_sz A v)) → σ 18 3 = nn (pd (lm A M rg) j) → (∀ v, v < j → σ 19 v = nn 0 ∧ σ 20 v = nn (lm A M rg v)) → (∀ σ', fR σ σ' → σ' 18 3 = nn (pd (lm A M rg) 7) → (∀ v, v < 7 → σ' 19 v = nn 0 ∧ σ' 20 v = nn (lm A M rg v)) → Q (.inl none) (mk dy σ' ρ τ)) → go (tb_P L xs) 22 7 [some (.ref 18), some (.int x), some (.int (nn rg)), some (.int (nn j)), l4] [] (mk dy σ ρ τ) Q := by
  intro k
  induction k with
  | zero =>
    intro j σ l4 Q hj h8 h3 hv kk
    have hj7 : j = 7 := by omega
    subst hj7
    refine g_iload_n k22_7 rfl ?_
    refine g_bipush (v := nn 7) k22_8 cb_7 ?_
    refine g_icge_t k22_10 (t := 82) rfl (by decide) ?_
    refine g_return k22_82 t22 ?_
    exact kk σ (fun _ _ _ _ _ => rfl) h3 hv
  | succ k ih =>
    intro j σ l4 Q hj h8 h3 hv kk
    have nxt : ∀ (sz : Nat) (l4 : Option Value), sz = lm A M rg j → go (tb_P L xs) 22 7 [some (.ref 18), some (.int x), some (.int (nn rg)), some (.int (nn (j + 1))), l4] [] (mk dy (up2 (up2 (up2 σ 20 j (nn sz)) 18 3 (nn (pd (lm A M rg) j * sz))) 19 j (nn 0)) ρ τ) Q := by
      intro sz l4 hsz
      subst hsz
      refine ih (j + 1) (by omega) (fun v hv => by rw [up2_ne (by omega), up2_ne (by omega), up2_ne (by omega)]; exact h8 v hv) ?_ (fun v hv2 => ?_) (fun σ' g1 g2 g3 => kk σ' (fun a q k1 k2 k3 => ?_) g2 g3)
      · rw [up2_ne (by omega), up2_at]
        rfl
      · rw [up2_of, up2_ne (a := 20) (by omega), up2_ne (a := 20) (by omega), up2_of]
        by_cases c : v = j
        · rw [if_pos c, if_pos c, c]
          exact ⟨rfl, rfl⟩
        · rw [if_neg c, if_neg c, up2_ne (by omega), up2_ne (by omega)]
          exact hv v (by omega)
      · rw [g1 a q k1 k2 k3, up2_ne (by omega), up2_ne (by omega), up2_ne (by omega)]
    have hbit := bt_t hx (i := j) (by omega)
    refine g_iload_n k22_7 rfl ?_
    refine g_bipush (v := nn 7) k22_8 cb_7 ?_
    refine g_icge_f k22_10 (t := 82) rfl (by rw [nn_toInt (by omega), nn_toInt (by omega)]; omega) ?_
    refine g_iload_n k22_13 rfl ?_
    refine g_bipush (v := nn 6) k22_14 cb_6 ?_
    refine g_icneN k22_16 (t := 23) rfl ⟨by omega, by omega⟩ (fun h16 => ?_) (fun h16 => ?_)
    · skip
      refine g_aload_n k22_23 rfl ?_
      refine m_get k22_24 f22_24 rfl rfl ?_
      refine m_get k22_27 f22_27 rfl rfl ?_
      refine g_iload_n k22_30 rfl ?_
      refine m_iald k22_31 hdy rfl rfl (by omega) (by omega) ?_
      rw [h8 j (by omega)]
      refine g_istore k22_32 rfl rfl ?_
      refine g_aload_n k22_34 rfl ?_
      refine m_get k22_35 f22_35 rfl rfl ?_
      refine g_iload_n k22_38 rfl ?_
      refine g_iload_n k22_39 rfl ?_
      refine g_iconst (v := nn 1) k22_40 ci_1 ?_
      refine g_iload_n k22_41 rfl ?_
      refine g_ishl k22_42 ?_
      refine g_iand k22_43 ?_
      refine g_ifeqT k22_44 (t := 52) rfl (fun h44 => ?_) (fun h44 => ?_)
      · skip
        refine g_iconst (v := nn 1) k22_52 ci_1 ?_
        refine m_iast k22_53 rfl rfl (by omega) (by omega) ?_
        refine g_aload_n k22_54 rfl ?_
        refine g_dup k22_55 rfl ?_
        refine m_get k22_56 f22_56 rfl rfl ?_
        rw [up2_ne (by omega), h3]
        refine g_aload_n k22_59 rfl ?_
        refine m_get k22_60 f22_60 rfl rfl ?_
        refine g_iload_n k22_63 rfl ?_
        refine m_iald k22_64 hdy rfl rfl (by omega) (by omega) ?_
        rw [up2_at]
        refine g_imulN k22_65 ?_
        refine m_putI k22_66 f22_66 rfl rfl rfl ?_
        refine g_aload_n k22_69 rfl ?_
        refine m_get k22_70 f22_70 rfl rfl ?_
        refine g_iload_n k22_73 rfl ?_
        refine g_iconst (v := nn 0) k22_74 ci_0 ?_
        refine m_iast k22_75 rfl rfl (by omega) (by omega) ?_
        refine g_iincN k22_76 rfl rfl rfl ?_
        refine g_goto k22_79 (t := 7) rfl ?_
        first
          | exact nxt rg _ (by unfold lm; rw [if_pos (by cases hM : M j with | true => rfl | false => exact absurd (hbit.mpr hM) h44), if_pos h16])
          | exact nxt (td_sz A j) _ (by unfold lm; rw [if_pos (by cases hM : M j with | true => rfl | false => exact absurd (hbit.mpr hM) h44), if_neg h16])
          | exact nxt 1 _ (by unfold lm; rw [if_neg (by rw [hbit.mp h44]; decide)])
      · skip
        refine g_iload k22_47 rfl ?_
        refine g_goto k22_49 (t := 53) rfl ?_
        refine m_iast k22_53 rfl rfl (by omega) (by omega) ?_
        refine g_aload_n k22_54 rfl ?_
        refine g_dup k22_55 rfl ?_
        refine m_get k22_56 f22_56 rfl rfl ?_
        rw [up2_ne (by omega), h3]
        refine g_aload_n k22_59 rfl ?_
        refine m_get k22_60 f22_60 rfl rfl ?_
        refine g_iload_n k22_63 rfl ?_
        refine m_iald k22_64 hdy rfl rfl (by omega) (by omega) ?_
        rw [up2_at]
        refine g_imulN k22_65 ?_
        refine m_putI k22_66 f22_66 rfl rfl rfl ?_
        refine g_aload_n k22_69 rfl ?_
        refine m_get k22_70 f22_70 rfl rfl ?_
        refine g_iload_n k22_73 rfl ?_
        refine g_iconst (v := nn 0) k22_74 ci_0 ?_
        refine m_iast k22_75 rfl rfl (by omega) (by omega) ?_
        refine g_iincN k22_76 rfl rfl rfl ?_
        refine g_goto k22_79 (t := 7) rfl ?_
        first
          | exact nxt rg _ (by unfold lm; rw [if_pos (by cases hM : M j with | true => rfl | false => exact absurd (hbit.mpr hM) h44), if_pos h16])
          | exact nxt (td_sz A j) _ (by unfold lm; rw [if_pos (by cases hM : M j with | true => rfl | false => exact absurd (hbit.mpr hM) h44), if_neg h16])
          | exact nxt 1 _ (by unfold lm; rw [if_neg (by rw [hbit.mp h44]; decide)])
    · skip
      refine g_iload_n k22_19 rfl ?_
      refine g_goto k22_20 (t := 32) rfl ?_
      refine g_istore k22_32 rfl rfl ?_
      refine g_aload_n k22_34 rfl ?_
      refine m_get k22_35 f22_35 rfl rfl ?_
      refine g_iload_n k22_38 rfl ?_
      refine g_iload_n k22_39 rfl ?_
      refine g_iconst (v := nn 1) k22_40 ci_1 ?_
      refine g_iload_n k22_41 rfl ?_
      refine g_ishl k22_42 ?_
      refine g_iand k22_43 ?_
      refine g_ifeqT k22_44 (t := 52) rfl (fun h44 => ?_) (fun h44 => ?_)
      · skip
        refine g_iconst (v := nn 1) k22_52 ci_1 ?_
        refine m_iast k22_53 rfl rfl (by omega) (by omega) ?_
        refine g_aload_n k22_54 rfl ?_
        refine g_dup k22_55 rfl ?_
        refine m_get k22_56 f22_56 rfl rfl ?_
        rw [up2_ne (by omega), h3]
        refine g_aload_n k22_59 rfl ?_
        refine m_get k22_60 f22_60 rfl rfl ?_
        refine g_iload_n k22_63 rfl ?_
        refine m_iald k22_64 hdy rfl rfl (by omega) (by omega) ?_
        rw [up2_at]
        refine g_imulN k22_65 ?_
        refine m_putI k22_66 f22_66 rfl rfl rfl ?_
        refine g_aload_n k22_69 rfl ?_
        refine m_get k22_70 f22_70 rfl rfl ?_
        refine g_iload_n k22_73 rfl ?_
        refine g_iconst (v := nn 0) k22_74 ci_0 ?_
        refine m_iast k22_75 rfl rfl (by omega) (by omega) ?_
        refine g_iincN k22_76 rfl rfl rfl ?_
        refine g_goto k22_79 (t := 7) rfl ?_
        first
          | exact nxt rg _ (by unfold lm; rw [if_pos (by cases hM : M j with | true => rfl | false => exact absurd (hbit.mpr hM) h44), if_pos h16])
          | exact nxt (td_sz A j) _ (by unfold lm; rw [if_pos (by cases hM : M j with | true => rfl | false => exact absurd (hbit.mpr hM) h44), if_neg h16])
          | exact nxt 1 _ (by unfold lm; rw [if_neg (by rw [hbit.mp h44]; decide)])
      · skip
        refine g_iload k22_47 rfl ?_
        refine g_goto k22_49 (t := 53) rfl ?_
        refine m_iast k22_53 rfl rfl (by omega) (by omega) ?_
        refine g_aload_n k22_54 rfl ?_
        refine g_dup k22_55 rfl ?_
        refine m_get k22_56 f22_56 rfl rfl ?_
        rw [up2_ne (by omega), h3]
        refine g_aload_n k22_59 rfl ?_
        refine m_get k22_60 f22_60 rfl rfl ?_
        refine g_iload_n k22_63 rfl ?_
        refine m_iald k22_64 hdy rfl rfl (by omega) (by omega) ?_
        rw [up2_at]
        refine g_imulN k22_65 ?_
        refine m_putI k22_66 f22_66 rfl rfl rfl ?_
        refine g_aload_n k22_69 rfl ?_
        refine m_get k22_70 f22_70 rfl rfl ?_
        refine g_iload_n k22_73 rfl ?_
        refine g_iconst (v := nn 0) k22_74 ci_0 ?_
        refine m_iast k22_75 rfl rfl (by omega) (by omega) ?_
        refine g_iincN k22_76 rfl rfl rfl ?_
        refine g_goto k22_79 (t := 7) rfl ?_
        first
          | exact nxt rg _ (by unfold lm; rw [if_pos (by cases hM : M j with | true => rfl | false => exact absurd (hbit.mpr hM) h44), if_pos h16])
          | exact nxt (td_sz A j) _ (by unfold lm; rw [if_pos (by cases hM : M j with | true => rfl | false => exact absurd (hbit.mpr hM) h44), if_neg h16])
          | exact nxt 1 _ (by unfold lm; rw [if_neg (by rw [hbit.mp h44]; decide)])
theorem s_22 {rg : Nat} (hdy : dy.length < 100000) (ok : TOK A) (hX : RepX A F E dy σ ρ) (hr : 1 ≤ rg ∧ rg ≤ 4) (hx : bt x M) (kk : ∀ σ', fR σ σ' → σ' 18 3 = nn (pd (lm A M rg) 7) → (∀ v, v < 7 → σ' 19 v = nn 0 ∧ σ' 20 v = nn (lm A M rg v)) → Q (.inl none) (mk dy σ' ρ τ)) : go (tb_P L xs) 22 0 [some (.ref 18), some (.int x), some (.int (nn rg)), none, none] [] (mk dy σ ρ τ) Q := by
  refine g_aload_n k22_0 rfl ?_
  refine g_iconst (v := nn 1) k22_1 ci_1 ?_
  refine m_putI k22_2 f22_2 rfl rfl rfl ?_
  refine g_iconst (v := nn 0) k22_5 ci_0 ?_
  refine g_istore_n k22_6 rfl rfl ?_
  refine s_22L hdy ok hr hx 7 0 (by omega) (fun v hv => by rw [up2_ne (by omega)]; exact (hX.2.2.2.2.1 v hv).1) up2_at (fun v hv => by omega) (fun σ' g1 g2 g3 => kk σ' (fun a q k1 k2 k3 => ?_) g2 g3)
  rw [g1 a q k1 k2 k3, up2_ne (by omega)]
theorem s_31L {lim : Nat → Nat} (hdy : dy.length < 100000) (h4 : ∀ v, v < 7 → lim v ≤ 4) : ∀ (r : Nat) {σ : Nat → Nat → Int32} {d : Nat → Nat} {Q : am_A → am_H → Prop}, r ≤ 7 → (∀ v, v < 7 → σ 20 v = nn (lim v)) → (∀ v, v < 7 → σ 19 v = nn (d v)) → (∀ v, v < r → d v < lim v) → (∀ σ', (∀ a, a ≠ 19 → σ' a = σ a) → (∀ v, v < 7 → σ' 19 v = nn ((ct lim r d).2 v)) → Q (.inl none) (mk dy σ' ρ τ)) → go (tb_P L xs) 31 3 [some (.ref 18), some (.int (nn r - nn 1))] [] (mk dy σ ρ τ) Q := by
  intro r
  induction r with
  | zero =>
    intro σ d Q hr h20 h19 hd kk
    refine g_iload_n k31_3 rfl ?_
    refine g_iflt_t k31_4 (t := 46) rfl (by decide) ?_
    refine g_return k31_46 t31 ?_
    exact kk σ (fun _ _ => rfl) h19
  | succ r ih =>
    intro σ d Q hr h20 h19 hd kk
    rw [nn_pred]
    have l4 := h4 r (by omega)
    have dr := hd r (by omega)
    have g19 := h19 r (by omega)
    have g20 := h20 r (by omega)
    unfold ct at kk
    refine g_iload_n k31_3 rfl ?_
    refine g_ifltN (t := 46) k31_4 rfl (by omega) ?_
    refine g_aload_n k31_7 rfl ?_
    refine m_get k31_8 f31_8 rfl rfl ?_
    refine g_iload_n k31_11 rfl ?_
    refine g_dup2 k31_12 ⟨rfl, rfl⟩ ?_
    refine m_iald k31_13 hdy rfl rfl (by omega) (by omega) ?_
    rw [g19]
    refine g_iconst (v := nn 1) k31_14 ci_1 ?_
    refine g_iaddN k31_15 ?_
    refine m_iast k31_16 rfl rfl (by omega) (by omega) ?_
    refine g_aload_n k31_17 rfl ?_
    refine m_get k31_18 f31_18 rfl rfl ?_
    refine g_iload_n k31_21 rfl ?_
    refine m_iald k31_22 hdy rfl rfl (by omega) (by omega) ?_
    rw [up2_at]
    refine g_aload_n k31_23 rfl ?_
    refine m_get k31_24 f31_24 rfl rfl ?_
    refine g_iload_n k31_27 rfl ?_
    refine m_iald k31_28 hdy rfl rfl (by omega) (by omega) ?_
    rw [up2_ne (by omega), g20]
    refine g_icgeN k31_29 (t := 33) rfl ⟨by omega, by omega⟩ (fun h29 => ?_) (fun h29 => ?_)
    · skip
      refine g_aload_n k31_33 rfl ?_
      refine m_get k31_34 f31_34 rfl rfl ?_
      refine g_iload_n k31_37 rfl ?_
      refine g_iconst (v := nn 0) k31_38 ci_0 ?_
      refine m_iast k31_39 rfl rfl (by omega) (by omega) ?_
      refine g_idecM k31_40 rfl rfl rfl ?_
      refine g_goto k31_43 (t := 3) rfl ?_
      rw [if_neg (show ¬ d r + 1 < lim r by omega)] at kk
      refine ih (d := va_up d r 0) (by omega) (fun v hv => by rw [up2_ne (by omega), up2_ne (by omega)]; exact h20 v hv) (fun v hv => ?_) (fun v hv => by rw [va_up_ne _ _ (by omega)]; exact hd v (by omega)) (fun σ' h1 h2 => kk σ' (fun a ha => ?_) h2)
      · rw [up2_of]
        by_cases c : v = r
        · rw [if_pos c, c, va_up_self]
        · rw [if_neg c, va_up_ne _ _ c, up2_ne (by omega)]
          exact h19 v hv
      · rw [h1 a ha]
        funext q
        rw [up2_ne (Or.inl ha), up2_ne (Or.inl ha)]
    · skip
      refine g_return k31_32 t31 ?_
      rw [if_pos (show d r + 1 < lim r by omega)] at kk
      refine kk _ (fun a ha => funext fun q => up2_ne (Or.inl ha)) (fun v hv => ?_)
      rw [up2_of]
      show _ = nn (va_up d r (d r + 1) v)
      by_cases c : v = r
      · rw [if_pos c, c, va_up_self]
      · rw [if_neg c, va_up_ne _ _ c]
        exact h19 v hv
theorem s_31 {lim d : Nat → Nat} (hdy : dy.length < 100000) (h4 : ∀ v, v < 7 → lim v ≤ 4) (h20 : ∀ v, v < 7 → σ 20 v = nn (lim v)) (h19 : ∀ v, v < 7 → σ 19 v = nn (d v)) (hd : ∀ v, v < 7 → d v < lim v) (kk : ∀ σ', (∀ a, a ≠ 19 → σ' a = σ a) → (∀ v, v < 7 → σ' 19 v = nn ((ct lim 7 d).2 v)) → Q (.inl none) (mk dy σ' ρ τ)) : go (tb_P L xs) 31 0 [some (.ref 18), none] [] (mk dy σ ρ τ) Q := by
  refine g_bipush (v := nn 6) k31_0 cb_6 ?_
  refine g_istore_n k31_2 rfl rfl ?_
  have hz := s_31L (L := L) (xs := xs) (ρ := ρ) (τ := τ) hdy h4 7 (Nat.le_refl _) h20 h19 hd kk
  rw [nn_pred] at hz
  exact hz
end YE
