/-! The class: do the words make a formula. -/
section ZG
variable {L : Nat} {xs : Nat → Int32} {Q : am_A → am_H → Prop} {dy dy' : List (Nat × Nat)} {σ σ' : Nat → Nat → Int32} {ρ ρ' : Nat → Nat → Option Nat} {τ τ' : Nat → Nat → Int64} {ws : Nat → Int32} {kd en : Nat → Nat} {i j n : Nat} {x w : Int32}
theorem CP.ge (h : CP ws n i kd en) (hi : i ≤ j) (hj : j ≤ n) : j ≤ en j := by
  have h1 := h.bd (n - j) j (by omega) hi hj
  by_cases c : kd j = 0
  · rw [h1.2.2.1 c]; exact hj
  · have := (h1.2.1 c).1
    omega
theorem ftc_gt (hw : wd_ok (ws i)) (h : CP ws n (i + 1) kd en) (hi : i < n) {t : Nat} (ht : ftc (ws i) i kd en = some t) : i < t ∧ t ≤ n := by
  have g1 := h.ge (j := i + 1) (by omega) (by omega)
  have l1 := h.le (j := i + 1) (by omega) (by omega)
  have g2 := h.ge (j := en (i + 1)) (by omega) l1
  have l2 := h.le (j := en (i + 1)) (by omega) l1
  have g3 := h.ge (j := en (en (i + 1))) (by omega) l2
  have l3 := h.le (j := en (en (i + 1))) (by omega) l2
  rcases wd_op hw with c | c | c | c | c
  · rw [ftc_lf c] at ht
    cases ht
    omega
  · rw [ftc_57 c] at ht
    have := (ite_sn ht).2
    omega
  · rw [ftc_58 c] at ht
    have := (ite_sn ht).2
    omega
  · rw [ftc_55 c] at ht
    have := (ite_sn ht).2
    omega
  · rw [ftc_50 c] at ht
    have := (ite_sn ht).2
    omega
theorem ftc_congr {kd' en' : Nat → Nat} (h : CP ws n (i + 1) kd en) (hj : i < j) (hjn : j < n) (e1 : ∀ k, i < k → kd' k = kd k) (e2 : ∀ k, i < k → en' k = en k) : ftc w j kd' en' = ftc w j kd en := by
  have g1 := h.ge (j := j + 1) (by omega) (by omega)
  have l1 := h.le (j := j + 1) (by omega) (by omega)
  have g2 := h.ge (j := en (j + 1)) (by omega) l1
  unfold ftc
  rw [e1 (j + 1) (by omega), e2 (j + 1) (by omega), e1 (en (j + 1)) (by omega), e2 (en (j + 1)) (by omega), e1 (en (en (j + 1))) (by omega), e2 (en (en (j + 1))) (by omega)]
/-- the kind and the end at one place more -/
def kx (ws : Nat → Int32) (i : Nat) (kd en : Nat → Nat) : Nat → Nat := fun j => if j = i then (if (ftc (ws i) i kd en).isSome = true then kw (ws i) else 0) else kd j
def ex (ws : Nat → Int32) (n i : Nat) (kd en : Nat → Nat) : Nat → Nat := fun j => if j = i then (ftc (ws i) i kd en).getD n else en j
theorem CP.ext (h : CP ws n (i + 1) kd en) (hi : i < n) : CP ws n i (kx ws i kd en) (ex ws n i kd en) := by
  have e1 : ∀ k, i < k → kx ws i kd en k = kd k := fun k hk => by unfold kx; rw [if_neg (by omega)]
  have e2 : ∀ k, i < k → ex ws n i kd en k = en k := fun k hk => by unfold ex; rw [if_neg (by omega)]
  have fi : ftc (ws i) i (kx ws i kd en) (ex ws n i kd en) = ftc (ws i) i kd en := by
    have g1 := h.ge (j := i + 1) (by omega) (by omega)
    have l1 := h.le (j := i + 1) (by omega) (by omega)
    have g2 := h.ge (j := en (i + 1)) (by omega) l1
    unfold ftc
    rw [e1 (i + 1) (by omega), e2 (i + 1) (by omega), e1 (en (i + 1)) (by omega), e2 (en (i + 1)) (by omega), e1 (en (en (i + 1))) (by omega), e2 (en (en (i + 1))) (by omega)]
  refine ⟨⟨by rw [e1 n hi]; exact h.1.1, by rw [e2 n hi]; exact h.1.2⟩, fun j hj hjn => ?_⟩
  by_cases c : j = i
  · subst c
    rw [fi]
    have k1 : kx ws j kd en j = if (ftc (ws j) j kd en).isSome = true then kw (ws j) else 0 := by unfold kx; rw [if_pos rfl]
    have k2 : ex ws n j kd en j = (ftc (ws j) j kd en).getD n := by unfold ex; rw [if_pos rfl]
    rw [k1, k2]
    cases ht : ftc (ws j) j kd en with
    | none => exact Or.inr ⟨rfl, rfl, rfl⟩
    | some t => exact Or.inl ⟨rfl, rfl⟩
  · rw [ftc_congr h (by omega) hjn e1 e2, e1 j (by omega), e2 j (by omega)]
    exact h.2 j (by omega) hjn
theorem s_49 (hdy : dy.length < 100000) (hn : n ≤ 24) (hi : i < n) (hok : ∀ j, j < n → wd_ok (ws j)) (h : CP ws n (i + 1) kd en) (hw : ∀ j, j < n → σ 2 j = ws j) (hk : ∀ j, i < j → j ≤ n → σ 3 j = nn (kd j) ∧ σ 4 j = nn (en j)) (kk : Q (.inl (some (.int (nn ((ftc (ws i) i kd en).getD i))))) (mk dy σ ρ τ)) : go (tb_P L xs) 49 0 [some (.ref 1), some (.int (nn i)), none, none, none, none, none] [] (mk dy σ ρ τ) Q := by
  have hwi := hw i hi
  have g1 := h.ge (j := i + 1) (by omega) (by omega)
  have l1 := h.le (j := i + 1) (by omega) (by omega)
  have g2 := h.ge (j := en (i + 1)) (by omega) l1
  have l2 := h.le (j := en (i + 1)) (by omega) l1
  have c1 := h.c3 (j := i + 1) (by omega) (by omega)
  have c2 := h.c3 (j := en (i + 1)) (by omega) l1
  have c3 := h.c3 (j := en (en (i + 1))) (by omega) l2
  obtain ⟨k1, e1⟩ := hk (i + 1) (by omega) (by omega)
  obtain ⟨k2, e2⟩ := hk (en (i + 1)) (by omega) l1
  obtain ⟨k3, e3⟩ := hk (en (en (i + 1))) (by omega) l2
  rcases wd_op (hok i hi) with c | c | c | c | c
  · refine g_aload_n k49_0 rfl ?_
    refine m_get k49_1 f49_1 rfl rfl ?_
    refine g_iload_n k49_4 rfl ?_
    refine m_iald k49_5 hdy rfl rfl (by omega) (by omega) ?_
    rw [hwi]
    refine g_istore_n k49_6 rfl rfl ?_
    refine g_iload_n k49_7 rfl ?_
    refine g_iconst (v := nn 1) k49_8 ci_1 ?_
    refine g_iaddN k49_9 ?_
    refine g_istore_n k49_10 rfl rfl ?_
    refine g_iload_n k49_11 rfl ?_
    refine g_callS1 k49_12 s49_12 c49_12 l44 (by omega) rfl rfl r49_12 ?_
    refine s_44 ?_
    refine af_ret ?_
    refine g_ifne_f k49_15 (t := 20) rfl (bb_f (by omega)) ?_
    refine g_iload_n k49_18 rfl ?_
    refine g_ireturn k49_19 t49 ?_
    rw [ftc_lf c] at kk
    exact kk
  · refine g_aload_n k49_0 rfl ?_
    refine m_get k49_1 f49_1 rfl rfl ?_
    refine g_iload_n k49_4 rfl ?_
    refine m_iald k49_5 hdy rfl rfl (by omega) (by omega) ?_
    rw [hwi]
    refine g_istore_n k49_6 rfl rfl ?_
    refine g_iload_n k49_7 rfl ?_
    refine g_iconst (v := nn 1) k49_8 ci_1 ?_
    refine g_iaddN k49_9 ?_
    refine g_istore_n k49_10 rfl rfl ?_
    refine g_iload_n k49_11 rfl ?_
    refine g_callS1 k49_12 s49_12 c49_12 l44 (by omega) rfl rfl r49_12 ?_
    refine s_44 ?_
    refine af_ret ?_
    refine g_ifne_t k49_15 (t := 20) rfl (by rw [bb_t (by omega)]; decide) ?_
    refine g_aload_n k49_20 rfl ?_
    refine m_get k49_21 f49_21 rfl rfl ?_
    refine g_iload_n k49_24 rfl ?_
    refine m_iald k49_25 hdy rfl rfl (by omega) (by omega) ?_
    rw [e1]
    refine g_istore k49_26 rfl rfl ?_
    refine g_aload_n k49_28 rfl ?_
    refine m_get k49_29 f49_29 rfl rfl ?_
    refine g_iload k49_32 rfl ?_
    refine m_iald k49_34 hdy rfl rfl (by omega) (by omega) ?_
    rw [e2]
    refine g_istore k49_35 rfl rfl ?_
    refine g_iload_n k49_37 rfl ?_
    refine g_callS1 k49_38 s49_38 c49_38 l50 (by omega) rfl rfl r49_38 ?_
    refine s_50 ?_
    refine af_ret ?_
    rw [if_neg (by omega), if_pos c]
    refine g_istore k49_41 rfl rfl ?_
    refine g_aload_n k49_43 rfl ?_
    refine m_get k49_44 f49_44 rfl rfl ?_
    refine g_iload_n k49_47 rfl ?_
    refine m_iald k49_48 hdy rfl rfl (by omega) (by omega) ?_
    rw [k1]
    refine g_iload_n k49_49 rfl ?_
    refine g_callS1 k49_50 s49_50 c49_50 l51 (by omega) rfl rfl r49_50 ?_
    refine s_51 ?_
    refine af_ret ?_
    rw [if_pos (by omega)]
    refine g_icneN k49_53 (t := 93) rfl ⟨by omega, by omega⟩ (fun h53 => ?_) (fun h53 => ?_)
    · skip
      refine g_iload_n k49_93 rfl ?_
      refine g_ireturn k49_94 t49 ?_
      rw [ftc_57 c] at kk
      first
        | (rw [if_pos (by omega)] at kk; exact kk)
        | (rw [if_neg (by omega)] at kk; exact kk)
    · skip
      refine g_iload k49_56 rfl ?_
      refine g_iconst (v := nn 1) k49_58 ci_1 ?_
      refine g_icle_t k49_59 (t := 76) rfl (by decide) ?_
      refine g_iload k49_76 rfl ?_
      refine g_iconst (v := nn 2) k49_78 ci_2 ?_
      refine g_icle_t k49_79 (t := 95) rfl (by decide) ?_
      refine g_iload k49_95 rfl ?_
      refine g_iconst (v := nn 1) k49_97 ci_1 ?_
      refine g_icne_f k49_98 (t := 104) rfl rfl ?_
      refine g_iload k49_101 rfl ?_
      refine g_ireturn k49_103 t49 ?_
      rw [ftc_57 c] at kk
      first
        | (rw [if_pos (by omega)] at kk; exact kk)
        | (rw [if_neg (by omega)] at kk; exact kk)
  · refine g_aload_n k49_0 rfl ?_
    refine m_get k49_1 f49_1 rfl rfl ?_
    refine g_iload_n k49_4 rfl ?_
    refine m_iald k49_5 hdy rfl rfl (by omega) (by omega) ?_
    rw [hwi]
    refine g_istore_n k49_6 rfl rfl ?_
    refine g_iload_n k49_7 rfl ?_
    refine g_iconst (v := nn 1) k49_8 ci_1 ?_
    refine g_iaddN k49_9 ?_
    refine g_istore_n k49_10 rfl rfl ?_
    refine g_iload_n k49_11 rfl ?_
    refine g_callS1 k49_12 s49_12 c49_12 l44 (by omega) rfl rfl r49_12 ?_
    refine s_44 ?_
    refine af_ret ?_
    refine g_ifne_t k49_15 (t := 20) rfl (by rw [bb_t (by omega)]; decide) ?_
    refine g_aload_n k49_20 rfl ?_
    refine m_get k49_21 f49_21 rfl rfl ?_
    refine g_iload_n k49_24 rfl ?_
    refine m_iald k49_25 hdy rfl rfl (by omega) (by omega) ?_
    rw [e1]
    refine g_istore k49_26 rfl rfl ?_
    refine g_aload_n k49_28 rfl ?_
    refine m_get k49_29 f49_29 rfl rfl ?_
    refine g_iload k49_32 rfl ?_
    refine m_iald k49_34 hdy rfl rfl (by omega) (by omega) ?_
    rw [e2]
    refine g_istore k49_35 rfl rfl ?_
    refine g_iload_n k49_37 rfl ?_
    refine g_callS1 k49_38 s49_38 c49_38 l50 (by omega) rfl rfl r49_38 ?_
    refine s_50 ?_
    refine af_ret ?_
    rw [if_pos c]
    refine g_istore k49_41 rfl rfl ?_
    refine g_aload_n k49_43 rfl ?_
    refine m_get k49_44 f49_44 rfl rfl ?_
    refine g_iload_n k49_47 rfl ?_
    refine m_iald k49_48 hdy rfl rfl (by omega) (by omega) ?_
    rw [k1]
    refine g_iload_n k49_49 rfl ?_
    refine g_callS1 k49_50 s49_50 c49_50 l51 (by omega) rfl rfl r49_50 ?_
    refine s_51 ?_
    refine af_ret ?_
    rw [if_pos (by omega)]
    refine g_icneN k49_53 (t := 93) rfl ⟨by omega, by omega⟩ (fun h53 => ?_) (fun h53 => ?_)
    · skip
      refine g_iload_n k49_93 rfl ?_
      refine g_ireturn k49_94 t49 ?_
      rw [ftc_58 c] at kk
      first
        | (rw [if_pos (by omega)] at kk; exact kk)
        | (rw [if_neg (by omega)] at kk; exact kk)
    · skip
      refine g_iload k49_56 rfl ?_
      refine g_iconst (v := nn 1) k49_58 ci_1 ?_
      refine g_icle_f k49_59 (t := 76) rfl (by decide) ?_
      refine g_aload_n k49_62 rfl ?_
      refine m_get k49_63 f49_63 rfl rfl ?_
      refine g_iload k49_66 rfl ?_
      refine m_iald k49_68 hdy rfl rfl (by omega) (by omega) ?_
      rw [k2]
      refine g_iload_n k49_69 rfl ?_
      refine g_callS1 k49_70 s49_70 c49_70 l52 (by omega) rfl rfl r49_70 ?_
      refine s_52 ?_
      refine af_ret ?_
      rw [if_neg (by omega)]
      refine g_icneN k49_73 (t := 93) rfl ⟨by omega, by omega⟩ (fun h73 => ?_) (fun h73 => ?_)
      · skip
        refine g_iload_n k49_93 rfl ?_
        refine g_ireturn k49_94 t49 ?_
        rw [ftc_58 c] at kk
        first
          | (rw [if_pos (by omega)] at kk; exact kk)
          | (rw [if_neg (by omega)] at kk; exact kk)
      · skip
        refine g_iload k49_76 rfl ?_
        refine g_iconst (v := nn 2) k49_78 ci_2 ?_
        refine g_icle_f k49_79 (t := 95) rfl (by decide) ?_
        refine g_aload_n k49_82 rfl ?_
        refine m_get k49_83 f49_83 rfl rfl ?_
        refine g_iload k49_86 rfl ?_
        refine m_iald k49_88 hdy rfl rfl (by omega) (by omega) ?_
        rw [k3]
        refine g_iconst (v := nn 1) k49_89 ci_1 ?_
        refine g_iceqN k49_90 (t := 95) rfl ⟨by omega, by omega⟩ (fun h90 => ?_) (fun h90 => ?_)
        · skip
          refine g_iload k49_95 rfl ?_
          refine g_iconst (v := nn 1) k49_97 ci_1 ?_
          refine g_icne_t k49_98 (t := 104) rfl (by decide) ?_
          refine g_iload k49_104 rfl ?_
          refine g_iconst (v := nn 2) k49_106 ci_2 ?_
          refine g_icne_t k49_107 (t := 115) rfl (by decide) ?_
          refine g_aload_n k49_115 rfl ?_
          refine m_get k49_116 f49_116 rfl rfl ?_
          refine g_iload k49_119 rfl ?_
          refine m_iald k49_121 hdy rfl rfl (by omega) (by omega) ?_
          rw [e3]
          refine g_ireturn k49_122 t49 ?_
          rw [ftc_58 c] at kk
          first
            | (rw [if_pos (by omega)] at kk; exact kk)
            | (rw [if_neg (by omega)] at kk; exact kk)
        · skip
          refine g_iload_n k49_93 rfl ?_
          refine g_ireturn k49_94 t49 ?_
          rw [ftc_58 c] at kk
          first
            | (rw [if_pos (by omega)] at kk; exact kk)
            | (rw [if_neg (by omega)] at kk; exact kk)
  · refine g_aload_n k49_0 rfl ?_
    refine m_get k49_1 f49_1 rfl rfl ?_
    refine g_iload_n k49_4 rfl ?_
    refine m_iald k49_5 hdy rfl rfl (by omega) (by omega) ?_
    rw [hwi]
    refine g_istore_n k49_6 rfl rfl ?_
    refine g_iload_n k49_7 rfl ?_
    refine g_iconst (v := nn 1) k49_8 ci_1 ?_
    refine g_iaddN k49_9 ?_
    refine g_istore_n k49_10 rfl rfl ?_
    refine g_iload_n k49_11 rfl ?_
    refine g_callS1 k49_12 s49_12 c49_12 l44 (by omega) rfl rfl r49_12 ?_
    refine s_44 ?_
    refine af_ret ?_
    refine g_ifne_t k49_15 (t := 20) rfl (by rw [bb_t (by omega)]; decide) ?_
    refine g_aload_n k49_20 rfl ?_
    refine m_get k49_21 f49_21 rfl rfl ?_
    refine g_iload_n k49_24 rfl ?_
    refine m_iald k49_25 hdy rfl rfl (by omega) (by omega) ?_
    rw [e1]
    refine g_istore k49_26 rfl rfl ?_
    refine g_aload_n k49_28 rfl ?_
    refine m_get k49_29 f49_29 rfl rfl ?_
    refine g_iload k49_32 rfl ?_
    refine m_iald k49_34 hdy rfl rfl (by omega) (by omega) ?_
    rw [e2]
    refine g_istore k49_35 rfl rfl ?_
    refine g_iload_n k49_37 rfl ?_
    refine g_callS1 k49_38 s49_38 c49_38 l50 (by omega) rfl rfl r49_38 ?_
    refine s_50 ?_
    refine af_ret ?_
    rw [if_neg (by omega), if_neg (by omega)]
    refine g_istore k49_41 rfl rfl ?_
    refine g_aload_n k49_43 rfl ?_
    refine m_get k49_44 f49_44 rfl rfl ?_
    refine g_iload_n k49_47 rfl ?_
    refine m_iald k49_48 hdy rfl rfl (by omega) (by omega) ?_
    rw [k1]
    refine g_iload_n k49_49 rfl ?_
    refine g_callS1 k49_50 s49_50 c49_50 l51 (by omega) rfl rfl r49_50 ?_
    refine s_51 ?_
    refine af_ret ?_
    rw [if_pos (by omega)]
    refine g_icneN k49_53 (t := 93) rfl ⟨by omega, by omega⟩ (fun h53 => ?_) (fun h53 => ?_)
    · skip
      refine g_iload_n k49_93 rfl ?_
      refine g_ireturn k49_94 t49 ?_
      rw [ftc_55 c] at kk
      first
        | (rw [if_pos (by omega)] at kk; exact kk)
        | (rw [if_neg (by omega)] at kk; exact kk)
    · skip
      refine g_iload k49_56 rfl ?_
      refine g_iconst (v := nn 1) k49_58 ci_1 ?_
      refine g_icle_f k49_59 (t := 76) rfl (by decide) ?_
      refine g_aload_n k49_62 rfl ?_
      refine m_get k49_63 f49_63 rfl rfl ?_
      refine g_iload k49_66 rfl ?_
      refine m_iald k49_68 hdy rfl rfl (by omega) (by omega) ?_
      rw [k2]
      refine g_iload_n k49_69 rfl ?_
      refine g_callS1 k49_70 s49_70 c49_70 l52 (by omega) rfl rfl r49_70 ?_
      refine s_52 ?_
      refine af_ret ?_
      rw [if_pos c]
      refine g_icneN k49_73 (t := 93) rfl ⟨by omega, by omega⟩ (fun h73 => ?_) (fun h73 => ?_)
      · skip
        refine g_iload_n k49_93 rfl ?_
        refine g_ireturn k49_94 t49 ?_
        rw [ftc_55 c] at kk
        first
          | (rw [if_pos (by omega)] at kk; exact kk)
          | (rw [if_neg (by omega)] at kk; exact kk)
      · skip
        refine g_iload k49_76 rfl ?_
        refine g_iconst (v := nn 2) k49_78 ci_2 ?_
        refine g_icle_t k49_79 (t := 95) rfl (by decide) ?_
        refine g_iload k49_95 rfl ?_
        refine g_iconst (v := nn 1) k49_97 ci_1 ?_
        refine g_icne_t k49_98 (t := 104) rfl (by decide) ?_
        refine g_iload k49_104 rfl ?_
        refine g_iconst (v := nn 2) k49_106 ci_2 ?_
        refine g_icne_f k49_107 (t := 115) rfl rfl ?_
        refine g_iload k49_110 rfl ?_
        refine g_goto k49_112 (t := 122) rfl ?_
        refine g_ireturn k49_122 t49 ?_
        rw [ftc_55 c] at kk
        first
          | (rw [if_pos (by omega)] at kk; exact kk)
          | (rw [if_neg (by omega)] at kk; exact kk)
  · refine g_aload_n k49_0 rfl ?_
    refine m_get k49_1 f49_1 rfl rfl ?_
    refine g_iload_n k49_4 rfl ?_
    refine m_iald k49_5 hdy rfl rfl (by omega) (by omega) ?_
    rw [hwi]
    refine g_istore_n k49_6 rfl rfl ?_
    refine g_iload_n k49_7 rfl ?_
    refine g_iconst (v := nn 1) k49_8 ci_1 ?_
    refine g_iaddN k49_9 ?_
    refine g_istore_n k49_10 rfl rfl ?_
    refine g_iload_n k49_11 rfl ?_
    refine g_callS1 k49_12 s49_12 c49_12 l44 (by omega) rfl rfl r49_12 ?_
    refine s_44 ?_
    refine af_ret ?_
    refine g_ifne_t k49_15 (t := 20) rfl (by rw [bb_t (by omega)]; decide) ?_
    refine g_aload_n k49_20 rfl ?_
    refine m_get k49_21 f49_21 rfl rfl ?_
    refine g_iload_n k49_24 rfl ?_
    refine m_iald k49_25 hdy rfl rfl (by omega) (by omega) ?_
    rw [e1]
    refine g_istore k49_26 rfl rfl ?_
    refine g_aload_n k49_28 rfl ?_
    refine m_get k49_29 f49_29 rfl rfl ?_
    refine g_iload k49_32 rfl ?_
    refine m_iald k49_34 hdy rfl rfl (by omega) (by omega) ?_
    rw [e2]
    refine g_istore k49_35 rfl rfl ?_
    refine g_iload_n k49_37 rfl ?_
    refine g_callS1 k49_38 s49_38 c49_38 l50 (by omega) rfl rfl r49_38 ?_
    refine s_50 ?_
    refine af_ret ?_
    rw [if_neg (by omega), if_neg (by omega)]
    refine g_istore k49_41 rfl rfl ?_
    refine g_aload_n k49_43 rfl ?_
    refine m_get k49_44 f49_44 rfl rfl ?_
    refine g_iload_n k49_47 rfl ?_
    refine m_iald k49_48 hdy rfl rfl (by omega) (by omega) ?_
    rw [k1]
    refine g_iload_n k49_49 rfl ?_
    refine g_callS1 k49_50 s49_50 c49_50 l51 (by omega) rfl rfl r49_50 ?_
    refine s_51 ?_
    refine af_ret ?_
    rw [if_neg (by omega)]
    refine g_icneN k49_53 (t := 93) rfl ⟨by omega, by omega⟩ (fun h53 => ?_) (fun h53 => ?_)
    · skip
      refine g_iload_n k49_93 rfl ?_
      refine g_ireturn k49_94 t49 ?_
      rw [ftc_50 c] at kk
      first
        | (rw [if_pos (by omega)] at kk; exact kk)
        | (rw [if_neg (by omega)] at kk; exact kk)
    · skip
      refine g_iload k49_56 rfl ?_
      refine g_iconst (v := nn 1) k49_58 ci_1 ?_
      refine g_icle_f k49_59 (t := 76) rfl (by decide) ?_
      refine g_aload_n k49_62 rfl ?_
      refine m_get k49_63 f49_63 rfl rfl ?_
      refine g_iload k49_66 rfl ?_
      refine m_iald k49_68 hdy rfl rfl (by omega) (by omega) ?_
      rw [k2]
      refine g_iload_n k49_69 rfl ?_
      refine g_callS1 k49_70 s49_70 c49_70 l52 (by omega) rfl rfl r49_70 ?_
      refine s_52 ?_
      refine af_ret ?_
      rw [if_neg (by omega)]
      refine g_icneN k49_73 (t := 93) rfl ⟨by omega, by omega⟩ (fun h73 => ?_) (fun h73 => ?_)
      · skip
        refine g_iload_n k49_93 rfl ?_
        refine g_ireturn k49_94 t49 ?_
        rw [ftc_50 c] at kk
        first
          | (rw [if_pos (by omega)] at kk; exact kk)
          | (rw [if_neg (by omega)] at kk; exact kk)
      · skip
        refine g_iload k49_76 rfl ?_
        refine g_iconst (v := nn 2) k49_78 ci_2 ?_
        refine g_icle_t k49_79 (t := 95) rfl (by decide) ?_
        refine g_iload k49_95 rfl ?_
        refine g_iconst (v := nn 1) k49_97 ci_1 ?_
        refine g_icne_t k49_98 (t := 104) rfl (by decide) ?_
        refine g_iload k49_104 rfl ?_
        refine g_iconst (v := nn 2) k49_106 ci_2 ?_
        refine g_icne_f k49_107 (t := 115) rfl rfl ?_
        refine g_iload k49_110 rfl ?_
        refine g_goto k49_112 (t := 122) rfl ?_
        refine g_ireturn k49_122 t49 ?_
        rw [ftc_50 c] at kk
        first
          | (rw [if_pos (by omega)] at kk; exact kk)
          | (rw [if_neg (by omega)] at kk; exact kk)
/-- kinds and ends, as the class has them -/
def KE (σ : Nat → Nat → Int32) (n i : Nat) (kd en : Nat → Nat) : Prop := ∀ j, i ≤ j → j ≤ n → σ 3 j = nn (kd j) ∧ σ 4 j = nn (en j)
theorem ky_eq (hok : ∀ j, j < n → wd_ok (ws j)) (h : CP ws n 0 kd en) : ky ws n [] = decide (kd 0 ≠ 0 ∧ en 0 = n) := by
  by_cases c : kd 0 ≠ 0 ∧ en 0 = n
  · rw [decide_eq_true c]
    unfold ky
    rw [(h.yes hok c.1 c.2).2]
  · rw [decide_eq_false c]
    unfold ky
    have hno := h.no hok c
    cases hk : kr ws n [] with
    | none => rfl
    | some l =>
      match l with
      | [] => rfl
      | [t] => exact absurd hk (hno t)
      | _ :: _ :: _ => rfl
theorem s_48L (hdy : dy.length < 100000) (hn : n ≤ 24) (hok : ∀ j, j < n → wd_ok (ws j)) : ∀ (i : Nat) {σ : Nat → Nat → Int32} {kd en : Nat → Nat} {l2 : Option Value} {Q : am_A → am_H → Prop}, i ≤ n → σ 1 3 = nn n → (∀ j, j < n → σ 2 j = ws j) → CP ws n i kd en → KE σ n i kd en → (∀ σ' kd en, (∀ a, a ≠ 3 → a ≠ 4 → σ' a = σ a) → CP ws n 0 kd en → KE σ' n 0 kd en → Q (.inl (some (.int (bb (ky ws n [] = true))))) (mk dy σ' ρ τ)) → go (tb_P L xs) 48 30 [some (.ref 1), some (.int (nn i - nn 1)), l2] [] (mk dy σ ρ τ) Q := by
  intro i
  induction i with
  | zero =>
    intro σ kd en l2 Q hi h3 hw hc hke kk
    obtain ⟨k0, e0⟩ := hke 0 (by omega) (by omega)
    have c0 := hc.c3 (j := 0) (by omega) (by omega)
    have b0 := hc.le (j := 0) (by omega) (by omega)
    have hq := kk σ kd en (fun _ _ _ => rfl) hc hke
    rw [ky_eq hok hc] at hq
    refine g_iload_n k48_30 rfl ?_
    refine g_iflt_t k48_31 (t := 113) rfl (by decide) ?_
    refine g_aload_n k48_113 rfl ?_
    refine m_get k48_114 f48_114 rfl rfl ?_
    refine g_iconst (v := nn 0) k48_117 ci_0 ?_
    refine m_iald k48_118 hdy rfl rfl (by omega) (by omega) ?_
    rw [k0]
    refine g_ifeqN k48_119 (t := 139) rfl (by omega) (fun h119 => ?_) (fun h119 => ?_)
    · skip
      refine g_iconst (v := nn 0) k48_139 ci_0 ?_
      refine g_breturn k48_140 t48 (by decide) ?_
      first
        | (rw [bb_t (decide_eq_true ⟨by omega, by omega⟩)] at hq; exact hq)
        | (rw [bb_f (by rw [decide_eq_true_eq]; omega)] at hq; exact hq)
    · skip
      refine g_aload_n k48_122 rfl ?_
      refine m_get k48_123 f48_123 rfl rfl ?_
      refine g_iconst (v := nn 0) k48_126 ci_0 ?_
      refine m_iald k48_127 hdy rfl rfl (by omega) (by omega) ?_
      rw [e0]
      refine g_aload_n k48_128 rfl ?_
      refine m_get k48_129 f48_129 rfl rfl ?_
      rw [h3]
      refine g_icneN k48_132 (t := 139) rfl ⟨by omega, by omega⟩ (fun h132 => ?_) (fun h132 => ?_)
      · skip
        refine g_iconst (v := nn 0) k48_139 ci_0 ?_
        refine g_breturn k48_140 t48 (by decide) ?_
        first
          | (rw [bb_t (decide_eq_true ⟨by omega, by omega⟩)] at hq; exact hq)
          | (rw [bb_f (by rw [decide_eq_true_eq]; omega)] at hq; exact hq)
      · skip
        refine g_iconst (v := nn 1) k48_135 ci_1 ?_
        refine g_goto k48_136 (t := 140) rfl ?_
        refine g_breturn k48_140 t48 (by decide) ?_
        first
          | (rw [bb_t (decide_eq_true ⟨by omega, by omega⟩)] at hq; exact hq)
          | (rw [bb_f (by rw [decide_eq_true_eq]; omega)] at hq; exact hq)
  | succ i ih =>
    intro σ kd en l2 Q hi h3 hw hc hke kk
    rw [nn_pred]
    have hin : i < n := by omega
    have hwi := hw i hin
    have hce := hc.ext hin
    have nxt : ∀ (t k : Nat) (l2 : Option Value), t = ex ws n i kd en i → k = kx ws i kd en i → ∀ t0 : Nat, go (tb_P L xs) 48 30 [some (.ref 1), some (.int (nn i - nn 1)), l2] [] (mk dy (up2 (up2 (up2 σ 4 i (nn t0)) 3 i (nn k)) 4 i (nn t)) ρ τ) Q := by
      intro t k l2 ht hk t0
      refine ih (kd := kx ws i kd en) (en := ex ws n i kd en) (by omega) (by rw [up2_ne (by omega), up2_ne (by omega), up2_ne (by omega)]; exact h3) (fun j hj => by rw [up2_ne (by omega), up2_ne (by omega), up2_ne (by omega)]; exact hw j hj) hce (fun j h1 h2 => ?_) (fun σ' kd' en' g1 g2 g3 => kk σ' kd' en' (fun a h1 h2 => ?_) g2 g3)
      · rw [up2_ne (a := 3) (by omega), up2_of, up2_ne (a := 3) (by omega), up2_of]
        by_cases c : j = i
        · rw [if_pos c, if_pos c, hk, ht, c]
          exact ⟨rfl, rfl⟩
        · rw [if_neg c, if_neg c, up2_ne (by omega), up2_ne (by omega)]
          have := hke j (by omega) h2
          rw [show kx ws i kd en j = kd j by unfold kx; rw [if_neg c], show ex ws n i kd en j = en j by unfold ex; rw [if_neg c]]
          exact this
      · rw [g1 a h1 h2]
        funext q
        rw [up2_ne (Or.inl h2), up2_ne (Or.inl h1), up2_ne (Or.inl h2)]
    cases ht : ftc (ws i) i kd en with
    | none =>
      have x1 : ex ws n i kd en i = n := by unfold ex; rw [if_pos rfl, ht]; rfl
      have x2 : kx ws i kd en i = 0 := by unfold kx; rw [if_pos rfl, ht]; rfl
      refine g_iload_n k48_30 rfl ?_
      refine g_ifltN (t := 113) k48_31 rfl (by omega) ?_
      refine g_aload_n k48_34 rfl ?_
      refine m_get k48_35 f48_35 rfl rfl ?_
      refine g_iload_n k48_38 rfl ?_
      refine g_aload_n k48_39 rfl ?_
      refine g_iload_n k48_40 rfl ?_
      refine m_callV1 k48_41 s48_41 c48_41 l49 (by omega) rfl rfl r48_41 rfl ?_
      refine s_49 hdy hn hin hok hc hw (fun j h1 h2 => hke j (by omega) h2) ?_
      refine af_ret ?_
      rw [ht, show (none : Option Nat).getD i = i from rfl]
      refine m_iast k48_44 rfl rfl (by omega) (by omega) ?_
      refine g_aload_n k48_45 rfl ?_
      refine m_get k48_46 f48_46 rfl rfl ?_
      refine g_iload_n k48_49 rfl ?_
      refine m_iald k48_50 hdy rfl rfl (by omega) (by omega) ?_
      rw [up2_at]
      refine g_iload_n k48_51 rfl ?_
      refine g_icle_t k48_52 (t := 59) rfl (by omega) ?_
      refine g_iconst (v := nn 0) k48_59 ci_0 ?_
      refine g_istore_n k48_60 rfl rfl ?_
      refine g_aload_n k48_61 rfl ?_
      refine m_get k48_62 f48_62 rfl rfl ?_
      refine g_iload_n k48_65 rfl ?_
      refine g_iload_n k48_66 rfl ?_
      refine g_ifeq_t k48_67 (t := 82) rfl rfl ?_
      refine g_iconst (v := nn 0) k48_82 ci_0 ?_
      refine m_iast k48_83 rfl rfl (by omega) (by omega) ?_
      refine g_aload_n k48_84 rfl ?_
      refine m_get k48_85 f48_85 rfl rfl ?_
      refine g_iload_n k48_88 rfl ?_
      refine g_iload_n k48_89 rfl ?_
      refine g_ifeq_t k48_90 (t := 102) rfl rfl ?_
      refine g_aload_n k48_102 rfl ?_
      refine m_get k48_103 f48_103 rfl rfl ?_
      rw [up2_ne (by omega), up2_ne (by omega), h3]
      refine m_iast k48_106 rfl rfl (by omega) (by omega) ?_
      refine g_idecM k48_107 rfl rfl rfl ?_
      refine g_goto k48_110 (t := 30) rfl ?_
      exact nxt n 0 _ x1.symm x2.symm i
    | some t =>
      have hgt := ftc_gt (hok i hin) hc hin ht
      have x1 : ex ws n i kd en i = t := by unfold ex; rw [if_pos rfl, ht]; rfl
      have x2 : kx ws i kd en i = kw (ws i) := by unfold kx; rw [if_pos rfl, ht]; rfl
      have x3 : (if 53 ≤ (ws i).toInt ∧ (ws i).toInt ≤ 57 then nn 2 else nn 1) = nn (kw (ws i)) := by
        unfold kw
        split <;> rfl
      refine g_iload_n k48_30 rfl ?_
      refine g_ifltN (t := 113) k48_31 rfl (by omega) ?_
      refine g_aload_n k48_34 rfl ?_
      refine m_get k48_35 f48_35 rfl rfl ?_
      refine g_iload_n k48_38 rfl ?_
      refine g_aload_n k48_39 rfl ?_
      refine g_iload_n k48_40 rfl ?_
      refine m_callV1 k48_41 s48_41 c48_41 l49 (by omega) rfl rfl r48_41 rfl ?_
      refine s_49 hdy hn hin hok hc hw (fun j h1 h2 => hke j (by omega) h2) ?_
      refine af_ret ?_
      rw [ht, show (some t : Option Nat).getD i = t from rfl]
      refine m_iast k48_44 rfl rfl (by omega) (by omega) ?_
      refine g_aload_n k48_45 rfl ?_
      refine m_get k48_46 f48_46 rfl rfl ?_
      refine g_iload_n k48_49 rfl ?_
      refine m_iald k48_50 hdy rfl rfl (by omega) (by omega) ?_
      rw [up2_at]
      refine g_iload_n k48_51 rfl ?_
      refine g_icle_f k48_52 (t := 59) rfl (by rw [nn_toInt (by omega), nn_toInt (by omega)]; omega) ?_
      refine g_iconst (v := nn 1) k48_55 ci_1 ?_
      refine g_goto k48_56 (t := 60) rfl ?_
      refine g_istore_n k48_60 rfl rfl ?_
      refine g_aload_n k48_61 rfl ?_
      refine m_get k48_62 f48_62 rfl rfl ?_
      refine g_iload_n k48_65 rfl ?_
      refine g_iload_n k48_66 rfl ?_
      refine g_ifeq_f k48_67 (t := 82) rfl (by decide) ?_
      refine g_aload_n k48_70 rfl ?_
      refine m_get k48_71 f48_71 rfl rfl ?_
      refine g_iload_n k48_74 rfl ?_
      refine m_iald k48_75 hdy rfl rfl (by omega) (by omega) ?_
      rw [up2_ne (by omega), hwi]
      refine g_callS1 k48_76 s48_76 c48_76 l53 (by omega) rfl rfl r48_76 ?_
      refine s_53 ?_
      refine af_ret ?_
      rw [x3]
      refine g_goto k48_79 (t := 83) rfl ?_
      refine m_iast k48_83 rfl rfl (by omega) (by omega) ?_
      refine g_aload_n k48_84 rfl ?_
      refine m_get k48_85 f48_85 rfl rfl ?_
      refine g_iload_n k48_88 rfl ?_
      refine g_iload_n k48_89 rfl ?_
      refine g_ifeq_f k48_90 (t := 102) rfl (by decide) ?_
      refine g_aload_n k48_93 rfl ?_
      refine m_get k48_94 f48_94 rfl rfl ?_
      refine g_iload_n k48_97 rfl ?_
      refine m_iald k48_98 hdy rfl rfl (by omega) (by omega) ?_
      rw [up2_ne (by omega), up2_at]
      refine g_goto k48_99 (t := 106) rfl ?_
      refine m_iast k48_106 rfl rfl (by omega) (by omega) ?_
      refine g_idecM k48_107 rfl rfl rfl ?_
      refine g_goto k48_110 (t := 30) rfl ?_
      exact nxt t (kw (ws i)) _ x1.symm x2.symm t
theorem s_48 (hdy : dy.length < 100000) (hn : n ≤ 24) (hok : ∀ j, j < n → wd_ok (ws j)) (h3 : σ 1 3 = nn n) (hw : ∀ j, j < n → σ 2 j = ws j) (kk : ∀ σ' kd en, (∀ a, a ≠ 3 → a ≠ 4 → σ' a = σ a) → CP ws n 0 kd en → KE σ' n 0 kd en → Q (.inl (some (.int (bb (ky ws n [] = true))))) (mk dy σ' ρ τ)) : go (tb_P L xs) 48 0 [some (.ref 1), none, none] [] (mk dy σ ρ τ) Q := by
  refine g_aload_n k48_0 rfl ?_
  refine m_get k48_1 f48_1 rfl rfl ?_
  refine g_aload_n k48_4 rfl ?_
  refine m_get k48_5 f48_5 rfl rfl ?_
  rw [h3]
  refine g_iconst (v := nn 0) k48_8 ci_0 ?_
  refine m_iast k48_9 rfl rfl (by omega) (by omega) ?_
  refine g_aload_n k48_10 rfl ?_
  refine m_get k48_11 f48_11 rfl rfl ?_
  refine g_aload_n k48_14 rfl ?_
  refine m_get k48_15 f48_15 rfl rfl ?_
  rw [up2_ne (by omega), h3]
  refine g_aload_n k48_18 rfl ?_
  refine m_get k48_19 f48_19 rfl rfl ?_
  rw [up2_ne (by omega), h3]
  refine m_iast k48_22 rfl rfl (by omega) (by omega) ?_
  refine g_aload_n k48_23 rfl ?_
  refine m_get k48_24 f48_24 rfl rfl ?_
  rw [up2_ne (by omega), up2_ne (by omega), h3]
  refine g_iconst (v := nn 1) k48_27 ci_1 ?_
  refine g_isub k48_28 ?_
  refine g_istore_n k48_29 rfl rfl ?_
  refine s_48L (kd := fun _ => 0) (en := fun _ => n) hdy hn hok n (Nat.le_refl _) (by rw [up2_ne (by omega), up2_ne (by omega)]; exact h3) (fun j hj => by rw [up2_ne (by omega), up2_ne (by omega)]; exact hw j hj) ⟨⟨rfl, rfl⟩, fun j h1 h2 => by omega⟩ (fun j h1 h2 => ?_) (fun σ' kd en g1 g2 g3 => kk σ' kd en (fun a h1 h2 => ?_) g2 g3)
  · have hj : j = n := by omega
    subst hj
    rw [up2_ne (by omega), up2_at, up2_at]
    exact ⟨rfl, rfl⟩
  · rw [g1 a h1 h2]
    funext q
    rw [up2_ne (Or.inl h2), up2_ne (Or.inl h1)]
theorem s_54 (kk : Q (.inl none) (mk dy (up2 σ 1 3 (nn 0)) ρ τ)) : go (tb_P L xs) 54 0 [some (.ref 1)] [] (mk dy σ ρ τ) Q := by
  refine g_aload_n k54_0 rfl ?_
  refine g_iconst (v := nn 0) k54_1 ci_0 ?_
  refine m_putI k54_2 f54_2 rfl rfl rfl ?_
  refine g_return k54_5 t54 ?_
  exact kk
/-- what a word mentions -/
def mw (w : Int32) (v : Nat) : Bool := decide (w.toInt = if v = 6 then 40 else 20 + (v : Int))
theorem s_57 (hw : wd_ok w) (kk : ∀ x, bt x (mw w) → Q (.inl (some (.int x))) (mk dy σ ρ τ)) : go (tb_P L xs) 57 0 [some (.int w), none] [] (mk dy σ ρ τ) Q := by
  have t20 := ti_20
  have t40 := ti_40
  refine g_iload_n k57_0 rfl ?_
  refine g_bipush (v := nn 20) k57_1 cb_20 ?_
  refine g_iclt k57_3 (t := 16) rfl (fun h3 => ?_) (fun h3 => ?_)
  · skip
    refine g_iconst (v := nn 0) k57_16 ci_0 ?_
    refine g_istore_n k57_17 rfl rfl ?_
    refine g_iload_n k57_18 rfl ?_
    refine g_ifeqN k57_19 (t := 31) rfl (by omega) (fun h19 => ?_) (fun h19 => ?_)
    · skip
      refine g_iconst (v := nn 0) k57_31 ci_0 ?_
      refine g_ireturn k57_32 t57 ?_
      first
        | (refine kk _ (bt_congr bt_0 (fun v hv => ?_))
           unfold mw
           refine (decide_eq_false ?_).symm
           first
             | (have h19' := h19
                unfold wd_ok at hw
                split <;> omega)
             | omega)
        | (refine kk _ (bt_congr (bt_1 (pl_7 hw (by omega) (by omega))) (fun v hv => ?_))
           unfold mw pli
           refine decide_eq_decide.mpr ?_
           unfold wd_ok at hw
           by_cases c : w.toInt = 40
           · rw [if_pos c]
             by_cases c6 : v = 6
             · rw [if_pos c6]; omega
             · rw [if_neg c6]; omega
           · rw [if_neg c]
             by_cases c6 : v = 6
             · rw [if_pos c6]; omega
             · rw [if_neg c6]; omega)
    · skip
      refine g_iconst (v := nn 1) k57_22 ci_1 ?_
      refine g_iload_n k57_23 rfl ?_
      refine g_callS1 k57_24 s57_24 c57_24 l14 (by omega) rfl rfl r57_24 ?_
      refine s_14 ?_
      refine af_ret ?_
      rw [pl_ix hw (by omega) (by omega)]
      refine g_ishl k57_27 ?_
      refine g_goto k57_28 (t := 32) rfl ?_
      refine g_ireturn k57_32 t57 ?_
      first
        | (refine kk _ (bt_congr bt_0 (fun v hv => ?_))
           unfold mw
           refine (decide_eq_false ?_).symm
           first
             | (have h19' := h19
                unfold wd_ok at hw
                split <;> omega)
             | omega)
        | (refine kk _ (bt_congr (bt_1 (pl_7 hw (by omega) (by omega))) (fun v hv => ?_))
           unfold mw pli
           refine decide_eq_decide.mpr ?_
           unfold wd_ok at hw
           by_cases c : w.toInt = 40
           · rw [if_pos c]
             by_cases c6 : v = 6
             · rw [if_pos c6]; omega
             · rw [if_neg c6]; omega
           · rw [if_neg c]
             by_cases c6 : v = 6
             · rw [if_pos c6]; omega
             · rw [if_neg c6]; omega)
  · skip
    refine g_iload_n k57_6 rfl ?_
    refine g_bipush (v := nn 40) k57_7 cb_40 ?_
    refine g_icgt k57_9 (t := 16) rfl (fun h9 => ?_) (fun h9 => ?_)
    · skip
      refine g_iconst (v := nn 0) k57_16 ci_0 ?_
      refine g_istore_n k57_17 rfl rfl ?_
      refine g_iload_n k57_18 rfl ?_
      refine g_ifeqN k57_19 (t := 31) rfl (by omega) (fun h19 => ?_) (fun h19 => ?_)
      · skip
        refine g_iconst (v := nn 0) k57_31 ci_0 ?_
        refine g_ireturn k57_32 t57 ?_
        first
          | (refine kk _ (bt_congr bt_0 (fun v hv => ?_))
             unfold mw
             refine (decide_eq_false ?_).symm
             first
               | (have h19' := h19
                  unfold wd_ok at hw
                  split <;> omega)
               | omega)
          | (refine kk _ (bt_congr (bt_1 (pl_7 hw (by omega) (by omega))) (fun v hv => ?_))
             unfold mw pli
             refine decide_eq_decide.mpr ?_
             unfold wd_ok at hw
             by_cases c : w.toInt = 40
             · rw [if_pos c]
               by_cases c6 : v = 6
               · rw [if_pos c6]; omega
               · rw [if_neg c6]; omega
             · rw [if_neg c]
               by_cases c6 : v = 6
               · rw [if_pos c6]; omega
               · rw [if_neg c6]; omega)
      · skip
        refine g_iconst (v := nn 1) k57_22 ci_1 ?_
        refine g_iload_n k57_23 rfl ?_
        refine g_callS1 k57_24 s57_24 c57_24 l14 (by omega) rfl rfl r57_24 ?_
        refine s_14 ?_
        refine af_ret ?_
        rw [pl_ix hw (by omega) (by omega)]
        refine g_ishl k57_27 ?_
        refine g_goto k57_28 (t := 32) rfl ?_
        refine g_ireturn k57_32 t57 ?_
        first
          | (refine kk _ (bt_congr bt_0 (fun v hv => ?_))
             unfold mw
             refine (decide_eq_false ?_).symm
             first
               | (have h19' := h19
                  unfold wd_ok at hw
                  split <;> omega)
               | omega)
          | (refine kk _ (bt_congr (bt_1 (pl_7 hw (by omega) (by omega))) (fun v hv => ?_))
             unfold mw pli
             refine decide_eq_decide.mpr ?_
             unfold wd_ok at hw
             by_cases c : w.toInt = 40
             · rw [if_pos c]
               by_cases c6 : v = 6
               · rw [if_pos c6]; omega
               · rw [if_neg c6]; omega
             · rw [if_neg c]
               by_cases c6 : v = 6
               · rw [if_pos c6]; omega
               · rw [if_neg c6]; omega)
    · skip
      refine g_iconst (v := nn 1) k57_12 ci_1 ?_
      refine g_goto k57_13 (t := 17) rfl ?_
      refine g_istore_n k57_17 rfl rfl ?_
      refine g_iload_n k57_18 rfl ?_
      refine g_ifeqN k57_19 (t := 31) rfl (by omega) (fun h19 => ?_) (fun h19 => ?_)
      · skip
        refine g_iconst (v := nn 0) k57_31 ci_0 ?_
        refine g_ireturn k57_32 t57 ?_
        first
          | (refine kk _ (bt_congr bt_0 (fun v hv => ?_))
             unfold mw
             refine (decide_eq_false ?_).symm
             first
               | (have h19' := h19
                  unfold wd_ok at hw
                  split <;> omega)
               | omega)
          | (refine kk _ (bt_congr (bt_1 (pl_7 hw (by omega) (by omega))) (fun v hv => ?_))
             unfold mw pli
             refine decide_eq_decide.mpr ?_
             unfold wd_ok at hw
             by_cases c : w.toInt = 40
             · rw [if_pos c]
               by_cases c6 : v = 6
               · rw [if_pos c6]; omega
               · rw [if_neg c6]; omega
             · rw [if_neg c]
               by_cases c6 : v = 6
               · rw [if_pos c6]; omega
               · rw [if_neg c6]; omega)
      · skip
        refine g_iconst (v := nn 1) k57_22 ci_1 ?_
        refine g_iload_n k57_23 rfl ?_
        refine g_callS1 k57_24 s57_24 c57_24 l14 (by omega) rfl rfl r57_24 ?_
        refine s_14 ?_
        refine af_ret ?_
        rw [pl_ix hw (by omega) (by omega)]
        refine g_ishl k57_27 ?_
        refine g_goto k57_28 (t := 32) rfl ?_
        refine g_ireturn k57_32 t57 ?_
        first
          | (refine kk _ (bt_congr bt_0 (fun v hv => ?_))
             unfold mw
             refine (decide_eq_false ?_).symm
             first
               | (have h19' := h19
                  unfold wd_ok at hw
                  split <;> omega)
               | omega)
          | (refine kk _ (bt_congr (bt_1 (pl_7 hw (by omega) (by omega))) (fun v hv => ?_))
             unfold mw pli
             refine decide_eq_decide.mpr ?_
             unfold wd_ok at hw
             by_cases c : w.toInt = 40
             · rw [if_pos c]
               by_cases c6 : v = 6
               · rw [if_pos c6]; omega
               · rw [if_neg c6]; omega
             · rw [if_neg c]
               by_cases c6 : v = 6
               · rw [if_pos c6]; omega
               · rw [if_neg c6]; omega)
end ZG
