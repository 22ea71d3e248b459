/-! Small methods, of numbers alone. -/
section PA
variable {L : Nat} {xs : Nat → Int32} {h : am_H} {Q : am_A → am_H → Prop}
theorem s_26 {a : Int32} {b : Int32} (kk : Q (.inl (some (.int (bb (0 ≤ a.toInt ∧ a.toInt < b.toInt))))) h) : go (tb_P L xs) 26 0 [some (.int a), some (.int b)] [] h Q := by
  refine g_iload_n k26_0 rfl ?_
  refine g_iflt k26_1 (t := 13) rfl (fun h1 => ?_) (fun h1 => ?_)
  · skip
    refine g_iconst (v := nn 0) k26_13 ci_0 ?_
    refine g_breturn k26_14 t26 (by decide) ?_
    first | (rw [bb_t (by first | omega | (simp only [ti_0, ti_1, ti_2, ti_3, ti_4, ti_5, ti_6, ti_9, ti_10, ti_20, ti_22, ti_25, ti_26, ti_40, ti_50, ti_52, ti_53, ti_55, ti_56, ti_57, ti_58, ti_59] at *; omega))] at kk; exact kk) | (rw [bb_f (by first | omega | (simp only [ti_0, ti_1, ti_2, ti_3, ti_4, ti_5, ti_6, ti_9, ti_10, ti_20, ti_22, ti_25, ti_26, ti_40, ti_50, ti_52, ti_53, ti_55, ti_56, ti_57, ti_58, ti_59] at *; omega))] at kk; exact kk)
  · skip
    refine g_iload_n k26_4 rfl ?_
    refine g_iload_n k26_5 rfl ?_
    refine g_icge k26_6 (t := 13) rfl (fun h6 => ?_) (fun h6 => ?_)
    · skip
      refine g_iconst (v := nn 0) k26_13 ci_0 ?_
      refine g_breturn k26_14 t26 (by decide) ?_
      first | (rw [bb_t (by first | omega | (simp only [ti_0, ti_1, ti_2, ti_3, ti_4, ti_5, ti_6, ti_9, ti_10, ti_20, ti_22, ti_25, ti_26, ti_40, ti_50, ti_52, ti_53, ti_55, ti_56, ti_57, ti_58, ti_59] at *; omega))] at kk; exact kk) | (rw [bb_f (by first | omega | (simp only [ti_0, ti_1, ti_2, ti_3, ti_4, ti_5, ti_6, ti_9, ti_10, ti_20, ti_22, ti_25, ti_26, ti_40, ti_50, ti_52, ti_53, ti_55, ti_56, ti_57, ti_58, ti_59] at *; omega))] at kk; exact kk)
    · skip
      refine g_iconst (v := nn 1) k26_9 ci_1 ?_
      refine g_goto k26_10 (t := 14) rfl ?_
      refine g_breturn k26_14 t26 (by decide) ?_
      first | (rw [bb_t (by first | omega | (simp only [ti_0, ti_1, ti_2, ti_3, ti_4, ti_5, ti_6, ti_9, ti_10, ti_20, ti_22, ti_25, ti_26, ti_40, ti_50, ti_52, ti_53, ti_55, ti_56, ti_57, ti_58, ti_59] at *; omega))] at kk; exact kk) | (rw [bb_f (by first | omega | (simp only [ti_0, ti_1, ti_2, ti_3, ti_4, ti_5, ti_6, ti_9, ti_10, ti_20, ti_22, ti_25, ti_26, ti_40, ti_50, ti_52, ti_53, ti_55, ti_56, ti_57, ti_58, ti_59] at *; omega))] at kk; exact kk)
theorem s_60 {a : Int32} (kk : Q (.inl (some (.int (bb (a.toInt = 0 ∨ a.toInt = 1))))) h) : go (tb_P L xs) 60 0 [some (.int a)] [] h Q := by
  refine g_iload_n k60_0 rfl ?_
  refine g_ifeqT k60_1 (t := 9) rfl (fun h1 => ?_) (fun h1 => ?_)
  · skip
    refine g_iconst (v := nn 1) k60_9 ci_1 ?_
    refine g_goto k60_10 (t := 14) rfl ?_
    refine g_breturn k60_14 t60 (by decide) ?_
    first | (rw [bb_t (by first | omega | (simp only [ti_0, ti_1, ti_2, ti_3, ti_4, ti_5, ti_6, ti_9, ti_10, ti_20, ti_22, ti_25, ti_26, ti_40, ti_50, ti_52, ti_53, ti_55, ti_56, ti_57, ti_58, ti_59] at *; omega))] at kk; exact kk) | (rw [bb_f (by first | omega | (simp only [ti_0, ti_1, ti_2, ti_3, ti_4, ti_5, ti_6, ti_9, ti_10, ti_20, ti_22, ti_25, ti_26, ti_40, ti_50, ti_52, ti_53, ti_55, ti_56, ti_57, ti_58, ti_59] at *; omega))] at kk; exact kk)
  · skip
    refine g_iload_n k60_4 rfl ?_
    refine g_iconst (v := nn 1) k60_5 ci_1 ?_
    refine g_icneT k60_6 (t := 13) rfl (fun h6 => ?_) (fun h6 => ?_)
    · skip
      refine g_iconst (v := nn 0) k60_13 ci_0 ?_
      refine g_breturn k60_14 t60 (by decide) ?_
      first | (rw [bb_t (by first | omega | (simp only [ti_0, ti_1, ti_2, ti_3, ti_4, ti_5, ti_6, ti_9, ti_10, ti_20, ti_22, ti_25, ti_26, ti_40, ti_50, ti_52, ti_53, ti_55, ti_56, ti_57, ti_58, ti_59] at *; omega))] at kk; exact kk) | (rw [bb_f (by first | omega | (simp only [ti_0, ti_1, ti_2, ti_3, ti_4, ti_5, ti_6, ti_9, ti_10, ti_20, ti_22, ti_25, ti_26, ti_40, ti_50, ti_52, ti_53, ti_55, ti_56, ti_57, ti_58, ti_59] at *; omega))] at kk; exact kk)
    · skip
      refine g_iconst (v := nn 1) k60_9 ci_1 ?_
      refine g_goto k60_10 (t := 14) rfl ?_
      refine g_breturn k60_14 t60 (by decide) ?_
      first | (rw [bb_t (by first | omega | (simp only [ti_0, ti_1, ti_2, ti_3, ti_4, ti_5, ti_6, ti_9, ti_10, ti_20, ti_22, ti_25, ti_26, ti_40, ti_50, ti_52, ti_53, ti_55, ti_56, ti_57, ti_58, ti_59] at *; omega))] at kk; exact kk) | (rw [bb_f (by first | omega | (simp only [ti_0, ti_1, ti_2, ti_3, ti_4, ti_5, ti_6, ti_9, ti_10, ti_20, ti_22, ti_25, ti_26, ti_40, ti_50, ti_52, ti_53, ti_55, ti_56, ti_57, ti_58, ti_59] at *; omega))] at kk; exact kk)
theorem s_44 {w : Int32} (kk : Q (.inl (some (.int (bb (50 ≤ w.toInt ∧ w.toInt ≤ 58))))) h) : go (tb_P L xs) 44 0 [some (.int w)] [] h Q := by
  refine g_iload_n k44_0 rfl ?_
  refine g_bipush (v := nn 50) k44_1 cb_50 ?_
  refine g_iclt k44_3 (t := 16) rfl (fun h3 => ?_) (fun h3 => ?_)
  · skip
    refine g_iconst (v := nn 0) k44_16 ci_0 ?_
    refine g_breturn k44_17 t44 (by decide) ?_
    first | (rw [bb_t (by first | omega | (simp only [ti_0, ti_1, ti_2, ti_3, ti_4, ti_5, ti_6, ti_9, ti_10, ti_20, ti_22, ti_25, ti_26, ti_40, ti_50, ti_52, ti_53, ti_55, ti_56, ti_57, ti_58, ti_59] at *; omega))] at kk; exact kk) | (rw [bb_f (by first | omega | (simp only [ti_0, ti_1, ti_2, ti_3, ti_4, ti_5, ti_6, ti_9, ti_10, ti_20, ti_22, ti_25, ti_26, ti_40, ti_50, ti_52, ti_53, ti_55, ti_56, ti_57, ti_58, ti_59] at *; omega))] at kk; exact kk)
  · skip
    refine g_iload_n k44_6 rfl ?_
    refine g_bipush (v := nn 58) k44_7 cb_58 ?_
    refine g_icgt k44_9 (t := 16) rfl (fun h9 => ?_) (fun h9 => ?_)
    · skip
      refine g_iconst (v := nn 0) k44_16 ci_0 ?_
      refine g_breturn k44_17 t44 (by decide) ?_
      first | (rw [bb_t (by first | omega | (simp only [ti_0, ti_1, ti_2, ti_3, ti_4, ti_5, ti_6, ti_9, ti_10, ti_20, ti_22, ti_25, ti_26, ti_40, ti_50, ti_52, ti_53, ti_55, ti_56, ti_57, ti_58, ti_59] at *; omega))] at kk; exact kk) | (rw [bb_f (by first | omega | (simp only [ti_0, ti_1, ti_2, ti_3, ti_4, ti_5, ti_6, ti_9, ti_10, ti_20, ti_22, ti_25, ti_26, ti_40, ti_50, ti_52, ti_53, ti_55, ti_56, ti_57, ti_58, ti_59] at *; omega))] at kk; exact kk)
    · skip
      refine g_iconst (v := nn 1) k44_12 ci_1 ?_
      refine g_goto k44_13 (t := 17) rfl ?_
      refine g_breturn k44_17 t44 (by decide) ?_
      first | (rw [bb_t (by first | omega | (simp only [ti_0, ti_1, ti_2, ti_3, ti_4, ti_5, ti_6, ti_9, ti_10, ti_20, ti_22, ti_25, ti_26, ti_40, ti_50, ti_52, ti_53, ti_55, ti_56, ti_57, ti_58, ti_59] at *; omega))] at kk; exact kk) | (rw [bb_f (by first | omega | (simp only [ti_0, ti_1, ti_2, ti_3, ti_4, ti_5, ti_6, ti_9, ti_10, ti_20, ti_22, ti_25, ti_26, ti_40, ti_50, ti_52, ti_53, ti_55, ti_56, ti_57, ti_58, ti_59] at *; omega))] at kk; exact kk)
theorem s_43 {w : Int32} (kk : Q (.inl (some (.int (bb ((0 ≤ w.toInt ∧ w.toInt ≤ 9) ∨ (20 ≤ w.toInt ∧ w.toInt ≤ 25) ∨ w.toInt = 40 ∨ (50 ≤ w.toInt ∧ w.toInt ≤ 58)))))) h) : go (tb_P L xs) 43 0 [some (.int w)] [] h Q := by
  refine g_iload_n k43_0 rfl ?_
  refine g_iflt k43_1 (t := 10) rfl (fun h1 => ?_) (fun h1 => ?_)
  · skip
    refine g_iload_n k43_10 rfl ?_
    refine g_bipush (v := nn 20) k43_11 cb_20 ?_
    refine g_iclt k43_13 (t := 22) rfl (fun h13 => ?_) (fun h13 => ?_)
    · skip
      refine g_iload_n k43_22 rfl ?_
      refine g_bipush (v := nn 40) k43_23 cb_40 ?_
      refine g_iceqT k43_25 (t := 35) rfl (fun h25 => ?_) (fun h25 => ?_)
      · skip
        refine g_iconst (v := nn 1) k43_35 ci_1 ?_
        refine g_goto k43_36 (t := 40) rfl ?_
        refine g_breturn k43_40 t43 (by decide) ?_
        first | (rw [bb_t (by first | omega | (simp only [ti_0, ti_1, ti_2, ti_3, ti_4, ti_5, ti_6, ti_9, ti_10, ti_20, ti_22, ti_25, ti_26, ti_40, ti_50, ti_52, ti_53, ti_55, ti_56, ti_57, ti_58, ti_59] at *; omega))] at kk; exact kk) | (rw [bb_f (by first | omega | (simp only [ti_0, ti_1, ti_2, ti_3, ti_4, ti_5, ti_6, ti_9, ti_10, ti_20, ti_22, ti_25, ti_26, ti_40, ti_50, ti_52, ti_53, ti_55, ti_56, ti_57, ti_58, ti_59] at *; omega))] at kk; exact kk)
      · skip
        refine g_iload_n k43_28 rfl ?_
        refine g_callS1 k43_29 s43_29 c43_29 l44 (by omega) rfl rfl r43_29 ?_
        refine s_44 ?_
        refine af_ret ?_
        refine g_ifeqB k43_32 (t := 39) rfl (fun h32 => ?_) (fun h32 => ?_)
        · skip
          refine g_iconst (v := nn 0) k43_39 ci_0 ?_
          refine g_breturn k43_40 t43 (by decide) ?_
          first | (rw [bb_t (by first | omega | (simp only [ti_0, ti_1, ti_2, ti_3, ti_4, ti_5, ti_6, ti_9, ti_10, ti_20, ti_22, ti_25, ti_26, ti_40, ti_50, ti_52, ti_53, ti_55, ti_56, ti_57, ti_58, ti_59] at *; omega))] at kk; exact kk) | (rw [bb_f (by first | omega | (simp only [ti_0, ti_1, ti_2, ti_3, ti_4, ti_5, ti_6, ti_9, ti_10, ti_20, ti_22, ti_25, ti_26, ti_40, ti_50, ti_52, ti_53, ti_55, ti_56, ti_57, ti_58, ti_59] at *; omega))] at kk; exact kk)
        · skip
          refine g_iconst (v := nn 1) k43_35 ci_1 ?_
          refine g_goto k43_36 (t := 40) rfl ?_
          refine g_breturn k43_40 t43 (by decide) ?_
          first | (rw [bb_t (by first | omega | (simp only [ti_0, ti_1, ti_2, ti_3, ti_4, ti_5, ti_6, ti_9, ti_10, ti_20, ti_22, ti_25, ti_26, ti_40, ti_50, ti_52, ti_53, ti_55, ti_56, ti_57, ti_58, ti_59] at *; omega))] at kk; exact kk) | (rw [bb_f (by first | omega | (simp only [ti_0, ti_1, ti_2, ti_3, ti_4, ti_5, ti_6, ti_9, ti_10, ti_20, ti_22, ti_25, ti_26, ti_40, ti_50, ti_52, ti_53, ti_55, ti_56, ti_57, ti_58, ti_59] at *; omega))] at kk; exact kk)
    · skip
      refine g_iload_n k43_16 rfl ?_
      refine g_bipush (v := nn 25) k43_17 cb_25 ?_
      refine g_icle k43_19 (t := 35) rfl (fun h19 => ?_) (fun h19 => ?_)
      · skip
        refine g_iconst (v := nn 1) k43_35 ci_1 ?_
        refine g_goto k43_36 (t := 40) rfl ?_
        refine g_breturn k43_40 t43 (by decide) ?_
        first | (rw [bb_t (by first | omega | (simp only [ti_0, ti_1, ti_2, ti_3, ti_4, ti_5, ti_6, ti_9, ti_10, ti_20, ti_22, ti_25, ti_26, ti_40, ti_50, ti_52, ti_53, ti_55, ti_56, ti_57, ti_58, ti_59] at *; omega))] at kk; exact kk) | (rw [bb_f (by first | omega | (simp only [ti_0, ti_1, ti_2, ti_3, ti_4, ti_5, ti_6, ti_9, ti_10, ti_20, ti_22, ti_25, ti_26, ti_40, ti_50, ti_52, ti_53, ti_55, ti_56, ti_57, ti_58, ti_59] at *; omega))] at kk; exact kk)
      · skip
        refine g_iload_n k43_22 rfl ?_
        refine g_bipush (v := nn 40) k43_23 cb_40 ?_
        refine g_iceqT k43_25 (t := 35) rfl (fun h25 => ?_) (fun h25 => ?_)
        · skip
          refine g_iconst (v := nn 1) k43_35 ci_1 ?_
          refine g_goto k43_36 (t := 40) rfl ?_
          refine g_breturn k43_40 t43 (by decide) ?_
          first | (rw [bb_t (by first | omega | (simp only [ti_0, ti_1, ti_2, ti_3, ti_4, ti_5, ti_6, ti_9, ti_10, ti_20, ti_22, ti_25, ti_26, ti_40, ti_50, ti_52, ti_53, ti_55, ti_56, ti_57, ti_58, ti_59] at *; omega))] at kk; exact kk) | (rw [bb_f (by first | omega | (simp only [ti_0, ti_1, ti_2, ti_3, ti_4, ti_5, ti_6, ti_9, ti_10, ti_20, ti_22, ti_25, ti_26, ti_40, ti_50, ti_52, ti_53, ti_55, ti_56, ti_57, ti_58, ti_59] at *; omega))] at kk; exact kk)
        · skip
          refine g_iload_n k43_28 rfl ?_
          refine g_callS1 k43_29 s43_29 c43_29 l44 (by omega) rfl rfl r43_29 ?_
          refine s_44 ?_
          refine af_ret ?_
          refine g_ifeqB k43_32 (t := 39) rfl (fun h32 => ?_) (fun h32 => ?_)
          · skip
            refine g_iconst (v := nn 0) k43_39 ci_0 ?_
            refine g_breturn k43_40 t43 (by decide) ?_
            first | (rw [bb_t (by first | omega | (simp only [ti_0, ti_1, ti_2, ti_3, ti_4, ti_5, ti_6, ti_9, ti_10, ti_20, ti_22, ti_25, ti_26, ti_40, ti_50, ti_52, ti_53, ti_55, ti_56, ti_57, ti_58, ti_59] at *; omega))] at kk; exact kk) | (rw [bb_f (by first | omega | (simp only [ti_0, ti_1, ti_2, ti_3, ti_4, ti_5, ti_6, ti_9, ti_10, ti_20, ti_22, ti_25, ti_26, ti_40, ti_50, ti_52, ti_53, ti_55, ti_56, ti_57, ti_58, ti_59] at *; omega))] at kk; exact kk)
          · skip
            refine g_iconst (v := nn 1) k43_35 ci_1 ?_
            refine g_goto k43_36 (t := 40) rfl ?_
            refine g_breturn k43_40 t43 (by decide) ?_
            first | (rw [bb_t (by first | omega | (simp only [ti_0, ti_1, ti_2, ti_3, ti_4, ti_5, ti_6, ti_9, ti_10, ti_20, ti_22, ti_25, ti_26, ti_40, ti_50, ti_52, ti_53, ti_55, ti_56, ti_57, ti_58, ti_59] at *; omega))] at kk; exact kk) | (rw [bb_f (by first | omega | (simp only [ti_0, ti_1, ti_2, ti_3, ti_4, ti_5, ti_6, ti_9, ti_10, ti_20, ti_22, ti_25, ti_26, ti_40, ti_50, ti_52, ti_53, ti_55, ti_56, ti_57, ti_58, ti_59] at *; omega))] at kk; exact kk)
  · skip
    refine g_iload_n k43_4 rfl ?_
    refine g_bipush (v := nn 9) k43_5 cb_9 ?_
    refine g_icle k43_7 (t := 35) rfl (fun h7 => ?_) (fun h7 => ?_)
    · skip
      refine g_iconst (v := nn 1) k43_35 ci_1 ?_
      refine g_goto k43_36 (t := 40) rfl ?_
      refine g_breturn k43_40 t43 (by decide) ?_
      first | (rw [bb_t (by first | omega | (simp only [ti_0, ti_1, ti_2, ti_3, ti_4, ti_5, ti_6, ti_9, ti_10, ti_20, ti_22, ti_25, ti_26, ti_40, ti_50, ti_52, ti_53, ti_55, ti_56, ti_57, ti_58, ti_59] at *; omega))] at kk; exact kk) | (rw [bb_f (by first | omega | (simp only [ti_0, ti_1, ti_2, ti_3, ti_4, ti_5, ti_6, ti_9, ti_10, ti_20, ti_22, ti_25, ti_26, ti_40, ti_50, ti_52, ti_53, ti_55, ti_56, ti_57, ti_58, ti_59] at *; omega))] at kk; exact kk)
    · skip
      refine g_iload_n k43_10 rfl ?_
      refine g_bipush (v := nn 20) k43_11 cb_20 ?_
      refine g_iclt k43_13 (t := 22) rfl (fun h13 => ?_) (fun h13 => ?_)
      · skip
        refine g_iload_n k43_22 rfl ?_
        refine g_bipush (v := nn 40) k43_23 cb_40 ?_
        refine g_iceqT k43_25 (t := 35) rfl (fun h25 => ?_) (fun h25 => ?_)
        · skip
          refine g_iconst (v := nn 1) k43_35 ci_1 ?_
          refine g_goto k43_36 (t := 40) rfl ?_
          refine g_breturn k43_40 t43 (by decide) ?_
          first | (rw [bb_t (by first | omega | (simp only [ti_0, ti_1, ti_2, ti_3, ti_4, ti_5, ti_6, ti_9, ti_10, ti_20, ti_22, ti_25, ti_26, ti_40, ti_50, ti_52, ti_53, ti_55, ti_56, ti_57, ti_58, ti_59] at *; omega))] at kk; exact kk) | (rw [bb_f (by first | omega | (simp only [ti_0, ti_1, ti_2, ti_3, ti_4, ti_5, ti_6, ti_9, ti_10, ti_20, ti_22, ti_25, ti_26, ti_40, ti_50, ti_52, ti_53, ti_55, ti_56, ti_57, ti_58, ti_59] at *; omega))] at kk; exact kk)
        · skip
          refine g_iload_n k43_28 rfl ?_
          refine g_callS1 k43_29 s43_29 c43_29 l44 (by omega) rfl rfl r43_29 ?_
          refine s_44 ?_
          refine af_ret ?_
          refine g_ifeqB k43_32 (t := 39) rfl (fun h32 => ?_) (fun h32 => ?_)
          · skip
            refine g_iconst (v := nn 0) k43_39 ci_0 ?_
            refine g_breturn k43_40 t43 (by decide) ?_
            first | (rw [bb_t (by first | omega | (simp only [ti_0, ti_1, ti_2, ti_3, ti_4, ti_5, ti_6, ti_9, ti_10, ti_20, ti_22, ti_25, ti_26, ti_40, ti_50, ti_52, ti_53, ti_55, ti_56, ti_57, ti_58, ti_59] at *; omega))] at kk; exact kk) | (rw [bb_f (by first | omega | (simp only [ti_0, ti_1, ti_2, ti_3, ti_4, ti_5, ti_6, ti_9, ti_10, ti_20, ti_22, ti_25, ti_26, ti_40, ti_50, ti_52, ti_53, ti_55, ti_56, ti_57, ti_58, ti_59] at *; omega))] at kk; exact kk)
          · skip
            refine g_iconst (v := nn 1) k43_35 ci_1 ?_
            refine g_goto k43_36 (t := 40) rfl ?_
            refine g_breturn k43_40 t43 (by decide) ?_
            first | (rw [bb_t (by first | omega | (simp only [ti_0, ti_1, ti_2, ti_3, ti_4, ti_5, ti_6, ti_9, ti_10, ti_20, ti_22, ti_25, ti_26, ti_40, ti_50, ti_52, ti_53, ti_55, ti_56, ti_57, ti_58, ti_59] at *; omega))] at kk; exact kk) | (rw [bb_f (by first | omega | (simp only [ti_0, ti_1, ti_2, ti_3, ti_4, ti_5, ti_6, ti_9, ti_10, ti_20, ti_22, ti_25, ti_26, ti_40, ti_50, ti_52, ti_53, ti_55, ti_56, ti_57, ti_58, ti_59] at *; omega))] at kk; exact kk)
      · skip
        refine g_iload_n k43_16 rfl ?_
        refine g_bipush (v := nn 25) k43_17 cb_25 ?_
        refine g_icle k43_19 (t := 35) rfl (fun h19 => ?_) (fun h19 => ?_)
        · skip
          refine g_iconst (v := nn 1) k43_35 ci_1 ?_
          refine g_goto k43_36 (t := 40) rfl ?_
          refine g_breturn k43_40 t43 (by decide) ?_
          first | (rw [bb_t (by first | omega | (simp only [ti_0, ti_1, ti_2, ti_3, ti_4, ti_5, ti_6, ti_9, ti_10, ti_20, ti_22, ti_25, ti_26, ti_40, ti_50, ti_52, ti_53, ti_55, ti_56, ti_57, ti_58, ti_59] at *; omega))] at kk; exact kk) | (rw [bb_f (by first | omega | (simp only [ti_0, ti_1, ti_2, ti_3, ti_4, ti_5, ti_6, ti_9, ti_10, ti_20, ti_22, ti_25, ti_26, ti_40, ti_50, ti_52, ti_53, ti_55, ti_56, ti_57, ti_58, ti_59] at *; omega))] at kk; exact kk)
        · skip
          refine g_iload_n k43_22 rfl ?_
          refine g_bipush (v := nn 40) k43_23 cb_40 ?_
          refine g_iceqT k43_25 (t := 35) rfl (fun h25 => ?_) (fun h25 => ?_)
          · skip
            refine g_iconst (v := nn 1) k43_35 ci_1 ?_
            refine g_goto k43_36 (t := 40) rfl ?_
            refine g_breturn k43_40 t43 (by decide) ?_
            first | (rw [bb_t (by first | omega | (simp only [ti_0, ti_1, ti_2, ti_3, ti_4, ti_5, ti_6, ti_9, ti_10, ti_20, ti_22, ti_25, ti_26, ti_40, ti_50, ti_52, ti_53, ti_55, ti_56, ti_57, ti_58, ti_59] at *; omega))] at kk; exact kk) | (rw [bb_f (by first | omega | (simp only [ti_0, ti_1, ti_2, ti_3, ti_4, ti_5, ti_6, ti_9, ti_10, ti_20, ti_22, ti_25, ti_26, ti_40, ti_50, ti_52, ti_53, ti_55, ti_56, ti_57, ti_58, ti_59] at *; omega))] at kk; exact kk)
          · skip
            refine g_iload_n k43_28 rfl ?_
            refine g_callS1 k43_29 s43_29 c43_29 l44 (by omega) rfl rfl r43_29 ?_
            refine s_44 ?_
            refine af_ret ?_
            refine g_ifeqB k43_32 (t := 39) rfl (fun h32 => ?_) (fun h32 => ?_)
            · skip
              refine g_iconst (v := nn 0) k43_39 ci_0 ?_
              refine g_breturn k43_40 t43 (by decide) ?_
              first | (rw [bb_t (by first | omega | (simp only [ti_0, ti_1, ti_2, ti_3, ti_4, ti_5, ti_6, ti_9, ti_10, ti_20, ti_22, ti_25, ti_26, ti_40, ti_50, ti_52, ti_53, ti_55, ti_56, ti_57, ti_58, ti_59] at *; omega))] at kk; exact kk) | (rw [bb_f (by first | omega | (simp only [ti_0, ti_1, ti_2, ti_3, ti_4, ti_5, ti_6, ti_9, ti_10, ti_20, ti_22, ti_25, ti_26, ti_40, ti_50, ti_52, ti_53, ti_55, ti_56, ti_57, ti_58, ti_59] at *; omega))] at kk; exact kk)
            · skip
              refine g_iconst (v := nn 1) k43_35 ci_1 ?_
              refine g_goto k43_36 (t := 40) rfl ?_
              refine g_breturn k43_40 t43 (by decide) ?_
              first | (rw [bb_t (by first | omega | (simp only [ti_0, ti_1, ti_2, ti_3, ti_4, ti_5, ti_6, ti_9, ti_10, ti_20, ti_22, ti_25, ti_26, ti_40, ti_50, ti_52, ti_53, ti_55, ti_56, ti_57, ti_58, ti_59] at *; omega))] at kk; exact kk) | (rw [bb_f (by first | omega | (simp only [ti_0, ti_1, ti_2, ti_3, ti_4, ti_5, ti_6, ti_9, ti_10, ti_20, ti_22, ti_25, ti_26, ti_40, ti_50, ti_52, ti_53, ti_55, ti_56, ti_57, ti_58, ti_59] at *; omega))] at kk; exact kk)
theorem s_75 {v : Int32} (kk : Q (.inl (some (.int (if v.toInt < 3 then nn 0 else nn 1)))) h) : go (tb_P L xs) 75 0 [some (.int v)] [] h Q := by
  refine g_iload_n k75_0 rfl ?_
  refine g_iconst (v := nn 3) k75_1 ci_3 ?_
  refine g_icge k75_2 (t := 9) rfl (fun h2 => ?_) (fun h2 => ?_)
  · skip
    refine g_iconst (v := nn 1) k75_9 ci_1 ?_
    refine g_ireturn k75_10 t75 ?_
    simp only [ti_0, ti_1, ti_2, ti_3, ti_4, ti_5, ti_6, ti_9, ti_10, ti_20, ti_22, ti_25, ti_26, ti_40, ti_50, ti_52, ti_53, ti_55, ti_56, ti_57, ti_58, ti_59] at *
    first | exact kk | (rw [if_pos (by omega)] at kk; exact kk) | (rw [if_neg (by omega)] at kk; exact kk) | (rw [if_neg (by omega), if_pos (by omega)] at kk; exact kk) | (rw [if_neg (by omega), if_neg (by omega)] at kk; exact kk) | (rw [if_neg (by omega), if_neg (by omega), if_pos (by omega)] at kk; exact kk) | (rw [if_neg (by omega), if_neg (by omega), if_neg (by omega)] at kk; exact kk)
  · skip
    refine g_iconst (v := nn 0) k75_5 ci_0 ?_
    refine g_goto k75_6 (t := 10) rfl ?_
    refine g_ireturn k75_10 t75 ?_
    simp only [ti_0, ti_1, ti_2, ti_3, ti_4, ti_5, ti_6, ti_9, ti_10, ti_20, ti_22, ti_25, ti_26, ti_40, ti_50, ti_52, ti_53, ti_55, ti_56, ti_57, ti_58, ti_59] at *
    first | exact kk | (rw [if_pos (by omega)] at kk; exact kk) | (rw [if_neg (by omega)] at kk; exact kk) | (rw [if_neg (by omega), if_pos (by omega)] at kk; exact kk) | (rw [if_neg (by omega), if_neg (by omega)] at kk; exact kk) | (rw [if_neg (by omega), if_neg (by omega), if_pos (by omega)] at kk; exact kk) | (rw [if_neg (by omega), if_neg (by omega), if_neg (by omega)] at kk; exact kk)
theorem s_50 {w : Int32} (kk : Q (.inl (some (.int (if w.toInt = 58 then nn 3 else if w.toInt = 57 then nn 1 else nn 2)))) h) : go (tb_P L xs) 50 0 [some (.int w)] [] h Q := by
  refine g_iload_n k50_0 rfl ?_
  refine g_bipush (v := nn 58) k50_1 cb_58 ?_
  refine g_icneT k50_3 (t := 8) rfl (fun h3 => ?_) (fun h3 => ?_)
  · skip
    refine g_iload_n k50_8 rfl ?_
    refine g_bipush (v := nn 57) k50_9 cb_57 ?_
    refine g_icneT k50_11 (t := 18) rfl (fun h11 => ?_) (fun h11 => ?_)
    · skip
      refine g_iconst (v := nn 2) k50_18 ci_2 ?_
      refine g_ireturn k50_19 t50 ?_
      simp only [ti_0, ti_1, ti_2, ti_3, ti_4, ti_5, ti_6, ti_9, ti_10, ti_20, ti_22, ti_25, ti_26, ti_40, ti_50, ti_52, ti_53, ti_55, ti_56, ti_57, ti_58, ti_59] at *
      first | exact kk | (rw [if_pos (by omega)] at kk; exact kk) | (rw [if_neg (by omega)] at kk; exact kk) | (rw [if_neg (by omega), if_pos (by omega)] at kk; exact kk) | (rw [if_neg (by omega), if_neg (by omega)] at kk; exact kk) | (rw [if_neg (by omega), if_neg (by omega), if_pos (by omega)] at kk; exact kk) | (rw [if_neg (by omega), if_neg (by omega), if_neg (by omega)] at kk; exact kk)
    · skip
      refine g_iconst (v := nn 1) k50_14 ci_1 ?_
      refine g_goto k50_15 (t := 19) rfl ?_
      refine g_ireturn k50_19 t50 ?_
      simp only [ti_0, ti_1, ti_2, ti_3, ti_4, ti_5, ti_6, ti_9, ti_10, ti_20, ti_22, ti_25, ti_26, ti_40, ti_50, ti_52, ti_53, ti_55, ti_56, ti_57, ti_58, ti_59] at *
      first | exact kk | (rw [if_pos (by omega)] at kk; exact kk) | (rw [if_neg (by omega)] at kk; exact kk) | (rw [if_neg (by omega), if_pos (by omega)] at kk; exact kk) | (rw [if_neg (by omega), if_neg (by omega)] at kk; exact kk) | (rw [if_neg (by omega), if_neg (by omega), if_pos (by omega)] at kk; exact kk) | (rw [if_neg (by omega), if_neg (by omega), if_neg (by omega)] at kk; exact kk)
  · skip
    refine g_iconst (v := nn 3) k50_6 ci_3 ?_
    refine g_ireturn k50_7 t50 ?_
    simp only [ti_0, ti_1, ti_2, ti_3, ti_4, ti_5, ti_6, ti_9, ti_10, ti_20, ti_22, ti_25, ti_26, ti_40, ti_50, ti_52, ti_53, ti_55, ti_56, ti_57, ti_58, ti_59] at *
    first | exact kk | (rw [if_pos (by omega)] at kk; exact kk) | (rw [if_neg (by omega)] at kk; exact kk) | (rw [if_neg (by omega), if_pos (by omega)] at kk; exact kk) | (rw [if_neg (by omega), if_neg (by omega)] at kk; exact kk) | (rw [if_neg (by omega), if_neg (by omega), if_pos (by omega)] at kk; exact kk) | (rw [if_neg (by omega), if_neg (by omega), if_neg (by omega)] at kk; exact kk)
theorem s_51 {w : Int32} (kk : Q (.inl (some (.int (if 55 ≤ w.toInt then nn 2 else nn 1)))) h) : go (tb_P L xs) 51 0 [some (.int w)] [] h Q := by
  refine g_iload_n k51_0 rfl ?_
  refine g_bipush (v := nn 55) k51_1 cb_55 ?_
  refine g_iclt k51_3 (t := 10) rfl (fun h3 => ?_) (fun h3 => ?_)
  · skip
    refine g_iconst (v := nn 1) k51_10 ci_1 ?_
    refine g_ireturn k51_11 t51 ?_
    simp only [ti_0, ti_1, ti_2, ti_3, ti_4, ti_5, ti_6, ti_9, ti_10, ti_20, ti_22, ti_25, ti_26, ti_40, ti_50, ti_52, ti_53, ti_55, ti_56, ti_57, ti_58, ti_59] at *
    first | exact kk | (rw [if_pos (by omega)] at kk; exact kk) | (rw [if_neg (by omega)] at kk; exact kk) | (rw [if_neg (by omega), if_pos (by omega)] at kk; exact kk) | (rw [if_neg (by omega), if_neg (by omega)] at kk; exact kk) | (rw [if_neg (by omega), if_neg (by omega), if_pos (by omega)] at kk; exact kk) | (rw [if_neg (by omega), if_neg (by omega), if_neg (by omega)] at kk; exact kk)
  · skip
    refine g_iconst (v := nn 2) k51_6 ci_2 ?_
    refine g_goto k51_7 (t := 11) rfl ?_
    refine g_ireturn k51_11 t51 ?_
    simp only [ti_0, ti_1, ti_2, ti_3, ti_4, ti_5, ti_6, ti_9, ti_10, ti_20, ti_22, ti_25, ti_26, ti_40, ti_50, ti_52, ti_53, ti_55, ti_56, ti_57, ti_58, ti_59] at *
    first | exact kk | (rw [if_pos (by omega)] at kk; exact kk) | (rw [if_neg (by omega)] at kk; exact kk) | (rw [if_neg (by omega), if_pos (by omega)] at kk; exact kk) | (rw [if_neg (by omega), if_neg (by omega)] at kk; exact kk) | (rw [if_neg (by omega), if_neg (by omega), if_pos (by omega)] at kk; exact kk) | (rw [if_neg (by omega), if_neg (by omega), if_neg (by omega)] at kk; exact kk)
theorem s_52 {w : Int32} (kk : Q (.inl (some (.int (if w.toInt = 55 ∨ w.toInt = 56 then nn 2 else nn 1)))) h) : go (tb_P L xs) 52 0 [some (.int w)] [] h Q := by
  refine g_iload_n k52_0 rfl ?_
  refine g_bipush (v := nn 55) k52_1 cb_55 ?_
  refine g_iceqT k52_3 (t := 12) rfl (fun h3 => ?_) (fun h3 => ?_)
  · skip
    refine g_iconst (v := nn 2) k52_12 ci_2 ?_
    refine g_goto k52_13 (t := 17) rfl ?_
    refine g_ireturn k52_17 t52 ?_
    simp only [ti_0, ti_1, ti_2, ti_3, ti_4, ti_5, ti_6, ti_9, ti_10, ti_20, ti_22, ti_25, ti_26, ti_40, ti_50, ti_52, ti_53, ti_55, ti_56, ti_57, ti_58, ti_59] at *
    first | exact kk | (rw [if_pos (by omega)] at kk; exact kk) | (rw [if_neg (by omega)] at kk; exact kk) | (rw [if_neg (by omega), if_pos (by omega)] at kk; exact kk) | (rw [if_neg (by omega), if_neg (by omega)] at kk; exact kk) | (rw [if_neg (by omega), if_neg (by omega), if_pos (by omega)] at kk; exact kk) | (rw [if_neg (by omega), if_neg (by omega), if_neg (by omega)] at kk; exact kk)
  · skip
    refine g_iload_n k52_6 rfl ?_
    refine g_bipush (v := nn 56) k52_7 cb_56 ?_
    refine g_icneT k52_9 (t := 16) rfl (fun h9 => ?_) (fun h9 => ?_)
    · skip
      refine g_iconst (v := nn 1) k52_16 ci_1 ?_
      refine g_ireturn k52_17 t52 ?_
      simp only [ti_0, ti_1, ti_2, ti_3, ti_4, ti_5, ti_6, ti_9, ti_10, ti_20, ti_22, ti_25, ti_26, ti_40, ti_50, ti_52, ti_53, ti_55, ti_56, ti_57, ti_58, ti_59] at *
      first | exact kk | (rw [if_pos (by omega)] at kk; exact kk) | (rw [if_neg (by omega)] at kk; exact kk) | (rw [if_neg (by omega), if_pos (by omega)] at kk; exact kk) | (rw [if_neg (by omega), if_neg (by omega)] at kk; exact kk) | (rw [if_neg (by omega), if_neg (by omega), if_pos (by omega)] at kk; exact kk) | (rw [if_neg (by omega), if_neg (by omega), if_neg (by omega)] at kk; exact kk)
    · skip
      refine g_iconst (v := nn 2) k52_12 ci_2 ?_
      refine g_goto k52_13 (t := 17) rfl ?_
      refine g_ireturn k52_17 t52 ?_
      simp only [ti_0, ti_1, ti_2, ti_3, ti_4, ti_5, ti_6, ti_9, ti_10, ti_20, ti_22, ti_25, ti_26, ti_40, ti_50, ti_52, ti_53, ti_55, ti_56, ti_57, ti_58, ti_59] at *
      first | exact kk | (rw [if_pos (by omega)] at kk; exact kk) | (rw [if_neg (by omega)] at kk; exact kk) | (rw [if_neg (by omega), if_pos (by omega)] at kk; exact kk) | (rw [if_neg (by omega), if_neg (by omega)] at kk; exact kk) | (rw [if_neg (by omega), if_neg (by omega), if_pos (by omega)] at kk; exact kk) | (rw [if_neg (by omega), if_neg (by omega), if_neg (by omega)] at kk; exact kk)
theorem s_53 {w : Int32} (kk : Q (.inl (some (.int (if 53 ≤ w.toInt ∧ w.toInt ≤ 57 then nn 2 else nn 1)))) h) : go (tb_P L xs) 53 0 [some (.int w)] [] h Q := by
  refine g_iload_n k53_0 rfl ?_
  refine g_bipush (v := nn 53) k53_1 cb_53 ?_
  refine g_iclt k53_3 (t := 16) rfl (fun h3 => ?_) (fun h3 => ?_)
  · skip
    refine g_iconst (v := nn 1) k53_16 ci_1 ?_
    refine g_ireturn k53_17 t53 ?_
    simp only [ti_0, ti_1, ti_2, ti_3, ti_4, ti_5, ti_6, ti_9, ti_10, ti_20, ti_22, ti_25, ti_26, ti_40, ti_50, ti_52, ti_53, ti_55, ti_56, ti_57, ti_58, ti_59] at *
    first | exact kk | (rw [if_pos (by omega)] at kk; exact kk) | (rw [if_neg (by omega)] at kk; exact kk) | (rw [if_neg (by omega), if_pos (by omega)] at kk; exact kk) | (rw [if_neg (by omega), if_neg (by omega)] at kk; exact kk) | (rw [if_neg (by omega), if_neg (by omega), if_pos (by omega)] at kk; exact kk) | (rw [if_neg (by omega), if_neg (by omega), if_neg (by omega)] at kk; exact kk)
  · skip
    refine g_iload_n k53_6 rfl ?_
    refine g_bipush (v := nn 57) k53_7 cb_57 ?_
    refine g_icgt k53_9 (t := 16) rfl (fun h9 => ?_) (fun h9 => ?_)
    · skip
      refine g_iconst (v := nn 1) k53_16 ci_1 ?_
      refine g_ireturn k53_17 t53 ?_
      simp only [ti_0, ti_1, ti_2, ti_3, ti_4, ti_5, ti_6, ti_9, ti_10, ti_20, ti_22, ti_25, ti_26, ti_40, ti_50, ti_52, ti_53, ti_55, ti_56, ti_57, ti_58, ti_59] at *
      first | exact kk | (rw [if_pos (by omega)] at kk; exact kk) | (rw [if_neg (by omega)] at kk; exact kk) | (rw [if_neg (by omega), if_pos (by omega)] at kk; exact kk) | (rw [if_neg (by omega), if_neg (by omega)] at kk; exact kk) | (rw [if_neg (by omega), if_neg (by omega), if_pos (by omega)] at kk; exact kk) | (rw [if_neg (by omega), if_neg (by omega), if_neg (by omega)] at kk; exact kk)
    · skip
      refine g_iconst (v := nn 2) k53_12 ci_2 ?_
      refine g_goto k53_13 (t := 17) rfl ?_
      refine g_ireturn k53_17 t53 ?_
      simp only [ti_0, ti_1, ti_2, ti_3, ti_4, ti_5, ti_6, ti_9, ti_10, ti_20, ti_22, ti_25, ti_26, ti_40, ti_50, ti_52, ti_53, ti_55, ti_56, ti_57, ti_58, ti_59] at *
      first | exact kk | (rw [if_pos (by omega)] at kk; exact kk) | (rw [if_neg (by omega)] at kk; exact kk) | (rw [if_neg (by omega), if_pos (by omega)] at kk; exact kk) | (rw [if_neg (by omega), if_neg (by omega)] at kk; exact kk) | (rw [if_neg (by omega), if_neg (by omega), if_pos (by omega)] at kk; exact kk) | (rw [if_neg (by omega), if_neg (by omega), if_neg (by omega)] at kk; exact kk)
theorem s_14 {w : Int32} (kk : Q (.inl (some (.int (if w.toInt = 40 then nn 6 else w - nn 20)))) h) : go (tb_P L xs) 14 0 [some (.int w)] [] h Q := by
  refine g_iload_n k14_0 rfl ?_
  refine g_bipush (v := nn 40) k14_1 cb_40 ?_
  refine g_icneT k14_3 (t := 11) rfl (fun h3 => ?_) (fun h3 => ?_)
  · skip
    refine g_iload_n k14_11 rfl ?_
    refine g_bipush (v := nn 20) k14_12 cb_20 ?_
    refine g_isub k14_14 ?_
    refine g_ireturn k14_15 t14 ?_
    simp only [ti_0, ti_1, ti_2, ti_3, ti_4, ti_5, ti_6, ti_9, ti_10, ti_20, ti_22, ti_25, ti_26, ti_40, ti_50, ti_52, ti_53, ti_55, ti_56, ti_57, ti_58, ti_59] at *
    first | exact kk | (rw [if_pos (by omega)] at kk; exact kk) | (rw [if_neg (by omega)] at kk; exact kk) | (rw [if_neg (by omega), if_pos (by omega)] at kk; exact kk) | (rw [if_neg (by omega), if_neg (by omega)] at kk; exact kk) | (rw [if_neg (by omega), if_neg (by omega), if_pos (by omega)] at kk; exact kk) | (rw [if_neg (by omega), if_neg (by omega), if_neg (by omega)] at kk; exact kk)
  · skip
    refine g_bipush (v := nn 6) k14_6 cb_6 ?_
    refine g_goto k14_8 (t := 15) rfl ?_
    refine g_ireturn k14_15 t14 ?_
    simp only [ti_0, ti_1, ti_2, ti_3, ti_4, ti_5, ti_6, ti_9, ti_10, ti_20, ti_22, ti_25, ti_26, ti_40, ti_50, ti_52, ti_53, ti_55, ti_56, ti_57, ti_58, ti_59] at *
    first | exact kk | (rw [if_pos (by omega)] at kk; exact kk) | (rw [if_neg (by omega)] at kk; exact kk) | (rw [if_neg (by omega), if_pos (by omega)] at kk; exact kk) | (rw [if_neg (by omega), if_neg (by omega)] at kk; exact kk) | (rw [if_neg (by omega), if_neg (by omega), if_pos (by omega)] at kk; exact kk) | (rw [if_neg (by omega), if_neg (by omega), if_neg (by omega)] at kk; exact kk)
variable {m : Nat}
theorem s_107 {w : Int32} (kk : Q (.inl (some (.int (bb ((0 ≤ w.toInt ∧ w.toInt ≤ 9) ∨ (20 ≤ w.toInt ∧ w.toInt ≤ 25) ∨ w.toInt = 40 ∨ (50 ≤ w.toInt ∧ w.toInt ≤ 58)))))) h) : go (tb_P L xs) 107 0 [some (.ref m), some (.int w)] [] h Q := by
  refine g_iload_n k107_0 rfl ?_
  refine g_iflt k107_1 (t := 10) rfl (fun h1 => ?_) (fun h1 => ?_)
  · skip
    refine g_iload_n k107_10 rfl ?_
    refine g_bipush (v := nn 20) k107_11 cb_20 ?_
    refine g_iclt k107_13 (t := 22) rfl (fun h13 => ?_) (fun h13 => ?_)
    · skip
      refine g_iload_n k107_22 rfl ?_
      refine g_bipush (v := nn 40) k107_23 cb_40 ?_
      refine g_iceqT k107_25 (t := 40) rfl (fun h25 => ?_) (fun h25 => ?_)
      · skip
        refine g_iconst (v := nn 1) k107_40 ci_1 ?_
        refine g_goto k107_41 (t := 45) rfl ?_
        refine g_breturn k107_45 t107 (by decide) ?_
        first | (rw [bb_t (by first | omega | (simp only [ti_0, ti_1, ti_2, ti_3, ti_4, ti_5, ti_6, ti_9, ti_10, ti_20, ti_22, ti_25, ti_26, ti_40, ti_50, ti_52, ti_53, ti_55, ti_56, ti_57, ti_58, ti_59] at *; omega))] at kk; exact kk) | (rw [bb_f (by first | omega | (simp only [ti_0, ti_1, ti_2, ti_3, ti_4, ti_5, ti_6, ti_9, ti_10, ti_20, ti_22, ti_25, ti_26, ti_40, ti_50, ti_52, ti_53, ti_55, ti_56, ti_57, ti_58, ti_59] at *; omega))] at kk; exact kk)
      · skip
        refine g_iload_n k107_28 rfl ?_
        refine g_bipush (v := nn 50) k107_29 cb_50 ?_
        refine g_iclt k107_31 (t := 44) rfl (fun h31 => ?_) (fun h31 => ?_)
        · skip
          refine g_iconst (v := nn 0) k107_44 ci_0 ?_
          refine g_breturn k107_45 t107 (by decide) ?_
          first | (rw [bb_t (by first | omega | (simp only [ti_0, ti_1, ti_2, ti_3, ti_4, ti_5, ti_6, ti_9, ti_10, ti_20, ti_22, ti_25, ti_26, ti_40, ti_50, ti_52, ti_53, ti_55, ti_56, ti_57, ti_58, ti_59] at *; omega))] at kk; exact kk) | (rw [bb_f (by first | omega | (simp only [ti_0, ti_1, ti_2, ti_3, ti_4, ti_5, ti_6, ti_9, ti_10, ti_20, ti_22, ti_25, ti_26, ti_40, ti_50, ti_52, ti_53, ti_55, ti_56, ti_57, ti_58, ti_59] at *; omega))] at kk; exact kk)
        · skip
          refine g_iload_n k107_34 rfl ?_
          refine g_bipush (v := nn 59) k107_35 cb_59 ?_
          refine g_icge k107_37 (t := 44) rfl (fun h37 => ?_) (fun h37 => ?_)
          · skip
            refine g_iconst (v := nn 0) k107_44 ci_0 ?_
            refine g_breturn k107_45 t107 (by decide) ?_
            first | (rw [bb_t (by first | omega | (simp only [ti_0, ti_1, ti_2, ti_3, ti_4, ti_5, ti_6, ti_9, ti_10, ti_20, ti_22, ti_25, ti_26, ti_40, ti_50, ti_52, ti_53, ti_55, ti_56, ti_57, ti_58, ti_59] at *; omega))] at kk; exact kk) | (rw [bb_f (by first | omega | (simp only [ti_0, ti_1, ti_2, ti_3, ti_4, ti_5, ti_6, ti_9, ti_10, ti_20, ti_22, ti_25, ti_26, ti_40, ti_50, ti_52, ti_53, ti_55, ti_56, ti_57, ti_58, ti_59] at *; omega))] at kk; exact kk)
          · skip
            refine g_iconst (v := nn 1) k107_40 ci_1 ?_
            refine g_goto k107_41 (t := 45) rfl ?_
            refine g_breturn k107_45 t107 (by decide) ?_
            first | (rw [bb_t (by first | omega | (simp only [ti_0, ti_1, ti_2, ti_3, ti_4, ti_5, ti_6, ti_9, ti_10, ti_20, ti_22, ti_25, ti_26, ti_40, ti_50, ti_52, ti_53, ti_55, ti_56, ti_57, ti_58, ti_59] at *; omega))] at kk; exact kk) | (rw [bb_f (by first | omega | (simp only [ti_0, ti_1, ti_2, ti_3, ti_4, ti_5, ti_6, ti_9, ti_10, ti_20, ti_22, ti_25, ti_26, ti_40, ti_50, ti_52, ti_53, ti_55, ti_56, ti_57, ti_58, ti_59] at *; omega))] at kk; exact kk)
    · skip
      refine g_iload_n k107_16 rfl ?_
      refine g_bipush (v := nn 26) k107_17 cb_26 ?_
      refine g_iclt k107_19 (t := 40) rfl (fun h19 => ?_) (fun h19 => ?_)
      · skip
        refine g_iconst (v := nn 1) k107_40 ci_1 ?_
        refine g_goto k107_41 (t := 45) rfl ?_
        refine g_breturn k107_45 t107 (by decide) ?_
        first | (rw [bb_t (by first | omega | (simp only [ti_0, ti_1, ti_2, ti_3, ti_4, ti_5, ti_6, ti_9, ti_10, ti_20, ti_22, ti_25, ti_26, ti_40, ti_50, ti_52, ti_53, ti_55, ti_56, ti_57, ti_58, ti_59] at *; omega))] at kk; exact kk) | (rw [bb_f (by first | omega | (simp only [ti_0, ti_1, ti_2, ti_3, ti_4, ti_5, ti_6, ti_9, ti_10, ti_20, ti_22, ti_25, ti_26, ti_40, ti_50, ti_52, ti_53, ti_55, ti_56, ti_57, ti_58, ti_59] at *; omega))] at kk; exact kk)
      · skip
        refine g_iload_n k107_22 rfl ?_
        refine g_bipush (v := nn 40) k107_23 cb_40 ?_
        refine g_iceqT k107_25 (t := 40) rfl (fun h25 => ?_) (fun h25 => ?_)
        · skip
          refine g_iconst (v := nn 1) k107_40 ci_1 ?_
          refine g_goto k107_41 (t := 45) rfl ?_
          refine g_breturn k107_45 t107 (by decide) ?_
          first | (rw [bb_t (by first | omega | (simp only [ti_0, ti_1, ti_2, ti_3, ti_4, ti_5, ti_6, ti_9, ti_10, ti_20, ti_22, ti_25, ti_26, ti_40, ti_50, ti_52, ti_53, ti_55, ti_56, ti_57, ti_58, ti_59] at *; omega))] at kk; exact kk) | (rw [bb_f (by first | omega | (simp only [ti_0, ti_1, ti_2, ti_3, ti_4, ti_5, ti_6, ti_9, ti_10, ti_20, ti_22, ti_25, ti_26, ti_40, ti_50, ti_52, ti_53, ti_55, ti_56, ti_57, ti_58, ti_59] at *; omega))] at kk; exact kk)
        · skip
          refine g_iload_n k107_28 rfl ?_
          refine g_bipush (v := nn 50) k107_29 cb_50 ?_
          refine g_iclt k107_31 (t := 44) rfl (fun h31 => ?_) (fun h31 => ?_)
          · skip
            refine g_iconst (v := nn 0) k107_44 ci_0 ?_
            refine g_breturn k107_45 t107 (by decide) ?_
            first | (rw [bb_t (by first | omega | (simp only [ti_0, ti_1, ti_2, ti_3, ti_4, ti_5, ti_6, ti_9, ti_10, ti_20, ti_22, ti_25, ti_26, ti_40, ti_50, ti_52, ti_53, ti_55, ti_56, ti_57, ti_58, ti_59] at *; omega))] at kk; exact kk) | (rw [bb_f (by first | omega | (simp only [ti_0, ti_1, ti_2, ti_3, ti_4, ti_5, ti_6, ti_9, ti_10, ti_20, ti_22, ti_25, ti_26, ti_40, ti_50, ti_52, ti_53, ti_55, ti_56, ti_57, ti_58, ti_59] at *; omega))] at kk; exact kk)
          · skip
            refine g_iload_n k107_34 rfl ?_
            refine g_bipush (v := nn 59) k107_35 cb_59 ?_
            refine g_icge k107_37 (t := 44) rfl (fun h37 => ?_) (fun h37 => ?_)
            · skip
              refine g_iconst (v := nn 0) k107_44 ci_0 ?_
              refine g_breturn k107_45 t107 (by decide) ?_
              first | (rw [bb_t (by first | omega | (simp only [ti_0, ti_1, ti_2, ti_3, ti_4, ti_5, ti_6, ti_9, ti_10, ti_20, ti_22, ti_25, ti_26, ti_40, ti_50, ti_52, ti_53, ti_55, ti_56, ti_57, ti_58, ti_59] at *; omega))] at kk; exact kk) | (rw [bb_f (by first | omega | (simp only [ti_0, ti_1, ti_2, ti_3, ti_4, ti_5, ti_6, ti_9, ti_10, ti_20, ti_22, ti_25, ti_26, ti_40, ti_50, ti_52, ti_53, ti_55, ti_56, ti_57, ti_58, ti_59] at *; omega))] at kk; exact kk)
            · skip
              refine g_iconst (v := nn 1) k107_40 ci_1 ?_
              refine g_goto k107_41 (t := 45) rfl ?_
              refine g_breturn k107_45 t107 (by decide) ?_
              first | (rw [bb_t (by first | omega | (simp only [ti_0, ti_1, ti_2, ti_3, ti_4, ti_5, ti_6, ti_9, ti_10, ti_20, ti_22, ti_25, ti_26, ti_40, ti_50, ti_52, ti_53, ti_55, ti_56, ti_57, ti_58, ti_59] at *; omega))] at kk; exact kk) | (rw [bb_f (by first | omega | (simp only [ti_0, ti_1, ti_2, ti_3, ti_4, ti_5, ti_6, ti_9, ti_10, ti_20, ti_22, ti_25, ti_26, ti_40, ti_50, ti_52, ti_53, ti_55, ti_56, ti_57, ti_58, ti_59] at *; omega))] at kk; exact kk)
  · skip
    refine g_iload_n k107_4 rfl ?_
    refine g_bipush (v := nn 10) k107_5 cb_10 ?_
    refine g_iclt k107_7 (t := 40) rfl (fun h7 => ?_) (fun h7 => ?_)
    · skip
      refine g_iconst (v := nn 1) k107_40 ci_1 ?_
      refine g_goto k107_41 (t := 45) rfl ?_
      refine g_breturn k107_45 t107 (by decide) ?_
      first | (rw [bb_t (by first | omega | (simp only [ti_0, ti_1, ti_2, ti_3, ti_4, ti_5, ti_6, ti_9, ti_10, ti_20, ti_22, ti_25, ti_26, ti_40, ti_50, ti_52, ti_53, ti_55, ti_56, ti_57, ti_58, ti_59] at *; omega))] at kk; exact kk) | (rw [bb_f (by first | omega | (simp only [ti_0, ti_1, ti_2, ti_3, ti_4, ti_5, ti_6, ti_9, ti_10, ti_20, ti_22, ti_25, ti_26, ti_40, ti_50, ti_52, ti_53, ti_55, ti_56, ti_57, ti_58, ti_59] at *; omega))] at kk; exact kk)
    · skip
      refine g_iload_n k107_10 rfl ?_
      refine g_bipush (v := nn 20) k107_11 cb_20 ?_
      refine g_iclt k107_13 (t := 22) rfl (fun h13 => ?_) (fun h13 => ?_)
      · skip
        refine g_iload_n k107_22 rfl ?_
        refine g_bipush (v := nn 40) k107_23 cb_40 ?_
        refine g_iceqT k107_25 (t := 40) rfl (fun h25 => ?_) (fun h25 => ?_)
        · skip
          refine g_iconst (v := nn 1) k107_40 ci_1 ?_
          refine g_goto k107_41 (t := 45) rfl ?_
          refine g_breturn k107_45 t107 (by decide) ?_
          first | (rw [bb_t (by first | omega | (simp only [ti_0, ti_1, ti_2, ti_3, ti_4, ti_5, ti_6, ti_9, ti_10, ti_20, ti_22, ti_25, ti_26, ti_40, ti_50, ti_52, ti_53, ti_55, ti_56, ti_57, ti_58, ti_59] at *; omega))] at kk; exact kk) | (rw [bb_f (by first | omega | (simp only [ti_0, ti_1, ti_2, ti_3, ti_4, ti_5, ti_6, ti_9, ti_10, ti_20, ti_22, ti_25, ti_26, ti_40, ti_50, ti_52, ti_53, ti_55, ti_56, ti_57, ti_58, ti_59] at *; omega))] at kk; exact kk)
        · skip
          refine g_iload_n k107_28 rfl ?_
          refine g_bipush (v := nn 50) k107_29 cb_50 ?_
          refine g_iclt k107_31 (t := 44) rfl (fun h31 => ?_) (fun h31 => ?_)
          · skip
            refine g_iconst (v := nn 0) k107_44 ci_0 ?_
            refine g_breturn k107_45 t107 (by decide) ?_
            first | (rw [bb_t (by first | omega | (simp only [ti_0, ti_1, ti_2, ti_3, ti_4, ti_5, ti_6, ti_9, ti_10, ti_20, ti_22, ti_25, ti_26, ti_40, ti_50, ti_52, ti_53, ti_55, ti_56, ti_57, ti_58, ti_59] at *; omega))] at kk; exact kk) | (rw [bb_f (by first | omega | (simp only [ti_0, ti_1, ti_2, ti_3, ti_4, ti_5, ti_6, ti_9, ti_10, ti_20, ti_22, ti_25, ti_26, ti_40, ti_50, ti_52, ti_53, ti_55, ti_56, ti_57, ti_58, ti_59] at *; omega))] at kk; exact kk)
          · skip
            refine g_iload_n k107_34 rfl ?_
            refine g_bipush (v := nn 59) k107_35 cb_59 ?_
            refine g_icge k107_37 (t := 44) rfl (fun h37 => ?_) (fun h37 => ?_)
            · skip
              refine g_iconst (v := nn 0) k107_44 ci_0 ?_
              refine g_breturn k107_45 t107 (by decide) ?_
              first | (rw [bb_t (by first | omega | (simp only [ti_0, ti_1, ti_2, ti_3, ti_4, ti_5, ti_6, ti_9, ti_10, ti_20, ti_22, ti_25, ti_26, ti_40, ti_50, ti_52, ti_53, ti_55, ti_56, ti_57, ti_58, ti_59] at *; omega))] at kk; exact kk) | (rw [bb_f (by first | omega | (simp only [ti_0, ti_1, ti_2, ti_3, ti_4, ti_5, ti_6, ti_9, ti_10, ti_20, ti_22, ti_25, ti_26, ti_40, ti_50, ti_52, ti_53, ti_55, ti_56, ti_57, ti_58, ti_59] at *; omega))] at kk; exact kk)
            · skip
              refine g_iconst (v := nn 1) k107_40 ci_1 ?_
              refine g_goto k107_41 (t := 45) rfl ?_
              refine g_breturn k107_45 t107 (by decide) ?_
              first | (rw [bb_t (by first | omega | (simp only [ti_0, ti_1, ti_2, ti_3, ti_4, ti_5, ti_6, ti_9, ti_10, ti_20, ti_22, ti_25, ti_26, ti_40, ti_50, ti_52, ti_53, ti_55, ti_56, ti_57, ti_58, ti_59] at *; omega))] at kk; exact kk) | (rw [bb_f (by first | omega | (simp only [ti_0, ti_1, ti_2, ti_3, ti_4, ti_5, ti_6, ti_9, ti_10, ti_20, ti_22, ti_25, ti_26, ti_40, ti_50, ti_52, ti_53, ti_55, ti_56, ti_57, ti_58, ti_59] at *; omega))] at kk; exact kk)
      · skip
        refine g_iload_n k107_16 rfl ?_
        refine g_bipush (v := nn 26) k107_17 cb_26 ?_
        refine g_iclt k107_19 (t := 40) rfl (fun h19 => ?_) (fun h19 => ?_)
        · skip
          refine g_iconst (v := nn 1) k107_40 ci_1 ?_
          refine g_goto k107_41 (t := 45) rfl ?_
          refine g_breturn k107_45 t107 (by decide) ?_
          first | (rw [bb_t (by first | omega | (simp only [ti_0, ti_1, ti_2, ti_3, ti_4, ti_5, ti_6, ti_9, ti_10, ti_20, ti_22, ti_25, ti_26, ti_40, ti_50, ti_52, ti_53, ti_55, ti_56, ti_57, ti_58, ti_59] at *; omega))] at kk; exact kk) | (rw [bb_f (by first | omega | (simp only [ti_0, ti_1, ti_2, ti_3, ti_4, ti_5, ti_6, ti_9, ti_10, ti_20, ti_22, ti_25, ti_26, ti_40, ti_50, ti_52, ti_53, ti_55, ti_56, ti_57, ti_58, ti_59] at *; omega))] at kk; exact kk)
        · skip
          refine g_iload_n k107_22 rfl ?_
          refine g_bipush (v := nn 40) k107_23 cb_40 ?_
          refine g_iceqT k107_25 (t := 40) rfl (fun h25 => ?_) (fun h25 => ?_)
          · skip
            refine g_iconst (v := nn 1) k107_40 ci_1 ?_
            refine g_goto k107_41 (t := 45) rfl ?_
            refine g_breturn k107_45 t107 (by decide) ?_
            first | (rw [bb_t (by first | omega | (simp only [ti_0, ti_1, ti_2, ti_3, ti_4, ti_5, ti_6, ti_9, ti_10, ti_20, ti_22, ti_25, ti_26, ti_40, ti_50, ti_52, ti_53, ti_55, ti_56, ti_57, ti_58, ti_59] at *; omega))] at kk; exact kk) | (rw [bb_f (by first | omega | (simp only [ti_0, ti_1, ti_2, ti_3, ti_4, ti_5, ti_6, ti_9, ti_10, ti_20, ti_22, ti_25, ti_26, ti_40, ti_50, ti_52, ti_53, ti_55, ti_56, ti_57, ti_58, ti_59] at *; omega))] at kk; exact kk)
          · skip
            refine g_iload_n k107_28 rfl ?_
            refine g_bipush (v := nn 50) k107_29 cb_50 ?_
            refine g_iclt k107_31 (t := 44) rfl (fun h31 => ?_) (fun h31 => ?_)
            · skip
              refine g_iconst (v := nn 0) k107_44 ci_0 ?_
              refine g_breturn k107_45 t107 (by decide) ?_
              first | (rw [bb_t (by first | omega | (simp only [ti_0, ti_1, ti_2, ti_3, ti_4, ti_5, ti_6, ti_9, ti_10, ti_20, ti_22, ti_25, ti_26, ti_40, ti_50, ti_52, ti_53, ti_55, ti_56, ti_57, ti_58, ti_59] at *; omega))] at kk; exact kk) | (rw [bb_f (by first | omega | (simp only [ti_0, ti_1, ti_2, ti_3, ti_4, ti_5, ti_6, ti_9, ti_10, ti_20, ti_22, ti_25, ti_26, ti_40, ti_50, ti_52, ti_53, ti_55, ti_56, ti_57, ti_58, ti_59] at *; omega))] at kk; exact kk)
            · skip
              refine g_iload_n k107_34 rfl ?_
              refine g_bipush (v := nn 59) k107_35 cb_59 ?_
              refine g_icge k107_37 (t := 44) rfl (fun h37 => ?_) (fun h37 => ?_)
              · skip
                refine g_iconst (v := nn 0) k107_44 ci_0 ?_
                refine g_breturn k107_45 t107 (by decide) ?_
                first | (rw [bb_t (by first | omega | (simp only [ti_0, ti_1, ti_2, ti_3, ti_4, ti_5, ti_6, ti_9, ti_10, ti_20, ti_22, ti_25, ti_26, ti_40, ti_50, ti_52, ti_53, ti_55, ti_56, ti_57, ti_58, ti_59] at *; omega))] at kk; exact kk) | (rw [bb_f (by first | omega | (simp only [ti_0, ti_1, ti_2, ti_3, ti_4, ti_5, ti_6, ti_9, ti_10, ti_20, ti_22, ti_25, ti_26, ti_40, ti_50, ti_52, ti_53, ti_55, ti_56, ti_57, ti_58, ti_59] at *; omega))] at kk; exact kk)
              · skip
                refine g_iconst (v := nn 1) k107_40 ci_1 ?_
                refine g_goto k107_41 (t := 45) rfl ?_
                refine g_breturn k107_45 t107 (by decide) ?_
                first | (rw [bb_t (by first | omega | (simp only [ti_0, ti_1, ti_2, ti_3, ti_4, ti_5, ti_6, ti_9, ti_10, ti_20, ti_22, ti_25, ti_26, ti_40, ti_50, ti_52, ti_53, ti_55, ti_56, ti_57, ti_58, ti_59] at *; omega))] at kk; exact kk) | (rw [bb_f (by first | omega | (simp only [ti_0, ti_1, ti_2, ti_3, ti_4, ti_5, ti_6, ti_9, ti_10, ti_20, ti_22, ti_25, ti_26, ti_40, ti_50, ti_52, ti_53, ti_55, ti_56, ti_57, ti_58, ti_59] at *; omega))] at kk; exact kk)
theorem s_110 {w : Int32} (kk : Q (.inl (some (.int (if w.toInt < 50 then nn 0 else if w.toInt = 57 then nn 1 else if w.toInt = 58 then nn 3 else nn 2)))) h) : go (tb_P L xs) 110 0 [some (.ref m), some (.int w)] [] h Q := by
  refine g_iload_n k110_0 rfl ?_
  refine g_bipush (v := nn 50) k110_1 cb_50 ?_
  refine g_icge k110_3 (t := 10) rfl (fun h3 => ?_) (fun h3 => ?_)
  · skip
    refine g_iload_n k110_10 rfl ?_
    refine g_bipush (v := nn 57) k110_11 cb_57 ?_
    refine g_icneT k110_13 (t := 20) rfl (fun h13 => ?_) (fun h13 => ?_)
    · skip
      refine g_iload_n k110_20 rfl ?_
      refine g_bipush (v := nn 58) k110_21 cb_58 ?_
      refine g_icneT k110_23 (t := 30) rfl (fun h23 => ?_) (fun h23 => ?_)
      · skip
        refine g_iconst (v := nn 2) k110_30 ci_2 ?_
        refine g_ireturn k110_31 t110 ?_
        simp only [ti_0, ti_1, ti_2, ti_3, ti_4, ti_5, ti_6, ti_9, ti_10, ti_20, ti_22, ti_25, ti_26, ti_40, ti_50, ti_52, ti_53, ti_55, ti_56, ti_57, ti_58, ti_59] at *
        first | exact kk | (rw [if_pos (by omega)] at kk; exact kk) | (rw [if_neg (by omega)] at kk; exact kk) | (rw [if_neg (by omega), if_pos (by omega)] at kk; exact kk) | (rw [if_neg (by omega), if_neg (by omega)] at kk; exact kk) | (rw [if_neg (by omega), if_neg (by omega), if_pos (by omega)] at kk; exact kk) | (rw [if_neg (by omega), if_neg (by omega), if_neg (by omega)] at kk; exact kk)
      · skip
        refine g_iconst (v := nn 3) k110_26 ci_3 ?_
        refine g_goto k110_27 (t := 31) rfl ?_
        refine g_ireturn k110_31 t110 ?_
        simp only [ti_0, ti_1, ti_2, ti_3, ti_4, ti_5, ti_6, ti_9, ti_10, ti_20, ti_22, ti_25, ti_26, ti_40, ti_50, ti_52, ti_53, ti_55, ti_56, ti_57, ti_58, ti_59] at *
        first | exact kk | (rw [if_pos (by omega)] at kk; exact kk) | (rw [if_neg (by omega)] at kk; exact kk) | (rw [if_neg (by omega), if_pos (by omega)] at kk; exact kk) | (rw [if_neg (by omega), if_neg (by omega)] at kk; exact kk) | (rw [if_neg (by omega), if_neg (by omega), if_pos (by omega)] at kk; exact kk) | (rw [if_neg (by omega), if_neg (by omega), if_neg (by omega)] at kk; exact kk)
    · skip
      refine g_iconst (v := nn 1) k110_16 ci_1 ?_
      refine g_goto k110_17 (t := 31) rfl ?_
      refine g_ireturn k110_31 t110 ?_
      simp only [ti_0, ti_1, ti_2, ti_3, ti_4, ti_5, ti_6, ti_9, ti_10, ti_20, ti_22, ti_25, ti_26, ti_40, ti_50, ti_52, ti_53, ti_55, ti_56, ti_57, ti_58, ti_59] at *
      first | exact kk | (rw [if_pos (by omega)] at kk; exact kk) | (rw [if_neg (by omega)] at kk; exact kk) | (rw [if_neg (by omega), if_pos (by omega)] at kk; exact kk) | (rw [if_neg (by omega), if_neg (by omega)] at kk; exact kk) | (rw [if_neg (by omega), if_neg (by omega), if_pos (by omega)] at kk; exact kk) | (rw [if_neg (by omega), if_neg (by omega), if_neg (by omega)] at kk; exact kk)
  · skip
    refine g_iconst (v := nn 0) k110_6 ci_0 ?_
    refine g_goto k110_7 (t := 31) rfl ?_
    refine g_ireturn k110_31 t110 ?_
    simp only [ti_0, ti_1, ti_2, ti_3, ti_4, ti_5, ti_6, ti_9, ti_10, ti_20, ti_22, ti_25, ti_26, ti_40, ti_50, ti_52, ti_53, ti_55, ti_56, ti_57, ti_58, ti_59] at *
    first | exact kk | (rw [if_pos (by omega)] at kk; exact kk) | (rw [if_neg (by omega)] at kk; exact kk) | (rw [if_neg (by omega), if_pos (by omega)] at kk; exact kk) | (rw [if_neg (by omega), if_neg (by omega)] at kk; exact kk) | (rw [if_neg (by omega), if_neg (by omega), if_pos (by omega)] at kk; exact kk) | (rw [if_neg (by omega), if_neg (by omega), if_neg (by omega)] at kk; exact kk)
theorem s_112 {w : Int32} (kk : Q (.inl (some (.int (bb (53 ≤ w.toInt ∧ w.toInt ≤ 57))))) h) : go (tb_P L xs) 112 0 [some (.ref m), some (.int w)] [] h Q := by
  refine g_iload_n k112_0 rfl ?_
  refine g_bipush (v := nn 52) k112_1 cb_52 ?_
  refine g_icle k112_3 (t := 16) rfl (fun h3 => ?_) (fun h3 => ?_)
  · skip
    refine g_iconst (v := nn 0) k112_16 ci_0 ?_
    refine g_breturn k112_17 t112 (by decide) ?_
    first | (rw [bb_t (by first | omega | (simp only [ti_0, ti_1, ti_2, ti_3, ti_4, ti_5, ti_6, ti_9, ti_10, ti_20, ti_22, ti_25, ti_26, ti_40, ti_50, ti_52, ti_53, ti_55, ti_56, ti_57, ti_58, ti_59] at *; omega))] at kk; exact kk) | (rw [bb_f (by first | omega | (simp only [ti_0, ti_1, ti_2, ti_3, ti_4, ti_5, ti_6, ti_9, ti_10, ti_20, ti_22, ti_25, ti_26, ti_40, ti_50, ti_52, ti_53, ti_55, ti_56, ti_57, ti_58, ti_59] at *; omega))] at kk; exact kk)
  · skip
    refine g_iload_n k112_6 rfl ?_
    refine g_bipush (v := nn 58) k112_7 cb_58 ?_
    refine g_icge k112_9 (t := 16) rfl (fun h9 => ?_) (fun h9 => ?_)
    · skip
      refine g_iconst (v := nn 0) k112_16 ci_0 ?_
      refine g_breturn k112_17 t112 (by decide) ?_
      first | (rw [bb_t (by first | omega | (simp only [ti_0, ti_1, ti_2, ti_3, ti_4, ti_5, ti_6, ti_9, ti_10, ti_20, ti_22, ti_25, ti_26, ti_40, ti_50, ti_52, ti_53, ti_55, ti_56, ti_57, ti_58, ti_59] at *; omega))] at kk; exact kk) | (rw [bb_f (by first | omega | (simp only [ti_0, ti_1, ti_2, ti_3, ti_4, ti_5, ti_6, ti_9, ti_10, ti_20, ti_22, ti_25, ti_26, ti_40, ti_50, ti_52, ti_53, ti_55, ti_56, ti_57, ti_58, ti_59] at *; omega))] at kk; exact kk)
    · skip
      refine g_iconst (v := nn 1) k112_12 ci_1 ?_
      refine g_goto k112_13 (t := 17) rfl ?_
      refine g_breturn k112_17 t112 (by decide) ?_
      first | (rw [bb_t (by first | omega | (simp only [ti_0, ti_1, ti_2, ti_3, ti_4, ti_5, ti_6, ti_9, ti_10, ti_20, ti_22, ti_25, ti_26, ti_40, ti_50, ti_52, ti_53, ti_55, ti_56, ti_57, ti_58, ti_59] at *; omega))] at kk; exact kk) | (rw [bb_f (by first | omega | (simp only [ti_0, ti_1, ti_2, ti_3, ti_4, ti_5, ti_6, ti_9, ti_10, ti_20, ti_22, ti_25, ti_26, ti_40, ti_50, ti_52, ti_53, ti_55, ti_56, ti_57, ti_58, ti_59] at *; omega))] at kk; exact kk)
theorem s_111 {w : Int32} {i : Int32} (kk : Q (.inl (some (.int (bb (w.toInt = 55 ∨ w.toInt = 56 ∨ w.toInt = 57 ∨ (w.toInt = 58 ∧ i.toInt = 0)))))) h) : go (tb_P L xs) 111 0 [some (.ref m), some (.int w), some (.int i)] [] h Q := by
  refine g_iload_n k111_0 rfl ?_
  refine g_bipush (v := nn 55) k111_1 cb_55 ?_
  refine g_iceqT k111_3 (t := 28) rfl (fun h3 => ?_) (fun h3 => ?_)
  · skip
    refine g_iconst (v := nn 1) k111_28 ci_1 ?_
    refine g_goto k111_29 (t := 33) rfl ?_
    refine g_breturn k111_33 t111 (by decide) ?_
    first | (rw [bb_t (by first | omega | (simp only [ti_0, ti_1, ti_2, ti_3, ti_4, ti_5, ti_6, ti_9, ti_10, ti_20, ti_22, ti_25, ti_26, ti_40, ti_50, ti_52, ti_53, ti_55, ti_56, ti_57, ti_58, ti_59] at *; omega))] at kk; exact kk) | (rw [bb_f (by first | omega | (simp only [ti_0, ti_1, ti_2, ti_3, ti_4, ti_5, ti_6, ti_9, ti_10, ti_20, ti_22, ti_25, ti_26, ti_40, ti_50, ti_52, ti_53, ti_55, ti_56, ti_57, ti_58, ti_59] at *; omega))] at kk; exact kk)
  · skip
    refine g_iload_n k111_6 rfl ?_
    refine g_bipush (v := nn 56) k111_7 cb_56 ?_
    refine g_iceqT k111_9 (t := 28) rfl (fun h9 => ?_) (fun h9 => ?_)
    · skip
      refine g_iconst (v := nn 1) k111_28 ci_1 ?_
      refine g_goto k111_29 (t := 33) rfl ?_
      refine g_breturn k111_33 t111 (by decide) ?_
      first | (rw [bb_t (by first | omega | (simp only [ti_0, ti_1, ti_2, ti_3, ti_4, ti_5, ti_6, ti_9, ti_10, ti_20, ti_22, ti_25, ti_26, ti_40, ti_50, ti_52, ti_53, ti_55, ti_56, ti_57, ti_58, ti_59] at *; omega))] at kk; exact kk) | (rw [bb_f (by first | omega | (simp only [ti_0, ti_1, ti_2, ti_3, ti_4, ti_5, ti_6, ti_9, ti_10, ti_20, ti_22, ti_25, ti_26, ti_40, ti_50, ti_52, ti_53, ti_55, ti_56, ti_57, ti_58, ti_59] at *; omega))] at kk; exact kk)
    · skip
      refine g_iload_n k111_12 rfl ?_
      refine g_bipush (v := nn 57) k111_13 cb_57 ?_
      refine g_iceqT k111_15 (t := 28) rfl (fun h15 => ?_) (fun h15 => ?_)
      · skip
        refine g_iconst (v := nn 1) k111_28 ci_1 ?_
        refine g_goto k111_29 (t := 33) rfl ?_
        refine g_breturn k111_33 t111 (by decide) ?_
        first | (rw [bb_t (by first | omega | (simp only [ti_0, ti_1, ti_2, ti_3, ti_4, ti_5, ti_6, ti_9, ti_10, ti_20, ti_22, ti_25, ti_26, ti_40, ti_50, ti_52, ti_53, ti_55, ti_56, ti_57, ti_58, ti_59] at *; omega))] at kk; exact kk) | (rw [bb_f (by first | omega | (simp only [ti_0, ti_1, ti_2, ti_3, ti_4, ti_5, ti_6, ti_9, ti_10, ti_20, ti_22, ti_25, ti_26, ti_40, ti_50, ti_52, ti_53, ti_55, ti_56, ti_57, ti_58, ti_59] at *; omega))] at kk; exact kk)
      · skip
        refine g_iload_n k111_18 rfl ?_
        refine g_bipush (v := nn 58) k111_19 cb_58 ?_
        refine g_icneT k111_21 (t := 32) rfl (fun h21 => ?_) (fun h21 => ?_)
        · skip
          refine g_iconst (v := nn 0) k111_32 ci_0 ?_
          refine g_breturn k111_33 t111 (by decide) ?_
          first | (rw [bb_t (by first | omega | (simp only [ti_0, ti_1, ti_2, ti_3, ti_4, ti_5, ti_6, ti_9, ti_10, ti_20, ti_22, ti_25, ti_26, ti_40, ti_50, ti_52, ti_53, ti_55, ti_56, ti_57, ti_58, ti_59] at *; omega))] at kk; exact kk) | (rw [bb_f (by first | omega | (simp only [ti_0, ti_1, ti_2, ti_3, ti_4, ti_5, ti_6, ti_9, ti_10, ti_20, ti_22, ti_25, ti_26, ti_40, ti_50, ti_52, ti_53, ti_55, ti_56, ti_57, ti_58, ti_59] at *; omega))] at kk; exact kk)
        · skip
          refine g_iload_n k111_24 rfl ?_
          refine g_ifneT k111_25 (t := 32) rfl (fun h25 => ?_) (fun h25 => ?_)
          · skip
            refine g_iconst (v := nn 0) k111_32 ci_0 ?_
            refine g_breturn k111_33 t111 (by decide) ?_
            first | (rw [bb_t (by first | omega | (simp only [ti_0, ti_1, ti_2, ti_3, ti_4, ti_5, ti_6, ti_9, ti_10, ti_20, ti_22, ti_25, ti_26, ti_40, ti_50, ti_52, ti_53, ti_55, ti_56, ti_57, ti_58, ti_59] at *; omega))] at kk; exact kk) | (rw [bb_f (by first | omega | (simp only [ti_0, ti_1, ti_2, ti_3, ti_4, ti_5, ti_6, ti_9, ti_10, ti_20, ti_22, ti_25, ti_26, ti_40, ti_50, ti_52, ti_53, ti_55, ti_56, ti_57, ti_58, ti_59] at *; omega))] at kk; exact kk)
          · skip
            refine g_iconst (v := nn 1) k111_28 ci_1 ?_
            refine g_goto k111_29 (t := 33) rfl ?_
            refine g_breturn k111_33 t111 (by decide) ?_
            first | (rw [bb_t (by first | omega | (simp only [ti_0, ti_1, ti_2, ti_3, ti_4, ti_5, ti_6, ti_9, ti_10, ti_20, ti_22, ti_25, ti_26, ti_40, ti_50, ti_52, ti_53, ti_55, ti_56, ti_57, ti_58, ti_59] at *; omega))] at kk; exact kk) | (rw [bb_f (by first | omega | (simp only [ti_0, ti_1, ti_2, ti_3, ti_4, ti_5, ti_6, ti_9, ti_10, ti_20, ti_22, ti_25, ti_26, ti_40, ti_50, ti_52, ti_53, ti_55, ti_56, ti_57, ti_58, ti_59] at *; omega))] at kk; exact kk)
end PA
