/-! The reference: which duties there are. -/
section LK
variable {L : Nat} {xs : Nat → Int32} {Q : am_A → am_H → Prop} {dy : List (Nat × Nat)} {σ : Nat → Nat → Int32} {ρ : Nat → Nat → Option Nat} {τ : Nat → Nat → Int64} {A : TD} {e : Nat} {x z : Int32}
/-- an event has a duty of a kind -/
def td_dk (A : TD) (kd e : Nat) : Bool := decide (kd = 1) || (decide (kd = 2) && decide (td_ma A e = 0)) || (decide (td_ma A e = 1) && (decide (kd = 3) || (decide (kd = 4) && (td_rf A e).isSome) || (decide (kd = 5) && (td_rf A e).isNone)))
theorem s_124e {kd : Nat} (hdy : dy.length < 100000) (ok : TOK A) (hR : RepM A σ) (hk : 1 ≤ kd ∧ kd ≤ 5) (he : e < td_ne A) (kk : Q (.inl (some (.int (bb ((!td_dk A kd e) = true))))) (mk dy σ ρ τ)) : go (tb_P L xs) 124 0 [some (.ref 24), some (.int (nn kd)), some (.int (nn e))] [] (mk dy σ ρ τ) Q := by
  have hne := ok.2.2.1
  have hma := (hR.2.1.2 e he).1
  have hrf := (hR.2.1.2 e he).2.2.1
  have hm1 := (ok.2.2.2.1 e he).1
  have hrl := (ok.2.2.2.1 e he).2.2.1
  have hev := nn_in he (by omega)
  have fin : ∀ b : Bool, (!td_dk A kd e) = b → Q (.inl (some (.int (bb (b = true))))) (mk dy σ ρ τ) := by
    intro b h
    rw [← h]
    exact kk
  have hkd : kd = 1 ∨ kd = 2 ∨ kd = 3 ∨ kd = 4 ∨ kd = 5 := by omega
  cases hc : td_rf A e with
  | none =>
    rw [hc, oi_none] at hrf
    rcases hkd with rfl | rfl | rfl | rfl | rfl
    · skip
      refine g_iload_n k124_0 rfl ?_
      refine g_ifltN (t := 10) k124_1 rfl (by omega) ?_
      refine g_iload_n k124_4 rfl ?_
      refine g_bipush (v := nn 6) k124_5 cb_6 ?_
      refine g_icle_t k124_7 (t := 12) rfl (by decide) ?_
      refine g_iload_n k124_12 rfl ?_
      refine g_ifeq_f k124_13 (t := 22) rfl (by decide) ?_
      refine g_iload_n k124_16 rfl ?_
      refine g_bipush (v := nn 6) k124_17 cb_6 ?_
      refine g_icne_t k124_19 (t := 32) rfl (by decide) ?_
      refine g_aload_n k124_32 rfl ?_
      refine g_iload_n k124_33 rfl ?_
      refine m_callV1 k124_34 s124_34 c124_34 l115 (by omega) rfl rfl r124_34 rfl ?_
      refine s_115 ok hR ?_
      refine af_ret ?_
      refine g_ifeq_t k124_37 (t := 42) rfl (bb_f (fun q => q hev)) ?_
      refine g_iload_n k124_42 rfl ?_
      refine g_iconst (v := nn 2) k124_43 ci_2 ?_
      refine g_icne_t k124_44 (t := 65) rfl (by decide) ?_
      refine g_iload_n k124_65 rfl ?_
      refine g_iconst (v := nn 2) k124_66 ci_2 ?_
      refine g_icle_t k124_67 (t := 113) rfl (by decide) ?_
      refine g_iconst (v := nn 0) k124_113 ci_0 ?_
      refine g_breturn k124_114 t124 (by decide) ?_
      first
        | (have hm : td_ma A e = 0 := by omega
           refine fin true ?_
           simp [td_dk, hc, hm]
           done)
        | (have hm : td_ma A e = 1 := by omega
           refine fin true ?_
           simp [td_dk, hc, hm]
           done)
        | (have hm : td_ma A e = 0 := by omega
           refine fin false ?_
           simp [td_dk, hc, hm]
           done)
        | (have hm : td_ma A e = 1 := by omega
           refine fin false ?_
           simp [td_dk, hc, hm]
           done)
        | (refine fin false ?_
           simp [td_dk, hc])
    · skip
      refine g_iload_n k124_0 rfl ?_
      refine g_ifltN (t := 10) k124_1 rfl (by omega) ?_
      refine g_iload_n k124_4 rfl ?_
      refine g_bipush (v := nn 6) k124_5 cb_6 ?_
      refine g_icle_t k124_7 (t := 12) rfl (by decide) ?_
      refine g_iload_n k124_12 rfl ?_
      refine g_ifeq_f k124_13 (t := 22) rfl (by decide) ?_
      refine g_iload_n k124_16 rfl ?_
      refine g_bipush (v := nn 6) k124_17 cb_6 ?_
      refine g_icne_t k124_19 (t := 32) rfl (by decide) ?_
      refine g_aload_n k124_32 rfl ?_
      refine g_iload_n k124_33 rfl ?_
      refine m_callV1 k124_34 s124_34 c124_34 l115 (by omega) rfl rfl r124_34 rfl ?_
      refine s_115 ok hR ?_
      refine af_ret ?_
      refine g_ifeq_t k124_37 (t := 42) rfl (bb_f (fun q => q hev)) ?_
      refine g_iload_n k124_42 rfl ?_
      refine g_iconst (v := nn 2) k124_43 ci_2 ?_
      refine g_icne_f k124_44 (t := 65) rfl rfl ?_
      refine g_aload_n k124_47 rfl ?_
      refine m_get k124_48 f124_48 rfl rfl ?_
      refine g_iload_n k124_51 rfl ?_
      refine m_iald k124_52 hdy rfl rfl (by omega) (by omega) ?_
      rw [hma]
      refine g_iconst (v := nn 1) k124_53 ci_1 ?_
      refine g_icneN k124_54 (t := 61) rfl ⟨by omega, by omega⟩ (fun h54 => ?_) (fun h54 => ?_)
      · skip
        refine g_iconst (v := nn 0) k124_61 ci_0 ?_
        refine g_goto k124_62 (t := 114) rfl ?_
        refine g_breturn k124_114 t124 (by decide) ?_
        first
          | (have hm : td_ma A e = 0 := by omega
             refine fin true ?_
             simp [td_dk, hc, hm]
             done)
          | (have hm : td_ma A e = 1 := by omega
             refine fin true ?_
             simp [td_dk, hc, hm]
             done)
          | (have hm : td_ma A e = 0 := by omega
             refine fin false ?_
             simp [td_dk, hc, hm]
             done)
          | (have hm : td_ma A e = 1 := by omega
             refine fin false ?_
             simp [td_dk, hc, hm]
             done)
          | (refine fin false ?_
             simp [td_dk, hc])
      · skip
        refine g_iconst (v := nn 1) k124_57 ci_1 ?_
        refine g_goto k124_58 (t := 114) rfl ?_
        refine g_breturn k124_114 t124 (by decide) ?_
        first
          | (have hm : td_ma A e = 0 := by omega
             refine fin true ?_
             simp [td_dk, hc, hm]
             done)
          | (have hm : td_ma A e = 1 := by omega
             refine fin true ?_
             simp [td_dk, hc, hm]
             done)
          | (have hm : td_ma A e = 0 := by omega
             refine fin false ?_
             simp [td_dk, hc, hm]
             done)
          | (have hm : td_ma A e = 1 := by omega
             refine fin false ?_
             simp [td_dk, hc, hm]
             done)
          | (refine fin false ?_
             simp [td_dk, hc])
    · skip
      refine g_iload_n k124_0 rfl ?_
      refine g_ifltN (t := 10) k124_1 rfl (by omega) ?_
      refine g_iload_n k124_4 rfl ?_
      refine g_bipush (v := nn 6) k124_5 cb_6 ?_
      refine g_icle_t k124_7 (t := 12) rfl (by decide) ?_
      refine g_iload_n k124_12 rfl ?_
      refine g_ifeq_f k124_13 (t := 22) rfl (by decide) ?_
      refine g_iload_n k124_16 rfl ?_
      refine g_bipush (v := nn 6) k124_17 cb_6 ?_
      refine g_icne_t k124_19 (t := 32) rfl (by decide) ?_
      refine g_aload_n k124_32 rfl ?_
      refine g_iload_n k124_33 rfl ?_
      refine m_callV1 k124_34 s124_34 c124_34 l115 (by omega) rfl rfl r124_34 rfl ?_
      refine s_115 ok hR ?_
      refine af_ret ?_
      refine g_ifeq_t k124_37 (t := 42) rfl (bb_f (fun q => q hev)) ?_
      refine g_iload_n k124_42 rfl ?_
      refine g_iconst (v := nn 2) k124_43 ci_2 ?_
      refine g_icne_t k124_44 (t := 65) rfl (by decide) ?_
      refine g_iload_n k124_65 rfl ?_
      refine g_iconst (v := nn 2) k124_66 ci_2 ?_
      refine g_icle_f k124_67 (t := 113) rfl (by decide) ?_
      refine g_aload_n k124_70 rfl ?_
      refine m_get k124_71 f124_71 rfl rfl ?_
      refine g_iload_n k124_74 rfl ?_
      refine m_iald k124_75 hdy rfl rfl (by omega) (by omega) ?_
      rw [hma]
      refine g_ifeqN k124_76 (t := 109) rfl (by omega) (fun h76 => ?_) (fun h76 => ?_)
      · skip
        refine g_iconst (v := nn 1) k124_109 ci_1 ?_
        refine g_goto k124_110 (t := 114) rfl ?_
        refine g_breturn k124_114 t124 (by decide) ?_
        first
          | (have hm : td_ma A e = 0 := by omega
             refine fin true ?_
             simp [td_dk, hc, hm]
             done)
          | (have hm : td_ma A e = 1 := by omega
             refine fin true ?_
             simp [td_dk, hc, hm]
             done)
          | (have hm : td_ma A e = 0 := by omega
             refine fin false ?_
             simp [td_dk, hc, hm]
             done)
          | (have hm : td_ma A e = 1 := by omega
             refine fin false ?_
             simp [td_dk, hc, hm]
             done)
          | (refine fin false ?_
             simp [td_dk, hc])
      · skip
        refine g_iload_n k124_79 rfl ?_
        refine g_iconst (v := nn 4) k124_80 ci_4 ?_
        refine g_icne_t k124_81 (t := 94) rfl (by decide) ?_
        refine g_iload_n k124_94 rfl ?_
        refine g_iconst (v := nn 5) k124_95 ci_5 ?_
        refine g_icne_t k124_96 (t := 113) rfl (by decide) ?_
        refine g_iconst (v := nn 0) k124_113 ci_0 ?_
        refine g_breturn k124_114 t124 (by decide) ?_
        first
          | (have hm : td_ma A e = 0 := by omega
             refine fin true ?_
             simp [td_dk, hc, hm]
             done)
          | (have hm : td_ma A e = 1 := by omega
             refine fin true ?_
             simp [td_dk, hc, hm]
             done)
          | (have hm : td_ma A e = 0 := by omega
             refine fin false ?_
             simp [td_dk, hc, hm]
             done)
          | (have hm : td_ma A e = 1 := by omega
             refine fin false ?_
             simp [td_dk, hc, hm]
             done)
          | (refine fin false ?_
             simp [td_dk, hc])
    · skip
      refine g_iload_n k124_0 rfl ?_
      refine g_ifltN (t := 10) k124_1 rfl (by omega) ?_
      refine g_iload_n k124_4 rfl ?_
      refine g_bipush (v := nn 6) k124_5 cb_6 ?_
      refine g_icle_t k124_7 (t := 12) rfl (by decide) ?_
      refine g_iload_n k124_12 rfl ?_
      refine g_ifeq_f k124_13 (t := 22) rfl (by decide) ?_
      refine g_iload_n k124_16 rfl ?_
      refine g_bipush (v := nn 6) k124_17 cb_6 ?_
      refine g_icne_t k124_19 (t := 32) rfl (by decide) ?_
      refine g_aload_n k124_32 rfl ?_
      refine g_iload_n k124_33 rfl ?_
      refine m_callV1 k124_34 s124_34 c124_34 l115 (by omega) rfl rfl r124_34 rfl ?_
      refine s_115 ok hR ?_
      refine af_ret ?_
      refine g_ifeq_t k124_37 (t := 42) rfl (bb_f (fun q => q hev)) ?_
      refine g_iload_n k124_42 rfl ?_
      refine g_iconst (v := nn 2) k124_43 ci_2 ?_
      refine g_icne_t k124_44 (t := 65) rfl (by decide) ?_
      refine g_iload_n k124_65 rfl ?_
      refine g_iconst (v := nn 2) k124_66 ci_2 ?_
      refine g_icle_f k124_67 (t := 113) rfl (by decide) ?_
      refine g_aload_n k124_70 rfl ?_
      refine m_get k124_71 f124_71 rfl rfl ?_
      refine g_iload_n k124_74 rfl ?_
      refine m_iald k124_75 hdy rfl rfl (by omega) (by omega) ?_
      rw [hma]
      refine g_ifeqN k124_76 (t := 109) rfl (by omega) (fun h76 => ?_) (fun h76 => ?_)
      · skip
        refine g_iconst (v := nn 1) k124_109 ci_1 ?_
        refine g_goto k124_110 (t := 114) rfl ?_
        refine g_breturn k124_114 t124 (by decide) ?_
        first
          | (have hm : td_ma A e = 0 := by omega
             refine fin true ?_
             simp [td_dk, hc, hm]
             done)
          | (have hm : td_ma A e = 1 := by omega
             refine fin true ?_
             simp [td_dk, hc, hm]
             done)
          | (have hm : td_ma A e = 0 := by omega
             refine fin false ?_
             simp [td_dk, hc, hm]
             done)
          | (have hm : td_ma A e = 1 := by omega
             refine fin false ?_
             simp [td_dk, hc, hm]
             done)
          | (refine fin false ?_
             simp [td_dk, hc])
      · skip
        refine g_iload_n k124_79 rfl ?_
        refine g_iconst (v := nn 4) k124_80 ci_4 ?_
        refine g_icne_f k124_81 (t := 94) rfl rfl ?_
        refine g_aload_n k124_84 rfl ?_
        refine m_get k124_85 f124_85 rfl rfl ?_
        refine g_iload_n k124_88 rfl ?_
        refine m_iald k124_89 hdy rfl rfl (by omega) (by omega) ?_
        rw [hrf]
        refine g_iconst (v := -1) k124_90 ci_m1 ?_
        refine g_iceq_t k124_91 (t := 109) rfl rfl ?_
        refine g_iconst (v := nn 1) k124_109 ci_1 ?_
        refine g_goto k124_110 (t := 114) rfl ?_
        refine g_breturn k124_114 t124 (by decide) ?_
        first
          | (have hm : td_ma A e = 0 := by omega
             refine fin true ?_
             simp [td_dk, hc, hm]
             done)
          | (have hm : td_ma A e = 1 := by omega
             refine fin true ?_
             simp [td_dk, hc, hm]
             done)
          | (have hm : td_ma A e = 0 := by omega
             refine fin false ?_
             simp [td_dk, hc, hm]
             done)
          | (have hm : td_ma A e = 1 := by omega
             refine fin false ?_
             simp [td_dk, hc, hm]
             done)
          | (refine fin false ?_
             simp [td_dk, hc])
    · skip
      refine g_iload_n k124_0 rfl ?_
      refine g_ifltN (t := 10) k124_1 rfl (by omega) ?_
      refine g_iload_n k124_4 rfl ?_
      refine g_bipush (v := nn 6) k124_5 cb_6 ?_
      refine g_icle_t k124_7 (t := 12) rfl (by decide) ?_
      refine g_iload_n k124_12 rfl ?_
      refine g_ifeq_f k124_13 (t := 22) rfl (by decide) ?_
      refine g_iload_n k124_16 rfl ?_
      refine g_bipush (v := nn 6) k124_17 cb_6 ?_
      refine g_icne_t k124_19 (t := 32) rfl (by decide) ?_
      refine g_aload_n k124_32 rfl ?_
      refine g_iload_n k124_33 rfl ?_
      refine m_callV1 k124_34 s124_34 c124_34 l115 (by omega) rfl rfl r124_34 rfl ?_
      refine s_115 ok hR ?_
      refine af_ret ?_
      refine g_ifeq_t k124_37 (t := 42) rfl (bb_f (fun q => q hev)) ?_
      refine g_iload_n k124_42 rfl ?_
      refine g_iconst (v := nn 2) k124_43 ci_2 ?_
      refine g_icne_t k124_44 (t := 65) rfl (by decide) ?_
      refine g_iload_n k124_65 rfl ?_
      refine g_iconst (v := nn 2) k124_66 ci_2 ?_
      refine g_icle_f k124_67 (t := 113) rfl (by decide) ?_
      refine g_aload_n k124_70 rfl ?_
      refine m_get k124_71 f124_71 rfl rfl ?_
      refine g_iload_n k124_74 rfl ?_
      refine m_iald k124_75 hdy rfl rfl (by omega) (by omega) ?_
      rw [hma]
      refine g_ifeqN k124_76 (t := 109) rfl (by omega) (fun h76 => ?_) (fun h76 => ?_)
      · skip
        refine g_iconst (v := nn 1) k124_109 ci_1 ?_
        refine g_goto k124_110 (t := 114) rfl ?_
        refine g_breturn k124_114 t124 (by decide) ?_
        first
          | (have hm : td_ma A e = 0 := by omega
             refine fin true ?_
             simp [td_dk, hc, hm]
             done)
          | (have hm : td_ma A e = 1 := by omega
             refine fin true ?_
             simp [td_dk, hc, hm]
             done)
          | (have hm : td_ma A e = 0 := by omega
             refine fin false ?_
             simp [td_dk, hc, hm]
             done)
          | (have hm : td_ma A e = 1 := by omega
             refine fin false ?_
             simp [td_dk, hc, hm]
             done)
          | (refine fin false ?_
             simp [td_dk, hc])
      · skip
        refine g_iload_n k124_79 rfl ?_
        refine g_iconst (v := nn 4) k124_80 ci_4 ?_
        refine g_icne_t k124_81 (t := 94) rfl (by decide) ?_
        refine g_iload_n k124_94 rfl ?_
        refine g_iconst (v := nn 5) k124_95 ci_5 ?_
        refine g_icne_f k124_96 (t := 113) rfl rfl ?_
        refine g_aload_n k124_99 rfl ?_
        refine m_get k124_100 f124_100 rfl rfl ?_
        refine g_iload_n k124_103 rfl ?_
        refine m_iald k124_104 hdy rfl rfl (by omega) (by omega) ?_
        rw [hrf]
        refine g_iconst (v := -1) k124_105 ci_m1 ?_
        refine g_iceq_t k124_106 (t := 113) rfl rfl ?_
        refine g_iconst (v := nn 0) k124_113 ci_0 ?_
        refine g_breturn k124_114 t124 (by decide) ?_
        first
          | (have hm : td_ma A e = 0 := by omega
             refine fin true ?_
             simp [td_dk, hc, hm]
             done)
          | (have hm : td_ma A e = 1 := by omega
             refine fin true ?_
             simp [td_dk, hc, hm]
             done)
          | (have hm : td_ma A e = 0 := by omega
             refine fin false ?_
             simp [td_dk, hc, hm]
             done)
          | (have hm : td_ma A e = 1 := by omega
             refine fin false ?_
             simp [td_dk, hc, hm]
             done)
          | (refine fin false ?_
             simp [td_dk, hc])
  | some u =>
    rw [hc, oi_some] at hrf
    have hu := hrl u hc
    rcases hkd with rfl | rfl | rfl | rfl | rfl
    · skip
      refine g_iload_n k124_0 rfl ?_
      refine g_ifltN (t := 10) k124_1 rfl (by omega) ?_
      refine g_iload_n k124_4 rfl ?_
      refine g_bipush (v := nn 6) k124_5 cb_6 ?_
      refine g_icle_t k124_7 (t := 12) rfl (by decide) ?_
      refine g_iload_n k124_12 rfl ?_
      refine g_ifeq_f k124_13 (t := 22) rfl (by decide) ?_
      refine g_iload_n k124_16 rfl ?_
      refine g_bipush (v := nn 6) k124_17 cb_6 ?_
      refine g_icne_t k124_19 (t := 32) rfl (by decide) ?_
      refine g_aload_n k124_32 rfl ?_
      refine g_iload_n k124_33 rfl ?_
      refine m_callV1 k124_34 s124_34 c124_34 l115 (by omega) rfl rfl r124_34 rfl ?_
      refine s_115 ok hR ?_
      refine af_ret ?_
      refine g_ifeq_t k124_37 (t := 42) rfl (bb_f (fun q => q hev)) ?_
      refine g_iload_n k124_42 rfl ?_
      refine g_iconst (v := nn 2) k124_43 ci_2 ?_
      refine g_icne_t k124_44 (t := 65) rfl (by decide) ?_
      refine g_iload_n k124_65 rfl ?_
      refine g_iconst (v := nn 2) k124_66 ci_2 ?_
      refine g_icle_t k124_67 (t := 113) rfl (by decide) ?_
      refine g_iconst (v := nn 0) k124_113 ci_0 ?_
      refine g_breturn k124_114 t124 (by decide) ?_
      first
        | (have hm : td_ma A e = 0 := by omega
           refine fin true ?_
           simp [td_dk, hc, hm]
           done)
        | (have hm : td_ma A e = 1 := by omega
           refine fin true ?_
           simp [td_dk, hc, hm]
           done)
        | (have hm : td_ma A e = 0 := by omega
           refine fin false ?_
           simp [td_dk, hc, hm]
           done)
        | (have hm : td_ma A e = 1 := by omega
           refine fin false ?_
           simp [td_dk, hc, hm]
           done)
        | (refine fin false ?_
           simp [td_dk, hc])
    · skip
      refine g_iload_n k124_0 rfl ?_
      refine g_ifltN (t := 10) k124_1 rfl (by omega) ?_
      refine g_iload_n k124_4 rfl ?_
      refine g_bipush (v := nn 6) k124_5 cb_6 ?_
      refine g_icle_t k124_7 (t := 12) rfl (by decide) ?_
      refine g_iload_n k124_12 rfl ?_
      refine g_ifeq_f k124_13 (t := 22) rfl (by decide) ?_
      refine g_iload_n k124_16 rfl ?_
      refine g_bipush (v := nn 6) k124_17 cb_6 ?_
      refine g_icne_t k124_19 (t := 32) rfl (by decide) ?_
      refine g_aload_n k124_32 rfl ?_
      refine g_iload_n k124_33 rfl ?_
      refine m_callV1 k124_34 s124_34 c124_34 l115 (by omega) rfl rfl r124_34 rfl ?_
      refine s_115 ok hR ?_
      refine af_ret ?_
      refine g_ifeq_t k124_37 (t := 42) rfl (bb_f (fun q => q hev)) ?_
      refine g_iload_n k124_42 rfl ?_
      refine g_iconst (v := nn 2) k124_43 ci_2 ?_
      refine g_icne_f k124_44 (t := 65) rfl rfl ?_
      refine g_aload_n k124_47 rfl ?_
      refine m_get k124_48 f124_48 rfl rfl ?_
      refine g_iload_n k124_51 rfl ?_
      refine m_iald k124_52 hdy rfl rfl (by omega) (by omega) ?_
      rw [hma]
      refine g_iconst (v := nn 1) k124_53 ci_1 ?_
      refine g_icneN k124_54 (t := 61) rfl ⟨by omega, by omega⟩ (fun h54 => ?_) (fun h54 => ?_)
      · skip
        refine g_iconst (v := nn 0) k124_61 ci_0 ?_
        refine g_goto k124_62 (t := 114) rfl ?_
        refine g_breturn k124_114 t124 (by decide) ?_
        first
          | (have hm : td_ma A e = 0 := by omega
             refine fin true ?_
             simp [td_dk, hc, hm]
             done)
          | (have hm : td_ma A e = 1 := by omega
             refine fin true ?_
             simp [td_dk, hc, hm]
             done)
          | (have hm : td_ma A e = 0 := by omega
             refine fin false ?_
             simp [td_dk, hc, hm]
             done)
          | (have hm : td_ma A e = 1 := by omega
             refine fin false ?_
             simp [td_dk, hc, hm]
             done)
          | (refine fin false ?_
             simp [td_dk, hc])
      · skip
        refine g_iconst (v := nn 1) k124_57 ci_1 ?_
        refine g_goto k124_58 (t := 114) rfl ?_
        refine g_breturn k124_114 t124 (by decide) ?_
        first
          | (have hm : td_ma A e = 0 := by omega
             refine fin true ?_
             simp [td_dk, hc, hm]
             done)
          | (have hm : td_ma A e = 1 := by omega
             refine fin true ?_
             simp [td_dk, hc, hm]
             done)
          | (have hm : td_ma A e = 0 := by omega
             refine fin false ?_
             simp [td_dk, hc, hm]
             done)
          | (have hm : td_ma A e = 1 := by omega
             refine fin false ?_
             simp [td_dk, hc, hm]
             done)
          | (refine fin false ?_
             simp [td_dk, hc])
    · skip
      refine g_iload_n k124_0 rfl ?_
      refine g_ifltN (t := 10) k124_1 rfl (by omega) ?_
      refine g_iload_n k124_4 rfl ?_
      refine g_bipush (v := nn 6) k124_5 cb_6 ?_
      refine g_icle_t k124_7 (t := 12) rfl (by decide) ?_
      refine g_iload_n k124_12 rfl ?_
      refine g_ifeq_f k124_13 (t := 22) rfl (by decide) ?_
      refine g_iload_n k124_16 rfl ?_
      refine g_bipush (v := nn 6) k124_17 cb_6 ?_
      refine g_icne_t k124_19 (t := 32) rfl (by decide) ?_
      refine g_aload_n k124_32 rfl ?_
      refine g_iload_n k124_33 rfl ?_
      refine m_callV1 k124_34 s124_34 c124_34 l115 (by omega) rfl rfl r124_34 rfl ?_
      refine s_115 ok hR ?_
      refine af_ret ?_
      refine g_ifeq_t k124_37 (t := 42) rfl (bb_f (fun q => q hev)) ?_
      refine g_iload_n k124_42 rfl ?_
      refine g_iconst (v := nn 2) k124_43 ci_2 ?_
      refine g_icne_t k124_44 (t := 65) rfl (by decide) ?_
      refine g_iload_n k124_65 rfl ?_
      refine g_iconst (v := nn 2) k124_66 ci_2 ?_
      refine g_icle_f k124_67 (t := 113) rfl (by decide) ?_
      refine g_aload_n k124_70 rfl ?_
      refine m_get k124_71 f124_71 rfl rfl ?_
      refine g_iload_n k124_74 rfl ?_
      refine m_iald k124_75 hdy rfl rfl (by omega) (by omega) ?_
      rw [hma]
      refine g_ifeqN k124_76 (t := 109) rfl (by omega) (fun h76 => ?_) (fun h76 => ?_)
      · skip
        refine g_iconst (v := nn 1) k124_109 ci_1 ?_
        refine g_goto k124_110 (t := 114) rfl ?_
        refine g_breturn k124_114 t124 (by decide) ?_
        first
          | (have hm : td_ma A e = 0 := by omega
             refine fin true ?_
             simp [td_dk, hc, hm]
             done)
          | (have hm : td_ma A e = 1 := by omega
             refine fin true ?_
             simp [td_dk, hc, hm]
             done)
          | (have hm : td_ma A e = 0 := by omega
             refine fin false ?_
             simp [td_dk, hc, hm]
             done)
          | (have hm : td_ma A e = 1 := by omega
             refine fin false ?_
             simp [td_dk, hc, hm]
             done)
          | (refine fin false ?_
             simp [td_dk, hc])
      · skip
        refine g_iload_n k124_79 rfl ?_
        refine g_iconst (v := nn 4) k124_80 ci_4 ?_
        refine g_icne_t k124_81 (t := 94) rfl (by decide) ?_
        refine g_iload_n k124_94 rfl ?_
        refine g_iconst (v := nn 5) k124_95 ci_5 ?_
        refine g_icne_t k124_96 (t := 113) rfl (by decide) ?_
        refine g_iconst (v := nn 0) k124_113 ci_0 ?_
        refine g_breturn k124_114 t124 (by decide) ?_
        first
          | (have hm : td_ma A e = 0 := by omega
             refine fin true ?_
             simp [td_dk, hc, hm]
             done)
          | (have hm : td_ma A e = 1 := by omega
             refine fin true ?_
             simp [td_dk, hc, hm]
             done)
          | (have hm : td_ma A e = 0 := by omega
             refine fin false ?_
             simp [td_dk, hc, hm]
             done)
          | (have hm : td_ma A e = 1 := by omega
             refine fin false ?_
             simp [td_dk, hc, hm]
             done)
          | (refine fin false ?_
             simp [td_dk, hc])
    · skip
      refine g_iload_n k124_0 rfl ?_
      refine g_ifltN (t := 10) k124_1 rfl (by omega) ?_
      refine g_iload_n k124_4 rfl ?_
      refine g_bipush (v := nn 6) k124_5 cb_6 ?_
      refine g_icle_t k124_7 (t := 12) rfl (by decide) ?_
      refine g_iload_n k124_12 rfl ?_
      refine g_ifeq_f k124_13 (t := 22) rfl (by decide) ?_
      refine g_iload_n k124_16 rfl ?_
      refine g_bipush (v := nn 6) k124_17 cb_6 ?_
      refine g_icne_t k124_19 (t := 32) rfl (by decide) ?_
      refine g_aload_n k124_32 rfl ?_
      refine g_iload_n k124_33 rfl ?_
      refine m_callV1 k124_34 s124_34 c124_34 l115 (by omega) rfl rfl r124_34 rfl ?_
      refine s_115 ok hR ?_
      refine af_ret ?_
      refine g_ifeq_t k124_37 (t := 42) rfl (bb_f (fun q => q hev)) ?_
      refine g_iload_n k124_42 rfl ?_
      refine g_iconst (v := nn 2) k124_43 ci_2 ?_
      refine g_icne_t k124_44 (t := 65) rfl (by decide) ?_
      refine g_iload_n k124_65 rfl ?_
      refine g_iconst (v := nn 2) k124_66 ci_2 ?_
      refine g_icle_f k124_67 (t := 113) rfl (by decide) ?_
      refine g_aload_n k124_70 rfl ?_
      refine m_get k124_71 f124_71 rfl rfl ?_
      refine g_iload_n k124_74 rfl ?_
      refine m_iald k124_75 hdy rfl rfl (by omega) (by omega) ?_
      rw [hma]
      refine g_ifeqN k124_76 (t := 109) rfl (by omega) (fun h76 => ?_) (fun h76 => ?_)
      · skip
        refine g_iconst (v := nn 1) k124_109 ci_1 ?_
        refine g_goto k124_110 (t := 114) rfl ?_
        refine g_breturn k124_114 t124 (by decide) ?_
        first
          | (have hm : td_ma A e = 0 := by omega
             refine fin true ?_
             simp [td_dk, hc, hm]
             done)
          | (have hm : td_ma A e = 1 := by omega
             refine fin true ?_
             simp [td_dk, hc, hm]
             done)
          | (have hm : td_ma A e = 0 := by omega
             refine fin false ?_
             simp [td_dk, hc, hm]
             done)
          | (have hm : td_ma A e = 1 := by omega
             refine fin false ?_
             simp [td_dk, hc, hm]
             done)
          | (refine fin false ?_
             simp [td_dk, hc])
      · skip
        refine g_iload_n k124_79 rfl ?_
        refine g_iconst (v := nn 4) k124_80 ci_4 ?_
        refine g_icne_f k124_81 (t := 94) rfl rfl ?_
        refine g_aload_n k124_84 rfl ?_
        refine m_get k124_85 f124_85 rfl rfl ?_
        refine g_iload_n k124_88 rfl ?_
        refine m_iald k124_89 hdy rfl rfl (by omega) (by omega) ?_
        rw [hrf]
        refine g_iconst (v := -1) k124_90 ci_m1 ?_
        refine g_iceq_f k124_91 (t := 109) rfl (fun q => ti_nn_m1 (k := u) (by omega) (congrArg Int32.toInt q)) ?_
        refine g_iload_n k124_94 rfl ?_
        refine g_iconst (v := nn 5) k124_95 ci_5 ?_
        refine g_icne_t k124_96 (t := 113) rfl (by decide) ?_
        refine g_iconst (v := nn 0) k124_113 ci_0 ?_
        refine g_breturn k124_114 t124 (by decide) ?_
        first
          | (have hm : td_ma A e = 0 := by omega
             refine fin true ?_
             simp [td_dk, hc, hm]
             done)
          | (have hm : td_ma A e = 1 := by omega
             refine fin true ?_
             simp [td_dk, hc, hm]
             done)
          | (have hm : td_ma A e = 0 := by omega
             refine fin false ?_
             simp [td_dk, hc, hm]
             done)
          | (have hm : td_ma A e = 1 := by omega
             refine fin false ?_
             simp [td_dk, hc, hm]
             done)
          | (refine fin false ?_
             simp [td_dk, hc])
    · skip
      refine g_iload_n k124_0 rfl ?_
      refine g_ifltN (t := 10) k124_1 rfl (by omega) ?_
      refine g_iload_n k124_4 rfl ?_
      refine g_bipush (v := nn 6) k124_5 cb_6 ?_
      refine g_icle_t k124_7 (t := 12) rfl (by decide) ?_
      refine g_iload_n k124_12 rfl ?_
      refine g_ifeq_f k124_13 (t := 22) rfl (by decide) ?_
      refine g_iload_n k124_16 rfl ?_
      refine g_bipush (v := nn 6) k124_17 cb_6 ?_
      refine g_icne_t k124_19 (t := 32) rfl (by decide) ?_
      refine g_aload_n k124_32 rfl ?_
      refine g_iload_n k124_33 rfl ?_
      refine m_callV1 k124_34 s124_34 c124_34 l115 (by omega) rfl rfl r124_34 rfl ?_
      refine s_115 ok hR ?_
      refine af_ret ?_
      refine g_ifeq_t k124_37 (t := 42) rfl (bb_f (fun q => q hev)) ?_
      refine g_iload_n k124_42 rfl ?_
      refine g_iconst (v := nn 2) k124_43 ci_2 ?_
      refine g_icne_t k124_44 (t := 65) rfl (by decide) ?_
      refine g_iload_n k124_65 rfl ?_
      refine g_iconst (v := nn 2) k124_66 ci_2 ?_
      refine g_icle_f k124_67 (t := 113) rfl (by decide) ?_
      refine g_aload_n k124_70 rfl ?_
      refine m_get k124_71 f124_71 rfl rfl ?_
      refine g_iload_n k124_74 rfl ?_
      refine m_iald k124_75 hdy rfl rfl (by omega) (by omega) ?_
      rw [hma]
      refine g_ifeqN k124_76 (t := 109) rfl (by omega) (fun h76 => ?_) (fun h76 => ?_)
      · skip
        refine g_iconst (v := nn 1) k124_109 ci_1 ?_
        refine g_goto k124_110 (t := 114) rfl ?_
        refine g_breturn k124_114 t124 (by decide) ?_
        first
          | (have hm : td_ma A e = 0 := by omega
             refine fin true ?_
             simp [td_dk, hc, hm]
             done)
          | (have hm : td_ma A e = 1 := by omega
             refine fin true ?_
             simp [td_dk, hc, hm]
             done)
          | (have hm : td_ma A e = 0 := by omega
             refine fin false ?_
             simp [td_dk, hc, hm]
             done)
          | (have hm : td_ma A e = 1 := by omega
             refine fin false ?_
             simp [td_dk, hc, hm]
             done)
          | (refine fin false ?_
             simp [td_dk, hc])
      · skip
        refine g_iload_n k124_79 rfl ?_
        refine g_iconst (v := nn 4) k124_80 ci_4 ?_
        refine g_icne_t k124_81 (t := 94) rfl (by decide) ?_
        refine g_iload_n k124_94 rfl ?_
        refine g_iconst (v := nn 5) k124_95 ci_5 ?_
        refine g_icne_f k124_96 (t := 113) rfl rfl ?_
        refine g_aload_n k124_99 rfl ?_
        refine m_get k124_100 f124_100 rfl rfl ?_
        refine g_iload_n k124_103 rfl ?_
        refine m_iald k124_104 hdy rfl rfl (by omega) (by omega) ?_
        rw [hrf]
        refine g_iconst (v := -1) k124_105 ci_m1 ?_
        refine g_iceq_f k124_106 (t := 113) rfl (fun q => ti_nn_m1 (k := u) (by omega) (congrArg Int32.toInt q)) ?_
        refine g_iconst (v := nn 1) k124_109 ci_1 ?_
        refine g_goto k124_110 (t := 114) rfl ?_
        refine g_breturn k124_114 t124 (by decide) ?_
        first
          | (have hm : td_ma A e = 0 := by omega
             refine fin true ?_
             simp [td_dk, hc, hm]
             done)
          | (have hm : td_ma A e = 1 := by omega
             refine fin true ?_
             simp [td_dk, hc, hm]
             done)
          | (have hm : td_ma A e = 0 := by omega
             refine fin false ?_
             simp [td_dk, hc, hm]
             done)
          | (have hm : td_ma A e = 1 := by omega
             refine fin false ?_
             simp [td_dk, hc, hm]
             done)
          | (refine fin false ?_
             simp [td_dk, hc])
theorem s_124x (hdy : dy.length < 100000) (ok : TOK A) (hR : RepM A σ) (hx : x.toInt < 0 ∨ 6 < x.toInt) (kk : Q (.inl (some (.int (nn 1)))) (mk dy σ ρ τ)) : go (tb_P L xs) 124 0 [some (.ref 24), some (.int x), some (.int z)] [] (mk dy σ ρ τ) Q := by
  refine g_iload_n k124_0 rfl ?_
  refine g_iflt k124_1 (t := 10) rfl (fun h1 => ?_) (fun h1 => ?_)
  · skip
    refine g_iconst (v := nn 1) k124_10 ci_1 ?_
    refine g_breturn k124_11 t124 (by decide) ?_
    exact kk
  · skip
    refine g_iload_n k124_4 rfl ?_
    refine g_bipush (v := nn 6) k124_5 cb_6 ?_
    refine g_icle k124_7 (t := 12) rfl (fun h7 => ?_) (fun h7 => ?_)
    · skip
      exfalso
      rw [ti_6] at h7
      omega
    · skip
      refine g_iconst (v := nn 1) k124_10 ci_1 ?_
      refine g_breturn k124_11 t124 (by decide) ?_
      exact kk
theorem s_124_0 (hdy : dy.length < 100000) (kk : Q (.inl (some (.int (bb (z.toInt ≠ 0))))) (mk dy σ ρ τ)) : go (tb_P L xs) 124 0 [some (.ref 24), some (.int (nn 0)), some (.int z)] [] (mk dy σ ρ τ) Q := by
  refine g_iload_n k124_0 rfl ?_
  refine g_ifltN (t := 10) k124_1 rfl (by omega) ?_
  refine g_iload_n k124_4 rfl ?_
  refine g_bipush (v := nn 6) k124_5 cb_6 ?_
  refine g_icle_t k124_7 (t := 12) rfl (by decide) ?_
  refine g_iload_n k124_12 rfl ?_
  refine g_ifeq_t k124_13 (t := 22) rfl rfl ?_
  refine g_iload_n k124_22 rfl ?_
  refine g_ifeqT k124_23 (t := 30) rfl (fun h23 => ?_) (fun h23 => ?_)
  · skip
    refine g_iconst (v := nn 0) k124_30 ci_0 ?_
    refine g_breturn k124_31 t124 (by decide) ?_
    first | (rw [bb_t h23] at kk; exact kk) | (rw [bb_f (fun q => q h23)] at kk; exact kk)
  · skip
    refine g_iconst (v := nn 1) k124_26 ci_1 ?_
    refine g_goto k124_27 (t := 31) rfl ?_
    refine g_breturn k124_31 t124 (by decide) ?_
    first | (rw [bb_t h23] at kk; exact kk) | (rw [bb_f (fun q => q h23)] at kk; exact kk)
theorem s_124_6 (hdy : dy.length < 100000) (kk : Q (.inl (some (.int (bb (z.toInt ≠ 0))))) (mk dy σ ρ τ)) : go (tb_P L xs) 124 0 [some (.ref 24), some (.int (nn 6)), some (.int z)] [] (mk dy σ ρ τ) Q := by
  refine g_iload_n k124_0 rfl ?_
  refine g_ifltN (t := 10) k124_1 rfl (by omega) ?_
  refine g_iload_n k124_4 rfl ?_
  refine g_bipush (v := nn 6) k124_5 cb_6 ?_
  refine g_icle_t k124_7 (t := 12) rfl (by decide) ?_
  refine g_iload_n k124_12 rfl ?_
  refine g_ifeq_f k124_13 (t := 22) rfl (by decide) ?_
  refine g_iload_n k124_16 rfl ?_
  refine g_bipush (v := nn 6) k124_17 cb_6 ?_
  refine g_icne_f k124_19 (t := 32) rfl rfl ?_
  refine g_iload_n k124_22 rfl ?_
  refine g_ifeqT k124_23 (t := 30) rfl (fun h23 => ?_) (fun h23 => ?_)
  · skip
    refine g_iconst (v := nn 0) k124_30 ci_0 ?_
    refine g_breturn k124_31 t124 (by decide) ?_
    first | (rw [bb_t h23] at kk; exact kk) | (rw [bb_f (fun q => q h23)] at kk; exact kk)
  · skip
    refine g_iconst (v := nn 1) k124_26 ci_1 ?_
    refine g_goto k124_27 (t := 31) rfl ?_
    refine g_breturn k124_31 t124 (by decide) ?_
    first | (rw [bb_t h23] at kk; exact kk) | (rw [bb_f (fun q => q h23)] at kk; exact kk)
theorem s_124n {kd : Nat} (hdy : dy.length < 100000) (ok : TOK A) (hR : RepM A σ) (hk : 1 ≤ kd ∧ kd ≤ 5) (hz : ¬ (0 ≤ z.toInt ∧ z.toInt < td_ne A)) (kk : Q (.inl (some (.int (nn 1)))) (mk dy σ ρ τ)) : go (tb_P L xs) 124 0 [some (.ref 24), some (.int (nn kd)), some (.int z)] [] (mk dy σ ρ τ) Q := by
  refine g_iload_n k124_0 rfl ?_
  refine g_ifltN (t := 10) k124_1 rfl (by omega) ?_
  refine g_iload_n k124_4 rfl ?_
  refine g_bipush (v := nn 6) k124_5 cb_6 ?_
  refine g_icle_t k124_7 (t := 12) rfl (by rw [nn_toInt (by omega), nn_toInt (by omega)]; omega) ?_
  refine g_iload_n k124_12 rfl ?_
  refine g_ifeq_f k124_13 (t := 22) rfl (by intro q; have q2 := (nn_inj (a := kd) (b := 0) (by omega) (by omega)).mp q; omega) ?_
  refine g_iload_n k124_16 rfl ?_
  refine g_bipush (v := nn 6) k124_17 cb_6 ?_
  refine g_icne_t k124_19 (t := 32) rfl (by intro q; have q2 := (nn_inj (a := kd) (b := 6) (by omega) (by omega)).mp q; omega) ?_
  refine g_aload_n k124_32 rfl ?_
  refine g_iload_n k124_33 rfl ?_
  refine m_callV1 k124_34 s124_34 c124_34 l115 (by omega) rfl rfl r124_34 rfl ?_
  refine s_115 ok hR ?_
  refine af_ret ?_
  refine g_ifeq_f k124_37 (t := 42) rfl (by rw [bb_t hz]; decide) ?_
  refine g_iconst (v := nn 1) k124_40 ci_1 ?_
  refine g_breturn k124_41 t124 (by decide) ?_
  exact kk
end LK
