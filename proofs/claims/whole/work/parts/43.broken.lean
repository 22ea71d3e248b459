/-! The reference: what was broken. -/
section LM
variable {L : Nat} {xs : Nat → Int32} {Q : am_A → am_H → Prop} {dy : List (Nat × Nat)} {σ : Nat → Nat → Int32} {ρ : Nat → Nat → Option Nat} {τ : Nat → Nat → Int64} {A : TD} {x : Int32} {k : Nat}
theorem s_140x (hdy : dy.length < 100000) (hx : x.toInt < 0 ∨ 6 < x.toInt) (kk : Q (.inl (some (.int (nn 0)))) (mk dy (up2 σ 24 0 (nn 1)) ρ τ)) : go (tb_P L xs) 140 0 [some (.ref 24), some (.int x)] [] (mk dy σ ρ τ) Q := by
  refine g_aload_n k140_0 rfl ?_
  refine g_iload_n k140_1 rfl ?_
  refine g_iflt k140_2 (t := 11) rfl (fun h2 => ?_) (fun h2 => ?_)
  · skip
    refine g_iconst (v := nn 1) k140_11 ci_1 ?_
    refine g_goto k140_12 (t := 16) rfl ?_
    refine m_putI k140_16 f140_16 rfl rfl rfl ?_
    refine g_aload_n k140_19 rfl ?_
    refine m_get k140_20 f140_20 rfl rfl ?_
    rw [show up2 σ 24 0 (nn 1) 24 0 = nn 1 from rfl]
    refine g_ifeq_f k140_23 (t := 30) rfl (by decide) ?_
    refine g_iconst (v := nn 0) k140_26 ci_0 ?_
    refine g_goto k140_27 (t := 47) rfl ?_
    refine g_ireturn k140_47 t140 ?_
    exact kk
  · skip
    refine g_iload_n k140_5 rfl ?_
    refine g_bipush (v := nn 6) k140_6 cb_6 ?_
    refine g_icle k140_8 (t := 15) rfl (fun h8 => ?_) (fun h8 => ?_)
    · skip
      exfalso
      rw [ti_6] at h8
      omega
    · skip
      refine g_iconst (v := nn 1) k140_11 ci_1 ?_
      refine g_goto k140_12 (t := 16) rfl ?_
      refine m_putI k140_16 f140_16 rfl rfl rfl ?_
      refine g_aload_n k140_19 rfl ?_
      refine m_get k140_20 f140_20 rfl rfl ?_
      rw [show up2 σ 24 0 (nn 1) 24 0 = nn 1 from rfl]
      refine g_ifeq_f k140_23 (t := 30) rfl (by decide) ?_
      refine g_iconst (v := nn 0) k140_26 ci_0 ?_
      refine g_goto k140_27 (t := 47) rfl ?_
      refine g_ireturn k140_47 t140 ?_
      exact kk
theorem s_140 {sw : Bool} (hdy : dy.length < 100000) (hk : k ≤ 6) (hs : σ 24 27 = bb (sw = true)) (kk : Q (.inl (some (.int (if sw = true then σ 44 k else -1)))) (mk dy (up2 σ 24 0 (nn 0)) ρ τ)) : go (tb_P L xs) 140 0 [some (.ref 24), some (.int (nn k))] [] (mk dy σ ρ τ) Q := by
  refine g_aload_n k140_0 rfl ?_
  refine g_iload_n k140_1 rfl ?_
  refine g_ifltN (t := 11) k140_2 rfl (by omega) ?_
  refine g_iload_n k140_5 rfl ?_
  refine g_bipush (v := nn 6) k140_6 cb_6 ?_
  refine g_icle_t k140_8 (t := 15) rfl (by rw [nn_toInt (by omega), nn_toInt (by omega)]; omega) ?_
  refine g_iconst (v := nn 0) k140_15 ci_0 ?_
  refine m_putI k140_16 f140_16 rfl rfl rfl ?_
  refine g_aload_n k140_19 rfl ?_
  refine m_get k140_20 f140_20 rfl rfl ?_
  refine g_ifeq_t k140_23 (t := 30) rfl rfl ?_
  refine g_aload_n k140_30 rfl ?_
  refine m_get k140_31 f140_31 rfl rfl ?_
  rw [show up2 σ 24 0 (nn 0) 24 27 = bb (sw = true) from hs]
  refine g_ifeqB k140_34 (t := 46) rfl (fun h34 => ?_) (fun h34 => ?_)
  · skip
    refine g_iconst (v := -1) k140_46 ci_m1 ?_
    refine g_ireturn k140_47 t140 ?_
    first | (rw [if_pos h34] at kk; exact kk) | (rw [if_neg h34] at kk; exact kk)
  · skip
    refine g_aload_n k140_37 rfl ?_
    refine m_get k140_38 f140_38 rfl rfl ?_
    refine g_iload_n k140_41 rfl ?_
    refine m_iald k140_42 hdy rfl rfl (by omega) (by omega) ?_
    refine g_goto k140_43 (t := 47) rfl ?_
    refine g_ireturn k140_47 t140 ?_
    first | (rw [if_pos h34] at kk; exact kk) | (rw [if_neg h34] at kk; exact kk)
end LM
