/-! The class: whether a duty is kept in a row. -/
section YD
variable {L : Nat} {xs : Nat → Int32} {Q : am_A → am_H → Prop} {dy dy' : List (Nat × Nat)} {σ σ' : Nat → Nat → Int32} {ρ ρ' : Nat → Nat → Option Nat} {τ τ' : Nat → Nat → Int64} {A : TD} {W : RS} {F E : Nat → Nat} {f e u r ad m kd : Nat} {rw : Nat → Int32} {s : Nat → Nat}
theorem rX.ir (ok : TOK A) (h : rX σ r s) (hb : ∀ v, v < 6 → s v < td_sz A v) : td_ir A (σ r) := fun v hv => by
  have h4 := ok.2.2.2.2.2.2.2 v hv
  have h2 := hb v hv
  unfold td_wn
  rw [(h.1 v hv).1, nn_toInt (by omega)]
  exact decide_eq_true (by omega)
theorem sy_3 (ok : TOK A) (he : e < td_ne A) (hi : td_ir A rw) : (List.range' (3 * td_ma A e) 3).all (td_wn A (td_ld A e rw)) = td_sy A e rw := by
  have hm := (ok.2.2.2.1 e he).1
  rw [Bool.eq_iff_iff]
  unfold td_sy
  rw [List.all_eq_true, List.all_eq_true]
  constructor
  · intro h v hv
    obtain ⟨i, hi6, hvi⟩ := List.mem_range'.mp hv
    have hv6 : v < 6 := by omega
    by_cases c : 3 * td_ma A e ≤ v ∧ v < 3 * td_ma A e + 3
    · rw [← s1_of (hi v hv6)]
      exact h v (List.mem_range'.mpr ⟨v - 3 * td_ma A e, by omega, by omega⟩)
    · unfold td_s1
      rw [as_ma ok he hv6 c]
  · intro h v hv
    obtain ⟨i, hi6, hvi⟩ := List.mem_range'.mp hv
    have hv6 : v < 6 := by omega
    rw [s1_of (hi v hv6)]
    exact h v (List.mem_range'.mpr ⟨v, by omega, by omega⟩)
/-- the digits of where it leads -/
def dg (A : TD) (e : Nat) (rw : Nat → Int32) (v : Nat) : Nat := (td_bo A e rw v).toInt.toNat
theorem dg_ok (ok : TOK A) (h : td_bs A e rw = true) : ∀ v, v < 6 → td_bo A e rw v = nn (dg A e rw v) ∧ dg A e rw v < td_sz A v ∧ dg A e rw v < 4 := by
  intro v hv
  unfold td_bs at h
  rw [List.all_eq_true] at h
  have h2 := h v (List.mem_range'.mpr ⟨v, hv, by omega⟩)
  unfold td_wn at h2
  have h3 := of_decide_eq_true h2
  have h4 := ok.2.2.2.2.2.2.2 v hv
  unfold dg
  exact ⟨(nn_of h3.1).1, by omega, by omega⟩
theorem s_24 (hdy : dy.length < 100000) (ok : TOK A) (hX : RepX A F E dy σ ρ) (hC : CX A τ) (he : e < td_ne A) (hk : td_hk A kd e) (hrow : rX σ 19 s) (hb : ∀ v, v < 6 → s v < td_sz A v) (kk : ∀ σ' τ', fL dy σ σ' → tE τ τ' → CX A τ' → Q (.inl (some (.int (bb (td_k0 A kd e (σ 19) = true))))) (mk dy σ' ρ τ')) : go (tb_P L xs) 24 0 [some (.ref 18), some (.int (nn kd)), some (.ref (E e)), none] [] (mk dy σ ρ τ) Q := by
  have hir := hrow.ir ok hb
  have fin : ∀ σ' τ' (b : Bool), fL dy σ σ' → tE τ τ' → CX A τ' → td_k0 A kd e (σ 19) = b → Q (.inl (some (.int (bb (b = true))))) (mk dy σ' ρ τ') := fun σ' τ' b h1 h2 h3 h4 => by
    rw [← h4]
    exact kk σ' τ' h1 h2 h3
  obtain ⟨⟨h47, hA8, hA3⟩, hma, _⟩ := (hX.2.1.2.1 e he).2
  have hm1 := (ok.2.2.2.1 e he).1
  have hrf := (ok.2.2.2.1 e he).2.2.1
  have aft : ∀ σ1, fL dy σ σ1 → td_bs A e (σ 19) = true → (∀ v, v < 6 → σ1 16 v = td_bo A e (σ 19) v) → σ1 16 6 = σ 19 6 → rX σ1 16 (dg A e (σ 19)) := fun σ1 hs h1 h2 h3 => by
    refine ⟨fun v hv => ?_, by rw [h3]; exact hrow.2⟩
    have := dg_ok ok h1 v hv
    rw [h2 v hv]
    exact ⟨this.1, this.2.2⟩
  rcases hk with rfl | ⟨rfl, hm0⟩ | ⟨hm0, rfl | rfl | ⟨rfl, hrn⟩⟩
  · refine g_iload_n k24_0 rfl ?_
    refine g_switch k24_1 ⟨by rw [ti_1]; decide, by rw [ti_1]; decide⟩ (off := 35) (t := 36) (by rw [ti_1]; rfl) rfl ?_
    refine g_aload_n k24_36 rfl ?_
    refine m_get k24_37 f24_37 rfl rfl ?_
    refine g_aload_n k24_40 rfl ?_
    refine g_aload_n k24_41 rfl ?_
    refine m_get k24_42 f24_42 rfl rfl ?_
    refine m_callV2 k24_45 s24_45 c24_45 l25 (by omega) ⟨rfl, rfl⟩ rfl r24_45 rfl ?_
    refine s_25 hdy ok hX he (by omega) (by omega) rfl hrow.nf (fun σ1 hs _ hsy => ?_) (fun σ1 hs hsy => ?_)
    · refine af_ret ?_
      refine g_breturn k24_48 t24 (by decide) ?_
      refine fin σ1 τ true hs.fL (tE.rf τ) hC ?_
      unfold td_k0
      rw [if_pos rfl, sy_3 ok he hir]
      exact hsy
    · refine af_ret ?_
      refine g_breturn k24_48 t24 (by decide) ?_
      refine fin σ1 τ false hs.fL (tE.rf τ) hC ?_
      unfold td_k0
      rw [if_pos rfl, sy_3 ok he hir]
      exact hsy
  · have hrn : td_rf A e = none := by
      cases hg : td_rf A e with
      | none => rfl
      | some u => have := (hrf u hg).2.1; omega
    refine g_iload_n k24_0 rfl ?_
    refine g_switch k24_1 ⟨by rw [ti_2]; decide, by rw [ti_2]; decide⟩ (off := 116) (t := 117) (by rw [ti_2]; rfl) rfl ?_
    refine g_aload_n k24_117 rfl ?_
    refine m_get k24_118 f24_118 rfl rfl ?_
    refine g_aload_n k24_121 rfl ?_
    refine g_aload_n k24_122 rfl ?_
    refine m_get k24_123 f24_123 rfl rfl ?_
    refine m_callV2 k24_126 s24_126 c24_126 l30 (by omega) ⟨rfl, rfl⟩ rfl r24_126 rfl ?_
    refine s_30 hdy ok hX he (by omega) (by omega) (by omega) rfl hrow.nf hir (fun σ1 hs hbs hbo hb6 => ?_) (fun σ1 hs hbs => ?_)
    · refine af_ret ?_
      have e0 : (List.range' 0 3).all (td_wn A (td_ld A e (σ 19))) = td_bs A e (σ 19) := by
        rw [bs_0 ok he hir hrn, ← sy_3 ok he hir, hm0]
      have k0 : td_k0 A 2 e (σ 19) = (!td_bs A e (σ 19) || td_ho A 0 (td_ld A e (σ 19))) := by
        rw [← e0]
        rfl
      have eh : td_rt A (decide (td_ma A e = 0)) (dg A e (σ 19)) = td_ho A 0 (td_ld A e (σ 19)) := by
        unfold td_rt
        rw [if_pos (decide_eq_true hm0)]
        refine ho_congr ok (by omega) (fun v hv => ?_)
        have hv3 : v < 3 := hv
        rw [← bo_0 ok he (by omega) hrn, (dg_ok ok hbs v (by omega)).1]
        unfold rd
        rw [if_neg (by omega)]
      refine g_ifeq_f k24_129 (t := 156) rfl (by decide) ?_
      refine g_aload_n k24_132 rfl ?_
      refine m_get k24_133 f24_133 rfl rfl ?_
      refine m_get k24_136 f24_136 rfl rfl ?_
      refine g_aload_n k24_139 rfl ?_
      refine m_get k24_140 f24_140 (by assumption) rfl ?_
      rw [hs.ag.2 _ _ _ h47 hA8 (by decide), hma]
      refine g_aload_n k24_143 rfl ?_
      refine m_get k24_144 f24_144 rfl rfl ?_
      refine m_get k24_147 f24_147 rfl rfl ?_
      refine m_callV2 k24_150 s24_150 c24_150 l9 (by omega) ⟨rfl, rfl⟩ rfl r24_150 rfl ?_
      refine s_9 hdy ok (hX.agr ok hs.ag) hC (by omega) (by omega) rfl (aft σ1 hs hbs hbo hb6) (fun σ2 τ2 hs2 ht2 hC2 => ?_)
      refine af_ret ?_
      rw [eh]
      refine g_ifeqB k24_153 (t := 160) rfl (fun h153 => ?_) (fun h153 => ?_)
      · skip
        refine g_iconst (v := nn 0) k24_160 ci_0 ?_
        refine g_breturn k24_161 t24 (by decide) ?_
        first
          | exact fin σ2 τ2 true (hs.tr hs2.fL) ht2 hC2 (by rw [k0, hbs, h153]; rfl)
          | exact fin σ2 τ2 false (hs.tr hs2.fL) ht2 hC2 (by rw [k0, hbs, show td_ho A 0 (td_ld A e (σ 19)) = false by simpa using h153]; rfl)
      · skip
        refine g_iconst (v := nn 1) k24_156 ci_1 ?_
        refine g_goto k24_157 (t := 161) rfl ?_
        refine g_breturn k24_161 t24 (by decide) ?_
        first
          | exact fin σ2 τ2 true (hs.tr hs2.fL) ht2 hC2 (by rw [k0, hbs, h153]; rfl)
          | exact fin σ2 τ2 false (hs.tr hs2.fL) ht2 hC2 (by rw [k0, hbs, show td_ho A 0 (td_ld A e (σ 19)) = false by simpa using h153]; rfl)
    · refine af_ret ?_
      have e0 : (List.range' 0 3).all (td_wn A (td_ld A e (σ 19))) = td_bs A e (σ 19) := by
        rw [bs_0 ok he hir hrn, ← sy_3 ok he hir, hm0]
      have k0 : td_k0 A 2 e (σ 19) = (!td_bs A e (σ 19) || td_ho A 0 (td_ld A e (σ 19))) := by
        rw [← e0]
        rfl
      refine g_ifeq_t k24_129 (t := 156) rfl rfl ?_
      refine g_iconst (v := nn 1) k24_156 ci_1 ?_
      refine g_goto k24_157 (t := 161) rfl ?_
      refine g_breturn k24_161 t24 (by decide) ?_
      exact fin σ1 τ true hs (tE.rf τ) hC (by rw [k0, hbs]; rfl)
  · refine g_iload_n k24_0 rfl ?_
    refine g_switch k24_1 ⟨by rw [ti_3]; decide, by rw [ti_3]; decide⟩ (off := 116) (t := 117) (by rw [ti_3]; rfl) rfl ?_
    refine g_aload_n k24_117 rfl ?_
    refine m_get k24_118 f24_118 rfl rfl ?_
    refine g_aload_n k24_121 rfl ?_
    refine g_aload_n k24_122 rfl ?_
    refine m_get k24_123 f24_123 rfl rfl ?_
    refine m_callV2 k24_126 s24_126 c24_126 l30 (by omega) ⟨rfl, rfl⟩ rfl r24_126 rfl ?_
    refine s_30 hdy ok hX he (by omega) (by omega) (by omega) rfl hrow.nf hir (fun σ1 hs hbs hbo hb6 => ?_) (fun σ1 hs hbs => ?_)
    · refine af_ret ?_
      have k0 : td_k0 A 3 e (σ 19) = (!td_bs A e (σ 19) || td_ri A (td_bo A e (σ 19))) := rfl
      have eh : td_rt A (decide (td_ma A e = 0)) (dg A e (σ 19)) = td_ri A (td_bo A e (σ 19)) := by
        unfold td_rt
        rw [if_neg (by rw [hm0]; decide)]
        refine ri_congr ok (fun v hv => ?_)
        rw [(dg_ok ok hbs v hv).1]
        unfold rd
        rw [if_neg (by omega)]
      refine g_ifeq_f k24_129 (t := 156) rfl (by decide) ?_
      refine g_aload_n k24_132 rfl ?_
      refine m_get k24_133 f24_133 rfl rfl ?_
      refine m_get k24_136 f24_136 rfl rfl ?_
      refine g_aload_n k24_139 rfl ?_
      refine m_get k24_140 f24_140 (by assumption) rfl ?_
      rw [hs.ag.2 _ _ _ h47 hA8 (by decide), hma]
      refine g_aload_n k24_143 rfl ?_
      refine m_get k24_144 f24_144 rfl rfl ?_
      refine m_get k24_147 f24_147 rfl rfl ?_
      refine m_callV2 k24_150 s24_150 c24_150 l9 (by omega) ⟨rfl, rfl⟩ rfl r24_150 rfl ?_
      refine s_9 hdy ok (hX.agr ok hs.ag) hC (by omega) (by omega) rfl (aft σ1 hs hbs hbo hb6) (fun σ2 τ2 hs2 ht2 hC2 => ?_)
      refine af_ret ?_
      rw [eh]
      refine g_ifeqB k24_153 (t := 160) rfl (fun h153 => ?_) (fun h153 => ?_)
      · skip
        refine g_iconst (v := nn 0) k24_160 ci_0 ?_
        refine g_breturn k24_161 t24 (by decide) ?_
        first
          | exact fin σ2 τ2 true (hs.tr hs2.fL) ht2 hC2 (by rw [k0, hbs, h153]; rfl)
          | exact fin σ2 τ2 false (hs.tr hs2.fL) ht2 hC2 (by rw [k0, hbs, show td_ri A (td_bo A e (σ 19)) = false by simpa using h153]; rfl)
      · skip
        refine g_iconst (v := nn 1) k24_156 ci_1 ?_
        refine g_goto k24_157 (t := 161) rfl ?_
        refine g_breturn k24_161 t24 (by decide) ?_
        first
          | exact fin σ2 τ2 true (hs.tr hs2.fL) ht2 hC2 (by rw [k0, hbs, h153]; rfl)
          | exact fin σ2 τ2 false (hs.tr hs2.fL) ht2 hC2 (by rw [k0, hbs, show td_ri A (td_bo A e (σ 19)) = false by simpa using h153]; rfl)
    · refine af_ret ?_
      have k0 : td_k0 A 3 e (σ 19) = (!td_bs A e (σ 19) || td_ri A (td_bo A e (σ 19))) := rfl
      refine g_ifeq_t k24_129 (t := 156) rfl rfl ?_
      refine g_iconst (v := nn 1) k24_156 ci_1 ?_
      refine g_goto k24_157 (t := 161) rfl ?_
      refine g_breturn k24_161 t24 (by decide) ?_
      exact fin σ1 τ true hs (tE.rf τ) hC (by rw [k0, hbs]; rfl)
  · refine g_iload_n k24_0 rfl ?_
    refine g_switch k24_1 ⟨by rw [ti_4]; decide, by rw [ti_4]; decide⟩ (off := 48) (t := 49) (by rw [ti_4]; rfl) rfl ?_
    refine g_aload_n k24_49 rfl ?_
    refine m_get k24_50 f24_50 rfl rfl ?_
    refine g_aload_n k24_53 rfl ?_
    refine g_aload_n k24_54 rfl ?_
    refine m_get k24_55 f24_55 rfl rfl ?_
    refine m_callV2 k24_58 s24_58 c24_58 l27 (by omega) ⟨rfl, rfl⟩ rfl r24_58 rfl ?_
    refine s_27 hdy ok hX he (by omega) (by omega) rfl hrow.nf (fun σ1 hs => ?_)
    refine af_ret ?_
    refine g_breturnB k24_61 t24 ?_
    exact kk σ1 τ hs.fL (tE.rf τ) hC
  · have k0 : td_k0 A 5 e (σ 19) = (decide (0 ≤ (td_va A (σ 19)).toInt) && (!td_bs A e (σ 19) || decide ((td_va A (td_bo A e (σ 19))).toInt < (td_va A (σ 19)).toInt))) := rfl
    refine g_iload_n k24_0 rfl ?_
    refine g_switch k24_1 ⟨by rw [ti_5]; decide, by rw [ti_5]; decide⟩ (off := 61) (t := 62) (by rw [ti_5]; rfl) rfl ?_
    refine g_aload_n k24_62 rfl ?_
    refine m_get k24_63 f24_63 rfl rfl ?_
    refine g_aload_n k24_66 rfl ?_
    refine m_get k24_67 f24_67 rfl rfl ?_
    refine m_callV1 k24_70 s24_70 c24_70 l29 (by omega) rfl rfl r24_70 rfl ?_
    refine s_29 hdy ok hX (by omega) rfl hrow.nf (fun σ0 hs0 => ?_)
    refine af_ret ?_
    refine g_istore_n k24_73 rfl rfl ?_
    refine g_iload_n k24_74 rfl ?_
    refine g_iflt k24_75 (t := 115) rfl (fun h75 => ?_) (fun h75 => ?_)
    · skip
      refine g_iconst (v := nn 0) k24_115 ci_0 ?_
      refine g_breturn k24_116 t24 (by decide) ?_
      exact fin σ0 τ false hs0.fL (tE.rf τ) hC (by rw [k0, decide_eq_false (by omega)]; rfl)
    · skip
      refine g_aload_n k24_78 rfl ?_
      refine m_get k24_79 f24_79 rfl rfl ?_
      refine g_aload_n k24_82 rfl ?_
      refine g_aload_n k24_83 rfl ?_
      refine m_get k24_84 f24_84 rfl rfl ?_
      refine m_callV2 k24_87 s24_87 c24_87 l30 (by omega) ⟨rfl, rfl⟩ rfl r24_87 rfl ?_
      refine s_30 hdy ok (hX.agr ok hs0.ag) he (by omega) (by omega) (by omega) rfl (by rw [hs0.st (by omega)]; exact hrow.nf) (by rw [hs0.st (by omega)]; exact hir) (fun σ1 hs hbs hbo hb6 => ?_) (fun σ1 hs hbs => ?_)
      · refine af_ret ?_
        rw [hs0.st (by omega)] at hbs hbo hb6
        have hr16 := aft σ1 (hs0.fL.tr hs) hbs hbo hb6
        have ev5 : td_va A (σ1 16) = td_va A (td_bo A e (σ 19)) := va_congr ok (fun v hv => hbo v hv)
        refine g_ifeq_f k24_90 (t := 111) rfl (by decide) ?_
        refine g_aload_n k24_93 rfl ?_
        refine m_get k24_94 f24_94 rfl rfl ?_
        refine g_aload_n k24_97 rfl ?_
        refine m_get k24_98 f24_98 rfl rfl ?_
        refine m_get k24_101 f24_101 rfl rfl ?_
        refine m_callV1 k24_104 s24_104 c24_104 l29 (by omega) rfl rfl r24_104 rfl ?_
        refine s_29 hdy ok ((hX.agr ok hs0.ag).agr ok hs.ag) (by omega) rfl hr16.nf (fun σ2 hs2 => ?_)
        refine af_ret ?_
        rw [ev5]
        refine g_iload_n k24_107 rfl ?_
        refine g_icge k24_108 (t := 115) rfl (fun h108 => ?_) (fun h108 => ?_)
        · skip
          refine g_iconst (v := nn 0) k24_115 ci_0 ?_
          refine g_breturn k24_116 t24 (by decide) ?_
          first
            | exact fin σ2 τ true ((hs0.fL.tr hs).tr hs2.fL) (tE.rf τ) hC (by rw [k0, decide_eq_true (by omega), hbs, decide_eq_true (by omega)]; rfl)
            | exact fin σ2 τ false ((hs0.fL.tr hs).tr hs2.fL) (tE.rf τ) hC (by rw [k0, hbs, decide_eq_false (show ¬ (td_va A (td_bo A e (σ 19))).toInt < (td_va A (σ 19)).toInt by omega), decide_eq_true (by omega)]; rfl)
        · skip
          refine g_iconst (v := nn 1) k24_111 ci_1 ?_
          refine g_goto k24_112 (t := 116) rfl ?_
          refine g_breturn k24_116 t24 (by decide) ?_
          first
            | exact fin σ2 τ true ((hs0.fL.tr hs).tr hs2.fL) (tE.rf τ) hC (by rw [k0, decide_eq_true (by omega), hbs, decide_eq_true (by omega)]; rfl)
            | exact fin σ2 τ false ((hs0.fL.tr hs).tr hs2.fL) (tE.rf τ) hC (by rw [k0, hbs, decide_eq_false (show ¬ (td_va A (td_bo A e (σ 19))).toInt < (td_va A (σ 19)).toInt by omega), decide_eq_true (by omega)]; rfl)
      · refine af_ret ?_
        rw [hs0.st (by omega)] at hbs
        refine g_ifeq_t k24_90 (t := 111) rfl rfl ?_
        refine g_iconst (v := nn 1) k24_111 ci_1 ?_
        refine g_goto k24_112 (t := 116) rfl ?_
        refine g_breturn k24_116 t24 (by decide) ?_
        exact fin σ1 τ true (hs0.fL.tr hs) (tE.rf τ) hC (by rw [k0, hbs, decide_eq_true (by omega)]; rfl)
end YD
