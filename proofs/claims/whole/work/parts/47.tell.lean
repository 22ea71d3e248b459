/-! The reference: event, guard, assign, witness, invariant, variant. -/
section LQ
variable {L : Nat} {xs : Nat → Int32} {Q : am_A → am_H → Prop} {dy : List (Nat × Nat)} {σ σ' : Nat → Nat → Int32} {ρ : Nat → Nat → Option Nat} {τ : Nat → Nat → Int64} {A : TD} {W : RS} {x z w : Int32}
def io (w : Int32) : Option Nat := if w.toInt = -1 then none else some w.toInt.toNat
theorem oi_io {w : Int32} (h : -1 ≤ w.toInt) : oi (io w) = w := by
  unfold io
  by_cases h1 : w.toInt = -1
  · rw [if_pos h1]
    rw [← Int32.toInt_inj, h1]
    decide
  · rw [if_neg h1]
    exact (nn_of (by omega)).1.symm
/-- an event is told -/
def td_ae (A : TD) (m r : Nat) (u : Option Nat) : TD := (A.1, (td_ne A + 1, (fun j => if j = td_ne A then m else td_ma A j), (fun j => if j = td_ne A then r else td_rg A j), (fun j => if j = td_ne A then u else td_rf A j), (fun j => if j = td_ne A then none else td_gd A j), (fun j => if j = td_ne A then none else td_wt A j), td_as A), A.2.2)
theorem RepM.ae {m r : Nat} {u : Option Nat} (hR : RepM A σ) : RepM (td_ae A m r u) (up2 (up2 (up2 (up2 (up2 (up2 σ 33 (td_ne A) (nn m)) 34 (td_ne A) (nn r)) 35 (td_ne A) (oi u)) 36 (td_ne A) (-1)) 38 (td_ne A) (-1)) 24 11 (nn (td_ne A + 1))) := by
  obtain ⟨a, ⟨b1, b2⟩, c, d, e, f⟩ := hR
  refine ⟨a, ⟨rfl, fun k hk => ?_⟩, c, d, e, f⟩
  have hk : k < td_ne A + 1 := hk
  show _ = nn (if k = td_ne A then m else td_ma A k) ∧ _ = nn (if k = td_ne A then r else td_rg A k) ∧ _ = oi (if k = td_ne A then u else td_rf A k) ∧ _ = oi (if k = td_ne A then none else td_gd A k) ∧ _ = oi (if k = td_ne A then none else td_wt A k)
  by_cases h : k = td_ne A
  · rw [if_pos h, if_pos h, if_pos h, if_pos h, if_pos h, h]
    simp [up2, oi]
  · rw [if_neg h, if_neg h, if_neg h, if_neg h, if_neg h]
    simp only [up2, h, if_false, if_true, reduceCtorEq, Nat.reduceEqDiff]
    exact b2 k (by omega)
/-- an event may be told so -/
def eok (A : TD) (x z w : Int32) : Prop := (0 ≤ x.toInt ∧ x.toInt ≤ 1) ∧ (1 ≤ z.toInt ∧ z.toInt ≤ 4) ∧ (w.toInt = -1 ∨ (x.toInt = 1 ∧ (0 ≤ w.toInt ∧ w.toInt < td_ne A) ∧ td_ma A w.toInt.toNat = 0))
theorem s_114 (hdy : dy.length < 100000) (ok : TOK A) (hR : RepM A σ) (hW : RunM W σ) (k1 : ¬ eok A x z w → ∀ σ', oM A W 1 σ σ' → Q (.inl (some (.int (nn 0)))) (mk dy σ' ρ τ)) (k2 : eok A x z w → td_ne A = 12 → ∀ σ', oM A W 2 σ σ' → Q (.inl (some (.int (nn 0)))) (mk dy σ' ρ τ)) (k0 : eok A x z w → td_ne A < 12 → ∀ σ', oM (td_ae A x.toInt.toNat z.toInt.toNat (io w)) W 0 σ σ' → Q (.inl (some (.int (nn (td_ne A))))) (mk dy σ' ρ τ)) : go (tb_P L xs) 114 0 [some (.ref 24), some (.int x), some (.int z), some (.int w), none] [] (mk dy σ ρ τ) Q := by
  have t1 := ti_1
  have t4 := ti_4
  have tm := ti_m1
  have hne := ok.2.2.1
  have h11 := hR.2.1.1
  have h0 : ∀ v, up2 σ 24 0 v 24 0 = v := fun v => rfl
  have bad : ¬ eok A x z w → go (tb_P L xs) 114 62 [some (.ref 24), some (.int x), some (.int z), some (.int w), some (.int (nn 1))] [.int (nn 1)] (mk dy σ ρ τ) Q := by
    intro hb
    refine g_istore k114_62 rfl rfl ?_
    refine g_aload_n k114_64 rfl ?_
    refine g_iload k114_65 rfl ?_
    refine g_ifeq_f k114_67 (t := 74) rfl (by decide) ?_
    refine g_iconst (v := nn 1) k114_70 ci_1 ?_
    refine g_goto k114_71 (t := 88) rfl ?_
    refine m_putI k114_88 f114_88 rfl rfl rfl ?_
    refine g_aload_n k114_91 rfl ?_
    refine m_get k114_92 f114_92 rfl rfl ?_
    rw [h0]
    refine g_ifeq_f k114_95 (t := 100) rfl (by decide) ?_
    refine g_iconst (v := nn 0) k114_98 ci_0 ?_
    refine g_ireturn k114_99 t114 ?_
    exact k1 hb _ (oM_t hR hW)
  have bad0 : ¬ eok A x z w → go (tb_P L xs) 114 62 [some (.ref 24), some (.int x), some (.int z), some (.int w), some (.int (nn 0))] [.int (nn 1)] (mk dy σ ρ τ) Q := by
    intro hb
    refine g_istore k114_62 rfl rfl ?_
    refine g_aload_n k114_64 rfl ?_
    refine g_iload k114_65 rfl ?_
    refine g_ifeq_f k114_67 (t := 74) rfl (by decide) ?_
    refine g_iconst (v := nn 1) k114_70 ci_1 ?_
    refine g_goto k114_71 (t := 88) rfl ?_
    refine m_putI k114_88 f114_88 rfl rfl rfl ?_
    refine g_aload_n k114_91 rfl ?_
    refine m_get k114_92 f114_92 rfl rfl ?_
    rw [h0]
    refine g_ifeq_f k114_95 (t := 100) rfl (by decide) ?_
    refine g_iconst (v := nn 0) k114_98 ci_0 ?_
    refine g_ireturn k114_99 t114 ?_
    exact k1 hb _ (oM_t hR hW)
  have good : eok A x z w → go (tb_P L xs) 114 62 [some (.ref 24), some (.int x), some (.int z), some (.int w), some (.int (nn 0))] [.int (nn 0)] (mk dy σ ρ τ) Q := by
    intro hb
    by_cases hf : td_ne A = 12
    · refine g_istore k114_62 rfl rfl ?_
      refine g_aload_n k114_64 rfl ?_
      refine g_iload k114_65 rfl ?_
      refine g_ifeq_t k114_67 (t := 74) rfl (by decide) ?_
      refine g_aload_n k114_74 rfl ?_
      refine m_get k114_75 f114_75 rfl rfl ?_
      rw [h11]
      refine g_bipush (v := nn 12) k114_78 cb_12 ?_
      refine g_icne_f k114_80 (t := 87) rfl (by rw [hf]) ?_
      refine g_iconst (v := nn 2) k114_83 ci_2 ?_
      refine g_goto k114_84 (t := 88) rfl ?_
      refine m_putI k114_88 f114_88 rfl rfl rfl ?_
      refine g_aload_n k114_91 rfl ?_
      refine m_get k114_92 f114_92 rfl rfl ?_
      rw [h0]
      refine g_ifeq_f k114_95 (t := 100) rfl (by decide) ?_
      refine g_iconst (v := nn 0) k114_98 ci_0 ?_
      refine g_ireturn k114_99 t114 ?_
      exact k2 hb hf _ (oM_t hR hW)
    · have hq := k0 hb (by omega)
      obtain ⟨⟨x1, x2⟩, ⟨z1, z2⟩, hw⟩ := hb
      have hio : oi (io w) = w := oi_io (by omega)
      obtain ⟨m, rfl, hm⟩ := in_nn (n := 2) ⟨x1, show x.toInt < 2 by omega⟩
      obtain ⟨r, rfl, hr⟩ := in_nn (n := 5) ⟨show 0 ≤ z.toInt by omega, show z.toInt < 5 by omega⟩
      rw [nn_toInt (by omega), nn_toInt (by omega)] at hq
      simp only [Int.toNat_natCast] at hq
      refine g_istore k114_62 rfl rfl ?_
      refine g_aload_n k114_64 rfl ?_
      refine g_iload k114_65 rfl ?_
      refine g_ifeq_t k114_67 (t := 74) rfl (by decide) ?_
      refine g_aload_n k114_74 rfl ?_
      refine m_get k114_75 f114_75 rfl rfl ?_
      rw [h11]
      refine g_bipush (v := nn 12) k114_78 cb_12 ?_
      refine g_icne_t k114_80 (t := 87) rfl (by rw [Ne, nn_inj (by omega) (by omega)]; exact hf) ?_
      refine g_iconst (v := nn 0) k114_87 ci_0 ?_
      refine m_putI k114_88 f114_88 rfl rfl rfl ?_
      refine g_aload_n k114_91 rfl ?_
      refine m_get k114_92 f114_92 rfl rfl ?_
      rw [h0]
      refine g_ifeq_t k114_95 (t := 100) rfl rfl ?_
      refine g_aload_n k114_100 rfl ?_
      refine m_get k114_101 f114_101 rfl rfl ?_
      refine g_aload_n k114_104 rfl ?_
      refine m_get k114_105 f114_105 rfl rfl ?_
      rw [show up2 σ 24 0 (nn 0) 24 11 = nn (td_ne A) from h11]
      refine g_iload_n k114_108 rfl ?_
      refine m_iast k114_109 rfl rfl (by omega) (by omega) ?_
      refine g_aload_n k114_110 rfl ?_
      refine m_get k114_111 f114_111 rfl rfl ?_
      refine g_aload_n k114_114 rfl ?_
      refine m_get k114_115 f114_115 rfl rfl ?_
      rw [show up2 (up2 σ 24 0 (nn 0)) 33 (td_ne A) (nn m) 24 11 = nn (td_ne A) from h11]
      refine g_iload_n k114_118 rfl ?_
      refine m_iast k114_119 rfl rfl (by omega) (by omega) ?_
      refine g_aload_n k114_120 rfl ?_
      refine m_get k114_121 f114_121 rfl rfl ?_
      refine g_aload_n k114_124 rfl ?_
      refine m_get k114_125 f114_125 rfl rfl ?_
      rw [show up2 (up2 (up2 σ 24 0 (nn 0)) 33 (td_ne A) (nn m)) 34 (td_ne A) (nn r) 24 11 = nn (td_ne A) from h11]
      refine g_iload_n k114_128 rfl ?_
      refine m_iast k114_129 rfl rfl (by omega) (by omega) ?_
      refine g_aload_n k114_130 rfl ?_
      refine m_get k114_131 f114_131 rfl rfl ?_
      refine g_aload_n k114_134 rfl ?_
      refine m_get k114_135 f114_135 rfl rfl ?_
      rw [show up2 (up2 (up2 (up2 σ 24 0 (nn 0)) 33 (td_ne A) (nn m)) 34 (td_ne A) (nn r)) 35 (td_ne A) w 24 11 = nn (td_ne A) from h11]
      refine g_iconst (v := -1) k114_138 ci_m1 ?_
      refine m_iast k114_139 rfl rfl (by omega) (by omega) ?_
      refine g_aload_n k114_140 rfl ?_
      refine m_get k114_141 f114_141 rfl rfl ?_
      refine g_aload_n k114_144 rfl ?_
      refine m_get k114_145 f114_145 rfl rfl ?_
      rw [show up2 (up2 (up2 (up2 (up2 σ 24 0 (nn 0)) 33 (td_ne A) (nn m)) 34 (td_ne A) (nn r)) 35 (td_ne A) w) 36 (td_ne A) (-1) 24 11 = nn (td_ne A) from h11]
      refine g_iconst (v := -1) k114_148 ci_m1 ?_
      refine m_iast k114_149 rfl rfl (by omega) (by omega) ?_
      refine g_aload_n k114_150 rfl ?_
      refine g_dup k114_151 rfl ?_
      refine m_get k114_152 f114_152 rfl rfl ?_
      rw [show up2 (up2 (up2 (up2 (up2 (up2 σ 24 0 (nn 0)) 33 (td_ne A) (nn m)) 34 (td_ne A) (nn r)) 35 (td_ne A) w) 36 (td_ne A) (-1)) 38 (td_ne A) (-1) 24 11 = nn (td_ne A) from h11]
      refine g_iconst (v := nn 1) k114_155 ci_1 ?_
      refine g_iaddN k114_156 ?_
      refine m_putI k114_157 f114_157 rfl rfl rfl ?_
      refine g_aload_n k114_160 rfl ?_
      refine m_get k114_161 f114_161 rfl rfl ?_
      rw [up2_at]
      refine g_iconst (v := nn 1) k114_164 ci_1 ?_
      refine g_isubN k114_165 (by omega) ?_
      refine g_ireturn k114_166 t114 ?_
      rw [show td_ne A + 1 - 1 = td_ne A by omega]
      refine hq _ ⟨(((((((fM.rf σ).up (by omega)).up (by omega)).up (by omega)).up (by omega)).up (by omega)).up (by omega)).up (by omega), ?_, ?_, rfl⟩
      · have h := RepM.ae (m := m) (r := r) (u := io w) (hR.agr (σ' := up2 σ 24 0 (nn 0)) (fun a k h => up2_ne (by omega)))
        rw [hio] at h
        exact h
      · exact hW.agr (fun a k h => by rw [up2_ne (by omega), up2_ne (by omega), up2_ne (by omega), up2_ne (by omega), up2_ne (by omega), up2_ne (by omega), up2_ne (by omega)])
  by_cases hw : 0 ≤ w.toInt ∧ w.toInt < td_ne A
  · refine g_iload_n k114_0 rfl ?_
    refine g_iflt k114_1 (t := 19) rfl (fun h1 => ?_) (fun h1 => ?_)
    · skip
      refine g_iconst (v := nn 1) k114_19 ci_1 ?_
      refine g_goto k114_20 (t := 24) rfl ?_
      refine g_istore k114_24 rfl rfl ?_
      refine g_iload k114_26 rfl ?_
      refine g_ifneN k114_28 (t := 57) rfl (by omega) (fun h28 => ?_) (fun h28 => ?_)
      · skip
        refine g_iconst (v := nn 1) k114_57 ci_1 ?_
        refine g_goto k114_58 (t := 62) rfl ?_
        first
          | (exfalso; omega)
          | exact bad (fun q => by obtain ⟨⟨x1, x2⟩, ⟨z1, z2⟩, hw⟩ := q; omega)
          | exact bad0 (fun q => by obtain ⟨⟨x1, x2⟩, ⟨z1, z2⟩, hw⟩ := q; omega)
          | exact good ⟨⟨by omega, by omega⟩, ⟨by omega, by omega⟩, Or.inl (by omega)⟩
          | (refine good ⟨⟨by omega, by omega⟩, ⟨by omega, by omega⟩, Or.inr ⟨by omega, hw, ?_⟩⟩
             rw [nn_toInt (by omega)]
             exact h54)
          | (refine bad0 (fun q => ?_)
             obtain ⟨⟨x1, x2⟩, ⟨z1, z2⟩, hw⟩ := q
             rcases hw with hw | ⟨_, hw, h5⟩
             · omega
             · rw [nn_toInt (by omega)] at h5
               exact h54 h5)
      · skip
        refine g_iload_n k114_31 rfl ?_
        refine g_iconst (v := -1) k114_32 ci_m1 ?_
        refine g_iceqT k114_33 (t := 61) rfl (fun h33 => ?_) (fun h33 => ?_)
        · skip
          refine g_iconst (v := nn 0) k114_61 ci_0 ?_
          first
            | (exfalso; omega)
            | exact bad (fun q => by obtain ⟨⟨x1, x2⟩, ⟨z1, z2⟩, hw⟩ := q; omega)
            | exact bad0 (fun q => by obtain ⟨⟨x1, x2⟩, ⟨z1, z2⟩, hw⟩ := q; omega)
            | exact good ⟨⟨by omega, by omega⟩, ⟨by omega, by omega⟩, Or.inl (by omega)⟩
            | (refine good ⟨⟨by omega, by omega⟩, ⟨by omega, by omega⟩, Or.inr ⟨by omega, hw, ?_⟩⟩
               rw [nn_toInt (by omega)]
               exact h54)
            | (refine bad0 (fun q => ?_)
               obtain ⟨⟨x1, x2⟩, ⟨z1, z2⟩, hw⟩ := q
               rcases hw with hw | ⟨_, hw, h5⟩
               · omega
               · rw [nn_toInt (by omega)] at h5
                 exact h54 h5)
        · skip
          refine g_iload_n k114_36 rfl ?_
          refine g_ifeqT k114_37 (t := 57) rfl (fun h37 => ?_) (fun h37 => ?_)
          · skip
            refine g_iconst (v := nn 1) k114_57 ci_1 ?_
            refine g_goto k114_58 (t := 62) rfl ?_
            first
              | (exfalso; omega)
              | exact bad (fun q => by obtain ⟨⟨x1, x2⟩, ⟨z1, z2⟩, hw⟩ := q; omega)
              | exact bad0 (fun q => by obtain ⟨⟨x1, x2⟩, ⟨z1, z2⟩, hw⟩ := q; omega)
              | exact good ⟨⟨by omega, by omega⟩, ⟨by omega, by omega⟩, Or.inl (by omega)⟩
              | (refine good ⟨⟨by omega, by omega⟩, ⟨by omega, by omega⟩, Or.inr ⟨by omega, hw, ?_⟩⟩
                 rw [nn_toInt (by omega)]
                 exact h54)
              | (refine bad0 (fun q => ?_)
                 obtain ⟨⟨x1, x2⟩, ⟨z1, z2⟩, hw⟩ := q
                 rcases hw with hw | ⟨_, hw, h5⟩
                 · omega
                 · rw [nn_toInt (by omega)] at h5
                   exact h54 h5)
          · skip
            refine g_aload_n k114_40 rfl ?_
            refine g_iload_n k114_41 rfl ?_
            refine m_callV1 k114_42 s114_42 c114_42 l115 (by omega) rfl rfl r114_42 rfl ?_
            refine s_115 ok hR ?_
            refine af_ret ?_
            refine g_ifne_f k114_45 (t := 57) rfl (bb_f (fun q => q hw)) ?_
            obtain ⟨u, hu, hul⟩ := in_nn hw
            refine g_aload_n k114_48 rfl ?_
            refine m_get k114_49 f114_49 rfl rfl ?_
            refine g_iload_n k114_52 rfl ?_
            have hma := (hR.2.1.2 u hul).1
            have hm1 := (ok.2.2.2.1 u hul).1
            subst hu
            refine m_iald k114_53 hdy rfl rfl (by omega) (by omega) ?_
            rw [hma]
            refine g_ifeqN k114_54 (t := 61) rfl (by omega) (fun h54 => ?_) (fun h54 => ?_)
            · skip
              refine g_iconst (v := nn 0) k114_61 ci_0 ?_
              first
                | (exfalso; omega)
                | exact bad (fun q => by obtain ⟨⟨x1, x2⟩, ⟨z1, z2⟩, hw⟩ := q; omega)
                | exact bad0 (fun q => by obtain ⟨⟨x1, x2⟩, ⟨z1, z2⟩, hw⟩ := q; omega)
                | exact good ⟨⟨by omega, by omega⟩, ⟨by omega, by omega⟩, Or.inl (by omega)⟩
                | (refine good ⟨⟨by omega, by omega⟩, ⟨by omega, by omega⟩, Or.inr ⟨by omega, hw, ?_⟩⟩
                   rw [nn_toInt (by omega)]
                   exact h54)
                | (refine bad0 (fun q => ?_)
                   obtain ⟨⟨x1, x2⟩, ⟨z1, z2⟩, hw⟩ := q
                   rcases hw with hw | ⟨_, hw, h5⟩
                   · omega
                   · rw [nn_toInt (by omega)] at h5
                     exact h54 h5)
            · skip
              refine g_iconst (v := nn 1) k114_57 ci_1 ?_
              refine g_goto k114_58 (t := 62) rfl ?_
              first
                | (exfalso; omega)
                | exact bad (fun q => by obtain ⟨⟨x1, x2⟩, ⟨z1, z2⟩, hw⟩ := q; omega)
                | exact bad0 (fun q => by obtain ⟨⟨x1, x2⟩, ⟨z1, z2⟩, hw⟩ := q; omega)
                | exact good ⟨⟨by omega, by omega⟩, ⟨by omega, by omega⟩, Or.inl (by omega)⟩
                | (refine good ⟨⟨by omega, by omega⟩, ⟨by omega, by omega⟩, Or.inr ⟨by omega, hw, ?_⟩⟩
                   rw [nn_toInt (by omega)]
                   exact h54)
                | (refine bad0 (fun q => ?_)
                   obtain ⟨⟨x1, x2⟩, ⟨z1, z2⟩, hw⟩ := q
                   rcases hw with hw | ⟨_, hw, h5⟩
                   · omega
                   · rw [nn_toInt (by omega)] at h5
                     exact h54 h5)
    · skip
      refine g_iload_n k114_4 rfl ?_
      refine g_iconst (v := nn 1) k114_5 ci_1 ?_
      refine g_icgt k114_6 (t := 19) rfl (fun h6 => ?_) (fun h6 => ?_)
      · skip
        refine g_iconst (v := nn 1) k114_19 ci_1 ?_
        refine g_goto k114_20 (t := 24) rfl ?_
        refine g_istore k114_24 rfl rfl ?_
        refine g_iload k114_26 rfl ?_
        refine g_ifneN k114_28 (t := 57) rfl (by omega) (fun h28 => ?_) (fun h28 => ?_)
        · skip
          refine g_iconst (v := nn 1) k114_57 ci_1 ?_
          refine g_goto k114_58 (t := 62) rfl ?_
          first
            | (exfalso; omega)
            | exact bad (fun q => by obtain ⟨⟨x1, x2⟩, ⟨z1, z2⟩, hw⟩ := q; omega)
            | exact bad0 (fun q => by obtain ⟨⟨x1, x2⟩, ⟨z1, z2⟩, hw⟩ := q; omega)
            | exact good ⟨⟨by omega, by omega⟩, ⟨by omega, by omega⟩, Or.inl (by omega)⟩
            | (refine good ⟨⟨by omega, by omega⟩, ⟨by omega, by omega⟩, Or.inr ⟨by omega, hw, ?_⟩⟩
               rw [nn_toInt (by omega)]
               exact h54)
            | (refine bad0 (fun q => ?_)
               obtain ⟨⟨x1, x2⟩, ⟨z1, z2⟩, hw⟩ := q
               rcases hw with hw | ⟨_, hw, h5⟩
               · omega
               · rw [nn_toInt (by omega)] at h5
                 exact h54 h5)
        · skip
          refine g_iload_n k114_31 rfl ?_
          refine g_iconst (v := -1) k114_32 ci_m1 ?_
          refine g_iceqT k114_33 (t := 61) rfl (fun h33 => ?_) (fun h33 => ?_)
          · skip
            refine g_iconst (v := nn 0) k114_61 ci_0 ?_
            first
              | (exfalso; omega)
              | exact bad (fun q => by obtain ⟨⟨x1, x2⟩, ⟨z1, z2⟩, hw⟩ := q; omega)
              | exact bad0 (fun q => by obtain ⟨⟨x1, x2⟩, ⟨z1, z2⟩, hw⟩ := q; omega)
              | exact good ⟨⟨by omega, by omega⟩, ⟨by omega, by omega⟩, Or.inl (by omega)⟩
              | (refine good ⟨⟨by omega, by omega⟩, ⟨by omega, by omega⟩, Or.inr ⟨by omega, hw, ?_⟩⟩
                 rw [nn_toInt (by omega)]
                 exact h54)
              | (refine bad0 (fun q => ?_)
                 obtain ⟨⟨x1, x2⟩, ⟨z1, z2⟩, hw⟩ := q
                 rcases hw with hw | ⟨_, hw, h5⟩
                 · omega
                 · rw [nn_toInt (by omega)] at h5
                   exact h54 h5)
          · skip
            refine g_iload_n k114_36 rfl ?_
            refine g_ifeqT k114_37 (t := 57) rfl (fun h37 => ?_) (fun h37 => ?_)
            · skip
              refine g_iconst (v := nn 1) k114_57 ci_1 ?_
              refine g_goto k114_58 (t := 62) rfl ?_
              first
                | (exfalso; omega)
                | exact bad (fun q => by obtain ⟨⟨x1, x2⟩, ⟨z1, z2⟩, hw⟩ := q; omega)
                | exact bad0 (fun q => by obtain ⟨⟨x1, x2⟩, ⟨z1, z2⟩, hw⟩ := q; omega)
                | exact good ⟨⟨by omega, by omega⟩, ⟨by omega, by omega⟩, Or.inl (by omega)⟩
                | (refine good ⟨⟨by omega, by omega⟩, ⟨by omega, by omega⟩, Or.inr ⟨by omega, hw, ?_⟩⟩
                   rw [nn_toInt (by omega)]
                   exact h54)
                | (refine bad0 (fun q => ?_)
                   obtain ⟨⟨x1, x2⟩, ⟨z1, z2⟩, hw⟩ := q
                   rcases hw with hw | ⟨_, hw, h5⟩
                   · omega
                   · rw [nn_toInt (by omega)] at h5
                     exact h54 h5)
            · skip
              refine g_aload_n k114_40 rfl ?_
              refine g_iload_n k114_41 rfl ?_
              refine m_callV1 k114_42 s114_42 c114_42 l115 (by omega) rfl rfl r114_42 rfl ?_
              refine s_115 ok hR ?_
              refine af_ret ?_
              refine g_ifne_f k114_45 (t := 57) rfl (bb_f (fun q => q hw)) ?_
              obtain ⟨u, hu, hul⟩ := in_nn hw
              refine g_aload_n k114_48 rfl ?_
              refine m_get k114_49 f114_49 rfl rfl ?_
              refine g_iload_n k114_52 rfl ?_
              have hma := (hR.2.1.2 u hul).1
              have hm1 := (ok.2.2.2.1 u hul).1
              subst hu
              refine m_iald k114_53 hdy rfl rfl (by omega) (by omega) ?_
              rw [hma]
              refine g_ifeqN k114_54 (t := 61) rfl (by omega) (fun h54 => ?_) (fun h54 => ?_)
              · skip
                refine g_iconst (v := nn 0) k114_61 ci_0 ?_
                first
                  | (exfalso; omega)
                  | exact bad (fun q => by obtain ⟨⟨x1, x2⟩, ⟨z1, z2⟩, hw⟩ := q; omega)
                  | exact bad0 (fun q => by obtain ⟨⟨x1, x2⟩, ⟨z1, z2⟩, hw⟩ := q; omega)
                  | exact good ⟨⟨by omega, by omega⟩, ⟨by omega, by omega⟩, Or.inl (by omega)⟩
                  | (refine good ⟨⟨by omega, by omega⟩, ⟨by omega, by omega⟩, Or.inr ⟨by omega, hw, ?_⟩⟩
                     rw [nn_toInt (by omega)]
                     exact h54)
                  | (refine bad0 (fun q => ?_)
                     obtain ⟨⟨x1, x2⟩, ⟨z1, z2⟩, hw⟩ := q
                     rcases hw with hw | ⟨_, hw, h5⟩
                     · omega
                     · rw [nn_toInt (by omega)] at h5
                       exact h54 h5)
              · skip
                refine g_iconst (v := nn 1) k114_57 ci_1 ?_
                refine g_goto k114_58 (t := 62) rfl ?_
                first
                  | (exfalso; omega)
                  | exact bad (fun q => by obtain ⟨⟨x1, x2⟩, ⟨z1, z2⟩, hw⟩ := q; omega)
                  | exact bad0 (fun q => by obtain ⟨⟨x1, x2⟩, ⟨z1, z2⟩, hw⟩ := q; omega)
                  | exact good ⟨⟨by omega, by omega⟩, ⟨by omega, by omega⟩, Or.inl (by omega)⟩
                  | (refine good ⟨⟨by omega, by omega⟩, ⟨by omega, by omega⟩, Or.inr ⟨by omega, hw, ?_⟩⟩
                     rw [nn_toInt (by omega)]
                     exact h54)
                  | (refine bad0 (fun q => ?_)
                     obtain ⟨⟨x1, x2⟩, ⟨z1, z2⟩, hw⟩ := q
                     rcases hw with hw | ⟨_, hw, h5⟩
                     · omega
                     · rw [nn_toInt (by omega)] at h5
                       exact h54 h5)
      · skip
        refine g_iload_n k114_9 rfl ?_
        refine g_iconst (v := nn 1) k114_10 ci_1 ?_
        refine g_iclt k114_11 (t := 19) rfl (fun h11 => ?_) (fun h11 => ?_)
        · skip
          refine g_iconst (v := nn 1) k114_19 ci_1 ?_
          refine g_goto k114_20 (t := 24) rfl ?_
          refine g_istore k114_24 rfl rfl ?_
          refine g_iload k114_26 rfl ?_
          refine g_ifneN k114_28 (t := 57) rfl (by omega) (fun h28 => ?_) (fun h28 => ?_)
          · skip
            refine g_iconst (v := nn 1) k114_57 ci_1 ?_
            refine g_goto k114_58 (t := 62) rfl ?_
            first
              | (exfalso; omega)
              | exact bad (fun q => by obtain ⟨⟨x1, x2⟩, ⟨z1, z2⟩, hw⟩ := q; omega)
              | exact bad0 (fun q => by obtain ⟨⟨x1, x2⟩, ⟨z1, z2⟩, hw⟩ := q; omega)
              | exact good ⟨⟨by omega, by omega⟩, ⟨by omega, by omega⟩, Or.inl (by omega)⟩
              | (refine good ⟨⟨by omega, by omega⟩, ⟨by omega, by omega⟩, Or.inr ⟨by omega, hw, ?_⟩⟩
                 rw [nn_toInt (by omega)]
                 exact h54)
              | (refine bad0 (fun q => ?_)
                 obtain ⟨⟨x1, x2⟩, ⟨z1, z2⟩, hw⟩ := q
                 rcases hw with hw | ⟨_, hw, h5⟩
                 · omega
                 · rw [nn_toInt (by omega)] at h5
                   exact h54 h5)
          · skip
            refine g_iload_n k114_31 rfl ?_
            refine g_iconst (v := -1) k114_32 ci_m1 ?_
            refine g_iceqT k114_33 (t := 61) rfl (fun h33 => ?_) (fun h33 => ?_)
            · skip
              refine g_iconst (v := nn 0) k114_61 ci_0 ?_
              first
                | (exfalso; omega)
                | exact bad (fun q => by obtain ⟨⟨x1, x2⟩, ⟨z1, z2⟩, hw⟩ := q; omega)
                | exact bad0 (fun q => by obtain ⟨⟨x1, x2⟩, ⟨z1, z2⟩, hw⟩ := q; omega)
                | exact good ⟨⟨by omega, by omega⟩, ⟨by omega, by omega⟩, Or.inl (by omega)⟩
                | (refine good ⟨⟨by omega, by omega⟩, ⟨by omega, by omega⟩, Or.inr ⟨by omega, hw, ?_⟩⟩
                   rw [nn_toInt (by omega)]
                   exact h54)
                | (refine bad0 (fun q => ?_)
                   obtain ⟨⟨x1, x2⟩, ⟨z1, z2⟩, hw⟩ := q
                   rcases hw with hw | ⟨_, hw, h5⟩
                   · omega
                   · rw [nn_toInt (by omega)] at h5
                     exact h54 h5)
            · skip
              refine g_iload_n k114_36 rfl ?_
              refine g_ifeqT k114_37 (t := 57) rfl (fun h37 => ?_) (fun h37 => ?_)
              · skip
                refine g_iconst (v := nn 1) k114_57 ci_1 ?_
                refine g_goto k114_58 (t := 62) rfl ?_
                first
                  | (exfalso; omega)
                  | exact bad (fun q => by obtain ⟨⟨x1, x2⟩, ⟨z1, z2⟩, hw⟩ := q; omega)
                  | exact bad0 (fun q => by obtain ⟨⟨x1, x2⟩, ⟨z1, z2⟩, hw⟩ := q; omega)
                  | exact good ⟨⟨by omega, by omega⟩, ⟨by omega, by omega⟩, Or.inl (by omega)⟩
                  | (refine good ⟨⟨by omega, by omega⟩, ⟨by omega, by omega⟩, Or.inr ⟨by omega, hw, ?_⟩⟩
                     rw [nn_toInt (by omega)]
                     exact h54)
                  | (refine bad0 (fun q => ?_)
                     obtain ⟨⟨x1, x2⟩, ⟨z1, z2⟩, hw⟩ := q
                     rcases hw with hw | ⟨_, hw, h5⟩
                     · omega
                     · rw [nn_toInt (by omega)] at h5
                       exact h54 h5)
              · skip
                refine g_aload_n k114_40 rfl ?_
                refine g_iload_n k114_41 rfl ?_
                refine m_callV1 k114_42 s114_42 c114_42 l115 (by omega) rfl rfl r114_42 rfl ?_
                refine s_115 ok hR ?_
                refine af_ret ?_
                refine g_ifne_f k114_45 (t := 57) rfl (bb_f (fun q => q hw)) ?_
                obtain ⟨u, hu, hul⟩ := in_nn hw
                refine g_aload_n k114_48 rfl ?_
                refine m_get k114_49 f114_49 rfl rfl ?_
                refine g_iload_n k114_52 rfl ?_
                have hma := (hR.2.1.2 u hul).1
                have hm1 := (ok.2.2.2.1 u hul).1
                subst hu
                refine m_iald k114_53 hdy rfl rfl (by omega) (by omega) ?_
                rw [hma]
                refine g_ifeqN k114_54 (t := 61) rfl (by omega) (fun h54 => ?_) (fun h54 => ?_)
                · skip
                  refine g_iconst (v := nn 0) k114_61 ci_0 ?_
                  first
                    | (exfalso; omega)
                    | exact bad (fun q => by obtain ⟨⟨x1, x2⟩, ⟨z1, z2⟩, hw⟩ := q; omega)
                    | exact bad0 (fun q => by obtain ⟨⟨x1, x2⟩, ⟨z1, z2⟩, hw⟩ := q; omega)
                    | exact good ⟨⟨by omega, by omega⟩, ⟨by omega, by omega⟩, Or.inl (by omega)⟩
                    | (refine good ⟨⟨by omega, by omega⟩, ⟨by omega, by omega⟩, Or.inr ⟨by omega, hw, ?_⟩⟩
                       rw [nn_toInt (by omega)]
                       exact h54)
                    | (refine bad0 (fun q => ?_)
                       obtain ⟨⟨x1, x2⟩, ⟨z1, z2⟩, hw⟩ := q
                       rcases hw with hw | ⟨_, hw, h5⟩
                       · omega
                       · rw [nn_toInt (by omega)] at h5
                         exact h54 h5)
                · skip
                  refine g_iconst (v := nn 1) k114_57 ci_1 ?_
                  refine g_goto k114_58 (t := 62) rfl ?_
                  first
                    | (exfalso; omega)
                    | exact bad (fun q => by obtain ⟨⟨x1, x2⟩, ⟨z1, z2⟩, hw⟩ := q; omega)
                    | exact bad0 (fun q => by obtain ⟨⟨x1, x2⟩, ⟨z1, z2⟩, hw⟩ := q; omega)
                    | exact good ⟨⟨by omega, by omega⟩, ⟨by omega, by omega⟩, Or.inl (by omega)⟩
                    | (refine good ⟨⟨by omega, by omega⟩, ⟨by omega, by omega⟩, Or.inr ⟨by omega, hw, ?_⟩⟩
                       rw [nn_toInt (by omega)]
                       exact h54)
                    | (refine bad0 (fun q => ?_)
                       obtain ⟨⟨x1, x2⟩, ⟨z1, z2⟩, hw⟩ := q
                       rcases hw with hw | ⟨_, hw, h5⟩
                       · omega
                       · rw [nn_toInt (by omega)] at h5
                         exact h54 h5)
        · skip
          refine g_iload_n k114_14 rfl ?_
          refine g_iconst (v := nn 4) k114_15 ci_4 ?_
          refine g_icle k114_16 (t := 23) rfl (fun h16 => ?_) (fun h16 => ?_)
          · skip
            refine g_iconst (v := nn 0) k114_23 ci_0 ?_
            refine g_istore k114_24 rfl rfl ?_
            refine g_iload k114_26 rfl ?_
            refine g_ifneN k114_28 (t := 57) rfl (by omega) (fun h28 => ?_) (fun h28 => ?_)
            · skip
              refine g_iconst (v := nn 1) k114_57 ci_1 ?_
              refine g_goto k114_58 (t := 62) rfl ?_
              first
                | (exfalso; omega)
                | exact bad (fun q => by obtain ⟨⟨x1, x2⟩, ⟨z1, z2⟩, hw⟩ := q; omega)
                | exact bad0 (fun q => by obtain ⟨⟨x1, x2⟩, ⟨z1, z2⟩, hw⟩ := q; omega)
                | exact good ⟨⟨by omega, by omega⟩, ⟨by omega, by omega⟩, Or.inl (by omega)⟩
                | (refine good ⟨⟨by omega, by omega⟩, ⟨by omega, by omega⟩, Or.inr ⟨by omega, hw, ?_⟩⟩
                   rw [nn_toInt (by omega)]
                   exact h54)
                | (refine bad0 (fun q => ?_)
                   obtain ⟨⟨x1, x2⟩, ⟨z1, z2⟩, hw⟩ := q
                   rcases hw with hw | ⟨_, hw, h5⟩
                   · omega
                   · rw [nn_toInt (by omega)] at h5
                     exact h54 h5)
            · skip
              refine g_iload_n k114_31 rfl ?_
              refine g_iconst (v := -1) k114_32 ci_m1 ?_
              refine g_iceqT k114_33 (t := 61) rfl (fun h33 => ?_) (fun h33 => ?_)
              · skip
                refine g_iconst (v := nn 0) k114_61 ci_0 ?_
                first
                  | (exfalso; omega)
                  | exact bad (fun q => by obtain ⟨⟨x1, x2⟩, ⟨z1, z2⟩, hw⟩ := q; omega)
                  | exact bad0 (fun q => by obtain ⟨⟨x1, x2⟩, ⟨z1, z2⟩, hw⟩ := q; omega)
                  | exact good ⟨⟨by omega, by omega⟩, ⟨by omega, by omega⟩, Or.inl (by omega)⟩
                  | (refine good ⟨⟨by omega, by omega⟩, ⟨by omega, by omega⟩, Or.inr ⟨by omega, hw, ?_⟩⟩
                     rw [nn_toInt (by omega)]
                     exact h54)
                  | (refine bad0 (fun q => ?_)
                     obtain ⟨⟨x1, x2⟩, ⟨z1, z2⟩, hw⟩ := q
                     rcases hw with hw | ⟨_, hw, h5⟩
                     · omega
                     · rw [nn_toInt (by omega)] at h5
                       exact h54 h5)
              · skip
                refine g_iload_n k114_36 rfl ?_
                refine g_ifeqT k114_37 (t := 57) rfl (fun h37 => ?_) (fun h37 => ?_)
                · skip
                  refine g_iconst (v := nn 1) k114_57 ci_1 ?_
                  refine g_goto k114_58 (t := 62) rfl ?_
                  first
                    | (exfalso; omega)
                    | exact bad (fun q => by obtain ⟨⟨x1, x2⟩, ⟨z1, z2⟩, hw⟩ := q; omega)
                    | exact bad0 (fun q => by obtain ⟨⟨x1, x2⟩, ⟨z1, z2⟩, hw⟩ := q; omega)
                    | exact good ⟨⟨by omega, by omega⟩, ⟨by omega, by omega⟩, Or.inl (by omega)⟩
                    | (refine good ⟨⟨by omega, by omega⟩, ⟨by omega, by omega⟩, Or.inr ⟨by omega, hw, ?_⟩⟩
                       rw [nn_toInt (by omega)]
                       exact h54)
                    | (refine bad0 (fun q => ?_)
                       obtain ⟨⟨x1, x2⟩, ⟨z1, z2⟩, hw⟩ := q
                       rcases hw with hw | ⟨_, hw, h5⟩
                       · omega
                       · rw [nn_toInt (by omega)] at h5
                         exact h54 h5)
                · skip
                  refine g_aload_n k114_40 rfl ?_
                  refine g_iload_n k114_41 rfl ?_
                  refine m_callV1 k114_42 s114_42 c114_42 l115 (by omega) rfl rfl r114_42 rfl ?_
                  refine s_115 ok hR ?_
                  refine af_ret ?_
                  refine g_ifne_f k114_45 (t := 57) rfl (bb_f (fun q => q hw)) ?_
                  obtain ⟨u, hu, hul⟩ := in_nn hw
                  refine g_aload_n k114_48 rfl ?_
                  refine m_get k114_49 f114_49 rfl rfl ?_
                  refine g_iload_n k114_52 rfl ?_
                  have hma := (hR.2.1.2 u hul).1
                  have hm1 := (ok.2.2.2.1 u hul).1
                  subst hu
                  refine m_iald k114_53 hdy rfl rfl (by omega) (by omega) ?_
                  rw [hma]
                  refine g_ifeqN k114_54 (t := 61) rfl (by omega) (fun h54 => ?_) (fun h54 => ?_)
                  · skip
                    refine g_iconst (v := nn 0) k114_61 ci_0 ?_
                    first
                      | (exfalso; omega)
                      | exact bad (fun q => by obtain ⟨⟨x1, x2⟩, ⟨z1, z2⟩, hw⟩ := q; omega)
                      | exact bad0 (fun q => by obtain ⟨⟨x1, x2⟩, ⟨z1, z2⟩, hw⟩ := q; omega)
                      | exact good ⟨⟨by omega, by omega⟩, ⟨by omega, by omega⟩, Or.inl (by omega)⟩
                      | (refine good ⟨⟨by omega, by omega⟩, ⟨by omega, by omega⟩, Or.inr ⟨by omega, hw, ?_⟩⟩
                         rw [nn_toInt (by omega)]
                         exact h54)
                      | (refine bad0 (fun q => ?_)
                         obtain ⟨⟨x1, x2⟩, ⟨z1, z2⟩, hw⟩ := q
                         rcases hw with hw | ⟨_, hw, h5⟩
                         · omega
                         · rw [nn_toInt (by omega)] at h5
                           exact h54 h5)
                  · skip
                    refine g_iconst (v := nn 1) k114_57 ci_1 ?_
                    refine g_goto k114_58 (t := 62) rfl ?_
                    first
                      | (exfalso; omega)
                      | exact bad (fun q => by obtain ⟨⟨x1, x2⟩, ⟨z1, z2⟩, hw⟩ := q; omega)
                      | exact bad0 (fun q => by obtain ⟨⟨x1, x2⟩, ⟨z1, z2⟩, hw⟩ := q; omega)
                      | exact good ⟨⟨by omega, by omega⟩, ⟨by omega, by omega⟩, Or.inl (by omega)⟩
                      | (refine good ⟨⟨by omega, by omega⟩, ⟨by omega, by omega⟩, Or.inr ⟨by omega, hw, ?_⟩⟩
                         rw [nn_toInt (by omega)]
                         exact h54)
                      | (refine bad0 (fun q => ?_)
                         obtain ⟨⟨x1, x2⟩, ⟨z1, z2⟩, hw⟩ := q
                         rcases hw with hw | ⟨_, hw, h5⟩
                         · omega
                         · rw [nn_toInt (by omega)] at h5
                           exact h54 h5)
          · skip
            refine g_iconst (v := nn 1) k114_19 ci_1 ?_
            refine g_goto k114_20 (t := 24) rfl ?_
            refine g_istore k114_24 rfl rfl ?_
            refine g_iload k114_26 rfl ?_
            refine g_ifneN k114_28 (t := 57) rfl (by omega) (fun h28 => ?_) (fun h28 => ?_)
            · skip
              refine g_iconst (v := nn 1) k114_57 ci_1 ?_
              refine g_goto k114_58 (t := 62) rfl ?_
              first
                | (exfalso; omega)
                | exact bad (fun q => by obtain ⟨⟨x1, x2⟩, ⟨z1, z2⟩, hw⟩ := q; omega)
                | exact bad0 (fun q => by obtain ⟨⟨x1, x2⟩, ⟨z1, z2⟩, hw⟩ := q; omega)
                | exact good ⟨⟨by omega, by omega⟩, ⟨by omega, by omega⟩, Or.inl (by omega)⟩
                | (refine good ⟨⟨by omega, by omega⟩, ⟨by omega, by omega⟩, Or.inr ⟨by omega, hw, ?_⟩⟩
                   rw [nn_toInt (by omega)]
                   exact h54)
                | (refine bad0 (fun q => ?_)
                   obtain ⟨⟨x1, x2⟩, ⟨z1, z2⟩, hw⟩ := q
                   rcases hw with hw | ⟨_, hw, h5⟩
                   · omega
                   · rw [nn_toInt (by omega)] at h5
                     exact h54 h5)
            · skip
              refine g_iload_n k114_31 rfl ?_
              refine g_iconst (v := -1) k114_32 ci_m1 ?_
              refine g_iceqT k114_33 (t := 61) rfl (fun h33 => ?_) (fun h33 => ?_)
              · skip
                refine g_iconst (v := nn 0) k114_61 ci_0 ?_
                first
                  | (exfalso; omega)
                  | exact bad (fun q => by obtain ⟨⟨x1, x2⟩, ⟨z1, z2⟩, hw⟩ := q; omega)
                  | exact bad0 (fun q => by obtain ⟨⟨x1, x2⟩, ⟨z1, z2⟩, hw⟩ := q; omega)
                  | exact good ⟨⟨by omega, by omega⟩, ⟨by omega, by omega⟩, Or.inl (by omega)⟩
                  | (refine good ⟨⟨by omega, by omega⟩, ⟨by omega, by omega⟩, Or.inr ⟨by omega, hw, ?_⟩⟩
                     rw [nn_toInt (by omega)]
                     exact h54)
                  | (refine bad0 (fun q => ?_)
                     obtain ⟨⟨x1, x2⟩, ⟨z1, z2⟩, hw⟩ := q
                     rcases hw with hw | ⟨_, hw, h5⟩
                     · omega
                     · rw [nn_toInt (by omega)] at h5
                       exact h54 h5)
              · skip
                refine g_iload_n k114_36 rfl ?_
                refine g_ifeqT k114_37 (t := 57) rfl (fun h37 => ?_) (fun h37 => ?_)
                · skip
                  refine g_iconst (v := nn 1) k114_57 ci_1 ?_
                  refine g_goto k114_58 (t := 62) rfl ?_
                  first
                    | (exfalso; omega)
                    | exact bad (fun q => by obtain ⟨⟨x1, x2⟩, ⟨z1, z2⟩, hw⟩ := q; omega)
                    | exact bad0 (fun q => by obtain ⟨⟨x1, x2⟩, ⟨z1, z2⟩, hw⟩ := q; omega)
                    | exact good ⟨⟨by omega, by omega⟩, ⟨by omega, by omega⟩, Or.inl (by omega)⟩
                    | (refine good ⟨⟨by omega, by omega⟩, ⟨by omega, by omega⟩, Or.inr ⟨by omega, hw, ?_⟩⟩
                       rw [nn_toInt (by omega)]
                       exact h54)
                    | (refine bad0 (fun q => ?_)
                       obtain ⟨⟨x1, x2⟩, ⟨z1, z2⟩, hw⟩ := q
                       rcases hw with hw | ⟨_, hw, h5⟩
                       · omega
                       · rw [nn_toInt (by omega)] at h5
                         exact h54 h5)
                · skip
                  refine g_aload_n k114_40 rfl ?_
                  refine g_iload_n k114_41 rfl ?_
                  refine m_callV1 k114_42 s114_42 c114_42 l115 (by omega) rfl rfl r114_42 rfl ?_
                  refine s_115 ok hR ?_
                  refine af_ret ?_
                  refine g_ifne_f k114_45 (t := 57) rfl (bb_f (fun q => q hw)) ?_
                  obtain ⟨u, hu, hul⟩ := in_nn hw
                  refine g_aload_n k114_48 rfl ?_
                  refine m_get k114_49 f114_49 rfl rfl ?_
                  refine g_iload_n k114_52 rfl ?_
                  have hma := (hR.2.1.2 u hul).1
                  have hm1 := (ok.2.2.2.1 u hul).1
                  subst hu
                  refine m_iald k114_53 hdy rfl rfl (by omega) (by omega) ?_
                  rw [hma]
                  refine g_ifeqN k114_54 (t := 61) rfl (by omega) (fun h54 => ?_) (fun h54 => ?_)
                  · skip
                    refine g_iconst (v := nn 0) k114_61 ci_0 ?_
                    first
                      | (exfalso; omega)
                      | exact bad (fun q => by obtain ⟨⟨x1, x2⟩, ⟨z1, z2⟩, hw⟩ := q; omega)
                      | exact bad0 (fun q => by obtain ⟨⟨x1, x2⟩, ⟨z1, z2⟩, hw⟩ := q; omega)
                      | exact good ⟨⟨by omega, by omega⟩, ⟨by omega, by omega⟩, Or.inl (by omega)⟩
                      | (refine good ⟨⟨by omega, by omega⟩, ⟨by omega, by omega⟩, Or.inr ⟨by omega, hw, ?_⟩⟩
                         rw [nn_toInt (by omega)]
                         exact h54)
                      | (refine bad0 (fun q => ?_)
                         obtain ⟨⟨x1, x2⟩, ⟨z1, z2⟩, hw⟩ := q
                         rcases hw with hw | ⟨_, hw, h5⟩
                         · omega
                         · rw [nn_toInt (by omega)] at h5
                           exact h54 h5)
                  · skip
                    refine g_iconst (v := nn 1) k114_57 ci_1 ?_
                    refine g_goto k114_58 (t := 62) rfl ?_
                    first
                      | (exfalso; omega)
                      | exact bad (fun q => by obtain ⟨⟨x1, x2⟩, ⟨z1, z2⟩, hw⟩ := q; omega)
                      | exact bad0 (fun q => by obtain ⟨⟨x1, x2⟩, ⟨z1, z2⟩, hw⟩ := q; omega)
                      | exact good ⟨⟨by omega, by omega⟩, ⟨by omega, by omega⟩, Or.inl (by omega)⟩
                      | (refine good ⟨⟨by omega, by omega⟩, ⟨by omega, by omega⟩, Or.inr ⟨by omega, hw, ?_⟩⟩
                         rw [nn_toInt (by omega)]
                         exact h54)
                      | (refine bad0 (fun q => ?_)
                         obtain ⟨⟨x1, x2⟩, ⟨z1, z2⟩, hw⟩ := q
                         rcases hw with hw | ⟨_, hw, h5⟩
                         · omega
                         · rw [nn_toInt (by omega)] at h5
                           exact h54 h5)
  · refine g_iload_n k114_0 rfl ?_
    refine g_iflt k114_1 (t := 19) rfl (fun h1 => ?_) (fun h1 => ?_)
    · skip
      refine g_iconst (v := nn 1) k114_19 ci_1 ?_
      refine g_goto k114_20 (t := 24) rfl ?_
      refine g_istore k114_24 rfl rfl ?_
      refine g_iload k114_26 rfl ?_
      refine g_ifneN k114_28 (t := 57) rfl (by omega) (fun h28 => ?_) (fun h28 => ?_)
      · skip
        refine g_iconst (v := nn 1) k114_57 ci_1 ?_
        refine g_goto k114_58 (t := 62) rfl ?_
        first
          | (exfalso; omega)
          | exact bad (fun q => by obtain ⟨⟨x1, x2⟩, ⟨z1, z2⟩, hw⟩ := q; omega)
          | exact bad0 (fun q => by obtain ⟨⟨x1, x2⟩, ⟨z1, z2⟩, hw⟩ := q; omega)
          | exact good ⟨⟨by omega, by omega⟩, ⟨by omega, by omega⟩, Or.inl (by omega)⟩
          | (refine bad0 (fun q => ?_)
             obtain ⟨⟨x1, x2⟩, ⟨z1, z2⟩, hw'⟩ := q
             rcases hw' with hw' | ⟨_, hw', h5⟩
             · omega
             · exact hw hw')
      · skip
        refine g_iload_n k114_31 rfl ?_
        refine g_iconst (v := -1) k114_32 ci_m1 ?_
        refine g_iceqT k114_33 (t := 61) rfl (fun h33 => ?_) (fun h33 => ?_)
        · skip
          refine g_iconst (v := nn 0) k114_61 ci_0 ?_
          first
            | (exfalso; omega)
            | exact bad (fun q => by obtain ⟨⟨x1, x2⟩, ⟨z1, z2⟩, hw⟩ := q; omega)
            | exact bad0 (fun q => by obtain ⟨⟨x1, x2⟩, ⟨z1, z2⟩, hw⟩ := q; omega)
            | exact good ⟨⟨by omega, by omega⟩, ⟨by omega, by omega⟩, Or.inl (by omega)⟩
            | (refine bad0 (fun q => ?_)
               obtain ⟨⟨x1, x2⟩, ⟨z1, z2⟩, hw'⟩ := q
               rcases hw' with hw' | ⟨_, hw', h5⟩
               · omega
               · exact hw hw')
        · skip
          refine g_iload_n k114_36 rfl ?_
          refine g_ifeqT k114_37 (t := 57) rfl (fun h37 => ?_) (fun h37 => ?_)
          · skip
            refine g_iconst (v := nn 1) k114_57 ci_1 ?_
            refine g_goto k114_58 (t := 62) rfl ?_
            first
              | (exfalso; omega)
              | exact bad (fun q => by obtain ⟨⟨x1, x2⟩, ⟨z1, z2⟩, hw⟩ := q; omega)
              | exact bad0 (fun q => by obtain ⟨⟨x1, x2⟩, ⟨z1, z2⟩, hw⟩ := q; omega)
              | exact good ⟨⟨by omega, by omega⟩, ⟨by omega, by omega⟩, Or.inl (by omega)⟩
              | (refine bad0 (fun q => ?_)
                 obtain ⟨⟨x1, x2⟩, ⟨z1, z2⟩, hw'⟩ := q
                 rcases hw' with hw' | ⟨_, hw', h5⟩
                 · omega
                 · exact hw hw')
          · skip
            refine g_aload_n k114_40 rfl ?_
            refine g_iload_n k114_41 rfl ?_
            refine m_callV1 k114_42 s114_42 c114_42 l115 (by omega) rfl rfl r114_42 rfl ?_
            refine s_115 ok hR ?_
            refine af_ret ?_
            refine g_ifne_t k114_45 (t := 57) rfl (by rw [bb_t hw]; decide) ?_
            refine g_iconst (v := nn 1) k114_57 ci_1 ?_
            refine g_goto k114_58 (t := 62) rfl ?_
            first
              | (exfalso; omega)
              | exact bad (fun q => by obtain ⟨⟨x1, x2⟩, ⟨z1, z2⟩, hw⟩ := q; omega)
              | exact bad0 (fun q => by obtain ⟨⟨x1, x2⟩, ⟨z1, z2⟩, hw⟩ := q; omega)
              | exact good ⟨⟨by omega, by omega⟩, ⟨by omega, by omega⟩, Or.inl (by omega)⟩
              | (refine bad0 (fun q => ?_)
                 obtain ⟨⟨x1, x2⟩, ⟨z1, z2⟩, hw'⟩ := q
                 rcases hw' with hw' | ⟨_, hw', h5⟩
                 · omega
                 · exact hw hw')
    · skip
      refine g_iload_n k114_4 rfl ?_
      refine g_iconst (v := nn 1) k114_5 ci_1 ?_
      refine g_icgt k114_6 (t := 19) rfl (fun h6 => ?_) (fun h6 => ?_)
      · skip
        refine g_iconst (v := nn 1) k114_19 ci_1 ?_
        refine g_goto k114_20 (t := 24) rfl ?_
        refine g_istore k114_24 rfl rfl ?_
        refine g_iload k114_26 rfl ?_
        refine g_ifneN k114_28 (t := 57) rfl (by omega) (fun h28 => ?_) (fun h28 => ?_)
        · skip
          refine g_iconst (v := nn 1) k114_57 ci_1 ?_
          refine g_goto k114_58 (t := 62) rfl ?_
          first
            | (exfalso; omega)
            | exact bad (fun q => by obtain ⟨⟨x1, x2⟩, ⟨z1, z2⟩, hw⟩ := q; omega)
            | exact bad0 (fun q => by obtain ⟨⟨x1, x2⟩, ⟨z1, z2⟩, hw⟩ := q; omega)
            | exact good ⟨⟨by omega, by omega⟩, ⟨by omega, by omega⟩, Or.inl (by omega)⟩
            | (refine bad0 (fun q => ?_)
               obtain ⟨⟨x1, x2⟩, ⟨z1, z2⟩, hw'⟩ := q
               rcases hw' with hw' | ⟨_, hw', h5⟩
               · omega
               · exact hw hw')
        · skip
          refine g_iload_n k114_31 rfl ?_
          refine g_iconst (v := -1) k114_32 ci_m1 ?_
          refine g_iceqT k114_33 (t := 61) rfl (fun h33 => ?_) (fun h33 => ?_)
          · skip
            refine g_iconst (v := nn 0) k114_61 ci_0 ?_
            first
              | (exfalso; omega)
              | exact bad (fun q => by obtain ⟨⟨x1, x2⟩, ⟨z1, z2⟩, hw⟩ := q; omega)
              | exact bad0 (fun q => by obtain ⟨⟨x1, x2⟩, ⟨z1, z2⟩, hw⟩ := q; omega)
              | exact good ⟨⟨by omega, by omega⟩, ⟨by omega, by omega⟩, Or.inl (by omega)⟩
              | (refine bad0 (fun q => ?_)
                 obtain ⟨⟨x1, x2⟩, ⟨z1, z2⟩, hw'⟩ := q
                 rcases hw' with hw' | ⟨_, hw', h5⟩
                 · omega
                 · exact hw hw')
          · skip
            refine g_iload_n k114_36 rfl ?_
            refine g_ifeqT k114_37 (t := 57) rfl (fun h37 => ?_) (fun h37 => ?_)
            · skip
              refine g_iconst (v := nn 1) k114_57 ci_1 ?_
              refine g_goto k114_58 (t := 62) rfl ?_
              first
                | (exfalso; omega)
                | exact bad (fun q => by obtain ⟨⟨x1, x2⟩, ⟨z1, z2⟩, hw⟩ := q; omega)
                | exact bad0 (fun q => by obtain ⟨⟨x1, x2⟩, ⟨z1, z2⟩, hw⟩ := q; omega)
                | exact good ⟨⟨by omega, by omega⟩, ⟨by omega, by omega⟩, Or.inl (by omega)⟩
                | (refine bad0 (fun q => ?_)
                   obtain ⟨⟨x1, x2⟩, ⟨z1, z2⟩, hw'⟩ := q
                   rcases hw' with hw' | ⟨_, hw', h5⟩
                   · omega
                   · exact hw hw')
            · skip
              refine g_aload_n k114_40 rfl ?_
              refine g_iload_n k114_41 rfl ?_
              refine m_callV1 k114_42 s114_42 c114_42 l115 (by omega) rfl rfl r114_42 rfl ?_
              refine s_115 ok hR ?_
              refine af_ret ?_
              refine g_ifne_t k114_45 (t := 57) rfl (by rw [bb_t hw]; decide) ?_
              refine g_iconst (v := nn 1) k114_57 ci_1 ?_
              refine g_goto k114_58 (t := 62) rfl ?_
              first
                | (exfalso; omega)
                | exact bad (fun q => by obtain ⟨⟨x1, x2⟩, ⟨z1, z2⟩, hw⟩ := q; omega)
                | exact bad0 (fun q => by obtain ⟨⟨x1, x2⟩, ⟨z1, z2⟩, hw⟩ := q; omega)
                | exact good ⟨⟨by omega, by omega⟩, ⟨by omega, by omega⟩, Or.inl (by omega)⟩
                | (refine bad0 (fun q => ?_)
                   obtain ⟨⟨x1, x2⟩, ⟨z1, z2⟩, hw'⟩ := q
                   rcases hw' with hw' | ⟨_, hw', h5⟩
                   · omega
                   · exact hw hw')
      · skip
        refine g_iload_n k114_9 rfl ?_
        refine g_iconst (v := nn 1) k114_10 ci_1 ?_
        refine g_iclt k114_11 (t := 19) rfl (fun h11 => ?_) (fun h11 => ?_)
        · skip
          refine g_iconst (v := nn 1) k114_19 ci_1 ?_
          refine g_goto k114_20 (t := 24) rfl ?_
          refine g_istore k114_24 rfl rfl ?_
          refine g_iload k114_26 rfl ?_
          refine g_ifneN k114_28 (t := 57) rfl (by omega) (fun h28 => ?_) (fun h28 => ?_)
          · skip
            refine g_iconst (v := nn 1) k114_57 ci_1 ?_
            refine g_goto k114_58 (t := 62) rfl ?_
            first
              | (exfalso; omega)
              | exact bad (fun q => by obtain ⟨⟨x1, x2⟩, ⟨z1, z2⟩, hw⟩ := q; omega)
              | exact bad0 (fun q => by obtain ⟨⟨x1, x2⟩, ⟨z1, z2⟩, hw⟩ := q; omega)
              | exact good ⟨⟨by omega, by omega⟩, ⟨by omega, by omega⟩, Or.inl (by omega)⟩
              | (refine bad0 (fun q => ?_)
                 obtain ⟨⟨x1, x2⟩, ⟨z1, z2⟩, hw'⟩ := q
                 rcases hw' with hw' | ⟨_, hw', h5⟩
                 · omega
                 · exact hw hw')
          · skip
            refine g_iload_n k114_31 rfl ?_
            refine g_iconst (v := -1) k114_32 ci_m1 ?_
            refine g_iceqT k114_33 (t := 61) rfl (fun h33 => ?_) (fun h33 => ?_)
            · skip
              refine g_iconst (v := nn 0) k114_61 ci_0 ?_
              first
                | (exfalso; omega)
                | exact bad (fun q => by obtain ⟨⟨x1, x2⟩, ⟨z1, z2⟩, hw⟩ := q; omega)
                | exact bad0 (fun q => by obtain ⟨⟨x1, x2⟩, ⟨z1, z2⟩, hw⟩ := q; omega)
                | exact good ⟨⟨by omega, by omega⟩, ⟨by omega, by omega⟩, Or.inl (by omega)⟩
                | (refine bad0 (fun q => ?_)
                   obtain ⟨⟨x1, x2⟩, ⟨z1, z2⟩, hw'⟩ := q
                   rcases hw' with hw' | ⟨_, hw', h5⟩
                   · omega
                   · exact hw hw')
            · skip
              refine g_iload_n k114_36 rfl ?_
              refine g_ifeqT k114_37 (t := 57) rfl (fun h37 => ?_) (fun h37 => ?_)
              · skip
                refine g_iconst (v := nn 1) k114_57 ci_1 ?_
                refine g_goto k114_58 (t := 62) rfl ?_
                first
                  | (exfalso; omega)
                  | exact bad (fun q => by obtain ⟨⟨x1, x2⟩, ⟨z1, z2⟩, hw⟩ := q; omega)
                  | exact bad0 (fun q => by obtain ⟨⟨x1, x2⟩, ⟨z1, z2⟩, hw⟩ := q; omega)
                  | exact good ⟨⟨by omega, by omega⟩, ⟨by omega, by omega⟩, Or.inl (by omega)⟩
                  | (refine bad0 (fun q => ?_)
                     obtain ⟨⟨x1, x2⟩, ⟨z1, z2⟩, hw'⟩ := q
                     rcases hw' with hw' | ⟨_, hw', h5⟩
                     · omega
                     · exact hw hw')
              · skip
                refine g_aload_n k114_40 rfl ?_
                refine g_iload_n k114_41 rfl ?_
                refine m_callV1 k114_42 s114_42 c114_42 l115 (by omega) rfl rfl r114_42 rfl ?_
                refine s_115 ok hR ?_
                refine af_ret ?_
                refine g_ifne_t k114_45 (t := 57) rfl (by rw [bb_t hw]; decide) ?_
                refine g_iconst (v := nn 1) k114_57 ci_1 ?_
                refine g_goto k114_58 (t := 62) rfl ?_
                first
                  | (exfalso; omega)
                  | exact bad (fun q => by obtain ⟨⟨x1, x2⟩, ⟨z1, z2⟩, hw⟩ := q; omega)
                  | exact bad0 (fun q => by obtain ⟨⟨x1, x2⟩, ⟨z1, z2⟩, hw⟩ := q; omega)
                  | exact good ⟨⟨by omega, by omega⟩, ⟨by omega, by omega⟩, Or.inl (by omega)⟩
                  | (refine bad0 (fun q => ?_)
                     obtain ⟨⟨x1, x2⟩, ⟨z1, z2⟩, hw'⟩ := q
                     rcases hw' with hw' | ⟨_, hw', h5⟩
                     · omega
                     · exact hw hw')
        · skip
          refine g_iload_n k114_14 rfl ?_
          refine g_iconst (v := nn 4) k114_15 ci_4 ?_
          refine g_icle k114_16 (t := 23) rfl (fun h16 => ?_) (fun h16 => ?_)
          · skip
            refine g_iconst (v := nn 0) k114_23 ci_0 ?_
            refine g_istore k114_24 rfl rfl ?_
            refine g_iload k114_26 rfl ?_
            refine g_ifneN k114_28 (t := 57) rfl (by omega) (fun h28 => ?_) (fun h28 => ?_)
            · skip
              refine g_iconst (v := nn 1) k114_57 ci_1 ?_
              refine g_goto k114_58 (t := 62) rfl ?_
              first
                | (exfalso; omega)
                | exact bad (fun q => by obtain ⟨⟨x1, x2⟩, ⟨z1, z2⟩, hw⟩ := q; omega)
                | exact bad0 (fun q => by obtain ⟨⟨x1, x2⟩, ⟨z1, z2⟩, hw⟩ := q; omega)
                | exact good ⟨⟨by omega, by omega⟩, ⟨by omega, by omega⟩, Or.inl (by omega)⟩
                | (refine bad0 (fun q => ?_)
                   obtain ⟨⟨x1, x2⟩, ⟨z1, z2⟩, hw'⟩ := q
                   rcases hw' with hw' | ⟨_, hw', h5⟩
                   · omega
                   · exact hw hw')
            · skip
              refine g_iload_n k114_31 rfl ?_
              refine g_iconst (v := -1) k114_32 ci_m1 ?_
              refine g_iceqT k114_33 (t := 61) rfl (fun h33 => ?_) (fun h33 => ?_)
              · skip
                refine g_iconst (v := nn 0) k114_61 ci_0 ?_
                first
                  | (exfalso; omega)
                  | exact bad (fun q => by obtain ⟨⟨x1, x2⟩, ⟨z1, z2⟩, hw⟩ := q; omega)
                  | exact bad0 (fun q => by obtain ⟨⟨x1, x2⟩, ⟨z1, z2⟩, hw⟩ := q; omega)
                  | exact good ⟨⟨by omega, by omega⟩, ⟨by omega, by omega⟩, Or.inl (by omega)⟩
                  | (refine bad0 (fun q => ?_)
                     obtain ⟨⟨x1, x2⟩, ⟨z1, z2⟩, hw'⟩ := q
                     rcases hw' with hw' | ⟨_, hw', h5⟩
                     · omega
                     · exact hw hw')
              · skip
                refine g_iload_n k114_36 rfl ?_
                refine g_ifeqT k114_37 (t := 57) rfl (fun h37 => ?_) (fun h37 => ?_)
                · skip
                  refine g_iconst (v := nn 1) k114_57 ci_1 ?_
                  refine g_goto k114_58 (t := 62) rfl ?_
                  first
                    | (exfalso; omega)
                    | exact bad (fun q => by obtain ⟨⟨x1, x2⟩, ⟨z1, z2⟩, hw⟩ := q; omega)
                    | exact bad0 (fun q => by obtain ⟨⟨x1, x2⟩, ⟨z1, z2⟩, hw⟩ := q; omega)
                    | exact good ⟨⟨by omega, by omega⟩, ⟨by omega, by omega⟩, Or.inl (by omega)⟩
                    | (refine bad0 (fun q => ?_)
                       obtain ⟨⟨x1, x2⟩, ⟨z1, z2⟩, hw'⟩ := q
                       rcases hw' with hw' | ⟨_, hw', h5⟩
                       · omega
                       · exact hw hw')
                · skip
                  refine g_aload_n k114_40 rfl ?_
                  refine g_iload_n k114_41 rfl ?_
                  refine m_callV1 k114_42 s114_42 c114_42 l115 (by omega) rfl rfl r114_42 rfl ?_
                  refine s_115 ok hR ?_
                  refine af_ret ?_
                  refine g_ifne_t k114_45 (t := 57) rfl (by rw [bb_t hw]; decide) ?_
                  refine g_iconst (v := nn 1) k114_57 ci_1 ?_
                  refine g_goto k114_58 (t := 62) rfl ?_
                  first
                    | (exfalso; omega)
                    | exact bad (fun q => by obtain ⟨⟨x1, x2⟩, ⟨z1, z2⟩, hw⟩ := q; omega)
                    | exact bad0 (fun q => by obtain ⟨⟨x1, x2⟩, ⟨z1, z2⟩, hw⟩ := q; omega)
                    | exact good ⟨⟨by omega, by omega⟩, ⟨by omega, by omega⟩, Or.inl (by omega)⟩
                    | (refine bad0 (fun q => ?_)
                       obtain ⟨⟨x1, x2⟩, ⟨z1, z2⟩, hw'⟩ := q
                       rcases hw' with hw' | ⟨_, hw', h5⟩
                       · omega
                       · exact hw hw')
          · skip
            refine g_iconst (v := nn 1) k114_19 ci_1 ?_
            refine g_goto k114_20 (t := 24) rfl ?_
            refine g_istore k114_24 rfl rfl ?_
            refine g_iload k114_26 rfl ?_
            refine g_ifneN k114_28 (t := 57) rfl (by omega) (fun h28 => ?_) (fun h28 => ?_)
            · skip
              refine g_iconst (v := nn 1) k114_57 ci_1 ?_
              refine g_goto k114_58 (t := 62) rfl ?_
              first
                | (exfalso; omega)
                | exact bad (fun q => by obtain ⟨⟨x1, x2⟩, ⟨z1, z2⟩, hw⟩ := q; omega)
                | exact bad0 (fun q => by obtain ⟨⟨x1, x2⟩, ⟨z1, z2⟩, hw⟩ := q; omega)
                | exact good ⟨⟨by omega, by omega⟩, ⟨by omega, by omega⟩, Or.inl (by omega)⟩
                | (refine bad0 (fun q => ?_)
                   obtain ⟨⟨x1, x2⟩, ⟨z1, z2⟩, hw'⟩ := q
                   rcases hw' with hw' | ⟨_, hw', h5⟩
                   · omega
                   · exact hw hw')
            · skip
              refine g_iload_n k114_31 rfl ?_
              refine g_iconst (v := -1) k114_32 ci_m1 ?_
              refine g_iceqT k114_33 (t := 61) rfl (fun h33 => ?_) (fun h33 => ?_)
              · skip
                refine g_iconst (v := nn 0) k114_61 ci_0 ?_
                first
                  | (exfalso; omega)
                  | exact bad (fun q => by obtain ⟨⟨x1, x2⟩, ⟨z1, z2⟩, hw⟩ := q; omega)
                  | exact bad0 (fun q => by obtain ⟨⟨x1, x2⟩, ⟨z1, z2⟩, hw⟩ := q; omega)
                  | exact good ⟨⟨by omega, by omega⟩, ⟨by omega, by omega⟩, Or.inl (by omega)⟩
                  | (refine bad0 (fun q => ?_)
                     obtain ⟨⟨x1, x2⟩, ⟨z1, z2⟩, hw'⟩ := q
                     rcases hw' with hw' | ⟨_, hw', h5⟩
                     · omega
                     · exact hw hw')
              · skip
                refine g_iload_n k114_36 rfl ?_
                refine g_ifeqT k114_37 (t := 57) rfl (fun h37 => ?_) (fun h37 => ?_)
                · skip
                  refine g_iconst (v := nn 1) k114_57 ci_1 ?_
                  refine g_goto k114_58 (t := 62) rfl ?_
                  first
                    | (exfalso; omega)
                    | exact bad (fun q => by obtain ⟨⟨x1, x2⟩, ⟨z1, z2⟩, hw⟩ := q; omega)
                    | exact bad0 (fun q => by obtain ⟨⟨x1, x2⟩, ⟨z1, z2⟩, hw⟩ := q; omega)
                    | exact good ⟨⟨by omega, by omega⟩, ⟨by omega, by omega⟩, Or.inl (by omega)⟩
                    | (refine bad0 (fun q => ?_)
                       obtain ⟨⟨x1, x2⟩, ⟨z1, z2⟩, hw'⟩ := q
                       rcases hw' with hw' | ⟨_, hw', h5⟩
                       · omega
                       · exact hw hw')
                · skip
                  refine g_aload_n k114_40 rfl ?_
                  refine g_iload_n k114_41 rfl ?_
                  refine m_callV1 k114_42 s114_42 c114_42 l115 (by omega) rfl rfl r114_42 rfl ?_
                  refine s_115 ok hR ?_
                  refine af_ret ?_
                  refine g_ifne_t k114_45 (t := 57) rfl (by rw [bb_t hw]; decide) ?_
                  refine g_iconst (v := nn 1) k114_57 ci_1 ?_
                  refine g_goto k114_58 (t := 62) rfl ?_
                  first
                    | (exfalso; omega)
                    | exact bad (fun q => by obtain ⟨⟨x1, x2⟩, ⟨z1, z2⟩, hw⟩ := q; omega)
                    | exact bad0 (fun q => by obtain ⟨⟨x1, x2⟩, ⟨z1, z2⟩, hw⟩ := q; omega)
                    | exact good ⟨⟨by omega, by omega⟩, ⟨by omega, by omega⟩, Or.inl (by omega)⟩
                    | (refine bad0 (fun q => ?_)
                       obtain ⟨⟨x1, x2⟩, ⟨z1, z2⟩, hw'⟩ := q
                       rcases hw' with hw' | ⟨_, hw', h5⟩
                       · omega
                       · exact hw hw')
/-- a guard, an assignment, a witness, an invariant, the variant is told -/
def td_sg (A : TD) (e f : Nat) : TD := (A.1, (td_ne A, td_ma A, td_rg A, td_rf A, (fun j => if j = e then some f else td_gd A j), td_wt A, td_as A), A.2.2)
def td_sw (A : TD) (e f : Nat) : TD := (A.1, (td_ne A, td_ma A, td_rg A, td_rf A, td_gd A, (fun j => if j = e then some f else td_wt A j), td_as A), A.2.2)
def td_sa (A : TD) (e v f : Nat) : TD := (A.1, (td_ne A, td_ma A, td_rg A, td_rf A, td_gd A, td_wt A, fun j u => if j = e ∧ u = v then some f else td_as A j u), A.2.2)
def td_ai (A : TD) (m f : Nat) : TD := (A.1, A.2.1, ((fun j => if j = m then td_ic A m + 1 else td_ic A j), (fun j i => if j = m ∧ i = td_ic A m then f else td_iv A j i), td_vr A), A.2.2.2)
def td_sr (A : TD) (f : Nat) : TD := (A.1, A.2.1, (td_ic A, td_iv A, some f), A.2.2.2)
theorem RepM.sg {e f : Nat} (hR : RepM A σ) : RepM (td_sg A e f) (up2 σ 36 e (nn f)) := by
  obtain ⟨a, ⟨b1, b2⟩, c, d, g, h⟩ := hR
  refine ⟨a, ⟨b1, fun k hk => ?_⟩, c, d, g, h⟩
  obtain ⟨q1, q2, q3, q4, q5⟩ := b2 k hk
  refine ⟨q1, q2, q3, ?_, q5⟩
  show _ = oi (if k = e then some f else td_gd A k)
  rw [up2_of]
  split
  · rfl
  · exact q4
theorem RepM.sw {e f : Nat} (hR : RepM A σ) : RepM (td_sw A e f) (up2 σ 38 e (nn f)) := by
  obtain ⟨a, ⟨b1, b2⟩, c, d, g, h⟩ := hR
  refine ⟨a, ⟨b1, fun k hk => ?_⟩, c, d, g, h⟩
  obtain ⟨q1, q2, q3, q4, q5⟩ := b2 k hk
  refine ⟨q1, q2, q3, q4, ?_⟩
  show _ = oi (if k = e then some f else td_wt A k)
  rw [up2_of]
  split
  · rfl
  · exact q5
theorem RepM.sa {e v f : Nat} (hv : v < 6) (hR : RepM A σ) : RepM (td_sa A e v f) (up2 σ 37 (6 * e + v) (nn f)) := by
  obtain ⟨a, b, c, d, g, h⟩ := hR
  refine ⟨a, b, fun k u hk hu => ?_, d, g, h⟩
  show _ = oi (if k = e ∧ u = v then some f else td_as A k u)
  rw [up2_of]
  by_cases hc : k = e ∧ u = v
  · rw [if_pos hc, if_pos (by omega)]
    rfl
  · rw [if_neg hc, if_neg (by omega)]
    exact c k u hk hu
theorem RepM.ai {m f : Nat} (hm : m < 2) (h6 : td_ic A m < 6) (hall : ∀ k, k < 2 → td_ic A k ≤ 6) (hR : RepM A σ) : RepM (td_ai A m f) (up2 (up2 σ 40 (6 * m + td_ic A m) (nn f)) 39 m (nn (td_ic A m + 1))) := by
  obtain ⟨a, b, c, ⟨d1, d2⟩, g, h⟩ := hR
  refine ⟨a, b, c, ⟨fun k hk => ?_, fun k i hk hi => ?_⟩, g, h⟩
  · show _ = nn (if k = m then td_ic A m + 1 else td_ic A k)
    rw [up2_of]
    split
    · rfl
    · exact d1 k hk
  · have hi : i < (if k = m then td_ic A m + 1 else td_ic A k) := hi
    show _ = nn (if k = m ∧ i = td_ic A m then f else td_iv A k i)
    rw [up2_ne (Or.inl (by decide)), up2_of]
    by_cases hc : k = m ∧ i = td_ic A m
    · rw [if_pos hc, if_pos (by omega)]
    · rw [if_neg hc]
      by_cases hk2 : k = m
      · rw [if_pos hk2] at hi
        rw [if_neg (by omega)]
        exact d2 k i hk (by rw [hk2]; omega)
      · rw [if_neg hk2] at hi
        rw [d2 k i hk hi]
        by_cases hc2 : 6 * k + i = 6 * m + td_ic A m
        · exfalso
          have h7 := hall k hk
          omega
        · rw [if_neg hc2]
theorem RepM.sr {f : Nat} (hR : RepM A σ) : RepM (td_sr A f) (up2 σ 24 20 (nn f)) := by
  obtain ⟨a, b, c, d, g, h⟩ := hR
  exact ⟨a, b, c, d, rfl, h⟩
theorem no_f {tr : Bool} (h : td_no A x z tr = false) : (0 ≤ x.toInt ∧ x.toInt < td_ne A) ∧ (0 ≤ z.toInt ∧ z.toInt < td_nf A) := by
  unfold td_no at h
  simp only [Bool.not_eq_false', Bool.and_eq_true, decide_eq_true_eq] at h
  exact ⟨h.1.1.1, h.1.1.2⟩
theorem s_116 (hdy : dy.length < 100000) (ok : TOK A) (hR : RepM A σ) (hW : RunM W σ) (k1 : td_no A x z true = true → ∀ σ', oM A W 1 σ σ' → Q (.inl none) (mk dy σ' ρ τ)) (k0 : td_no A x z true = false → ∀ σ', oM (td_sg A x.toInt.toNat z.toInt.toNat) W 0 σ σ' → Q (.inl none) (mk dy σ' ρ τ)) : go (tb_P L xs) 116 0 [some (.ref 24), some (.int x), some (.int z)] [] (mk dy σ ρ τ) Q := by
  have h0 : ∀ v, up2 σ 24 0 v 24 0 = v := fun v => rfl
  have hne := ok.2.2.1
  have hnf := ok.1
  by_cases hb : td_no A x z true = true
  · refine g_aload_n k116_0 rfl ?_
    refine g_aload_n k116_1 rfl ?_
    refine g_iload_n k116_2 rfl ?_
    refine g_iload_n k116_3 rfl ?_
    refine g_iconst (v := nn 1) k116_4 ci_1 ?_
    refine m_callV3 k116_5 s116_5 c116_5 l117 (by omega) ⟨rfl, rfl, rfl⟩ rfl r116_5 rfl ?_
    refine s_117 (tr := true) ok hR ?_ hdy
    refine af_ret ?_
    refine g_ifeq_f k116_8 (t := 15) rfl (by rw [bb_t hb]; decide) ?_
    refine g_iconst (v := nn 1) k116_11 ci_1 ?_
    refine g_goto k116_12 (t := 16) rfl ?_
    refine m_putI k116_16 f116_16 rfl rfl rfl ?_
    refine g_aload_n k116_19 rfl ?_
    refine m_get k116_20 f116_20 rfl rfl ?_
    rw [h0]
    refine g_ifne_t k116_23 (t := 33) rfl (by decide) ?_
    refine g_return k116_33 t116 ?_
    exact k1 hb _ (oM_t hR hW)
  · have hb' : td_no A x z true = false := by simpa using hb
    have hq := k0 hb'
    obtain ⟨hx, hz⟩ := no_f hb'
    obtain ⟨e, rfl, he⟩ := in_nn hx
    obtain ⟨f, rfl, hf⟩ := in_nn hz
    rw [nn_toInt (by omega), nn_toInt (by omega)] at hq
    simp only [Int.toNat_natCast] at hq
    refine g_aload_n k116_0 rfl ?_
    refine g_aload_n k116_1 rfl ?_
    refine g_iload_n k116_2 rfl ?_
    refine g_iload_n k116_3 rfl ?_
    refine g_iconst (v := nn 1) k116_4 ci_1 ?_
    refine m_callV3 k116_5 s116_5 c116_5 l117 (by omega) ⟨rfl, rfl, rfl⟩ rfl r116_5 rfl ?_
    refine s_117 (tr := true) ok hR ?_ hdy
    refine af_ret ?_
    refine g_ifeq_t k116_8 (t := 15) rfl (bb_f hb) ?_
    refine g_iconst (v := nn 0) k116_15 ci_0 ?_
    refine m_putI k116_16 f116_16 rfl rfl rfl ?_
    refine g_aload_n k116_19 rfl ?_
    refine m_get k116_20 f116_20 rfl rfl ?_
    rw [h0]
    refine g_ifne_f k116_23 (t := 33) rfl rfl ?_
    refine g_aload_n k116_26 rfl ?_
    refine m_get k116_27 f116_27 rfl rfl ?_
    refine g_iload_n k116_30 rfl ?_
    refine g_iload_n k116_31 rfl ?_
    refine m_iast k116_32 rfl rfl (by omega) (by omega) ?_
    refine g_return k116_33 t116 ?_
    exact hq _ ⟨((fM.rf σ).up (by omega)).up (by omega), RepM.sg (hR.agr (fun a k h => up2_ne (by omega))), hW.agr (fun a k h => by rw [up2_ne (by omega), up2_ne (by omega)]), rfl⟩
theorem s_120 (hdy : dy.length < 100000) (ok : TOK A) (hR : RepM A σ) (hW : RunM W σ) (k1 : ¬ (td_no A x z false = false ∧ td_rf A x.toInt.toNat ≠ none) → ∀ σ', oM A W 1 σ σ' → Q (.inl none) (mk dy σ' ρ τ)) (k0 : td_no A x z false = false → td_rf A x.toInt.toNat ≠ none → ∀ σ', oM (td_sw A x.toInt.toNat z.toInt.toNat) W 0 σ σ' → Q (.inl none) (mk dy σ' ρ τ)) : go (tb_P L xs) 120 0 [some (.ref 24), some (.int x), some (.int z)] [] (mk dy σ ρ τ) Q := by
  have h0 : ∀ v, up2 σ 24 0 v 24 0 = v := fun v => rfl
  have hne := ok.2.2.1
  have hnf := ok.1
  by_cases hb : td_no A x z false = true
  · refine g_aload_n k120_0 rfl ?_
    refine g_aload_n k120_1 rfl ?_
    refine g_iload_n k120_2 rfl ?_
    refine g_iload_n k120_3 rfl ?_
    refine g_iconst (v := nn 0) k120_4 ci_0 ?_
    refine m_callV3 k120_5 s120_5 c120_5 l117 (by omega) ⟨rfl, rfl, rfl⟩ rfl r120_5 rfl ?_
    refine s_117 (tr := false) ok hR ?_ hdy
    refine af_ret ?_
    refine g_ifne_t k120_8 (t := 21) rfl (by rw [bb_t hb]; decide) ?_
    refine g_iconst (v := nn 1) k120_21 ci_1 ?_
    refine g_goto k120_22 (t := 26) rfl ?_
    refine m_putI k120_26 f120_26 rfl rfl rfl ?_
    refine g_aload_n k120_29 rfl ?_
    refine m_get k120_30 f120_30 rfl rfl ?_
    rw [h0]
    refine g_ifne_t k120_33 (t := 43) rfl (by decide) ?_
    refine g_return k120_43 t120 ?_
    exact k1 (fun q => by rw [hb] at q; cases q.1) _ (oM_t hR hW)
  · have hb' : td_no A x z false = false := by simpa using hb
    have hq := k0 hb'
    have hq1 := k1
    obtain ⟨hx, hz⟩ := no_f hb'
    obtain ⟨e, rfl, he⟩ := in_nn hx
    obtain ⟨f, rfl, hf⟩ := in_nn hz
    rw [nn_toInt (by omega), nn_toInt (by omega)] at hq
    rw [nn_toInt (k := e) (by omega)] at hq1
    simp only [Int.toNat_natCast] at hq hq1
    have h35 := (hR.2.1.2 e he).2.2.1
    have hrf := (ok.2.2.2.1 e he).2.2.1
    cases hc : td_rf A e with
    | none =>
      refine g_aload_n k120_0 rfl ?_
      refine g_aload_n k120_1 rfl ?_
      refine g_iload_n k120_2 rfl ?_
      refine g_iload_n k120_3 rfl ?_
      refine g_iconst (v := nn 0) k120_4 ci_0 ?_
      refine m_callV3 k120_5 s120_5 c120_5 l117 (by omega) ⟨rfl, rfl, rfl⟩ rfl r120_5 rfl ?_
      refine s_117 (tr := false) ok hR ?_ hdy
      refine af_ret ?_
      refine g_ifne_f k120_8 (t := 21) rfl (bb_f hb) ?_
      refine g_aload_n k120_11 rfl ?_
      refine m_get k120_12 f120_12 rfl rfl ?_
      refine g_iload_n k120_15 rfl ?_
      refine m_iald k120_16 hdy rfl rfl (by omega) (by omega) ?_
      rw [h35, hc]
      refine g_iconst (v := -1) k120_17 ci_m1 ?_
      refine g_icne_f k120_18 (t := 25) rfl rfl ?_
      refine g_iconst (v := nn 1) k120_21 ci_1 ?_
      refine g_goto k120_22 (t := 26) rfl ?_
      refine m_putI k120_26 f120_26 rfl rfl rfl ?_
      refine g_aload_n k120_29 rfl ?_
      refine m_get k120_30 f120_30 rfl rfl ?_
      rw [h0]
      refine g_ifne_t k120_33 (t := 43) rfl (by decide) ?_
      refine g_return k120_43 t120 ?_
      exact hq1 (fun q => q.2 hc) _ (oM_t hR hW)
    | some u =>
      have hu := (hrf u hc).1
      refine g_aload_n k120_0 rfl ?_
      refine g_aload_n k120_1 rfl ?_
      refine g_iload_n k120_2 rfl ?_
      refine g_iload_n k120_3 rfl ?_
      refine g_iconst (v := nn 0) k120_4 ci_0 ?_
      refine m_callV3 k120_5 s120_5 c120_5 l117 (by omega) ⟨rfl, rfl, rfl⟩ rfl r120_5 rfl ?_
      refine s_117 (tr := false) ok hR ?_ hdy
      refine af_ret ?_
      refine g_ifne_f k120_8 (t := 21) rfl (bb_f hb) ?_
      refine g_aload_n k120_11 rfl ?_
      refine m_get k120_12 f120_12 rfl rfl ?_
      refine g_iload_n k120_15 rfl ?_
      refine m_iald k120_16 hdy rfl rfl (by omega) (by omega) ?_
      rw [h35, hc]
      refine g_iconst (v := -1) k120_17 ci_m1 ?_
      refine g_icne_t k120_18 (t := 25) rfl (fun q => ti_nn_m1 (k := u) (by omega) (congrArg Int32.toInt q)) ?_
      refine g_iconst (v := nn 0) k120_25 ci_0 ?_
      refine m_putI k120_26 f120_26 rfl rfl rfl ?_
      refine g_aload_n k120_29 rfl ?_
      refine m_get k120_30 f120_30 rfl rfl ?_
      rw [h0]
      refine g_ifne_f k120_33 (t := 43) rfl rfl ?_
      refine g_aload_n k120_36 rfl ?_
      refine m_get k120_37 f120_37 rfl rfl ?_
      refine g_iload_n k120_40 rfl ?_
      refine g_iload_n k120_41 rfl ?_
      refine m_iast k120_42 rfl rfl (by omega) (by omega) ?_
      refine g_return k120_43 t120 ?_
      exact hq (by rw [hc]; exact fun q => by cases q) _ ⟨((fM.rf σ).up (by omega)).up (by omega), RepM.sw (hR.agr (fun a k h => up2_ne (by omega))), hW.agr (fun a k h => by rw [up2_ne (by omega), up2_ne (by omega)]), rfl⟩
/-- an assignment may be told so -/
def aok (A : TD) (x w z : Int32) : Prop := td_no A x z false = false ∧ (0 ≤ w.toInt ∧ w.toInt < 6) ∧ w.toInt.toNat / 3 = td_ma A x.toInt.toNat
theorem nn_d3 {v : Nat} (h : v < 6) : nn v / nn 3 = nn (v / 3) := by
  have h1 : v = 0 ∨ v = 1 ∨ v = 2 ∨ v = 3 ∨ v = 4 ∨ v = 5 := by omega
  rcases h1 with rfl | rfl | rfl | rfl | rfl | rfl <;> decide +kernel
theorem s_119 (hdy : dy.length < 100000) (ok : TOK A) (hR : RepM A σ) (hW : RunM W σ) (k1 : ¬ aok A x w z → ∀ σ', oM A W 1 σ σ' → Q (.inl none) (mk dy σ' ρ τ)) (k0 : aok A x w z → ∀ σ', oM (td_sa A x.toInt.toNat w.toInt.toNat z.toInt.toNat) W 0 σ σ' → Q (.inl none) (mk dy σ' ρ τ)) : go (tb_P L xs) 119 0 [some (.ref 24), some (.int x), some (.int w), some (.int z)] [] (mk dy σ ρ τ) Q := by
  have h0 : ∀ v, up2 σ 24 0 v 24 0 = v := fun v => rfl
  have hne := ok.2.2.1
  have hnf := ok.1
  have t5 := ti_5
  have bad : ¬ aok A x w z → go (tb_P L xs) 119 37 [some (.ref 24), some (.int x), some (.int w), some (.int z)] [.int (nn 1), .ref 24] (mk dy σ ρ τ) Q := by
    intro hb
    refine m_putI k119_37 f119_37 rfl rfl rfl ?_
    refine g_aload_n k119_40 rfl ?_
    refine m_get k119_41 f119_41 rfl rfl ?_
    rw [h0]
    refine g_ifne_t k119_44 (t := 59) rfl (by decide) ?_
    refine g_return k119_59 t119 ?_
    exact k1 hb _ (oM_t hR hW)
  by_cases hb : td_no A x z false = true
  · refine g_aload_n k119_0 rfl ?_
    refine g_aload_n k119_1 rfl ?_
    refine g_iload_n k119_2 rfl ?_
    refine g_iload_n k119_3 rfl ?_
    refine g_iconst (v := nn 0) k119_4 ci_0 ?_
    refine m_callV3 k119_5 s119_5 c119_5 l117 (by omega) ⟨rfl, rfl, rfl⟩ rfl r119_5 rfl ?_
    refine s_117 (tr := false) ok hR ?_ hdy
    refine af_ret ?_
    refine g_ifne_t k119_8 (t := 32) rfl (by rw [bb_t hb]; decide) ?_
    refine g_iconst (v := nn 1) k119_32 ci_1 ?_
    refine g_goto k119_33 (t := 37) rfl ?_
    exact bad (fun q => by have q1 := q.1; rw [hb] at q1; cases q1)
  · have hb' : td_no A x z false = false := by simpa using hb
    by_cases hw : 0 ≤ w.toInt ∧ w.toInt < 6
    · obtain ⟨hx, hz⟩ := no_f hb'
      have hmx : ∀ e, e < td_ne A → (td_ma A e = 0 ∨ td_ma A e = 1) ∧ σ 33 e = nn (td_ma A e) := fun e he => ⟨by have := (ok.2.2.2.1 e he).1; omega, (hR.2.1.2 e he).1⟩
      by_cases hm : w.toInt.toNat / 3 = td_ma A x.toInt.toNat
      · have hq := k0 ⟨hb', hw, hm⟩
        obtain ⟨e, rfl, he⟩ := in_nn hx
        obtain ⟨f, rfl, hf⟩ := in_nn hz
        obtain ⟨v, rfl, hv⟩ := in_nn (n := 6) hw
        rw [nn_toInt (by omega), nn_toInt (by omega), nn_toInt (by omega)] at hq
        rw [nn_toInt (by omega), nn_toInt (by omega)] at hm
        simp only [Int.toNat_natCast] at hq hm
        obtain ⟨hm1, hm2⟩ := hmx e he
        refine g_aload_n k119_0 rfl ?_
        refine g_aload_n k119_1 rfl ?_
        refine g_iload_n k119_2 rfl ?_
        refine g_iload_n k119_3 rfl ?_
        refine g_iconst (v := nn 0) k119_4 ci_0 ?_
        refine m_callV3 k119_5 s119_5 c119_5 l117 (by omega) ⟨rfl, rfl, rfl⟩ rfl r119_5 rfl ?_
        refine s_117 (tr := false) ok hR ?_ hdy
        refine af_ret ?_
        refine g_ifne_f k119_8 (t := 32) rfl (bb_f hb) ?_
        refine g_iload_n k119_11 rfl ?_
        refine g_ifltN (t := 32) k119_12 rfl (by omega) ?_
        refine g_iload_n k119_15 rfl ?_
        refine g_iconst (v := nn 5) k119_16 ci_5 ?_
        refine g_icgt_f k119_17 (t := 32) rfl (by rw [nn_toInt (by omega), ti_5]; omega) ?_
        refine g_iload_n k119_20 rfl ?_
        refine g_iconst (v := nn 3) k119_21 ci_3 ?_
        refine g_idiv k119_22 (by decide) ?_
        rw [nn_d3 hv]
        refine g_aload_n k119_23 rfl ?_
        refine m_get k119_24 f119_24 rfl rfl ?_
        refine g_iload_n k119_27 rfl ?_
        refine m_iald k119_28 hdy rfl rfl (by omega) (by omega) ?_
        rw [hm2]
        refine g_iceq_t k119_29 (t := 36) rfl (by rw [hm]) ?_
        refine g_iconst (v := nn 0) k119_36 ci_0 ?_
        refine m_putI k119_37 f119_37 rfl rfl rfl ?_
        refine g_aload_n k119_40 rfl ?_
        refine m_get k119_41 f119_41 rfl rfl ?_
        rw [h0]
        refine g_ifne_f k119_44 (t := 59) rfl rfl ?_
        refine g_aload_n k119_47 rfl ?_
        refine m_get k119_48 f119_48 rfl rfl ?_
        refine g_bipush (v := nn 6) k119_51 cb_6 ?_
        refine g_iload_n k119_53 rfl ?_
        refine g_imulN k119_54 ?_
        refine g_iload_n k119_55 rfl ?_
        refine g_iaddN k119_56 ?_
        refine g_iload_n k119_57 rfl ?_
        refine m_iast k119_58 rfl rfl (by omega) (by omega) ?_
        refine g_return k119_59 t119 ?_
        exact hq _ ⟨((fM.rf σ).up (by omega)).up (by omega), RepM.sa hv (hR.agr (fun a k h => up2_ne (by omega))), hW.agr (fun a k h => by rw [up2_ne (by omega), up2_ne (by omega)]), rfl⟩
      · have hq := bad (fun q => hm q.2.2)
        obtain ⟨e, rfl, he⟩ := in_nn hx
        obtain ⟨f, rfl, hf⟩ := in_nn hz
        obtain ⟨v, rfl, hv⟩ := in_nn (n := 6) hw
        rw [nn_toInt (by omega), nn_toInt (by omega)] at hm
        simp only [Int.toNat_natCast] at hm
        obtain ⟨hm1, hm2⟩ := hmx e he
        refine g_aload_n k119_0 rfl ?_
        refine g_aload_n k119_1 rfl ?_
        refine g_iload_n k119_2 rfl ?_
        refine g_iload_n k119_3 rfl ?_
        refine g_iconst (v := nn 0) k119_4 ci_0 ?_
        refine m_callV3 k119_5 s119_5 c119_5 l117 (by omega) ⟨rfl, rfl, rfl⟩ rfl r119_5 rfl ?_
        refine s_117 (tr := false) ok hR ?_ hdy
        refine af_ret ?_
        refine g_ifne_f k119_8 (t := 32) rfl (bb_f hb) ?_
        refine g_iload_n k119_11 rfl ?_
        refine g_ifltN (t := 32) k119_12 rfl (by omega) ?_
        refine g_iload_n k119_15 rfl ?_
        refine g_iconst (v := nn 5) k119_16 ci_5 ?_
        refine g_icgt_f k119_17 (t := 32) rfl (by rw [nn_toInt (by omega), ti_5]; omega) ?_
        refine g_iload_n k119_20 rfl ?_
        refine g_iconst (v := nn 3) k119_21 ci_3 ?_
        refine g_idiv k119_22 (by decide) ?_
        rw [nn_d3 hv]
        refine g_aload_n k119_23 rfl ?_
        refine m_get k119_24 f119_24 rfl rfl ?_
        refine g_iload_n k119_27 rfl ?_
        refine m_iald k119_28 hdy rfl rfl (by omega) (by omega) ?_
        rw [hm2]
        refine g_iceq_f k119_29 (t := 36) rfl (by rw [Ne, nn_inj (by omega) (by omega)]; exact hm) ?_
        refine g_iconst (v := nn 1) k119_32 ci_1 ?_
        refine g_goto k119_33 (t := 37) rfl ?_
        exact hq
    · have hq := bad (fun q => hw q.2.1)
      refine g_aload_n k119_0 rfl ?_
      refine g_aload_n k119_1 rfl ?_
      refine g_iload_n k119_2 rfl ?_
      refine g_iload_n k119_3 rfl ?_
      refine g_iconst (v := nn 0) k119_4 ci_0 ?_
      refine m_callV3 k119_5 s119_5 c119_5 l117 (by omega) ⟨rfl, rfl, rfl⟩ rfl r119_5 rfl ?_
      refine s_117 (tr := false) ok hR ?_ hdy
      refine af_ret ?_
      refine g_ifne_f k119_8 (t := 32) rfl (bb_f hb) ?_
      refine g_iload_n k119_11 rfl ?_
      refine g_iflt k119_12 (t := 32) rfl (fun h12 => ?_) (fun h12 => ?_)
      · skip
        refine g_iconst (v := nn 1) k119_32 ci_1 ?_
        refine g_goto k119_33 (t := 37) rfl ?_
        exact hq
      · skip
        refine g_iload_n k119_15 rfl ?_
        refine g_iconst (v := nn 5) k119_16 ci_5 ?_
        refine g_icgt k119_17 (t := 32) rfl (fun h17 => ?_) (fun h17 => ?_)
        · skip
          refine g_iconst (v := nn 1) k119_32 ci_1 ?_
          refine g_goto k119_33 (t := 37) rfl ?_
          exact hq
        · skip
          exfalso
          omega
/-- the variant may be told so -/
def rok (A : TD) (x : Int32) : Prop := (0 ≤ x.toInt ∧ x.toInt < td_nf A) ∧ td_ft A x.toInt.toNat = false ∧ td_hp A x.toInt.toNat = false
theorem s_122 (hdy : dy.length < 100000) (ok : TOK A) (hR : RepM A σ) (hW : RunM W σ) (k1 : ¬ rok A x → ∀ σ', oM A W 1 σ σ' → Q (.inl none) (mk dy σ' ρ τ)) (k0 : rok A x → ∀ σ', oM (td_sr A x.toInt.toNat) W 0 σ σ' → Q (.inl none) (mk dy σ' ρ τ)) : go (tb_P L xs) 122 0 [some (.ref 24), some (.int x)] [] (mk dy σ ρ τ) Q := by
  have h0 : ∀ v, up2 σ 24 0 v 24 0 = v := fun v => rfl
  have hnf := ok.1
  have bad : ¬ rok A x → go (tb_P L xs) 122 32 [some (.ref 24), some (.int x)] [.int (nn 1), .ref 24] (mk dy σ ρ τ) Q := by
    intro hb
    refine m_putI k122_32 f122_32 rfl rfl rfl ?_
    refine g_aload_n k122_35 rfl ?_
    refine m_get k122_36 f122_36 rfl rfl ?_
    rw [h0]
    refine g_ifne_t k122_39 (t := 47) rfl (by decide) ?_
    refine g_return k122_47 t122 ?_
    exact k1 hb _ (oM_t hR hW)
  by_cases hx : 0 ≤ x.toInt ∧ x.toInt < td_nf A
  · have hq := k0
    obtain ⟨f, rfl, hf⟩ := in_nn hx
    have e1 : (nn f).toInt.toNat = f := by rw [nn_toInt (by omega)]; rfl
    unfold rok at bad hq
    rw [e1] at hq bad
    obtain ⟨g1, g2, g3, g4, g5⟩ := hR.1.2 f hf
    refine g_aload_n k122_0 rfl ?_
    refine g_aload_n k122_1 rfl ?_
    refine g_iload_n k122_2 rfl ?_
    refine m_callV1 k122_3 s122_3 c122_3 l118 (by omega) rfl rfl r122_3 rfl ?_
    refine s_118 ok hR ?_
    refine af_ret ?_
    refine g_ifne_f k122_6 (t := 27) rfl (bb_f (fun q => q hx)) ?_
    refine g_aload_n k122_9 rfl ?_
    refine m_get k122_10 f122_10 rfl rfl ?_
    refine g_iload_n k122_13 rfl ?_
    refine m_bald k122_14 rfl rfl (by omega) (by omega) ?_
    rw [g3]
    refine g_ifneB k122_15 (t := 27) rfl (fun h15 => ?_) (fun h15 => ?_)
    · skip
      refine g_iconst (v := nn 1) k122_27 ci_1 ?_
      refine g_goto k122_28 (t := 32) rfl ?_
      refine bad (fun q => ?_)
      first
        | (rw [q.2.2] at h24; exact h24 rfl)
        | (rw [q.2.2] at h24; cases h24)
        | (rw [q.2.1] at h15; cases h15)
    · skip
      refine g_aload_n k122_18 rfl ?_
      refine m_get k122_19 f122_19 rfl rfl ?_
      refine g_iload_n k122_22 rfl ?_
      refine m_bald k122_23 rfl rfl (by omega) (by omega) ?_
      rw [g4]
      refine g_ifeqB k122_24 (t := 31) rfl (fun h24 => ?_) (fun h24 => ?_)
      · skip
        refine g_iconst (v := nn 0) k122_31 ci_0 ?_
        refine m_putI k122_32 f122_32 rfl rfl rfl ?_
        refine g_aload_n k122_35 rfl ?_
        refine m_get k122_36 f122_36 rfl rfl ?_
        rw [h0]
        refine g_ifne_f k122_39 (t := 47) rfl rfl ?_
        refine g_aload_n k122_42 rfl ?_
        refine g_iload_n k122_43 rfl ?_
        refine m_putI k122_44 f122_44 rfl rfl rfl ?_
        refine g_return k122_47 t122 ?_
        exact hq ⟨hx, by simpa using h15, by simpa using h24⟩ _ ⟨((fM.rf σ).up (by omega)).up (by omega), RepM.sr (hR.agr (fun a k h => up2_ne (by omega))), hW.agr (fun a k h => by rw [up2_ne (by omega), up2_ne (by omega)]), rfl⟩
      · skip
        refine g_iconst (v := nn 1) k122_27 ci_1 ?_
        refine g_goto k122_28 (t := 32) rfl ?_
        refine bad (fun q => ?_)
        first
          | (rw [q.2.2] at h24; exact h24 rfl)
          | (rw [q.2.2] at h24; cases h24)
          | (rw [q.2.1] at h15; cases h15)
  · refine g_aload_n k122_0 rfl ?_
    refine g_aload_n k122_1 rfl ?_
    refine g_iload_n k122_2 rfl ?_
    refine m_callV1 k122_3 s122_3 c122_3 l118 (by omega) rfl rfl r122_3 rfl ?_
    refine s_118 ok hR ?_
    refine af_ret ?_
    refine g_ifne_t k122_6 (t := 27) rfl (by rw [bb_t hx]; decide) ?_
    refine g_iconst (v := nn 1) k122_27 ci_1 ?_
    refine g_goto k122_28 (t := 32) rfl ?_
    exact bad (fun q => hx q.1)
/-- an invariant may be told so -/
def iok (A : TD) (x z : Int32) : Prop := (0 ≤ x.toInt ∧ x.toInt < 2) ∧ (0 ≤ z.toInt ∧ z.toInt < td_nf A) ∧ td_ft A z.toInt.toNat = true ∧ td_hp A z.toInt.toNat = false ∧ (x.toInt = 0 → td_hl A z.toInt.toNat = false)
theorem s_121 (hdy : dy.length < 100000) (ok : TOK A) (hR : RepM A σ) (hW : RunM W σ) (k1 : ¬ iok A x z → ∀ σ', oM A W 1 σ σ' → Q (.inl (some (.int (nn 0)))) (mk dy σ' ρ τ)) (k2 : iok A x z → td_ic A x.toInt.toNat = 6 → ∀ σ', oM A W 2 σ σ' → Q (.inl (some (.int (nn 0)))) (mk dy σ' ρ τ)) (k0 : iok A x z → td_ic A x.toInt.toNat < 6 → ∀ σ', oM (td_ai A x.toInt.toNat z.toInt.toNat) W 0 σ σ' → Q (.inl (some (.int (nn (td_ic A x.toInt.toNat + 1))))) (mk dy σ' ρ τ)) : go (tb_P L xs) 121 0 [some (.ref 24), some (.int x), some (.int z), none] [] (mk dy σ ρ τ) Q := by
  have h0 : ∀ v, up2 σ 24 0 v 24 0 = v := fun v => rfl
  have hnf := ok.1
  have t1 := ti_1
  have bad : ∀ b : Int32, ¬ iok A x z → go (tb_P L xs) 121 63 [some (.ref 24), some (.int x), some (.int z), some (.int b)] [.int (nn 1)] (mk dy σ ρ τ) Q := by
    intro b hb
    refine g_istore_n k121_63 rfl rfl ?_
    refine g_aload_n k121_64 rfl ?_
    refine g_iload_n k121_65 rfl ?_
    refine g_ifeq_f k121_66 (t := 73) rfl (by decide) ?_
    refine g_iconst (v := nn 1) k121_69 ci_1 ?_
    refine g_goto k121_70 (t := 89) rfl ?_
    refine m_putI k121_89 f121_89 rfl rfl rfl ?_
    refine g_aload_n k121_92 rfl ?_
    refine m_get k121_93 f121_93 rfl rfl ?_
    rw [h0]
    refine g_ifeq_f k121_96 (t := 101) rfl (by decide) ?_
    refine g_iconst (v := nn 0) k121_99 ci_0 ?_
    refine g_ireturn k121_100 t121 ?_
    exact k1 hb _ (oM_t hR hW)
  by_cases hx : 0 ≤ x.toInt ∧ x.toInt < 2
  · by_cases hz : 0 ≤ z.toInt ∧ z.toInt < td_nf A
    · obtain ⟨m, rfl, hm⟩ := in_nn (n := 2) hx
      obtain ⟨f, rfl, hf⟩ := in_nn hz
      have e1 : (nn f).toInt.toNat = f := by rw [nn_toInt (by omega)]; rfl
      have e2 : (nn m).toInt.toNat = m := by rw [nn_toInt (by omega)]; rfl
      have e3 : (nn m).toInt = 0 ↔ m = 0 := by rw [nn_toInt (by omega)]; omega
      unfold iok at bad k0 k2
      rw [e1, e3] at bad
      rw [e1, e2, e3] at k0 k2
      obtain ⟨g1, g2, g3, g4, g5⟩ := hR.1.2 f hf
      have hic := hR.2.2.2.1.1 m hm
      have hi6 := (ok.2.2.2.2.2.1 m hm).1
      have good : (td_ft A f = true ∧ td_hp A f = false ∧ (m = 0 → td_hl A f = false)) → go (tb_P L xs) 121 63 [some (.ref 24), some (.int (nn m)), some (.int (nn f)), some (.int (nn 0))] [.int (nn 0)] (mk dy σ ρ τ) Q := by
        intro hg
        by_cases h6 : td_ic A m = 6
        · refine g_istore_n k121_63 rfl rfl ?_
          refine g_aload_n k121_64 rfl ?_
          refine g_iload_n k121_65 rfl ?_
          refine g_ifeq_t k121_66 (t := 73) rfl rfl ?_
          refine g_aload_n k121_73 rfl ?_
          refine m_get k121_74 f121_74 rfl rfl ?_
          refine g_iload_n k121_77 rfl ?_
          refine m_iald k121_78 hdy rfl rfl (by omega) (by omega) ?_
          rw [hic]
          refine g_bipush (v := nn 6) k121_79 cb_6 ?_
          refine g_icne_f k121_81 (t := 88) rfl (by rw [h6]) ?_
          refine g_iconst (v := nn 2) k121_84 ci_2 ?_
          refine g_goto k121_85 (t := 89) rfl ?_
          refine m_putI k121_89 f121_89 rfl rfl rfl ?_
          refine g_aload_n k121_92 rfl ?_
          refine m_get k121_93 f121_93 rfl rfl ?_
          rw [h0]
          refine g_ifeq_f k121_96 (t := 101) rfl (by decide) ?_
          refine g_iconst (v := nn 0) k121_99 ci_0 ?_
          refine g_ireturn k121_100 t121 ?_
          exact k2 ⟨hx, hz, hg⟩ h6 _ (oM_t hR hW)
        · refine g_istore_n k121_63 rfl rfl ?_
          refine g_aload_n k121_64 rfl ?_
          refine g_iload_n k121_65 rfl ?_
          refine g_ifeq_t k121_66 (t := 73) rfl rfl ?_
          refine g_aload_n k121_73 rfl ?_
          refine m_get k121_74 f121_74 rfl rfl ?_
          refine g_iload_n k121_77 rfl ?_
          refine m_iald k121_78 hdy rfl rfl (by omega) (by omega) ?_
          rw [hic]
          refine g_bipush (v := nn 6) k121_79 cb_6 ?_
          refine g_icne_t k121_81 (t := 88) rfl (by rw [Ne, nn_inj (by omega) (by omega)]; exact h6) ?_
          refine g_iconst (v := nn 0) k121_88 ci_0 ?_
          refine m_putI k121_89 f121_89 rfl rfl rfl ?_
          refine g_aload_n k121_92 rfl ?_
          refine m_get k121_93 f121_93 rfl rfl ?_
          rw [h0]
          refine g_ifeq_t k121_96 (t := 101) rfl rfl ?_
          refine g_aload_n k121_101 rfl ?_
          refine m_get k121_102 f121_102 rfl rfl ?_
          refine g_bipush (v := nn 6) k121_105 cb_6 ?_
          refine g_iload_n k121_107 rfl ?_
          refine g_imulN k121_108 ?_
          refine g_aload_n k121_109 rfl ?_
          refine m_get k121_110 f121_110 rfl rfl ?_
          refine g_iload_n k121_113 rfl ?_
          refine m_iald k121_114 hdy rfl rfl (by omega) (by omega) ?_
          rw [show up2 σ 24 0 (nn 0) 39 m = nn (td_ic A m) from hic]
          refine g_iaddN k121_115 ?_
          refine g_iload_n k121_116 rfl ?_
          refine m_iast k121_117 rfl rfl (by omega) (by omega) ?_
          refine g_aload_n k121_118 rfl ?_
          refine m_get k121_119 f121_119 rfl rfl ?_
          refine g_iload_n k121_122 rfl ?_
          refine g_dup2 k121_123 ⟨rfl, rfl⟩ ?_
          refine m_iald k121_124 hdy rfl rfl (by omega) (by omega) ?_
          rw [show up2 (up2 σ 24 0 (nn 0)) 40 (6 * m + td_ic A m) (nn f) 39 m = nn (td_ic A m) from hic]
          refine g_iconst (v := nn 1) k121_125 ci_1 ?_
          refine g_iaddN k121_126 ?_
          refine m_iast k121_127 rfl rfl (by omega) (by omega) ?_
          refine g_aload_n k121_128 rfl ?_
          refine m_get k121_129 f121_129 rfl rfl ?_
          refine g_iload_n k121_132 rfl ?_
          refine m_iald k121_133 hdy rfl rfl (by omega) (by omega) ?_
          rw [up2_at]
          refine g_ireturn k121_134 t121 ?_
          exact k0 ⟨hx, hz, hg⟩ (by omega) _ ⟨(((fM.rf σ).up (by omega)).up (by omega)).up (by omega), RepM.ai hm (by omega) (fun k hk => (ok.2.2.2.2.2.1 k hk).1) (hR.agr (fun a k h => up2_ne (by omega))), hW.agr (fun a k h => by rw [up2_ne (by omega), up2_ne (by omega), up2_ne (by omega)]), rfl⟩
      refine g_iload_n k121_0 rfl ?_
      refine g_ifltN (t := 17) k121_1 rfl (by omega) ?_
      refine g_iload_n k121_4 rfl ?_
      refine g_iconst (v := nn 1) k121_5 ci_1 ?_
      refine g_icgt_f k121_6 (t := 17) rfl (by rw [nn_toInt (by omega), ti_1]; omega) ?_
      refine g_aload_n k121_9 rfl ?_
      refine g_iload_n k121_10 rfl ?_
      refine m_callV1 k121_11 s121_11 c121_11 l118 (by omega) rfl rfl r121_11 rfl ?_
      refine s_118 ok hR ?_
      refine af_ret ?_
      refine g_ifeq_t k121_14 (t := 21) rfl (bb_f (fun q => q hz)) ?_
      refine g_iconst (v := nn 0) k121_21 ci_0 ?_
      refine g_istore_n k121_22 rfl rfl ?_
      refine g_iload_n k121_23 rfl ?_
      refine g_ifne_f k121_24 (t := 58) rfl rfl ?_
      refine g_aload_n k121_27 rfl ?_
      refine m_get k121_28 f121_28 rfl rfl ?_
      refine g_iload_n k121_31 rfl ?_
      refine m_bald k121_32 rfl rfl (by omega) (by omega) ?_
      rw [g3]
      refine g_ifeqB k121_33 (t := 58) rfl (fun h33 => ?_) (fun h33 => ?_)
      · skip
        refine g_iconst (v := nn 1) k121_58 ci_1 ?_
        refine g_goto k121_59 (t := 63) rfl ?_
        first
          | exact bad _ (fun q => h33 q.2.2.1)
          | exact bad _ (fun q => by rw [q.2.2.2.1] at h42; cases h42)
          | exact bad _ (fun q => by rw [q.2.2.2.2 h46] at h55; cases h55)
          | exact good ⟨h33, by simpa using h42, fun q => absurd q h46⟩
          | exact good ⟨h33, by simpa using h42, fun _ => by simpa using h55⟩
      · skip
        refine g_aload_n k121_36 rfl ?_
        refine m_get k121_37 f121_37 rfl rfl ?_
        refine g_iload_n k121_40 rfl ?_
        refine m_bald k121_41 rfl rfl (by omega) (by omega) ?_
        rw [g4]
        refine g_ifneB k121_42 (t := 58) rfl (fun h42 => ?_) (fun h42 => ?_)
        · skip
          refine g_iconst (v := nn 1) k121_58 ci_1 ?_
          refine g_goto k121_59 (t := 63) rfl ?_
          first
            | exact bad _ (fun q => h33 q.2.2.1)
            | exact bad _ (fun q => by rw [q.2.2.2.1] at h42; cases h42)
            | exact bad _ (fun q => by rw [q.2.2.2.2 h46] at h55; cases h55)
            | exact good ⟨h33, by simpa using h42, fun q => absurd q h46⟩
            | exact good ⟨h33, by simpa using h42, fun _ => by simpa using h55⟩
        · skip
          refine g_iload_n k121_45 rfl ?_
          refine g_ifneN k121_46 (t := 62) rfl (by omega) (fun h46 => ?_) (fun h46 => ?_)
          · skip
            refine g_iconst (v := nn 0) k121_62 ci_0 ?_
            first
              | exact bad _ (fun q => h33 q.2.2.1)
              | exact bad _ (fun q => by rw [q.2.2.2.1] at h42; cases h42)
              | exact bad _ (fun q => by rw [q.2.2.2.2 h46] at h55; cases h55)
              | exact good ⟨h33, by simpa using h42, fun q => absurd q h46⟩
              | exact good ⟨h33, by simpa using h42, fun _ => by simpa using h55⟩
          · skip
            refine g_aload_n k121_49 rfl ?_
            refine m_get k121_50 f121_50 rfl rfl ?_
            refine g_iload_n k121_53 rfl ?_
            refine m_bald k121_54 rfl rfl (by omega) (by omega) ?_
            rw [g5]
            refine g_ifeqB k121_55 (t := 62) rfl (fun h55 => ?_) (fun h55 => ?_)
            · skip
              refine g_iconst (v := nn 0) k121_62 ci_0 ?_
              first
                | exact bad _ (fun q => h33 q.2.2.1)
                | exact bad _ (fun q => by rw [q.2.2.2.1] at h42; cases h42)
                | exact bad _ (fun q => by rw [q.2.2.2.2 h46] at h55; cases h55)
                | exact good ⟨h33, by simpa using h42, fun q => absurd q h46⟩
                | exact good ⟨h33, by simpa using h42, fun _ => by simpa using h55⟩
            · skip
              refine g_iconst (v := nn 1) k121_58 ci_1 ?_
              refine g_goto k121_59 (t := 63) rfl ?_
              first
                | exact bad _ (fun q => h33 q.2.2.1)
                | exact bad _ (fun q => by rw [q.2.2.2.1] at h42; cases h42)
                | exact bad _ (fun q => by rw [q.2.2.2.2 h46] at h55; cases h55)
                | exact good ⟨h33, by simpa using h42, fun q => absurd q h46⟩
                | exact good ⟨h33, by simpa using h42, fun _ => by simpa using h55⟩
    · have hq := fun b => bad b (fun q => hz q.2.1)
      obtain ⟨m, rfl, hm⟩ := in_nn (n := 2) hx
      refine g_iload_n k121_0 rfl ?_
      refine g_ifltN (t := 17) k121_1 rfl (by omega) ?_
      refine g_iload_n k121_4 rfl ?_
      refine g_iconst (v := nn 1) k121_5 ci_1 ?_
      refine g_icgt_f k121_6 (t := 17) rfl (by rw [nn_toInt (by omega), ti_1]; omega) ?_
      refine g_aload_n k121_9 rfl ?_
      refine g_iload_n k121_10 rfl ?_
      refine m_callV1 k121_11 s121_11 c121_11 l118 (by omega) rfl rfl r121_11 rfl ?_
      refine s_118 ok hR ?_
      refine af_ret ?_
      refine g_ifeq_f k121_14 (t := 21) rfl (by rw [bb_t hz]; decide) ?_
      refine g_iconst (v := nn 1) k121_17 ci_1 ?_
      refine g_goto k121_18 (t := 22) rfl ?_
      refine g_istore_n k121_22 rfl rfl ?_
      refine g_iload_n k121_23 rfl ?_
      refine g_ifne_t k121_24 (t := 58) rfl (by decide) ?_
      refine g_iconst (v := nn 1) k121_58 ci_1 ?_
      refine g_goto k121_59 (t := 63) rfl ?_
      exact hq _
  · have hq := fun b => bad b (fun q => hx q.1)
    refine g_iload_n k121_0 rfl ?_
    refine g_iflt k121_1 (t := 17) rfl (fun h1 => ?_) (fun h1 => ?_)
    · skip
      refine g_iconst (v := nn 1) k121_17 ci_1 ?_
      refine g_goto k121_18 (t := 22) rfl ?_
      refine g_istore_n k121_22 rfl rfl ?_
      refine g_iload_n k121_23 rfl ?_
      refine g_ifne_t k121_24 (t := 58) rfl (by decide) ?_
      refine g_iconst (v := nn 1) k121_58 ci_1 ?_
      refine g_goto k121_59 (t := 63) rfl ?_
      exact hq _
    · skip
      refine g_iload_n k121_4 rfl ?_
      refine g_iconst (v := nn 1) k121_5 ci_1 ?_
      refine g_icgt k121_6 (t := 17) rfl (fun h6 => ?_) (fun h6 => ?_)
      · skip
        refine g_iconst (v := nn 1) k121_17 ci_1 ?_
        refine g_goto k121_18 (t := 22) rfl ?_
        refine g_istore_n k121_22 rfl rfl ?_
        refine g_iload_n k121_23 rfl ?_
        refine g_ifne_t k121_24 (t := 58) rfl (by decide) ?_
        refine g_iconst (v := nn 1) k121_58 ci_1 ?_
        refine g_goto k121_59 (t := 63) rfl ?_
        exact hq _
      · skip
        exfalso
        omega
end LQ
