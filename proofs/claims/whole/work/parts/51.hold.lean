/-! The class: whether the invariants hold. -/
section YB
variable {L : Nat} {xs : Nat → Int32} {Q : am_A → am_H → Prop} {dy dy' : List (Nat × Nat)} {σ σ' : Nat → Nat → Int32} {ρ ρ' : Nat → Nat → Option Nat} {τ τ' : Nat → Nat → Int64} {A : TD} {W : RS} {F E : Nat → Nat} {f e r ad m : Nat} {rw : Nat → Int32} {s : Nat → Nat}
theorem FK.ft {ws : Nat → Int32} {n : Nat} {kd en : Nat → Nat} {t : Bool} (h : FK ws n kd en) (hn : 0 < n) (hk : kr ws n [] = some [t]) : t = decide (kd 0 = 2) := by
  obtain ⟨k1, k2⟩ := h.1.kll h.2.1 n 0 (by omega) (by omega) (by omega) (fun m _ hm => h.2.2 m hm)
  rw [kr_0] at hk
  rw [Nat.sub_zero] at k1
  rw [k1, k2 hn] at hk
  exact (List.cons.inj (Option.some.inj hk)).1.symm
theorem ev_nf (ok : TOK A) (hf : f < td_nf A) (hX : FX A f ad dy σ) (hrow : ∀ v, v ≤ 6 → nf (rw v)) : nf (ev A f rw) := by
  obtain ⟨-, -, ⟨kd, en, c1, -⟩, -⟩ := hX
  have hn := (ok.2.1 f hf).1.1
  rw [ev_vt]
  exact (c1.v hrow (td_ln A f) 0 (by omega) (by omega)).2.1
theorem ev_tr (ok : TOK A) (hf : f < td_nf A) (ht : td_ft A f = true) (hX : FX A f ad dy σ) (hrow : ∀ v, v ≤ 6 → nf (rw v)) : tr (ev A f rw) := by
  obtain ⟨-, -, ⟨kd, en, c1, -⟩, -⟩ := hX
  have hn := (ok.2.1 f hf).1.1
  have h2 := c1.ft (by omega) (ok.2.1 f hf).2.2
  rw [ht] at h2
  rw [ev_vt]
  exact (c1.v hrow (td_ln A f) 0 (by omega) (by omega)).2.2.1 (of_decide_eq_true h2.symm)
/-- a truth that is not 0 is 1 -/
theorem tr_1 {x : Int32} (h : tr x) : x.toInt ≠ 0 ↔ x.toInt = 1 := by
  rcases h with h | h <;> rw [h]
  · rw [ti_0]; omega
  · rw [ti_1]; omega
theorem va_rs (a : Nat) : va_rf (some a) = .ref a := rfl
theorem lc_0 {x : Int64} : (lg_cmp x 0).toInt = 0 ↔ x = 0 := by
  unfold lg_cmp
  by_cases h1 : x > 0
  · rw [if_pos h1]
    refine iff_of_false (by decide) (fun q => ?_)
    rw [q] at h1
    exact absurd h1 (by decide)
  · rw [if_neg h1]
    by_cases h2 : x = 0
    · rw [if_pos h2]
      exact iff_of_true (by decide) h2
    · rw [if_neg h2]
      exact iff_of_false (by decide) h2
theorem s_12 (hX : RepX A F E dy σ ρ) (hm : m < 2) (kk : Q (.inl (some (.int (nn (td_ic A m))))) (mk dy σ ρ τ)) : go (tb_P L xs) 12 0 [some (.ref 11), some (.int (nn m))] [] (mk dy σ ρ τ) Q := by
  have c0 := hX.2.2.1.1
  have c1 := hX.2.2.1.2.1
  refine g_iload_n k12_0 rfl ?_
  refine g_ifneN k12_1 (t := 11) rfl (by omega) (fun h1 => ?_) (fun h1 => ?_)
  · skip
    refine g_aload_n k12_11 rfl ?_
    refine m_get k12_12 f12_12 rfl rfl ?_
    rw [c1]
    refine g_ireturn k12_15 t12 ?_
    first | (rw [h1] at kk; exact kk) | (rw [show m = 1 by omega] at kk; exact kk)
  · skip
    refine g_aload_n k12_4 rfl ?_
    refine m_get k12_5 f12_5 rfl rfl ?_
    rw [c0]
    refine g_goto k12_8 (t := 15) rfl ?_
    refine g_ireturn k12_15 t12 ?_
    first | (rw [h1] at kk; exact kk) | (rw [show m = 1 by omega] at kk; exact kk)
theorem s_10 {fi a b c : Nat} (hdy : dy.length < 100000) (hr : me_sh dy r = some (0, 7)) (hfi : fi + 2 < 7) (ha : σ r fi = nn a) (hb : σ r (fi + 1) = nn b) (hc : σ r (fi + 2) = nn c) (h4 : a < 4 ∧ b < 4 ∧ c < 4) (kk : Q (.inl (some (.int (nn (16 * a + 4 * b + c))))) (mk dy σ ρ τ)) : go (tb_P L xs) 10 0 [some (.ref r), some (.int (nn fi)), none] [] (mk dy σ ρ τ) Q := by
  refine g_aload_n k10_0 rfl ?_
  refine g_iload_n k10_1 rfl ?_
  refine m_iald k10_2 hdy (by assumption) rfl (by omega) (by omega) ?_
  rw [ha]
  refine g_iconst (v := nn 3) k10_3 ci_3 ?_
  refine g_iand k10_4 ?_
  refine g_iconst (v := nn 2) k10_5 ci_2 ?_
  refine g_ishl k10_6 ?_
  refine g_aload_n k10_7 rfl ?_
  refine g_iload_n k10_8 rfl ?_
  refine g_iconst (v := nn 1) k10_9 ci_1 ?_
  refine g_iaddN k10_10 ?_
  refine m_iald k10_11 hdy (by assumption) rfl (by omega) (by omega) ?_
  rw [hb]
  refine g_iconst (v := nn 3) k10_12 ci_3 ?_
  refine g_iand k10_13 ?_
  refine g_ior k10_14 ?_
  refine g_istore_n k10_15 rfl rfl ?_
  refine g_iload_n k10_16 rfl ?_
  refine g_iconst (v := nn 2) k10_17 ci_2 ?_
  refine g_ishl k10_18 ?_
  refine g_aload_n k10_19 rfl ?_
  refine g_iload_n k10_20 rfl ?_
  refine g_iconst (v := nn 2) k10_21 ci_2 ?_
  refine g_iaddN k10_22 ?_
  refine m_iald k10_23 hdy (by assumption) rfl (by omega) (by omega) ?_
  rw [hc]
  refine g_iconst (v := nn 3) k10_24 ci_3 ?_
  refine g_iand k10_25 ?_
  refine g_ior k10_26 ?_
  refine g_ireturn k10_27 t10 ?_
  rw [cd_k a b c h4.1 h4.2.1 h4.2.2]
  exact kk
theorem s_11L {ar cell pl : Nat} {bit : Int64} (hdy : dy.length < 100000) (ok : TOK A) (hm : m < 2) (har : me_sh dy ar = some (3, 6)) (hρ : ∀ i, i < td_ic A m → ρ ar i = some (F (td_iv A m i))) (h47 : r < 47) (hr : me_sh dy r = some (0, 7)) : ∀ (k i : Nat) {b : Bool} {σ : Nat → Nat → Int32} {Q : am_A → am_H → Prop}, i + k = td_ic A m → RepX A F E dy σ ρ → (∀ v, v ≤ 6 → nf (σ r v)) → (∀ σ' l9, fE dy σ σ' → go (tb_P L xs) 11 83 [some (.ref 11), some (.int (nn m)), some (.int (nn cell)), some (.int (nn pl)), some (.ref r), some (.long bit), none, some (.ref ar), some (.int (bb ((b && (List.range' i k).all (fun j => decide ((ev A (td_iv A m j) (σ r)).toInt = 1))) = true))), l9] [] (mk dy σ' ρ τ) Q) → go (tb_P L xs) 11 42 [some (.ref 11), some (.int (nn m)), some (.int (nn cell)), some (.int (nn pl)), some (.ref r), some (.long bit), none, some (.ref ar), some (.int (bb (b = true))), some (.int (nn i))] [] (mk dy σ ρ τ) Q := by
  intro k
  induction k with
  | zero =>
    intro i b σ Q hi hX hrow kk
    have hi6 := (ok.2.2.2.2.2.1 m hm).1
    have e := kk σ (some (.int (nn i))) (fE.rf σ)
    rw [show (b && (List.range' i 0).all (fun j => decide ((ev A (td_iv A m j) (σ r)).toInt = 1))) = b by simp] at e
    refine g_iload k11_42 rfl ?_
    refine g_aload_n k11_44 rfl ?_
    refine g_iload_n k11_45 rfl ?_
    refine m_callV1 k11_46 s11_46 c11_46 l12 (by omega) rfl rfl r11_46 rfl ?_
    refine s_12 hX hm ?_
    refine af_ret ?_
    refine g_icge_t k11_49 (t := 83) rfl (by rw [nn_toInt (by omega), nn_toInt (by omega)]; omega) ?_
    exact e
  | succ k ih =>
    intro i b σ Q hi hX hrow kk
    have hi6 := (ok.2.2.2.2.2.1 m hm).1
    obtain ⟨hfn, hft, -⟩ := (ok.2.2.2.2.2.1 m hm).2 i (by omega)
    have hF := (hX.1.2 _ hfn).2
    obtain ⟨⟨_, hA, _⟩, _⟩ := (hX.1.2 _ hfn).2
    have hρi := hρ i (by omega)
    have hall : (List.range' i (k + 1)).all (fun j => decide ((ev A (td_iv A m j) (σ r)).toInt = 1)) = (decide ((ev A (td_iv A m i) (σ r)).toInt = 1) && (List.range' (i + 1) k).all (fun j => decide ((ev A (td_iv A m j) (σ r)).toInt = 1))) := by
      rw [List.range'_succ, List.all_cons]
    rw [hall] at kk
    have htr := tr_1 (ev_tr ok hfn hft hF hrow)
    refine g_iload k11_42 rfl ?_
    refine g_aload_n k11_44 rfl ?_
    refine g_iload_n k11_45 rfl ?_
    refine m_callV1 k11_46 s11_46 c11_46 l12 (by omega) rfl rfl r11_46 rfl ?_
    refine s_12 hX hm ?_
    refine af_ret ?_
    refine g_icge_f k11_49 (t := 83) rfl (by rw [nn_toInt (by omega), nn_toInt (by omega)]; omega) ?_
    refine g_iload k11_52 rfl ?_
    refine g_ifeqB k11_54 (t := 83) rfl (fun h54 => ?_) (fun h54 => ?_)
    · skip
      have hb : b = false := by simpa using h54
      subst hb
      have hz := kk σ (some (.int (nn i))) (fE.rf σ)
      rw [Bool.false_and] at hz
      exact hz
    · skip
      refine g_aload k11_57 rfl ?_
      refine g_iload k11_59 rfl ?_
      refine m_aald k11_61 (by assumption) ⟨by omega, by omega⟩ rfl (by omega) (by omega) ?_
      rw [hρi, va_rs]
      refine g_aload k11_62 rfl ?_
      refine m_callV1 k11_64 s11_64 c11_64 l13 (by omega) rfl rfl r11_64 (by assumption) ?_
      refine s_13 hdy ok hfn hF h47 hr hrow (fun σ1 hs => ?_)
      refine af_ret ?_
      refine g_ifeqT k11_67 (t := 74) rfl (fun h67 => ?_) (fun h67 => ?_)
      · skip
        refine g_iconst (v := nn 0) k11_74 ci_0 ?_
        refine g_istore k11_75 rfl rfl ?_
        refine g_iincN k11_77 rfl rfl rfl ?_
        refine g_goto k11_80 (t := 42) rfl ?_
        have nx : ∀ b' : Bool, b' = decide ((ev A (td_iv A m i) (σ r)).toInt = 1) → go (tb_P L xs) 11 42 [some (.ref 11), some (.int (nn m)), some (.int (nn cell)), some (.int (nn pl)), some (.ref r), some (.long bit), none, some (.ref ar), some (.int (bb (b' = true))), some (.int (nn (i + 1)))] [] (mk dy σ1 ρ τ) Q := by
          intro b' hb'
          subst hb'
          refine ih (i + 1) (by omega) (hX.agr ok hs.ag) (fun v hv => by rw [hs.st h47]; exact hrow v hv) (fun σ' l9 hs' => ?_)
          have hz := kk σ' l9 (hs.tr hs')
          rw [h54, Bool.true_and] at hz
          rw [hs.st h47]
          exact hz
        first
          | exact nx true (decide_eq_true (htr.mp h67)).symm
          | exact nx false (decide_eq_false (fun q => htr.mpr q h67)).symm
      · skip
        refine g_iconst (v := nn 1) k11_70 ci_1 ?_
        refine g_goto k11_71 (t := 75) rfl ?_
        refine g_istore k11_75 rfl rfl ?_
        refine g_iincN k11_77 rfl rfl rfl ?_
        refine g_goto k11_80 (t := 42) rfl ?_
        have nx : ∀ b' : Bool, b' = decide ((ev A (td_iv A m i) (σ r)).toInt = 1) → go (tb_P L xs) 11 42 [some (.ref 11), some (.int (nn m)), some (.int (nn cell)), some (.int (nn pl)), some (.ref r), some (.long bit), none, some (.ref ar), some (.int (bb (b' = true))), some (.int (nn (i + 1)))] [] (mk dy σ1 ρ τ) Q := by
          intro b' hb'
          subst hb'
          refine ih (i + 1) (by omega) (hX.agr ok hs.ag) (fun v hv => by rw [hs.st h47]; exact hrow v hv) (fun σ' l9 hs' => ?_)
          have hz := kk σ' l9 (hs.tr hs')
          rw [h54, Bool.true_and] at hz
          rw [hs.st h47]
          exact hz
        first
          | exact nx true (decide_eq_true (htr.mp h67)).symm
          | exact nx false (decide_eq_false (fun q => htr.mpr q h67)).symm
/-- what is known of the invariants of a machine, at a bit -/
def KN (A : TD) (m cell pl : Nat) (τ : Nat → Nat → Int64) (row : Nat → Int32) : Prop := (bq (τ 14 cell) pl = true → bq (τ 15 cell) pl = td_ho A m row) ∧ (bq (τ 14 cell) pl = false → bq (τ 15 cell) pl = false)
/-- one bit alone has been looked at -/
def kS (cell pl : Nat) (τ τ' : Nat → Nat → Int64) : Prop := (∀ a k, (a ≠ 14 ∧ a ≠ 15) ∨ k ≠ cell → τ' a k = τ a k) ∧ ∀ q, q ≠ pl → bq (τ' 14 cell) q = bq (τ 14 cell) q ∧ bq (τ' 15 cell) q = bq (τ 15 cell) q
theorem s_11 {cell pl : Nat} (hdy : dy.length < 100000) (ok : TOK A) (hX : RepX A F E dy σ ρ) (hm : m < 2) (hc : cell < 65) (hp : pl < 64) (h47 : r < 47) (hr : me_sh dy r = some (0, 7)) (hrow : ∀ v, v ≤ 6 → nf (σ r v)) (hK : KN A m cell pl τ (σ r)) (kk : ∀ σ' τ', fE dy σ σ' → kS cell pl τ τ' → bq (τ' 15 cell) pl = td_ho A m (σ r) → bq (τ' 14 cell) pl = true → Q (.inl (some (.int (bb (td_ho A m (σ r) = true))))) (mk dy σ' ρ τ')) : go (tb_P L xs) 11 0 [some (.ref 11), some (.int (nn m)), some (.int (nn cell)), some (.int (nn pl)), some (.ref r), none, none, none, none, none] [] (mk dy σ ρ τ) Q := by
  have hbit : ∀ x : Int64, (lg_cmp (x &&& (1 <<< ((nn pl).toInt64 &&& 63))) 0).toInt = 0 ↔ bq x pl = false := fun x => lc_0.trans (bq_z hp)
  have tl : ∀ (σ' : Nat → Nat → Int32) (τ' : Nat → Nat → Int64) (l7 l8 l9 : Option Value), fE dy σ σ' → kS cell pl τ τ' → bq (τ' 15 cell) pl = td_ho A m (σ r) → bq (τ' 14 cell) pl = true → go (tb_P L xs) 11 114 [some (.ref 11), some (.int (nn m)), some (.int (nn cell)), some (.int (nn pl)), some (.ref r), some (.long (1 <<< ((nn pl).toInt64 &&& 63))), none, l7, l8, l9] [] (mk dy σ' ρ τ') Q := by
    intro σ' τ' l7 l8 l9 hs hk h15 h14
    have hq := kk σ' τ' hs hk h15 h14
    refine g_aload_n k11_114 rfl ?_
    refine m_get k11_115 f11_115 rfl rfl ?_
    refine g_iload_n k11_118 rfl ?_
    refine m_lald k11_119 rfl rfl (by omega) (by omega) ?_
    refine g_lload k11_120 rfl ?_
    refine g_land k11_122 ?_
    refine g_lconst (v := 0) k11_123 rfl ?_
    refine g_lcmp k11_124 ?_
    refine g_ifeqT k11_125 (t := 132) rfl (fun h125 => ?_) (fun h125 => ?_)
    · skip
      refine g_iconst (v := nn 0) k11_132 ci_0 ?_
      refine g_breturn k11_133 t11 (by decide) ?_
      first
        | (have h0 := (hbit _).mp h125
           rw [h15] at h0
           rw [h0] at hq
           exact hq)
        | (have h0 : td_ho A m (σ r) = true := by
             rw [← h15]
             cases h1 : bq (τ' 15 cell) pl with
             | true => rfl
             | false => exact absurd ((hbit _).mpr h1) h125
           rw [h0] at hq
           exact hq)
    · skip
      refine g_iconst (v := nn 1) k11_128 ci_1 ?_
      refine g_goto k11_129 (t := 133) rfl ?_
      refine g_breturn k11_133 t11 (by decide) ?_
      first
        | (have h0 := (hbit _).mp h125
           rw [h15] at h0
           rw [h0] at hq
           exact hq)
        | (have h0 : td_ho A m (σ r) = true := by
             rw [← h15]
             cases h1 : bq (τ' 15 cell) pl with
             | true => rfl
             | false => exact absurd ((hbit _).mpr h1) h125
           rw [h0] at hq
           exact hq)
  by_cases h14 : bq (τ 14 cell) pl = true
  · refine g_lconst (v := 1) k11_0 rfl ?_
    refine g_iload_n k11_1 rfl ?_
    refine g_lshl k11_2 ?_
    refine g_lstore k11_3 rfl rfl ?_
    refine g_aload_n k11_5 rfl ?_
    refine m_get k11_6 f11_6 rfl rfl ?_
    refine g_iload_n k11_9 rfl ?_
    refine m_lald k11_10 rfl rfl (by omega) (by omega) ?_
    refine g_lload k11_11 rfl ?_
    refine g_land k11_13 ?_
    refine g_lconst (v := 0) k11_14 rfl ?_
    refine g_lcmp k11_15 ?_
    refine g_ifne_t k11_16 (t := 114) rfl (fun q => by have h1 := (hbit (τ 14 cell)).mp (by rw [q]; rfl); rw [h14] at h1; cases h1) ?_
    exact tl σ τ _ _ _ (fE.rf σ) ⟨fun _ _ _ => rfl, fun _ _ => ⟨rfl, rfl⟩⟩ (hK.1 h14) h14
  · have h14 : bq (τ 14 cell) pl = false := by simpa using h14
    have hm2 : m = 0 ∨ m = 1 := by omega
    rcases hm2 with hm0 | hm0
    · subst hm0
      have hρ := hX.2.2.1.2.2.1
      refine g_lconst (v := 1) k11_0 rfl ?_
      refine g_iload_n k11_1 rfl ?_
      refine g_lshl k11_2 ?_
      refine g_lstore k11_3 rfl rfl ?_
      refine g_aload_n k11_5 rfl ?_
      refine m_get k11_6 f11_6 rfl rfl ?_
      refine g_iload_n k11_9 rfl ?_
      refine m_lald k11_10 rfl rfl (by omega) (by omega) ?_
      refine g_lload k11_11 rfl ?_
      refine g_land k11_13 ?_
      refine g_lconst (v := 0) k11_14 rfl ?_
      refine g_lcmp k11_15 ?_
      refine g_ifne_f k11_16 (t := 114) rfl (by rw [← Int32.toInt_inj]; exact (hbit (τ 14 cell)).mpr h14) ?_
      refine g_iload_n k11_19 rfl ?_
      refine g_ifne_f k11_20 (t := 30) rfl rfl ?_
      refine g_aload_n k11_23 rfl ?_
      refine m_get k11_24 f11_24 rfl rfl ?_
      refine g_goto k11_27 (t := 34) rfl ?_
      refine g_astore k11_34 rfl rfl ?_
      refine g_iconst (v := nn 1) k11_36 ci_1 ?_
      refine g_istore k11_37 rfl rfl ?_
      refine g_iconst (v := nn 0) k11_39 ci_0 ?_
      refine g_istore k11_40 rfl rfl ?_
      refine s_11L (ar := 12) (b := true) hdy ok (by omega) rfl hρ h47 hr (td_ic A 0) 0 (by omega) hX hrow (fun σ1 l9 hs => ?_)
      have nx : ∀ b : Bool, b = td_ho A 0 (σ r) → go (tb_P L xs) 11 83 [some (.ref 11), some (.int (nn 0)), some (.int (nn cell)), some (.int (nn pl)), some (.ref r), some (.long (1 <<< ((nn pl).toInt64 &&& 63))), none, some (.ref 12), some (.int (bb (b = true))), l9] [] (mk dy σ1 ρ τ) Q := by
        intro b hb
        refine g_aload_n k11_83 rfl ?_
        refine m_get k11_84 f11_84 rfl rfl ?_
        refine g_iload_n k11_87 rfl ?_
        refine g_dup2 k11_88 ⟨rfl, rfl⟩ ?_
        refine m_lald k11_89 rfl rfl (by omega) (by omega) ?_
        refine g_lload k11_90 rfl ?_
        refine g_lor k11_92 ?_
        refine m_last k11_93 rfl rfl (by omega) (by omega) ?_
        refine g_aload_n k11_94 rfl ?_
        refine m_get k11_95 f11_95 rfl rfl ?_
        refine g_iload_n k11_98 rfl ?_
        refine g_dup2 k11_99 ⟨rfl, rfl⟩ ?_
        refine m_lald k11_100 rfl rfl (by omega) (by omega) ?_
        refine g_iload k11_101 rfl ?_
        refine g_ifeqB k11_103 (t := 111) rfl (fun h103 => ?_) (fun h103 => ?_)
        · skip
          refine g_lconst (v := 0) k11_111 rfl ?_
          refine g_lor k11_112 ?_
          refine m_last k11_113 rfl rfl (by omega) (by omega) ?_
          refine tl _ _ _ _ _ hs ⟨fun a k h => ?_, fun q hq => ⟨?_, ?_⟩⟩ ?_ ?_
          · rw [up2_ne (by omega), up2_ne (by omega)]
          · rw [up2_ne (by omega), up2_at, bq_or hp, decide_eq_false hq, Bool.or_false]
          · rw [up2_at, up2_ne (by omega)]
            first
              | rw [bq_or hp, decide_eq_false hq, Bool.or_false]
              | rw [or_0]
          · rw [up2_at, up2_ne (by omega), ← hb]
            first
              | (rw [bq_or hp, decide_eq_true rfl, Bool.or_true]
                 exact h103.symm)
              | (rw [or_0, hK.2 h14]
                 have h103' : b = false := by simpa using h103
                 exact h103'.symm)
          · rw [up2_ne (by omega), up2_at, bq_or hp, decide_eq_true rfl, Bool.or_true]
        · skip
          refine g_lload k11_106 rfl ?_
          refine g_goto k11_108 (t := 112) rfl ?_
          refine g_lor k11_112 ?_
          refine m_last k11_113 rfl rfl (by omega) (by omega) ?_
          refine tl _ _ _ _ _ hs ⟨fun a k h => ?_, fun q hq => ⟨?_, ?_⟩⟩ ?_ ?_
          · rw [up2_ne (by omega), up2_ne (by omega)]
          · rw [up2_ne (by omega), up2_at, bq_or hp, decide_eq_false hq, Bool.or_false]
          · rw [up2_at, up2_ne (by omega)]
            first
              | rw [bq_or hp, decide_eq_false hq, Bool.or_false]
              | rw [or_0]
          · rw [up2_at, up2_ne (by omega), ← hb]
            first
              | (rw [bq_or hp, decide_eq_true rfl, Bool.or_true]
                 exact h103.symm)
              | (rw [or_0, hK.2 h14]
                 have h103' : b = false := by simpa using h103
                 exact h103'.symm)
          · rw [up2_ne (by omega), up2_at, bq_or hp, decide_eq_true rfl, Bool.or_true]
      have hz := nx _ rfl
      unfold td_ho at hz
      rw [← List.range_eq_range', Bool.true_and]
      exact hz
    · subst hm0
      have hρ := hX.2.2.1.2.2.2
      refine g_lconst (v := 1) k11_0 rfl ?_
      refine g_iload_n k11_1 rfl ?_
      refine g_lshl k11_2 ?_
      refine g_lstore k11_3 rfl rfl ?_
      refine g_aload_n k11_5 rfl ?_
      refine m_get k11_6 f11_6 rfl rfl ?_
      refine g_iload_n k11_9 rfl ?_
      refine m_lald k11_10 rfl rfl (by omega) (by omega) ?_
      refine g_lload k11_11 rfl ?_
      refine g_land k11_13 ?_
      refine g_lconst (v := 0) k11_14 rfl ?_
      refine g_lcmp k11_15 ?_
      refine g_ifne_f k11_16 (t := 114) rfl (by rw [← Int32.toInt_inj]; exact (hbit (τ 14 cell)).mpr h14) ?_
      refine g_iload_n k11_19 rfl ?_
      refine g_ifne_t k11_20 (t := 30) rfl (by decide) ?_
      refine g_aload_n k11_30 rfl ?_
      refine m_get k11_31 f11_31 rfl rfl ?_
      refine g_astore k11_34 rfl rfl ?_
      refine g_iconst (v := nn 1) k11_36 ci_1 ?_
      refine g_istore k11_37 rfl rfl ?_
      refine g_iconst (v := nn 0) k11_39 ci_0 ?_
      refine g_istore k11_40 rfl rfl ?_
      refine s_11L (ar := 13) (b := true) hdy ok (by omega) rfl hρ h47 hr (td_ic A 1) 0 (by omega) hX hrow (fun σ1 l9 hs => ?_)
      have nx : ∀ b : Bool, b = td_ho A 1 (σ r) → go (tb_P L xs) 11 83 [some (.ref 11), some (.int (nn 1)), some (.int (nn cell)), some (.int (nn pl)), some (.ref r), some (.long (1 <<< ((nn pl).toInt64 &&& 63))), none, some (.ref 13), some (.int (bb (b = true))), l9] [] (mk dy σ1 ρ τ) Q := by
        intro b hb
        refine g_aload_n k11_83 rfl ?_
        refine m_get k11_84 f11_84 rfl rfl ?_
        refine g_iload_n k11_87 rfl ?_
        refine g_dup2 k11_88 ⟨rfl, rfl⟩ ?_
        refine m_lald k11_89 rfl rfl (by omega) (by omega) ?_
        refine g_lload k11_90 rfl ?_
        refine g_lor k11_92 ?_
        refine m_last k11_93 rfl rfl (by omega) (by omega) ?_
        refine g_aload_n k11_94 rfl ?_
        refine m_get k11_95 f11_95 rfl rfl ?_
        refine g_iload_n k11_98 rfl ?_
        refine g_dup2 k11_99 ⟨rfl, rfl⟩ ?_
        refine m_lald k11_100 rfl rfl (by omega) (by omega) ?_
        refine g_iload k11_101 rfl ?_
        refine g_ifeqB k11_103 (t := 111) rfl (fun h103 => ?_) (fun h103 => ?_)
        · skip
          refine g_lconst (v := 0) k11_111 rfl ?_
          refine g_lor k11_112 ?_
          refine m_last k11_113 rfl rfl (by omega) (by omega) ?_
          refine tl _ _ _ _ _ hs ⟨fun a k h => ?_, fun q hq => ⟨?_, ?_⟩⟩ ?_ ?_
          · rw [up2_ne (by omega), up2_ne (by omega)]
          · rw [up2_ne (by omega), up2_at, bq_or hp, decide_eq_false hq, Bool.or_false]
          · rw [up2_at, up2_ne (by omega)]
            first
              | rw [bq_or hp, decide_eq_false hq, Bool.or_false]
              | rw [or_0]
          · rw [up2_at, up2_ne (by omega), ← hb]
            first
              | (rw [bq_or hp, decide_eq_true rfl, Bool.or_true]
                 exact h103.symm)
              | (rw [or_0, hK.2 h14]
                 have h103' : b = false := by simpa using h103
                 exact h103'.symm)
          · rw [up2_ne (by omega), up2_at, bq_or hp, decide_eq_true rfl, Bool.or_true]
        · skip
          refine g_lload k11_106 rfl ?_
          refine g_goto k11_108 (t := 112) rfl ?_
          refine g_lor k11_112 ?_
          refine m_last k11_113 rfl rfl (by omega) (by omega) ?_
          refine tl _ _ _ _ _ hs ⟨fun a k h => ?_, fun q hq => ⟨?_, ?_⟩⟩ ?_ ?_
          · rw [up2_ne (by omega), up2_ne (by omega)]
          · rw [up2_ne (by omega), up2_at, bq_or hp, decide_eq_false hq, Bool.or_false]
          · rw [up2_at, up2_ne (by omega)]
            first
              | rw [bq_or hp, decide_eq_false hq, Bool.or_false]
              | rw [or_0]
          · rw [up2_at, up2_ne (by omega), ← hb]
            first
              | (rw [bq_or hp, decide_eq_true rfl, Bool.or_true]
                 exact h103.symm)
              | (rw [or_0, hK.2 h14]
                 have h103' : b = false := by simpa using h103
                 exact h103'.symm)
          · rw [up2_ne (by omega), up2_at, bq_or hp, decide_eq_true rfl, Bool.or_true]
      have hz := nx _ rfl
      unfold td_ho at hz
      rw [← List.range_eq_range', Bool.true_and]
      exact hz
def cdu (s : Nat → Nat) : Nat := 16 * s 0 + 4 * s 1 + s 2
def cdl (s : Nat → Nat) : Nat := 16 * s 3 + 4 * s 4 + s 5
/-- what is known of the invariants is so -/
def CX (A : TD) (τ : Nat → Nat → Int64) : Prop := ∀ s : Nat → Nat, (∀ v, v < 6 → s v < 4) → KN A 0 64 (cdu s) τ (rd s 0) ∧ KN A 1 (cdu s) (cdl s) τ (rd s 0)
def tE (τ τ' : Nat → Nat → Int64) : Prop := ∀ a, a ≠ 14 → a ≠ 15 → τ' a = τ a
theorem tE.rf (τ : Nat → Nat → Int64) : tE τ τ := fun _ _ _ => rfl
theorem tE.tr {τ τ1 τ2 : Nat → Nat → Int64} (h1 : tE τ τ1) (h2 : tE τ1 τ2) : tE τ τ2 := fun a g1 g2 => (h2 a g1 g2).trans (h1 a g1 g2)
theorem kS.tE {cell pl : Nat} (h : kS cell pl τ τ') : tE τ τ' := fun a g1 g2 => funext fun k => h.1 a k (Or.inl ⟨g1, g2⟩)
theorem KN.same {cell pl : Nat} {r1 r2 : Nat → Int32} (h : KN A m cell pl τ r1) (he : td_ho A m r1 = td_ho A m r2) : KN A m cell pl τ r2 := ⟨fun q => by rw [← he]; exact h.1 q, h.2⟩
theorem cdu_lt (h : ∀ v, v < 6 → s v < 4) : cdu s < 64 := by
  unfold cdu
  have := h 0 (by omega)
  have := h 1 (by omega)
  have := h 2 (by omega)
  omega
theorem cdl_lt (h : ∀ v, v < 6 → s v < 4) : cdl s < 64 := by
  unfold cdl
  have := h 3 (by omega)
  have := h 4 (by omega)
  have := h 5 (by omega)
  omega
theorem cdu_eq {s' : Nat → Nat} (h : ∀ v, v < 6 → s v < 4) (h' : ∀ v, v < 6 → s' v < 4) (q : cdu s = cdu s') : ∀ v, v < 3 → s v = s' v := by
  unfold cdu at q
  have := h 0 (by omega)
  have := h 1 (by omega)
  have := h 2 (by omega)
  have := h' 0 (by omega)
  have := h' 1 (by omega)
  have := h' 2 (by omega)
  intro v hv
  have : v = 0 ∨ v = 1 ∨ v = 2 := by omega
  rcases this with rfl | rfl | rfl <;> omega
theorem cdl_eq {s' : Nat → Nat} (h : ∀ v, v < 6 → s v < 4) (h' : ∀ v, v < 6 → s' v < 4) (q : cdl s = cdl s') : ∀ v, 3 ≤ v → v < 6 → s v = s' v := by
  unfold cdl at q
  have := h 3 (by omega)
  have := h 4 (by omega)
  have := h 5 (by omega)
  have := h' 3 (by omega)
  have := h' 4 (by omega)
  have := h' 5 (by omega)
  intro v hv hv6
  have : v = 3 ∨ v = 4 ∨ v = 5 := by omega
  rcases this with rfl | rfl | rfl <;> omega
theorem rd_lt {s' : Nat → Nat} {v p : Nat} (hv : v < 6) (h : s v = s' v) : rd s p v = rd s' p v := by
  unfold rd
  rw [if_neg (by omega), if_neg (by omega), h]
theorem KN.kS {m' cell pl cell' pl' : Nat} {row : Nat → Int32} (hk : kS cell pl τ τ') (h : KN A m' cell' pl' τ row) (hne : cell' ≠ cell ∨ pl' ≠ pl) : KN A m' cell' pl' τ' row := by
  by_cases hc : cell' = cell
  · subst hc
    obtain ⟨g1, g2⟩ := hk.2 pl' (by omega)
    unfold KN
    rw [g1, g2]
    exact h
  · unfold KN
    rw [hk.1 14 cell' (Or.inr hc), hk.1 15 cell' (Or.inr hc)]
    exact h
theorem CX.up (ok : TOK A) (h : CX A τ) (hs : ∀ v, v < 6 → s v < 4) (hk : kS 64 (cdu s) τ τ') (h15 : bq (τ' 15 64) (cdu s) = td_ho A 0 (rd s 0)) (h14 : bq (τ' 14 64) (cdu s) = true) : CX A τ' := by
  intro s' hs'
  have l := cdu_lt hs'
  refine ⟨?_, (h s' hs').2.kS hk (Or.inl (by omega))⟩
  by_cases c : cdu s' = cdu s
  · have e : td_ho A 0 (rd s 0) = td_ho A 0 (rd s' 0) := ho_congr ok (by omega) (fun v hv => rd_lt (by have : v < 3 := hv; omega) (cdu_eq hs hs' c.symm v hv))
    rw [c]
    exact ⟨fun _ => by rw [h15, e], fun q => by rw [h14] at q; cases q⟩
  · exact (h s' hs').1.kS hk (Or.inr c)
theorem CX.lo (ok : TOK A) (h : CX A τ) (hs : ∀ v, v < 6 → s v < 4) (hk : kS (cdu s) (cdl s) τ τ') (h15 : bq (τ' 15 (cdu s)) (cdl s) = td_ho A 1 (rd s 0)) (h14 : bq (τ' 14 (cdu s)) (cdl s) = true) : CX A τ' := by
  intro s' hs'
  have l := cdu_lt hs
  refine ⟨(h s' hs').1.kS hk (Or.inl (by omega)), ?_⟩
  by_cases c : cdu s' = cdu s ∧ cdl s' = cdl s
  · have e : td_ho A 1 (rd s 0) = td_ho A 1 (rd s' 0) := ho_congr ok (by omega) (fun v hv => by
      have hv6 : v < 6 := hv
      by_cases h3 : v < 3
      · exact rd_lt hv6 (cdu_eq hs hs' c.1.symm v h3)
      · exact rd_lt hv6 (cdl_eq hs hs' c.2.symm v (by omega) hv6))
    rw [c.1, c.2]
    exact ⟨fun _ => by rw [h15, e], fun q => by rw [h14] at q; cases q⟩
  · exact (h s' hs').2.kS hk (by omega)
theorem nf_nn {k : Nat} (h : k < 1000) : nf (nn k) := by
  unfold nf
  rw [nn_toInt (by omega)]
  omega
/-- the class's row: digits, and what the parameter is -/
def rX (σ : Nat → Nat → Int32) (r : Nat) (s : Nat → Nat) : Prop := (∀ v, v < 6 → σ r v = nn (s v) ∧ s v < 4) ∧ nf (σ r 6)
theorem rX.nf (h : rX σ r s) : ∀ v, v ≤ 6 → nf (σ r v) := fun v hv => by
  by_cases c : v = 6
  · rw [c]; exact h.2
  · obtain ⟨h1, h2⟩ := h.1 v (by omega)
    rw [h1]
    exact nf_nn (by omega)
theorem rX.ho (ok : TOK A) (hm : m < 2) (h : rX σ r s) : td_ho A m (σ r) = td_ho A m (rd s 0) := ho_congr ok hm (fun v hv => by
  have hv6 : v < 6 := by split at hv <;> omega
  rw [(h.1 v hv6).1]
  unfold rd
  rw [if_neg (by omega)])
theorem fE.row (h : fE dy σ σ') (hx : rX σ r s) (hr : r < 47) : rX σ' r s := by
  show rX σ' r s
  unfold rX
  rw [h.st hr]
  exact hx
theorem s_9 (hdy : dy.length < 100000) (ok : TOK A) (hX : RepX A F E dy σ ρ) (hC : CX A τ) (hm : m < 2) (h47 : r < 47) (hr : me_sh dy r = some (0, 7)) (hrow : rX σ r s) (kk : ∀ σ' τ', fE dy σ σ' → tE τ τ' → CX A τ' → Q (.inl (some (.int (bb (td_rt A (decide (m = 0)) s = true))))) (mk dy σ' ρ τ')) : go (tb_P L xs) 9 0 [some (.ref 11), some (.int (nn m)), some (.ref r), none] [] (mk dy σ ρ τ) Q := by
  have g := hrow.1
  have h6 : ∀ v, v < 6 → s v < 4 := fun v hv => (g v hv).2
  have hq1 := (hC s h6).1
  have hl1 := cdu_lt h6
  have hl2 := cdl_lt h6
  refine g_aload_n k9_0 rfl ?_
  refine g_iconst (v := nn 0) k9_1 ci_0 ?_
  refine g_callS2 k9_2 s9_2 c9_2 l10 (by omega) ⟨rfl, rfl⟩ rfl r9_2 ?_
  refine s_10 (a := s 0) (b := s 1) (c := s 2) hdy hr (by omega) (g 0 (by omega)).1 (g 1 (by omega)).1 (g 2 (by omega)).1 ⟨h6 0 (by omega), h6 1 (by omega), h6 2 (by omega)⟩ ?_
  refine af_ret ?_
  refine g_istore_n k9_5 rfl rfl ?_
  refine g_aload_n k9_6 rfl ?_
  refine g_iconst (v := nn 0) k9_7 ci_0 ?_
  refine g_bipush (v := nn 64) k9_8 cb_64 ?_
  refine g_iload_n k9_10 rfl ?_
  refine g_aload_n k9_11 rfl ?_
  refine m_callV4 k9_12 s9_12 c9_12 l11 (by omega) ⟨rfl, rfl, rfl, rfl⟩ rfl r9_12 rfl ?_
  refine s_11 (cell := 64) (pl := cdu s) hdy ok hX (m := 0) (by omega) (by omega) hl1 h47 hr hrow.nf (hq1.same (hrow.ho ok (by omega)).symm) (fun σ1 τ1 hs1 hk1 g15 g14 => ?_)
  refine af_ret ?_
  rw [hrow.ho ok (by omega)] at g15 ⊢
  have hC1 := hC.up ok h6 hk1 g15 g14
  refine g_ifneB k9_15 (t := 20) rfl (fun h15 => ?_) (fun h15 => ?_)
  · skip
    refine g_iload_n k9_20 rfl ?_
    refine g_ifeqN k9_21 (t := 39) rfl (by omega) (fun h21 => ?_) (fun h21 => ?_)
    · skip
      refine g_iconst (v := nn 1) k9_39 ci_1 ?_
      refine g_goto k9_40 (t := 44) rfl ?_
      refine g_breturn k9_44 t9 (by decide) ?_
      first
        | (have hz := kk σ1 τ1 hs1 hk1.tE hC1
           have h15' : td_ho A 0 (rd s 0) = false := by simpa using h15
           rw [show td_rt A (decide (m = 0)) s = false by unfold td_rt td_ri; rw [h15']; simp] at hz
           exact hz)
        | (have hz := kk σ1 τ1 hs1 hk1.tE hC1
           rw [show td_rt A (decide (m = 0)) s = true by unfold td_rt; rw [if_pos (decide_eq_true h21)]; exact h15] at hz
           exact hz)
        | (have hz := kk σ2 τ2 (hs1.tr hs2) (hk1.tE.tr hk2.tE) hC2
           rw [show td_rt A (decide (m = 0)) s = true by unfold td_rt td_ri; rw [if_neg (by simpa using h21), h15, h36]; rfl] at hz
           exact hz)
        | (have hz := kk σ2 τ2 (hs1.tr hs2) (hk1.tE.tr hk2.tE) hC2
           have h36' : td_ho A 1 (rd s 0) = false := by simpa using h36
           rw [show td_rt A (decide (m = 0)) s = false by unfold td_rt td_ri; rw [if_neg (by simpa using h21), h15, h36']; rfl] at hz
           exact hz)
    · skip
      refine g_aload_n k9_24 rfl ?_
      refine g_iconst (v := nn 1) k9_25 ci_1 ?_
      refine g_iload_n k9_26 rfl ?_
      refine g_aload_n k9_27 rfl ?_
      refine g_iconst (v := nn 3) k9_28 ci_3 ?_
      refine g_callS2 k9_29 s9_29 c9_29 l10 (by omega) ⟨rfl, rfl⟩ rfl r9_29 ?_
      refine s_10 (a := s 3) (b := s 4) (c := s 5) hdy hr (by omega) (by rw [hs1.st h47]; exact (g 3 (by omega)).1) (by rw [hs1.st h47]; exact (g 4 (by omega)).1) (by rw [hs1.st h47]; exact (g 5 (by omega)).1) ⟨h6 3 (by omega), h6 4 (by omega), h6 5 (by omega)⟩ ?_
      refine af_ret ?_
      refine g_aload_n k9_32 rfl ?_
      refine m_callV4 k9_33 s9_33 c9_33 l11 (by omega) ⟨rfl, rfl, rfl, rfl⟩ rfl r9_33 rfl ?_
      refine s_11 (cell := cdu s) (pl := cdl s) hdy ok (hX.agr ok hs1.ag) (m := 1) (by omega) (by omega) hl2 h47 hr (hs1.row hrow h47).nf ((hC1 s h6).2.same ((hs1.row hrow h47).ho ok (by omega)).symm) (fun σ2 τ2 hs2 hk2 i15 i14 => ?_)
      refine af_ret ?_
      rw [(hs1.row hrow h47).ho ok (by omega)] at i15 ⊢
      have hC2 := hC1.lo ok h6 hk2 i15 i14
      refine g_ifeqB k9_36 (t := 43) rfl (fun h36 => ?_) (fun h36 => ?_)
      · skip
        refine g_iconst (v := nn 0) k9_43 ci_0 ?_
        refine g_breturn k9_44 t9 (by decide) ?_
        first
          | (have hz := kk σ1 τ1 hs1 hk1.tE hC1
             have h15' : td_ho A 0 (rd s 0) = false := by simpa using h15
             rw [show td_rt A (decide (m = 0)) s = false by unfold td_rt td_ri; rw [h15']; simp] at hz
             exact hz)
          | (have hz := kk σ1 τ1 hs1 hk1.tE hC1
             rw [show td_rt A (decide (m = 0)) s = true by unfold td_rt; rw [if_pos (decide_eq_true h21)]; exact h15] at hz
             exact hz)
          | (have hz := kk σ2 τ2 (hs1.tr hs2) (hk1.tE.tr hk2.tE) hC2
             rw [show td_rt A (decide (m = 0)) s = true by unfold td_rt td_ri; rw [if_neg (by simpa using h21), h15, h36]; rfl] at hz
             exact hz)
          | (have hz := kk σ2 τ2 (hs1.tr hs2) (hk1.tE.tr hk2.tE) hC2
             have h36' : td_ho A 1 (rd s 0) = false := by simpa using h36
             rw [show td_rt A (decide (m = 0)) s = false by unfold td_rt td_ri; rw [if_neg (by simpa using h21), h15, h36']; rfl] at hz
             exact hz)
      · skip
        refine g_iconst (v := nn 1) k9_39 ci_1 ?_
        refine g_goto k9_40 (t := 44) rfl ?_
        refine g_breturn k9_44 t9 (by decide) ?_
        first
          | (have hz := kk σ1 τ1 hs1 hk1.tE hC1
             have h15' : td_ho A 0 (rd s 0) = false := by simpa using h15
             rw [show td_rt A (decide (m = 0)) s = false by unfold td_rt td_ri; rw [h15']; simp] at hz
             exact hz)
          | (have hz := kk σ1 τ1 hs1 hk1.tE hC1
             rw [show td_rt A (decide (m = 0)) s = true by unfold td_rt; rw [if_pos (decide_eq_true h21)]; exact h15] at hz
             exact hz)
          | (have hz := kk σ2 τ2 (hs1.tr hs2) (hk1.tE.tr hk2.tE) hC2
             rw [show td_rt A (decide (m = 0)) s = true by unfold td_rt td_ri; rw [if_neg (by simpa using h21), h15, h36]; rfl] at hz
             exact hz)
          | (have hz := kk σ2 τ2 (hs1.tr hs2) (hk1.tE.tr hk2.tE) hC2
             have h36' : td_ho A 1 (rd s 0) = false := by simpa using h36
             rw [show td_rt A (decide (m = 0)) s = false by unfold td_rt td_ri; rw [if_neg (by simpa using h21), h15, h36']; rfl] at hz
             exact hz)
  · skip
    refine g_iconst (v := nn 0) k9_18 ci_0 ?_
    refine g_breturn k9_19 t9 (by decide) ?_
    first
      | (have hz := kk σ1 τ1 hs1 hk1.tE hC1
         have h15' : td_ho A 0 (rd s 0) = false := by simpa using h15
         rw [show td_rt A (decide (m = 0)) s = false by unfold td_rt td_ri; rw [h15']; simp] at hz
         exact hz)
      | (have hz := kk σ1 τ1 hs1 hk1.tE hC1
         rw [show td_rt A (decide (m = 0)) s = true by unfold td_rt; rw [if_pos (decide_eq_true h21)]; exact h15] at hz
         exact hz)
      | (have hz := kk σ2 τ2 (hs1.tr hs2) (hk1.tE.tr hk2.tE) hC2
         rw [show td_rt A (decide (m = 0)) s = true by unfold td_rt td_ri; rw [if_neg (by simpa using h21), h15, h36]; rfl] at hz
         exact hz)
      | (have hz := kk σ2 τ2 (hs1.tr hs2) (hk1.tE.tr hk2.tE) hC2
         have h36' : td_ho A 1 (rd s 0) = false := by simpa using h36
         rw [show td_rt A (decide (m = 0)) s = false by unfold td_rt td_ri; rw [if_neg (by simpa using h21), h15, h36']; rfl] at hz
         exact hz)
end YB
