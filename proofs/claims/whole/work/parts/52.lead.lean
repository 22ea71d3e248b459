/-! The class: what an event allows, and where it leads. -/
section YC
variable {L : Nat} {xs : Nat → Int32} {Q : am_A → am_H → Prop} {dy dy' : List (Nat × Nat)} {σ σ' : Nat → Nat → Int32} {ρ ρ' : Nat → Nat → Option Nat} {τ τ' : Nat → Nat → Int64} {A : TD} {W : RS} {F E : Nat → Nat} {f e u r ad m : Nat} {rw : Nat → Int32} {s : Nat → Nat}
theorem va_rn : va_rf none = .null := rfl
theorem s_23 (hdy : dy.length < 100000) (ok : TOK A) (hX : RepX A F E dy σ ρ) (he : e < td_ne A) (h47 : r < 47) (hr : me_sh dy r = some (0, 7)) (hrow : ∀ v, v ≤ 6 → nf (σ r v)) (kk : ∀ σ', fE dy σ σ' → Q (.inl (some (.int (bb (td_en A e (σ r) = true))))) (mk dy σ' ρ τ)) : go (tb_P L xs) 23 0 [some (.ref (E e)), some (.ref r)] [] (mk dy σ ρ τ) Q := by
  obtain ⟨⟨_, hA8, hA3⟩, _, _, _, g3, _, _⟩ := (hX.2.1.2.1 e he).2
  unfold td_en at kk
  cases hg : td_gd A e with
  | none =>
    rw [hg] at g3 kk
    have g3 : ρ (E e) 3 = none := g3
    refine g_aload_n k23_0 rfl ?_
    refine m_get k23_1 f23_1 (by assumption) rfl ?_
    rw [g3, va_rn]
    refine g_ifnull_t k23_4 (t := 18) rfl ?_
    refine g_iconst (v := nn 1) k23_18 ci_1 ?_
    refine g_goto k23_19 (t := 23) rfl ?_
    refine g_breturn k23_23 t23 (by decide) ?_
    exact kk σ (fE.rf σ)
  | some f =>
    rw [hg] at g3 kk
    have g3 : ρ (E e) 3 = some (F f) := g3
    obtain ⟨hf, hft, -⟩ := (ok.2.2.2.1 e he).2.2.2.1 f hg
    have hF := (hX.1.2 f hf).2
    obtain ⟨⟨_, hA, _⟩, _⟩ := (hX.1.2 f hf).2
    have htr := tr_1 (ev_tr ok hf hft hF hrow)
    refine g_aload_n k23_0 rfl ?_
    refine m_get k23_1 f23_1 (by assumption) rfl ?_
    rw [g3, va_rs]
    refine g_ifnull_f k23_4 ?_
    refine g_aload_n k23_7 rfl ?_
    refine m_get k23_8 f23_8 (by assumption) rfl ?_
    rw [g3, va_rs]
    refine g_aload_n k23_11 rfl ?_
    refine m_callV1 k23_12 s23_12 c23_12 l13 (by omega) rfl rfl r23_12 (by assumption) ?_
    refine s_13 hdy ok hf hF h47 hr hrow (fun σ1 hs => ?_)
    refine af_ret ?_
    refine g_ifeqT k23_15 (t := 22) rfl (fun h15 => ?_) (fun h15 => ?_)
    · skip
      refine g_iconst (v := nn 0) k23_22 ci_0 ?_
      refine g_breturn k23_23 t23 (by decide) ?_
      have hz := kk σ1 hs
      first
        | (rw [bb_t (decide_eq_true (htr.mp h15))] at hz
           exact hz)
        | (rw [bb_f (fun q => htr.mpr (of_decide_eq_true q) h15)] at hz
           exact hz)
    · skip
      refine g_iconst (v := nn 1) k23_18 ci_1 ?_
      refine g_goto k23_19 (t := 23) rfl ?_
      refine g_breturn k23_23 t23 (by decide) ?_
      have hz := kk σ1 hs
      first
        | (rw [bb_t (decide_eq_true (htr.mp h15))] at hz
           exact hz)
        | (rw [bb_f (fun q => htr.mpr (of_decide_eq_true q) h15)] at hz
           exact hz)
/-- an assignment keeps its size -/
def td_s1 (A : TD) (e : Nat) (rw : Nat → Int32) (v : Nat) : Bool := match td_as A e v with
  | none => true
  | some f => decide (0 ≤ (ev A f rw).toInt ∧ (ev A f rw).toInt < td_sz A v)
def td_sy (A : TD) (e : Nat) (rw : Nat → Int32) : Bool := (List.range' 0 6).all (td_s1 A e rw)
/-- nothing but after, and what formulas note, is another -/
def fA (dy : List (Nat × Nat)) (σ σ' : Nat → Nat → Int32) : Prop := ∀ a, a ≠ 16 → (a < 47 ∨ me_sh dy a ≠ some (0, 25)) → σ' a = σ a
theorem fA.tr {σ σ1 σ2 : Nat → Nat → Int32} (h1 : fA dy σ σ1) (h2 : fA dy σ1 σ2) : fA dy σ σ2 := fun a g h => (h2 a g h).trans (h1 a g h)
theorem fE.fA (h : fE dy σ σ') : fA dy σ σ' := fun a _ g => h a g
theorem fA.up {v : Nat} {x : Int32} (h : fA dy σ σ') : fA dy σ (up2 σ' 16 v x) := fun a g1 g2 => by
  rw [← h a g1 g2]
  funext q
  exact up2_ne (Or.inl g1)
theorem fA.ag (h : fA dy σ σ') : agX dy σ σ' := ⟨fun a k q => by rw [h a (by omega) (Or.inl (by omega))], fun a k s h1 h2 h3 => by rw [h a (by omega) (Or.inr (fun q => h3 (Option.some.inj (h2.symm.trans q))))]⟩
theorem s_25L (hdy : dy.length < 100000) (ok : TOK A) (he : e < td_ne A) (h47 : r < 47) (h16 : r ≠ 16) (hr : me_sh dy r = some (0, 7)) : ∀ (k j : Nat) {σ : Nat → Nat → Int32} {Q : am_A → am_H → Prop}, j + k = 6 → RepX A F E dy σ ρ → (∀ v, v ≤ 6 → nf (σ r v)) → (∀ σ', fA dy σ σ' → (∀ v, σ' 16 v = if j ≤ v ∧ v < 6 ∧ td_as A e v ≠ none then td_ld A e (σ r) v else σ 16 v) → (List.range' j k).all (td_s1 A e (σ r)) = true → Q (.inl (some (.int (nn 1)))) (mk dy σ' ρ τ)) → (∀ σ', fA dy σ σ' → (List.range' j k).all (td_s1 A e (σ r)) = false → Q (.inl (some (.int (nn 0)))) (mk dy σ' ρ τ)) → go (tb_P L xs) 25 2 [some (.ref 7), some (.ref (E e)), some (.ref r), some (.int (nn j))] [] (mk dy σ ρ τ) Q := by
  intro k
  induction k with
  | zero =>
    intro j σ Q hj hX hrow k1 k2
    have hj6 : j = 6 := by omega
    subst hj6
    refine g_iload_n k25_2 rfl ?_
    refine g_bipush (v := nn 6) k25_3 cb_6 ?_
    refine g_icge_t k25_5 (t := 59) rfl (by decide) ?_
    refine g_iconst (v := nn 1) k25_59 ci_1 ?_
    refine g_breturn k25_60 t25 (by decide) ?_
    exact k1 σ (fun _ _ _ => rfl) (fun v => by rw [if_neg (by omega)]) rfl
  | succ k ih =>
    intro j σ Q hj hX hrow k1 k2
    obtain ⟨⟨_, hA8, hA3⟩, _, _, _, _, _, gas⟩ := (hX.2.1.2.1 e he).2
    have gj := gas j (by omega)
    rw [List.range'_succ, List.all_cons] at k1 k2
    cases hg : td_as A e j with
    | none =>
      rw [hg] at gj
      have gj : ρ (E e + 1) j = none := gj
      have e1 : td_s1 A e (σ r) j = true := by unfold td_s1; rw [hg]
      rw [e1, Bool.true_and] at k1 k2
      refine g_iload_n k25_2 rfl ?_
      refine g_bipush (v := nn 6) k25_3 cb_6 ?_
      refine g_icge_f k25_5 (t := 59) rfl (by rw [nn_toInt (by omega), nn_toInt (by omega)]; omega) ?_
      refine g_aload_n k25_8 rfl ?_
      refine m_get k25_9 f25_9 (by assumption) rfl ?_
      refine g_iload_n k25_12 rfl ?_
      refine m_aald k25_13 (by assumption) ⟨by omega, by omega⟩ rfl (by omega) (by omega) ?_
      rw [gj, va_rn]
      refine g_ifnull_t k25_14 (t := 53) rfl ?_
      refine g_iincN k25_53 rfl rfl rfl ?_
      refine g_goto k25_56 (t := 2) rfl ?_
      refine ih (j + 1) (by omega) hX hrow (fun σ' hs h2 h3 => k1 σ' hs (fun v => ?_) h3) k2
      rw [h2 v]
      by_cases c : v = j
      · subst c
        rw [if_neg (by omega), if_neg (fun q => q.2.2 hg)]
      · by_cases c2 : j + 1 ≤ v ∧ v < 6 ∧ td_as A e v ≠ none
        · rw [if_pos c2, if_pos ⟨by omega, c2.2⟩]
        · rw [if_neg c2, if_neg (fun q => c2 ⟨by omega, q.2⟩)]
    | some f =>
      rw [hg] at gj
      have gj : ρ (E e + 1) j = some (F f) := gj
      have hf := ((ok.2.2.2.1 e he).2.2.2.2.2 j f (by omega) hg).1
      have hF := (hX.1.2 f hf).2
      obtain ⟨⟨_, hA, _⟩, _⟩ := (hX.1.2 f hf).2
      have hsz := (hX.2.2.2.2.1 j (by omega)).1
      have hs4 := (ok.2.2.2.2.2.2.2 j (by omega))
      have hld : td_ld A e (σ r) j = ev A f (σ r) := by unfold td_ld; rw [hg]
      refine g_iload_n k25_2 rfl ?_
      refine g_bipush (v := nn 6) k25_3 cb_6 ?_
      refine g_icge_f k25_5 (t := 59) rfl (by rw [nn_toInt (by omega), nn_toInt (by omega)]; omega) ?_
      refine g_aload_n k25_8 rfl ?_
      refine m_get k25_9 f25_9 (by assumption) rfl ?_
      refine g_iload_n k25_12 rfl ?_
      refine m_aald k25_13 (by assumption) ⟨by omega, by omega⟩ rfl (by omega) (by omega) ?_
      rw [gj, va_rs]
      refine g_ifnull_f k25_14 ?_
      refine g_aload_n k25_17 rfl ?_
      refine m_get k25_18 f25_18 rfl rfl ?_
      refine g_iload_n k25_21 rfl ?_
      refine g_aload_n k25_22 rfl ?_
      refine m_get k25_23 f25_23 (by assumption) rfl ?_
      refine g_iload_n k25_26 rfl ?_
      refine m_aald k25_27 (by assumption) ⟨by omega, by omega⟩ rfl (by omega) (by omega) ?_
      rw [gj, va_rs]
      refine g_aload_n k25_28 rfl ?_
      refine m_callV1 k25_29 s25_29 c25_29 l13 (by omega) rfl rfl r25_29 (by assumption) ?_
      refine s_13 hdy ok hf hF h47 hr hrow (fun σ1 hs => ?_)
      refine af_ret ?_
      refine m_iast k25_32 rfl rfl (by omega) (by omega) ?_
      refine g_aload_n k25_33 rfl ?_
      refine m_get k25_34 f25_34 rfl rfl ?_
      refine g_iload_n k25_37 rfl ?_
      refine m_iald k25_38 hdy rfl rfl (by omega) (by omega) ?_
      rw [up2_at]
      refine g_aload_n k25_39 rfl ?_
      refine m_get k25_40 f25_40 rfl rfl ?_
      refine g_iload_n k25_43 rfl ?_
      refine m_iald k25_44 hdy rfl rfl (by omega) (by omega) ?_
      rw [up2_ne (by omega), hs.st (by omega), hsz]
      refine g_callS2 k25_45 s25_45 c25_45 l26 (by omega) ⟨rfl, rfl⟩ rfl r25_45 ?_
      refine s_26 ?_
      refine af_ret ?_
      rw [nn_toInt (k := td_sz A j) (by omega)]
      refine g_ifneB k25_48 (t := 53) rfl (fun h48 => ?_) (fun h48 => ?_)
      · skip
        refine g_iincN k25_53 rfl rfl rfl ?_
        refine g_goto k25_56 (t := 2) rfl ?_
        have e1 : td_s1 A e (σ r) j = true := by unfold td_s1; rw [hg]; exact decide_eq_true h48
        rw [e1, Bool.true_and] at k1 k2
        have er : up2 σ1 16 j (ev A f (σ r)) r = σ r := by
          rw [← hs.st h47]
          funext q
          exact up2_ne (Or.inl h16)
        refine ih (j + 1) (by omega) (hX.agr ok hs.fA.up.ag) (fun v hv => by rw [er]; exact hrow v hv) (fun σ' hs2 h2 h3 => k1 σ' (hs.fA.up.tr hs2) (fun v => ?_) ?_) (fun σ' hs2 h3 => k2 σ' (hs.fA.up.tr hs2) ?_)
        · rw [h2 v, er]
          by_cases c : v = j
          · subst c
            rw [if_neg (by omega), if_pos ⟨by omega, by omega, by rw [hg]; exact fun q => by cases q⟩, up2_at, hld]
          · by_cases c2 : j + 1 ≤ v ∧ v < 6 ∧ td_as A e v ≠ none
            · rw [if_pos c2, if_pos ⟨by omega, c2.2⟩]
            · rw [if_neg c2, if_neg (fun q => c2 ⟨by omega, q.2⟩), up2_ne (by omega), hs.st (by omega)]
        · rw [er] at h3
          exact h3
        · rw [er] at h3
          exact h3
      · skip
        refine g_iconst (v := nn 0) k25_51 ci_0 ?_
        refine g_breturn k25_52 t25 (by decide) ?_
        refine k2 _ hs.fA.up ?_
        rw [show td_s1 A e (σ r) j = false by unfold td_s1; rw [hg]; exact decide_eq_false h48, Bool.false_and]
theorem s_25 (hdy : dy.length < 100000) (ok : TOK A) (hX : RepX A F E dy σ ρ) (he : e < td_ne A) (h47 : r < 47) (h16 : r ≠ 16) (hr : me_sh dy r = some (0, 7)) (hrow : ∀ v, v ≤ 6 → nf (σ r v)) (k1 : ∀ σ', fA dy σ σ' → (∀ v, σ' 16 v = if v < 6 ∧ td_as A e v ≠ none then td_ld A e (σ r) v else σ 16 v) → td_sy A e (σ r) = true → Q (.inl (some (.int (nn 1)))) (mk dy σ' ρ τ)) (k2 : ∀ σ', fA dy σ σ' → td_sy A e (σ r) = false → Q (.inl (some (.int (nn 0)))) (mk dy σ' ρ τ)) : go (tb_P L xs) 25 0 [some (.ref 7), some (.ref (E e)), some (.ref r), none] [] (mk dy σ ρ τ) Q := by
  refine g_iconst (v := nn 0) k25_0 ci_0 ?_
  refine g_istore_n k25_1 rfl rfl ?_
  refine s_25L hdy ok he h47 h16 hr 6 0 (by omega) hX hrow (fun σ' hs h2 h3 => k1 σ' hs (fun v => ?_) h3) k2
  rw [h2 v]
  by_cases c : v < 6 ∧ td_as A e v ≠ none
  · rw [if_pos c, if_pos ⟨by omega, c⟩]
  · rw [if_neg c, if_neg (fun q => c q.2)]
theorem cpy7 {g1 g2 : Nat → Int32} {v : Nat} : va_cpy g1 g2 0 0 7 v = if v < 7 then g1 v else g2 v := by
  unfold va_cpy
  by_cases h : v < 7
  · rw [if_pos (by omega), if_pos h]
    congr 1
    omega
  · rw [if_neg (by omega), if_neg h]
theorem upr_ne {α : Type} {f : Nat → Nat → α} {a a0 : Nat} {g : Nat → α} (h : a ≠ a0) : upr f a0 g a = f a := by
  unfold upr
  rw [if_neg h]
theorem upr_at {α : Type} {f : Nat → Nat → α} {a : Nat} {g : Nat → α} : upr f a g a = g := by
  unfold upr
  rw [if_pos rfl]
/-- nothing but above, and what formulas note, is another -/
def fV (dy : List (Nat × Nat)) (σ σ' : Nat → Nat → Int32) : Prop := ∀ a, a ≠ 17 → (a < 47 ∨ me_sh dy a ≠ some (0, 25)) → σ' a = σ a
theorem fV.ag (h : fV dy σ σ') : agX dy σ σ' := ⟨fun a k q => by rw [h a (by omega) (Or.inl (by omega))], fun a k s h1 h2 h3 => by rw [h a (by omega) (Or.inr (fun q => h3 (Option.some.inj (h2.symm.trans q))))]⟩
theorem s_28 (hdy : dy.length < 100000) (ok : TOK A) (hX : RepX A F E dy σ ρ) (he : e < td_ne A) (h47 : r < 47) (h17 : r ≠ 17) (hr : me_sh dy r = some (0, 7)) (hrow : ∀ v, v ≤ 6 → nf (σ r v)) (kk : ∀ σ', fV dy σ σ' → (∀ v, v ≤ 6 → σ' 17 v = td_rp (σ r) (td_wi A e (σ r)) v) → nf (td_wi A e (σ r)) → Q (.inl none) (mk dy σ' ρ τ)) : go (tb_P L xs) 28 0 [some (.ref 7), some (.ref (E e)), some (.ref r)] [] (mk dy σ ρ τ) Q := by
  obtain ⟨⟨_, hA8, hA3⟩, _, _, _, _, g4, _⟩ := (hX.2.1.2.1 e he).2
  have hv1 : fV dy σ (upr σ 17 (va_cpy (σ r) (σ 17) 0 0 7)) := fun a g _ => upr_ne g
  have er : upr σ 17 (va_cpy (σ r) (σ 17) 0 0 7) r = σ r := upr_ne h17
  cases hg : td_wt A e with
  | none =>
    rw [hg] at g4
    have g4 : ρ (E e) 4 = none := g4
    have hw : td_wi A e (σ r) = nn 0 := by unfold td_wi; rw [hg]
    rw [hw] at kk
    refine g_aload_n k28_0 rfl ?_
    refine g_iconst (v := nn 0) k28_1 ci_0 ?_
    refine g_aload_n k28_2 rfl ?_
    refine m_get k28_3 f28_3 rfl rfl ?_
    refine g_iconst (v := nn 0) k28_6 ci_0 ?_
    refine g_bipush (v := nn 7) k28_7 cb_7 ?_
    refine m_copy k28_9 s28_9 (by assumption) rfl rfl rfl rfl (by omega) r28_9 ?_
    refine g_aload_n k28_12 rfl ?_
    refine m_get k28_13 f28_13 rfl rfl ?_
    refine g_bipush (v := nn 6) k28_16 cb_6 ?_
    refine g_aload_n k28_18 rfl ?_
    refine m_get k28_19 f28_19 (by assumption) rfl ?_
    rw [g4, va_rn]
    refine g_ifnonnull_f k28_22 ?_
    refine g_iconst (v := nn 0) k28_25 ci_0 ?_
    refine g_goto k28_26 (t := 37) rfl ?_
    refine m_iast k28_37 rfl rfl (by omega) (by omega) ?_
    refine g_return k28_38 t28 ?_
    refine kk _ (fun a g1 g2 => ?_) (fun v hv => ?_) (nf_nn (by omega))
    · rw [← hv1 a g1 g2]
      funext q
      exact up2_ne (Or.inl g1)
    · unfold td_rp
      rw [up2_of]
      by_cases c : v = 6
      · rw [if_pos c, if_pos c]
      · rw [if_neg c, if_neg c, upr_at, cpy7, if_pos (by omega)]
  | some f =>
    rw [hg] at g4
    have g4 : ρ (E e) 4 = some (F f) := g4
    have hw : td_wi A e (σ r) = ev A f (σ r) := by unfold td_wi; rw [hg]
    rw [hw] at kk
    have hf := ((ok.2.2.2.1 e he).2.2.2.2.1 f hg).1
    have hX1 := hX.agr ok hv1.ag
    have hF := (hX1.1.2 f hf).2
    obtain ⟨⟨_, hA, _⟩, _⟩ := (hX1.1.2 f hf).2
    have hnf := ev_nf ok hf hF hrow
    refine g_aload_n k28_0 rfl ?_
    refine g_iconst (v := nn 0) k28_1 ci_0 ?_
    refine g_aload_n k28_2 rfl ?_
    refine m_get k28_3 f28_3 rfl rfl ?_
    refine g_iconst (v := nn 0) k28_6 ci_0 ?_
    refine g_bipush (v := nn 7) k28_7 cb_7 ?_
    refine m_copy k28_9 s28_9 (by assumption) rfl rfl rfl rfl (by omega) r28_9 ?_
    refine g_aload_n k28_12 rfl ?_
    refine m_get k28_13 f28_13 rfl rfl ?_
    refine g_bipush (v := nn 6) k28_16 cb_6 ?_
    refine g_aload_n k28_18 rfl ?_
    refine m_get k28_19 f28_19 (by assumption) rfl ?_
    rw [g4, va_rs]
    refine g_ifnonnull_t k28_22 (t := 29) rfl ?_
    refine g_aload_n k28_29 rfl ?_
    refine m_get k28_30 f28_30 (by assumption) rfl ?_
    rw [g4, va_rs]
    refine g_aload_n k28_33 rfl ?_
    refine m_callV1 k28_34 s28_34 c28_34 l13 (by omega) rfl rfl r28_34 (by assumption) ?_
    refine s_13 hdy ok hf hF h47 hr (by rw [er]; exact hrow) (fun σ1 hs => ?_)
    refine af_ret ?_
    rw [er]
    refine m_iast k28_37 rfl rfl (by omega) (by omega) ?_
    refine g_return k28_38 t28 ?_
    refine kk _ (fun a g1 g2 => ?_) (fun v hv => ?_) hnf
    · rw [← hv1 a g1 g2, ← hs a g2]
      funext q
      exact up2_ne (Or.inl g1)
    · unfold td_rp
      rw [up2_of]
      by_cases c : v = 6
      · rw [if_pos c, if_pos c]
      · rw [if_neg c, if_neg c, hs.st (by omega), upr_at, cpy7, if_pos (by omega)]
theorem s_27 (hdy : dy.length < 100000) (ok : TOK A) (hX : RepX A F E dy σ ρ) (he : e < td_ne A) (h47 : r < 47) (h17 : r ≠ 17) (hr : me_sh dy r = some (0, 7)) (hrow : ∀ v, v ≤ 6 → nf (σ r v)) (kk : ∀ σ', fV dy σ σ' → Q (.inl (some (.int (bb (td_fo A e (σ r) = true))))) (mk dy σ' ρ τ)) : go (tb_P L xs) 27 0 [some (.ref 7), some (.ref (E e)), some (.ref r)] [] (mk dy σ ρ τ) Q := by
  obtain ⟨⟨_, hA8, hA3⟩, _, _, g2, _, _, _⟩ := (hX.2.1.2.1 e he).2
  have fin : ∀ σ' (b : Bool), fV dy σ σ' → td_fo A e (σ r) = b → Q (.inl (some (.int (bb (b = true))))) (mk dy σ' ρ τ) := fun σ' b h hb => by
    rw [← hb]
    exact kk σ' h
  unfold td_fo at fin
  cases hg : td_rf A e with
  | none =>
    rw [hg] at g2
    have g2 : ρ (E e) 2 = none := g2
    refine g_aload_n k27_0 rfl ?_
    refine m_get k27_1 f27_1 (by assumption) rfl ?_
    rw [g2, va_rn]
    refine g_ifnonnull_f k27_4 ?_
    refine g_iconst (v := nn 1) k27_7 ci_1 ?_
    refine g_breturn k27_8 t27 (by decide) ?_
    exact fin σ true (fun _ _ _ => rfl) (by rw [hg])
  | some u =>
    rw [hg] at g2
    have g2 : ρ (E e) 2 = some (E u) := g2
    have hu : u < td_ne A := by have := ((ok.2.2.2.1 e he).2.2.1 u hg).1; omega
    obtain ⟨⟨_, hB8, _⟩, _, hrg, _⟩ := (hX.2.1.2.1 u hu).2
    have hr4 := (ok.2.2.2.1 u hu).2.1
    have hr1 := (hX.2.1.2.1 u hu).2.1.1
    refine g_aload_n k27_0 rfl ?_
    refine m_get k27_1 f27_1 (by assumption) rfl ?_
    rw [g2, va_rs]
    refine g_ifnonnull_t k27_4 (t := 9) rfl ?_
    refine g_aload_n k27_9 rfl ?_
    refine g_aload_n k27_10 rfl ?_
    refine g_aload_n k27_11 rfl ?_
    refine m_callV2 k27_12 s27_12 c27_12 l28 (by omega) ⟨rfl, rfl⟩ rfl r27_12 rfl ?_
    refine s_28 hdy ok hX he h47 h17 hr hrow (fun σ1 hs hw hwn => ?_)
    refine af_void ?_
    refine g_aload_n k27_15 rfl ?_
    refine m_get k27_16 f27_16 rfl rfl ?_
    refine g_bipush (v := nn 6) k27_19 cb_6 ?_
    refine m_iald k27_21 hdy rfl rfl (by omega) (by omega) ?_
    rw [hw 6 (by omega)]
    rw [show td_rp (σ r) (td_wi A e (σ r)) 6 = td_wi A e (σ r) from rfl]
    refine g_aload_n k27_22 rfl ?_
    refine m_get k27_23 f27_23 (by assumption) rfl ?_
    rw [g2, va_rs]
    refine m_get k27_26 f27_26 (by assumption) rfl ?_
    rw [hs.ag.2 _ _ _ hr1 hB8 (by decide), hrg]
    refine g_callS2 k27_29 s27_29 c27_29 l26 (by omega) ⟨rfl, rfl⟩ rfl r27_29 ?_
    refine s_26 ?_
    refine af_ret ?_
    rw [nn_toInt (k := td_rg A u) (by omega)]
    refine g_ifeqB k27_32 (t := 53) rfl (fun h32 => ?_) (fun h32 => ?_)
    · skip
      refine g_iconst (v := nn 0) k27_53 ci_0 ?_
      refine g_breturn k27_54 t27 (by decide) ?_
      first
        | (refine fin σ2 true (fun a q1 q2 => (hs2 a q2).trans (hs a q1 q2)) ?_
           rw [hg]
           show (decide _ && _) = true
           rw [decide_eq_true h32, Bool.true_and]
           exact h46)
        | (refine fin σ2 false (fun a q1 q2 => (hs2 a q2).trans (hs a q1 q2)) ?_
           rw [hg]
           show (decide _ && _) = false
           rw [decide_eq_true h32, Bool.true_and]
           simpa using h46)
        | (refine fin σ1 false hs ?_
           rw [hg]
           show (decide _ && _) = false
           rw [decide_eq_false h32, Bool.false_and])
    · skip
      refine g_aload_n k27_35 rfl ?_
      refine m_get k27_36 f27_36 (by assumption) rfl ?_
      rw [g2, va_rs]
      refine g_aload_n k27_39 rfl ?_
      refine m_get k27_40 f27_40 rfl rfl ?_
      refine m_callV1 k27_43 s27_43 c27_43 l23 (by omega) rfl rfl r27_43 (by assumption) ?_
      refine s_23 hdy ok (hX.agr ok hs.ag) hu (by omega) rfl (fun v hv => by rw [hw v hv]; unfold td_rp; split; exact hwn; exact hrow v hv) (fun σ2 hs2 => ?_)
      refine af_ret ?_
      rw [en_ag (M := fun _ => true) ok hu (fun _ _ => rfl) (fun v hv _ => hw v hv)]
      refine g_ifeqB k27_46 (t := 53) rfl (fun h46 => ?_) (fun h46 => ?_)
      · skip
        refine g_iconst (v := nn 0) k27_53 ci_0 ?_
        refine g_breturn k27_54 t27 (by decide) ?_
        first
          | (refine fin σ2 true (fun a q1 q2 => (hs2 a q2).trans (hs a q1 q2)) ?_
             rw [hg]
             show (decide _ && _) = true
             rw [decide_eq_true h32, Bool.true_and]
             exact h46)
          | (refine fin σ2 false (fun a q1 q2 => (hs2 a q2).trans (hs a q1 q2)) ?_
             rw [hg]
             show (decide _ && _) = false
             rw [decide_eq_true h32, Bool.true_and]
             simpa using h46)
          | (refine fin σ1 false hs ?_
             rw [hg]
             show (decide _ && _) = false
             rw [decide_eq_false h32, Bool.false_and])
      · skip
        refine g_iconst (v := nn 1) k27_49 ci_1 ?_
        refine g_goto k27_50 (t := 54) rfl ?_
        refine g_breturn k27_54 t27 (by decide) ?_
        first
          | (refine fin σ2 true (fun a q1 q2 => (hs2 a q2).trans (hs a q1 q2)) ?_
             rw [hg]
             show (decide _ && _) = true
             rw [decide_eq_true h32, Bool.true_and]
             exact h46)
          | (refine fin σ2 false (fun a q1 q2 => (hs2 a q2).trans (hs a q1 q2)) ?_
             rw [hg]
             show (decide _ && _) = false
             rw [decide_eq_true h32, Bool.true_and]
             simpa using h46)
          | (refine fin σ1 false hs ?_
             rw [hg]
             show (decide _ && _) = false
             rw [decide_eq_false h32, Bool.false_and])
theorem s_29 (hdy : dy.length < 100000) (ok : TOK A) (hX : RepX A F E dy σ ρ) (h47 : r < 47) (hr : me_sh dy r = some (0, 7)) (hrow : ∀ v, v ≤ 6 → nf (σ r v)) (kk : ∀ σ', fE dy σ σ' → Q (.inl (some (.int (td_va A (σ r))))) (mk dy σ' ρ τ)) : go (tb_P L xs) 29 0 [some (.ref 7), some (.ref r)] [] (mk dy σ ρ τ) Q := by
  have g5 := hX.2.2.2.1
  unfold td_va at kk
  cases hg : td_vr A with
  | none =>
    rw [hg] at g5 kk
    have g5 : ρ 7 5 = none := g5
    refine g_aload_n k29_0 rfl ?_
    refine m_get k29_1 f29_1 rfl rfl ?_
    rw [g5, va_rn]
    refine g_ifnonnull_f k29_4 ?_
    refine g_iconst (v := nn 0) k29_7 ci_0 ?_
    refine g_goto k29_8 (t := 19) rfl ?_
    refine g_ireturn k29_19 t29 ?_
    exact kk σ (fE.rf σ)
  | some f =>
    rw [hg] at g5 kk
    have g5 : ρ 7 5 = some (F f) := g5
    have hf := (ok.2.2.2.2.2.2.1 f hg).1
    have hF := (hX.1.2 f hf).2
    obtain ⟨⟨_, hA, _⟩, _⟩ := (hX.1.2 f hf).2
    refine g_aload_n k29_0 rfl ?_
    refine m_get k29_1 f29_1 rfl rfl ?_
    rw [g5, va_rs]
    refine g_ifnonnull_t k29_4 (t := 11) rfl ?_
    refine g_aload_n k29_11 rfl ?_
    refine m_get k29_12 f29_12 rfl rfl ?_
    rw [g5, va_rs]
    refine g_aload_n k29_15 rfl ?_
    refine m_callV1 k29_16 s29_16 c29_16 l13 (by omega) rfl rfl r29_16 (by assumption) ?_
    refine s_13 hdy ok hf hF h47 hr hrow (fun σ1 hs => ?_)
    refine af_ret ?_
    refine g_ireturn k29_19 t29 ?_
    exact kk σ1 hs
theorem all_and' {p q : Nat → Bool} : ∀ (l : List Nat), l.all (fun v => p v && q v) = (l.all p && l.all q)
  | [] => rfl
  | v :: l => by
    rw [List.all_cons, List.all_cons, List.all_cons, all_and' l]
    cases p v <;> cases q v <;> cases l.all p <;> rfl
theorem s1_of {v : Nat} (hi : td_wn A rw v = true) : td_wn A (td_ld A e rw) v = td_s1 A e rw v := by
  unfold td_s1
  cases hg : td_as A e v with
  | none =>
    rw [wn_congr (n2 := rw) (by unfold td_ld; rw [hg])]
    exact hi
  | some f =>
    unfold td_wn
    rw [show td_ld A e rw v = ev A f rw by unfold td_ld; rw [hg]]
theorem as_ma {v : Nat} (ok : TOK A) (he : e < td_ne A) (hv : v < 6) (h : ¬ (3 * td_ma A e ≤ v ∧ v < 3 * td_ma A e + 3)) : td_as A e v = none := by
  cases hg : td_as A e v with
  | none => rfl
  | some f =>
    have := ((ok.2.2.2.1 e he).2.2.2.2.2 v f hv hg).2.2.1
    omega
theorem ld_no {v : Nat} (h : td_as A e v = none) : td_ld A e rw v = rw v := by
  unfold td_ld
  rw [h]
/-- where an event alone leads -/
theorem bo_0 {v : Nat} (ok : TOK A) (he : e < td_ne A) (hv : v < 6) (hg : td_rf A e = none) : td_bo A e rw v = td_ld A e rw v := by
  unfold td_bo
  rw [hg]
  show (if 3 * td_ma A e ≤ v ∧ v < 3 * td_ma A e + 3 then td_ld A e rw v else rw v) = _
  by_cases c : 3 * td_ma A e ≤ v ∧ v < 3 * td_ma A e + 3
  · rw [if_pos c]
  · rw [if_neg c, ld_no (as_ma ok he hv c)]
theorem bo_1 {v : Nat} (ok : TOK A) (he : e < td_ne A) (hv : v < 6) (hg : td_rf A e = some u) : td_bo A e rw v = if td_as A u v ≠ none then td_ld A u (td_rp rw (td_wi A e rw)) v else td_ld A e rw v := by
  obtain ⟨h1, h2, h3⟩ := (ok.2.2.2.1 e he).2.2.1 u hg
  unfold td_bo
  rw [hg]
  show (if 3 * td_ma A u ≤ v ∧ v < 3 * td_ma A u + 3 then td_ld A u (td_rp rw (td_wi A e rw)) v else if 3 * td_ma A e ≤ v ∧ v < 3 * td_ma A e + 3 then td_ld A e rw v else rw v) = _
  rw [h2, h3]
  by_cases c : v < 3
  · rw [if_pos (by omega)]
    by_cases d : td_as A u v = none
    · rw [if_neg (fun q => q d), ld_no d, ld_no (as_ma ok he hv (by omega))]
      unfold td_rp
      rw [if_neg (by omega)]
    · rw [if_pos d]
  · rw [if_neg (by omega), if_pos (by omega), if_neg (fun q => q (as_ma ok (by omega) hv (by omega)))]
theorem bs_0 (ok : TOK A) (he : e < td_ne A) (hi : td_ir A rw) (hg : td_rf A e = none) : td_bs A e rw = td_sy A e rw := by
  unfold td_bs td_sy
  exact all_congr' 6 0 (fun v _ hv => by rw [wn_congr (bo_0 ok he (by omega) hg), s1_of (hi v (by omega))])
theorem bs_1 (ok : TOK A) (he : e < td_ne A) (hi : td_ir A rw) (hg : td_rf A e = some u) : td_bs A e rw = (td_sy A e rw && td_sy A u (td_rp rw (td_wi A e rw))) := by
  unfold td_bs td_sy
  rw [← all_and']
  refine all_congr' 6 0 (fun v _ hv => ?_)
  have hv6 : v < 6 := by omega
  obtain ⟨h1, h2, h3⟩ := (ok.2.2.2.1 e he).2.2.1 u hg
  have hq : td_wn A (td_rp rw (td_wi A e rw)) v = true := by
    rw [wn_congr (n2 := rw) (by unfold td_rp; rw [if_neg (by omega)])]
    exact hi v hv6
  rw [wn_congr (n2 := fun v => if td_as A u v ≠ none then td_ld A u (td_rp rw (td_wi A e rw)) v else td_ld A e rw v) (bo_1 ok he hv6 hg)]
  by_cases c : td_as A u v = none
  · have e1 : td_s1 A u (td_rp rw (td_wi A e rw)) v = true := by unfold td_s1; rw [c]
    rw [e1, Bool.and_true, ← s1_of (hi v hv6)]
    refine wn_congr ?_
    show (if td_as A u v ≠ none then _ else _) = _
    rw [if_neg (fun q => q c)]
  · have c3 : v < 3 := by
      by_cases h : v < 3
      · exact h
      · exact absurd (as_ma ok (by omega) hv6 (by omega)) c
    have e1 : td_s1 A e rw v = true := by
      unfold td_s1
      rw [as_ma ok he hv6 (by omega)]
    rw [e1, Bool.true_and, ← s1_of hq]
    refine wn_congr ?_
    show (if td_as A u v ≠ none then _ else _) = _
    rw [if_pos c]
/-- nothing but after and above, and what formulas note, is another -/
def fL (dy : List (Nat × Nat)) (σ σ' : Nat → Nat → Int32) : Prop := ∀ a, a ≠ 16 → a ≠ 17 → (a < 47 ∨ me_sh dy a ≠ some (0, 25)) → σ' a = σ a
theorem fL.rf (σ : Nat → Nat → Int32) : fL dy σ σ := fun _ _ _ _ => rfl
theorem fL.tr {σ σ1 σ2 : Nat → Nat → Int32} (h1 : fL dy σ σ1) (h2 : fL dy σ1 σ2) : fL dy σ σ2 := fun a g1 g2 h => (h2 a g1 g2 h).trans (h1 a g1 g2 h)
theorem fA.fL (h : fA dy σ σ') : fL dy σ σ' := fun a g1 _ g => h a g1 g
theorem fV.fL (h : fV dy σ σ') : fL dy σ σ' := fun a _ g2 g => h a g2 g
theorem fE.fL (h : fE dy σ σ') : fL dy σ σ' := fun a _ _ g => h a g
theorem fL.ag (h : fL dy σ σ') : agX dy σ σ' := ⟨fun a k q => by rw [h a (by omega) (by omega) (Or.inl (by omega))], fun a k s h1 h2 h3 => by rw [h a (by omega) (by omega) (Or.inr (fun q => h3 (Option.some.inj (h2.symm.trans q))))]⟩
theorem s_30 (hdy : dy.length < 100000) (ok : TOK A) (hX : RepX A F E dy σ ρ) (he : e < td_ne A) (h47 : r < 47) (h16 : r ≠ 16) (h17 : r ≠ 17) (hr : me_sh dy r = some (0, 7)) (hrow : ∀ v, v ≤ 6 → nf (σ r v)) (hi : td_ir A (σ r)) (k1 : ∀ σ', fL dy σ σ' → td_bs A e (σ r) = true → (∀ v, v < 6 → σ' 16 v = td_bo A e (σ r) v) → σ' 16 6 = σ r 6 → Q (.inl (some (.int (nn 1)))) (mk dy σ' ρ τ)) (k2 : ∀ σ', fL dy σ σ' → td_bs A e (σ r) = false → Q (.inl (some (.int (nn 0)))) (mk dy σ' ρ τ)) : go (tb_P L xs) 30 0 [some (.ref 7), some (.ref (E e)), some (.ref r)] [] (mk dy σ ρ τ) Q := by
  obtain ⟨⟨_, hA8, hA3⟩, _, _, g2, _, _, _⟩ := (hX.2.1.2.1 e he).2
  have hv1 : fA dy σ (upr σ 16 (va_cpy (σ r) (σ 16) 0 0 7)) := fun a g _ => upr_ne g
  have er : upr σ 16 (va_cpy (σ r) (σ 16) 0 0 7) r = σ r := upr_ne h16
  have hX1 := hX.agr ok hv1.ag
  refine g_aload_n k30_0 rfl ?_
  refine g_iconst (v := nn 0) k30_1 ci_0 ?_
  refine g_aload_n k30_2 rfl ?_
  refine m_get k30_3 f30_3 rfl rfl ?_
  refine g_iconst (v := nn 0) k30_6 ci_0 ?_
  refine g_bipush (v := nn 7) k30_7 cb_7 ?_
  refine m_copy k30_9 s30_9 (by assumption) rfl rfl rfl rfl (by omega) r30_9 ?_
  refine g_aload_n k30_12 rfl ?_
  refine g_aload_n k30_13 rfl ?_
  refine g_aload_n k30_14 rfl ?_
  refine m_callV2 k30_15 s30_15 c30_15 l25 (by omega) ⟨rfl, rfl⟩ rfl r30_15 rfl ?_
  refine s_25 hdy ok hX1 he h47 h16 hr (by rw [er]; exact hrow) (fun σ1 hs hb hsy => ?_) (fun σ1 hs hsy => ?_)
  · refine af_ret ?_
    rw [er] at hsy hb
    have h1 : ∀ v, v < 6 → σ1 16 v = td_ld A e (σ r) v := fun v hv => by
      rw [hb v, upr_at, cpy7, if_pos (show v < 7 by omega)]
      by_cases c : td_as A e v = none
      · rw [if_neg (fun q => q.2 c), ld_no c]
      · rw [if_pos ⟨hv, c⟩]
    have h6 : σ1 16 6 = σ r 6 := by
      rw [hb 6, upr_at, cpy7, if_neg (by omega), if_pos (by omega)]
    have hX2 := hX1.agr ok hs.ag
    have er1 : σ1 r = σ r := by rw [hs r h16 (Or.inl h47), er]
    cases hg : td_rf A e with
    | none =>
      rw [hg] at g2
      have g2 : ρ (E e) 2 = none := g2
      refine g_ifne_t k30_18 (t := 23) rfl (by decide) ?_
      refine g_aload_n k30_23 rfl ?_
      refine m_get k30_24 f30_24 (by assumption) rfl ?_
      rw [g2, va_rn]
      refine g_ifnonnull_f k30_27 ?_
      refine g_iconst (v := nn 1) k30_30 ci_1 ?_
      refine g_breturn k30_31 t30 (by decide) ?_
      exact k1 σ1 (hv1.fL.tr hs.fL) (by rw [bs_0 ok he hi hg]; exact hsy) (fun v hv => by rw [bo_0 ok he hv hg]; exact h1 v hv) h6
    | some u =>
      rw [hg] at g2
      have g2 : ρ (E e) 2 = some (E u) := g2
      have hu : u < td_ne A := by have := ((ok.2.2.2.1 e he).2.2.1 u hg).1; omega
      refine g_ifne_t k30_18 (t := 23) rfl (by decide) ?_
      refine g_aload_n k30_23 rfl ?_
      refine m_get k30_24 f30_24 (by assumption) rfl ?_
      rw [g2, va_rs]
      refine g_ifnonnull_t k30_27 (t := 32) rfl ?_
      refine g_aload_n k30_32 rfl ?_
      refine g_aload_n k30_33 rfl ?_
      refine g_aload_n k30_34 rfl ?_
      refine m_callV2 k30_35 s30_35 c30_35 l28 (by omega) ⟨rfl, rfl⟩ rfl r30_35 rfl ?_
      refine s_28 hdy ok hX2 he h47 h17 hr (by rw [er1]; exact hrow) (fun σ2 hs2 hw hwn => ?_)
      refine af_void ?_
      refine g_aload_n k30_38 rfl ?_
      refine g_aload_n k30_39 rfl ?_
      refine m_get k30_40 f30_40 (by assumption) rfl ?_
      rw [g2, va_rs]
      refine g_aload_n k30_43 rfl ?_
      refine m_get k30_44 f30_44 rfl rfl ?_
      rw [er1] at hw hwn
      have hrow2 : ∀ v, v ≤ 6 → nf (σ2 17 v) := fun v hv => by rw [hw v hv]; unfold td_rp; split; exact hwn; exact hrow v hv
      have ag2 : ag (fun _ => true) (σ2 17) (td_rp (σ r) (td_wi A e (σ r))) := fun v hv _ => hw v hv
      have sy2 : td_sy A u (σ2 17) = td_sy A u (td_rp (σ r) (td_wi A e (σ r))) := by
        unfold td_sy
        refine all_congr' 6 0 (fun v _ hv => ?_)
        unfold td_s1
        cases hgu : td_as A u v with
        | none => rfl
        | some f =>
          have hf := ((ok.2.2.2.1 u hu).2.2.2.2.2 v f (by omega) hgu).1
          dsimp only
          rw [ev_ag (M := fun _ => true) ok hf (fun _ _ => rfl) ag2]
      have fr := (hv1.fL.tr hs.fL).tr hs2.fL
      refine m_callV2 k30_47 s30_47 c30_47 l25 (by omega) ⟨rfl, rfl⟩ rfl r30_47 rfl ?_
      refine s_25 hdy ok (hX2.agr ok hs2.ag) hu (by omega) (by omega) rfl hrow2 (fun σ3 hs3 hb3 hsy3 => ?_) (fun σ3 hs3 hsy3 => ?_)
      · refine af_ret ?_
        rw [sy2] at hsy3
        refine g_breturn k30_50 t30 (by decide) ?_
        refine k1 σ3 (fr.tr hs3.fL) (by rw [bs_1 ok he hi hg, hsy, hsy3]; rfl) (fun v hv => ?_) ?_
        · rw [bo_1 ok he hv hg, hb3 v]
          by_cases c : td_as A u v = none
          · rw [if_neg (fun q => q.2 c), if_neg (fun q => q c), hs2 16 (by omega) (Or.inl (by omega))]
            exact h1 v hv
          · rw [if_pos ⟨hv, c⟩, if_pos c]
            exact ld_ag (M := fun _ => true) ok hu hv (fun _ _ => rfl) ag2 (fun q => absurd q c)
        · rw [hb3 6, if_neg (by omega), hs2 16 (by omega) (Or.inl (by omega))]
          exact h6
      · refine af_ret ?_
        rw [sy2] at hsy3
        refine g_breturn k30_50 t30 (by decide) ?_
        exact k2 σ3 (fr.tr hs3.fL) (by rw [bs_1 ok he hi hg, hsy3, Bool.and_false])
  · refine af_ret ?_
    rw [er] at hsy
    refine g_ifne_f k30_18 (t := 23) rfl rfl ?_
    refine g_iconst (v := nn 0) k30_21 ci_0 ?_
    refine g_breturn k30_22 t30 (by decide) ?_
    refine k2 σ1 (hv1.fL.tr hs.fL) ?_
    cases hg : td_rf A e with
    | none => rw [bs_0 ok he hi hg]; exact hsy
    | some u => rw [bs_1 ok he hi hg, hsy, Bool.false_and]
end YC
