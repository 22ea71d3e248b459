/-! The reference: formula. -/
section LS
variable {L : Nat} {xs : Nat → Int32} {Q : am_A → am_H → Prop} {dy : List (Nat × Nat)} {σ σ' : Nat → Nat → Int32} {ρ : Nat → Nat → Option Nat} {τ : Nat → Nat → Int64} {A : TD} {W : RS} {x z w : Int32} {kp : List Bool} {ws : Nat → Int32}
/-- how many parts, whether they are truths, whether the whole is one -/
def pn (w : Int32) : Nat := if w.toInt < 50 then 0 else if w.toInt = 57 then 1 else if w.toInt = 58 then 3 else 2
def wt (w : Int32) (i : Nat) : Prop := w.toInt = 55 ∨ w.toInt = 56 ∨ w.toInt = 57 ∨ (w.toInt = 58 ∧ (nn i).toInt = 0)
theorem pn_nn (w : Int32) : (if w.toInt < 50 then nn 0 else if w.toInt = 57 then nn 1 else if w.toInt = 58 then nn 3 else nn 2) = nn (pn w) := by
  unfold pn
  repeat' split
  all_goals rfl
theorem pn_3 (w : Int32) : pn w ≤ 3 := by
  unfold pn
  repeat' split
  all_goals omega
/-- the pile of kinds -/
def KP (σ : Nat → Nat → Int32) (kp : List Bool) : Prop := σ 24 29 = nn kp.length ∧ ∀ j, j < kp.length → σ 45 (kp.length - 1 - j) = bb (kp.getD j false = true)
theorem KP.pop (h : KP σ kp) (hl : 1 ≤ kp.length) : KP (up2 σ 24 29 (nn (kp.length - 1))) (kp.drop 1) := by
  have e : (kp.drop 1).length = kp.length - 1 := by simp
  refine ⟨by rw [up2_at, e], fun j hj => ?_⟩
  rw [e] at hj ⊢
  rw [up2_ne (Or.inl (by decide)), show kp.length - 1 - 1 - j = kp.length - 1 - (j + 1) by omega, h.2 (j + 1) (by omega)]
  congr 1
  simp [List.getD_eq_getElem?_getD, List.getElem?_drop, Nat.add_comm]
theorem KP.push {b : Bool} (h : KP σ kp) : KP (up2 (up2 σ 45 kp.length (bb (b = true))) 24 29 (nn (kp.length + 1))) (b :: kp) := by
  refine ⟨by rw [up2_at]; simp, fun j hj => ?_⟩
  rw [up2_ne (Or.inl (by decide))]
  simp only [List.length_cons] at hj ⊢
  cases j with
  | zero =>
    rw [show kp.length + 1 - 1 - 0 = kp.length by omega, up2_at]
    rfl
  | succ j =>
    rw [up2_ne (by omega), show kp.length + 1 - 1 - (j + 1) = kp.length - 1 - j by omega, h.2 j (by omega)]
    rfl
theorem fi_S.up {a k : Nat} {v : Int32} (h : fi_S σ σ') (ha : a = 45 ∨ (a = 24 ∧ k = 29)) : fi_S σ (up2 σ' a k v) := fun b q h1 h2 => by
  rw [up2_ne (by omega)]
  exact h b q h1 h2
theorem ks_yes (hw : wd_ok w) (hl : pn w ≤ kp.length) (hall : ∀ i, i < pn w → (kp.getD i false = true ↔ wt w i)) : ks w kp = some (decide (53 ≤ w.toInt ∧ w.toInt ≤ 57) :: kp.drop (pn w)) := by
  rcases wd_op hw with h | h | h | h | h
  · have e : pn w = 0 := by unfold pn; rw [if_pos h]
    rw [ks_lf h, e, decide_eq_false (by omega)]
    rfl
  · have e : pn w = 1 := by unfold pn; rw [if_neg (by omega), if_pos h]
    rw [e] at hl hall
    rw [ks_57 h, e, decide_eq_true (by omega)]
    have h0 := hall 0 (by omega)
    match kp, hl, h0 with
    | a :: r, _, h0 =>
      have : a = true := h0.mpr (Or.inr (Or.inr (Or.inl h)))
      subst this
      rfl
  · have e : pn w = 3 := by unfold pn; rw [if_neg (by omega), if_neg (by omega), if_pos h]
    rw [e] at hl hall
    rw [ks_58 h, e, decide_eq_false (by omega)]
    have h0 := hall 0 (by omega)
    have h1 := hall 1 (by omega)
    have h2 := hall 2 (by omega)
    match kp, hl, h0, h1, h2 with
    | a :: b :: c :: r, _, h0, h1, h2 =>
      have ha : a = true := h0.mpr (Or.inr (Or.inr (Or.inr ⟨h, ti_0⟩)))
      have hb : b = false := by
        have : ¬ b = true := fun q => by
          have := h1.mp q
          unfold wt at this
          rw [ti_1] at this
          omega
        simpa using this
      have hc : c = false := by
        have : ¬ c = true := fun q => by
          have := h2.mp q
          unfold wt at this
          rw [ti_2] at this
          omega
        simpa using this
      subst ha hb hc
      rfl
    | [], hl, _, _, _ => simp at hl
    | [_], hl, _, _, _ => simp at hl
    | [_, _], hl, _, _, _ => simp at hl
  · have e : pn w = 2 := by unfold pn; rw [if_neg (by omega), if_neg (by omega), if_neg (by omega)]
    rw [e] at hl hall
    rw [ks_55 h, e, decide_eq_true (by omega)]
    have h0 := hall 0 (by omega)
    have h1 := hall 1 (by omega)
    match kp, hl, h0, h1 with
    | a :: b :: r, _, h0, h1 =>
      have ha : a = true := h0.mpr (by unfold wt; omega)
      have hb : b = true := h1.mpr (by unfold wt; omega)
      subst ha hb
      rfl
    | [], hl, _, _ => simp at hl
    | [_], hl, _, _ => simp at hl
  · have e : pn w = 2 := by unfold pn; rw [if_neg (by omega), if_neg (by omega), if_neg (by omega)]
    rw [e] at hl hall
    rw [ks_50 h, e, show decide (53 ≤ w.toInt ∧ w.toInt ≤ 57) = decide (52 < w.toInt) from decide_eq_decide.mpr (by omega)]
    have h0 := hall 0 (by omega)
    have h1 := hall 1 (by omega)
    match kp, hl, h0, h1 with
    | a :: b :: r, _, h0, h1 =>
      have ha : a = false := by
        have : ¬ a = true := fun q => by
          have := h0.mp q
          unfold wt at this
          omega
        simpa using this
      have hb : b = false := by
        have : ¬ b = true := fun q => by
          have := h1.mp q
          unfold wt at this
          omega
        simpa using this
      subst ha hb
      rfl
    | [], hl, _, _ => simp at hl
    | [_], hl, _, _ => simp at hl
theorem ks_no (hw : wd_ok w) (h : kp.length < pn w ∨ ∃ i, i < pn w ∧ ¬ (kp.getD i false = true ↔ wt w i)) : ks w kp = none := by
  cases hk : ks w kp with
  | none => rfl
  | some l =>
    exfalso
    rcases wd_op hw with g | g | g | g | g
    · have e : pn w = 0 := by unfold pn; rw [if_pos g]
      rw [e] at h
      rcases h with h | ⟨i, h, _⟩ <;> omega
    · have e : pn w = 1 := by unfold pn; rw [if_neg (by omega), if_pos g]
      rw [e] at h
      rw [ks_57 g] at hk
      match kp, hk, h with
      | true :: r, _, h =>
        rcases h with h | ⟨i, h, h2⟩
        · simp at h
        · have : i = 0 := by omega
          subst this
          exact h2 (iff_of_true rfl (Or.inr (Or.inr (Or.inl g))))
    · have e : pn w = 3 := by unfold pn; rw [if_neg (by omega), if_neg (by omega), if_pos g]
      rw [e] at h
      rw [ks_58 g] at hk
      match kp, hk, h with
      | true :: false :: false :: r, _, h =>
        rcases h with h | ⟨i, h, h2⟩
        · simp at h; omega
        · have : i = 0 ∨ i = 1 ∨ i = 2 := by omega
          rcases this with rfl | rfl | rfl
          · exact h2 (iff_of_true rfl (Or.inr (Or.inr (Or.inr ⟨g, ti_0⟩))))
          · exact h2 (iff_of_false (fun q => by cases q) (by unfold wt; rw [ti_1]; omega))
          · exact h2 (iff_of_false (fun q => by cases q) (by unfold wt; rw [ti_2]; omega))
    · have e : pn w = 2 := by unfold pn; rw [if_neg (by omega), if_neg (by omega), if_neg (by omega)]
      rw [e] at h
      rw [ks_55 g] at hk
      match kp, hk, h with
      | true :: true :: r, _, h =>
        rcases h with h | ⟨i, h, h2⟩
        · simp at h; omega
        · have : i = 0 ∨ i = 1 := by omega
          rcases this with rfl | rfl
          · exact h2 (iff_of_true rfl (by unfold wt; omega))
          · exact h2 (iff_of_true rfl (by unfold wt; omega))
    · have e : pn w = 2 := by unfold pn; rw [if_neg (by omega), if_neg (by omega), if_neg (by omega)]
      rw [e] at h
      rw [ks_50 g] at hk
      match kp, hk, h with
      | false :: false :: r, _, h =>
        rcases h with h | ⟨i, h, h2⟩
        · simp at h; omega
        · have : i = 0 ∨ i = 1 := by omega
          rcases this with rfl | rfl
          · exact h2 (iff_of_false (fun q => by cases q) (by unfold wt; omega))
          · exact h2 (iff_of_false (fun q => by cases q) (by unfold wt; omega))
/-- do the words make a formula -/
def ky (ws : Nat → Int32) (r : Nat) (kp : List Bool) : Bool := match kr ws r kp with
  | some [_] => true
  | _ => false
theorem ky_s {r : Nat} {l : List Bool} (h : ks (ws r) kp = some l) : ky ws (r + 1) kp = ky ws r l := by
  unfold ky
  rw [show kr ws (r + 1) kp = kr ws r l by rw [kr, h]; rfl]
theorem ky_n {r : Nat} (h : ks (ws r) kp = none) : ky ws (r + 1) kp = false := by
  unfold ky
  rw [show kr ws (r + 1) kp = none by rw [kr, h]; rfl]
theorem s_109K {ii : Int32} (hdy : dy.length < 100000) : ∀ (m k : Nat) {σ : Nat → Nat → Int32} {kp : List Bool} {Q : am_A → am_H → Prop}, k + m = pn w → m ≤ kp.length → kp.length ≤ 24 → KP σ kp → (∀ σ', fi_S σ σ' → KP σ' (kp.drop m) → (∀ i, i < m → (kp.getD i false = true ↔ wt w (k + i))) → go (tb_P L xs) 109 93 [some (.ref 24), some (.int ii), some (.int w), some (.int (nn (k + m)))] [] (mk dy σ' ρ τ) Q) → (∀ σ', fi_S σ σ' → (∃ i, i < m ∧ ¬ (kp.getD i false = true ↔ wt w (k + i))) → Q (.inl (some (.int (nn 0)))) (mk dy σ' ρ τ)) → go (tb_P L xs) 109 39 [some (.ref 24), some (.int ii), some (.int w), some (.int (nn k))] [] (mk dy σ ρ τ) Q := by
  intro m
  induction m with
  | zero =>
    intro k σ kp Q hk hl h24 hp k1 k2
    have h3 := pn_3 w
    refine g_iload_n k109_39 rfl ?_
    refine g_aload_n k109_40 rfl ?_
    refine g_iload_n k109_41 rfl ?_
    refine m_callV1 k109_42 s109_42 c109_42 l110 (by omega) rfl rfl r109_42 rfl ?_
    refine s_110 ?_
    refine af_ret ?_
    rw [pn_nn]
    refine g_icge_t k109_45 (t := 93) rfl (by rw [nn_toInt (by omega), nn_toInt (by omega)]; omega) ?_
    exact k1 σ (fi_S.rf σ) hp (fun i hi => by omega)
  | succ m ih =>
    intro k σ kp Q hk hl h24 hp k1 k2
    have h3 := pn_3 w
    have hp1 := hp.pop (by omega)
    have hs1 : fi_S σ (up2 σ 24 29 (nn (kp.length - 1))) := (fi_S.rf σ).up (Or.inr ⟨rfl, rfl⟩)
    have h29 := hp.1
    have h45 : up2 σ 24 29 (nn (kp.length - 1)) 45 (kp.length - 1) = bb (kp.getD 0 false = true) := by
      rw [up2_ne (Or.inl (by decide))]
      exact hp.2 0 (by omega)
    have dg : ∀ i, (kp.drop 1).getD i false = kp.getD (i + 1) false := fun i => by
      simp [List.getD_eq_getElem?_getD, List.getElem?_drop, Nat.add_comm]
    have good : (kp.getD 0 false = true ↔ wt w k) → go (tb_P L xs) 109 39 [some (.ref 24), some (.int ii), some (.int w), some (.int (nn (k + 1)))] [] (mk dy (up2 σ 24 29 (nn (kp.length - 1))) ρ τ) Q := by
      intro hg
      refine ih (k + 1) (by omega) (by simp; omega) (by simp; omega) hp1 (fun σ' hs hq hall => ?_) (fun σ' hs hx => k2 σ' (hs1.tr hs) ?_)
      · have hq' : KP σ' (kp.drop (m + 1)) := by
          rw [List.drop_drop] at hq
          rw [Nat.add_comm]
          exact hq
        have := k1 σ' (hs1.tr hs) hq' (fun i hi => ?_)
        · rw [show k + (m + 1) = k + 1 + m by omega] at this
          exact this
        · cases i with
          | zero => exact hg
          | succ i =>
            have := hall i (by omega)
            rw [dg] at this
            rw [show k + (i + 1) = k + 1 + i by omega]
            exact this
      · obtain ⟨i, hi, hx⟩ := hx
        rw [dg] at hx
        exact ⟨i + 1, by omega, by rw [show k + (i + 1) = k + 1 + i by omega]; exact hx⟩
    have bad : ¬ (kp.getD 0 false = true ↔ wt w k) → Q (.inl (some (.int (nn 0)))) (mk dy (up2 σ 24 29 (nn (kp.length - 1))) ρ τ) := fun hb => k2 _ hs1 ⟨0, by omega, hb⟩
    by_cases hb : kp.getD 0 false = true
    · by_cases hwt : w.toInt = 55 ∨ w.toInt = 56 ∨ w.toInt = 57 ∨ (w.toInt = 58 ∧ (nn k).toInt = 0)
      · refine g_iload_n k109_39 rfl ?_
        refine g_aload_n k109_40 rfl ?_
        refine g_iload_n k109_41 rfl ?_
        refine m_callV1 k109_42 s109_42 c109_42 l110 (by omega) rfl rfl r109_42 rfl ?_
        refine s_110 ?_
        refine af_ret ?_
        rw [pn_nn]
        refine g_icge_f k109_45 (t := 93) rfl (by rw [nn_toInt (by omega), nn_toInt (by omega)]; omega) ?_
        refine g_aload_n k109_48 rfl ?_
        refine g_dup k109_49 rfl ?_
        refine m_get k109_50 f109_50 rfl rfl ?_
        rw [h29]
        refine g_iconst (v := nn 1) k109_53 ci_1 ?_
        refine g_isubN k109_54 (by omega) ?_
        refine m_putI k109_55 f109_55 rfl rfl rfl ?_
        refine g_aload_n k109_58 rfl ?_
        refine m_get k109_59 f109_59 rfl rfl ?_
        refine g_aload_n k109_62 rfl ?_
        refine m_get k109_63 f109_63 rfl rfl ?_
        rw [up2_at]
        refine m_iald k109_66 hdy rfl rfl (by omega) (by omega) ?_
        rw [h45]
        rw [show bb (kp.getD 0 false = true) = nn 1 from bb_t hb]
        refine g_iconst (v := nn 1) k109_67 ci_1 ?_
        refine g_icne_f k109_68 (t := 75) rfl rfl ?_
        refine g_iconst (v := nn 1) k109_71 ci_1 ?_
        refine g_goto k109_72 (t := 76) rfl ?_
        refine g_aload_n k109_76 rfl ?_
        refine g_iload_n k109_77 rfl ?_
        refine g_iload_n k109_78 rfl ?_
        refine m_callV2 k109_79 s109_79 c109_79 l111 (by omega) ⟨rfl, rfl⟩ rfl r109_79 rfl ?_
        refine s_111 ?_
        refine af_ret ?_
        rw [bb_t hwt]
        refine g_iceq_t k109_82 (t := 87) rfl rfl ?_
        refine g_iincN k109_87 rfl rfl rfl ?_
        refine g_goto k109_90 (t := 39) rfl ?_
        exact good (iff_of_true hb hwt)
      · refine g_iload_n k109_39 rfl ?_
        refine g_aload_n k109_40 rfl ?_
        refine g_iload_n k109_41 rfl ?_
        refine m_callV1 k109_42 s109_42 c109_42 l110 (by omega) rfl rfl r109_42 rfl ?_
        refine s_110 ?_
        refine af_ret ?_
        rw [pn_nn]
        refine g_icge_f k109_45 (t := 93) rfl (by rw [nn_toInt (by omega), nn_toInt (by omega)]; omega) ?_
        refine g_aload_n k109_48 rfl ?_
        refine g_dup k109_49 rfl ?_
        refine m_get k109_50 f109_50 rfl rfl ?_
        rw [h29]
        refine g_iconst (v := nn 1) k109_53 ci_1 ?_
        refine g_isubN k109_54 (by omega) ?_
        refine m_putI k109_55 f109_55 rfl rfl rfl ?_
        refine g_aload_n k109_58 rfl ?_
        refine m_get k109_59 f109_59 rfl rfl ?_
        refine g_aload_n k109_62 rfl ?_
        refine m_get k109_63 f109_63 rfl rfl ?_
        rw [up2_at]
        refine m_iald k109_66 hdy rfl rfl (by omega) (by omega) ?_
        rw [h45]
        rw [show bb (kp.getD 0 false = true) = nn 1 from bb_t hb]
        refine g_iconst (v := nn 1) k109_67 ci_1 ?_
        refine g_icne_f k109_68 (t := 75) rfl rfl ?_
        refine g_iconst (v := nn 1) k109_71 ci_1 ?_
        refine g_goto k109_72 (t := 76) rfl ?_
        refine g_aload_n k109_76 rfl ?_
        refine g_iload_n k109_77 rfl ?_
        refine g_iload_n k109_78 rfl ?_
        refine m_callV2 k109_79 s109_79 c109_79 l111 (by omega) ⟨rfl, rfl⟩ rfl r109_79 rfl ?_
        refine s_111 ?_
        refine af_ret ?_
        rw [bb_f hwt]
        refine g_iceq_f k109_82 (t := 87) rfl (by decide) ?_
        refine g_iconst (v := nn 0) k109_85 ci_0 ?_
        refine g_breturn k109_86 t109 (by decide) ?_
        exact bad (fun q => hwt (q.mp hb))
    by_cases hwt : w.toInt = 55 ∨ w.toInt = 56 ∨ w.toInt = 57 ∨ (w.toInt = 58 ∧ (nn k).toInt = 0)
    · refine g_iload_n k109_39 rfl ?_
      refine g_aload_n k109_40 rfl ?_
      refine g_iload_n k109_41 rfl ?_
      refine m_callV1 k109_42 s109_42 c109_42 l110 (by omega) rfl rfl r109_42 rfl ?_
      refine s_110 ?_
      refine af_ret ?_
      rw [pn_nn]
      refine g_icge_f k109_45 (t := 93) rfl (by rw [nn_toInt (by omega), nn_toInt (by omega)]; omega) ?_
      refine g_aload_n k109_48 rfl ?_
      refine g_dup k109_49 rfl ?_
      refine m_get k109_50 f109_50 rfl rfl ?_
      rw [h29]
      refine g_iconst (v := nn 1) k109_53 ci_1 ?_
      refine g_isubN k109_54 (by omega) ?_
      refine m_putI k109_55 f109_55 rfl rfl rfl ?_
      refine g_aload_n k109_58 rfl ?_
      refine m_get k109_59 f109_59 rfl rfl ?_
      refine g_aload_n k109_62 rfl ?_
      refine m_get k109_63 f109_63 rfl rfl ?_
      rw [up2_at]
      refine m_iald k109_66 hdy rfl rfl (by omega) (by omega) ?_
      rw [h45]
      rw [show bb (kp.getD 0 false = true) = nn 0 from bb_f hb]
      refine g_iconst (v := nn 1) k109_67 ci_1 ?_
      refine g_icne_t k109_68 (t := 75) rfl (by decide) ?_
      refine g_iconst (v := nn 0) k109_75 ci_0 ?_
      refine g_aload_n k109_76 rfl ?_
      refine g_iload_n k109_77 rfl ?_
      refine g_iload_n k109_78 rfl ?_
      refine m_callV2 k109_79 s109_79 c109_79 l111 (by omega) ⟨rfl, rfl⟩ rfl r109_79 rfl ?_
      refine s_111 ?_
      refine af_ret ?_
      rw [bb_t hwt]
      refine g_iceq_f k109_82 (t := 87) rfl (by decide) ?_
      refine g_iconst (v := nn 0) k109_85 ci_0 ?_
      refine g_breturn k109_86 t109 (by decide) ?_
      exact bad (fun q => hb (q.mpr hwt))
    · refine g_iload_n k109_39 rfl ?_
      refine g_aload_n k109_40 rfl ?_
      refine g_iload_n k109_41 rfl ?_
      refine m_callV1 k109_42 s109_42 c109_42 l110 (by omega) rfl rfl r109_42 rfl ?_
      refine s_110 ?_
      refine af_ret ?_
      rw [pn_nn]
      refine g_icge_f k109_45 (t := 93) rfl (by rw [nn_toInt (by omega), nn_toInt (by omega)]; omega) ?_
      refine g_aload_n k109_48 rfl ?_
      refine g_dup k109_49 rfl ?_
      refine m_get k109_50 f109_50 rfl rfl ?_
      rw [h29]
      refine g_iconst (v := nn 1) k109_53 ci_1 ?_
      refine g_isubN k109_54 (by omega) ?_
      refine m_putI k109_55 f109_55 rfl rfl rfl ?_
      refine g_aload_n k109_58 rfl ?_
      refine m_get k109_59 f109_59 rfl rfl ?_
      refine g_aload_n k109_62 rfl ?_
      refine m_get k109_63 f109_63 rfl rfl ?_
      rw [up2_at]
      refine m_iald k109_66 hdy rfl rfl (by omega) (by omega) ?_
      rw [h45]
      rw [show bb (kp.getD 0 false = true) = nn 0 from bb_f hb]
      refine g_iconst (v := nn 1) k109_67 ci_1 ?_
      refine g_icne_t k109_68 (t := 75) rfl (by decide) ?_
      refine g_iconst (v := nn 0) k109_75 ci_0 ?_
      refine g_aload_n k109_76 rfl ?_
      refine g_iload_n k109_77 rfl ?_
      refine g_iload_n k109_78 rfl ?_
      refine m_callV2 k109_79 s109_79 c109_79 l111 (by omega) ⟨rfl, rfl⟩ rfl r109_79 rfl ?_
      refine s_111 ?_
      refine af_ret ?_
      rw [bb_f hwt]
      refine g_iceq_t k109_82 (t := 87) rfl rfl ?_
      refine g_iincN k109_87 rfl rfl rfl ?_
      refine g_goto k109_90 (t := 39) rfl ?_
      exact good (iff_of_false hb hwt)
theorem s_109L {n : Nat} (hdy : dy.length < 100000) (h24 : n ≤ 24) (hok : ∀ i, i < n → wd_ok (ws i)) : ∀ (r : Nat) {σ : Nat → Nat → Int32} {kp : List Bool} {l2 l3 : Option Value} {Q : am_A → am_H → Prop}, r ≤ n → r + kp.length ≤ 24 → (∀ i, i < n → σ 27 i = ws i) → KP σ kp → (∀ σ', fi_S σ σ' → Q (.inl (some (.int (bb (ky ws r kp = true))))) (mk dy σ' ρ τ)) → go (tb_P L xs) 109 12 [some (.ref 24), some (.int (nn r - nn 1)), l2, l3] [] (mk dy σ ρ τ) Q := by
  intro r
  induction r with
  | zero =>
    intro σ kp l2 l3 Q hr hl hW hp kk
    have h29 := hp.1
    have e : ky ws 0 kp = decide (kp.length = 1) := by
      unfold ky kr
      match kp with
      | [] => rfl
      | [_] => rfl
      | _ :: _ :: _ => simp
    have hq := kk σ (fi_S.rf σ)
    rw [e] at hq
    refine g_iload_n k109_12 rfl ?_
    refine g_iflt_t k109_13 (t := 131) rfl (by decide) ?_
    refine g_aload_n k109_131 rfl ?_
    refine m_get k109_132 f109_132 rfl rfl ?_
    rw [h29]
    refine g_iconst (v := nn 1) k109_135 ci_1 ?_
    refine g_icneN k109_136 (t := 143) rfl ⟨by omega, by omega⟩ (fun h136 => ?_) (fun h136 => ?_)
    · skip
      refine g_iconst (v := nn 0) k109_143 ci_0 ?_
      refine g_breturn k109_144 t109 (by decide) ?_
      first | (rw [bb_t (by rw [decide_eq_true_eq]; omega)] at hq; exact hq) | (rw [bb_f (by rw [decide_eq_true_eq]; omega)] at hq; exact hq)
    · skip
      refine g_iconst (v := nn 1) k109_139 ci_1 ?_
      refine g_goto k109_140 (t := 144) rfl ?_
      refine g_breturn k109_144 t109 (by decide) ?_
      first | (rw [bb_t (by rw [decide_eq_true_eq]; omega)] at hq; exact hq) | (rw [bb_f (by rw [decide_eq_true_eq]; omega)] at hq; exact hq)
  | succ r ih =>
    intro σ kp l2 l3 Q hr hl hW hp kk
    rw [nn_pred]
    have h29 := hp.1
    have hwr := hW r (by omega)
    have hwk := hok r (by omega)
    have h3 := pn_3 (ws r)
    by_cases hc : kp.length < pn (ws r)
    · have hq := kk σ (fi_S.rf σ)
      rw [ky_n (ks_no hwk (Or.inl hc))] at hq
      refine g_iload_n k109_12 rfl ?_
      refine g_ifltN (t := 131) k109_13 rfl (by omega) ?_
      refine g_aload_n k109_16 rfl ?_
      refine m_get k109_17 f109_17 rfl rfl ?_
      refine g_iload_n k109_20 rfl ?_
      refine m_iald k109_21 hdy rfl rfl (by omega) (by omega) ?_
      rw [hwr]
      refine g_istore_n k109_22 rfl rfl ?_
      refine g_aload_n k109_23 rfl ?_
      refine m_get k109_24 f109_24 rfl rfl ?_
      rw [h29]
      refine g_aload_n k109_27 rfl ?_
      refine g_iload_n k109_28 rfl ?_
      refine m_callV1 k109_29 s109_29 c109_29 l110 (by omega) rfl rfl r109_29 rfl ?_
      refine s_110 ?_
      refine af_ret ?_
      rw [pn_nn]
      refine g_icge_f k109_32 (t := 37) rfl (by rw [nn_toInt (by omega), nn_toInt (by omega)]; omega) ?_
      refine g_iconst (v := nn 0) k109_35 ci_0 ?_
      refine g_breturn k109_36 t109 (by decide) ?_
      exact hq
    · refine g_iload_n k109_12 rfl ?_
      refine g_ifltN (t := 131) k109_13 rfl (by omega) ?_
      refine g_aload_n k109_16 rfl ?_
      refine m_get k109_17 f109_17 rfl rfl ?_
      refine g_iload_n k109_20 rfl ?_
      refine m_iald k109_21 hdy rfl rfl (by omega) (by omega) ?_
      rw [hwr]
      refine g_istore_n k109_22 rfl rfl ?_
      refine g_aload_n k109_23 rfl ?_
      refine m_get k109_24 f109_24 rfl rfl ?_
      rw [h29]
      refine g_aload_n k109_27 rfl ?_
      refine g_iload_n k109_28 rfl ?_
      refine m_callV1 k109_29 s109_29 c109_29 l110 (by omega) rfl rfl r109_29 rfl ?_
      refine s_110 ?_
      refine af_ret ?_
      rw [pn_nn]
      refine g_icge_t k109_32 (t := 37) rfl (by rw [nn_toInt (by omega), nn_toInt (by omega)]; omega) ?_
      refine g_iconst (v := nn 0) k109_37 ci_0 ?_
      refine g_istore_n k109_38 rfl rfl ?_
      refine s_109K hdy (pn (ws r)) 0 (by omega) (by omega) (by omega) hp (fun σ' hs hq hall => ?_) (fun σ' hs hx => ?_)
      · skip
        refine g_aload_n k109_93 rfl ?_
        refine m_get k109_94 f109_94 rfl rfl ?_
        refine g_aload_n k109_97 rfl ?_
        refine m_get k109_98 f109_98 rfl rfl ?_
        rw [hq.1]
        refine g_aload_n k109_101 rfl ?_
        refine g_iload_n k109_102 rfl ?_
        refine m_callV1 k109_103 s109_103 c109_103 l112 (by omega) rfl rfl r109_103 rfl ?_
        refine s_112 ?_
        refine af_ret ?_
        refine g_ifeqB k109_106 (t := 113) rfl (fun h106 => ?_) (fun h106 => ?_)
        · skip
          refine g_iconst (v := nn 0) k109_113 ci_0 ?_
          refine m_iast k109_114 rfl rfl (by simp; omega) (by omega) ?_
          refine g_aload_n k109_115 rfl ?_
          refine g_dup k109_116 rfl ?_
          refine m_get k109_117 f109_117 rfl rfl ?_
          rw [up2_ne (Or.inl (by decide)), hq.1]
          refine g_iconst (v := nn 1) k109_120 ci_1 ?_
          refine g_iaddN k109_121 ?_
          refine m_putI k109_122 f109_122 rfl rfl rfl ?_
          refine g_idecM k109_125 rfl rfl rfl ?_
          refine g_goto k109_128 (t := 12) rfl ?_
          refine ih (kp := decide (53 ≤ (ws r).toInt ∧ (ws r).toInt ≤ 57) :: kp.drop (pn (ws r))) (by omega) (by simp; omega) (fun i hi => ?_) ?_ (fun σ2 hs2 => ?_)
          · rw [up2_ne (by omega), up2_ne (by omega), hs 27 i (by decide) (Or.inl (by decide))]
            exact hW i hi
          · have := hq.push (b := decide (53 ≤ (ws r).toInt ∧ (ws r).toInt ≤ 57))
            first
              | (rw [show bb (decide (53 ≤ (ws r).toInt ∧ (ws r).toInt ≤ 57) = true) = nn 1 from bb_t (decide_eq_true h106)] at this
                 exact this)
              | (rw [show bb (decide (53 ≤ (ws r).toInt ∧ (ws r).toInt ≤ 57) = true) = nn 0 from bb_f (fun q => h106 (of_decide_eq_true q))] at this
                 exact this)
          · have hz := kk σ2 ((((hs.up (Or.inl rfl)).up (Or.inr ⟨rfl, rfl⟩))).tr hs2)
            rw [ky_s (ks_yes hwk (by omega) (fun i hi => by have := hall i hi; rw [Nat.zero_add] at this; exact this))] at hz
            exact hz
        · skip
          refine g_iconst (v := nn 1) k109_109 ci_1 ?_
          refine g_goto k109_110 (t := 114) rfl ?_
          refine m_iast k109_114 rfl rfl (by simp; omega) (by omega) ?_
          refine g_aload_n k109_115 rfl ?_
          refine g_dup k109_116 rfl ?_
          refine m_get k109_117 f109_117 rfl rfl ?_
          rw [up2_ne (Or.inl (by decide)), hq.1]
          refine g_iconst (v := nn 1) k109_120 ci_1 ?_
          refine g_iaddN k109_121 ?_
          refine m_putI k109_122 f109_122 rfl rfl rfl ?_
          refine g_idecM k109_125 rfl rfl rfl ?_
          refine g_goto k109_128 (t := 12) rfl ?_
          refine ih (kp := decide (53 ≤ (ws r).toInt ∧ (ws r).toInt ≤ 57) :: kp.drop (pn (ws r))) (by omega) (by simp; omega) (fun i hi => ?_) ?_ (fun σ2 hs2 => ?_)
          · rw [up2_ne (by omega), up2_ne (by omega), hs 27 i (by decide) (Or.inl (by decide))]
            exact hW i hi
          · have := hq.push (b := decide (53 ≤ (ws r).toInt ∧ (ws r).toInt ≤ 57))
            first
              | (rw [show bb (decide (53 ≤ (ws r).toInt ∧ (ws r).toInt ≤ 57) = true) = nn 1 from bb_t (decide_eq_true h106)] at this
                 exact this)
              | (rw [show bb (decide (53 ≤ (ws r).toInt ∧ (ws r).toInt ≤ 57) = true) = nn 0 from bb_f (fun q => h106 (of_decide_eq_true q))] at this
                 exact this)
          · have hz := kk σ2 ((((hs.up (Or.inl rfl)).up (Or.inr ⟨rfl, rfl⟩))).tr hs2)
            rw [ky_s (ks_yes hwk (by omega) (fun i hi => by have := hall i hi; rw [Nat.zero_add] at this; exact this))] at hz
            exact hz
      · have hz := kk σ' hs
        rw [ky_n (ks_no hwk (Or.inr (by obtain ⟨i, h1, h2⟩ := hx; exact ⟨i, h1, by rw [Nat.zero_add] at h2; exact h2⟩)))] at hz
        exact hz
theorem s_109 (hdy : dy.length < 100000) (hW : RunM W σ) (wo : WOK W) (kk : ∀ σ', fi_S σ σ' → Q (.inl (some (.int (bb (ky (rs_w W) (rs_n W) [] = true))))) (mk dy σ' ρ τ)) : go (tb_P L xs) 109 0 [some (.ref 24), none, none, none] [] (mk dy σ ρ τ) Q := by
  have h3 := hW.1.1
  have hn := wo.1.1
  refine g_aload_n k109_0 rfl ?_
  refine g_iconst (v := nn 0) k109_1 ci_0 ?_
  refine m_putI k109_2 f109_2 rfl rfl rfl ?_
  refine g_aload_n k109_5 rfl ?_
  refine m_get k109_6 f109_6 rfl rfl ?_
  rw [show up2 σ 24 29 (nn 0) 24 3 = nn (rs_n W) from h3]
  refine g_iconst (v := nn 1) k109_9 ci_1 ?_
  refine g_isub k109_10 ?_
  refine g_istore_n k109_11 rfl rfl ?_
  refine s_109L hdy hn wo.1.2 (rs_n W) (kp := []) (Nat.le_refl _) (by simp; omega) (fun i hi => ?_) ⟨rfl, fun j hj => by cases hj⟩ (fun σ2 hs2 => kk σ2 (((fi_S.rf σ).up (Or.inr ⟨rfl, rfl⟩)).tr hs2))
  rw [up2_ne (Or.inl (by decide))]
  exact hW.1.2 i hi
end LS
