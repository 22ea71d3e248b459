/-! The class: what it holds; what a formula is worth. -/
section YA
variable {L : Nat} {xs : Nat → Int32} {Q : am_A → am_H → Prop} {dy dy' : List (Nat × Nat)} {σ σ' : Nat → Nat → Int32} {ρ ρ' : Nat → Nat → Option Nat} {τ τ' : Nat → Nat → Int64} {A : TD} {W : RS} {F E : Nat → Nat} {x z w a b c : Int32} {f e r ad : Nat}
/-- a formula at an address -/
def FX (A : TD) (f ad : Nat) (dy : List (Nat × Nat)) (σ : Nat → Nat → Int32) : Prop := (47 ≤ ad ∧ me_sh dy ad = some (7, 0) ∧ me_sh dy (ad + 1) = some (0, 25) ∧ me_sh dy (ad + 2) = some (0, td_ln A f) ∧ me_sh dy (ad + 3) = some (0, td_ln A f) ∧ me_sh dy (ad + 4) = some (0, td_ln A f)) ∧ (∀ i, i < td_ln A f → σ (ad + 2) i = td_fw A f i) ∧ (∃ kd en, FK (td_fw A f) (td_ln A f) kd en ∧ ∀ i, i < td_ln A f → σ (ad + 3) i = nn (en (i + 1)) ∧ σ (ad + 4) i = nn (en (en (i + 1)))) ∧ σ ad 4 = bb (td_ft A f = true) ∧ bt (σ ad 5) (td_mn A f)
/-- an event at an address -/
def EX (A : TD) (F E : Nat → Nat) (e ad : Nat) (dy : List (Nat × Nat)) (σ : Nat → Nat → Int32) (ρ : Nat → Nat → Option Nat) : Prop := (47 ≤ ad ∧ me_sh dy ad = some (8, 0) ∧ me_sh dy (ad + 1) = some (3, 6)) ∧ σ ad 0 = nn (td_ma A e) ∧ σ ad 1 = nn (td_rg A e) ∧ ρ ad 2 = (td_rf A e).map E ∧ ρ ad 3 = (td_gd A e).map F ∧ ρ ad 4 = (td_wt A e).map F ∧ ∀ v, v < 6 → ρ (ad + 1) v = (td_as A e v).map F
/-- the class holds what has been told -/
def RepX (A : TD) (F E : Nat → Nat) (dy : List (Nat × Nat)) (σ : Nat → Nat → Int32) (ρ : Nat → Nat → Option Nat) : Prop := (σ 0 2 = nn (td_nf A) ∧ ∀ f, f < td_nf A → ρ 5 f = some (F f) ∧ FX A f (F f) dy σ) ∧ (σ 7 3 = nn (td_ne A) ∧ (∀ e, e < td_ne A → ρ 10 e = some (E e) ∧ EX A F E e (E e) dy σ ρ) ∧ ∀ e e', e < td_ne A → e' < td_ne A → E e = E e' → e = e') ∧ (σ 11 2 = nn (td_ic A 0) ∧ σ 11 3 = nn (td_ic A 1) ∧ (∀ i, i < td_ic A 0 → ρ 12 i = some (F (td_iv A 0 i))) ∧ ∀ i, i < td_ic A 1 → ρ 13 i = some (F (td_iv A 1 i))) ∧ ρ 7 5 = (td_vr A).map F ∧ (∀ v, v < 6 → σ 8 v = nn (td_sz A v) ∧ σ 9 v = nn (td_in A v)) ∧ σ 9 6 = nn 0
theorem FX.mono (h : FX A f ad dy σ) (hd : ∀ a s, me_sh dy a = some s → me_sh dy' a = some s) (hs : ∀ a k s, 47 ≤ a → me_sh dy a = some s → s ≠ (0, 25) → σ' a k = σ a k) (hl : td_ln A f ≤ 24) : FX A f ad dy' σ' := by
  obtain ⟨⟨a0, a1, a2, a3, a4, a5⟩, b, ⟨kd, en, c1, c2⟩, d, e⟩ := h
  have ne : ((0, td_ln A f) : Nat × Nat) ≠ (0, 25) := fun q => by
    have := congrArg Prod.snd q
    simp at this
    omega
  refine ⟨⟨a0, hd _ _ a1, hd _ _ a2, hd _ _ a3, hd _ _ a4, hd _ _ a5⟩, fun i hi => by rw [hs _ _ _ (by omega) a3 ne]; exact b i hi, ⟨kd, en, c1, fun i hi => ?_⟩, by rw [hs _ _ _ a0 a1 (by decide)]; exact d, by rw [hs _ _ _ a0 a1 (by decide)]; exact e⟩
  rw [hs _ _ _ (by omega) a4 ne, hs _ _ _ (by omega) a5 ne]
  exact c2 i hi
theorem EX.mono (h : EX A F E e ad dy σ ρ) (hd : ∀ a s, me_sh dy a = some s → me_sh dy' a = some s) (hs : ∀ a k s, 47 ≤ a → me_sh dy a = some s → s ≠ (0, 25) → σ' a k = σ a k) (hr : ∀ a k s, 47 ≤ a → me_sh dy a = some s → ρ' a k = ρ a k) : EX A F E e ad dy' σ' ρ' := by
  obtain ⟨⟨a0, a1, a2⟩, b, c, d, g, h, i⟩ := h
  refine ⟨⟨a0, hd _ _ a1, hd _ _ a2⟩, by rw [hs _ _ _ a0 a1 (by decide)]; exact b, by rw [hs _ _ _ a0 a1 (by decide)]; exact c, by rw [hr _ _ _ a0 a1]; exact d, by rw [hr _ _ _ a0 a1]; exact g, by rw [hr _ _ _ a0 a1]; exact h, fun v hv => by rw [hr _ _ _ (by omega) a2]; exact i v hv⟩
/-- places of the class that hold what has been told -/
def agX (dy : List (Nat × Nat)) (σ σ' : Nat → Nat → Int32) : Prop := (∀ a k, a = 8 ∨ a = 9 ∨ (a = 0 ∧ k = 2) ∨ (a = 7 ∧ k = 3) ∨ (a = 11 ∧ (k = 2 ∨ k = 3)) → σ' a k = σ a k) ∧ ∀ a k s, 47 ≤ a → me_sh dy a = some s → s ≠ (0, 25) → σ' a k = σ a k
theorem RepX.mono (ok : TOK A) (h : RepX A F E dy σ ρ) (hd : ∀ a s, me_sh dy a = some s → me_sh dy' a = some s) (hs : agX dy σ σ') (hr : (∀ a k, a < 47 → ρ' a k = ρ a k) ∧ ∀ a k s, 47 ≤ a → me_sh dy a = some s → ρ' a k = ρ a k) : RepX A F E dy' σ' ρ' := by
  obtain ⟨⟨a1, a2⟩, ⟨b1, b2, b3⟩, ⟨c1, c2, c3, c4⟩, d, e, g⟩ := h
  refine ⟨⟨by rw [hs.1 0 2 (by omega)]; exact a1, fun f hf => ⟨by rw [hr.1 5 f (by omega)]; exact (a2 f hf).1, (a2 f hf).2.mono hd hs.2 (ok.2.1 f hf).1.2⟩⟩, ⟨by rw [hs.1 7 3 (by omega)]; exact b1, fun e he => ⟨by rw [hr.1 10 e (by omega)]; exact (b2 e he).1, (b2 e he).2.mono hd hs.2 hr.2⟩, b3⟩, ⟨by rw [hs.1 11 2 (by omega)]; exact c1, by rw [hs.1 11 3 (by omega)]; exact c2, fun i hi => by rw [hr.1 12 i (by omega)]; exact c3 i hi, fun i hi => by rw [hr.1 13 i (by omega)]; exact c4 i hi⟩, by rw [hr.1 7 5 (by omega)]; exact d, fun v hv => by rw [hs.1 8 v (by omega), hs.1 9 v (by omega)]; exact e v hv, by rw [hs.1 9 6 (by omega)]; exact g⟩
theorem RepX.agr (ok : TOK A) (h : RepX A F E dy σ ρ) (hs : agX dy σ σ') : RepX A F E dy σ' ρ := h.mono ok (fun _ _ q => q) hs ⟨fun _ _ _ => rfl, fun _ _ _ _ _ => rfl⟩
/-- nothing but what formulas note for themselves is another -/
def fE (dy : List (Nat × Nat)) (σ σ' : Nat → Nat → Int32) : Prop := ∀ a, (a < 47 ∨ me_sh dy a ≠ some (0, 25)) → σ' a = σ a
theorem fE.rf (σ : Nat → Nat → Int32) : fE dy σ σ := fun _ _ => rfl
theorem fE.tr {σ σ1 σ2 : Nat → Nat → Int32} (h1 : fE dy σ σ1) (h2 : fE dy σ1 σ2) : fE dy σ σ2 := fun a h => (h2 a h).trans (h1 a h)
theorem fE.ag (h : fE dy σ σ') : agX dy σ σ' := ⟨fun a k q => by rw [h a (Or.inl (by omega))], fun a k s h1 h2 h3 => by rw [h a (Or.inr (fun q => h3 (Option.some.inj (h2.symm.trans q))))]⟩
theorem fE.st (h : fE dy σ σ') {a : Nat} (ha : a < 47) : σ' a = σ a := h a (Or.inl ha)
theorem s_15 (hw : 50 ≤ w.toInt ∧ w.toInt ≤ 58) (kk : Q (.inl (some (.int (rsf w a b c)))) (mk dy σ ρ τ)) : go (tb_P L xs) 15 0 [some (.int w), some (.int a), some (.int b), some (.int c)] [] (mk dy σ ρ τ) Q := by
  refine g_iload_n k15_0 rfl ?_
  refine g_split 50 (fun h1_50 => ?_) (fun h1_50 => ?_)
  · skip
    refine g_switch k15_1 ⟨by omega, by omega⟩ (off := 47) (t := 48) (by rw [h1_50]; rfl) rfl ?_
    refine g_iload_n k15_48 rfl ?_
    refine g_iload_n k15_49 rfl ?_
    refine g_iadd k15_50 ?_
    refine g_ireturn k15_51 t15 ?_
    unfold rsf at kk
    try simp only [ti_1] at *
    simp only [*, reduceIte, Int.reduceEq] at kk
    first | exact kk | (rw [bb_t (by omega)] at kk; exact kk) | (rw [bb_f (by omega)] at kk; exact kk)
  refine g_split 51 (fun h1_51 => ?_) (fun h1_51 => ?_)
  · skip
    refine g_switch k15_1 ⟨by omega, by omega⟩ (off := 51) (t := 52) (by rw [h1_51]; rfl) rfl ?_
    refine g_iload_n k15_52 rfl ?_
    refine g_iload_n k15_53 rfl ?_
    refine g_isub k15_54 ?_
    refine g_ireturn k15_55 t15 ?_
    unfold rsf at kk
    try simp only [ti_1] at *
    simp only [*, reduceIte, Int.reduceEq] at kk
    first | exact kk | (rw [bb_t (by omega)] at kk; exact kk) | (rw [bb_f (by omega)] at kk; exact kk)
  refine g_split 52 (fun h1_52 => ?_) (fun h1_52 => ?_)
  · skip
    refine g_switch k15_1 ⟨by omega, by omega⟩ (off := 55) (t := 56) (by rw [h1_52]; rfl) rfl ?_
    refine g_iload_n k15_56 rfl ?_
    refine g_iload_n k15_57 rfl ?_
    refine g_imul k15_58 ?_
    refine g_ireturn k15_59 t15 ?_
    unfold rsf at kk
    try simp only [ti_1] at *
    simp only [*, reduceIte, Int.reduceEq] at kk
    first | exact kk | (rw [bb_t (by omega)] at kk; exact kk) | (rw [bb_f (by omega)] at kk; exact kk)
  refine g_split 53 (fun h1_53 => ?_) (fun h1_53 => ?_)
  · skip
    refine g_switch k15_1 ⟨by omega, by omega⟩ (off := 59) (t := 60) (by rw [h1_53]; rfl) rfl ?_
    refine g_iload_n k15_60 rfl ?_
    refine g_iload_n k15_61 rfl ?_
    refine g_icneT k15_62 (t := 69) rfl (fun h62 => ?_) (fun h62 => ?_)
    · skip
      refine g_iconst (v := nn 0) k15_69 ci_0 ?_
      refine g_ireturn k15_70 t15 ?_
      unfold rsf at kk
      try simp only [ti_1] at *
      simp only [*, reduceIte, Int.reduceEq] at kk
      first | exact kk | (rw [bb_t (by omega)] at kk; exact kk) | (rw [bb_f (by omega)] at kk; exact kk)
    · skip
      refine g_iconst (v := nn 1) k15_65 ci_1 ?_
      refine g_goto k15_66 (t := 70) rfl ?_
      refine g_ireturn k15_70 t15 ?_
      unfold rsf at kk
      try simp only [ti_1] at *
      simp only [*, reduceIte, Int.reduceEq] at kk
      first | exact kk | (rw [bb_t (by omega)] at kk; exact kk) | (rw [bb_f (by omega)] at kk; exact kk)
  refine g_split 54 (fun h1_54 => ?_) (fun h1_54 => ?_)
  · skip
    refine g_switch k15_1 ⟨by omega, by omega⟩ (off := 70) (t := 71) (by rw [h1_54]; rfl) rfl ?_
    refine g_iload_n k15_71 rfl ?_
    refine g_iload_n k15_72 rfl ?_
    refine g_icge k15_73 (t := 80) rfl (fun h73 => ?_) (fun h73 => ?_)
    · skip
      refine g_iconst (v := nn 0) k15_80 ci_0 ?_
      refine g_ireturn k15_81 t15 ?_
      unfold rsf at kk
      try simp only [ti_1] at *
      simp only [*, reduceIte, Int.reduceEq] at kk
      first | exact kk | (rw [bb_t (by omega)] at kk; exact kk) | (rw [bb_f (by omega)] at kk; exact kk)
    · skip
      refine g_iconst (v := nn 1) k15_76 ci_1 ?_
      refine g_goto k15_77 (t := 81) rfl ?_
      refine g_ireturn k15_81 t15 ?_
      unfold rsf at kk
      try simp only [ti_1] at *
      simp only [*, reduceIte, Int.reduceEq] at kk
      first | exact kk | (rw [bb_t (by omega)] at kk; exact kk) | (rw [bb_f (by omega)] at kk; exact kk)
  refine g_split 55 (fun h1_55 => ?_) (fun h1_55 => ?_)
  · skip
    refine g_switch k15_1 ⟨by omega, by omega⟩ (off := 81) (t := 82) (by rw [h1_55]; rfl) rfl ?_
    refine g_iload_n k15_82 rfl ?_
    refine g_iload_n k15_83 rfl ?_
    refine g_iand k15_84 ?_
    refine g_ireturn k15_85 t15 ?_
    unfold rsf at kk
    try simp only [ti_1] at *
    simp only [*, reduceIte, Int.reduceEq] at kk
    first | exact kk | (rw [bb_t (by omega)] at kk; exact kk) | (rw [bb_f (by omega)] at kk; exact kk)
  refine g_split 56 (fun h1_56 => ?_) (fun h1_56 => ?_)
  · skip
    refine g_switch k15_1 ⟨by omega, by omega⟩ (off := 85) (t := 86) (by rw [h1_56]; rfl) rfl ?_
    refine g_iload_n k15_86 rfl ?_
    refine g_iload_n k15_87 rfl ?_
    refine g_ior k15_88 ?_
    refine g_ireturn k15_89 t15 ?_
    unfold rsf at kk
    try simp only [ti_1] at *
    simp only [*, reduceIte, Int.reduceEq] at kk
    first | exact kk | (rw [bb_t (by omega)] at kk; exact kk) | (rw [bb_f (by omega)] at kk; exact kk)
  refine g_split 57 (fun h1_57 => ?_) (fun h1_57 => ?_)
  · skip
    refine g_switch k15_1 ⟨by omega, by omega⟩ (off := 89) (t := 90) (by rw [h1_57]; rfl) rfl ?_
    refine g_iconst (v := nn 1) k15_90 ci_1 ?_
    refine g_iload_n k15_91 rfl ?_
    refine g_isub k15_92 ?_
    refine g_ireturn k15_93 t15 ?_
    unfold rsf at kk
    try simp only [ti_1] at *
    simp only [*, reduceIte, Int.reduceEq] at kk
    first | exact kk | (rw [bb_t (by omega)] at kk; exact kk) | (rw [bb_f (by omega)] at kk; exact kk)
  refine g_switch_d k15_1 (by omega) (t := 94) rfl ?_
  refine g_iload_n k15_94 rfl ?_
  refine g_ifeqT k15_95 (t := 102) rfl (fun h95 => ?_) (fun h95 => ?_)
  · skip
    refine g_iload_n k15_102 rfl ?_
    refine g_ireturn k15_103 t15 ?_
    unfold rsf at kk
    try simp only [ti_1] at *
    simp only [*, reduceIte, Int.reduceEq] at kk
    first | exact kk | (rw [bb_t (by omega)] at kk; exact kk) | (rw [bb_f (by omega)] at kk; exact kk)
  · skip
    refine g_iload_n k15_98 rfl ?_
    refine g_goto k15_99 (t := 103) rfl ?_
    refine g_ireturn k15_103 t15 ?_
    unfold rsf at kk
    try simp only [ti_1] at *
    simp only [*, reduceIte, Int.reduceEq] at kk
    first | exact kk | (rw [bb_t (by omega)] at kk; exact kk) | (rw [bb_f (by omega)] at kk; exact kk)
/-- where a word reads in a row -/
def pli (w : Int32) : Nat := if w.toInt = 40 then 6 else (w.toInt - 20).toNat
theorem pl_ix (hw : wd_ok w) (h9 : 9 < w.toInt) (h40 : w.toInt ≤ 40) : (if w.toInt = 40 then nn 6 else w - nn 20) = nn (pli w) := by
  unfold pli
  unfold wd_ok at hw
  by_cases h : w.toInt = 40
  · rw [if_pos h, if_pos h]
  · rw [if_neg h, if_neg h]
    have e : w = nn w.toInt.toNat := (nn_of (by omega)).1
    have e2 : nn w.toInt.toNat - nn 20 = nn (w.toInt.toNat - 20) := nn_sub (by omega)
    rw [show (w.toInt - 20).toNat = w.toInt.toNat - 20 by omega, ← e2, ← e]
theorem pl_7 (hw : wd_ok w) (h9 : 9 < w.toInt) (h40 : w.toInt ≤ 40) : pli w < 7 := by
  unfold pli
  unfold wd_ok at hw
  split <;> omega
theorem pl_rd {rw : Nat → Int32} (hw : wd_ok w) (h9 : 9 < w.toInt) (h40 : w.toInt ≤ 40) : rw (pli w) = rdv rw w := by
  unfold pli rdv
  unfold wd_ok at hw
  rw [if_neg (show ¬ w.toInt < 10 by omega)]
  by_cases h : w.toInt = 40
  · rw [if_pos h, if_neg (by omega)]
  · rw [if_neg h, if_pos (by omega)]
theorem ev_vt {rw : Nat → Int32} : ev A f rw = vt rw (td_fw A f) (td_ln A f) 0 := by
  unfold ev vt
  rw [pr_0, Nat.sub_zero]
theorem s_13L {kd en : Nat → Nat} {l5x : Nat} (hdy : dy.length < 100000) (hfk : FK (td_fw A f) (td_ln A f) kd en) (hln : td_ln A f ≤ 24) (h47 : 47 ≤ ad ∧ r < 47) (hA : me_sh dy ad = some (7, 0)) (hB : me_sh dy (ad + 1) = some (0, 25)) (hC : me_sh dy (ad + 2) = some (0, td_ln A f)) (hD : me_sh dy (ad + 3) = some (0, td_ln A f)) (hE : me_sh dy (ad + 4) = some (0, td_ln A f)) (hr : me_sh dy r = some (0, 7)) : ∀ (i : Nat) {σ : Nat → Nat → Int32} {l3 l4 l5 : Option Value} {Q : am_A → am_H → Prop}, i ≤ td_ln A f → (∀ v, v ≤ 6 → nf (σ r v)) → (∀ i, i < td_ln A f → σ (ad + 2) i = td_fw A f i) → (∀ i, i < td_ln A f → σ (ad + 3) i = nn (en (i + 1)) ∧ σ (ad + 4) i = nn (en (en (i + 1)))) → (∀ j, i ≤ j → j < td_ln A f → σ (ad + 1) j = vt (σ r) (td_fw A f) (td_ln A f) j) → (∀ σ', fE dy σ σ' → σ' (ad + 1) 0 = (if 0 < td_ln A f then vt (σ r) (td_fw A f) (td_ln A f) 0 else σ (ad + 1) 0) → Q (.inl (some (.int (σ' (ad + 1) 0)))) (mk dy σ' ρ τ)) → go (tb_P L xs) 13 8 [some (.ref ad), some (.ref r), some (.int (nn i - nn 1)), l3, l4, l5] [] (mk dy σ ρ τ) Q := by
  intro i
  induction i with
  | zero =>
    intro σ l3 l4 l5 Q hi hrow hw hl hv kk
    refine g_iload_n k13_8 rfl ?_
    refine g_iflt_t k13_9 (t := 122) rfl (by decide) ?_
    refine g_aload_n k13_122 rfl ?_
    refine m_get k13_123 f13_123 (by assumption) rfl ?_
    refine g_iconst (v := nn 0) k13_126 ci_0 ?_
    refine m_iald k13_127 hdy (by assumption) rfl (by omega) (by omega) ?_
    refine g_ireturn k13_128 t13 ?_
    refine kk σ (fE.rf σ) ?_
    split
    · rename_i h0
      exact hv 0 (by omega) h0
    · rfl
  | succ i ih =>
    intro σ l3 l4 l5 Q hi hrow hw hl hv kk
    rw [nn_pred]
    have hwi := hw i (by omega)
    have wk := hfk.2.1 i (by omega)
    obtain ⟨hl1, hl2⟩ := hl i (by omega)
    obtain ⟨v1, v2, v3, v4, v5⟩ := hfk.v hrow (td_ln A f) i (by omega) (by omega)
    have t9 := ti_9
    have t40 := ti_40
    have nxt : ∀ (x : Int32) (l3 l4 l5 : Option Value), x = vt (σ r) (td_fw A f) (td_ln A f) i → go (tb_P L xs) 13 8 [some (.ref ad), some (.ref r), some (.int (nn i - nn 1)), l3, l4, l5] [] (mk dy (up2 σ (ad + 1) i x) ρ τ) Q := by
      intro x l3 l4 l5 hx
      have er : up2 σ (ad + 1) i x r = σ r := funext fun q => up2_ne (by omega)
      refine ih (by omega) (fun v hv => by rw [er]; exact hrow v hv) (fun j hj => by rw [up2_ne (by omega)]; exact hw j hj) (fun j hj => by rw [up2_ne (by omega), up2_ne (by omega)]; exact hl j hj) (fun j h1 h2 => ?_) (fun σ' hs h0 => kk σ' (fun a ha => ?_) ?_)
      · rw [er, up2_of]
        by_cases c : j = i
        · rw [if_pos c, c]; exact hx
        · rw [if_neg c]; exact hv j (by omega) h2
      · rw [hs a ha]
        funext q
        refine up2_ne (Or.inl (fun c => ?_))
        subst c
        rcases ha with ha | ha
        · omega
        · exact ha hB
      · rw [h0, er]
        have h0n : 0 < td_ln A f := by omega
        rw [if_pos h0n, if_pos h0n]
    refine g_iload_n k13_8 rfl ?_
    refine g_ifltN (t := 122) k13_9 rfl (by omega) ?_
    refine g_aload_n k13_12 rfl ?_
    refine m_get k13_13 f13_13 (by assumption) rfl ?_
    refine g_iload_n k13_16 rfl ?_
    refine m_iald k13_17 hdy (by assumption) rfl (by omega) (by omega) ?_
    rw [hwi]
    refine g_istore_n k13_18 rfl rfl ?_
    refine g_iload_n k13_19 rfl ?_
    refine g_bipush (v := nn 9) k13_20 cb_9 ?_
    refine g_icgt k13_22 (t := 35) rfl (fun h22 => ?_) (fun h22 => ?_)
    · skip
      refine g_iload_n k13_35 rfl ?_
      refine g_bipush (v := nn 40) k13_36 cb_40 ?_
      refine g_icgt k13_38 (t := 56) rfl (fun h38 => ?_) (fun h38 => ?_)
      · skip
        obtain ⟨u1, u2, u3, u4⟩ := v5 (by unfold wd_ok at wk; omega)
        refine g_aload_n k13_56 rfl ?_
        refine m_get k13_57 f13_57 (by assumption) rfl ?_
        refine g_aload_n k13_60 rfl ?_
        refine m_get k13_61 f13_61 (by assumption) rfl ?_
        refine g_iload_n k13_64 rfl ?_
        refine m_iald k13_65 hdy (by assumption) rfl (by omega) (by omega) ?_
        rw [hl2]
        refine m_iald k13_66 hdy (by assumption) rfl (by omega) (by omega) ?_
        refine g_istore k13_67 rfl rfl ?_
        refine g_iload_n k13_69 rfl ?_
        refine g_aload_n k13_70 rfl ?_
        refine m_get k13_71 f13_71 (by assumption) rfl ?_
        refine g_iload_n k13_74 rfl ?_
        refine g_iconst (v := nn 1) k13_75 ci_1 ?_
        refine g_iaddN k13_76 ?_
        refine m_iald k13_77 hdy (by assumption) rfl (by omega) (by omega) ?_
        refine g_aload_n k13_78 rfl ?_
        refine m_get k13_79 f13_79 (by assumption) rfl ?_
        refine g_aload_n k13_82 rfl ?_
        refine m_get k13_83 f13_83 (by assumption) rfl ?_
        refine g_iload_n k13_86 rfl ?_
        refine m_iald k13_87 hdy (by assumption) rfl (by omega) (by omega) ?_
        rw [hl1]
        refine m_iald k13_88 hdy (by assumption) rfl (by omega) (by omega) ?_
        refine g_iload k13_89 rfl ?_
        have w5 : 50 ≤ (td_fw A f i).toInt ∧ (td_fw A f i).toInt ≤ 58 := by unfold wd_ok at wk; omega
        refine g_callS4 k13_91 s13_91 c13_91 l15 (by omega) ⟨rfl, rfl, rfl, rfl⟩ rfl r13_91 ?_
        refine s_15 ⟨by omega, by omega⟩ ?_
        refine af_ret ?_
        refine g_istore k13_94 rfl rfl ?_
        refine g_aload_n k13_96 rfl ?_
        refine m_get k13_97 f13_97 (by assumption) rfl ?_
        refine g_iload_n k13_100 rfl ?_
        refine g_sipush (v := -999) k13_101 cs_m999 ?_
        refine g_sipush (v := nn 999) k13_104 cs_999 ?_
        refine g_iload k13_107 rfl ?_
        refine g_min k13_109 s13_109 r13_109 ?_
        refine g_max k13_112 s13_112 r13_112 ?_
        refine m_iast k13_115 (by assumption) rfl (by omega) (by omega) ?_
        refine g_idecM k13_116 rfl rfl rfl ?_
        refine g_goto k13_119 (t := 8) rfl ?_
        first
          | exact nxt _ _ _ _ (by rw [v4 (by omega)]; unfold rdv; rw [if_pos (by omega)])
          | exact nxt _ _ _ _ (by rw [v4 (by omega)]; exact pl_rd wk (by omega) (by omega))
          | (rw [mm_cl]
             refine nxt _ _ _ _ ?_
             rw [hv (i + 1) (by omega) u1]
             refine u4 _ _ (fun q => hv _ (by have := hfk.1.gt (j := i + 1) (by omega) (by omega) (hfk.2.2 (i + 1) u1); omega) q) (fun q => hv _ ?_ q)
             have g1 := hfk.1.gt (j := i + 1) (by omega) (by omega) (hfk.2.2 (i + 1) u1)
             by_cases c : en (i + 1) < td_ln A f
             · have g2 := hfk.1.gt (j := en (i + 1)) (by omega) u2 (hfk.2.2 _ c)
               omega
             · have c2 : en (i + 1) = td_ln A f := by omega
               rw [c2, hfk.1.1.2]
               omega)
      · skip
        refine g_aload_n k13_41 rfl ?_
        refine m_get k13_42 f13_42 (by assumption) rfl ?_
        refine g_iload_n k13_45 rfl ?_
        refine g_aload_n k13_46 rfl ?_
        refine g_iload_n k13_47 rfl ?_
        refine g_callS1 k13_48 s13_48 c13_48 l14 (by omega) rfl rfl r13_48 ?_
        refine s_14 ?_
        refine af_ret ?_
        refine m_iald k13_51 hdy (by assumption) (pl_ix wk (by omega) (by omega)) (pl_7 wk (by omega) (by omega)) (by omega) ?_
        refine m_iast k13_52 (by assumption) rfl (by omega) (by omega) ?_
        refine g_goto k13_53 (t := 116) rfl ?_
        refine g_idecM k13_116 rfl rfl rfl ?_
        refine g_goto k13_119 (t := 8) rfl ?_
        first
          | exact nxt _ _ _ _ (by rw [v4 (by omega)]; unfold rdv; rw [if_pos (by omega)])
          | exact nxt _ _ _ _ (by rw [v4 (by omega)]; exact pl_rd wk (by omega) (by omega))
          | (rw [mm_cl]
             refine nxt _ _ _ _ ?_
             rw [hv (i + 1) (by omega) u1]
             refine u4 _ _ (fun q => hv _ (by have := hfk.1.gt (j := i + 1) (by omega) (by omega) (hfk.2.2 (i + 1) u1); omega) q) (fun q => hv _ ?_ q)
             have g1 := hfk.1.gt (j := i + 1) (by omega) (by omega) (hfk.2.2 (i + 1) u1)
             by_cases c : en (i + 1) < td_ln A f
             · have g2 := hfk.1.gt (j := en (i + 1)) (by omega) u2 (hfk.2.2 _ c)
               omega
             · have c2 : en (i + 1) = td_ln A f := by omega
               rw [c2, hfk.1.1.2]
               omega)
    · skip
      refine g_aload_n k13_25 rfl ?_
      refine m_get k13_26 f13_26 (by assumption) rfl ?_
      refine g_iload_n k13_29 rfl ?_
      refine g_iload_n k13_30 rfl ?_
      refine m_iast k13_31 (by assumption) rfl (by omega) (by omega) ?_
      refine g_goto k13_32 (t := 116) rfl ?_
      refine g_idecM k13_116 rfl rfl rfl ?_
      refine g_goto k13_119 (t := 8) rfl ?_
      first
        | exact nxt _ _ _ _ (by rw [v4 (by omega)]; unfold rdv; rw [if_pos (by omega)])
        | exact nxt _ _ _ _ (by rw [v4 (by omega)]; exact pl_rd wk (by omega) (by omega))
        | (rw [mm_cl]
           refine nxt _ _ _ _ ?_
           rw [hv (i + 1) (by omega) u1]
           refine u4 _ _ (fun q => hv _ (by have := hfk.1.gt (j := i + 1) (by omega) (by omega) (hfk.2.2 (i + 1) u1); omega) q) (fun q => hv _ ?_ q)
           have g1 := hfk.1.gt (j := i + 1) (by omega) (by omega) (hfk.2.2 (i + 1) u1)
           by_cases c : en (i + 1) < td_ln A f
           · have g2 := hfk.1.gt (j := en (i + 1)) (by omega) u2 (hfk.2.2 _ c)
             omega
           · have c2 : en (i + 1) = td_ln A f := by omega
             rw [c2, hfk.1.1.2]
             omega)
theorem s_13 (hdy : dy.length < 100000) (ok : TOK A) (hf : f < td_nf A) (hX : FX A f ad dy σ) (h47 : r < 47) (hr : me_sh dy r = some (0, 7)) (hrow : ∀ v, v ≤ 6 → nf (σ r v)) (kk : ∀ σ', fE dy σ σ' → Q (.inl (some (.int (ev A f (σ r))))) (mk dy σ' ρ τ)) : go (tb_P L xs) 13 0 [some (.ref ad), some (.ref r), none, none, none, none] [] (mk dy σ ρ τ) Q := by
  obtain ⟨⟨a0, a1, a2, a3, a4, a5⟩, hb, ⟨kd, en, c1, c2⟩, hd1, he1⟩ := hX
  obtain ⟨n1, n2⟩ := (ok.2.1 f hf).1
  refine g_aload_n k13_0 rfl ?_
  refine m_get k13_1 f13_1 (by assumption) rfl ?_
  refine m_alen k13_4 hdy (by assumption) (by omega) ?_
  refine g_iconst (v := nn 1) k13_5 ci_1 ?_
  refine g_isub k13_6 ?_
  refine g_istore_n k13_7 rfl rfl ?_
  refine s_13L (l5x := 0) hdy c1 n2 ⟨a0, h47⟩ a1 a2 a3 a4 a5 hr (td_ln A f) (Nat.le_refl _) hrow hb c2 (fun j h1 h2 => by omega) (fun σ' hs h0 => ?_)
  rw [h0, if_pos (by omega), ← ev_vt]
  exact kk σ' hs
end YA
