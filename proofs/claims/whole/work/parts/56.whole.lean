/-! The class: the duties of an event in all rows. -/
section YG
variable {L : Nat} {xs : Nat → Int32} {Q : am_A → am_H → Prop} {dy dy' : List (Nat × Nat)} {σ σ' : Nat → Nat → Int32} {ρ ρ' : Nat → Nat → Option Nat} {τ τ' : Nat → Nat → Int64} {A : TD} {W : RS} {F E : Nat → Nat} {f e u r ad m kd : Nat} {rw : Nat → Int32} {s d : Nat → Nat} {x y kc : Int32} {K M : Nat → Bool}
/-- nothing but what the duties use is another -/
def fD (dy : List (Nat × Nat)) (σ σ' : Nat → Nat → Int32) : Prop := ∀ a k, a ≠ 16 → a ≠ 17 → a ≠ 19 → a ≠ 20 → (a ≠ 18 ∨ k ≠ 3) → (a < 47 ∨ me_sh dy a ≠ some (0, 25)) → σ' a k = σ a k
theorem fD.rf (σ : Nat → Nat → Int32) : fD dy σ σ := fun _ _ _ _ _ _ _ _ => rfl
theorem fD.tr {σ σ1 σ2 : Nat → Nat → Int32} (h1 : fD dy σ σ1) (h2 : fD dy σ1 σ2) : fD dy σ σ2 := fun a k g1 g2 g3 g4 g5 g6 => (h2 a k g1 g2 g3 g4 g5 g6).trans (h1 a k g1 g2 g3 g4 g5 g6)
theorem fL.fD (h : fL dy σ σ') : fD dy σ σ' := fun a k g1 g2 _ _ _ g6 => by rw [h a g1 g2 g6]
theorem fE.fD (h : fE dy σ σ') : fD dy σ σ' := fun a k _ _ _ _ _ g6 => by rw [h a g6]
theorem fR.fD (h : fR σ σ') : fD dy σ σ' := fun a k _ _ g3 g4 g5 _ => h a k g3 g4 g5
theorem fD.ag (h : fD dy σ σ') : agX dy σ σ' := ⟨fun a k q => h a k (by omega) (by omega) (by omega) (by omega) (by omega) (Or.inl (by omega)), fun a k s h1 h2 h3 => h a k (by omega) (by omega) (by omega) (by omega) (by omega) (Or.inr (fun q => h3 (Option.some.inj (h2.symm.trans q))))⟩
theorem f19 (h : ∀ a, a ≠ 19 → σ' a = σ a) : fD dy σ σ' := fun a k _ _ g3 _ _ _ => by rw [h a g3]
theorem dk_15 (h : td_dk A kd e = true) : 1 ≤ kd ∧ kd < 6 := by
  unfold td_dk at h
  simp only [Bool.or_eq_true, Bool.and_eq_true, decide_eq_true_eq] at h
  omega
theorem s_17K (hdy : dy.length < 100000) (ok : TOK A) (he : e < td_ne A) (hb : ∀ v, v < 6 → s v < td_sz A v) : ∀ (k j : Nat) {σ : Nat → Nat → Int32} {τ : Nat → Nat → Int64} {y : Int32} {M : Nat → Bool} {l6 : Option Value} {Q : am_A → am_H → Prop}, j + k = 6 → 1 ≤ j → RepX A F E dy σ ρ → CX A τ → rX σ 19 s → bt y M → (∀ kd, kd < 7 → M kd = true → td_dk A kd e = true) → (∀ σ' τ' y' l5 l6, fL dy σ σ' → tE τ τ' → CX A τ' → bt y' (fun kd => M kd && (!(decide (j ≤ kd ∧ kd < 6)) || td_k0 A kd e (σ 19))) → go (tb_P L xs) 17 104 [some (.ref 18), some (.ref (E e)), some (.int x), some (.int y'), some (.int kc), l5, l6] [] (mk dy σ' ρ τ') Q) → go (tb_P L xs) 17 62 [some (.ref 18), some (.ref (E e)), some (.int x), some (.int y), some (.int kc), some (.int (nn j)), l6] [] (mk dy σ ρ τ) Q := by
  intro k
  induction k with
  | zero =>
    intro j σ τ y M l6 Q hj h1 hX hC hrow hy hM kk
    have hj6 : j = 6 := by omega
    subst hj6
    refine g_iload k17_62 rfl ?_
    refine g_iconst (v := nn 5) k17_64 ci_5 ?_
    refine g_icgt_t k17_65 (t := 104) rfl (by decide) ?_
    exact kk σ τ y _ _ (fL.rf σ) (tE.rf τ) hC (bt_congr hy (fun v hv => by rw [decide_eq_false (by omega)]; simp))
  | succ k ih =>
    intro j σ τ y M l6 Q hj h1 hX hC hrow hy hM kk
    have hbit := bt_t hy (i := j) (by omega)
    by_cases hMj : M j = true
    · have hk := dk_hk (hM j (by omega) hMj)
      refine g_iload k17_62 rfl ?_
      refine g_iconst (v := nn 5) k17_64 ci_5 ?_
      refine g_icgt_f k17_65 (t := 104) rfl (by rw [nn_toInt (by omega), nn_toInt (by omega)]; omega) ?_
      refine g_iconst (v := nn 1) k17_68 ci_1 ?_
      refine g_iload k17_69 rfl ?_
      refine g_ishl k17_71 ?_
      refine g_istore k17_72 rfl rfl ?_
      refine g_iload_n k17_74 rfl ?_
      refine g_iload k17_75 rfl ?_
      refine g_iand k17_77 ?_
      refine g_ifeq_f k17_78 (t := 98) rfl (fun q => by have h2 := hbit.mp (by rw [q]; rfl); rw [hMj] at h2; cases h2) ?_
      refine g_aload_n k17_81 rfl ?_
      refine g_iload k17_82 rfl ?_
      refine g_aload_n k17_84 rfl ?_
      refine m_callV2 k17_85 s17_85 c17_85 l24 (by omega) ⟨rfl, rfl⟩ rfl r17_85 rfl ?_
      refine s_24 hdy ok hX hC he hk hrow hb (fun σ1 τ1 hs ht1 hC1 => ?_)
      refine af_ret ?_
      refine g_ifneB k17_88 (t := 98) rfl (fun h88 => ?_) (fun h88 => ?_)
      · skip
        refine g_iincN k17_98 rfl rfl rfl ?_
        refine g_goto k17_101 (t := 62) rfl ?_
        first
          | (have h88 := h88
             refine ih (j + 1) (by omega) (by omega) (hX.agr ok hs.ag) hC1 (by unfold rX; rw [hs 19 (by omega) (by omega) (Or.inl (by omega))]; exact hrow) hy (fun kd hkd q => hM kd hkd q) (fun σ' τ' y' l5 l6 hs' ht' hC' hy' => ?_)
             rw [hs 19 (by omega) (by omega) (Or.inl (by omega))] at hy'
             refine kk σ' τ' y' l5 l6 (hs.tr hs') (ht1.tr ht') hC' (bt_congr hy' (fun kd hkd => ?_))
             by_cases c : kd = j
             · subst c
               rw [decide_eq_false (show ¬ (kd + 1 ≤ kd ∧ kd < 6) by omega), decide_eq_true (show kd ≤ kd ∧ kd < 6 by omega), hMj]
               rw [h88]
               rfl
             · rw [show decide (j + 1 ≤ kd ∧ kd < 6) = decide (j ≤ kd ∧ kd < 6) from decide_eq_decide.mpr (by omega)]
               skip)
          | (have h88' : td_k0 A j e (σ 19) = false := by simpa using h88
             refine ih (j + 1) (by omega) (by omega) (hX.agr ok hs.ag) hC1 (by unfold rX; rw [hs 19 (by omega) (by omega) (Or.inl (by omega))]; exact hrow) (bt_clr hy (by omega)) (fun kd hkd q => hM kd hkd (by simp only [Bool.and_eq_true] at q; exact q.2)) (fun σ' τ' y' l5 l6 hs' ht' hC' hy' => ?_)
             rw [hs 19 (by omega) (by omega) (Or.inl (by omega))] at hy'
             refine kk σ' τ' y' l5 l6 (hs.tr hs') (ht1.tr ht') hC' (bt_congr hy' (fun kd hkd => ?_))
             by_cases c : kd = j
             · subst c
               rw [decide_eq_false (show ¬ (kd + 1 ≤ kd ∧ kd < 6) by omega), decide_eq_true (show kd ≤ kd ∧ kd < 6 by omega), hMj]
               rw [h88', decide_eq_false (show ¬ kd ≠ kd from fun q => q rfl)]
               rfl
             · rw [show decide (j + 1 ≤ kd ∧ kd < 6) = decide (j ≤ kd ∧ kd < 6) from decide_eq_decide.mpr (by omega)]
               rw [decide_eq_true c, Bool.true_and])
      · skip
        refine g_iload_n k17_91 rfl ?_
        refine g_iload k17_92 rfl ?_
        refine g_iconst (v := -1) k17_94 ci_m1 ?_
        refine g_ixor k17_95 ?_
        refine g_iand k17_96 ?_
        refine g_istore_n k17_97 rfl rfl ?_
        refine g_iincN k17_98 rfl rfl rfl ?_
        refine g_goto k17_101 (t := 62) rfl ?_
        first
          | (have h88 := h88
             refine ih (j + 1) (by omega) (by omega) (hX.agr ok hs.ag) hC1 (by unfold rX; rw [hs 19 (by omega) (by omega) (Or.inl (by omega))]; exact hrow) hy (fun kd hkd q => hM kd hkd q) (fun σ' τ' y' l5 l6 hs' ht' hC' hy' => ?_)
             rw [hs 19 (by omega) (by omega) (Or.inl (by omega))] at hy'
             refine kk σ' τ' y' l5 l6 (hs.tr hs') (ht1.tr ht') hC' (bt_congr hy' (fun kd hkd => ?_))
             by_cases c : kd = j
             · subst c
               rw [decide_eq_false (show ¬ (kd + 1 ≤ kd ∧ kd < 6) by omega), decide_eq_true (show kd ≤ kd ∧ kd < 6 by omega), hMj]
               rw [h88]
               rfl
             · rw [show decide (j + 1 ≤ kd ∧ kd < 6) = decide (j ≤ kd ∧ kd < 6) from decide_eq_decide.mpr (by omega)]
               skip)
          | (have h88' : td_k0 A j e (σ 19) = false := by simpa using h88
             refine ih (j + 1) (by omega) (by omega) (hX.agr ok hs.ag) hC1 (by unfold rX; rw [hs 19 (by omega) (by omega) (Or.inl (by omega))]; exact hrow) (bt_clr hy (by omega)) (fun kd hkd q => hM kd hkd (by simp only [Bool.and_eq_true] at q; exact q.2)) (fun σ' τ' y' l5 l6 hs' ht' hC' hy' => ?_)
             rw [hs 19 (by omega) (by omega) (Or.inl (by omega))] at hy'
             refine kk σ' τ' y' l5 l6 (hs.tr hs') (ht1.tr ht') hC' (bt_congr hy' (fun kd hkd => ?_))
             by_cases c : kd = j
             · subst c
               rw [decide_eq_false (show ¬ (kd + 1 ≤ kd ∧ kd < 6) by omega), decide_eq_true (show kd ≤ kd ∧ kd < 6 by omega), hMj]
               rw [h88', decide_eq_false (show ¬ kd ≠ kd from fun q => q rfl)]
               rfl
             · rw [show decide (j + 1 ≤ kd ∧ kd < 6) = decide (j ≤ kd ∧ kd < 6) from decide_eq_decide.mpr (by omega)]
               rw [decide_eq_true c, Bool.true_and])
    · have hMj' : M j = false := by simpa using hMj
      refine g_iload k17_62 rfl ?_
      refine g_iconst (v := nn 5) k17_64 ci_5 ?_
      refine g_icgt_f k17_65 (t := 104) rfl (by rw [nn_toInt (by omega), nn_toInt (by omega)]; omega) ?_
      refine g_iconst (v := nn 1) k17_68 ci_1 ?_
      refine g_iload k17_69 rfl ?_
      refine g_ishl k17_71 ?_
      refine g_istore k17_72 rfl rfl ?_
      refine g_iload_n k17_74 rfl ?_
      refine g_iload k17_75 rfl ?_
      refine g_iand k17_77 ?_
      refine g_ifeq_t k17_78 (t := 98) rfl (eq_0.mp (hbit.mpr hMj')) ?_
      refine g_iincN k17_98 rfl rfl rfl ?_
      refine g_goto k17_101 (t := 62) rfl ?_
      refine ih (j + 1) (by omega) (by omega) hX hC hrow hy hM (fun σ' τ' y' l5 l6 hs' ht' hC' hy' => kk σ' τ' y' l5 l6 hs' ht' hC' (bt_congr hy' (fun kd hkd => ?_)))
      by_cases c : kd = j
      · subst c
        rw [hMj', Bool.false_and, Bool.false_and]
      · rw [show decide (j + 1 ≤ kd ∧ kd < 6) = decide (j ≤ kd ∧ kd < 6) from decide_eq_decide.mpr (by omega)]
/-- the class's box -/
abbrev li (A : TD) (e : Nat) : Nat → Nat := lm A (td_mf A e) (td_rg A e)
theorem li_fl (ok : TOK A) (he : e < td_ne A) (h : bx (li A e) 7 d) : bx (fl1 A e) 7 d := fun v hv => by
  have h1 : d v < lm A (td_mf A e) (td_rg A e) v := h v hv
  rw [lm_fl ok he v hv] at h1
  have := fl1_pos ok he v hv
  split at h1 <;> omega
theorem li_4 (ok : TOK A) (he : e < td_ne A) : ∀ v, v < 7 → 1 ≤ li A e v ∧ li A e v ≤ 4 := fun v hv => lm_4 ok (ok.2.2.2.1 e he).2.1 hv
/-- a row of digits, as the class has it -/
def row7 (σ : Nat → Nat → Int32) (d : Nat → Nat) : Prop := ∀ v, v < 7 → σ 19 v = nn (d v)
theorem row7.rX (h : row7 σ d) (h4 : ∀ v, v < 7 → d v < 4) : rX σ 19 d := ⟨fun v hv => ⟨h v (by omega), h4 v (by omega)⟩, by
  rw [h 6 (by omega)]
  exact nf_nn (by have := h4 6 (by omega); omega)⟩
theorem bad_row (ok : TOK A) (he : e < td_ne A) (hk : td_hk A kd e) (h : row7 σ d) (hb : ∀ v, v < 6 → d v < td_sz A v) (hir : td_ir A (σ 19)) : bad1 A kd e d = (td_rt A (decide (td_ma A e = 0)) d && (td_en A e (σ 19) && !td_k0 A kd e (σ 19))) := by
  have a : ag (fun _ => true) (rd d (d 6)) (σ 19) := fun v hv _ => by
    rw [h v (by omega)]
    unfold rd
    by_cases c : v = 6
    · rw [if_pos c, c]
    · rw [if_neg c]
  unfold bad1
  rw [kp_ag (M := fun _ => true) ok he hk (fun _ _ => rfl) a (rd_ir ok hb) hir]
  unfold td_kp
  cases td_en A e (σ 19) <;> cases td_k0 A kd e (σ 19) <;> rfl
theorem s_17L (hdy : dy.length < 100000) (ok : TOK A) (he : e < td_ne A) (hK : ∀ kd, kd < 7 → K kd = true → td_dk A kd e = true) : ∀ (n k : Nat) {σ : Nat → Nat → Int32} {τ : Nat → Nat → Int64} {y : Int32} {d : Nat → Nat} {M : Nat → Bool} {l5 l6 : Option Value} {Q : am_A → am_H → Prop}, k + n = pd (li A e) 7 → (k < pd (li A e) 7 → vl (li A e) 7 d = k) → bx (li A e) 7 d → RepX A F E dy σ ρ → CX A τ → row7 σ d → σ 18 3 = nn (pd (li A e) 7) → (∀ v, v < 7 → σ 20 v = nn (li A e v)) → bt y M → (∀ kd, kd < 7 → (M kd = true ↔ K kd = true ∧ ∀ D, bx (li A e) 7 D → vl (li A e) 7 D < k → bad1 A kd e D = false)) → (∃ kd, kd < 7 ∧ M kd = true) →
    (∀ σ' τ' D, fD dy σ σ' → tE τ τ' → CX A τ' → row7 σ' D → (∃ kd, kd < 7 ∧ K kd = true ∧ LST (bad1 A kd e) (li A e) D) → (∀ kd, kd < 7 → K kd = true → ∃ D', bx (li A e) 7 D' ∧ bad1 A kd e D' = true) → Q (.inl (some (.int (nn 0)))) (mk dy σ' ρ τ')) →
    (∀ σ' τ' y M', fD dy σ σ' → tE τ τ' → CX A τ' → bt y M' → (∀ kd, kd < 7 → (M' kd = true ↔ K kd = true ∧ ∀ D, bx (li A e) 7 D → bad1 A kd e D = false)) → (∃ kd, kd < 7 ∧ M' kd = true) → Q (.inl (some (.int y))) (mk dy σ' ρ τ')) →
    go (tb_P L xs) 17 18 [some (.ref 18), some (.ref (E e)), some (.int x), some (.int y), some (.int (nn k)), l5, l6] [] (mk dy σ ρ τ) Q := by
  have hl4 := li_4 ok he
  have hpd := pd_4 7 hl4
  have hpd2 : pd (li A e) 7 ≤ 16384 := hpd.2
  intro n
  induction n with
  | zero =>
    intro k σ τ y d M l5 l6 Q hk hvl hd hX hC hrow h3 h20 hy hM hN kA kB
    refine g_iload k17_18 rfl ?_
    refine g_aload_n k17_20 rfl ?_
    refine m_get k17_21 f17_21 rfl rfl ?_
    rw [h3]
    refine g_icge_t k17_24 (t := 120) rfl (by rw [nn_toInt (by omega), nn_toInt (by omega)]; omega) ?_
    refine g_iload_n k17_120 rfl ?_
    refine g_ireturn k17_121 t17 ?_
    refine kB σ τ y M (fD.rf σ) (tE.rf τ) hC hy (fun kd hkd => ?_) hN
    rw [hM kd hkd]
    refine and_congr_right (fun _ => ⟨fun h D hD => h D hD ?_, fun h D hD _ => h D hD⟩)
    have := vl_lt 7 hD
    omega
  | succ n ih =>
    intro k σ τ y d M l5 l6 Q hk hvl hd hX hC hrow h3 h20 hy hM hN kA kB
    have hvk := hvl (by omega)
    have hd4 : ∀ v, v < 7 → d v < 4 := fun v hv => by have := hd v hv; have := (hl4 v hv).2; omega
    have hrX := hrow.rX hd4
    have hb : ∀ v, v < 6 → d v < td_sz A v := fl1_sz ok (li_fl ok he hd)
    have hir := hrX.ir ok hb
    obtain ⟨⟨h47, hA8, hA3⟩, hma, _⟩ := (hX.2.1.2.1 e he).2
    have hm1 := (ok.2.2.2.1 e he).1
    have hMd : ∀ kd, kd < 7 → M kd = true → td_dk A kd e = true := fun kd h1 h2 => hK kd h1 ((hM kd h1).mp h2).1
    have hbr : ∀ kd, kd < 7 → M kd = true → bad1 A kd e d = (td_rt A (decide (td_ma A e = 0)) d && (td_en A e (σ 19) && !td_k0 A kd e (σ 19))) := fun kd h1 h2 => bad_row ok he (dk_hk (hMd kd h1 h2)) hrow hb hir
    have same : ∀ kd D, kd < 7 → K kd = true → bx (li A e) 7 D → vl (li A e) 7 D = k → bad1 A kd e D = bad1 A kd e d := fun kd D h1 h2 h3 h4 => bad1_ind ok he (dk_hk (hK kd h1 h2)) (li_fl ok he h3) (li_fl ok he hd) (fun v hv _ => vl_inj h3 hd (by omega) v hv)
    have tail : ∀ (σ1 : Nat → Nat → Int32) (τ1 : Nat → Nat → Int64) (y1 : Int32) (l5 l6 : Option Value), fL dy σ σ1 → tE τ τ1 → CX A τ1 → bt y1 (fun kd => M kd && !bad1 A kd e d) → go (tb_P L xs) 17 104 [some (.ref 18), some (.ref (E e)), some (.int x), some (.int y1), some (.int (nn k)), l5, l6] [] (mk dy σ1 ρ τ1) Q := by
      intro σ1 τ1 y1 l5 l6 hs1 ht1 hC1 hy1
      have r1 : row7 σ1 d := fun v hv => by rw [hs1 19 (by omega) (by omega) (Or.inl (by omega))]; exact hrow v hv
      refine g_iload_n k17_104 rfl ?_
      refine g_ifneT k17_105 (t := 110) rfl (fun h105 => ?_) (fun h105 => ?_)
      · skip
        refine g_aload_n k17_110 rfl ?_
        refine m_callV0 k17_111 s17_111 c17_111 l31 (by omega) trivial rfl r17_111 rfl ?_
        refine s_31 (lim := li A e) (d := d) hdy (fun v hv => (hl4 v hv).2) (fun v hv => by rw [hs1 20 (by omega) (by omega) (Or.inl (by omega))]; exact h20 v hv) r1 hd (fun σ2 hs2 hr2 => ?_)
        refine af_void ?_
        refine g_iincN k17_114 rfl rfl rfl ?_
        refine g_goto k17_117 (t := 18) rfl ?_
        obtain ⟨c1, c2, c3⟩ := ct_vl (sz := li A e) 7 hd
        refine ih (k + 1) (d := (ct (li A e) 7 d).2) (by omega) (fun hlt => ?_) c1 (hX.agr ok (hs1.fD.tr (f19 hs2)).ag) hC1 hr2 (by rw [hs2 18 (by omega), hs1 18 (by omega) (by omega) (Or.inl (by omega))]; exact h3) (fun v hv => by rw [hs2 20 (by omega), hs1 20 (by omega) (by omega) (Or.inl (by omega))]; exact h20 v hv) hy1 (fun kd hkd => ?_) ?_ (fun σ' τ' D g1 g2 g3 g4 g5 g6 => kA σ' τ' D ((hs1.fD.tr (f19 hs2)).tr g1) (ht1.tr g2) g3 g4 g5 g6) (fun σ' τ' y M' g1 g2 g3 g4 g5 g6 => kB σ' τ' y M' ((hs1.fD.tr (f19 hs2)).tr g1) (ht1.tr g2) g3 g4 g5 g6)
        · cases hct : (ct (li A e) 7 d).1 with
          | true => rw [c2 hct, hvk]
          | false =>
            have := (c3 hct).1
            omega
        · rw [Bool.and_eq_true, hM kd hkd]
          constructor
          · rintro ⟨⟨q1, q2⟩, q3⟩
            refine ⟨q1, fun D hD hlt => ?_⟩
            by_cases c : vl (li A e) 7 D = k
            · rw [same kd D hkd q1 hD c]
              simpa using q3
            · exact q2 D hD (by omega)
          · rintro ⟨q1, q2⟩
            refine ⟨⟨q1, fun D hD hlt => q2 D hD (by omega)⟩, ?_⟩
            rw [q2 d hd (by omega)]
            rfl
        · refine Classical.byContradiction (fun hx => h105 ((bt_z hy1).mpr (fun v hv => ?_)))
          cases hbv : (M v && !bad1 A v e d) with
          | false => rfl
          | true => exact absurd ⟨v, hv, hbv⟩ hx
      · skip
        refine g_iconst (v := nn 0) k17_108 ci_0 ?_
        refine g_ireturn k17_109 t17 ?_
        have hz := (bt_z hy1).mp h105
        refine kA σ1 τ1 d hs1.fD ht1 hC1 r1 ?_ (fun kd hkd hKk => ?_)
        · obtain ⟨kd, hkd, hMk⟩ := hN
          obtain ⟨q1, q2⟩ := (hM kd hkd).mp hMk
          have hbd : bad1 A kd e d = true := by
            have := hz kd hkd
            rw [hMk, Bool.true_and] at this
            simpa using this
          refine ⟨kd, hkd, q1, hd, hbd, fun D hD hbD hlx => ?_⟩
          have hlt := vl_lx 7 hD hd hlx
          rw [q2 D hD (by omega)] at hbD
          cases hbD
        · by_cases hMk : M kd = true
          · have := hz kd hkd
            rw [hMk, Bool.true_and] at this
            exact ⟨d, hd, by simpa using this⟩
          · have hne := mt (hM kd hkd).mpr hMk
            refine Classical.byContradiction (fun hx => hne ⟨hKk, fun D hD _ => ?_⟩)
            cases hbD : bad1 A kd e D with
            | false => rfl
            | true => exact absurd ⟨D, hD, hbD⟩ hx
    refine g_iload k17_18 rfl ?_
    refine g_aload_n k17_20 rfl ?_
    refine m_get k17_21 f17_21 rfl rfl ?_
    rw [h3]
    refine g_icge_f k17_24 (t := 120) rfl (by rw [nn_toInt (by omega), nn_toInt (by omega)]; omega) ?_
    refine g_aload_n k17_27 rfl ?_
    refine m_get k17_28 f17_28 rfl rfl ?_
    refine m_get k17_31 f17_31 rfl rfl ?_
    refine g_aload_n k17_34 rfl ?_
    refine m_get k17_35 f17_35 (by assumption) rfl ?_
    rw [hma]
    refine g_aload_n k17_38 rfl ?_
    refine m_get k17_39 f17_39 rfl rfl ?_
    refine m_callV2 k17_42 s17_42 c17_42 l9 (by omega) ⟨rfl, rfl⟩ rfl r17_42 rfl ?_
    refine s_9 hdy ok hX hC (by omega) (by omega) rfl hrX (fun σ1 τ1 hs1 ht1 hC1 => ?_)
    refine af_ret ?_
    refine g_ifeqB k17_45 (t := 104) rfl (fun h45 => ?_) (fun h45 => ?_)
    · skip
      first
        | (refine tail σ2 τ1 y _ _ (hs1.tr hs2).fL ht1 hC1 (bt_congr hy (fun kd hkd => ?_))
           cases hMk : M kd with
           | false => rfl
           | true =>
             have h56' : td_en A e (σ 19) = false := by simpa using h56
             rw [hbr kd hkd hMk, h56', Bool.false_and, Bool.and_false]
             rfl)
        | (refine tail σ1 τ1 y _ _ hs1.fL ht1 hC1 (bt_congr hy (fun kd hkd => ?_))
           cases hMk : M kd with
           | false => rfl
           | true =>
             have h45' : td_rt A (decide (td_ma A e = 0)) d = false := by simpa using h45
             rw [hbr kd hkd hMk, h45', Bool.false_and]
             rfl)
    · skip
      refine g_aload_n k17_48 rfl ?_
      refine g_aload_n k17_49 rfl ?_
      refine m_get k17_50 f17_50 rfl rfl ?_
      refine m_callV1 k17_53 s17_53 c17_53 l23 (by omega) rfl rfl r17_53 (by assumption) ?_
      refine s_23 hdy ok (hX.agr ok hs1.ag) he (by omega) rfl (by rw [hs1.st (by omega)]; exact hrX.nf) (fun σ2 hs2 => ?_)
      refine af_ret ?_
      rw [hs1.st (show (19 : Nat) < 47 by omega)]
      refine g_ifeqB k17_56 (t := 104) rfl (fun h56 => ?_) (fun h56 => ?_)
      · skip
        first
          | (refine tail σ2 τ1 y _ _ (hs1.tr hs2).fL ht1 hC1 (bt_congr hy (fun kd hkd => ?_))
             cases hMk : M kd with
             | false => rfl
             | true =>
               have h56' : td_en A e (σ 19) = false := by simpa using h56
               rw [hbr kd hkd hMk, h56', Bool.false_and, Bool.and_false]
               rfl)
          | (refine tail σ1 τ1 y _ _ hs1.fL ht1 hC1 (bt_congr hy (fun kd hkd => ?_))
             cases hMk : M kd with
             | false => rfl
             | true =>
               have h45' : td_rt A (decide (td_ma A e = 0)) d = false := by simpa using h45
               rw [hbr kd hkd hMk, h45', Bool.false_and]
               rfl)
      · skip
        refine g_iconst (v := nn 1) k17_59 ci_1 ?_
        refine g_istore k17_60 rfl rfl ?_
        have e19 : σ2 19 = σ 19 := by rw [hs2.st (by omega), hs1.st (by omega)]
        refine s_17K hdy ok he hb 5 1 (by omega) (by omega) (hX.agr ok (hs1.tr hs2).ag) hC1 (by unfold rX; rw [e19]; exact hrX) hy hMd (fun σ3 τ3 y3 l5 l6 hs3 ht3 hC3 hy3 => tail σ3 τ3 y3 l5 l6 ((hs1.tr hs2).fL.tr hs3) (ht1.tr ht3) hC3 (bt_congr hy3 (fun kd hkd => ?_)))
        cases hMk : M kd with
        | false => rfl
        | true =>
          have h15 := dk_15 (hMd kd hkd hMk)
          rw [e19, hbr kd hkd hMk, h45, h56, decide_eq_true h15]
          cases td_k0 A kd e (σ 19) <;> rfl
theorem s_17 (hdy : dy.length < 100000) (ok : TOK A) (hX : RepX A F E dy σ ρ) (hC : CX A τ) (he : e < td_ne A) (hx : bt x K) (hK : ∀ kd, kd < 7 → K kd = true → td_dk A kd e = true) (hN : ∃ kd, kd < 7 ∧ K kd = true) (kA : ∀ σ' τ' D, fD dy σ σ' → tE τ τ' → CX A τ' → row7 σ' D → (∃ kd, kd < 7 ∧ K kd = true ∧ LST (bad1 A kd e) (li A e) D) → (∀ kd, kd < 7 → K kd = true → ∃ D', bx (li A e) 7 D' ∧ bad1 A kd e D' = true) → Q (.inl (some (.int (nn 0)))) (mk dy σ' ρ τ')) (kB : ∀ σ' τ' y M', fD dy σ σ' → tE τ τ' → CX A τ' → bt y M' → (∀ kd, kd < 7 → (M' kd = true ↔ K kd = true ∧ ∀ D, bx (li A e) 7 D → bad1 A kd e D = false)) → (∃ kd, kd < 7 ∧ M' kd = true) → Q (.inl (some (.int y))) (mk dy σ' ρ τ')) : go (tb_P L xs) 17 0 [some (.ref 18), some (.ref (E e)), some (.int x), none, none, none, none] [] (mk dy σ ρ τ) Q := by
  obtain ⟨⟨h47, hA8, hA3⟩, hma, hrg, _⟩ := (hX.2.1.2.1 e he).2
  have hr4 := (ok.2.2.2.1 e he).2.1
  have hl4 := li_4 ok he
  refine g_aload_n k17_0 rfl ?_
  refine g_aload_n k17_1 rfl ?_
  refine g_aload_n k17_2 rfl ?_
  refine m_callV1 k17_3 s17_3 c17_3 l18 (by omega) rfl rfl r17_3 rfl ?_
  refine s_18 hdy ok hX he (fun y hy => ?_)
  refine af_ret ?_
  refine g_aload_n k17_6 rfl ?_
  refine m_get k17_7 f17_7 (by assumption) rfl ?_
  rw [hrg]
  refine m_callV2 k17_10 s17_10 c17_10 l22 (by omega) ⟨rfl, rfl⟩ rfl r17_10 rfl ?_
  refine s_22 (rg := td_rg A e) hdy ok hX hr4 hy (fun σ1 hs1 h3 hr1 => ?_)
  refine af_void ?_
  refine g_iload_n k17_13 rfl ?_
  refine g_istore_n k17_14 rfl rfl ?_
  refine g_iconst (v := nn 0) k17_15 ci_0 ?_
  refine g_istore k17_16 rfl rfl ?_
  refine s_17L (K := K) hdy ok he hK (pd (li A e) 7) 0 (d := fun _ => 0) (M := K) (by omega) (fun _ => vl_zero 7 (fun _ _ => rfl)) (fun v hv => by have := (hl4 v hv).1; show 0 < li A e v; omega) (hX.agr ok hs1.ag) hC (fun v hv => (hr1 v hv).1) h3 (fun v hv => (hr1 v hv).2) hx (fun kd hkd => ⟨fun h => ⟨h, fun D _ q => absurd q (by omega)⟩, fun h => h.1⟩) hN (fun σ' τ' D g1 g2 g3 g4 g5 g6 => kA σ' τ' D (hs1.fD.tr g1) g2 g3 g4 g5 g6) (fun σ' τ' y M' g1 g2 g3 g4 g5 g6 => kB σ' τ' y M' (hs1.fD.tr g1) g2 g3 g4 g5 g6)
end YG
