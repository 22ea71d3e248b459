/-! The reference: a formula is told. -/
section LT
variable {L : Nat} {xs : Nat → Int32} {Q : am_A → am_H → Prop} {dy : List (Nat × Nat)} {σ σ' : Nat → Nat → Int32} {ρ : Nat → Nat → Option Nat} {τ : Nat → Nat → Int64} {A : TD} {W : RS} {x z w : Int32} {ws : Nat → Int32}
/-- a formula is told -/
def td_af (A : TD) (n : Nat) (ws : Nat → Int32) (t : Bool) : TD := ((td_nf A + 1, (fun f => if f = td_nf A then n else td_ln A f), (fun f => if f = td_nf A then ws else td_fw A f), fun f => if f = td_nf A then t else td_ft A f), A.2)
def h40 (ws : Nat → Int32) (n : Nat) : Bool := (List.range n).any (fun i => decide ((ws i).toInt = 40))
def h23 (ws : Nat → Int32) (n : Nat) : Bool := (List.range n).any (fun i => decide (22 < (ws i).toInt ∧ (ws i).toInt < 26))
theorem af_hp {n f : Nat} {t : Bool} : td_hp (td_af A n ws t) f = if f = td_nf A then h40 ws n else td_hp A f := by
  show (List.range (if f = td_nf A then n else td_ln A f)).any (fun i => decide (((if f = td_nf A then ws else td_fw A f) i).toInt = 40)) = _
  by_cases h : f = td_nf A
  · rw [if_pos h, if_pos h, if_pos h]
    rfl
  · rw [if_neg h, if_neg h, if_neg h]
    rfl
theorem af_hl {n f : Nat} {t : Bool} : td_hl (td_af A n ws t) f = if f = td_nf A then h23 ws n else td_hl A f := by
  show (List.range (if f = td_nf A then n else td_ln A f)).any (fun i => decide (22 < ((if f = td_nf A then ws else td_fw A f) i).toInt ∧ ((if f = td_nf A then ws else td_fw A f) i).toInt < 26)) = _
  by_cases h : f = td_nf A
  · rw [if_pos h, if_pos h, if_pos h]
    rfl
  · rw [if_neg h, if_neg h, if_neg h]
    rfl
theorem RepM.af {n : Nat} {t : Bool} (ok : TOK A) (hR : RepM A σ) (h5 : σ' 24 5 = nn (td_nf A + 1)) (g28 : σ' 28 (td_nf A) = nn n) (g29 : ∀ i, i < n → σ' 29 (24 * td_nf A + i) = ws i) (g30 : σ' 30 (td_nf A) = bb (t = true)) (g31 : σ' 31 (td_nf A) = bb (h40 ws n = true)) (g32 : σ' 32 (td_nf A) = bb (h23 ws n = true)) (hs : ∀ a k, ((a = 28 ∨ a = 30 ∨ a = 31 ∨ a = 32) ∧ k < td_nf A) ∨ (a = 29 ∧ k < 24 * td_nf A) ∨ (a = 25 ∨ a = 26 ∨ (33 ≤ a ∧ a ≤ 40)) ∨ (a = 24 ∧ (k = 11 ∨ k = 20)) → σ' a k = σ a k) : RepM (td_af A n ws t) σ' := by
  obtain ⟨⟨a1, a2⟩, ⟨b1, b2⟩, c1, ⟨d1, d2⟩, e1, f1⟩ := hR
  have q : ∀ a k, a = 25 ∨ a = 26 ∨ (33 ≤ a ∧ a ≤ 40) → σ' a k = σ a k := fun a k g => hs a k (Or.inr (Or.inr (Or.inl g)))
  refine ⟨⟨h5, fun f hf => ?_⟩, ⟨by rw [hs 24 11 (by omega)]; exact b1, fun e he => ?_⟩, fun e v he hv => by rw [q 37 _ (by decide)]; exact c1 e v he hv, ⟨fun m hm => by rw [q 39 _ (by decide)]; exact d1 m hm, fun m i hm hi => by rw [q 40 _ (by decide)]; exact d2 m i hm hi⟩, by rw [hs 24 20 (by omega)]; exact e1, fun v hv => by rw [q 25 _ (by decide), q 26 _ (by decide)]; exact f1 v hv⟩
  · have hf : f < td_nf A + 1 := hf
    rw [af_hp, af_hl]
    show σ' 28 f = nn (if f = td_nf A then n else td_ln A f) ∧ (∀ i, i < (if f = td_nf A then n else td_ln A f) → σ' 29 (24 * f + i) = (if f = td_nf A then ws else td_fw A f) i) ∧ σ' 30 f = bb ((if f = td_nf A then t else td_ft A f) = true) ∧ _
    by_cases h : f = td_nf A
    · rw [if_pos h, if_pos h, if_pos h, if_pos h, if_pos h, h]
      exact ⟨g28, g29, g30, g31, g32⟩
    · rw [if_neg h, if_neg h, if_neg h, if_neg h, if_neg h]
      have h24 := (ok.2.1 f (by omega)).1.2
      obtain ⟨p1, p2, p3, p4, p5⟩ := a2 f (by omega)
      refine ⟨by rw [hs 28 f (by omega)]; exact p1, fun i hi => by rw [hs 29 _ (by omega)]; exact p2 i hi, by rw [hs 30 f (by omega)]; exact p3, by rw [hs 31 f (by omega)]; exact p4, by rw [hs 32 f (by omega)]; exact p5⟩
  · obtain ⟨g1, g2, g3, g4, g5⟩ := b2 e he
    exact ⟨by rw [q 33 _ (by decide)]; exact g1, by rw [q 34 _ (by decide)]; exact g2, by rw [q 35 _ (by decide)]; exact g3, by rw [q 36 _ (by decide)]; exact g4, by rw [q 38 _ (by decide)]; exact g5⟩
def rs_cl (W : RS) : RS := ((0, rs_w W), W.2)
theorem h40_s (i : Nat) : h40 ws (i + 1) = (h40 ws i || decide ((ws i).toInt = 40)) := by
  unfold h40
  rw [List.range_succ, List.any_append]
  simp
theorem h23_s (i : Nat) : h23 ws (i + 1) = (h23 ws i || decide (22 < (ws i).toInt ∧ (ws i).toInt < 26)) := by
  unfold h23
  rw [List.range_succ, List.any_append]
  simp
/-- where the words are laid down -/
def fo_S (F : Nat) (σ σ' : Nat → Nat → Int32) : Prop := ∀ a k, (a ≠ 31 ∨ k ≠ F) → (a ≠ 32 ∨ k ≠ F) → (a ≠ 29 ∨ k < 24 * F) → σ' a k = σ a k
theorem fo_S.tr {F : Nat} {σ σ1 σ2 : Nat → Nat → Int32} (h1 : fo_S F σ σ1) (h2 : fo_S F σ1 σ2) : fo_S F σ σ2 := fun a k g1 g2 g3 => (h2 a k g1 g2 g3).trans (h1 a k g1 g2 g3)
theorem s_108L {n F : Nat} (hdy : dy.length < 100000) (hn : n ≤ 24) (hF : F < 30) : ∀ (k i : Nat) {σ : Nat → Nat → Int32} {Q : am_A → am_H → Prop}, i + k = n → σ 24 3 = nn n → (∀ j, j < n → σ 27 j = ws j) → (∀ j, j < i → σ 29 (24 * F + j) = ws j) → σ 31 F = bb (h40 ws i = true) → σ 32 F = bb (h23 ws i = true) → (∀ σ', fo_S F σ σ' → (∀ j, j < n → σ' 29 (24 * F + j) = ws j) → σ' 31 F = bb (h40 ws n = true) → σ' 32 F = bb (h23 ws n = true) → go (tb_P L xs) 108 202 [some (.ref 24), some (.int (nn F)), some (.int (nn n))] [] (mk dy σ' ρ τ) Q) → go (tb_P L xs) 108 98 [some (.ref 24), some (.int (nn F)), some (.int (nn i))] [] (mk dy σ ρ τ) Q := by
  intro k
  induction k with
  | zero =>
    intro i σ Q hi h3 hw ht h31 h32 kk
    have : i = n := by omega
    subst this
    refine g_iload_n k108_98 rfl ?_
    refine g_aload_n k108_99 rfl ?_
    refine m_get k108_100 f108_100 rfl rfl ?_
    rw [h3]
    refine g_icge_t k108_103 (t := 202) rfl (by rw [nn_toInt (by omega)]; omega) ?_
    exact kk σ (fun _ _ _ _ _ => rfl) ht h31 h32
  | succ k ih =>
    intro i σ Q hi h3 hw ht h31 h32 kk
    have e27 : ∀ s : Nat → Nat → Int32, fo_S F σ s → s 27 i = ws i := fun s hs => (hs 27 i (by omega) (by omega) (by omega)).trans (hw i (by omega))
    have s1 : fo_S F σ (up2 σ 29 (24 * F + i) (ws i)) := fun a q g1 g2 g3 => up2_ne (by omega)
    have nxt : ∀ b1 b2 : Bool, b1 = h40 ws (i + 1) → b2 = h23 ws (i + 1) → go (tb_P L xs) 108 98 [some (.ref 24), some (.int (nn F)), some (.int (nn (i + 1)))] [] (mk dy (up2 (up2 (up2 σ 29 (24 * F + i) (ws i)) 31 F (bb (b1 = true))) 32 F (bb (b2 = true))) ρ τ) Q := by
      intro b1 b2 hb1 hb2
      subst hb1 hb2
      have s2 : fo_S F σ (up2 (up2 (up2 σ 29 (24 * F + i) (ws i)) 31 F (bb (h40 ws (i + 1) = true))) 32 F (bb (h23 ws (i + 1) = true))) := fun a q g1 g2 g3 => by rw [up2_ne (by omega), up2_ne (by omega), up2_ne (by omega)]
      refine ih (i + 1) (by omega) h3 (fun j hj => ?_) (fun j hj => ?_) ?_ up2_at (fun σ' g1 g2 g3 g4 => kk σ' (s2.tr g1) g2 g3 g4)
      · rw [up2_ne (by omega), up2_ne (by omega), up2_ne (by omega)]
        exact hw j hj
      · rw [up2_ne (by omega), up2_ne (by omega), up2_of]
        by_cases c : 24 * F + j = 24 * F + i
        · rw [if_pos c, show j = i by omega]
        · rw [if_neg c]
          exact ht j (by omega)
      · rw [up2_ne (by omega), up2_at]
    have p31 : ∀ x, up2 (up2 σ 29 (24 * F + i) (ws i)) 31 F x 32 F = bb (h23 ws i = true) := fun x => by
      rw [up2_ne (by omega), up2_ne (by omega)]
      exact h32
    have q27 : ∀ x, up2 (up2 σ 29 (24 * F + i) (ws i)) 31 F x 27 i = ws i := fun x => by
      rw [up2_ne (by omega), up2_ne (by omega)]
      exact hw i (by omega)
    have t40 := ti_40
    have t22 := ti_22
    have t26 := ti_26
    refine g_iload_n k108_98 rfl ?_
    refine g_aload_n k108_99 rfl ?_
    refine m_get k108_100 f108_100 rfl rfl ?_
    rw [h3]
    refine g_icge_f k108_103 (t := 202) rfl (by rw [nn_toInt (by omega), nn_toInt (by omega)]; omega) ?_
    refine g_aload_n k108_106 rfl ?_
    refine m_get k108_107 f108_107 rfl rfl ?_
    refine g_bipush (v := nn 24) k108_110 cb_24 ?_
    refine g_iload_n k108_112 rfl ?_
    refine g_imulN k108_113 ?_
    refine g_iload_n k108_114 rfl ?_
    refine g_iaddN k108_115 ?_
    refine g_aload_n k108_116 rfl ?_
    refine m_get k108_117 f108_117 rfl rfl ?_
    refine g_iload_n k108_120 rfl ?_
    refine m_iald k108_121 hdy rfl rfl (by omega) (by omega) ?_
    rw [e27 σ (fun _ _ _ _ _ => rfl)]
    refine m_iast k108_122 rfl rfl (by omega) (by omega) ?_
    refine g_aload_n k108_123 rfl ?_
    refine m_get k108_124 f108_124 rfl rfl ?_
    refine g_iload_n k108_127 rfl ?_
    refine g_aload_n k108_128 rfl ?_
    refine m_get k108_129 f108_129 rfl rfl ?_
    refine g_iload_n k108_132 rfl ?_
    refine m_bald k108_133 rfl rfl (by omega) (by omega) ?_
    rw [show up2 σ 29 (24 * F + i) (ws i) 31 F = bb (h40 ws i = true) from h31]
    refine g_ifneB k108_134 (t := 148) rfl (fun h134 => ?_) (fun h134 => ?_)
    · skip
      refine g_iconst (v := nn 1) k108_148 ci_1 ?_
      refine g_goto k108_149 (t := 153) rfl ?_
      refine m_bast k108_153 rfl rfl (by omega) (by omega) (by decide) ?_
      refine g_aload_n k108_154 rfl ?_
      refine m_get k108_155 f108_155 rfl rfl ?_
      refine g_iload_n k108_158 rfl ?_
      refine g_aload_n k108_159 rfl ?_
      refine m_get k108_160 f108_160 rfl rfl ?_
      refine g_iload_n k108_163 rfl ?_
      refine m_bald k108_164 rfl rfl (by omega) (by omega) ?_
      rw [p31]
      refine g_ifneB k108_165 (t := 190) rfl (fun h165 => ?_) (fun h165 => ?_)
      · skip
        refine g_iconst (v := nn 1) k108_190 ci_1 ?_
        refine g_goto k108_191 (t := 195) rfl ?_
        refine m_bast k108_195 rfl rfl (by omega) (by omega) (by decide) ?_
        refine g_iincN k108_196 rfl rfl rfl ?_
        refine g_goto k108_199 (t := 98) rfl ?_
        first
          | (refine nxt true true ?_ ?_
             · rw [h40_s]; rw [h134, Bool.true_or]
             · rw [h23_s]; rw [h165, Bool.true_or])
          | (refine nxt true true ?_ ?_
             · rw [h40_s]; rw [h134, Bool.true_or]
             · rw [h23_s]; rw [decide_eq_true (show 22 < (ws i).toInt ∧ (ws i).toInt < 26 by omega), Bool.or_true])
          | (refine nxt true false ?_ ?_
             · rw [h40_s]; rw [h134, Bool.true_or]
             · rw [h23_s]; rw [show h23 ws i = false by simpa using h165, decide_eq_false (show ¬ (22 < (ws i).toInt ∧ (ws i).toInt < 26) by omega)]; rfl)
          | (refine nxt true true ?_ ?_
             · rw [h40_s]; rw [decide_eq_true (show (ws i).toInt = 40 by omega), Bool.or_true]
             · rw [h23_s]; rw [h165, Bool.true_or])
          | (refine nxt true true ?_ ?_
             · rw [h40_s]; rw [decide_eq_true (show (ws i).toInt = 40 by omega), Bool.or_true]
             · rw [h23_s]; rw [decide_eq_true (show 22 < (ws i).toInt ∧ (ws i).toInt < 26 by omega), Bool.or_true])
          | (refine nxt true false ?_ ?_
             · rw [h40_s]; rw [decide_eq_true (show (ws i).toInt = 40 by omega), Bool.or_true]
             · rw [h23_s]; rw [show h23 ws i = false by simpa using h165, decide_eq_false (show ¬ (22 < (ws i).toInt ∧ (ws i).toInt < 26) by omega)]; rfl)
          | (refine nxt false true ?_ ?_
             · rw [h40_s]; rw [show h40 ws i = false by simpa using h134, decide_eq_false (show ¬ (ws i).toInt = 40 by omega)]; rfl
             · rw [h23_s]; rw [h165, Bool.true_or])
          | (refine nxt false true ?_ ?_
             · rw [h40_s]; rw [show h40 ws i = false by simpa using h134, decide_eq_false (show ¬ (ws i).toInt = 40 by omega)]; rfl
             · rw [h23_s]; rw [decide_eq_true (show 22 < (ws i).toInt ∧ (ws i).toInt < 26 by omega), Bool.or_true])
          | (refine nxt false false ?_ ?_
             · rw [h40_s]; rw [show h40 ws i = false by simpa using h134, decide_eq_false (show ¬ (ws i).toInt = 40 by omega)]; rfl
             · rw [h23_s]; rw [show h23 ws i = false by simpa using h165, decide_eq_false (show ¬ (22 < (ws i).toInt ∧ (ws i).toInt < 26) by omega)]; rfl)
      · skip
        refine g_aload_n k108_168 rfl ?_
        refine m_get k108_169 f108_169 rfl rfl ?_
        refine g_iload_n k108_172 rfl ?_
        refine m_iald k108_173 hdy rfl rfl (by omega) (by omega) ?_
        rw [q27]
        refine g_bipush (v := nn 22) k108_174 cb_22 ?_
        refine g_icle k108_176 (t := 194) rfl (fun h176 => ?_) (fun h176 => ?_)
        · skip
          refine g_iconst (v := nn 0) k108_194 ci_0 ?_
          refine m_bast k108_195 rfl rfl (by omega) (by omega) (by decide) ?_
          refine g_iincN k108_196 rfl rfl rfl ?_
          refine g_goto k108_199 (t := 98) rfl ?_
          first
            | (refine nxt true true ?_ ?_
               · rw [h40_s]; rw [h134, Bool.true_or]
               · rw [h23_s]; rw [h165, Bool.true_or])
            | (refine nxt true true ?_ ?_
               · rw [h40_s]; rw [h134, Bool.true_or]
               · rw [h23_s]; rw [decide_eq_true (show 22 < (ws i).toInt ∧ (ws i).toInt < 26 by omega), Bool.or_true])
            | (refine nxt true false ?_ ?_
               · rw [h40_s]; rw [h134, Bool.true_or]
               · rw [h23_s]; rw [show h23 ws i = false by simpa using h165, decide_eq_false (show ¬ (22 < (ws i).toInt ∧ (ws i).toInt < 26) by omega)]; rfl)
            | (refine nxt true true ?_ ?_
               · rw [h40_s]; rw [decide_eq_true (show (ws i).toInt = 40 by omega), Bool.or_true]
               · rw [h23_s]; rw [h165, Bool.true_or])
            | (refine nxt true true ?_ ?_
               · rw [h40_s]; rw [decide_eq_true (show (ws i).toInt = 40 by omega), Bool.or_true]
               · rw [h23_s]; rw [decide_eq_true (show 22 < (ws i).toInt ∧ (ws i).toInt < 26 by omega), Bool.or_true])
            | (refine nxt true false ?_ ?_
               · rw [h40_s]; rw [decide_eq_true (show (ws i).toInt = 40 by omega), Bool.or_true]
               · rw [h23_s]; rw [show h23 ws i = false by simpa using h165, decide_eq_false (show ¬ (22 < (ws i).toInt ∧ (ws i).toInt < 26) by omega)]; rfl)
            | (refine nxt false true ?_ ?_
               · rw [h40_s]; rw [show h40 ws i = false by simpa using h134, decide_eq_false (show ¬ (ws i).toInt = 40 by omega)]; rfl
               · rw [h23_s]; rw [h165, Bool.true_or])
            | (refine nxt false true ?_ ?_
               · rw [h40_s]; rw [show h40 ws i = false by simpa using h134, decide_eq_false (show ¬ (ws i).toInt = 40 by omega)]; rfl
               · rw [h23_s]; rw [decide_eq_true (show 22 < (ws i).toInt ∧ (ws i).toInt < 26 by omega), Bool.or_true])
            | (refine nxt false false ?_ ?_
               · rw [h40_s]; rw [show h40 ws i = false by simpa using h134, decide_eq_false (show ¬ (ws i).toInt = 40 by omega)]; rfl
               · rw [h23_s]; rw [show h23 ws i = false by simpa using h165, decide_eq_false (show ¬ (22 < (ws i).toInt ∧ (ws i).toInt < 26) by omega)]; rfl)
        · skip
          refine g_aload_n k108_179 rfl ?_
          refine m_get k108_180 f108_180 rfl rfl ?_
          refine g_iload_n k108_183 rfl ?_
          refine m_iald k108_184 hdy rfl rfl (by omega) (by omega) ?_
          rw [q27]
          refine g_bipush (v := nn 26) k108_185 cb_26 ?_
          refine g_icge k108_187 (t := 194) rfl (fun h187 => ?_) (fun h187 => ?_)
          · skip
            refine g_iconst (v := nn 0) k108_194 ci_0 ?_
            refine m_bast k108_195 rfl rfl (by omega) (by omega) (by decide) ?_
            refine g_iincN k108_196 rfl rfl rfl ?_
            refine g_goto k108_199 (t := 98) rfl ?_
            first
              | (refine nxt true true ?_ ?_
                 · rw [h40_s]; rw [h134, Bool.true_or]
                 · rw [h23_s]; rw [h165, Bool.true_or])
              | (refine nxt true true ?_ ?_
                 · rw [h40_s]; rw [h134, Bool.true_or]
                 · rw [h23_s]; rw [decide_eq_true (show 22 < (ws i).toInt ∧ (ws i).toInt < 26 by omega), Bool.or_true])
              | (refine nxt true false ?_ ?_
                 · rw [h40_s]; rw [h134, Bool.true_or]
                 · rw [h23_s]; rw [show h23 ws i = false by simpa using h165, decide_eq_false (show ¬ (22 < (ws i).toInt ∧ (ws i).toInt < 26) by omega)]; rfl)
              | (refine nxt true true ?_ ?_
                 · rw [h40_s]; rw [decide_eq_true (show (ws i).toInt = 40 by omega), Bool.or_true]
                 · rw [h23_s]; rw [h165, Bool.true_or])
              | (refine nxt true true ?_ ?_
                 · rw [h40_s]; rw [decide_eq_true (show (ws i).toInt = 40 by omega), Bool.or_true]
                 · rw [h23_s]; rw [decide_eq_true (show 22 < (ws i).toInt ∧ (ws i).toInt < 26 by omega), Bool.or_true])
              | (refine nxt true false ?_ ?_
                 · rw [h40_s]; rw [decide_eq_true (show (ws i).toInt = 40 by omega), Bool.or_true]
                 · rw [h23_s]; rw [show h23 ws i = false by simpa using h165, decide_eq_false (show ¬ (22 < (ws i).toInt ∧ (ws i).toInt < 26) by omega)]; rfl)
              | (refine nxt false true ?_ ?_
                 · rw [h40_s]; rw [show h40 ws i = false by simpa using h134, decide_eq_false (show ¬ (ws i).toInt = 40 by omega)]; rfl
                 · rw [h23_s]; rw [h165, Bool.true_or])
              | (refine nxt false true ?_ ?_
                 · rw [h40_s]; rw [show h40 ws i = false by simpa using h134, decide_eq_false (show ¬ (ws i).toInt = 40 by omega)]; rfl
                 · rw [h23_s]; rw [decide_eq_true (show 22 < (ws i).toInt ∧ (ws i).toInt < 26 by omega), Bool.or_true])
              | (refine nxt false false ?_ ?_
                 · rw [h40_s]; rw [show h40 ws i = false by simpa using h134, decide_eq_false (show ¬ (ws i).toInt = 40 by omega)]; rfl
                 · rw [h23_s]; rw [show h23 ws i = false by simpa using h165, decide_eq_false (show ¬ (22 < (ws i).toInt ∧ (ws i).toInt < 26) by omega)]; rfl)
          · skip
            refine g_iconst (v := nn 1) k108_190 ci_1 ?_
            refine g_goto k108_191 (t := 195) rfl ?_
            refine m_bast k108_195 rfl rfl (by omega) (by omega) (by decide) ?_
            refine g_iincN k108_196 rfl rfl rfl ?_
            refine g_goto k108_199 (t := 98) rfl ?_
            first
              | (refine nxt true true ?_ ?_
                 · rw [h40_s]; rw [h134, Bool.true_or]
                 · rw [h23_s]; rw [h165, Bool.true_or])
              | (refine nxt true true ?_ ?_
                 · rw [h40_s]; rw [h134, Bool.true_or]
                 · rw [h23_s]; rw [decide_eq_true (show 22 < (ws i).toInt ∧ (ws i).toInt < 26 by omega), Bool.or_true])
              | (refine nxt true false ?_ ?_
                 · rw [h40_s]; rw [h134, Bool.true_or]
                 · rw [h23_s]; rw [show h23 ws i = false by simpa using h165, decide_eq_false (show ¬ (22 < (ws i).toInt ∧ (ws i).toInt < 26) by omega)]; rfl)
              | (refine nxt true true ?_ ?_
                 · rw [h40_s]; rw [decide_eq_true (show (ws i).toInt = 40 by omega), Bool.or_true]
                 · rw [h23_s]; rw [h165, Bool.true_or])
              | (refine nxt true true ?_ ?_
                 · rw [h40_s]; rw [decide_eq_true (show (ws i).toInt = 40 by omega), Bool.or_true]
                 · rw [h23_s]; rw [decide_eq_true (show 22 < (ws i).toInt ∧ (ws i).toInt < 26 by omega), Bool.or_true])
              | (refine nxt true false ?_ ?_
                 · rw [h40_s]; rw [decide_eq_true (show (ws i).toInt = 40 by omega), Bool.or_true]
                 · rw [h23_s]; rw [show h23 ws i = false by simpa using h165, decide_eq_false (show ¬ (22 < (ws i).toInt ∧ (ws i).toInt < 26) by omega)]; rfl)
              | (refine nxt false true ?_ ?_
                 · rw [h40_s]; rw [show h40 ws i = false by simpa using h134, decide_eq_false (show ¬ (ws i).toInt = 40 by omega)]; rfl
                 · rw [h23_s]; rw [h165, Bool.true_or])
              | (refine nxt false true ?_ ?_
                 · rw [h40_s]; rw [show h40 ws i = false by simpa using h134, decide_eq_false (show ¬ (ws i).toInt = 40 by omega)]; rfl
                 · rw [h23_s]; rw [decide_eq_true (show 22 < (ws i).toInt ∧ (ws i).toInt < 26 by omega), Bool.or_true])
              | (refine nxt false false ?_ ?_
                 · rw [h40_s]; rw [show h40 ws i = false by simpa using h134, decide_eq_false (show ¬ (ws i).toInt = 40 by omega)]; rfl
                 · rw [h23_s]; rw [show h23 ws i = false by simpa using h165, decide_eq_false (show ¬ (22 < (ws i).toInt ∧ (ws i).toInt < 26) by omega)]; rfl)
    · skip
      refine g_aload_n k108_137 rfl ?_
      refine m_get k108_138 f108_138 rfl rfl ?_
      refine g_iload_n k108_141 rfl ?_
      refine m_iald k108_142 hdy rfl rfl (by omega) (by omega) ?_
      rw [e27 _ s1]
      refine g_bipush (v := nn 40) k108_143 cb_40 ?_
      refine g_icneT k108_145 (t := 152) rfl (fun h145 => ?_) (fun h145 => ?_)
      · skip
        refine g_iconst (v := nn 0) k108_152 ci_0 ?_
        refine m_bast k108_153 rfl rfl (by omega) (by omega) (by decide) ?_
        refine g_aload_n k108_154 rfl ?_
        refine m_get k108_155 f108_155 rfl rfl ?_
        refine g_iload_n k108_158 rfl ?_
        refine g_aload_n k108_159 rfl ?_
        refine m_get k108_160 f108_160 rfl rfl ?_
        refine g_iload_n k108_163 rfl ?_
        refine m_bald k108_164 rfl rfl (by omega) (by omega) ?_
        rw [p31]
        refine g_ifneB k108_165 (t := 190) rfl (fun h165 => ?_) (fun h165 => ?_)
        · skip
          refine g_iconst (v := nn 1) k108_190 ci_1 ?_
          refine g_goto k108_191 (t := 195) rfl ?_
          refine m_bast k108_195 rfl rfl (by omega) (by omega) (by decide) ?_
          refine g_iincN k108_196 rfl rfl rfl ?_
          refine g_goto k108_199 (t := 98) rfl ?_
          first
            | (refine nxt true true ?_ ?_
               · rw [h40_s]; rw [h134, Bool.true_or]
               · rw [h23_s]; rw [h165, Bool.true_or])
            | (refine nxt true true ?_ ?_
               · rw [h40_s]; rw [h134, Bool.true_or]
               · rw [h23_s]; rw [decide_eq_true (show 22 < (ws i).toInt ∧ (ws i).toInt < 26 by omega), Bool.or_true])
            | (refine nxt true false ?_ ?_
               · rw [h40_s]; rw [h134, Bool.true_or]
               · rw [h23_s]; rw [show h23 ws i = false by simpa using h165, decide_eq_false (show ¬ (22 < (ws i).toInt ∧ (ws i).toInt < 26) by omega)]; rfl)
            | (refine nxt true true ?_ ?_
               · rw [h40_s]; rw [decide_eq_true (show (ws i).toInt = 40 by omega), Bool.or_true]
               · rw [h23_s]; rw [h165, Bool.true_or])
            | (refine nxt true true ?_ ?_
               · rw [h40_s]; rw [decide_eq_true (show (ws i).toInt = 40 by omega), Bool.or_true]
               · rw [h23_s]; rw [decide_eq_true (show 22 < (ws i).toInt ∧ (ws i).toInt < 26 by omega), Bool.or_true])
            | (refine nxt true false ?_ ?_
               · rw [h40_s]; rw [decide_eq_true (show (ws i).toInt = 40 by omega), Bool.or_true]
               · rw [h23_s]; rw [show h23 ws i = false by simpa using h165, decide_eq_false (show ¬ (22 < (ws i).toInt ∧ (ws i).toInt < 26) by omega)]; rfl)
            | (refine nxt false true ?_ ?_
               · rw [h40_s]; rw [show h40 ws i = false by simpa using h134, decide_eq_false (show ¬ (ws i).toInt = 40 by omega)]; rfl
               · rw [h23_s]; rw [h165, Bool.true_or])
            | (refine nxt false true ?_ ?_
               · rw [h40_s]; rw [show h40 ws i = false by simpa using h134, decide_eq_false (show ¬ (ws i).toInt = 40 by omega)]; rfl
               · rw [h23_s]; rw [decide_eq_true (show 22 < (ws i).toInt ∧ (ws i).toInt < 26 by omega), Bool.or_true])
            | (refine nxt false false ?_ ?_
               · rw [h40_s]; rw [show h40 ws i = false by simpa using h134, decide_eq_false (show ¬ (ws i).toInt = 40 by omega)]; rfl
               · rw [h23_s]; rw [show h23 ws i = false by simpa using h165, decide_eq_false (show ¬ (22 < (ws i).toInt ∧ (ws i).toInt < 26) by omega)]; rfl)
        · skip
          refine g_aload_n k108_168 rfl ?_
          refine m_get k108_169 f108_169 rfl rfl ?_
          refine g_iload_n k108_172 rfl ?_
          refine m_iald k108_173 hdy rfl rfl (by omega) (by omega) ?_
          rw [q27]
          refine g_bipush (v := nn 22) k108_174 cb_22 ?_
          refine g_icle k108_176 (t := 194) rfl (fun h176 => ?_) (fun h176 => ?_)
          · skip
            refine g_iconst (v := nn 0) k108_194 ci_0 ?_
            refine m_bast k108_195 rfl rfl (by omega) (by omega) (by decide) ?_
            refine g_iincN k108_196 rfl rfl rfl ?_
            refine g_goto k108_199 (t := 98) rfl ?_
            first
              | (refine nxt true true ?_ ?_
                 · rw [h40_s]; rw [h134, Bool.true_or]
                 · rw [h23_s]; rw [h165, Bool.true_or])
              | (refine nxt true true ?_ ?_
                 · rw [h40_s]; rw [h134, Bool.true_or]
                 · rw [h23_s]; rw [decide_eq_true (show 22 < (ws i).toInt ∧ (ws i).toInt < 26 by omega), Bool.or_true])
              | (refine nxt true false ?_ ?_
                 · rw [h40_s]; rw [h134, Bool.true_or]
                 · rw [h23_s]; rw [show h23 ws i = false by simpa using h165, decide_eq_false (show ¬ (22 < (ws i).toInt ∧ (ws i).toInt < 26) by omega)]; rfl)
              | (refine nxt true true ?_ ?_
                 · rw [h40_s]; rw [decide_eq_true (show (ws i).toInt = 40 by omega), Bool.or_true]
                 · rw [h23_s]; rw [h165, Bool.true_or])
              | (refine nxt true true ?_ ?_
                 · rw [h40_s]; rw [decide_eq_true (show (ws i).toInt = 40 by omega), Bool.or_true]
                 · rw [h23_s]; rw [decide_eq_true (show 22 < (ws i).toInt ∧ (ws i).toInt < 26 by omega), Bool.or_true])
              | (refine nxt true false ?_ ?_
                 · rw [h40_s]; rw [decide_eq_true (show (ws i).toInt = 40 by omega), Bool.or_true]
                 · rw [h23_s]; rw [show h23 ws i = false by simpa using h165, decide_eq_false (show ¬ (22 < (ws i).toInt ∧ (ws i).toInt < 26) by omega)]; rfl)
              | (refine nxt false true ?_ ?_
                 · rw [h40_s]; rw [show h40 ws i = false by simpa using h134, decide_eq_false (show ¬ (ws i).toInt = 40 by omega)]; rfl
                 · rw [h23_s]; rw [h165, Bool.true_or])
              | (refine nxt false true ?_ ?_
                 · rw [h40_s]; rw [show h40 ws i = false by simpa using h134, decide_eq_false (show ¬ (ws i).toInt = 40 by omega)]; rfl
                 · rw [h23_s]; rw [decide_eq_true (show 22 < (ws i).toInt ∧ (ws i).toInt < 26 by omega), Bool.or_true])
              | (refine nxt false false ?_ ?_
                 · rw [h40_s]; rw [show h40 ws i = false by simpa using h134, decide_eq_false (show ¬ (ws i).toInt = 40 by omega)]; rfl
                 · rw [h23_s]; rw [show h23 ws i = false by simpa using h165, decide_eq_false (show ¬ (22 < (ws i).toInt ∧ (ws i).toInt < 26) by omega)]; rfl)
          · skip
            refine g_aload_n k108_179 rfl ?_
            refine m_get k108_180 f108_180 rfl rfl ?_
            refine g_iload_n k108_183 rfl ?_
            refine m_iald k108_184 hdy rfl rfl (by omega) (by omega) ?_
            rw [q27]
            refine g_bipush (v := nn 26) k108_185 cb_26 ?_
            refine g_icge k108_187 (t := 194) rfl (fun h187 => ?_) (fun h187 => ?_)
            · skip
              refine g_iconst (v := nn 0) k108_194 ci_0 ?_
              refine m_bast k108_195 rfl rfl (by omega) (by omega) (by decide) ?_
              refine g_iincN k108_196 rfl rfl rfl ?_
              refine g_goto k108_199 (t := 98) rfl ?_
              first
                | (refine nxt true true ?_ ?_
                   · rw [h40_s]; rw [h134, Bool.true_or]
                   · rw [h23_s]; rw [h165, Bool.true_or])
                | (refine nxt true true ?_ ?_
                   · rw [h40_s]; rw [h134, Bool.true_or]
                   · rw [h23_s]; rw [decide_eq_true (show 22 < (ws i).toInt ∧ (ws i).toInt < 26 by omega), Bool.or_true])
                | (refine nxt true false ?_ ?_
                   · rw [h40_s]; rw [h134, Bool.true_or]
                   · rw [h23_s]; rw [show h23 ws i = false by simpa using h165, decide_eq_false (show ¬ (22 < (ws i).toInt ∧ (ws i).toInt < 26) by omega)]; rfl)
                | (refine nxt true true ?_ ?_
                   · rw [h40_s]; rw [decide_eq_true (show (ws i).toInt = 40 by omega), Bool.or_true]
                   · rw [h23_s]; rw [h165, Bool.true_or])
                | (refine nxt true true ?_ ?_
                   · rw [h40_s]; rw [decide_eq_true (show (ws i).toInt = 40 by omega), Bool.or_true]
                   · rw [h23_s]; rw [decide_eq_true (show 22 < (ws i).toInt ∧ (ws i).toInt < 26 by omega), Bool.or_true])
                | (refine nxt true false ?_ ?_
                   · rw [h40_s]; rw [decide_eq_true (show (ws i).toInt = 40 by omega), Bool.or_true]
                   · rw [h23_s]; rw [show h23 ws i = false by simpa using h165, decide_eq_false (show ¬ (22 < (ws i).toInt ∧ (ws i).toInt < 26) by omega)]; rfl)
                | (refine nxt false true ?_ ?_
                   · rw [h40_s]; rw [show h40 ws i = false by simpa using h134, decide_eq_false (show ¬ (ws i).toInt = 40 by omega)]; rfl
                   · rw [h23_s]; rw [h165, Bool.true_or])
                | (refine nxt false true ?_ ?_
                   · rw [h40_s]; rw [show h40 ws i = false by simpa using h134, decide_eq_false (show ¬ (ws i).toInt = 40 by omega)]; rfl
                   · rw [h23_s]; rw [decide_eq_true (show 22 < (ws i).toInt ∧ (ws i).toInt < 26 by omega), Bool.or_true])
                | (refine nxt false false ?_ ?_
                   · rw [h40_s]; rw [show h40 ws i = false by simpa using h134, decide_eq_false (show ¬ (ws i).toInt = 40 by omega)]; rfl
                   · rw [h23_s]; rw [show h23 ws i = false by simpa using h165, decide_eq_false (show ¬ (22 < (ws i).toInt ∧ (ws i).toInt < 26) by omega)]; rfl)
            · skip
              refine g_iconst (v := nn 1) k108_190 ci_1 ?_
              refine g_goto k108_191 (t := 195) rfl ?_
              refine m_bast k108_195 rfl rfl (by omega) (by omega) (by decide) ?_
              refine g_iincN k108_196 rfl rfl rfl ?_
              refine g_goto k108_199 (t := 98) rfl ?_
              first
                | (refine nxt true true ?_ ?_
                   · rw [h40_s]; rw [h134, Bool.true_or]
                   · rw [h23_s]; rw [h165, Bool.true_or])
                | (refine nxt true true ?_ ?_
                   · rw [h40_s]; rw [h134, Bool.true_or]
                   · rw [h23_s]; rw [decide_eq_true (show 22 < (ws i).toInt ∧ (ws i).toInt < 26 by omega), Bool.or_true])
                | (refine nxt true false ?_ ?_
                   · rw [h40_s]; rw [h134, Bool.true_or]
                   · rw [h23_s]; rw [show h23 ws i = false by simpa using h165, decide_eq_false (show ¬ (22 < (ws i).toInt ∧ (ws i).toInt < 26) by omega)]; rfl)
                | (refine nxt true true ?_ ?_
                   · rw [h40_s]; rw [decide_eq_true (show (ws i).toInt = 40 by omega), Bool.or_true]
                   · rw [h23_s]; rw [h165, Bool.true_or])
                | (refine nxt true true ?_ ?_
                   · rw [h40_s]; rw [decide_eq_true (show (ws i).toInt = 40 by omega), Bool.or_true]
                   · rw [h23_s]; rw [decide_eq_true (show 22 < (ws i).toInt ∧ (ws i).toInt < 26 by omega), Bool.or_true])
                | (refine nxt true false ?_ ?_
                   · rw [h40_s]; rw [decide_eq_true (show (ws i).toInt = 40 by omega), Bool.or_true]
                   · rw [h23_s]; rw [show h23 ws i = false by simpa using h165, decide_eq_false (show ¬ (22 < (ws i).toInt ∧ (ws i).toInt < 26) by omega)]; rfl)
                | (refine nxt false true ?_ ?_
                   · rw [h40_s]; rw [show h40 ws i = false by simpa using h134, decide_eq_false (show ¬ (ws i).toInt = 40 by omega)]; rfl
                   · rw [h23_s]; rw [h165, Bool.true_or])
                | (refine nxt false true ?_ ?_
                   · rw [h40_s]; rw [show h40 ws i = false by simpa using h134, decide_eq_false (show ¬ (ws i).toInt = 40 by omega)]; rfl
                   · rw [h23_s]; rw [decide_eq_true (show 22 < (ws i).toInt ∧ (ws i).toInt < 26 by omega), Bool.or_true])
                | (refine nxt false false ?_ ?_
                   · rw [h40_s]; rw [show h40 ws i = false by simpa using h134, decide_eq_false (show ¬ (ws i).toInt = 40 by omega)]; rfl
                   · rw [h23_s]; rw [show h23 ws i = false by simpa using h165, decide_eq_false (show ¬ (22 < (ws i).toInt ∧ (ws i).toInt < 26) by omega)]; rfl)
      · skip
        refine g_iconst (v := nn 1) k108_148 ci_1 ?_
        refine g_goto k108_149 (t := 153) rfl ?_
        refine m_bast k108_153 rfl rfl (by omega) (by omega) (by decide) ?_
        refine g_aload_n k108_154 rfl ?_
        refine m_get k108_155 f108_155 rfl rfl ?_
        refine g_iload_n k108_158 rfl ?_
        refine g_aload_n k108_159 rfl ?_
        refine m_get k108_160 f108_160 rfl rfl ?_
        refine g_iload_n k108_163 rfl ?_
        refine m_bald k108_164 rfl rfl (by omega) (by omega) ?_
        rw [p31]
        refine g_ifneB k108_165 (t := 190) rfl (fun h165 => ?_) (fun h165 => ?_)
        · skip
          refine g_iconst (v := nn 1) k108_190 ci_1 ?_
          refine g_goto k108_191 (t := 195) rfl ?_
          refine m_bast k108_195 rfl rfl (by omega) (by omega) (by decide) ?_
          refine g_iincN k108_196 rfl rfl rfl ?_
          refine g_goto k108_199 (t := 98) rfl ?_
          first
            | (refine nxt true true ?_ ?_
               · rw [h40_s]; rw [h134, Bool.true_or]
               · rw [h23_s]; rw [h165, Bool.true_or])
            | (refine nxt true true ?_ ?_
               · rw [h40_s]; rw [h134, Bool.true_or]
               · rw [h23_s]; rw [decide_eq_true (show 22 < (ws i).toInt ∧ (ws i).toInt < 26 by omega), Bool.or_true])
            | (refine nxt true false ?_ ?_
               · rw [h40_s]; rw [h134, Bool.true_or]
               · rw [h23_s]; rw [show h23 ws i = false by simpa using h165, decide_eq_false (show ¬ (22 < (ws i).toInt ∧ (ws i).toInt < 26) by omega)]; rfl)
            | (refine nxt true true ?_ ?_
               · rw [h40_s]; rw [decide_eq_true (show (ws i).toInt = 40 by omega), Bool.or_true]
               · rw [h23_s]; rw [h165, Bool.true_or])
            | (refine nxt true true ?_ ?_
               · rw [h40_s]; rw [decide_eq_true (show (ws i).toInt = 40 by omega), Bool.or_true]
               · rw [h23_s]; rw [decide_eq_true (show 22 < (ws i).toInt ∧ (ws i).toInt < 26 by omega), Bool.or_true])
            | (refine nxt true false ?_ ?_
               · rw [h40_s]; rw [decide_eq_true (show (ws i).toInt = 40 by omega), Bool.or_true]
               · rw [h23_s]; rw [show h23 ws i = false by simpa using h165, decide_eq_false (show ¬ (22 < (ws i).toInt ∧ (ws i).toInt < 26) by omega)]; rfl)
            | (refine nxt false true ?_ ?_
               · rw [h40_s]; rw [show h40 ws i = false by simpa using h134, decide_eq_false (show ¬ (ws i).toInt = 40 by omega)]; rfl
               · rw [h23_s]; rw [h165, Bool.true_or])
            | (refine nxt false true ?_ ?_
               · rw [h40_s]; rw [show h40 ws i = false by simpa using h134, decide_eq_false (show ¬ (ws i).toInt = 40 by omega)]; rfl
               · rw [h23_s]; rw [decide_eq_true (show 22 < (ws i).toInt ∧ (ws i).toInt < 26 by omega), Bool.or_true])
            | (refine nxt false false ?_ ?_
               · rw [h40_s]; rw [show h40 ws i = false by simpa using h134, decide_eq_false (show ¬ (ws i).toInt = 40 by omega)]; rfl
               · rw [h23_s]; rw [show h23 ws i = false by simpa using h165, decide_eq_false (show ¬ (22 < (ws i).toInt ∧ (ws i).toInt < 26) by omega)]; rfl)
        · skip
          refine g_aload_n k108_168 rfl ?_
          refine m_get k108_169 f108_169 rfl rfl ?_
          refine g_iload_n k108_172 rfl ?_
          refine m_iald k108_173 hdy rfl rfl (by omega) (by omega) ?_
          rw [q27]
          refine g_bipush (v := nn 22) k108_174 cb_22 ?_
          refine g_icle k108_176 (t := 194) rfl (fun h176 => ?_) (fun h176 => ?_)
          · skip
            refine g_iconst (v := nn 0) k108_194 ci_0 ?_
            refine m_bast k108_195 rfl rfl (by omega) (by omega) (by decide) ?_
            refine g_iincN k108_196 rfl rfl rfl ?_
            refine g_goto k108_199 (t := 98) rfl ?_
            first
              | (refine nxt true true ?_ ?_
                 · rw [h40_s]; rw [h134, Bool.true_or]
                 · rw [h23_s]; rw [h165, Bool.true_or])
              | (refine nxt true true ?_ ?_
                 · rw [h40_s]; rw [h134, Bool.true_or]
                 · rw [h23_s]; rw [decide_eq_true (show 22 < (ws i).toInt ∧ (ws i).toInt < 26 by omega), Bool.or_true])
              | (refine nxt true false ?_ ?_
                 · rw [h40_s]; rw [h134, Bool.true_or]
                 · rw [h23_s]; rw [show h23 ws i = false by simpa using h165, decide_eq_false (show ¬ (22 < (ws i).toInt ∧ (ws i).toInt < 26) by omega)]; rfl)
              | (refine nxt true true ?_ ?_
                 · rw [h40_s]; rw [decide_eq_true (show (ws i).toInt = 40 by omega), Bool.or_true]
                 · rw [h23_s]; rw [h165, Bool.true_or])
              | (refine nxt true true ?_ ?_
                 · rw [h40_s]; rw [decide_eq_true (show (ws i).toInt = 40 by omega), Bool.or_true]
                 · rw [h23_s]; rw [decide_eq_true (show 22 < (ws i).toInt ∧ (ws i).toInt < 26 by omega), Bool.or_true])
              | (refine nxt true false ?_ ?_
                 · rw [h40_s]; rw [decide_eq_true (show (ws i).toInt = 40 by omega), Bool.or_true]
                 · rw [h23_s]; rw [show h23 ws i = false by simpa using h165, decide_eq_false (show ¬ (22 < (ws i).toInt ∧ (ws i).toInt < 26) by omega)]; rfl)
              | (refine nxt false true ?_ ?_
                 · rw [h40_s]; rw [show h40 ws i = false by simpa using h134, decide_eq_false (show ¬ (ws i).toInt = 40 by omega)]; rfl
                 · rw [h23_s]; rw [h165, Bool.true_or])
              | (refine nxt false true ?_ ?_
                 · rw [h40_s]; rw [show h40 ws i = false by simpa using h134, decide_eq_false (show ¬ (ws i).toInt = 40 by omega)]; rfl
                 · rw [h23_s]; rw [decide_eq_true (show 22 < (ws i).toInt ∧ (ws i).toInt < 26 by omega), Bool.or_true])
              | (refine nxt false false ?_ ?_
                 · rw [h40_s]; rw [show h40 ws i = false by simpa using h134, decide_eq_false (show ¬ (ws i).toInt = 40 by omega)]; rfl
                 · rw [h23_s]; rw [show h23 ws i = false by simpa using h165, decide_eq_false (show ¬ (22 < (ws i).toInt ∧ (ws i).toInt < 26) by omega)]; rfl)
          · skip
            refine g_aload_n k108_179 rfl ?_
            refine m_get k108_180 f108_180 rfl rfl ?_
            refine g_iload_n k108_183 rfl ?_
            refine m_iald k108_184 hdy rfl rfl (by omega) (by omega) ?_
            rw [q27]
            refine g_bipush (v := nn 26) k108_185 cb_26 ?_
            refine g_icge k108_187 (t := 194) rfl (fun h187 => ?_) (fun h187 => ?_)
            · skip
              refine g_iconst (v := nn 0) k108_194 ci_0 ?_
              refine m_bast k108_195 rfl rfl (by omega) (by omega) (by decide) ?_
              refine g_iincN k108_196 rfl rfl rfl ?_
              refine g_goto k108_199 (t := 98) rfl ?_
              first
                | (refine nxt true true ?_ ?_
                   · rw [h40_s]; rw [h134, Bool.true_or]
                   · rw [h23_s]; rw [h165, Bool.true_or])
                | (refine nxt true true ?_ ?_
                   · rw [h40_s]; rw [h134, Bool.true_or]
                   · rw [h23_s]; rw [decide_eq_true (show 22 < (ws i).toInt ∧ (ws i).toInt < 26 by omega), Bool.or_true])
                | (refine nxt true false ?_ ?_
                   · rw [h40_s]; rw [h134, Bool.true_or]
                   · rw [h23_s]; rw [show h23 ws i = false by simpa using h165, decide_eq_false (show ¬ (22 < (ws i).toInt ∧ (ws i).toInt < 26) by omega)]; rfl)
                | (refine nxt true true ?_ ?_
                   · rw [h40_s]; rw [decide_eq_true (show (ws i).toInt = 40 by omega), Bool.or_true]
                   · rw [h23_s]; rw [h165, Bool.true_or])
                | (refine nxt true true ?_ ?_
                   · rw [h40_s]; rw [decide_eq_true (show (ws i).toInt = 40 by omega), Bool.or_true]
                   · rw [h23_s]; rw [decide_eq_true (show 22 < (ws i).toInt ∧ (ws i).toInt < 26 by omega), Bool.or_true])
                | (refine nxt true false ?_ ?_
                   · rw [h40_s]; rw [decide_eq_true (show (ws i).toInt = 40 by omega), Bool.or_true]
                   · rw [h23_s]; rw [show h23 ws i = false by simpa using h165, decide_eq_false (show ¬ (22 < (ws i).toInt ∧ (ws i).toInt < 26) by omega)]; rfl)
                | (refine nxt false true ?_ ?_
                   · rw [h40_s]; rw [show h40 ws i = false by simpa using h134, decide_eq_false (show ¬ (ws i).toInt = 40 by omega)]; rfl
                   · rw [h23_s]; rw [h165, Bool.true_or])
                | (refine nxt false true ?_ ?_
                   · rw [h40_s]; rw [show h40 ws i = false by simpa using h134, decide_eq_false (show ¬ (ws i).toInt = 40 by omega)]; rfl
                   · rw [h23_s]; rw [decide_eq_true (show 22 < (ws i).toInt ∧ (ws i).toInt < 26 by omega), Bool.or_true])
                | (refine nxt false false ?_ ?_
                   · rw [h40_s]; rw [show h40 ws i = false by simpa using h134, decide_eq_false (show ¬ (ws i).toInt = 40 by omega)]; rfl
                   · rw [h23_s]; rw [show h23 ws i = false by simpa using h165, decide_eq_false (show ¬ (22 < (ws i).toInt ∧ (ws i).toInt < 26) by omega)]; rfl)
            · skip
              refine g_iconst (v := nn 1) k108_190 ci_1 ?_
              refine g_goto k108_191 (t := 195) rfl ?_
              refine m_bast k108_195 rfl rfl (by omega) (by omega) (by decide) ?_
              refine g_iincN k108_196 rfl rfl rfl ?_
              refine g_goto k108_199 (t := 98) rfl ?_
              first
                | (refine nxt true true ?_ ?_
                   · rw [h40_s]; rw [h134, Bool.true_or]
                   · rw [h23_s]; rw [h165, Bool.true_or])
                | (refine nxt true true ?_ ?_
                   · rw [h40_s]; rw [h134, Bool.true_or]
                   · rw [h23_s]; rw [decide_eq_true (show 22 < (ws i).toInt ∧ (ws i).toInt < 26 by omega), Bool.or_true])
                | (refine nxt true false ?_ ?_
                   · rw [h40_s]; rw [h134, Bool.true_or]
                   · rw [h23_s]; rw [show h23 ws i = false by simpa using h165, decide_eq_false (show ¬ (22 < (ws i).toInt ∧ (ws i).toInt < 26) by omega)]; rfl)
                | (refine nxt true true ?_ ?_
                   · rw [h40_s]; rw [decide_eq_true (show (ws i).toInt = 40 by omega), Bool.or_true]
                   · rw [h23_s]; rw [h165, Bool.true_or])
                | (refine nxt true true ?_ ?_
                   · rw [h40_s]; rw [decide_eq_true (show (ws i).toInt = 40 by omega), Bool.or_true]
                   · rw [h23_s]; rw [decide_eq_true (show 22 < (ws i).toInt ∧ (ws i).toInt < 26 by omega), Bool.or_true])
                | (refine nxt true false ?_ ?_
                   · rw [h40_s]; rw [decide_eq_true (show (ws i).toInt = 40 by omega), Bool.or_true]
                   · rw [h23_s]; rw [show h23 ws i = false by simpa using h165, decide_eq_false (show ¬ (22 < (ws i).toInt ∧ (ws i).toInt < 26) by omega)]; rfl)
                | (refine nxt false true ?_ ?_
                   · rw [h40_s]; rw [show h40 ws i = false by simpa using h134, decide_eq_false (show ¬ (ws i).toInt = 40 by omega)]; rfl
                   · rw [h23_s]; rw [h165, Bool.true_or])
                | (refine nxt false true ?_ ?_
                   · rw [h40_s]; rw [show h40 ws i = false by simpa using h134, decide_eq_false (show ¬ (ws i).toInt = 40 by omega)]; rfl
                   · rw [h23_s]; rw [decide_eq_true (show 22 < (ws i).toInt ∧ (ws i).toInt < 26 by omega), Bool.or_true])
                | (refine nxt false false ?_ ?_
                   · rw [h40_s]; rw [show h40 ws i = false by simpa using h134, decide_eq_false (show ¬ (ws i).toInt = 40 by omega)]; rfl
                   · rw [h23_s]; rw [show h23 ws i = false by simpa using h165, decide_eq_false (show ¬ (22 < (ws i).toInt ∧ (ws i).toInt < 26) by omega)]; rfl)
theorem s_108 (hdy : dy.length < 100000) (ok : TOK A) (hR : RepM A σ) (hW : RunM W σ) (wo : WOK W) (k1 : ky (rs_w W) (rs_n W) [] = false → ∀ σ', oM A (rs_cl W) 1 σ σ' → Q (.inl (some (.int (nn 0)))) (mk dy σ' ρ τ)) (k2 : ky (rs_w W) (rs_n W) [] = true → td_nf A = 30 → ∀ σ', oM A W 2 σ σ' → Q (.inl (some (.int (nn 0)))) (mk dy σ' ρ τ)) (k0 : ky (rs_w W) (rs_n W) [] = true → td_nf A < 30 → ∀ σ', oM (td_af A (rs_n W) (rs_w W) (decide (53 ≤ (rs_w W 0).toInt ∧ (rs_w W 0).toInt ≤ 57))) (rs_cl W) 0 σ σ' → Q (.inl (some (.int (nn (td_nf A))))) (mk dy σ' ρ τ)) : go (tb_P L xs) 108 0 [some (.ref 24), none, none] [] (mk dy σ ρ τ) Q := by
  have hnf := ok.1
  have hn := wo.1.1
  refine g_aload_n k108_0 rfl ?_
  refine g_aload_n k108_1 rfl ?_
  refine m_callV0 k108_2 s108_2 c108_2 l109 (by omega) trivial rfl r108_2 rfl ?_
  refine s_109 hdy hW wo (fun σ1 hs1 => ?_)
  refine af_ret ?_
  have hR1 : RepM A σ1 := hR.agr (rs_agA hs1.rs)
  have hW1 : RunM W σ1 := hW.agr (rs_agW hs1.rs)
  have f1 : fM σ σ1 := hs1.rs.fM
  have h0 : ∀ v, up2 σ1 24 0 v 24 0 = v := fun v => rfl
  have h5 := hR1.1.1
  by_cases hy : ky (rs_w W) (rs_n W) [] = true
  · by_cases hf : td_nf A = 30
    · refine g_ifne_t k108_5 (t := 12) rfl (by rw [bb_t hy]; decide) ?_
      refine g_aload_n k108_12 rfl ?_
      refine m_get k108_13 f108_13 rfl rfl ?_
      rw [h5]
      refine g_bipush (v := nn 30) k108_16 cb_30 ?_
      refine g_icne_f k108_18 (t := 25) rfl (by rw [hf]) ?_
      refine g_iconst (v := nn 2) k108_21 ci_2 ?_
      refine g_goto k108_22 (t := 26) rfl ?_
      refine m_putI k108_26 f108_26 rfl rfl rfl ?_
      refine g_aload_n k108_29 rfl ?_
      refine m_get k108_30 f108_30 rfl rfl ?_
      refine g_iconst (v := nn 1) k108_33 ci_1 ?_
      rw [h0]
      refine g_icne_t k108_34 (t := 42) rfl (by decide) ?_
      refine g_aload_n k108_42 rfl ?_
      refine m_get k108_43 f108_43 rfl rfl ?_
      rw [h0]
      refine g_ifeq_f k108_46 (t := 51) rfl (by decide) ?_
      refine g_iconst (v := nn 0) k108_49 ci_0 ?_
      refine g_ireturn k108_50 t108 ?_
      exact k2 hy hf _ ⟨f1.up (by omega), hR1.agr (fun a k h => up2_ne (by omega)), hW1.agr (fun a k h => up2_ne (by omega)), up2_at⟩
    · have hn0 : 0 < rs_n W := by
        by_cases c : rs_n W = 0
        · rw [c] at hy
          cases hy
        · omega
      have w0 := hW1.1.2 0 hn0
      have w3 := hW1.1.1
      refine g_ifne_t k108_5 (t := 12) rfl (by rw [bb_t hy]; decide) ?_
      refine g_aload_n k108_12 rfl ?_
      refine m_get k108_13 f108_13 rfl rfl ?_
      rw [h5]
      refine g_bipush (v := nn 30) k108_16 cb_30 ?_
      refine g_icne_t k108_18 (t := 25) rfl (by rw [Ne, nn_inj (by omega) (by omega)]; exact hf) ?_
      refine g_iconst (v := nn 0) k108_25 ci_0 ?_
      refine m_putI k108_26 f108_26 rfl rfl rfl ?_
      refine g_aload_n k108_29 rfl ?_
      refine m_get k108_30 f108_30 rfl rfl ?_
      refine g_iconst (v := nn 1) k108_33 ci_1 ?_
      rw [h0]
      refine g_icne_t k108_34 (t := 42) rfl (by decide) ?_
      refine g_aload_n k108_42 rfl ?_
      refine m_get k108_43 f108_43 rfl rfl ?_
      rw [h0]
      refine g_ifeq_t k108_46 (t := 51) rfl rfl ?_
      refine g_aload_n k108_51 rfl ?_
      refine m_get k108_52 f108_52 rfl rfl ?_
      rw [show up2 σ1 24 0 (nn 0) 24 5 = nn (td_nf A) from h5]
      refine g_istore_n k108_55 rfl rfl ?_
      refine g_aload_n k108_56 rfl ?_
      refine m_get k108_57 f108_57 rfl rfl ?_
      refine g_iload_n k108_60 rfl ?_
      refine g_aload_n k108_61 rfl ?_
      refine m_get k108_62 f108_62 rfl rfl ?_
      rw [show up2 σ1 24 0 (nn 0) 24 3 = nn (rs_n W) from w3]
      refine m_iast k108_65 rfl rfl (by omega) (by omega) ?_
      refine g_aload_n k108_66 rfl ?_
      refine m_get k108_67 f108_67 rfl rfl ?_
      refine g_iload_n k108_70 rfl ?_
      refine g_aload_n k108_71 rfl ?_
      refine g_aload_n k108_72 rfl ?_
      refine m_get k108_73 f108_73 rfl rfl ?_
      refine g_iconst (v := nn 0) k108_76 ci_0 ?_
      refine m_iald k108_77 hdy rfl rfl (by omega) (by omega) ?_
      rw [up2_ne (by omega), up2_ne (by omega), w0]
      refine m_callV1 k108_78 s108_78 c108_78 l112 (by omega) rfl rfl r108_78 rfl ?_
      refine s_112 ?_
      refine af_ret ?_
      refine m_bast k108_81 rfl rfl (by omega) (by omega) (bb_01 _) ?_
      refine g_aload_n k108_82 rfl ?_
      refine m_get k108_83 f108_83 rfl rfl ?_
      refine g_iload_n k108_86 rfl ?_
      refine g_iconst (v := nn 0) k108_87 ci_0 ?_
      refine m_bast k108_88 rfl rfl (by omega) (by omega) (by decide) ?_
      refine g_aload_n k108_89 rfl ?_
      refine m_get k108_90 f108_90 rfl rfl ?_
      refine g_iload_n k108_93 rfl ?_
      refine g_iconst (v := nn 0) k108_94 ci_0 ?_
      refine m_bast k108_95 rfl rfl (by omega) (by omega) (by decide) ?_
      refine g_iconst (v := nn 0) k108_96 ci_0 ?_
      refine g_istore_n k108_97 rfl rfl ?_
      refine s_108L (ws := rs_w W) (n := rs_n W) hdy hn (by omega) (rs_n W) 0 (by omega) ?_ (fun j hj => ?_) (fun j hj => by omega) ?_ ?_ (fun σ2 g1 g2 g3 g4 => ?_)
      · rw [up2_ne (by omega), up2_ne (by omega), up2_ne (by omega), up2_ne (by omega), up2_ne (by omega)]
        exact w3
      · rw [up2_ne (by omega), up2_ne (by omega), up2_ne (by omega), up2_ne (by omega), up2_ne (by omega)]
        exact hW1.1.2 j hj
      · rw [up2_ne (by omega), up2_at]
        rfl
      · rw [up2_at]
        rfl
      refine g_aload_n k108_202 rfl ?_
      refine g_dup k108_203 rfl ?_
      refine m_get k108_204 f108_204 rfl rfl ?_
      rw [g1 24 5 (by omega) (by omega) (by omega), up2_ne (by omega), up2_ne (by omega), up2_ne (by omega), up2_ne (by omega), up2_ne (by omega), h5]
      refine g_iconst (v := nn 1) k108_207 ci_1 ?_
      refine g_iaddN k108_208 ?_
      refine m_putI k108_209 f108_209 rfl rfl rfl ?_
      refine g_aload_n k108_212 rfl ?_
      refine g_iconst (v := nn 0) k108_213 ci_0 ?_
      refine m_putI k108_214 f108_214 rfl rfl rfl ?_
      refine g_iload_n k108_217 rfl ?_
      refine g_ireturn k108_218 t108 ?_
      refine k0 hy (by omega) _ ⟨fun a ha => ?_, RepM.af ok hR1 ?_ ?_ (fun i hi => ?_) ?_ ?_ ?_ (fun a k h => ?_), ⟨⟨?_, fun i hi => by cases hi⟩, ⟨?_, fun ho => ⟨?_, ?_, fun j v hj hv => ?_⟩⟩, ?_, fun hsw v hv => ?_⟩, ?_⟩
      · funext q
        rw [up2_ne (by omega), up2_ne (by omega), g1 a q (by omega) (by omega) (by omega), up2_ne (by omega), up2_ne (by omega), up2_ne (by omega), up2_ne (by omega), up2_ne (by omega), f1 a ha]
      · rw [up2_ne (by omega), up2_at]
      · rw [up2_ne (by omega), up2_ne (by omega), g1 28 _ (by omega) (by omega) (by omega), up2_ne (by omega), up2_ne (by omega), up2_ne (by omega), up2_at]
      · rw [up2_ne (by omega), up2_ne (by omega)]
        exact g2 i hi
      · rw [up2_ne (by omega), up2_ne (by omega), g1 30 _ (by omega) (by omega) (by omega), up2_ne (by omega), up2_ne (by omega), up2_at]
        exact bb_congr (by rw [decide_eq_true_eq])
      · rw [up2_ne (by omega), up2_ne (by omega)]
        exact g3
      · rw [up2_ne (by omega), up2_ne (by omega)]
        exact g4
      · rw [up2_ne (by omega), up2_ne (by omega), g1 a k (by omega) (by omega) (by omega), up2_ne (by omega), up2_ne (by omega), up2_ne (by omega), up2_ne (by omega), up2_ne (by omega)]
      · rw [up2_at]
        rfl
      · rw [up2_ne (by omega), up2_ne (by omega), g1 24 _ (by omega) (by omega) (by omega), up2_ne (by omega), up2_ne (by omega), up2_ne (by omega), up2_ne (by omega), up2_ne (by omega)]
        exact hW1.2.1.1
      · rw [up2_ne (by omega), up2_ne (by omega), g1 24 _ (by omega) (by omega) (by omega), up2_ne (by omega), up2_ne (by omega), up2_ne (by omega), up2_ne (by omega), up2_ne (by omega)]
        exact (hW1.2.1.2 ho).1
      · rw [up2_ne (by omega), up2_ne (by omega), g1 24 _ (by omega) (by omega) (by omega), up2_ne (by omega), up2_ne (by omega), up2_ne (by omega), up2_ne (by omega), up2_ne (by omega)]
        exact (hW1.2.1.2 ho).2.1
      · rw [up2_ne (by omega), up2_ne (by omega), g1 43 _ (by omega) (by omega) (by omega), up2_ne (by omega), up2_ne (by omega), up2_ne (by omega), up2_ne (by omega), up2_ne (by omega)]
        exact (hW1.2.1.2 ho).2.2 j v hj hv
      · rw [up2_ne (by omega), up2_ne (by omega), g1 24 _ (by omega) (by omega) (by omega), up2_ne (by omega), up2_ne (by omega), up2_ne (by omega), up2_ne (by omega), up2_ne (by omega)]
        exact hW1.2.2.1
      · rw [up2_ne (by omega), up2_ne (by omega), g1 44 _ (by omega) (by omega) (by omega), up2_ne (by omega), up2_ne (by omega), up2_ne (by omega), up2_ne (by omega), up2_ne (by omega)]
        exact hW1.2.2.2 hsw v hv
      · rw [up2_ne (by omega), up2_ne (by omega), g1 24 _ (by omega) (by omega) (by omega), up2_ne (by omega), up2_ne (by omega), up2_ne (by omega), up2_ne (by omega), up2_at]
  · refine g_ifne_f k108_5 (t := 12) rfl (bb_f hy) ?_
    refine g_iconst (v := nn 1) k108_8 ci_1 ?_
    refine g_goto k108_9 (t := 26) rfl ?_
    refine m_putI k108_26 f108_26 rfl rfl rfl ?_
    refine g_aload_n k108_29 rfl ?_
    refine m_get k108_30 f108_30 rfl rfl ?_
    refine g_iconst (v := nn 1) k108_33 ci_1 ?_
    rw [h0]
    refine g_icne_f k108_34 (t := 42) rfl rfl ?_
    refine g_aload_n k108_37 rfl ?_
    refine g_iconst (v := nn 0) k108_38 ci_0 ?_
    refine m_putI k108_39 f108_39 rfl rfl rfl ?_
    refine g_aload_n k108_42 rfl ?_
    refine m_get k108_43 f108_43 rfl rfl ?_
    rw [show up2 (up2 σ1 24 0 (nn 1)) 24 3 (nn 0) 24 0 = nn 1 from rfl]
    refine g_ifeq_f k108_46 (t := 51) rfl (by decide) ?_
    refine g_iconst (v := nn 0) k108_49 ci_0 ?_
    refine g_ireturn k108_50 t108 ?_
    exact k1 (by simpa using hy) _ ⟨(f1.up (by omega)).up (by omega), hR1.agr (fun a k h => by rw [up2_ne (by omega), up2_ne (by omega)]), ⟨⟨rfl, fun i hi => by cases hi⟩, hW1.2⟩, rfl⟩
end LT
