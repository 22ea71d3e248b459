/-! What has been told, and the reference that holds it. -/
section TA
/-- formulas: how many, their lengths, words, whether a truth; events: how many, machines, ranges, refined, guards, witnesses, assignments; invariants: how many, which; the variant; sizes, initials -/
abbrev TD : Type := (Nat × (Nat → Nat) × (Nat → Nat → Int32) × (Nat → Bool)) × (Nat × (Nat → Nat) × (Nat → Nat) × (Nat → Option Nat) × (Nat → Option Nat) × (Nat → Option Nat) × (Nat → Nat → Option Nat)) × ((Nat → Nat) × (Nat → Nat → Nat) × Option Nat) × ((Nat → Nat) × (Nat → Nat))
abbrev td_nf (A : TD) : Nat := A.1.1
abbrev td_ln (A : TD) : Nat → Nat := A.1.2.1
abbrev td_fw (A : TD) : Nat → Nat → Int32 := A.1.2.2.1
abbrev td_ft (A : TD) : Nat → Bool := A.1.2.2.2
abbrev td_ne (A : TD) : Nat := A.2.1.1
abbrev td_ma (A : TD) : Nat → Nat := A.2.1.2.1
abbrev td_rg (A : TD) : Nat → Nat := A.2.1.2.2.1
abbrev td_rf (A : TD) : Nat → Option Nat := A.2.1.2.2.2.1
abbrev td_gd (A : TD) : Nat → Option Nat := A.2.1.2.2.2.2.1
abbrev td_wt (A : TD) : Nat → Option Nat := A.2.1.2.2.2.2.2.1
abbrev td_as (A : TD) : Nat → Nat → Option Nat := A.2.1.2.2.2.2.2.2
abbrev td_ic (A : TD) : Nat → Nat := A.2.2.1.1
abbrev td_iv (A : TD) : Nat → Nat → Nat := A.2.2.1.2.1
abbrev td_vr (A : TD) : Option Nat := A.2.2.1.2.2
abbrev td_sz (A : TD) : Nat → Nat := A.2.2.2.1
abbrev td_in (A : TD) : Nat → Nat := A.2.2.2.2
def td_hp (A : TD) (f : Nat) : Bool := (List.range (td_ln A f)).any (fun i => decide ((td_fw A f i).toInt = 40))
def td_hl (A : TD) (f : Nat) : Bool := (List.range (td_ln A f)).any (fun i => decide (22 < (td_fw A f i).toInt ∧ (td_fw A f i).toInt < 26))
/-- what has been told keeps the document's rules -/
def TOK (A : TD) : Prop := td_nf A ≤ 30 ∧ (∀ f, f < td_nf A → (1 ≤ td_ln A f ∧ td_ln A f ≤ 24) ∧ (∀ i, i < td_ln A f → wd_ok (td_fw A f i)) ∧ kr (td_fw A f) (td_ln A f) [] = some [td_ft A f]) ∧ td_ne A ≤ 12 ∧
  (∀ e, e < td_ne A → td_ma A e ≤ 1 ∧ (1 ≤ td_rg A e ∧ td_rg A e ≤ 4) ∧ (∀ u, td_rf A e = some u → u < e ∧ td_ma A e = 1 ∧ td_ma A u = 0) ∧ (∀ f, td_gd A e = some f → f < td_nf A ∧ td_ft A f = true ∧ (td_ma A e = 0 → td_hl A f = false)) ∧ (∀ f, td_wt A e = some f → f < td_nf A ∧ td_ft A f = false ∧ ∃ u, td_rf A e = some u) ∧ ∀ v f, v < 6 → td_as A e v = some f → f < td_nf A ∧ td_ft A f = false ∧ v / 3 = td_ma A e ∧ (td_ma A e = 0 → td_hl A f = false)) ∧
  (∀ e v, td_ne A ≤ e → td_as A e v = none) ∧ (∀ m, m < 2 → td_ic A m ≤ 6 ∧ ∀ i, i < td_ic A m → td_iv A m i < td_nf A ∧ td_ft A (td_iv A m i) = true ∧ td_hp A (td_iv A m i) = false ∧ (m = 0 → td_hl A (td_iv A m i) = false)) ∧ (∀ f, td_vr A = some f → f < td_nf A ∧ td_ft A f = false ∧ td_hp A f = false) ∧ ∀ v, v < 6 → 1 ≤ td_sz A v ∧ td_sz A v ≤ 4 ∧ td_in A v < td_sz A v
def oi (o : Option Nat) : Int32 := match o with
  | none => -1
  | some k => nn k
/-- the reference holds it -/
def RepM (A : TD) (σ : Nat → Nat → Int32) : Prop := (σ 24 5 = nn (td_nf A) ∧ ∀ f, f < td_nf A → σ 28 f = nn (td_ln A f) ∧ (∀ i, i < td_ln A f → σ 29 (24 * f + i) = td_fw A f i) ∧ σ 30 f = bb (td_ft A f = true) ∧ σ 31 f = bb (td_hp A f = true) ∧ σ 32 f = bb (td_hl A f = true)) ∧
  (σ 24 11 = nn (td_ne A) ∧ ∀ e, e < td_ne A → σ 33 e = nn (td_ma A e) ∧ σ 34 e = nn (td_rg A e) ∧ σ 35 e = oi (td_rf A e) ∧ σ 36 e = oi (td_gd A e) ∧ σ 38 e = oi (td_wt A e)) ∧ (∀ e v, e < 12 → v < 6 → σ 37 (6 * e + v) = oi (td_as A e v)) ∧
  ((∀ m, m < 2 → σ 39 m = nn (td_ic A m)) ∧ ∀ m i, m < 2 → i < td_ic A m → σ 40 (6 * m + i) = nn (td_iv A m i)) ∧ σ 24 20 = oi (td_vr A) ∧ ∀ v, v < 6 → σ 25 v = nn (td_sz A v) ∧ σ 26 v = nn (td_in A v)
/-- the reference's scratch: now, next, the pile, and pileSize, parameter -/
def rs_S (σ σ' : Nat → Nat → Int32) : Prop := ∀ a k, a ≠ 41 → a ≠ 42 → a ≠ 45 → (a ≠ 24 ∨ (k ≠ 29 ∧ k ≠ 32)) → σ' a k = σ a k
/-- nothing but the reference's scratch and what it shows is another -/
def dn_S (σ σ' : Nat → Nat → Int32) : Prop := ∀ a k, a ≠ 41 → a ≠ 42 → a ≠ 45 → a ≠ 44 → (a ≠ 24 ∨ (k ≠ 0 ∧ k ≠ 29 ∧ k ≠ 32 ∧ k ≠ 27)) → σ' a k = σ a k
theorem rs_S.dn {σ σ' : Nat → Nat → Int32} (h : rs_S σ σ') : dn_S σ σ' := fun a k g1 g2 g3 _ g5 => h a k g1 g2 g3 (g5.imp id fun q => ⟨q.2.1, q.2.2.1⟩)
theorem fi_S.rs {σ σ' : Nat → Nat → Int32} (h : fi_S σ σ') : rs_S σ σ' := fun a k _ _ h3 h4 => h a k h3 (h4.imp id fun q => q.1)
theorem rs_S.rf (σ : Nat → Nat → Int32) : rs_S σ σ := fun _ _ _ _ _ _ => rfl
theorem rs_S.tr {σ σ1 σ2 : Nat → Nat → Int32} (h1 : rs_S σ σ1) (h2 : rs_S σ1 σ2) : rs_S σ σ2 := fun a k g1 g2 g3 g4 => (h2 a k g1 g2 g3 g4).trans (h1 a k g1 g2 g3 g4)
theorem RepM.mono_dn {A : TD} {σ σ' : Nat → Nat → Int32} (h : RepM A σ) (hs : dn_S σ σ') : RepM A σ' := by
  have q : ∀ a k, a ≠ 41 ∧ a ≠ 42 ∧ a ≠ 45 ∧ a ≠ 44 ∧ a ≠ 24 → σ' a k = σ a k := fun a k g => hs a k g.1 g.2.1 g.2.2.1 g.2.2.2.1 (Or.inl g.2.2.2.2)
  have q24 : ∀ k, k ≠ 0 ∧ k ≠ 29 ∧ k ≠ 32 ∧ k ≠ 27 → σ' 24 k = σ 24 k := fun k g => hs 24 k (by decide) (by decide) (by decide) (by decide) (Or.inr g)
  obtain ⟨⟨a1, a2⟩, ⟨b1, b2⟩, c1, ⟨d1, d2⟩, e1, f1⟩ := h
  refine ⟨⟨by rw [q24 5 (by decide)]; exact a1, fun f hf => ?_⟩, ⟨by rw [q24 11 (by decide)]; exact b1, fun e he => ?_⟩, fun e v he hv => by rw [q 37 _ (by decide)]; exact c1 e v he hv, ⟨fun m hm => by rw [q 39 _ (by decide)]; exact d1 m hm, fun m i hm hi => by rw [q 40 _ (by decide)]; exact d2 m i hm hi⟩, by rw [q24 20 (by decide)]; exact e1, fun v hv => by rw [q 25 _ (by decide), q 26 _ (by decide)]; exact f1 v hv⟩
  · obtain ⟨g1, g2, g3, g4, g5⟩ := a2 f hf
    exact ⟨by rw [q 28 _ (by decide)]; exact g1, fun i hi => by rw [q 29 _ (by decide)]; exact g2 i hi, by rw [q 30 _ (by decide)]; exact g3, by rw [q 31 _ (by decide)]; exact g4, by rw [q 32 _ (by decide)]; exact g5⟩
  · obtain ⟨g1, g2, g3, g4, g5⟩ := b2 e he
    exact ⟨by rw [q 33 _ (by decide)]; exact g1, by rw [q 34 _ (by decide)]; exact g2, by rw [q 35 _ (by decide)]; exact g3, by rw [q 36 _ (by decide)]; exact g4, by rw [q 38 _ (by decide)]; exact g5⟩
theorem RepM.mono {A : TD} {σ σ' : Nat → Nat → Int32} (h : RepM A σ) (hs : rs_S σ σ') : RepM A σ' := h.mono_dn hs.dn
/-- what a formula is worth in a row -/
def ev (A : TD) (f : Nat) (rw : Nat → Int32) : Int32 := (pr rw (td_fw A f) (td_ln A f) []).getD 0 0
/-- the reference's row -/
def rM (σ : Nat → Nat → Int32) (lt : Prop) [Decidable lt] (prm : Int32) : Nat → Int32 := fun v => if v = 6 then prm else if lt then σ 42 v else σ 41 v
theorem rM_fi {σ σ' : Nat → Nat → Int32} (h : fi_S σ σ') (lt : Prop) [Decidable lt] (prm : Int32) : rM σ' lt prm = rM σ lt prm := by
  funext v
  unfold rM
  rw [h 42 v (by decide) (Or.inl (by decide)), h 41 v (by decide) (Or.inl (by decide))]
variable {L : Nat} {xs : Nat → Int32} {Q : am_A → am_H → Prop} {dy : List (Nat × Nat)} {σ : Nat → Nat → Int32} {ρ : Nat → Nat → Option Nat} {τ : Nat → Nat → Int64} {A : TD} {f : Nat} {prm l : Int32}
theorem s_128 {lt : Prop} [Decidable lt] (hdy : dy.length < 100000) (ok : TOK A) (hR : RepM A σ) (hf : f < td_nf A) (hl : l = bb lt) (kk : ∀ σ', fi_S σ σ' → Q (.inl (some (.int (ev A f (rM σ lt prm))))) (mk dy σ' ρ τ)) : go (tb_P L xs) 128 0 [some (.ref 24), some (.int (nn f)), some (.int l), some (.int prm), none, none, none, none, none, none, none] [] (mk dy σ ρ τ) Q := by
  subst hl
  obtain ⟨⟨k1, k2⟩, k3, k4⟩ := ok.2.1 f hf
  obtain ⟨g1, g2, -⟩ := hR.1.2 f hf
  have hnf := ok.1
  have e1 : up2 σ 24 29 (nn 0) 28 f = nn (td_ln A f) := g1
  have hs : fi_S σ (up2 σ 24 29 (nn 0)) := fun a k h1 h2 => by
    unfold up2
    by_cases ha : a = 24
    · subst ha
      rcases h2 with h2 | h2
      · exact absurd rfl h2
      · simp [h2]
    · simp [ha]
  refine g_aload_n k128_0 rfl ?_
  refine g_iconst (v := nn 0) k128_1 ci_0 ?_
  refine m_putI k128_2 f128_2 rfl rfl rfl ?_
  refine g_aload_n k128_5 rfl ?_
  refine m_get k128_6 f128_6 rfl rfl ?_
  refine g_iload_n k128_9 rfl ?_
  refine m_iald k128_10 hdy rfl rfl (by omega) (by omega) ?_
  rw [e1]
  refine g_iconst (v := nn 1) k128_11 ci_1 ?_
  refine g_isub k128_12 ?_
  refine g_istore k128_13 rfl rfl ?_
  refine s_128L (ws := td_fw A f) (rw := rM σ lt prm) hdy (by omega) (td_ln A f) (p := []) (kp := []) k2 ⟨fun i hi => g2 i hi, fun v hv => ⟨fun q => ?_, fun q => ?_⟩, ?_⟩ k3 k4 rfl (by simp; omega) ⟨rfl, fun j hj => by cases hj⟩ (fun σ' hs' => kk σ' (hs.tr hs'))
  · show σ 42 v = rM σ lt prm v
    unfold rM
    rw [if_neg (by omega), if_pos q]
  · show σ 41 v = rM σ lt prm v
    unfold rM
    rw [if_neg (by omega), if_neg q]
  · unfold rM
    rw [if_pos rfl]
/-- the invariants of a machine hold in a row -/
def td_ho (A : TD) (m : Nat) (rw : Nat → Int32) : Bool := (List.range (td_ic A m)).all (fun j => decide ((ev A (td_iv A m j) rw).toInt = 1))
variable {m e : Nat}
theorem s_127L {lt : Prop} [Decidable lt] (hdy : dy.length < 100000) (ok : TOK A) (hm : m < 2) : ∀ (k i : Nat) {b : Bool} {σ : Nat → Nat → Int32} {Q : am_A → am_H → Prop}, i + k = td_ic A m → RepM A σ → (∀ σ', fi_S σ σ' → Q (.inl (some (.int (bb ((b && (List.range' i k).all (fun j => decide ((ev A (td_iv A m j) (rM σ lt (nn 0))).toInt = 1))) = true))))) (mk dy σ' ρ τ)) → go (tb_P L xs) 127 5 [some (.ref 24), some (.int (nn m)), some (.int (bb lt)), some (.int (bb (b = true))), some (.int (nn i))] [] (mk dy σ ρ τ) Q := by
  intro k
  induction k with
  | zero =>
    intro i b σ Q hi hR kk
    have hc := hR.2.2.2.1.1 m hm
    have hi6 := (ok.2.2.2.2.2.1 m hm).1
    refine g_iload k127_5 rfl ?_
    refine g_aload_n k127_7 rfl ?_
    refine m_get k127_8 f127_8 rfl rfl ?_
    refine g_iload_n k127_11 rfl ?_
    refine m_iald k127_12 hdy rfl rfl (by omega) (by omega) ?_
    rw [hc]
    refine g_icge_t k127_13 (t := 54) rfl (by rw [nn_toInt (by omega), nn_toInt (by omega)]; omega) ?_
    refine g_iload_n k127_54 rfl ?_
    refine g_breturnB k127_55 t127 ?_
    have e := kk σ (fi_S.rf σ)
    rw [show (b && (List.range' i 0).all (fun j => decide ((ev A (td_iv A m j) (rM σ lt (nn 0))).toInt = 1))) = b by simp] at e
    exact e
  | succ k ih =>
    intro i b σ Q hi hR kk
    have hc := hR.2.2.2.1.1 m hm
    have hi6 := (ok.2.2.2.2.2.1 m hm).1
    have hiv := hR.2.2.2.1.2 m i hm (by omega)
    have hfn := ((ok.2.2.2.2.2.1 m hm).2 i (by omega)).1
    have hall : (List.range' i (k + 1)).all (fun j => decide ((ev A (td_iv A m j) (rM σ lt (nn 0))).toInt = 1)) = (decide ((ev A (td_iv A m i) (rM σ lt (nn 0))).toInt = 1) && (List.range' (i + 1) k).all (fun j => decide ((ev A (td_iv A m j) (rM σ lt (nn 0))).toInt = 1))) := by
      rw [List.range'_succ, List.all_cons]
    rw [hall] at kk
    refine g_iload k127_5 rfl ?_
    refine g_aload_n k127_7 rfl ?_
    refine m_get k127_8 f127_8 rfl rfl ?_
    refine g_iload_n k127_11 rfl ?_
    refine m_iald k127_12 hdy rfl rfl (by omega) (by omega) ?_
    rw [hc]
    refine g_icge_f k127_13 (t := 54) rfl (by rw [nn_toInt (by omega), nn_toInt (by omega)]; omega) ?_
    refine g_iload_n k127_16 rfl ?_
    refine g_ifeqB k127_17 (t := 46) rfl (fun h17 => ?_) (fun h17 => ?_)
    · skip
      refine g_iconst (v := nn 0) k127_46 ci_0 ?_
      refine g_istore_n k127_47 rfl rfl ?_
      refine g_iincN k127_48 rfl rfl rfl ?_
      refine g_goto k127_51 (t := 5) rfl ?_
      first
        | (have hb : b = false := by simpa using h17
           subst hb
           exact ih (i + 1) (b := false) (by omega) hR (fun σ' hs => by simpa using kk σ' hs))
        | (have hb : b = true := h17
           subst hb
           rw [ti_1] at h39
           refine ih (i + 1) (b := false) (by omega) (hR.mono hs.rs) (fun σ'' hs' => ?_)
           have hq := kk σ'' (hs.tr hs')
           rw [rM_fi hs]
           simpa [h39] using hq)
        | (have hb : b = true := h17
           subst hb
           rw [ti_1] at h39
           refine ih (i + 1) (b := true) (by omega) (hR.mono hs.rs) (fun σ'' hs' => ?_)
           have hq := kk σ'' (hs.tr hs')
           rw [rM_fi hs]
           have e0 : decide ((ev A (td_iv A m i) (rM σ lt (nn 0))).toInt = 1) = true := decide_eq_true h39
           rw [e0, Bool.true_and, Bool.true_and] at hq
           rw [Bool.true_and]
           exact hq)
    · skip
      refine g_aload_n k127_20 rfl ?_
      refine g_aload_n k127_21 rfl ?_
      refine m_get k127_22 f127_22 rfl rfl ?_
      refine g_bipush (v := nn 6) k127_25 cb_6 ?_
      refine g_iload_n k127_27 rfl ?_
      refine g_imulN k127_28 ?_
      refine g_iload k127_29 rfl ?_
      refine g_iaddN k127_31 ?_
      refine m_iald k127_32 hdy rfl rfl (by omega) (by omega) ?_
      rw [hiv]
      refine g_iload_n k127_33 rfl ?_
      refine g_iconst (v := nn 0) k127_34 ci_0 ?_
      refine m_callV3 k127_35 s127_35 c127_35 l128 (by omega) ⟨rfl, rfl, rfl⟩ rfl r127_35 rfl ?_
      refine s_128 (lt := lt) hdy ok hR hfn rfl (fun σ' hs => ?_)
      refine af_ret ?_
      refine g_iconst (v := nn 1) k127_38 ci_1 ?_
      refine g_icneT k127_39 (t := 46) rfl (fun h39 => ?_) (fun h39 => ?_)
      · skip
        refine g_iconst (v := nn 0) k127_46 ci_0 ?_
        refine g_istore_n k127_47 rfl rfl ?_
        refine g_iincN k127_48 rfl rfl rfl ?_
        refine g_goto k127_51 (t := 5) rfl ?_
        first
          | (have hb : b = false := by simpa using h17
             subst hb
             exact ih (i + 1) (b := false) (by omega) hR (fun σ' hs => by simpa using kk σ' hs))
          | (have hb : b = true := h17
             subst hb
             rw [ti_1] at h39
             refine ih (i + 1) (b := false) (by omega) (hR.mono hs.rs) (fun σ'' hs' => ?_)
             have hq := kk σ'' (hs.tr hs')
             rw [rM_fi hs]
             simpa [h39] using hq)
          | (have hb : b = true := h17
             subst hb
             rw [ti_1] at h39
             refine ih (i + 1) (b := true) (by omega) (hR.mono hs.rs) (fun σ'' hs' => ?_)
             have hq := kk σ'' (hs.tr hs')
             rw [rM_fi hs]
             have e0 : decide ((ev A (td_iv A m i) (rM σ lt (nn 0))).toInt = 1) = true := decide_eq_true h39
             rw [e0, Bool.true_and, Bool.true_and] at hq
             rw [Bool.true_and]
             exact hq)
      · skip
        refine g_iconst (v := nn 1) k127_42 ci_1 ?_
        refine g_goto k127_43 (t := 47) rfl ?_
        refine g_istore_n k127_47 rfl rfl ?_
        refine g_iincN k127_48 rfl rfl rfl ?_
        refine g_goto k127_51 (t := 5) rfl ?_
        first
          | (have hb : b = false := by simpa using h17
             subst hb
             exact ih (i + 1) (b := false) (by omega) hR (fun σ' hs => by simpa using kk σ' hs))
          | (have hb : b = true := h17
             subst hb
             rw [ti_1] at h39
             refine ih (i + 1) (b := false) (by omega) (hR.mono hs.rs) (fun σ'' hs' => ?_)
             have hq := kk σ'' (hs.tr hs')
             rw [rM_fi hs]
             simpa [h39] using hq)
          | (have hb : b = true := h17
             subst hb
             rw [ti_1] at h39
             refine ih (i + 1) (b := true) (by omega) (hR.mono hs.rs) (fun σ'' hs' => ?_)
             have hq := kk σ'' (hs.tr hs')
             rw [rM_fi hs]
             have e0 : decide ((ev A (td_iv A m i) (rM σ lt (nn 0))).toInt = 1) = true := decide_eq_true h39
             rw [e0, Bool.true_and, Bool.true_and] at hq
             rw [Bool.true_and]
             exact hq)
theorem s_127 {lt : Prop} [Decidable lt] (hdy : dy.length < 100000) (ok : TOK A) (hm : m < 2) (hR : RepM A σ) (hl : l = bb lt) (kk : ∀ σ', fi_S σ σ' → Q (.inl (some (.int (bb (td_ho A m (rM σ lt (nn 0)) = true))))) (mk dy σ' ρ τ)) : go (tb_P L xs) 127 0 [some (.ref 24), some (.int (nn m)), some (.int l), none, none] [] (mk dy σ ρ τ) Q := by
  subst hl
  refine g_iconst (v := nn 1) k127_0 ci_1 ?_
  refine g_istore_n k127_1 rfl rfl ?_
  refine g_iconst (v := nn 0) k127_2 ci_0 ?_
  refine g_istore k127_3 rfl rfl ?_
  refine s_127L hdy ok hm (td_ic A m) 0 (b := true) (by omega) hR (fun σ' hs => ?_)
  have hq := kk σ' hs
  unfold td_ho at hq
  rw [Bool.true_and, ← List.range_eq_range']
  exact hq
/-- a state is right -/
def td_ri (A : TD) (rw : Nat → Int32) : Bool := td_ho A 0 rw && td_ho A 1 rw
theorem s_126 {lt : Prop} [Decidable lt] (hdy : dy.length < 100000) (ok : TOK A) (hR : RepM A σ) (hl : l = bb lt) (kk : ∀ σ', fi_S σ σ' → Q (.inl (some (.int (bb (td_ri A (rM σ lt (nn 0)) = true))))) (mk dy σ' ρ τ)) : go (tb_P L xs) 126 0 [some (.ref 24), some (.int l)] [] (mk dy σ ρ τ) Q := by
  subst hl
  unfold td_ri at kk
  refine g_aload_n k126_0 rfl ?_
  refine g_iconst (v := nn 0) k126_1 ci_0 ?_
  refine g_iload_n k126_2 rfl ?_
  refine m_callV2 k126_3 s126_3 c126_3 l127 (by omega) ⟨rfl, rfl⟩ rfl r126_3 rfl ?_
  refine s_127 (lt := lt) hdy ok (by omega) hR rfl (fun σ1 hs1 => ?_)
  refine af_ret ?_
  refine g_ifeqB k126_6 (t := 22) rfl (fun h6 => ?_) (fun h6 => ?_)
  · skip
    refine g_iconst (v := nn 0) k126_22 ci_0 ?_
    refine g_breturn k126_23 t126 (by decide) ?_
    first
      | (have hq := kk σ2 (hs1.tr hs2)
         rw [bb_t (by rw [h6, h15]; rfl)] at hq
         exact hq)
      | (have hq := kk σ2 (hs1.tr hs2)
         rw [bb_f (by simp [h15])] at hq
         exact hq)
      | (have hq := kk σ1 hs1
         rw [bb_f (by simp [h6])] at hq
         exact hq)
  · skip
    refine g_aload_n k126_9 rfl ?_
    refine g_iconst (v := nn 1) k126_10 ci_1 ?_
    refine g_iload_n k126_11 rfl ?_
    refine m_callV2 k126_12 s126_12 c126_12 l127 (by omega) ⟨rfl, rfl⟩ rfl r126_12 rfl ?_
    refine s_127 (lt := lt) hdy ok (by omega) (hR.mono hs1.rs) rfl (fun σ2 hs2 => ?_)
    refine af_ret ?_
    rw [rM_fi hs1]
    refine g_ifeqB k126_15 (t := 22) rfl (fun h15 => ?_) (fun h15 => ?_)
    · skip
      refine g_iconst (v := nn 0) k126_22 ci_0 ?_
      refine g_breturn k126_23 t126 (by decide) ?_
      first
        | (have hq := kk σ2 (hs1.tr hs2)
           rw [bb_t (by rw [h6, h15]; rfl)] at hq
           exact hq)
        | (have hq := kk σ2 (hs1.tr hs2)
           rw [bb_f (by simp [h15])] at hq
           exact hq)
        | (have hq := kk σ1 hs1
           rw [bb_f (by simp [h6])] at hq
           exact hq)
    · skip
      refine g_iconst (v := nn 1) k126_18 ci_1 ?_
      refine g_goto k126_19 (t := 23) rfl ?_
      refine g_breturn k126_23 t126 (by decide) ?_
      first
        | (have hq := kk σ2 (hs1.tr hs2)
           rw [bb_t (by rw [h6, h15]; rfl)] at hq
           exact hq)
        | (have hq := kk σ2 (hs1.tr hs2)
           rw [bb_f (by simp [h15])] at hq
           exact hq)
        | (have hq := kk σ1 hs1
           rw [bb_f (by simp [h6])] at hq
           exact hq)
/-- an event may be done, as far as its guard goes -/
def td_en (A : TD) (e : Nat) (rw : Nat → Int32) : Bool := match td_gd A e with
  | none => true
  | some f => decide ((ev A f rw).toInt = 1)
def td_wi (A : TD) (e : Nat) (rw : Nat → Int32) : Int32 := match td_wt A e with
  | none => nn 0
  | some f => ev A f rw
theorem oi_none : oi none = -1 := rfl
theorem oi_some (k : Nat) : oi (some k) = nn k := rfl
theorem ti_nn_m1 {k : Nat} (h : k < 2147483648) : (nn k).toInt ≠ (-1 : Int32).toInt := by
  rw [nn_toInt h, ti_m1]
  omega
theorem s_132 (hdy : dy.length < 100000) (ok : TOK A) (he : e < td_ne A) (hR : RepM A σ) (kk : ∀ σ', fi_S σ σ' → Q (.inl (some (.int (bb (td_en A e (rM σ False prm) = true))))) (mk dy σ' ρ τ)) : go (tb_P L xs) 132 0 [some (.ref 24), some (.int (nn e)), some (.int prm)] [] (mk dy σ ρ τ) Q := by
  have hg := (hR.2.1.2 e he).2.2.2.1
  have hne := ok.2.2.1
  cases hc : td_gd A e with
  | none =>
    rw [hc, oi_none] at hg
    unfold td_en at kk
    rw [hc] at kk
    refine g_aload_n k132_0 rfl ?_
    refine m_get k132_1 f132_1 rfl rfl ?_
    refine g_iload_n k132_4 rfl ?_
    refine m_iald k132_5 hdy rfl rfl (by omega) (by omega) ?_
    rw [hg]
    refine g_iconst (v := -1) k132_6 ci_m1 ?_
    refine g_iceq_t k132_7 (t := 26) rfl rfl ?_
    refine g_iconst (v := nn 1) k132_26 ci_1 ?_
    refine g_goto k132_27 (t := 31) rfl ?_
    refine g_breturn k132_31 t132 (by decide) ?_
    exact kk σ (fi_S.rf σ)
  | some f =>
    rw [hc, oi_some] at hg
    have hf := ((ok.2.2.2.1 e he).2.2.2.1 f hc).1
    have hnf := ok.1
    unfold td_en at kk
    rw [hc] at kk
    refine g_aload_n k132_0 rfl ?_
    refine m_get k132_1 f132_1 rfl rfl ?_
    refine g_iload_n k132_4 rfl ?_
    refine m_iald k132_5 hdy rfl rfl (by omega) (by omega) ?_
    rw [hg]
    refine g_iconst (v := -1) k132_6 ci_m1 ?_
    refine g_iceq_f k132_7 (t := 26) rfl (fun q => ti_nn_m1 (k := f) (by omega) (congrArg Int32.toInt q)) ?_
    refine g_aload_n k132_10 rfl ?_
    refine g_aload_n k132_11 rfl ?_
    refine m_get k132_12 f132_12 rfl rfl ?_
    refine g_iload_n k132_15 rfl ?_
    refine m_iald k132_16 hdy rfl rfl (by omega) (by omega) ?_
    rw [hg]
    refine g_iconst (v := nn 0) k132_17 ci_0 ?_
    refine g_iload_n k132_18 rfl ?_
    refine m_callV3 k132_19 s132_19 c132_19 l128 (by omega) ⟨rfl, rfl, rfl⟩ rfl r132_19 rfl ?_
    refine s_128 (lt := False) hdy ok hR hf rfl (fun σ1 hs1 => ?_)
    refine af_ret ?_
    refine g_iconst (v := nn 1) k132_22 ci_1 ?_
    refine g_icneT k132_23 (t := 30) rfl (fun h23 => ?_) (fun h23 => ?_)
    · skip
      refine g_iconst (v := nn 0) k132_30 ci_0 ?_
      refine g_breturn k132_31 t132 (by decide) ?_
      have hq := kk σ1 hs1
      rw [ti_1] at h23
      first | (rw [bb_t (decide_eq_true h23)] at hq; exact hq) | (rw [bb_f (by simpa using h23)] at hq; exact hq)
    · skip
      refine g_iconst (v := nn 1) k132_26 ci_1 ?_
      refine g_goto k132_27 (t := 31) rfl ?_
      refine g_breturn k132_31 t132 (by decide) ?_
      have hq := kk σ1 hs1
      rw [ti_1] at h23
      first | (rw [bb_t (decide_eq_true h23)] at hq; exact hq) | (rw [bb_f (by simpa using h23)] at hq; exact hq)
theorem s_137 (hdy : dy.length < 100000) (ok : TOK A) (he : e < td_ne A) (hR : RepM A σ) (kk : ∀ σ', fi_S σ σ' → Q (.inl (some (.int (td_wi A e (rM σ False prm))))) (mk dy σ' ρ τ)) : go (tb_P L xs) 137 0 [some (.ref 24), some (.int (nn e)), some (.int prm)] [] (mk dy σ ρ τ) Q := by
  have hg := (hR.2.1.2 e he).2.2.2.2
  have hne := ok.2.2.1
  cases hc : td_wt A e with
  | none =>
    rw [hc, oi_none] at hg
    unfold td_wi at kk
    rw [hc] at kk
    refine g_aload_n k137_0 rfl ?_
    refine m_get k137_1 f137_1 rfl rfl ?_
    refine g_iload_n k137_4 rfl ?_
    refine m_iald k137_5 hdy rfl rfl (by omega) (by omega) ?_
    rw [hg]
    refine g_iconst (v := -1) k137_6 ci_m1 ?_
    refine g_icne_f k137_7 (t := 14) rfl rfl ?_
    refine g_iconst (v := nn 0) k137_10 ci_0 ?_
    refine g_goto k137_11 (t := 26) rfl ?_
    refine g_ireturn k137_26 t137 ?_
    exact kk σ (fi_S.rf σ)
  | some f =>
    rw [hc, oi_some] at hg
    have hf := ((ok.2.2.2.1 e he).2.2.2.2.1 f hc).1
    have hnf := ok.1
    unfold td_wi at kk
    rw [hc] at kk
    refine g_aload_n k137_0 rfl ?_
    refine m_get k137_1 f137_1 rfl rfl ?_
    refine g_iload_n k137_4 rfl ?_
    refine m_iald k137_5 hdy rfl rfl (by omega) (by omega) ?_
    rw [hg]
    refine g_iconst (v := -1) k137_6 ci_m1 ?_
    refine g_icne_t k137_7 (t := 14) rfl (fun q => ti_nn_m1 (k := f) (by omega) (congrArg Int32.toInt q)) ?_
    refine g_aload_n k137_14 rfl ?_
    refine g_aload_n k137_15 rfl ?_
    refine m_get k137_16 f137_16 rfl rfl ?_
    refine g_iload_n k137_19 rfl ?_
    refine m_iald k137_20 hdy rfl rfl (by omega) (by omega) ?_
    rw [hg]
    refine g_iconst (v := nn 0) k137_21 ci_0 ?_
    refine g_iload_n k137_22 rfl ?_
    refine m_callV3 k137_23 s137_23 c137_23 l128 (by omega) ⟨rfl, rfl, rfl⟩ rfl r137_23 rfl ?_
    refine s_128 (lt := False) hdy ok hR hf rfl (fun σ1 hs1 => ?_)
    refine af_ret ?_
    refine g_ireturn k137_26 t137 ?_
    exact kk σ1 hs1
end TA
