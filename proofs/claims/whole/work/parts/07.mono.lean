/-! The abstract heap never shrinks; more fuel gives the same end. -/
section AV
def am_le (h h' : am_H) : Prop := h.length ≤ h'.length ∧ am_sl h ≤ am_sl h'
theorem am_le.rf (h : am_H) : am_le h h := ⟨Nat.le_refl _, Nat.le_refl _⟩
theorem am_le.tr {h h1 h2 : am_H} (a : am_le h h1) (b : am_le h1 h2) : am_le h h2 := ⟨Nat.le_trans a.1 b.1, Nat.le_trans a.2 b.2⟩
/-- all that an instruction may give -/
def am_al (Pp : am_O → Prop) (o : Option am_O) : Prop := ∀ x, o = some x → Pp x
variable {Pp : am_O → Prop} {h : am_H} {st : List Value} {lo : am_L} {pc : Nat}
theorem am_al_none : am_al Pp none := fun _ e => by cases e
theorem am_al_inr {x : (Nat × List Value × List Value) ⊕ am_A} (hx : Pp (.inr x)) : am_al Pp (some (.inr x)) := fun _ e => by
  cases e
  exact hx
theorem am_al_nx {h1 : am_H} (hh : Pp (.inl (pc, lo, st, h1))) : am_al Pp (am_nx pc lo st h1) := fun _ e => by
  unfold am_nx at e
  cases e
  exact hh
theorem am_al_if {c : Prop} [Decidable c] {x z : Option am_O} (hx : c → am_al Pp x) (hz : am_al Pp z) : am_al Pp (if c then x else z) := by
  split
  · exact hx (by assumption)
  · exact hz
theorem am_al_i1 {k : Int32 → List Value → Option am_O} (hk : ∀ x r, am_al Pp (k x r)) : am_al Pp (am_i1 st k) := by
  unfold am_i1; split
  · exact hk _ _
  · exact am_al_none
theorem am_al_i2 {k : Int32 → Int32 → List Value → Option am_O} (hk : ∀ x y r, am_al Pp (k x y r)) : am_al Pp (am_i2 st k) := by
  unfold am_i2; split
  · exact hk _ _ _
  · exact am_al_none
theorem am_al_j2 {k : Int64 → Int64 → List Value → Option am_O} (hk : ∀ x y r, am_al Pp (k x y r)) : am_al Pp (am_j2 st k) := by
  unfold am_j2; split
  · exact hk _ _ _
  · exact am_al_none
theorem am_al_ij {k : Int64 → Int32 → List Value → Option am_O} (hk : ∀ x y r, am_al Pp (k x y r)) : am_al Pp (am_ij st k) := by
  unfold am_ij; split
  · exact hk _ _ _
  · exact am_al_none
theorem am_al_r1 {k : Nat → List Value → Option am_O} (hk : ∀ x r, st = .ref x :: r → am_al Pp (k x r)) : am_al Pp (am_r1 st k) := by
  unfold am_r1; split
  · exact hk _ _ rfl
  · exact am_al_none
theorem am_al_ir {k : Int32 → Nat → List Value → Option am_O} (hk : ∀ x y r, am_al Pp (k x y r)) : am_al Pp (am_ir st k) := by
  unfold am_ir; split
  · exact hk _ _ _
  · exact am_al_none
theorem am_al_vr {k : Value → Nat → List Value → Option am_O} (hk : ∀ x y r, am_al Pp (k x y r)) : am_al Pp (am_vr st k) := by
  unfold am_vr; split
  · exact hk _ _ _
  · exact am_al_none
theorem am_al_vir {k : Value → Int32 → Nat → List Value → Option am_O} (hk : ∀ v x y r, am_al Pp (k v x y r)) : am_al Pp (am_vir st k) := by
  unfold am_vir; split
  · exact hk _ _ _ _
  · exact am_al_none
theorem am_al_cy {k : Nat → Int32 → Nat → Int32 → Int32 → List Value → Option am_O} (hk : ∀ a b c d e r, am_al Pp (k a b c d e r)) : am_al Pp (am_cy st k) := by
  unfold am_cy; split
  · exact hk _ _ _ _ _ _
  · exact am_al_none
theorem am_al_as {n : Nat} {k : List Value → List Value → Option am_O} (hk : n ≤ st.length → am_al Pp (k (st.take n).reverse (st.drop n))) : am_al Pp (am_as n st k) := by
  unfold am_as
  exact am_al_if hk am_al_none
theorem am_al_to {off : Int} {k : Nat → Option am_O} (hk : ∀ t, am_al Pp (k t)) : am_al Pp (am_to pc off k) := by
  unfold am_to
  exact am_al_if (fun _ => hk _) am_al_none
theorem am_al_gI {a : Nat} {k : Nat → (Nat → Int32) → Option am_O} (hk : ∀ n f, h[a]? = some (am_I n f) → am_al Pp (k n f)) : am_al Pp (am_gI h a k) := by
  unfold am_gI; split
  · exact hk _ _ (by assumption)
  · exact am_al_none
theorem am_al_gJ {a : Nat} {k : Nat → (Nat → Int64) → Option am_O} (hk : ∀ n f, h[a]? = some (am_J n f) → am_al Pp (k n f)) : am_al Pp (am_gJ h a k) := by
  unfold am_gJ; split
  · exact hk _ _ (by assumption)
  · exact am_al_none
theorem am_al_gZ {a : Nat} {k : Nat → (Nat → Int32) → Option am_O} (hk : ∀ n f, h[a]? = some (am_Z n f) → am_al Pp (k n f)) : am_al Pp (am_gZ h a k) := by
  unfold am_gZ; split
  · exact hk _ _ (by assumption)
  · exact am_al_none
theorem am_al_gR {a : Nat} {k : Nat → Nat → (Nat → Option Nat) → Option am_O} (hk : ∀ t n f, h[a]? = some (am_R t n f) → am_al Pp (k t n f)) : am_al Pp (am_gR h a k) := by
  unfold am_gR; split
  · exact hk _ _ _ (by assumption)
  · exact am_al_none
theorem am_al_gB {a : Nat} {k : Nat → List Value → Option am_O} (hk : ∀ c fs, h[a]? = some (am_B c fs) → am_al Pp (k c fs)) : am_al Pp (am_gB h a k) := by
  unfold am_gB; split
  · exact hk _ _ (by assumption)
  · exact am_al_none
theorem am_al_li {k : Nat} (hN : ∀ pc lo st, Pp (.inl (pc, lo, st, h))) : am_al Pp (am_li pc k lo st h) := by
  unfold am_li; split
  · exact (am_al_nx (hN _ _ _))
  · exact am_al_none
theorem am_al_lj {k : Nat} (hN : ∀ pc lo st, Pp (.inl (pc, lo, st, h))) : am_al Pp (am_lj pc k lo st h) := by
  unfold am_lj; split
  · exact (am_al_nx (hN _ _ _))
  · exact am_al_none
theorem am_al_la {k : Nat} (hN : ∀ pc lo st, Pp (.inl (pc, lo, st, h))) : am_al Pp (am_la pc k lo st h) := by
  unfold am_la; split
  · exact (am_al_nx (hN _ _ _))
  · exact (am_al_nx (hN _ _ _))
  · exact am_al_none
theorem am_al_s1 {k : Nat} {v : Value} (hN : ∀ pc lo st, Pp (.inl (pc, lo, st, h))) : am_al Pp (am_s1 pc k v lo st h) := by
  unfold am_s1
  exact am_al_if (fun _ => (am_al_nx (hN _ _ _))) am_al_none
theorem am_al_s2 {k : Nat} {v : Value} (hN : ∀ pc lo st, Pp (.inl (pc, lo, st, h))) : am_al Pp (am_s2 pc k v lo st h) := by
  unfold am_s2
  exact am_al_if (fun _ => (am_al_nx (hN _ _ _))) am_al_none
theorem am_al_si {k : Nat} (hN : ∀ pc lo st, Pp (.inl (pc, lo, st, h))) : am_al Pp (am_si pc k lo st h) := by
  unfold am_si; split
  · exact am_al_s1 hN
  · exact am_al_none
theorem am_al_sj {k : Nat} (hN : ∀ pc lo st, Pp (.inl (pc, lo, st, h))) : am_al Pp (am_sj pc k lo st h) := by
  unfold am_sj; split
  · exact am_al_s2 hN
  · exact am_al_none
theorem am_al_sa {k : Nat} (hN : ∀ pc lo st, Pp (.inl (pc, lo, st, h))) : am_al Pp (am_sa pc k lo st h) := by
  unfold am_sa; split
  · exact am_al_s1 hN
  · exact am_al_s1 hN
  · exact am_al_none
theorem am_al_call {P : am_P} {y z : Nat} {as r : List Value} (hC : (decide (am_rf (am_me P z) + 1 ≤ am_rf (am_me P y)) && decide (am_wd r + (am_ml (am_me P z) + 11) + am_rl (am_me P z) ≤ am_rl (am_me P y))) = true → Pp (.inr (.inl (z, as, r)))) : am_al Pp (am_call P y z as r) := by
  unfold am_call
  exact am_al_if (fun q => am_al_inr (hC q)) am_al_none
def am_mo (h : am_H) (x : am_O) : Prop := match x with
  | .inl (_, _, _, h') => am_le h h'
  | _ => True
theorem am_ez_set {c k : Nat} {fs : List Value} {v : Value} (hk : k < fs.length) : am_ez (.inr (c, fs.set k v)) = am_ez (.inr (c, fs)) := by
  cases fs with
  | nil => simp at hk
  | cons x t => cases k <;> simp [am_ez]
theorem am_le_push (h : am_H) (x : am_E) : am_le h (h ++ [x]) := ⟨by simp, by rw [am_sl_push]; omega⟩
theorem am_le_set {h : am_H} {a : Nat} {x z : am_E} (ha : h[a]? = some x) (hz : am_ez z = am_ez x) : am_le h (h.set a z) := ⟨by simp, by rw [am_sl_set ha hz]; exact Nat.le_refl _⟩
set_option maxHeartbeats 4000000 in
theorem am_ex_mo (P : am_P) (y pc : Nat) (i : Instr) (lo : am_L) (st : List Value) (h : am_H) : am_al (am_mo h) (am_ex P y pc i lo st h) := by
  cases i <;> simp only [am_ex] <;> repeat' (first
    | exact am_al_none | exact am_al_nx (am_le.rf h) | exact am_al_nx (am_le_push h _) | exact am_al_inr (trivial) | exact am_al_call (fun _ => trivial) | exact am_al_li (fun _ _ _ => am_le.rf h) | exact am_al_lj (fun _ _ _ => am_le.rf h) | exact am_al_la (fun _ _ _ => am_le.rf h) | exact am_al_si (fun _ _ _ => am_le.rf h) | exact am_al_sj (fun _ _ _ => am_le.rf h) | exact am_al_sa (fun _ _ _ => am_le.rf h) | exact am_al_s1 (fun _ _ _ => am_le.rf h)
    | (refine am_al_nx (am_le_set (by assumption) ?_); rfl)
    | (refine am_al_i2 fun _ _ _ => ?_) | (refine am_al_i1 fun _ _ => ?_) | (refine am_al_j2 fun _ _ _ => ?_) | (refine am_al_ij fun _ _ _ => ?_) | (refine am_al_r1 fun _ _ _ => ?_) | (refine am_al_ir fun _ _ _ => ?_) | (refine am_al_vr fun _ _ _ => ?_) | (refine am_al_vir fun _ _ _ _ => ?_) | (refine am_al_cy fun _ _ _ _ _ _ => ?_) | (refine am_al_as fun _ => ?_) | (refine am_al_to fun _ => ?_)
    | (refine am_al_gI fun _ _ _ => ?_) | (refine am_al_gJ fun _ _ _ => ?_) | (refine am_al_gZ fun _ _ _ => ?_) | (refine am_al_gR fun _ _ _ _ => ?_) | (refine am_al_gB fun _ _ _ => ?_)
    | (refine am_al_if (fun hq => am_al_nx (am_le_set (by assumption) (am_ez_set hq.2.1))) am_al_none)
    | (refine am_al_if (fun _ => ?_) ?_)
    | split)
theorem am_st_mo (P : am_P) (y pc : Nat) (lo : am_L) (st : List Value) (h : am_H) : am_al (am_mo h) (am_st P y pc lo st h) := by
  unfold am_st
  split
  · exact am_al_if (fun _ => am_ex_mo P y pc _ lo st h) am_al_none
  · exact am_al_none
theorem am_run_le (P : am_P) : ∀ (n y pc : Nat) (lo : am_L) (st : List Value) (h : am_H) (o : am_A) (h' : am_H), am_run P n y pc lo st h = some (o, h') → am_le h h'
  | 0, y, pc, lo, st, h, o, h', hx => by cases hx
  | n + 1, y, pc, lo, st, h, o, h', hx => by
    unfold am_run at hx
    split at hx
    · cases hx
    · rename_i pc1 lo1 st1 h1 hs
      exact am_le.tr (am_st_mo P y pc lo st h _ hs) (am_run_le P n y pc1 lo1 st1 h1 o h' hx)
    · rename_i z as rest hs
      split at hx
      · cases hx
      · rename_i l0 h0
        split at hx
        · cases hx
        · rename_i v h1 hr
          exact (am_run_le P n z 0 l0 [] h _ h1 hr).tr (am_run_le P n y (pc + 3) lo _ h1 o h' hx)
        · rename_i E h1 hr
          have e1 := am_run_le P n z 0 l0 [] h _ h1 hr
          split at hx
          · cases hx
            exact e1
          · split at hx
            · split at hx
              · exact e1.tr (am_run_le P n y _ _ _ h1 o h' hx)
              · cases hx
            · cases hx
    · cases hx
      exact am_le.rf h
    · split at hx
      · cases hx
        exact am_le_push h _
      · cases hx
/-- what a call is -/
def am_cv (P : am_P) (y : Nat) (i : Instr) (st : List Value) (h : am_H) (x : am_O) : Prop := ∀ (z : Nat) (as rest : List Value), x = .inr (.inl (z, as, rest)) → ∃ ix n k : Nat, am_ca P y ix = some (z, n, k) ∧ n ≤ st.length ∧ (decide (am_rf (am_me P z) + 1 ≤ am_rf (am_me P y)) && decide (am_wd rest + (am_ml (am_me P z) + 11) + am_rl (am_me P z) ≤ am_rl (am_me P y))) = true ∧
  ((k = 0 ∧ i = .invokestatic ix ∧ as = (st.take n).reverse ∧ rest = st.drop n) ∨
   (k = 1 ∧ i = .invokevirtual ix ∧ ∃ (a : Nat) (fs : List Value), as = .ref a :: (st.take n).reverse ∧ st.drop n = .ref a :: rest ∧ h[a]? = some (am_B (am_rc P z) fs)) ∨
   (k = 2 ∧ i = .invokespecial ix ∧ ∃ a : Nat, as = .ref a :: (st.take n).reverse ∧ st.drop n = .ref a :: rest))
theorem am_cv0 {P : am_P} {y : Nat} {i : Instr} {st : List Value} {h : am_H} {q : Nat × am_L × List Value × am_H} : am_cv P y i st h (.inl q) := fun _ _ _ e => by cases e
theorem am_cv1 {P : am_P} {y : Nat} {i : Instr} {st : List Value} {h : am_H} {q : am_A} : am_cv P y i st h (.inr (.inr q)) := fun _ _ _ e => by cases e
set_option maxHeartbeats 4000000 in
theorem am_ex_cv (P : am_P) (y pc : Nat) (i : Instr) (lo : am_L) (st : List Value) (h : am_H) : am_al (am_cv P y i st h) (am_ex P y pc i lo st h) := by
  cases i <;> simp only [am_ex] <;> repeat' (first
    | exact am_al_none | exact am_al_nx (am_cv0) | exact am_al_nx (am_cv0) | exact am_al_inr (am_cv1) | (refine am_al_call (fun hr => ?_); intro z' as' rest' he; cases he; first | exact ⟨_, _, 0, by assumption, by assumption, hr, Or.inl ⟨rfl, rfl, rfl, rfl⟩⟩ | exact ⟨_, _, 1, by assumption, by assumption, hr, Or.inr (Or.inl ⟨rfl, rfl, _, _, rfl, by assumption, by subst_vars; assumption⟩)⟩ | exact ⟨_, _, 2, by assumption, by assumption, hr, Or.inr (Or.inr ⟨rfl, rfl, _, rfl, by assumption⟩)⟩) | exact am_al_li (fun _ _ _ => am_cv0) | exact am_al_lj (fun _ _ _ => am_cv0) | exact am_al_la (fun _ _ _ => am_cv0) | exact am_al_si (fun _ _ _ => am_cv0) | exact am_al_sj (fun _ _ _ => am_cv0) | exact am_al_sa (fun _ _ _ => am_cv0) | exact am_al_s1 (fun _ _ _ => am_cv0)
    | exact am_al_nx (am_cv0)
    | (refine am_al_i2 fun _ _ _ => ?_) | (refine am_al_i1 fun _ _ => ?_) | (refine am_al_j2 fun _ _ _ => ?_) | (refine am_al_ij fun _ _ _ => ?_) | (refine am_al_r1 fun _ _ _ => ?_) | (refine am_al_ir fun _ _ _ => ?_) | (refine am_al_vr fun _ _ _ => ?_) | (refine am_al_vir fun _ _ _ _ => ?_) | (refine am_al_cy fun _ _ _ _ _ _ => ?_) | (refine am_al_as fun _ => ?_) | (refine am_al_to fun _ => ?_)
    | (refine am_al_gI fun _ _ _ => ?_) | (refine am_al_gJ fun _ _ _ => ?_) | (refine am_al_gZ fun _ _ _ => ?_) | (refine am_al_gR fun _ _ _ _ => ?_) | (refine am_al_gB fun _ _ _ => ?_)
    | (refine am_al_if (fun _ => ?_) ?_)
    | split)
/-- how a method's end comes about -/
def am_ev (P : am_P) (y pc : Nat) (i : Instr) (st : List Value) (x : am_O) : Prop := (∀ v, x = .inr (.inr (.inl v)) → i = .ireturn ∨ i = .areturn ∨ i = .return_) ∧ ∀ E, x = .inr (.inr (.inr E)) → ∃ ix ic : Nat, i = .new ix ∧ am_nw P y ix = none ∧ am_xn P y ix ic = some E ∧ decode (am_cd (am_me P y)) (pc + 3) = .ok (.dup, 1) ∧ decode (am_cd (am_me P y)) (pc + 4) = .ok (.invokespecial ic, 3) ∧ decode (am_cd (am_me P y)) (pc + 7) = .ok (.athrow, 1) ∧ 5 < am_rf (am_me P y) ∧ am_wd st + 82 ≤ am_rl (am_me P y)
theorem am_ev0 {P : am_P} {y pc : Nat} {i : Instr} {st : List Value} {q : Nat × am_L × List Value × am_H} : am_ev P y pc i st (.inl q) := ⟨fun _ e => (by cases e), fun _ e => (by cases e)⟩
theorem am_ev1 {P : am_P} {y pc : Nat} {i : Instr} {st : List Value} {q : Nat × List Value × List Value} : am_ev P y pc i st (.inr (.inl q)) := ⟨fun _ e => (by cases e), fun _ e => (by cases e)⟩
theorem am_ev2 {P : am_P} {y pc : Nat} {i : Instr} {st : List Value} {v : Option Value} (hi : (decide (i = .ireturn) || decide (i = .areturn) || decide (i = .return_)) = true) : am_ev P y pc i st (.inr (.inr (.inl v))) := by
  refine ⟨fun _ _ => ?_, fun _ e => (by cases e)⟩
  simp only [Bool.or_eq_true, decide_eq_true_eq] at hi
  rcases hi with (hi | hi) | hi
  · exact Or.inl hi
  · exact Or.inr (Or.inl hi)
  · exact Or.inr (Or.inr hi)
theorem am_ev3 {P : am_P} {y pc : Nat} {st : List Value} {E ix ic : Nat} (h1 : am_nw P y ix = none) (h2 : am_xn P y ix ic = some E) (h3 : decode (am_cd (am_me P y)) (pc + 3) = .ok (.dup, 1)) (h4 : decode (am_cd (am_me P y)) (pc + 4) = .ok (.invokespecial ic, 3)) (h5 : decode (am_cd (am_me P y)) (pc + 7) = .ok (.athrow, 1)) (h6 : 5 < am_rf (am_me P y) ∧ am_wd st + 82 ≤ am_rl (am_me P y)) : am_ev P y pc (.new ix) st (.inr (.inr (.inr E))) := ⟨fun _ e => (by cases e), fun _ e => by cases e; exact ⟨ix, ic, rfl, h1, h2, h3, h4, h5, h6⟩⟩
set_option maxHeartbeats 4000000 in
theorem am_ex_ev (P : am_P) (y pc : Nat) (i : Instr) (lo : am_L) (st : List Value) (h : am_H) : am_al (am_ev P y pc i st) (am_ex P y pc i lo st h) := by
  cases i <;> simp only [am_ex] <;> repeat' (first
    | exact am_al_none | exact am_al_nx (am_ev0) | exact am_al_nx (am_ev0) | exact am_al_inr (am_ev2 rfl) | exact am_al_inr (am_ev3 (by assumption) (by assumption) (by assumption) (by assumption) (by assumption) (by assumption)) | exact am_al_call (fun _ => am_ev1) | exact am_al_li (fun _ _ _ => am_ev0) | exact am_al_lj (fun _ _ _ => am_ev0) | exact am_al_la (fun _ _ _ => am_ev0) | exact am_al_si (fun _ _ _ => am_ev0) | exact am_al_sj (fun _ _ _ => am_ev0) | exact am_al_sa (fun _ _ _ => am_ev0) | exact am_al_s1 (fun _ _ _ => am_ev0)
    | exact am_al_nx (am_ev0)
    | (refine am_al_i2 fun _ _ _ => ?_) | (refine am_al_i1 fun _ _ => ?_) | (refine am_al_j2 fun _ _ _ => ?_) | (refine am_al_ij fun _ _ _ => ?_) | (refine am_al_r1 fun _ _ _ => ?_) | (refine am_al_ir fun _ _ _ => ?_) | (refine am_al_vr fun _ _ _ => ?_) | (refine am_al_vir fun _ _ _ _ => ?_) | (refine am_al_cy fun _ _ _ _ _ _ => ?_) | (refine am_al_as fun _ => ?_) | (refine am_al_to fun _ => ?_)
    | (refine am_al_gI fun _ _ _ => ?_) | (refine am_al_gJ fun _ _ _ => ?_) | (refine am_al_gZ fun _ _ _ => ?_) | (refine am_al_gR fun _ _ _ _ => ?_) | (refine am_al_gB fun _ _ _ => ?_)
    | (refine am_al_if (fun _ => ?_) ?_)
    | split)
end AV
