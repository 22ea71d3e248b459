/-! The least row of a box of which something is said. -/
section XD
variable {sz lim lim' : Nat → Nat} {r : Nat} {d D D' : Nat → Nat} {bad : (Nat → Nat) → Bool} {M : Nat → Bool}
def bx (lim : Nat → Nat) (r : Nat) (d : Nat → Nat) : Prop := ∀ v, v < r → d v < lim v
theorem lx_tri : ∀ (r : Nat) {a b : Nat → Nat}, (∀ v, v < r → a v = b v) ∨ lx r a b ∨ lx r b a
  | 0, a, b => Or.inl (fun v hv => by omega)
  | r + 1, a, b => by
    rcases lx_tri r (a := a) (b := b) with h | ⟨i, h1, h2, h3⟩ | ⟨i, h1, h2, h3⟩
    · by_cases c : a r = b r
      · refine Or.inl (fun v hv => ?_)
        by_cases hv2 : v = r
        · rw [hv2]; exact c
        · exact h v (by omega)
      · by_cases c2 : a r < b r
        · exact Or.inr (Or.inl ⟨r, by omega, c2, h⟩)
        · exact Or.inr (Or.inr ⟨r, by omega, by omega, fun v hv => (h v hv).symm⟩)
    · exact Or.inr (Or.inl ⟨i, by omega, h2, h3⟩)
    · exact Or.inr (Or.inr ⟨i, by omega, h2, h3⟩)
theorem vl_inj {a b : Nat → Nat} (ha : bx sz r a) (hb : bx sz r b) (h : vl sz r a = vl sz r b) : ∀ v, v < r → a v = b v := by
  rcases lx_tri r (a := a) (b := b) with h1 | h1 | h1
  · exact h1
  · have := vl_lx r ha hb h1
    omega
  · have := vl_lx r hb ha h1
    omega
theorem vl_le {a b : Nat → Nat} (ha : bx sz r a) (hb : bx sz r b) (h : vl sz r a < vl sz r b) : lx r a b := by
  rcases lx_tri r (a := a) (b := b) with h1 | h1 | h1
  · have := vl_congr (sz := sz) r h1
    omega
  · exact h1
  · have := vl_lx r hb ha h1
    omega
/-- the least of a box -/
def LST (bad : (Nat → Nat) → Bool) (lim : Nat → Nat) (D : Nat → Nat) : Prop := bx lim 7 D ∧ bad D = true ∧ ∀ D', bx lim 7 D' → bad D' = true → ¬ lx 7 D' D
theorem LST.uni (h1 : LST bad lim D) (h2 : LST bad lim D') : ∀ v, v < 7 → D v = D' v := by
  rcases lx_tri 7 (a := D) (b := D') with h | h | h
  · exact h
  · exact absurd h (h2.2.2 D h1.1 h1.2.1)
  · exact absurd h (h1.2.2 D' h2.1 h2.2.1)
theorem box_no (hl : ∀ v, v < 7 → lim' v = if M v = true then lim v else 1) (ind : ∀ D D', bx lim 7 D → bx lim 7 D' → (∀ v, v < 7 → M v = true → D v = D' v) → bad D = bad D') (h : ∀ D, bx lim' 7 D → bad D = false) : ∀ D, bx lim 7 D → bad D = false := by
  intro D hD
  rw [ind D (fun v => if M v = true then D v else 0) hD (fun v hv => ?_) (fun v hv hM => ?_)]
  · refine h _ (fun v hv => ?_)
    rw [hl v hv]
    show (if M v = true then D v else 0) < if M v = true then lim v else 1
    split
    · exact hD v hv
    · omega
  · show (if M v = true then D v else 0) < lim v
    have := hD v hv
    split <;> omega
  · show D v = if M v = true then D v else 0
    rw [if_pos hM]
theorem box_lst (hl : ∀ v, v < 7 → lim' v = if M v = true then lim v else 1) (pos : ∀ v, v < 7 → 1 ≤ lim v) (ind : ∀ D D', bx lim 7 D → bx lim 7 D' → (∀ v, v < 7 → M v = true → D v = D' v) → bad D = bad D') (h : LST bad lim' D) : LST bad lim D := by
  obtain ⟨h1, h2, h3⟩ := h
  refine ⟨fun v hv => ?_, h2, fun D' hD' hb hx => ?_⟩
  · have g := h1 v hv
    rw [hl v hv] at g
    have := pos v hv
    split at g <;> omega
  · have b' : bx lim 7 (fun v => if M v = true then D' v else 0) := fun v hv => by
      show (if M v = true then D' v else 0) < lim v
      have := hD' v hv
      split <;> omega
    refine h3 (fun v => if M v = true then D' v else 0) (fun v hv => ?_) ?_ ?_
    · rw [hl v hv]
      show (if M v = true then D' v else 0) < if M v = true then lim v else 1
      split
      · exact hD' v hv
      · omega
    · rw [← ind D' (fun v => if M v = true then D' v else 0) hD' b' (fun v hv hM => by
        show D' v = if M v = true then D' v else 0
        rw [if_pos hM])]
      exact hb
    · obtain ⟨i, i1, i2, i3⟩ := hx
      have z : ∀ v, v < 7 → M v ≠ true → D v = 0 := fun v hv hM => by
        have g := h1 v hv
        rw [hl v hv, if_neg hM] at g
        omega
      refine ⟨i, i1, ?_, fun v hv => ?_⟩
      · show (if M i = true then D' i else 0) < D i
        by_cases c : M i = true
        · rw [if_pos c]; exact i2
        · have := z i i1 c
          omega
      · show (if M v = true then D' v else 0) = D v
        by_cases c : M v = true
        · rw [if_pos c]; exact i3 v hv
        · rw [if_neg c, z v (by omega) c]
/-- what a search finds -/
theorem sch_spec {bp : (Nat → Nat) → Option Nat} : ∀ (n : Nat) {d : Nat → Nat}, bx sz r d → vl sz r d + n = pd sz r → (sch bp sz r n d = none → ∀ d', bx sz r d' → (∀ v, r ≤ v → d' v = d v) → vl sz r d ≤ vl sz r d' → bp d' = none) ∧ (∀ d1 p, sch bp sz r n d = some (d1, p) → bx sz r d1 ∧ (∀ v, r ≤ v → d1 v = d v) ∧ bp d1 = some p ∧ ∀ d', bx sz r d' → (∀ v, r ≤ v → d' v = d v) → vl sz r d ≤ vl sz r d' → vl sz r d' < vl sz r d1 → bp d' = none) := by
  intro n
  induction n with
  | zero =>
    intro d hd hn
    have := vl_lt r hd
    omega
  | succ n ih =>
    intro d hd hn
    have same : ∀ d', bx sz r d' → (∀ v, r ≤ v → d' v = d v) → vl sz r d' = vl sz r d → d' = d := fun d' h1 h2 h3 => by
      funext v
      by_cases hv : v < r
      · exact vl_inj h1 hd h3 v hv
      · exact h2 v (by omega)
    obtain ⟨c1, c2, c3⟩ := ct_vl r hd
    cases hb : bp d with
    | some p =>
      have e : sch bp sz r (n + 1) d = some (d, p) := by
        unfold sch
        rw [hb]
      rw [e]
      refine ⟨fun q => (by cases q), fun d1 p1 q => ?_⟩
      cases q
      exact ⟨hd, fun _ _ => rfl, hb, fun d' _ _ h3 h4 => by omega⟩
    | none =>
      cases hc : (ct sz r d).1 with
      | true =>
        have e : sch bp sz r (n + 1) d = sch bp sz r n (ct sz r d).2 := by
          rw [sch, hb]
          show (if (ct sz r d).1 = true then _ else _) = _
          rw [if_pos hc]
        rw [e]
        have hv := c2 hc
        obtain ⟨i1, i2⟩ := ih (d := (ct sz r d).2) c1 (by omega)
        have out : ∀ v, r ≤ v → (ct sz r d).2 v = d v := fun v hv => ct_ge r hv
        refine ⟨fun q d' h1 h2 h3 => ?_, fun d1 p q => ?_⟩
        · by_cases c : vl sz r d' = vl sz r d
          · rw [same d' h1 h2 c]; exact hb
          · exact i1 q d' h1 (fun v hv => by rw [out v hv]; exact h2 v hv) (by omega)
        · obtain ⟨j1, j2, j3, j4⟩ := i2 d1 p q
          refine ⟨j1, fun v hv => by rw [← out v hv]; exact j2 v hv, j3, fun d' h1 h2 h3 h4 => ?_⟩
          by_cases c : vl sz r d' = vl sz r d
          · rw [same d' h1 h2 c]; exact hb
          · exact j4 d' h1 (fun v hv => by rw [out v hv]; exact h2 v hv) (by omega) h4
      | false =>
        have e : sch bp sz r (n + 1) d = none := by
          rw [sch, hb]
          show (if (ct sz r d).1 = true then _ else _) = _
          rw [hc]
          rfl
        rw [e]
        have hv := (c3 hc).1
        refine ⟨fun _ d' h1 h2 h3 => ?_, fun d1 p q => by cases q⟩
        have := vl_lt r h1
        rw [same d' h1 h2 (by omega)]
        exact hb
end XD
