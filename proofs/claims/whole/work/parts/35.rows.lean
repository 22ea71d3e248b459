/-! Rows in their order. -/
section RA
variable {sz : Nat → Nat}
/-- the number of a row, and how many there are -/
def vl (sz : Nat → Nat) : Nat → (Nat → Nat) → Nat
  | 0, _ => 0
  | r + 1, d => vl sz r d * sz r + d r
def pd (sz : Nat → Nat) : Nat → Nat
  | 0 => 1
  | r + 1 => pd sz r * sz r
theorem vl_congr : ∀ (r : Nat) {d d' : Nat → Nat}, (∀ v, v < r → d v = d' v) → vl sz r d = vl sz r d'
  | 0, _, _, _ => rfl
  | r + 1, d, d', h => by
    show vl sz r d * sz r + d r = vl sz r d' * sz r + d' r
    rw [vl_congr r (fun v hv => h v (by omega)), h r (by omega)]
theorem ct_ge : ∀ (r : Nat) {d : Nat → Nat} {v : Nat}, r ≤ v → (ct sz r d).2 v = d v
  | 0, _, _, _ => rfl
  | r + 1, d, v, h => by
    unfold ct
    split
    · exact va_up_ne _ _ (by omega)
    · rw [ct_ge r (by omega), va_up_ne _ _ (by omega)]
/-- the next row has the next number; there is none behind the last -/
theorem ct_vl : ∀ (r : Nat) {d : Nat → Nat}, (∀ v, v < r → d v < sz v) → (∀ v, v < r → (ct sz r d).2 v < sz v) ∧ ((ct sz r d).1 = true → vl sz r (ct sz r d).2 = vl sz r d + 1) ∧ ((ct sz r d).1 = false → vl sz r d + 1 = pd sz r ∧ ∀ v, v < r → (ct sz r d).2 v = 0)
  | 0, d, _ => ⟨fun v hv => (by omega), fun h => (by cases h), fun _ => ⟨rfl, fun v hv => (by omega)⟩⟩
  | r + 1, d, h => by
    unfold ct
    by_cases c : d r + 1 < sz r
    · rw [if_pos c]
      refine ⟨fun v hv => ?_, fun _ => ?_, fun h => (by cases h)⟩
      · show va_up d r (d r + 1) v < sz v
        by_cases hvr : v = r
        · subst hvr; rw [va_up_self]; exact c
        · rw [va_up_ne _ _ hvr]; exact h v hv
      · show vl sz r (va_up d r (d r + 1)) * sz r + va_up d r (d r + 1) r = vl sz r d * sz r + d r + 1
        rw [va_up_self, vl_congr r (d' := d) (fun v hv => va_up_ne _ _ (by omega))]
        omega
    · rw [if_neg c]
      have hr := h r (by omega)
      have e0 : vl sz r (va_up d r 0) = vl sz r d := vl_congr r (fun v hv => va_up_ne _ _ (by omega))
      obtain ⟨i1, i2, i3⟩ := ct_vl r (d := va_up d r 0) (fun v hv => by rw [va_up_ne _ _ (by omega)]; exact h v (by omega))
      have er : (ct sz r (va_up d r 0)).2 r = 0 := by rw [ct_ge r (Nat.le_refl r), va_up_self]
      refine ⟨fun v hv => ?_, fun hc => ?_, fun hc => ⟨?_, fun v hv => ?_⟩⟩
      · by_cases hvr : v = r
        · subst hvr; rw [er]; omega
        · exact i1 v (by omega)
      · show vl sz r (ct sz r (va_up d r 0)).2 * sz r + (ct sz r (va_up d r 0)).2 r = vl sz r d * sz r + d r + 1
        rw [i2 hc, er, e0, Nat.add_mul]
        omega
      · show vl sz r d * sz r + d r + 1 = pd sz r * sz r
        rw [← (i3 hc).1, e0, Nat.add_mul]
        omega
      · by_cases hvr : v = r
        · subst hvr; exact er
        · exact (i3 hc).2 v (by omega)
theorem vl_lt : ∀ (r : Nat) {d : Nat → Nat}, (∀ v, v < r → d v < sz v) → vl sz r d < pd sz r
  | 0, _, _ => Nat.zero_lt_one
  | r + 1, d, h => by
    have i := vl_lt r (d := d) (fun v hv => h v (by omega))
    have hr := h r (by omega)
    show vl sz r d * sz r + d r < pd sz r * sz r
    have h2 : (vl sz r d + 1) * sz r ≤ pd sz r * sz r := Nat.mul_le_mul_right _ i
    rw [Nat.add_mul] at h2
    omega
theorem vl_zero : ∀ (r : Nat) {d : Nat → Nat}, (∀ v, v < r → d v = 0) → vl sz r d = 0
  | 0, _, _ => rfl
  | r + 1, d, h => by
    show vl sz r d * sz r + d r = 0
    rw [vl_zero r (fun v hv => h v (by omega)), h r (by omega)]
    omega
/-- the first row from d on, n rows at most, of which bp says something -/
def sch (bp : (Nat → Nat) → Option Nat) (sz : Nat → Nat) (r : Nat) : Nat → (Nat → Nat) → Option ((Nat → Nat) × Nat)
  | 0, _ => none
  | n + 1, d => match bp d with
    | some p => some (d, p)
    | none => if (ct sz r d).1 = true then sch bp sz r n (ct sz r d).2 else none
/-- two rows in their order -/
def lx (r : Nat) (a b : Nat → Nat) : Prop := ∃ i, i < r ∧ a i < b i ∧ ∀ v, v < i → a v = b v
theorem vl_lx : ∀ (r : Nat) {a b : Nat → Nat}, (∀ v, v < r → a v < sz v) → (∀ v, v < r → b v < sz v) → lx r a b → vl sz r a < vl sz r b
  | 0, a, b, _, _, h => by
    obtain ⟨i, hi, _⟩ := h
    omega
  | r + 1, a, b, ha, hb, h => by
    obtain ⟨i, hi, h1, h2⟩ := h
    show vl sz r a * sz r + a r < vl sz r b * sz r + b r
    have har := ha r (by omega)
    by_cases hir : i = r
    · subst hir
      rw [vl_congr i h2]
      omega
    · have g := vl_lx r (fun v hv => ha v (by omega)) (fun v hv => hb v (by omega)) ⟨i, by omega, h1, h2⟩
      have h3 : (vl sz r a + 1) * sz r ≤ vl sz r b * sz r := Nat.mul_le_mul_right _ g
      rw [Nat.add_mul] at h3
      omega
end RA
