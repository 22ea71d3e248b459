/-! Formulas: where the parts end. -/
section XA
variable {rw ws : Nat → Int32} {kd en : Nat → Nat} {n i j : Nat}
/-- the pile of k words from a place on -/
def pg (rw ws : Nat → Int32) : Nat → Nat → List Int32
  | 0, _ => []
  | k + 1, i => ps rw (ws i) (pg rw ws k (i + 1))
def kg (ws : Nat → Int32) : Nat → Nat → Option (List Bool)
  | 0, _ => some []
  | k + 1, i => (kg ws k (i + 1)).bind (ks (ws i))
theorem pr_pg : ∀ (r k : Nat), pr rw ws r (pg rw ws k r) = pg rw ws (k + r) 0
  | 0, k => rfl
  | r + 1, k => by
    show pr rw ws r (ps rw (ws r) (pg rw ws k (r + 1))) = _
    have h := pr_pg r (k + 1)
    rw [show k + (r + 1) = k + 1 + r by omega]
    exact h
theorem kr_kg : ∀ (r k : Nat), (kg ws k r).bind (kr ws r) = kg ws (k + r) 0
  | 0, k => by
    show (kg ws k 0).bind (fun k => some k) = _
    cases kg ws k 0 <;> rfl
  | r + 1, k => by
    have h := kr_kg r (k + 1)
    rw [show k + (r + 1) = k + 1 + r by omega, ← h]
    show (kg ws k (r + 1)).bind (fun l => (ks (ws r) l).bind (kr ws r)) = ((kg ws k (r + 1)).bind (ks (ws r))).bind (kr ws r)
    cases kg ws k (r + 1) <;> rfl
theorem pr_0 : pr rw ws n [] = pg rw ws n 0 := by
  have h := pr_pg (rw := rw) (ws := ws) n 0
  rw [Nat.zero_add] at h
  exact h
theorem kr_0 : kr ws n [] = kg ws n 0 := by
  have h := kr_kg (ws := ws) n 0
  rw [Nat.zero_add] at h
  exact h
/-- where the part at a place ends, if it is one -/
def ftc (w : Int32) (j : Nat) (kd en : Nat → Nat) : Option Nat :=
  if ¬ (50 ≤ w.toInt ∧ w.toInt ≤ 58) then some (j + 1)
  else if w.toInt = 57 then (if kd (j + 1) = 2 then some (en (j + 1)) else none)
  else if w.toInt = 58 then (if kd (j + 1) = 2 ∧ kd (en (j + 1)) = 1 ∧ kd (en (en (j + 1))) = 1 then some (en (en (en (j + 1)))) else none)
  else if w.toInt = 55 ∨ w.toInt = 56 then (if kd (j + 1) = 2 ∧ kd (en (j + 1)) = 2 then some (en (en (j + 1))) else none)
  else (if kd (j + 1) = 1 ∧ kd (en (j + 1)) = 1 then some (en (en (j + 1))) else none)
def kw (w : Int32) : Nat := if 53 ≤ w.toInt ∧ w.toInt ≤ 57 then 2 else 1
/-- kinds and ends from a place on -/
def CP (ws : Nat → Int32) (n i : Nat) (kd en : Nat → Nat) : Prop := (kd n = 0 ∧ en n = n) ∧ ∀ j, i ≤ j → j < n → (ftc (ws j) j kd en = some (en j) ∧ kd j = kw (ws j)) ∨ (ftc (ws j) j kd en = none ∧ kd j = 0 ∧ en j = n)
theorem kw_12 (w : Int32) : kw w = 1 ∨ kw w = 2 := by
  unfold kw
  split
  · exact Or.inr rfl
  · exact Or.inl rfl
theorem CP.mono {i' : Nat} (h : CP ws n i kd en) (hi : i ≤ i') : CP ws n i' kd en := ⟨h.1, fun j h1 h2 => h.2 j (by omega) h2⟩
theorem CP.bd (h : CP ws n i kd en) : ∀ (k j : Nat), n - j ≤ k → i ≤ j → j ≤ n → en j ≤ n ∧ (kd j ≠ 0 → j < en j ∧ j < n) ∧ (kd j = 0 → en j = n) ∧ (kd j = 0 ∨ kd j = 1 ∨ kd j = 2) := by
  intro k
  induction k with
  | zero =>
    intro j hk hi hj
    have : j = n := by omega
    subst this
    obtain ⟨⟨h1, h2⟩, -⟩ := h
    exact ⟨by omega, fun q => absurd h1 q, fun _ => h2, Or.inl h1⟩
  | succ k ih =>
    intro j hk hi hj
    by_cases hjn : j = n
    · subst hjn
      obtain ⟨⟨h1, h2⟩, -⟩ := h
      exact ⟨by omega, fun q => absurd h1 q, fun _ => h2, Or.inl h1⟩
    have hjn : j < n := by omega
    rcases h.2 j hi hjn with ⟨h1, h2⟩ | ⟨h1, h2, h3⟩
    · have h12 := kw_12 (ws j)
      refine ⟨?_, fun _ => ⟨?_, hjn⟩, fun q => by omega, by omega⟩
      all_goals
        unfold ftc at h1
        split at h1
        · simp only [Option.some.injEq] at h1; omega
        split at h1
        · split at h1
          · rename_i q
            have b1 := ih (j + 1) (by omega) (by omega) (by omega)
            have c1 := b1.2.1 (by omega)
            simp only [Option.some.injEq] at h1
            omega
          · cases h1
        split at h1
        · split at h1
          · rename_i q
            have b1 := ih (j + 1) (by omega) (by omega) (by omega)
            have c1 := b1.2.1 (by omega)
            have b2 := ih (en (j + 1)) (by omega) (by omega) (by omega)
            have c2 := b2.2.1 (by omega)
            have b3 := ih (en (en (j + 1))) (by omega) (by omega) (by omega)
            have c3 := b3.2.1 (by omega)
            simp only [Option.some.injEq] at h1
            omega
          · cases h1
        split at h1
        · split at h1
          · rename_i q
            have b1 := ih (j + 1) (by omega) (by omega) (by omega)
            have c1 := b1.2.1 (by omega)
            have b2 := ih (en (j + 1)) (by omega) (by omega) (by omega)
            have c2 := b2.2.1 (by omega)
            simp only [Option.some.injEq] at h1
            omega
          · cases h1
        · split at h1
          · rename_i q
            have b1 := ih (j + 1) (by omega) (by omega) (by omega)
            have c1 := b1.2.1 (by omega)
            have b2 := ih (en (j + 1)) (by omega) (by omega) (by omega)
            have c2 := b2.2.1 (by omega)
            simp only [Option.some.injEq] at h1
            omega
          · cases h1
    · exact ⟨by omega, fun q => absurd h2 q, fun _ => h3, Or.inl h2⟩
theorem CP.le (h : CP ws n i kd en) (hi : i ≤ j) (hj : j ≤ n) : en j ≤ n := (h.bd (n - j) j (by omega) hi hj).1
theorem CP.gt (h : CP ws n i kd en) (hi : i ≤ j) (hj : j ≤ n) (hk : kd j ≠ 0) : j < en j ∧ j < n := (h.bd (n - j) j (by omega) hi hj).2.1 hk
theorem CP.c3 (h : CP ws n i kd en) (hi : i ≤ j) (hj : j ≤ n) : kd j = 0 ∨ kd j = 1 ∨ kd j = 2 := (h.bd (n - j) j (by omega) hi hj).2.2.2
/-- the places of a part are parts -/
theorem CP.tile (h : CP ws n i kd en) : ∀ (k j : Nat), n - j ≤ k → i ≤ j → j < n → kd j ≠ 0 → ∀ m, j ≤ m → m < en j → kd m ≠ 0 := by
  intro k
  induction k with
  | zero => intro j hk hi hj; omega
  | succ k ih =>
    intro j hk hi hj hd m hm1 hm2
    by_cases hmj : m = j
    · rw [hmj]; exact hd
    rcases h.2 j hi hj with ⟨h1, h2⟩ | ⟨h1, h2, h3⟩
    · unfold ftc at h1
      split at h1
      · simp only [Option.some.injEq] at h1; omega
      split at h1
      · split at h1
        · rename_i q
          have c1 := h.gt (j := j + 1) (by omega) (by omega) (by omega)
          simp only [Option.some.injEq] at h1
          exact ih (j + 1) (by omega) (by omega) (by omega) (by omega) m (by omega) (by omega)
        · cases h1
      split at h1
      · split at h1
        · rename_i q
          have c1 := h.gt (j := j + 1) (by omega) (by omega) (by omega)
          have c2 := h.gt (j := en (j + 1)) (by omega) (h.le (by omega) (by omega)) (by omega)
          have c3 := h.gt (j := en (en (j + 1))) (by omega) (h.le (by omega) (by omega)) (by omega)
          simp only [Option.some.injEq] at h1
          by_cases m1 : m < en (j + 1)
          · exact ih (j + 1) (by omega) (by omega) (by omega) (by omega) m (by omega) m1
          by_cases m2 : m < en (en (j + 1))
          · exact ih (en (j + 1)) (by omega) (by omega) (by omega) (by omega) m (by omega) m2
          · exact ih (en (en (j + 1))) (by omega) (by omega) (by omega) (by omega) m (by omega) (by omega)
        · cases h1
      split at h1
      · split at h1
        · rename_i q
          have c1 := h.gt (j := j + 1) (by omega) (by omega) (by omega)
          have c2 := h.gt (j := en (j + 1)) (by omega) (h.le (by omega) (by omega)) (by omega)
          simp only [Option.some.injEq] at h1
          by_cases m1 : m < en (j + 1)
          · exact ih (j + 1) (by omega) (by omega) (by omega) (by omega) m (by omega) m1
          · exact ih (en (j + 1)) (by omega) (by omega) (by omega) (by omega) m (by omega) (by omega)
        · cases h1
      · split at h1
        · rename_i q
          have c1 := h.gt (j := j + 1) (by omega) (by omega) (by omega)
          have c2 := h.gt (j := en (j + 1)) (by omega) (h.le (by omega) (by omega)) (by omega)
          simp only [Option.some.injEq] at h1
          by_cases m1 : m < en (j + 1)
          · exact ih (j + 1) (by omega) (by omega) (by omega) (by omega) m (by omega) m1
          · exact ih (en (j + 1)) (by omega) (by omega) (by omega) (by omega) m (by omega) (by omega)
        · cases h1
    · exact absurd h2 hd
/-- the kinds from a place on, where all are parts -/
def kl (ws : Nat → Int32) (n j : Nat) : List Bool := (kg ws (n - j) j).getD []
theorem kl_n : kl ws n n = [] := by
  unfold kl
  rw [Nat.sub_self]
  rfl
theorem kg_s (hj : j < n) : kg ws (n - j) j = (kg ws (n - (j + 1)) (j + 1)).bind (ks (ws j)) := by
  rw [show n - j = (n - (j + 1)) + 1 by omega]
  rfl
theorem ks_lf {w : Int32} {l : List Bool} (h : w.toInt < 50) : ks w l = some (false :: l) := by
  unfold ks
  rw [if_pos h]
theorem ks_57 {w : Int32} {l : List Bool} (h : w.toInt = 57) : ks w l = match l with
    | true :: r => some (true :: r)
    | _ => none := by
  unfold ks
  rw [if_neg (by omega), if_pos h]
  rfl
theorem ks_58 {w : Int32} {l : List Bool} (h : w.toInt = 58) : ks w l = match l with
    | true :: false :: false :: r => some (false :: r)
    | _ => none := by
  unfold ks
  rw [if_neg (by omega), if_neg (by omega), if_pos h]
  rfl
theorem ks_55 {w : Int32} {l : List Bool} (h : w.toInt = 55 ∨ w.toInt = 56) : ks w l = match l with
    | true :: true :: r => some (true :: r)
    | _ => none := by
  unfold ks
  rw [if_neg (by omega), if_neg (by omega), if_neg (by omega), if_pos h]
  rfl
theorem ks_50 {w : Int32} {l : List Bool} (h : 50 ≤ w.toInt ∧ w.toInt ≤ 54) : ks w l = match l with
    | false :: false :: r => some (decide (52 < w.toInt) :: r)
    | _ => none := by
  unfold ks
  rw [if_neg (by omega), if_neg (by omega), if_neg (by omega), if_neg (by omega)]
  rfl
theorem wd_op {w : Int32} (h : wd_ok w) : w.toInt < 50 ∨ w.toInt = 57 ∨ w.toInt = 58 ∨ (w.toInt = 55 ∨ w.toInt = 56) ∨ (50 ≤ w.toInt ∧ w.toInt ≤ 54) := by
  unfold wd_ok at h
  omega
theorem ftc_lf {w : Int32} (h : w.toInt < 50) : ftc w j kd en = some (j + 1) := by
  unfold ftc
  rw [if_pos (by omega)]
theorem ftc_57 {w : Int32} (h : w.toInt = 57) : ftc w j kd en = if kd (j + 1) = 2 then some (en (j + 1)) else none := by
  unfold ftc
  rw [if_neg (by omega), if_pos h]
theorem ftc_58 {w : Int32} (h : w.toInt = 58) : ftc w j kd en = if kd (j + 1) = 2 ∧ kd (en (j + 1)) = 1 ∧ kd (en (en (j + 1))) = 1 then some (en (en (en (j + 1)))) else none := by
  unfold ftc
  rw [if_neg (by omega), if_neg (by omega), if_pos h]
theorem ftc_55 {w : Int32} (h : w.toInt = 55 ∨ w.toInt = 56) : ftc w j kd en = if kd (j + 1) = 2 ∧ kd (en (j + 1)) = 2 then some (en (en (j + 1))) else none := by
  unfold ftc
  rw [if_neg (by omega), if_neg (by omega), if_neg (by omega), if_pos h]
theorem ftc_50 {w : Int32} (h : 50 ≤ w.toInt ∧ w.toInt ≤ 54) : ftc w j kd en = if kd (j + 1) = 1 ∧ kd (en (j + 1)) = 1 then some (en (en (j + 1))) else none := by
  unfold ftc
  rw [if_neg (by omega), if_neg (by omega), if_neg (by omega), if_neg (by omega)]
theorem ite_sn {p : Prop} [Decidable p] {a b : Nat} (h : (if p then some a else none) = some b) : p ∧ a = b := by
  split at h
  · rename_i hp
    simp only [Option.some.injEq] at h
    exact ⟨hp, h⟩
  · cases h
theorem ite_nn {p : Prop} [Decidable p] {a : Nat} (h : (if p then some a else none) = none) : ¬ p := by
  split at h
  · cases h
  · assumption
/-- a chain of kinds -/
def KC (ws : Nat → Int32) (n i : Nat) (kd en : Nat → Nat) : Prop := ∀ j, i ≤ j → j < n → kl ws n j = decide (kd j = 2) :: kl ws n (en j)
theorem CP.kll (ok : ∀ j, j < n → wd_ok (ws j)) (h : CP ws n i kd en) : ∀ (k j : Nat), n - j ≤ k → i ≤ j → j ≤ n → (∀ m, j ≤ m → m < n → kd m ≠ 0) → kg ws (n - j) j = some (kl ws n j) ∧ (j < n → kl ws n j = decide (kd j = 2) :: kl ws n (en j)) := by
  intro k
  induction k with
  | zero =>
    intro j hk hi hj hall
    have : j = n := by omega
    subst this
    refine ⟨?_, fun q => by omega⟩
    rw [kl_n, Nat.sub_self]
    rfl
  | succ k ih =>
    intro j hk hi hj hall
    by_cases hjn : j = n
    · subst hjn
      refine ⟨?_, fun q => by omega⟩
      rw [kl_n, Nat.sub_self]
      rfl
    have hjn : j < n := by omega
    obtain ⟨a1, a2⟩ := ih (j + 1) (by omega) (by omega) (by omega) (fun m h1 h2 => hall m (by omega) h2)
    have st : ∀ m, j < m → m ≤ n → kd m ≠ 0 → (kl ws n m = decide (kd m = 2) :: kl ws n (en m)) ∧ m < en m ∧ en m ≤ n := fun m h1 h2 h3 => by
      have g := h.gt (j := m) (by omega) h2 h3
      exact ⟨(ih m (by omega) (by omega) h2 (fun m' h4 h5 => hall m' (by omega) h5)).2 g.2, g.1, h.le (by omega) h2⟩
    have key : ks (ws j) (kl ws n (j + 1)) = some (decide (kd j = 2) :: kl ws n (en j)) := by
      rcases h.2 j hi hjn with ⟨h1, h2⟩ | ⟨h1, h2, h3⟩
      · rw [h2]
        rcases wd_op (ok j hjn) with hw | hw | hw | hw | hw
        · rw [ftc_lf hw] at h1
          simp only [Option.some.injEq] at h1
          rw [← h1, ks_lf hw]
          unfold kw
          rw [if_neg (by omega)]
          rfl
        · rw [ftc_57 hw] at h1
          obtain ⟨q, h1⟩ := ite_sn h1
          obtain ⟨s1, s2, s3⟩ := st (j + 1) (by omega) (by omega) (by omega)
          rw [ks_57 hw, s1, q, ← h1]
          unfold kw
          rw [if_pos (by omega)]
          rfl
        · rw [ftc_58 hw] at h1
          obtain ⟨⟨q1, q2, q3⟩, h1⟩ := ite_sn h1
          obtain ⟨s1, s2, s3⟩ := st (j + 1) (by omega) (by omega) (by omega)
          obtain ⟨t1, t2, t3⟩ := st (en (j + 1)) (by omega) (by omega) (by omega)
          obtain ⟨u1, u2, u3⟩ := st (en (en (j + 1))) (by omega) (by omega) (by omega)
          rw [ks_58 hw, s1, t1, u1, q1, q2, q3, ← h1]
          unfold kw
          rw [if_neg (by omega)]
          rfl
        · rw [ftc_55 hw] at h1
          obtain ⟨⟨q1, q2⟩, h1⟩ := ite_sn h1
          obtain ⟨s1, s2, s3⟩ := st (j + 1) (by omega) (by omega) (by omega)
          obtain ⟨t1, t2, t3⟩ := st (en (j + 1)) (by omega) (by omega) (by omega)
          rw [ks_55 hw, s1, t1, q1, q2, ← h1]
          unfold kw
          rw [if_pos (by omega)]
          rfl
        · rw [ftc_50 hw] at h1
          obtain ⟨⟨q1, q2⟩, h1⟩ := ite_sn h1
          obtain ⟨s1, s2, s3⟩ := st (j + 1) (by omega) (by omega) (by omega)
          obtain ⟨t1, t2, t3⟩ := st (en (j + 1)) (by omega) (by omega) (by omega)
          rw [ks_50 hw, s1, t1, q1, q2, ← h1]
          unfold kw
          by_cases h53 : 53 ≤ (ws j).toInt
          · rw [if_pos (by omega)]
            show some (decide (52 < (ws j).toInt) :: _) = some (true :: _)
            rw [decide_eq_true (by omega)]
          · rw [if_neg (by omega)]
            show some (decide (52 < (ws j).toInt) :: _) = some (false :: _)
            rw [decide_eq_false (by omega)]
      · exact absurd h2 (hall j (by omega) hjn)
    have h3 : kg ws (n - j) j = some (decide (kd j = 2) :: kl ws n (en j)) := by
      rw [kg_s hjn, a1]
      exact key
    have h4 : kl ws n j = decide (kd j = 2) :: kl ws n (en j) := by
      show (kg ws (n - j) j).getD [] = _
      rw [h3]
      rfl
    exact ⟨by rw [h4]; exact h3, fun _ => h4⟩
/-- where a place is no part, the kinds don't fit -/
theorem CP.kno (ok : ∀ j, j < n → wd_ok (ws j)) (h : CP ws n i kd en) (hi : i ≤ j) (hj : j < n) (hd : kd j = 0) (hall : ∀ m, j < m → m < n → kd m ≠ 0) : kg ws (n - j) j = none := by
  have st : ∀ m, j < m → m ≤ n → kl ws n m = if kd m = 0 then [] else decide (kd m = 2) :: kl ws n (en m) := fun m h1 h2 => by
    by_cases hm : m = n
    · rw [hm, kl_n, if_pos h.1.1]
    · have g := hall m h1 (by omega)
      rw [if_neg g]
      exact (h.kll ok (n - m) m (by omega) (by omega) h2 (fun m' h4 h5 => hall m' (by omega) h5)).2 (by omega)
  have a1 := (h.kll ok (n - (j + 1)) (j + 1) (by omega) (by omega) (by omega) (fun m h4 h5 => hall m (by omega) h5)).1
  rw [kg_s hj, a1]
  show ks (ws j) (kl ws n (j + 1)) = none
  have s1 := st (j + 1) (by omega) (by omega)
  have c1 := h.c3 (j := j + 1) (by omega) (by omega)
  rcases h.2 j hi hj with ⟨h1, h2⟩ | ⟨h1, -, h3⟩
  · have := kw_12 (ws j)
    omega
  · rcases wd_op (ok j hj) with hw | hw | hw | hw | hw
    · rw [ftc_lf hw] at h1
      cases h1
    · rw [ftc_57 hw] at h1
      have q := ite_nn h1
      rw [ks_57 hw, s1]
      rcases c1 with c1 | c1 | c1
      · rw [c1]; rfl
      · rw [c1]; rfl
      · exact absurd c1 q
    · rw [ftc_58 hw] at h1
      have q := ite_nn h1
      rw [ks_58 hw, s1]
      rcases c1 with c1 | c1 | c1
      · rw [c1]; rfl
      · rw [c1]; rfl
      · have g1 := h.gt (j := j + 1) (by omega) (by omega) (by omega)
        have g2 := h.le (j := j + 1) (by omega) (by omega)
        have s2 := st (en (j + 1)) (by omega) g2
        have c2 := h.c3 (j := en (j + 1)) (by omega) g2
        rw [c1, s2]
        rcases c2 with c2 | c2 | c2
        · rw [c2]; rfl
        · have g3 := h.gt (j := en (j + 1)) (by omega) g2 (by omega)
          have g4 := h.le (j := en (j + 1)) (by omega) g2
          have s3 := st (en (en (j + 1))) (by omega) g4
          have c3 := h.c3 (j := en (en (j + 1))) (by omega) g4
          rw [c2, s3]
          rcases c3 with c3 | c3 | c3
          · rw [c3]; rfl
          · exact absurd ⟨c1, c2, c3⟩ q
          · rw [c3]; rfl
        · rw [c2]; rfl
    · rw [ftc_55 hw] at h1
      have q := ite_nn h1
      rw [ks_55 hw, s1]
      rcases c1 with c1 | c1 | c1
      · rw [c1]; rfl
      · rw [c1]; rfl
      · have g1 := h.gt (j := j + 1) (by omega) (by omega) (by omega)
        have g2 := h.le (j := j + 1) (by omega) (by omega)
        have s2 := st (en (j + 1)) (by omega) g2
        have c2 := h.c3 (j := en (j + 1)) (by omega) g2
        rw [c1, s2]
        rcases c2 with c2 | c2 | c2
        · rw [c2]; rfl
        · rw [c2]; rfl
        · exact absurd ⟨c1, c2⟩ q
    · rw [ftc_50 hw] at h1
      have q := ite_nn h1
      rw [ks_50 hw, s1]
      rcases c1 with c1 | c1 | c1
      · rw [c1]; rfl
      · have g1 := h.gt (j := j + 1) (by omega) (by omega) (by omega)
        have g2 := h.le (j := j + 1) (by omega) (by omega)
        have s2 := st (en (j + 1)) (by omega) g2
        have c2 := h.c3 (j := en (j + 1)) (by omega) g2
        rw [c1, s2]
        rcases c2 with c2 | c2 | c2
        · rw [c2]; rfl
        · exact absurd ⟨c1, c2⟩ q
        · rw [c2]; rfl
      · rw [c1]; rfl
theorem kg_no : ∀ (d j : Nat), j + d < n → kg ws (n - (j + d)) (j + d) = none → kg ws (n - j) j = none := by
  intro d
  induction d with
  | zero => intro j _ h; exact h
  | succ d ih =>
    intro j hj h
    have h1 := ih (j + 1) (by omega) (by rw [show j + 1 + d = j + (d + 1) by omega]; exact h)
    rw [kg_s (by omega), h1]
    rfl
/-- the last place that is no part -/
theorem last_no : ∀ (d : Nat), (∀ m, n - d ≤ m → m < n → kd m ≠ 0) ∨ ∃ j, j < n ∧ kd j = 0 ∧ ∀ m, j < m → m < n → kd m ≠ 0 := by
  intro d
  induction d with
  | zero => exact Or.inl (fun m h1 h2 => by omega)
  | succ d ih =>
    rcases ih with h | h
    · by_cases hc : d < n ∧ kd (n - (d + 1)) = 0
      · exact Or.inr ⟨n - (d + 1), by omega, hc.2, fun m h1 h2 => h m (by omega) h2⟩
      · refine Or.inl (fun m h1 h2 => ?_)
        by_cases hm : n - d ≤ m
        · exact h m hm h2
        · have : m = n - (d + 1) := by omega
          intro q
          exact hc ⟨by omega, by rw [← this]; exact q⟩
    · exact Or.inr h
/-- the class finds a formula where the reference does -/
theorem CP.yes (ok : ∀ j, j < n → wd_ok (ws j)) (h : CP ws n 0 kd en) (h0 : kd 0 ≠ 0) (he : en 0 = n) : (∀ m, m < n → kd m ≠ 0) ∧ kr ws n [] = some [decide (kd 0 = 2)] := by
  have g := h.gt (j := 0) (by omega) (by omega) h0
  have hall : ∀ m, m < n → kd m ≠ 0 := fun m hm => h.tile n 0 (by omega) (by omega) g.2 h0 m (by omega) (by omega)
  refine ⟨hall, ?_⟩
  obtain ⟨k1, k2⟩ := h.kll ok n 0 (by omega) (by omega) (by omega) (fun m _ hm => hall m hm)
  rw [kr_0]
  rw [Nat.sub_zero] at k1
  rw [k1, k2 g.2, he, kl_n]
theorem CP.no (ok : ∀ j, j < n → wd_ok (ws j)) (h : CP ws n 0 kd en) (h0 : ¬ (kd 0 ≠ 0 ∧ en 0 = n)) : ∀ t, kr ws n [] ≠ some [t] := by
  intro t
  rw [kr_0]
  rcases last_no (n := n) (kd := kd) n with hall | ⟨j, j1, j2, j3⟩
  · obtain ⟨k1, k2⟩ := h.kll ok n 0 (by omega) (by omega) (by omega) (fun m _ hm => hall m (by omega) hm)
    rw [Nat.sub_zero] at k1
    rw [k1]
    by_cases hn : n = 0
    · subst hn
      rw [kl_n]
      intro q
      cases q
    · rw [k2 (by omega)]
      intro q
      have hk0 := hall 0 (by omega) (by omega)
      have he : en 0 ≠ n := fun q => h0 ⟨hk0, q⟩
      have hle := h.le (j := 0) (by omega) (by omega)
      have g := h.gt (j := 0) (by omega) (by omega) hk0
      obtain ⟨-, l2⟩ := h.kll ok n (en 0) (by omega) (by omega) hle (fun m _ hm => hall m (by omega) hm)
      rw [l2 (by omega)] at q
      simp at q
  · have k1 := h.kno ok (by omega) j1 j2 j3
    have k2 := kg_no (n := n) (ws := ws) j 0 (by omega) (by rw [Nat.zero_add]; exact k1)
    rw [Nat.sub_zero] at k2
    rw [k2]
    intro q
    cases q
end XA
