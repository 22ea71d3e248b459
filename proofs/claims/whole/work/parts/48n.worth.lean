/-! Formulas: what the parts are worth. -/
section XB
variable {rw ws : Nat → Int32} {kd en : Nat → Nat} {n i j : Nat} {x w a b c : Int32}
/-- not too far -/
def nf (x : Int32) : Prop := -999 ≤ x.toInt ∧ x.toInt ≤ 999
/-- a truth -/
def tr (x : Int32) : Prop := x = nn 0 ∨ x = nn 1
theorem tr.nf (h : tr x) : nf x := by
  show -999 ≤ x.toInt ∧ x.toInt ≤ 999
  rcases h with h | h <;> rw [h]
  · rw [ti_0]; omega
  · rw [ti_1]; omega
theorem cl_nf (x : Int32) : nf (cl x) := by
  unfold nf cl
  split
  · rw [ti_m999]; omega
  · split
    · rw [ti_999]; omega
    · omega
theorem cl_id (h : nf x) : cl x = x := by
  unfold nf at h
  unfold cl
  rw [if_neg (by omega), if_neg (by omega)]
theorem bb_tr (p : Prop) [Decidable p] : tr (bb p) := by
  by_cases h : p
  · exact Or.inr (bb_t h)
  · exact Or.inl (bb_f h)
/-- what the class works out -/
def rsf (w a b c : Int32) : Int32 := if w.toInt = 50 then a + b else if w.toInt = 51 then a - b else if w.toInt = 52 then a * b else if w.toInt = 53 then bb (a.toInt = b.toInt) else if w.toInt = 54 then bb (a.toInt < b.toInt) else if w.toInt = 55 then a &&& b else if w.toInt = 56 then a ||| b else if w.toInt = 57 then nn 1 - a else if a.toInt = 0 then c else b
theorem mm_cl (x : Int32) : (if (-999 : Int32) < (if x < nn 999 then x else nn 999) then (if x < nn 999 then x else nn 999) else -999) = cl x := by
  unfold cl
  simp only [Int32.lt_iff_toInt_lt, ti_m999, ti_999]
  by_cases h1 : x.toInt < 999
  · rw [if_pos h1]
    by_cases h2 : (-999 : Int) < x.toInt
    · rw [if_pos h2, if_neg (by omega), if_neg (by omega)]
    · rw [if_neg h2]
      by_cases h3 : x.toInt < -999
      · rw [if_pos h3]
      · rw [if_neg h3, if_neg (by omega), ← Int32.toInt_inj, ti_m999]
        omega
  · rw [if_neg h1, ti_999, if_pos (by omega), if_neg (by omega)]
    by_cases h3 : 999 < x.toInt
    · rw [if_pos h3]
    · rw [if_neg h3, ← Int32.toInt_inj, ti_999]
      omega
theorem pl_n : pg rw ws (n - n) n = [] := by
  rw [Nat.sub_self]
  rfl
theorem pg_s (hj : j < n) : pg rw ws (n - j) j = ps rw (ws j) (pg rw ws (n - (j + 1)) (j + 1)) := by
  rw [show n - j = (n - (j + 1)) + 1 by omega]
  rfl
/-- what the part at a place is worth -/
def vt (rw ws : Nat → Int32) (n j : Nat) : Int32 := (pg rw ws (n - j) j).getD 0 0
/-- words that are read, in a row -/
def rdv (rw : Nat → Int32) (w : Int32) : Int32 := if w.toInt < 10 then w else if w.toInt < 26 then rw (w.toInt - 20).toNat else rw 6
theorem ps_lf {p : List Int32} (hw : wd_ok w) (h : w.toInt < 50) : ps rw w p = rdv rw w :: p := by
  unfold ps rdv
  unfold wd_ok at hw
  by_cases h1 : w.toInt < 10
  · rw [if_pos h1, if_pos h1]
  · rw [if_neg h1, if_neg h1]
    by_cases h2 : w.toInt < 26
    · rw [if_pos h2, if_pos h2]
    · rw [if_neg h2, if_neg h2, if_pos (by omega)]
theorem rdv_nf (hw : wd_ok w) (h : w.toInt < 50) (hr : ∀ v, v ≤ 6 → nf (rw v)) : nf (rdv rw w) := by
  unfold wd_ok at hw
  unfold rdv
  split
  · unfold nf; omega
  · split
    · exact hr _ (by omega)
    · exact hr 6 (by omega)
theorem rsf_57 (h : w.toInt = 57) : rsf w a b c = nn 1 - a := by
  unfold rsf
  rw [if_neg (by omega), if_neg (by omega), if_neg (by omega), if_neg (by omega), if_neg (by omega), if_neg (by omega), if_neg (by omega), if_pos h]
theorem rsf_58 (h : w.toInt = 58) : rsf w a b c = if a.toInt = 0 then c else b := by
  unfold rsf
  rw [if_neg (by omega), if_neg (by omega), if_neg (by omega), if_neg (by omega), if_neg (by omega), if_neg (by omega), if_neg (by omega), if_neg (by omega)]
theorem ps_57 {p : List Int32} (h : w.toInt = 57) : ps rw w (a :: p) = rsf w a b c :: p := by
  unfold ps rsf
  rw [if_neg (by omega), if_neg (by omega), if_neg (by omega), if_pos h, if_neg (by omega), if_neg (by omega), if_neg (by omega), if_neg (by omega), if_neg (by omega), if_neg (by omega), if_neg (by omega), if_pos h]
  rfl
theorem ps_58 {p : List Int32} (h : w.toInt = 58) (ha : tr a) : ps rw w (a :: b :: c :: p) = rsf w a b c :: p := by
  rw [rsf_58 h]
  unfold ps
  rw [if_neg (show ¬ w.toInt < 10 by omega), if_neg (show ¬ w.toInt < 26 by omega), if_neg (show ¬ w.toInt = 40 by omega), if_neg (show ¬ w.toInt = 57 by omega), if_pos h]
  rcases ha with ha | ha
  · subst ha
    show (if (nn 0).toInt = 1 then b else c) :: p = _
    rw [ti_0, if_neg (by omega), if_pos rfl]
  · subst ha
    show (if (nn 1).toInt = 1 then b else c) :: p = _
    rw [ti_1, if_pos rfl, if_neg (by omega)]
theorem ps_55 {p : List Int32} (h : w.toInt = 55 ∨ w.toInt = 56) (ha : tr a) (hb : tr b) : ps rw w (a :: b :: p) = rsf w a b c :: p ∧ tr (rsf w a b c) := by
  unfold ps rsf
  rw [if_neg (by omega), if_neg (by omega), if_neg (by omega), if_neg (by omega), if_neg (by omega)]
  rw [if_neg (by omega), if_neg (by omega), if_neg (by omega), if_neg (by omega), if_neg (by omega)]
  unfold wk
  rw [if_neg (by omega), if_neg (by omega), if_neg (by omega), if_neg (by omega), if_neg (by omega)]
  show (if w.toInt = 55 then bb (a.toInt = 1 ∧ b.toInt = 1) else bb (a.toInt = 1 ∨ b.toInt = 1)) :: p = _ ∧ _
  rcases h with h | h
  · rw [if_pos h, if_pos h]
    rcases ha with rfl | rfl <;> rcases hb with rfl | rfl
    · rw [bb_f (by rw [ti_0]; omega)]; exact ⟨rfl, Or.inl rfl⟩
    · rw [bb_f (by rw [ti_0]; omega)]; exact ⟨rfl, Or.inl rfl⟩
    · rw [bb_f (by rw [ti_0]; omega)]; exact ⟨rfl, Or.inl rfl⟩
    · rw [bb_t (by rw [ti_1]; omega)]; exact ⟨rfl, Or.inr rfl⟩
  · rw [if_neg (by omega), if_neg (by omega), if_pos h]
    rcases ha with rfl | rfl <;> rcases hb with rfl | rfl
    · rw [bb_f (by rw [ti_0]; omega)]; exact ⟨rfl, Or.inl rfl⟩
    · rw [bb_t (by rw [ti_1]; omega)]; exact ⟨rfl, Or.inr rfl⟩
    · rw [bb_t (by rw [ti_1]; omega)]; exact ⟨rfl, Or.inr rfl⟩
    · rw [bb_t (by rw [ti_1]; omega)]; exact ⟨rfl, Or.inr rfl⟩
theorem ps_50 {p : List Int32} (h : 50 ≤ w.toInt ∧ w.toInt ≤ 54) : ps rw w (a :: b :: p) = cl (rsf w a b c) :: p ∧ (52 < w.toInt → tr (cl (rsf w a b c))) := by
  have h1 : w.toInt = 50 ∨ w.toInt = 51 ∨ w.toInt = 52 ∨ w.toInt = 53 ∨ w.toInt = 54 := by omega
  unfold ps
  rw [if_neg (by omega), if_neg (by omega), if_neg (by omega), if_neg (by omega), if_neg (by omega)]
  show wk w a b :: p = _ ∧ _
  unfold wk rsf
  rcases h1 with h1 | h1 | h1 | h1 | h1
  · rw [if_pos h1, if_pos h1]
    exact ⟨rfl, fun q => by omega⟩
  · rw [if_neg (by omega), if_pos h1, if_neg (by omega), if_pos h1]
    exact ⟨rfl, fun q => by omega⟩
  · rw [if_neg (by omega), if_neg (by omega), if_pos h1, if_neg (by omega), if_neg (by omega), if_pos h1]
    exact ⟨rfl, fun q => by omega⟩
  · rw [if_neg (by omega), if_neg (by omega), if_neg (by omega), if_pos h1, if_neg (by omega), if_neg (by omega), if_neg (by omega), if_pos h1, cl_id (bb_tr _).nf]
    exact ⟨rfl, fun _ => bb_tr _⟩
  · rw [if_neg (by omega), if_neg (by omega), if_neg (by omega), if_neg (by omega), if_pos h1, if_neg (by omega), if_neg (by omega), if_neg (by omega), if_neg (by omega), if_pos h1, cl_id (bb_tr _).nf]
    exact ⟨rfl, fun _ => bb_tr _⟩
/-- a formula: kinds and ends of all its places -/
def FK (ws : Nat → Int32) (n : Nat) (kd en : Nat → Nat) : Prop := CP ws n 0 kd en ∧ (∀ j, j < n → wd_ok (ws j)) ∧ ∀ j, j < n → kd j ≠ 0
theorem FK.v (h : FK ws n kd en) (hr : ∀ v, v ≤ 6 → nf (rw v)) : ∀ (k j : Nat), n - j ≤ k → j < n → pg rw ws (n - j) j = vt rw ws n j :: pg rw ws (n - en j) (en j) ∧ nf (vt rw ws n j) ∧ (kd j = 2 → tr (vt rw ws n j)) ∧ ((ws j).toInt < 50 → vt rw ws n j = rdv rw (ws j)) ∧ (50 ≤ (ws j).toInt → j + 1 < n ∧ en (j + 1) ≤ n ∧ en (en (j + 1)) ≤ n ∧ ∀ y z : Int32, (en (j + 1) < n → y = vt rw ws n (en (j + 1))) → (en (en (j + 1)) < n → z = vt rw ws n (en (en (j + 1)))) → cl (rsf (ws j) (vt rw ws n (j + 1)) y z) = vt rw ws n j) := by
  obtain ⟨hc, ok, hall⟩ := h
  intro k
  induction k with
  | zero => intro j hk hj; omega
  | succ k ih =>
    intro j hk hj
    have wdj := ok j hj
    have hx : ∀ {x : Int32} {p : List Int32}, pg rw ws (n - j) j = x :: p → vt rw ws n j = x := fun q => by
      unfold vt
      rw [q]
      rfl
    have e2 : j + 1 ≤ n → en (j + 1) ≤ n ∧ en (en (j + 1)) ≤ n := fun q => ⟨hc.le (by omega) q, hc.le (by omega) (hc.le (by omega) q)⟩
    rcases hc.2 j (by omega) hj with ⟨h1, h2⟩ | ⟨h1, h2, h3⟩
    · rcases wd_op wdj with hw | hw | hw | hw | hw
      · rw [ftc_lf hw] at h1
        simp only [Option.some.injEq] at h1
        have hp : pg rw ws (n - j) j = rdv rw (ws j) :: pg rw ws (n - en j) (en j) := by
          rw [pg_s hj, ps_lf wdj hw, h1]
        rw [hx hp]
        refine ⟨hp, rdv_nf wdj hw hr, fun q => ?_, fun _ => rfl, fun q => by omega⟩
        exfalso
        unfold kw at h2
        rw [if_neg (by omega)] at h2
        omega
      · rw [ftc_57 hw] at h1
        obtain ⟨q1, h1⟩ := ite_sn h1
        have g1 := hc.gt (j := j + 1) (by omega) (by omega) (by omega)
        obtain ⟨p1, p2, p3, -, -⟩ := ih (j + 1) (by omega) g1.2
        have hp : ∀ y z, pg rw ws (n - j) j = rsf (ws j) (vt rw ws n (j + 1)) y z :: pg rw ws (n - en j) (en j) := fun y z => by
          rw [pg_s hj, p1, ps_57 (b := y) (c := z) hw, h1]
        have t : tr (rsf (ws j) (vt rw ws n (j + 1)) 0 0) := by
          rw [rsf_57 hw]
          rcases p3 q1 with e | e <;> rw [e]
          · exact Or.inr rfl
          · exact Or.inl rfl
        rw [hx (hp 0 0)]
        refine ⟨hp 0 0, t.nf, fun _ => t, fun q => by omega, fun _ => ⟨g1.2, (e2 (by omega)).1, (e2 (by omega)).2, fun y z _ _ => ?_⟩⟩
        rw [rsf_57 hw] at t ⊢
        rw [rsf_57 hw]
        exact cl_id t.nf
      · rw [ftc_58 hw] at h1
        obtain ⟨⟨q1, q2, q3⟩, h1⟩ := ite_sn h1
        have g1 := hc.gt (j := j + 1) (by omega) (by omega) (by omega)
        have g2 := hc.gt (j := en (j + 1)) (by omega) (e2 (by omega)).1 (by omega)
        have g3 := hc.gt (j := en (en (j + 1))) (by omega) (e2 (by omega)).2 (by omega)
        obtain ⟨p1, p2, p3, -, -⟩ := ih (j + 1) (by omega) g1.2
        obtain ⟨r1, r2, r3, -, -⟩ := ih (en (j + 1)) (by omega) g2.2
        obtain ⟨s1, s2, s3, -, -⟩ := ih (en (en (j + 1))) (by omega) g3.2
        have hp : pg rw ws (n - j) j = rsf (ws j) (vt rw ws n (j + 1)) (vt rw ws n (en (j + 1))) (vt rw ws n (en (en (j + 1)))) :: pg rw ws (n - en j) (en j) := by
          rw [pg_s hj, p1, r1, s1, ps_58 hw (p3 q1), h1]
        have t : nf (rsf (ws j) (vt rw ws n (j + 1)) (vt rw ws n (en (j + 1))) (vt rw ws n (en (en (j + 1))))) := by
          rw [rsf_58 hw]
          split
          · exact s2
          · exact r2
        rw [hx hp]
        refine ⟨hp, t, fun q => ?_, fun q => by omega, fun _ => ⟨g1.2, (e2 (by omega)).1, (e2 (by omega)).2, fun y z hy hz => ?_⟩⟩
        · exfalso
          unfold kw at h2
          rw [if_neg (by omega)] at h2
          omega
        · rw [hy g2.2, hz g3.2]
          exact cl_id t
      · rw [ftc_55 hw] at h1
        obtain ⟨⟨q1, q2⟩, h1⟩ := ite_sn h1
        have g1 := hc.gt (j := j + 1) (by omega) (by omega) (by omega)
        have g2 := hc.gt (j := en (j + 1)) (by omega) (e2 (by omega)).1 (by omega)
        obtain ⟨p1, p2, p3, -, -⟩ := ih (j + 1) (by omega) g1.2
        obtain ⟨r1, r2, r3, -, -⟩ := ih (en (j + 1)) (by omega) g2.2
        have hp : ∀ z, pg rw ws (n - j) j = rsf (ws j) (vt rw ws n (j + 1)) (vt rw ws n (en (j + 1))) z :: pg rw ws (n - en j) (en j) ∧ tr (rsf (ws j) (vt rw ws n (j + 1)) (vt rw ws n (en (j + 1))) z) := fun z => by
          obtain ⟨u1, u2⟩ := ps_55 (rw := rw) (c := z) (p := pg rw ws (n - en (en (j + 1))) (en (en (j + 1)))) hw (p3 q1) (r3 q2)
          exact ⟨by rw [pg_s hj, p1, r1, u1, h1], u2⟩
        rw [hx (hp 0).1]
        refine ⟨(hp 0).1, (hp 0).2.nf, fun _ => (hp 0).2, fun q => by omega, fun _ => ⟨g1.2, (e2 (by omega)).1, (e2 (by omega)).2, fun y z hy _ => ?_⟩⟩
        rw [hy g2.2, cl_id (hp z).2.nf]
        have := (hp 0).1
        rw [(hp z).1] at this
        exact (List.cons.inj this).1
      · rw [ftc_50 hw] at h1
        obtain ⟨⟨q1, q2⟩, h1⟩ := ite_sn h1
        have g1 := hc.gt (j := j + 1) (by omega) (by omega) (by omega)
        have g2 := hc.gt (j := en (j + 1)) (by omega) (e2 (by omega)).1 (by omega)
        obtain ⟨p1, p2, p3, -, -⟩ := ih (j + 1) (by omega) g1.2
        obtain ⟨r1, r2, r3, -, -⟩ := ih (en (j + 1)) (by omega) g2.2
        have hp : ∀ z, pg rw ws (n - j) j = cl (rsf (ws j) (vt rw ws n (j + 1)) (vt rw ws n (en (j + 1))) z) :: pg rw ws (n - en j) (en j) ∧ (52 < (ws j).toInt → tr (cl (rsf (ws j) (vt rw ws n (j + 1)) (vt rw ws n (en (j + 1))) z))) := fun z => by
          obtain ⟨u1, u2⟩ := ps_50 (rw := rw) (a := vt rw ws n (j + 1)) (b := vt rw ws n (en (j + 1))) (c := z) (p := pg rw ws (n - en (en (j + 1))) (en (en (j + 1)))) hw
          exact ⟨by rw [pg_s hj, p1, r1, u1, h1], u2⟩
        rw [hx (hp 0).1]
        refine ⟨(hp 0).1, cl_nf _, fun q => (hp 0).2 ?_, fun q => by omega, fun _ => ⟨g1.2, (e2 (by omega)).1, (e2 (by omega)).2, fun y z hy _ => ?_⟩⟩
        · unfold kw at h2
          by_cases h53 : 53 ≤ (ws j).toInt
          · omega
          · rw [if_neg (by omega)] at h2
            omega
        · rw [hy g2.2]
          have := (hp 0).1
          rw [(hp z).1] at this
          exact (List.cons.inj this).1
    · exact absurd h2 (hall j hj)
end XB
