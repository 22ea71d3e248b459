/-! The beginning, and the whole. -/
section ZN
variable {L : Nat} {xs : Nat → Int32} {g g1 g2 : Nat → Int32}
/-- the memory at the beginning -/
def st0 (g g1 g2 : Nat → Int32) : Nat → Nat → Int32 := fun a => if a = 8 then g else if a = 25 then g1 else if a = 37 then g2 else if a = 24 then (fun k => if k = 20 then -1 else 0) else fun _ => 0
def A0 : TD := ((0, (fun _ => 0), (fun _ _ => 0), fun _ => false), (0, (fun _ => 0), (fun _ => 0), (fun _ => none), (fun _ => none), (fun _ => none), fun _ _ => none), ((fun _ => 0), (fun _ _ => 0), none), (fun _ => 1), fun _ => 0)
def W0 : RS := ((0, fun _ => 0), (false, false, 0, fun _ _ => 0), false, fun _ => 0)
theorem st0_o {a : Nat} (h : a ≠ 8 ∧ a ≠ 25 ∧ a ≠ 37 ∧ a ≠ 24) (k : Nat) : st0 g g1 g2 a k = nn 0 := by
  unfold st0
  rw [if_neg h.1, if_neg h.2.1, if_neg h.2.2.1, if_neg h.2.2.2]
  rfl
theorem ok0 : TOK A0 := by
  refine ⟨show 0 ≤ 30 by omega, fun f hf => ?_, show 0 ≤ 12 by omega, fun e he => ?_, fun _ _ _ => rfl, fun m _ => ⟨show 0 ≤ 6 by omega, fun i hi => ?_⟩, fun f hf => (by cases hf), fun v _ => ⟨show 1 ≤ 1 by omega, show 1 ≤ 4 by omega, show 0 < 1 by omega⟩⟩
  · have hf : f < 0 := hf
    omega
  · have he : e < 0 := he
    omega
  · have hi : i < 0 := hi
    omega
theorem J0 (hg : ∀ j, j < 6 → g j = nn 1) (hg1 : ∀ j, j < 6 → g1 j = nn 1) (hg2 : ∀ j, j < 72 → g2 j = -1) : JJ A0 W0 (fun _ => 0) (fun _ => 0) [] (st0 g g1 g2) (fun _ _ => none) (fun _ _ => 0) := by
  refine ⟨⟨ok0, ⟨⟨show 0 ≤ 24 by omega, fun i hi => ?_⟩, fun q => (by cases q)⟩, fun q => (by cases q)⟩, ⟨⟨⟨rfl, fun f hf => ?_⟩, ⟨rfl, fun e he => ?_, fun e e' he => ?_⟩, ⟨rfl, rfl, fun i hi => ?_, fun i hi => ?_⟩, rfl, fun v hv => ⟨hg v hv, rfl⟩, rfl⟩, fun s hs => ?_, ⟨⟨rfl, fun i hi => ?_⟩, ⟨rfl, rfl, rfl, ?_, fun q => (by cases q)⟩, rfl, fun q => (by cases q)⟩⟩, ⟨⟨rfl, fun f hf => ?_⟩, ⟨rfl, fun e he => ?_⟩, fun e v he hv => ?_, ⟨fun m hm => rfl, fun m i hm hi => ?_⟩, rfl, fun v hv => ⟨hg1 v hv, rfl⟩⟩, ⟨⟨rfl, fun i hi => ?_⟩, ⟨rfl, fun q => (by cases q)⟩, rfl, fun q => (by cases q)⟩⟩
  · have hi : i < 0 := hi
    omega
  · have hf : f < 0 := hf
    omega
  · have he : e < 0 := he
    omega
  · have he : e < 0 := he
    omega
  · have hi : i < 0 := hi
    omega
  · have hi : i < 0 := hi
    omega
  · exact ⟨⟨fun q => (by rw [bq_0] at q; cases q), fun _ => bq_0⟩, ⟨fun q => (by rw [bq_0] at q; cases q), fun _ => bq_0⟩⟩
  · have hi : i < 0 := hi
    omega
  · exact nf_nn (k := 0) (by omega)
  · have hf : f < 0 := hf
    omega
  · have he : e < 0 := he
    omega
  · exact hg2 (6 * e + v) (by omega)
  · have hi : i < 0 := hi
    omega
  · have hi : i < 0 := hi
    omega
/-- the memory, cell by cell -/
def mkF (σ : Nat → Nat → Int32) (ρ : Nat → Nat → Option Nat) (τ : Nat → Nat → Int64) : Nat → List (Nat × Nat) → am_H
  | _, [] => []
  | a, s :: l => me_cell a s (σ a) (ρ a) (τ a) :: mkF σ ρ τ (a + 1) l
theorem mkF_eq {σ : Nat → Nat → Int32} {ρ : Nat → Nat → Option Nat} {τ : Nat → Nat → Int64} : ∀ (l : List (Nat × Nat)) (a : Nat), l.mapIdx (fun i s => me_cell (i + a) s (σ (i + a)) (ρ (i + a)) (τ (i + a))) = mkF σ ρ τ a l
  | [], _ => rfl
  | s :: l, a => by
    have h := mkF_eq (σ := σ) (ρ := ρ) (τ := τ) l (a + 1)
    rw [List.mapIdx_cons, mkF, ← h, Nat.zero_add]
    congr 2
    funext i t
    rw [show i + 1 + a = i + (a + 1) by omega]
theorem cell_0 : (.inr (0, [.ref (0 + 1), .ref (0 + 5), .int (nn 0), .ref (0 + 7), .ref (0 + 18), .ref (0 + 21), .ref (0 + 6), .int (nn 0)]) : am_E) = me_cell 0 (5, 0) (st0 g g1 g2 0) (fun _ => none) (fun _ => 0) := rfl
theorem cell_1 : (.inr (1, [.ref (0 + 1 + 1), .ref (0 + 1 + 2), .ref (0 + 1 + 3), .int (nn 0)]) : am_E) = me_cell 1 (6, 0) (st0 g g1 g2 1) (fun _ => none) (fun _ => 0) := rfl
theorem cell_2 : (am_I 24 (fun _ => 0) : am_E) = me_cell 2 (0, 24) (st0 g g1 g2 2) (fun _ => none) (fun _ => 0) := rfl
theorem cell_3 : (am_I 25 (fun _ => 0) : am_E) = me_cell 3 (0, 25) (st0 g g1 g2 3) (fun _ => none) (fun _ => 0) := rfl
theorem cell_4 : (am_I 25 (fun _ => 0) : am_E) = me_cell 4 (0, 25) (st0 g g1 g2 4) (fun _ => none) (fun _ => 0) := rfl
theorem cell_5 : (am_R 3 30 (fun _ => none) : am_E) = me_cell 5 (3, 30) (st0 g g1 g2 5) (fun _ => none) (fun _ => 0) := rfl
theorem cell_6 : (am_I 7 (fun _ => 0) : am_E) = me_cell 6 (0, 7) (st0 g g1 g2 6) (fun _ => none) (fun _ => 0) := rfl
theorem cell_7 : (.inr (5, [.ref (0 + 7 + 1), .ref (0 + 7 + 2), .ref (0 + 7 + 3), .int (nn 0), .ref (0 + 7 + 4), .null, .ref (0 + 7 + 9), .ref (0 + 7 + 10)]) : am_E) = me_cell 7 (10, 0) (st0 g g1 g2 7) (fun _ => none) (fun _ => 0) := rfl
theorem cell_8 : (am_I 6 g : am_E) = me_cell 8 (0, 6) (st0 g g1 g2 8) (fun _ => none) (fun _ => 0) := rfl
theorem cell_9 : (am_I 7 (fun _ => 0) : am_E) = me_cell 9 (0, 7) (st0 g g1 g2 9) (fun _ => none) (fun _ => 0) := rfl
theorem cell_10 : (am_R 4 12 (fun _ => none) : am_E) = me_cell 10 (4, 12) (st0 g g1 g2 10) (fun _ => none) (fun _ => 0) := rfl
theorem cell_11 : (.inr (4, [.ref (0 + 7 + 4 + 1), .ref (0 + 7 + 4 + 2), .int (nn 0), .int (nn 0), .ref (0 + 7 + 4 + 3), .ref (0 + 7 + 4 + 4)]) : am_E) = me_cell 11 (9, 0) (st0 g g1 g2 11) (fun _ => none) (fun _ => 0) := rfl
theorem cell_12 : (am_R 3 6 (fun _ => none) : am_E) = me_cell 12 (3, 6) (st0 g g1 g2 12) (fun _ => none) (fun _ => 0) := rfl
theorem cell_13 : (am_R 3 6 (fun _ => none) : am_E) = me_cell 13 (3, 6) (st0 g g1 g2 13) (fun _ => none) (fun _ => 0) := rfl
theorem cell_14 : (am_J 65 (fun _ => 0) : am_E) = me_cell 14 (1, 65) (st0 g g1 g2 14) (fun _ => none) (fun _ => 0) := rfl
theorem cell_15 : (am_J 65 (fun _ => 0) : am_E) = me_cell 15 (1, 65) (st0 g g1 g2 15) (fun _ => none) (fun _ => 0) := rfl
theorem cell_16 : (am_I 7 (fun _ => 0) : am_E) = me_cell 16 (0, 7) (st0 g g1 g2 16) (fun _ => none) (fun _ => 0) := rfl
theorem cell_17 : (am_I 7 (fun _ => 0) : am_E) = me_cell 17 (0, 7) (st0 g g1 g2 17) (fun _ => none) (fun _ => 0) := rfl
theorem cell_18 : (.inr (6, [.ref (0 + 7), .ref (0 + 18 + 1), .ref (0 + 18 + 2), .int (nn 0)]) : am_E) = me_cell 18 (11, 0) (st0 g g1 g2 18) (fun _ => none) (fun _ => 0) := rfl
theorem cell_19 : (am_I 7 (fun _ => 0) : am_E) = me_cell 19 (0, 7) (st0 g g1 g2 19) (fun _ => none) (fun _ => 0) := rfl
theorem cell_20 : (am_I 7 (fun _ => 0) : am_E) = me_cell 20 (0, 7) (st0 g g1 g2 20) (fun _ => none) (fun _ => 0) := rfl
theorem cell_21 : (.inr (7, [.ref (0 + 7), .ref (0 + 21 + 1), .ref (0 + 21 + 2), .int (nn 0), .int (nn 0), .int (nn 0)]) : am_E) = me_cell 21 (12, 0) (st0 g g1 g2 21) (fun _ => none) (fun _ => 0) := rfl
theorem cell_22 : (am_I 7 (fun _ => 0) : am_E) = me_cell 22 (0, 7) (st0 g g1 g2 22) (fun _ => none) (fun _ => 0) := rfl
theorem cell_23 : (am_I 360 (fun _ => 0) : am_E) = me_cell 23 (0, 360) (st0 g g1 g2 23) (fun _ => none) (fun _ => 0) := rfl
theorem cell_24 : (.inr (8, [.int 0, .ref (24 + 1), .ref (24 + 2), .int 0, .ref (24 + 3), .int 0, .ref (24 + 4), .ref (24 + 5), .ref (24 + 6), .ref (24 + 7), .ref (24 + 8), .int 0, .ref (24 + 9), .ref (24 + 10), .ref (24 + 11), .ref (24 + 12), .ref (24 + 13), .ref (24 + 14), .ref (24 + 15), .ref (24 + 16), .int (-1), .ref (24 + 17), .ref (24 + 18), .int 0, .int 0, .int 0, .ref (24 + 19), .int 0, .ref (24 + 20), .int 0, .ref (24 + 21), .int 0, .int 0]) : am_E) = me_cell 24 (13, 0) (st0 g g1 g2 24) (fun _ => none) (fun _ => 0) := rfl
theorem cell_25 : (am_I 6 g1 : am_E) = me_cell 25 (0, 6) (st0 g g1 g2 25) (fun _ => none) (fun _ => 0) := rfl
theorem cell_26 : (am_I 6 (fun _ => 0) : am_E) = me_cell 26 (0, 6) (st0 g g1 g2 26) (fun _ => none) (fun _ => 0) := rfl
theorem cell_27 : (am_I 24 (fun _ => 0) : am_E) = me_cell 27 (0, 24) (st0 g g1 g2 27) (fun _ => none) (fun _ => 0) := rfl
theorem cell_28 : (am_I 30 (fun _ => 0) : am_E) = me_cell 28 (0, 30) (st0 g g1 g2 28) (fun _ => none) (fun _ => 0) := rfl
theorem cell_29 : (am_I 720 (fun _ => 0) : am_E) = me_cell 29 (0, 720) (st0 g g1 g2 29) (fun _ => none) (fun _ => 0) := rfl
theorem cell_30 : (am_Z 30 (fun _ => 0) : am_E) = me_cell 30 (2, 30) (st0 g g1 g2 30) (fun _ => none) (fun _ => 0) := rfl
theorem cell_31 : (am_Z 30 (fun _ => 0) : am_E) = me_cell 31 (2, 30) (st0 g g1 g2 31) (fun _ => none) (fun _ => 0) := rfl
theorem cell_32 : (am_Z 30 (fun _ => 0) : am_E) = me_cell 32 (2, 30) (st0 g g1 g2 32) (fun _ => none) (fun _ => 0) := rfl
theorem cell_33 : (am_I 12 (fun _ => 0) : am_E) = me_cell 33 (0, 12) (st0 g g1 g2 33) (fun _ => none) (fun _ => 0) := rfl
theorem cell_34 : (am_I 12 (fun _ => 0) : am_E) = me_cell 34 (0, 12) (st0 g g1 g2 34) (fun _ => none) (fun _ => 0) := rfl
theorem cell_35 : (am_I 12 (fun _ => 0) : am_E) = me_cell 35 (0, 12) (st0 g g1 g2 35) (fun _ => none) (fun _ => 0) := rfl
theorem cell_36 : (am_I 12 (fun _ => 0) : am_E) = me_cell 36 (0, 12) (st0 g g1 g2 36) (fun _ => none) (fun _ => 0) := rfl
theorem cell_37 : (am_I 72 g2 : am_E) = me_cell 37 (0, 72) (st0 g g1 g2 37) (fun _ => none) (fun _ => 0) := rfl
theorem cell_38 : (am_I 12 (fun _ => 0) : am_E) = me_cell 38 (0, 12) (st0 g g1 g2 38) (fun _ => none) (fun _ => 0) := rfl
theorem cell_39 : (am_I 2 (fun _ => 0) : am_E) = me_cell 39 (0, 2) (st0 g g1 g2 39) (fun _ => none) (fun _ => 0) := rfl
theorem cell_40 : (am_I 12 (fun _ => 0) : am_E) = me_cell 40 (0, 12) (st0 g g1 g2 40) (fun _ => none) (fun _ => 0) := rfl
theorem cell_41 : (am_I 6 (fun _ => 0) : am_E) = me_cell 41 (0, 6) (st0 g g1 g2 41) (fun _ => none) (fun _ => 0) := rfl
theorem cell_42 : (am_I 6 (fun _ => 0) : am_E) = me_cell 42 (0, 6) (st0 g g1 g2 42) (fun _ => none) (fun _ => 0) := rfl
theorem cell_43 : (am_I 366 (fun _ => 0) : am_E) = me_cell 43 (0, 366) (st0 g g1 g2 43) (fun _ => none) (fun _ => 0) := rfl
theorem cell_44 : (am_I 7 (fun _ => 0) : am_E) = me_cell 44 (0, 7) (st0 g g1 g2 44) (fun _ => none) (fun _ => 0) := rfl
theorem cell_45 : (am_I 30 (fun _ => 0) : am_E) = me_cell 45 (0, 30) (st0 g g1 g2 45) (fun _ => none) (fun _ => 0) := rfl
theorem cell_46 : (am_J 1 (fun _ => 0) : am_E) = me_cell 46 (1, 1) (st0 g g1 g2 46) (fun _ => none) (fun _ => 0) := rfl
theorem heap0 : [.inr (0, [.ref (0 + 1), .ref (0 + 5), .int (nn 0), .ref (0 + 7), .ref (0 + 18), .ref (0 + 21), .ref (0 + 6), .int (nn 0)]), .inr (1, [.ref (0 + 1 + 1), .ref (0 + 1 + 2), .ref (0 + 1 + 3), .int (nn 0)]), am_I 24 (fun _ => 0), am_I 25 (fun _ => 0), am_I 25 (fun _ => 0), am_R 3 30 (fun _ => none), am_I 7 (fun _ => 0), .inr (5, [.ref (0 + 7 + 1), .ref (0 + 7 + 2), .ref (0 + 7 + 3), .int (nn 0), .ref (0 + 7 + 4), .null, .ref (0 + 7 + 9), .ref (0 + 7 + 10)]), am_I 6 g, am_I 7 (fun _ => 0), am_R 4 12 (fun _ => none), .inr (4, [.ref (0 + 7 + 4 + 1), .ref (0 + 7 + 4 + 2), .int (nn 0), .int (nn 0), .ref (0 + 7 + 4 + 3), .ref (0 + 7 + 4 + 4)]), am_R 3 6 (fun _ => none), am_R 3 6 (fun _ => none), am_J 65 (fun _ => 0), am_J 65 (fun _ => 0), am_I 7 (fun _ => 0), am_I 7 (fun _ => 0), .inr (6, [.ref (0 + 7), .ref (0 + 18 + 1), .ref (0 + 18 + 2), .int (nn 0)]), am_I 7 (fun _ => 0), am_I 7 (fun _ => 0), .inr (7, [.ref (0 + 7), .ref (0 + 21 + 1), .ref (0 + 21 + 2), .int (nn 0), .int (nn 0), .int (nn 0)]), am_I 7 (fun _ => 0), am_I 360 (fun _ => 0)] ++ [.inr (8, [.int 0, .ref (24 + 1), .ref (24 + 2), .int 0, .ref (24 + 3), .int 0, .ref (24 + 4), .ref (24 + 5), .ref (24 + 6), .ref (24 + 7), .ref (24 + 8), .int 0, .ref (24 + 9), .ref (24 + 10), .ref (24 + 11), .ref (24 + 12), .ref (24 + 13), .ref (24 + 14), .ref (24 + 15), .ref (24 + 16), .int (-1), .ref (24 + 17), .ref (24 + 18), .int 0, .int 0, .int 0, .ref (24 + 19), .int 0, .ref (24 + 20), .int 0, .ref (24 + 21), .int 0, .int 0]), am_I 6 g1, am_I 6 (fun _ => 0), am_I 24 (fun _ => 0), am_I 30 (fun _ => 0), am_I 720 (fun _ => 0), am_Z 30 (fun _ => 0), am_Z 30 (fun _ => 0), am_Z 30 (fun _ => 0), am_I 12 (fun _ => 0), am_I 12 (fun _ => 0), am_I 12 (fun _ => 0), am_I 12 (fun _ => 0), am_I 72 g2, am_I 12 (fun _ => 0), am_I 2 (fun _ => 0), am_I 12 (fun _ => 0), am_I 6 (fun _ => 0), am_I 6 (fun _ => 0), am_I 366 (fun _ => 0), am_I 7 (fun _ => 0), am_I 30 (fun _ => 0)] ++ [am_J 1 (fun _ => 0)] = mk [] (st0 g g1 g2) (fun _ _ => none) (fun _ _ => 0) := by
  have h := mkF_eq (σ := st0 g g1 g2) (ρ := fun _ _ => none) (τ := fun _ _ => 0) me_s0 0
  have e : mk [] (st0 g g1 g2) (fun _ _ => none) (fun _ _ => 0) = mkF (st0 g g1 g2) (fun _ _ => none) (fun _ _ => 0) 0 me_s0 := by
    rw [← h]
    unfold mk
    rw [List.append_nil]
    rfl
  rw [e]
  simp only [List.cons_append, List.nil_append]
  unfold me_s0
  simp only [mkF, Nat.zero_add, Nat.reduceAdd]
  rw [← cell_0 (g := g) (g1 := g1) (g2 := g2), ← cell_1 (g := g) (g1 := g1) (g2 := g2), ← cell_2 (g := g) (g1 := g1) (g2 := g2), ← cell_3 (g := g) (g1 := g1) (g2 := g2), ← cell_4 (g := g) (g1 := g1) (g2 := g2), ← cell_5 (g := g) (g1 := g1) (g2 := g2), ← cell_6 (g := g) (g1 := g1) (g2 := g2), ← cell_7 (g := g) (g1 := g1) (g2 := g2), ← cell_8 (g := g) (g1 := g1) (g2 := g2), ← cell_9 (g := g) (g1 := g1) (g2 := g2), ← cell_10 (g := g) (g1 := g1) (g2 := g2), ← cell_11 (g := g) (g1 := g1) (g2 := g2), ← cell_12 (g := g) (g1 := g1) (g2 := g2), ← cell_13 (g := g) (g1 := g1) (g2 := g2), ← cell_14 (g := g) (g1 := g1) (g2 := g2), ← cell_15 (g := g) (g1 := g1) (g2 := g2), ← cell_16 (g := g) (g1 := g1) (g2 := g2), ← cell_17 (g := g) (g1 := g1) (g2 := g2), ← cell_18 (g := g) (g1 := g1) (g2 := g2), ← cell_19 (g := g) (g1 := g1) (g2 := g2), ← cell_20 (g := g) (g1 := g1) (g2 := g2), ← cell_21 (g := g) (g1 := g1) (g2 := g2), ← cell_22 (g := g) (g1 := g1) (g2 := g2), ← cell_23 (g := g) (g1 := g1) (g2 := g2), ← cell_24 (g := g) (g1 := g1) (g2 := g2), ← cell_25 (g := g) (g1 := g1) (g2 := g2), ← cell_26 (g := g) (g1 := g1) (g2 := g2), ← cell_27 (g := g) (g1 := g1) (g2 := g2), ← cell_28 (g := g) (g1 := g1) (g2 := g2), ← cell_29 (g := g) (g1 := g1) (g2 := g2), ← cell_30 (g := g) (g1 := g1) (g2 := g2), ← cell_31 (g := g) (g1 := g1) (g2 := g2), ← cell_32 (g := g) (g1 := g1) (g2 := g2), ← cell_33 (g := g) (g1 := g1) (g2 := g2), ← cell_34 (g := g) (g1 := g1) (g2 := g2), ← cell_35 (g := g) (g1 := g1) (g2 := g2), ← cell_36 (g := g) (g1 := g1) (g2 := g2), ← cell_37 (g := g) (g1 := g1) (g2 := g2), ← cell_38 (g := g) (g1 := g1) (g2 := g2), ← cell_39 (g := g) (g1 := g1) (g2 := g2), ← cell_40 (g := g) (g1 := g1) (g2 := g2), ← cell_41 (g := g) (g1 := g1) (g2 := g2), ← cell_42 (g := g) (g1 := g1) (g2 := g2), ← cell_43 (g := g) (g1 := g1) (g2 := g2), ← cell_44 (g := g) (g1 := g1) (g2 := g2), ← cell_45 (g := g) (g1 := g1) (g2 := g2), ← cell_46 (g := g) (g1 := g1) (g2 := g2)]
theorem s_151 (hL : L ≤ 2048) : go (tb_P L xs) 151 0 (some (.ref am_scr) :: List.replicate 6 none) [] [] LQ := by
  refine g_new k151_0 n151_0 ?_
  rw [show am_df (tb_P L xs) 0 = [.null, .null, .int 0, .null, .null, .null, .null, .int 0] from rfl]
  refine g_dup k151_3 rfl ?_
  refine g_callI0 k151_4 s151_4 c151_4 l0 (by omega) trivial rfl r151_4 ?_
  refine s_0 (a := 0) (h0 := []) rfl (by omega) (fun g hg => ?_)
  refine af_void ?_
  refine g_astore_n k151_7 rfl rfl ?_
  refine g_new k151_8 n151_8 ?_
  rw [show am_df (tb_P L xs) 8 = [.int 0, .null, .null, .int 0, .null, .int 0, .null, .null, .null, .null, .null, .int 0, .null, .null, .null, .null, .null, .null, .null, .null, .int 0, .null, .null, .int 0, .int 0, .int 0, .null, .int 0, .null, .int 0, .null, .int 0, .int 0] from rfl]
  refine g_dup k151_11 rfl ?_
  refine g_callI0 k151_12 s151_12 c151_12 l104 (by omega) trivial rfl r151_12 ?_
  refine s_104 (a := 24) (h0 := [.inr (0, [.ref (0 + 1), .ref (0 + 5), .int (nn 0), .ref (0 + 7), .ref (0 + 18), .ref (0 + 21), .ref (0 + 6), .int (nn 0)]), .inr (1, [.ref (0 + 1 + 1), .ref (0 + 1 + 2), .ref (0 + 1 + 3), .int (nn 0)]), am_I 24 (fun _ => 0), am_I 25 (fun _ => 0), am_I 25 (fun _ => 0), am_R 3 30 (fun _ => none), am_I 7 (fun _ => 0), .inr (5, [.ref (0 + 7 + 1), .ref (0 + 7 + 2), .ref (0 + 7 + 3), .int (nn 0), .ref (0 + 7 + 4), .null, .ref (0 + 7 + 9), .ref (0 + 7 + 10)]), am_I 6 g, am_I 7 (fun _ => 0), am_R 4 12 (fun _ => none), .inr (4, [.ref (0 + 7 + 4 + 1), .ref (0 + 7 + 4 + 2), .int (nn 0), .int (nn 0), .ref (0 + 7 + 4 + 3), .ref (0 + 7 + 4 + 4)]), am_R 3 6 (fun _ => none), am_R 3 6 (fun _ => none), am_J 65 (fun _ => 0), am_J 65 (fun _ => 0), am_I 7 (fun _ => 0), am_I 7 (fun _ => 0), .inr (6, [.ref (0 + 7), .ref (0 + 18 + 1), .ref (0 + 18 + 2), .int (nn 0)]), am_I 7 (fun _ => 0), am_I 7 (fun _ => 0), .inr (7, [.ref (0 + 7), .ref (0 + 21 + 1), .ref (0 + 21 + 2), .int (nn 0), .int (nn 0), .int (nn 0)]), am_I 7 (fun _ => 0), am_I 360 (fun _ => 0)]) rfl (fun g1 g2 hg1 hg2 => ?_)
  refine af_void ?_
  refine g_astore_n k151_15 rfl rfl ?_
  refine g_iconst (v := nn 1) k151_16 ci_1 ?_
  refine g_newJ k151_17 (by rw [ti_1]; omega) ?_
  refine g_astore_n k151_19 rfl rfl ?_
  refine g_iconst (v := nn 0) k151_20 ci_0 ?_
  refine g_istore k151_21 rfl rfl ?_
  refine go_heap (heap0 (g := g) (g1 := g1) (g2 := g2)) ?_
  exact s_151L hL 512 0 (by omega) (by omega) (J0 hg hg1 hg2) (Nat.le_refl _) (fun s hs => by cases hs)
theorem lw_all : lw_pure := fun L xs hL => by
  obtain ⟨n, o, h', h1, h2, h3, h4⟩ := s_151 (L := L) (xs := xs) hL
  subst h2
  exact ⟨n, h', h1, h3, h4⟩
theorem i_vc : Claimed_1_1 ∧ Claimed_1_2 := lw_end lw_all
end ZN
