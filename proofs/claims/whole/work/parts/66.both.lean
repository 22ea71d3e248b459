/-! The law: both sides together. -/
section ZI
variable {L : Nat} {xs : Nat → Int32} {Q : am_A → am_H → Prop} {dy dy' : List (Nat × Nat)} {σ σ' σ1 σ2 : Nat → Nat → Int32} {ρ ρ' ρ1 : Nat → Nat → Option Nat} {τ τ' τ1 : Nat → Nat → Int64} {A A' : TD} {W W' : RS} {F E F' E' : Nat → Nat} {i c : Nat}
/-- all states of a run are in the sizes -/
def inA (A : TD) (W : RS) : Prop := rs_on W = true → ∀ j v, j ≤ rs_k W → v < 6 → rs_r W j v < td_sz A v
theorem inA.inS (h : inA A W) : inS A W := fun ho v hv => h ho (rs_k W) v (Nat.le_refl _) hv
/-- class and reference hold the same -/
def JJ (A : TD) (W : RS) (F E : Nat → Nat) (dy : List (Nat × Nat)) (σ : Nat → Nat → Int32) (ρ : Nat → Nat → Option Nat) (τ : Nat → Nat → Int64) : Prop := (TOK A ∧ WOK W ∧ inA A W) ∧ XS A W F E dy σ ρ τ ∧ RepM A σ ∧ RunM W σ
/-- how much more there is behind a call -/
def gr (dy dy' : List (Nat × Nat)) : Prop := dy'.length ≤ dy.length + 6 ∧ ((∀ s, s ∈ dy → s.2 ≤ 25) → ∀ s, s ∈ dy' → s.2 ≤ 25)
theorem gr.rf : gr dy dy := ⟨by omega, fun h => h⟩
theorem gr_app {l : List (Nat × Nat)} (h6 : l.length ≤ 6) (h : ∀ s, s ∈ l → s.2 ≤ 25) : gr dy (dy ++ l) := ⟨by rw [List.length_append]; omega, fun h1 s hs => by
  rcases List.mem_append.mp hs with q | q
  · exact h1 s q
  · exact h s q⟩
theorem gr_1 {E : Nat} : gr dy (dy ++ [(E, 0)]) := gr_app (show 1 ≤ 6 by omega) (fun s hs => by
  rw [List.mem_singleton] at hs
  rw [hs]
  exact Nat.zero_le _)
theorem gr_e : gr dy (dy ++ [(8, 0), (3, 6)]) := gr_app (show 2 ≤ 6 by omega) (fun s hs => by
  simp only [List.mem_cons, List.not_mem_nil, or_false] at hs
  rcases hs with rfl | rfl
  · show 0 ≤ 25; omega
  · show 6 ≤ 25; omega)
theorem gr_f {n : Nat} (hn : n ≤ 24) : gr dy (dy ++ dF n) := gr_app (show 5 ≤ 6 by omega) (fun s hs => by
  unfold dF at hs
  simp only [List.mem_cons, List.not_mem_nil, or_false] at hs
  rcases hs with rfl | rfl | rfl | rfl | rfl
  · show 0 ≤ 25; omega
  · show 25 ≤ 25; omega
  · show n ≤ 25; omega
  · show n ≤ 25; omega
  · show n ≤ 25; omega)
/-- what is owed behind a call -/
def LK (L : Nat) (xs : Nat → Int32) (i : Nat) (dy : List (Nat × Nat)) (Q : am_A → am_H → Prop) : Prop := ∀ (A : TD) (W : RS) (F E : Nat → Nat) (dy' : List (Nat × Nat)) (σ' : Nat → Nat → Int32) (ρ' : Nat → Nat → Option Nat) (τ' : Nat → Nat → Int64) (l5 l6 : Option Value), JJ A W F E dy' σ' ρ' τ' → gr dy dy' → go (tb_P L xs) 151 1052 [some (.ref am_scr), some (.ref 0), some (.ref 24), some (.ref 46), some (.int (nn i)), l5, l6] [] (mk dy' σ' ρ' τ') Q
theorem m_sald {y pc j : Nat} {lo : am_L} {st : List Value} {h : am_H} (d : decode (am_cd (am_me (tb_P L xs) y)) pc = .ok (.iaload, 1)) (hj : j < L) (hL : L ≤ 2048) (kk : go (tb_P L xs) y (pc + 1) lo (.int (xs j) :: st) h Q) : go (tb_P L xs) y pc lo (.int (nn j) :: .ref am_scr :: st) h Q := by
  obtain ⟨e1, e2⟩ := ix_in (i := nn j) (j := j) (n := L) rfl hj (by omega)
  refine g_saload d e1 ?_
  rw [e2]
  exact kk
theorem RepM.fx (h : RepM A σ) (hs : fX σ σ') : RepM A σ' := h.agr (fun a k q => by rw [hs a (by omega) (by omega)])
theorem RunM.fx (h : RunM W σ) (hs : fX σ σ') : RunM W σ' := h.agr (fun a k q => by rw [hs a (by omega) (by omega)])
theorem XS.fm (ok : TOK A) (h : XS A W F E dy σ ρ τ) (hs : fM σ σ') : XS A W F E dy σ' ρ τ := ⟨h.1.agr ok ⟨fun a k q => by rw [hs a (by omega)], fun a k s q _ _ => by rw [hs a (by omega)]⟩, h.2.1, h.2.2.agr (fun a k q => by rw [hs a (by omega)])⟩
theorem XS.out {v : Int64} (h : XS A W F E dy σ ρ τ) : XS A W F E dy σ ρ (up2 τ 46 0 v) := by
  refine ⟨h.1, fun s hs => ?_, h.2.2⟩
  obtain ⟨h1, h2⟩ := h.2.1 s hs
  unfold KN
  rw [up2_ne (by omega), up2_ne (by omega), up2_ne (by omega), up2_ne (by omega)]
  exact ⟨h1, h2⟩
theorem JJ.fin (ok : TOK A) (wo : WOK W) (hi : inA A W) (hx : XS A W F E dy σ1 ρ τ) (hm : oM A W c σ1 σ2) : JJ A W F E dy σ2 ρ τ := ⟨⟨ok, wo, hi⟩, hx.fm ok hm.1, hm.2.1, hm.2.2.1⟩
theorem lc_s {x : Int64} : lg_cmp x x = 0 := by
  unfold lg_cmp
  rw [if_neg (by rw [gt_iff_lt, Int64.lt_iff_toInt_lt]; omega), if_pos rfl]
/-- what is caught in the wrappers -/
def tb_fhF (y pc E : Nat) : Option (Nat × Nat) := if E ∈ [9, 10, 11] then (match (am_hd (tb_me y)).find? (fun q => decide (q.1 ≤ pc) && decide (pc < q.2.1) && decide (q.2.2.2.2 = E)) with
  | some q => (match decode (am_cd (tb_me y)) q.2.2.1 with
    | .ok (.astore k, 2) => some (q.2.2.1 + 2, k)
    | .ok (.astore_n k, 1) => some (q.2.2.1 + 1, k)
    | _ => none)
  | none => none) else none
theorem h38x {L : Nat} {xs : Nat → Int32} : am_no (tb_P L xs) 38 4 = false := show (am_hd (tb_me 38)).all (fun q => !(decide (q.1 ≤ 4) && decide (4 < q.2.1))) = false from by decide +kernel
theorem v38_9 {L : Nat} {xs : Nat → Int32} : am_fh (tb_P L xs) 38 4 9 = some (12, 4) := show tb_fhF 38 4 9 = some (12, 4) from by decide +kernel
theorem h41x {L : Nat} {xs : Nat → Int32} : am_no (tb_P L xs) 41 4 = false := show (am_hd (tb_me 41)).all (fun q => !(decide (q.1 ≤ 4) && decide (4 < q.2.1))) = false from by decide +kernel
theorem v41_9 {L : Nat} {xs : Nat → Int32} : am_fh (tb_P L xs) 41 4 9 = some (13, 3) := show tb_fhF 41 4 9 = some (13, 3) from by decide +kernel
theorem v41_10 {L : Nat} {xs : Nat → Int32} : am_fh (tb_P L xs) 41 4 10 = some (16, 3) := show tb_fhF 41 4 10 = some (16, 3) from by decide +kernel
theorem h46x {L : Nat} {xs : Nat → Int32} : am_no (tb_P L xs) 46 3 = false := show (am_hd (tb_me 46)).all (fun q => !(decide (q.1 ≤ 3) && decide (3 < q.2.1))) = false from by decide +kernel
theorem v46_9 {L : Nat} {xs : Nat → Int32} : am_fh (tb_P L xs) 46 3 9 = some (12, 2) := show tb_fhF 46 3 9 = some (12, 2) from by decide +kernel
theorem v46_10 {L : Nat} {xs : Nat → Int32} : am_fh (tb_P L xs) 46 3 10 = some (15, 2) := show tb_fhF 46 3 10 = some (15, 2) from by decide +kernel
theorem h58x {L : Nat} {xs : Nat → Int32} : am_no (tb_P L xs) 58 7 = false := show (am_hd (tb_me 58)).all (fun q => !(decide (q.1 ≤ 7) && decide (7 < q.2.1))) = false from by decide +kernel
theorem v58_9 {L : Nat} {xs : Nat → Int32} : am_fh (tb_P L xs) 58 7 9 = some (17, 5) := show tb_fhF 58 7 9 = some (17, 5) from by decide +kernel
theorem v58_10 {L : Nat} {xs : Nat → Int32} : am_fh (tb_P L xs) 58 7 10 = some (21, 5) := show tb_fhF 58 7 10 = some (21, 5) from by decide +kernel
theorem h65x {L : Nat} {xs : Nat → Int32} : am_no (tb_P L xs) 65 3 = false := show (am_hd (tb_me 65)).all (fun q => !(decide (q.1 ≤ 3) && decide (3 < q.2.1))) = false from by decide +kernel
theorem v65_9 {L : Nat} {xs : Nat → Int32} : am_fh (tb_P L xs) 65 3 9 = some (10, 3) := show tb_fhF 65 3 9 = some (10, 3) from by decide +kernel
theorem h72x {L : Nat} {xs : Nat → Int32} : am_no (tb_P L xs) 72 4 = false := show (am_hd (tb_me 72)).all (fun q => !(decide (q.1 ≤ 4) && decide (4 < q.2.1))) = false from by decide +kernel
theorem v72_9 {L : Nat} {xs : Nat → Int32} : am_fh (tb_P L xs) 72 4 9 = some (12, 4) := show tb_fhF 72 4 9 = some (12, 4) from by decide +kernel
theorem h76x {L : Nat} {xs : Nat → Int32} : am_no (tb_P L xs) 76 3 = false := show (am_hd (tb_me 76)).all (fun q => !(decide (q.1 ≤ 3) && decide (3 < q.2.1))) = false from by decide +kernel
theorem v76_9 {L : Nat} {xs : Nat → Int32} : am_fh (tb_P L xs) 76 3 9 = some (10, 3) := show tb_fhF 76 3 9 = some (10, 3) from by decide +kernel
theorem h78x {L : Nat} {xs : Nat → Int32} : am_no (tb_P L xs) 78 5 = false := show (am_hd (tb_me 78)).all (fun q => !(decide (q.1 ≤ 5) && decide (5 < q.2.1))) = false from by decide +kernel
theorem v78_9 {L : Nat} {xs : Nat → Int32} : am_fh (tb_P L xs) 78 5 9 = some (15, 4) := show tb_fhF 78 5 9 = some (15, 4) from by decide +kernel
theorem v78_10 {L : Nat} {xs : Nat → Int32} : am_fh (tb_P L xs) 78 5 10 = some (19, 4) := show tb_fhF 78 5 10 = some (19, 4) from by decide +kernel
theorem h83x {L : Nat} {xs : Nat → Int32} : am_no (tb_P L xs) 83 2 = false := show (am_hd (tb_me 83)).all (fun q => !(decide (q.1 ≤ 2) && decide (2 < q.2.1))) = false from by decide +kernel
theorem v83_9 {L : Nat} {xs : Nat → Int32} : am_fh (tb_P L xs) 83 2 9 = some (9, 2) := show tb_fhF 83 2 9 = some (9, 2) from by decide +kernel
theorem h85x {L : Nat} {xs : Nat → Int32} : am_no (tb_P L xs) 85 5 = false := show (am_hd (tb_me 85)).all (fun q => !(decide (q.1 ≤ 5) && decide (5 < q.2.1))) = false from by decide +kernel
theorem v85_9 {L : Nat} {xs : Nat → Int32} : am_fh (tb_P L xs) 85 5 9 = some (22, 4) := show tb_fhF 85 5 9 = some (22, 4) from by decide +kernel
theorem h90x {L : Nat} {xs : Nat → Int32} : am_no (tb_P L xs) 90 4 = false := show (am_hd (tb_me 90)).all (fun q => !(decide (q.1 ≤ 4) && decide (4 < q.2.1))) = false from by decide +kernel
theorem v90_9 {L : Nat} {xs : Nat → Int32} : am_fh (tb_P L xs) 90 4 9 = some (13, 3) := show tb_fhF 90 4 9 = some (13, 3) from by decide +kernel
theorem h92x {L : Nat} {xs : Nat → Int32} : am_no (tb_P L xs) 92 5 = false := show (am_hd (tb_me 92)).all (fun q => !(decide (q.1 ≤ 5) && decide (5 < q.2.1))) = false from by decide +kernel
theorem v92_9 {L : Nat} {xs : Nat → Int32} : am_fh (tb_P L xs) 92 5 9 = some (22, 4) := show tb_fhF 92 5 9 = some (22, 4) from by decide +kernel
theorem v92_10 {L : Nat} {xs : Nat → Int32} : am_fh (tb_P L xs) 92 5 10 = some (26, 4) := show tb_fhF 92 5 10 = some (26, 4) from by decide +kernel
theorem h96x {L : Nat} {xs : Nat → Int32} : am_no (tb_P L xs) 96 5 = false := show (am_hd (tb_me 96)).all (fun q => !(decide (q.1 ≤ 5) && decide (5 < q.2.1))) = false from by decide +kernel
theorem v96_9 {L : Nat} {xs : Nat → Int32} : am_fh (tb_P L xs) 96 5 9 = some (15, 4) := show tb_fhF 96 5 9 = some (15, 4) from by decide +kernel
theorem v96_10 {L : Nat} {xs : Nat → Int32} : am_fh (tb_P L xs) 96 5 10 = some (19, 4) := show tb_fhF 96 5 10 = some (19, 4) from by decide +kernel
theorem v96_11 {L : Nat} {xs : Nat → Int32} : am_fh (tb_P L xs) 96 5 11 = some (23, 4) := show tb_fhF 96 5 11 = some (23, 4) from by decide +kernel
theorem h99x {L : Nat} {xs : Nat → Int32} : am_no (tb_P L xs) 99 3 = false := show (am_hd (tb_me 99)).all (fun q => !(decide (q.1 ≤ 3) && decide (3 < q.2.1))) = false from by decide +kernel
theorem v99_10 {L : Nat} {xs : Nat → Int32} : am_fh (tb_P L xs) 99 3 10 = some (12, 2) := show tb_fhF 99 3 10 = some (12, 2) from by decide +kernel
theorem h102x {L : Nat} {xs : Nat → Int32} : am_no (tb_P L xs) 102 4 = false := show (am_hd (tb_me 102)).all (fun q => !(decide (q.1 ≤ 4) && decide (4 < q.2.1))) = false from by decide +kernel
theorem v102_9 {L : Nat} {xs : Nat → Int32} : am_fh (tb_P L xs) 102 4 9 = some (13, 3) := show tb_fhF 102 4 9 = some (13, 3) from by decide +kernel
end ZI
