/-! What the tables say of calls, of exceptions and of handlers. -/
section BG
def tb_NST : (List (String × Nat × MethodName × String)) × (List (String × String × String)) × (List MethodName) × (List (Nat × Nat)) := (tb_nest, [("java/lang/Throwable", "UNASSIGNED_STACK", "[Ljava/lang/StackTraceElement;"), ("java/lang/Throwable", "SUPPRESSED_SENTINEL", "Ljava/util/List;")], [⟨"java/lang/RuntimeException", "<init>", "()V"⟩, ⟨"java/lang/Exception", "<init>", "()V"⟩, ⟨"java/lang/Throwable", "<init>", "()V"⟩], [(9, 10), (9, 11), (10, 9), (10, 11), (11, 9), (11, 10)])
def tb_kM (z : Nat) : Bool := plainFor (am_nm (tb_me z)) && !decide ((am_nm (tb_me z)).cls = "java/lang/invoke/MethodHandle") && !decide ((am_nm (tb_me z)).cls = "java/lang/invoke/VarHandle") && tb_ck (tb_mw z).1 (.initialized (am_nm (tb_me z)).cls) && (match am_hd (tb_me z) with
  | [] => tb_ck (tb_mw z).2.1 (.code (am_nm (tb_me z)) (am_cd (tb_me z)) (am_ml (tb_me z)) (am_rt (tb_me z)))
  | q :: r => tb_ck (tb_mw z).2.1 (.codeWith (am_nm (tb_me z)) (am_cd (tb_me z)) (am_ml (tb_me z)) (am_rt (tb_me z)) ((q :: r).map (fun q => (q.1, q.2.1, q.2.2.1, q.2.2.2.1)))))
theorem tb_kM0 : (List.range' 0 10).all tb_kM = true := by decide +kernel
theorem tb_kM1 : (List.range' 10 7).all tb_kM = true := by decide +kernel
theorem tb_kM2 : (List.range' 17 7).all tb_kM = true := by decide +kernel
theorem tb_kM3 : (List.range' 24 8).all tb_kM = true := by decide +kernel
theorem tb_kM4 : (List.range' 32 16).all tb_kM = true := by decide +kernel
theorem tb_kM5 : (List.range' 48 8).all tb_kM = true := by decide +kernel
theorem tb_kM6 : (List.range' 56 17).all tb_kM = true := by decide +kernel
theorem tb_kM7 : (List.range' 73 13).all tb_kM = true := by decide +kernel
theorem tb_kM8 : (List.range' 86 8).all tb_kM = true := by decide +kernel
theorem tb_kM9 : (List.range' 94 10).all tb_kM = true := by decide +kernel
theorem tb_kM10 : (List.range' 104 4).all tb_kM = true := by decide +kernel
theorem tb_kM11 : (List.range' 108 5).all tb_kM = true := by decide +kernel
theorem tb_kM12 : (List.range' 113 8).all tb_kM = true := by decide +kernel
theorem tb_kM13 : (List.range' 121 4).all tb_kM = true := by decide +kernel
theorem tb_kM14 : (List.range' 125 3).all tb_kM = true := by decide +kernel
theorem tb_kM15 : (List.range' 128 4).all tb_kM = true := by decide +kernel
theorem tb_kM16 : (List.range' 132 6).all tb_kM = true := by decide +kernel
theorem tb_kM17 : (List.range' 138 8).all tb_kM = true := by decide +kernel
theorem tb_kM18 : (List.range' 146 5).all tb_kM = true := by decide +kernel
theorem tb_kM_all {z : Nat} (hz : z < 151) : tb_kM z = true := by
  by_cases h0 : z < 10
  · exact List.all_eq_true.mp tb_kM0 z (List.mem_range'_1.mpr ⟨by omega, by omega⟩)
  by_cases h1 : z < 17
  · exact List.all_eq_true.mp tb_kM1 z (List.mem_range'_1.mpr ⟨by omega, by omega⟩)
  by_cases h2 : z < 24
  · exact List.all_eq_true.mp tb_kM2 z (List.mem_range'_1.mpr ⟨by omega, by omega⟩)
  by_cases h3 : z < 32
  · exact List.all_eq_true.mp tb_kM3 z (List.mem_range'_1.mpr ⟨by omega, by omega⟩)
  by_cases h4 : z < 48
  · exact List.all_eq_true.mp tb_kM4 z (List.mem_range'_1.mpr ⟨by omega, by omega⟩)
  by_cases h5 : z < 56
  · exact List.all_eq_true.mp tb_kM5 z (List.mem_range'_1.mpr ⟨by omega, by omega⟩)
  by_cases h6 : z < 73
  · exact List.all_eq_true.mp tb_kM6 z (List.mem_range'_1.mpr ⟨by omega, by omega⟩)
  by_cases h7 : z < 86
  · exact List.all_eq_true.mp tb_kM7 z (List.mem_range'_1.mpr ⟨by omega, by omega⟩)
  by_cases h8 : z < 94
  · exact List.all_eq_true.mp tb_kM8 z (List.mem_range'_1.mpr ⟨by omega, by omega⟩)
  by_cases h9 : z < 104
  · exact List.all_eq_true.mp tb_kM9 z (List.mem_range'_1.mpr ⟨by omega, by omega⟩)
  by_cases h10 : z < 108
  · exact List.all_eq_true.mp tb_kM10 z (List.mem_range'_1.mpr ⟨by omega, by omega⟩)
  by_cases h11 : z < 113
  · exact List.all_eq_true.mp tb_kM11 z (List.mem_range'_1.mpr ⟨by omega, by omega⟩)
  by_cases h12 : z < 121
  · exact List.all_eq_true.mp tb_kM12 z (List.mem_range'_1.mpr ⟨by omega, by omega⟩)
  by_cases h13 : z < 125
  · exact List.all_eq_true.mp tb_kM13 z (List.mem_range'_1.mpr ⟨by omega, by omega⟩)
  by_cases h14 : z < 128
  · exact List.all_eq_true.mp tb_kM14 z (List.mem_range'_1.mpr ⟨by omega, by omega⟩)
  by_cases h15 : z < 132
  · exact List.all_eq_true.mp tb_kM15 z (List.mem_range'_1.mpr ⟨by omega, by omega⟩)
  by_cases h16 : z < 138
  · exact List.all_eq_true.mp tb_kM16 z (List.mem_range'_1.mpr ⟨by omega, by omega⟩)
  by_cases h17 : z < 146
  · exact List.all_eq_true.mp tb_kM17 z (List.mem_range'_1.mpr ⟨by omega, by omega⟩)
  exact List.all_eq_true.mp tb_kM18 z (List.mem_range'_1.mpr ⟨by omega, by omega⟩)
theorem tb_okM0 {z : Nat} (hz : z < 151) : (am_hd (tb_me z) = [] → Cond.code (am_nm (tb_me z)) (am_cd (tb_me z)) (am_ml (tb_me z)) (am_rt (tb_me z)) ∈ tb_TAB) ∧ am_okM (tb_P 0 (fun _ => 0)) tb_TAB z := by
  have h1 := tb_kM_all hz
  unfold tb_kM at h1
  simp only [Bool.and_eq_true, Bool.not_eq_true', decide_eq_false_iff_not] at h1
  obtain ⟨⟨⟨⟨g1, g2⟩, g3⟩, g4⟩, g5⟩ := h1
  split at g5
  · rename_i he
    exact ⟨fun _ => tb_in g5, g1, ⟨g2, g3⟩, tb_in g4, Or.inl ⟨he, tb_in g5⟩⟩
  · rename_i q r he
    refine ⟨fun hn => (by rw [hn] at he; cases he), g1, ⟨g2, g3⟩, tb_in g4, Or.inr ?_⟩
    show Cond.codeWith (am_nm (tb_me z)) (am_cd (tb_me z)) (am_ml (tb_me z)) (am_rt (tb_me z)) ((am_hd (tb_me z)).map (fun q => (q.1, q.2.1, q.2.2.1, q.2.2.2.1))) ∈ tb_TAB
    rw [he]
    exact tb_in g5
theorem tb_okM (L : Nat) (xs : Nat → Int32) {z : Nat} (hz : z < 151) : am_okM (tb_P L xs) tb_TAB z := (tb_okM0 hz).2
def tb_kK (o : Nat) (e : Nat × Nat × Nat × Nat × Bool × Nat) : Bool := decide (e.2.1 < 151) && (tb_ck e.2.2.2.2.2 (.methodLink (tb_on o) e.1 (am_nm (tb_me e.2.1))) || tb_nest.any (fun q => decide (q.1 = tb_on o) && decide (q.2.1 = e.1) && decide (q.2.2.1 = am_nm (tb_me e.2.1)))) &&
  decide ((parseMethodDescriptor (am_nm (tb_me e.2.1)).desc).map (fun d => d.parameters.length) = some e.2.2.1) && (match e.2.2.2.1 with
  | 0 => tb_ck (tb_mw e.2.1).2.2.1 (.static (am_nm (tb_me e.2.1)))
  | 1 => tb_ck (tb_mw e.2.1).2.2.1 (.instanceMethod (am_nm (tb_me e.2.1))) && (match tb_cl[tb_rc e.2.1]? with
    | some (C, _, _) => tb_ck (tb_mw e.2.1).2.2.2 (.selects C (am_nm (tb_me e.2.1)) (am_nm (tb_me e.2.1)))
    | none => false)
  | 2 => tb_ck (tb_mw e.2.1).2.2.1 (.instanceMethod (am_nm (tb_me e.2.1))) && decide ((am_nm (tb_me e.2.1)).name = "<init>") && (decide (am_hd (tb_me e.2.1) = []) && decide (am_rt (tb_me e.2.1) = none))
  | _ => false)
theorem tb_kK_all : (List.range 13).all (fun o => (tb_cal.getD o []).all (tb_kK o)) = true := by decide +kernel
theorem tb_okK (L : Nat) (xs : Nat → Int32) : am_okK (tb_P L xs) tb_TAB tb_NST tb_cl := by
  intro y ix z n k hx
  have hx : (match (tb_cal.getD (tb_kl y) []).find? (fun e => e.1 == ix) with
    | some (_, z, n, k, _, _) => some (z, n, k)
    | none => none) = some (z, n, k) := hx
  have hcls : (am_nm (am_me (tb_P L xs) y)).cls = tb_on (tb_kl y) := (tb_own y).1
  rw [hcls]
  split at hx
  · rename_i ix' z' n' k' nst wi hfind
    cases hx
    obtain ⟨h1, h2⟩ := tb_find tb_kK_all (tb_kl_lt y) hfind
    have h2 : ix' = ix := by simpa using h2
    subst h2
    unfold tb_kK at h1
    dsimp only at h1
    simp only [Bool.and_eq_true, decide_eq_true_eq, Bool.or_eq_true, List.any_eq_true] at h1
    obtain ⟨⟨⟨g1, g2⟩, g3⟩, g4⟩ := h1
    refine ⟨tb_okM L xs g1, ?_, g3, fun hk => ?_, fun hk => ?_, fun hk => ?_⟩
    · rcases g2 with g2 | ⟨q, hq, ⟨e1, e2⟩, e3⟩
      · exact Or.inl (tb_in g2)
      · refine Or.inr ⟨q.2.2.2, ?_⟩
        show (tb_on (tb_kl y), ix', am_nm (tb_me z), q.2.2.2) ∈ tb_nest
        rw [← e1, ← e2, ← e3]
        exact hq
    · subst hk
      exact tb_in g4
    · subst hk
      simp only [Bool.and_eq_true] at g4
      refine ⟨tb_in g4.1, ?_⟩
      have g5 := g4.2
      split at g5
      · rename_i C T N hc
        exact ⟨C, T, N, hc, tb_in g5⟩
      · cases g5
    · subst hk
      simp only [Bool.and_eq_true, decide_eq_true_eq] at g4
      refine ⟨tb_in g4.1.1, g4.1.2, ?_⟩
      have h7 := (tb_okM0 g1).1 g4.2.1
      rw [g4.2.2] at h7
      exact h7
  · cases hx
-- exceptions that are made
def tb_kW (X : String) (w : Cond) : Bool := tb_mem w || decide (w = .castable X X) || tb_NST.2.2.1.any (fun x => decide (w = .declares x)) || tb_NST.2.1.any (fun q => decide (w = .laysStatic q.1 q.2.1 q.2.2) || decide (w = .isRef (.static q.1 q.2.1 q.2.2)))
def tb_kY (o : Nat) (e : Nat × Nat × Nat × Nat × Nat) : Bool := match tb_cl[e.2.2.1]? with
  | some (X, _, 0) => Bundle.fit X && tb_ck e.2.2.2.1 (.classLink (tb_on o) e.1 X) && tb_ck e.2.2.2.2 (.initialized X) && (Bundle.ownAtoms0 (tb_on o) e.2.1 X am_xs).all (tb_kW X)
  | _ => false
theorem tb_kY_all : (List.range 13).all (fun o => (tb_xnl.getD o []).all (tb_kY o)) = true := by decide +kernel
theorem tb_okY (L : Nat) (xs : Nat → Int32) : am_okY (tb_P L xs) tb_TAB tb_NST tb_cl := by
  intro y ix ic E hx
  have hx : (match (tb_xnl.getD (tb_kl y) []).find? (fun e => e.1 == ix && e.2.1 == ic) with
    | some (_, _, E, _, _) => some E
    | none => none) = some E := hx
  have hcls : (am_nm (am_me (tb_P L xs) y)).cls = tb_on (tb_kl y) := (tb_own y).1
  rw [hcls]
  split at hx
  · rename_i ix' ic' E' w1 w2 hfind
    cases hx
    obtain ⟨h1, h2⟩ := tb_find tb_kY_all (tb_kl_lt y) hfind
    have h2 : ix' = ix ∧ ic' = ic := by simpa using h2
    obtain ⟨h2, h3⟩ := h2
    subst h2; subst h3
    unfold tb_kY at h1
    dsimp only at h1
    split at h1
    · rename_i X T hc
      simp only [Bool.and_eq_true, List.all_eq_true] at h1
      obtain ⟨⟨⟨g1, g2⟩, g3⟩, g4⟩ := h1
      refine ⟨X, T, hc, g1, tb_in g2, tb_in g3, fun w hw => ?_⟩
      have h5 := g4 w hw
      unfold tb_kW at h5
      simp only [Bool.or_eq_true, decide_eq_true_eq, List.any_eq_true] at h5
      rcases h5 with ((h5 | h5) | h5) | h5
      · exact Or.inl (tb_mm h5)
      · exact Or.inr (Or.inl h5)
      · exact Or.inr (Or.inr (Or.inl h5))
      · exact Or.inr (Or.inr (Or.inr h5))
    · cases h1
  · cases hx
-- handlers
def tb_kE (y : Nat) : Bool := (am_hd (tb_me y)).all (fun q => !decide (q.2.2.2.1 = 0) && (match tb_cl[q.2.2.2.2]? with
  | some (X, _, _) => tb_mem (.classLink (am_nm (tb_me y)).cls q.2.2.2.1 X)
  | none => false) && ([9, 10, 11] : List Nat).all (fun E => decide (E = q.2.2.2.2) || decide ((E, q.2.2.2.2) ∈ tb_NST.2.2.2)))
theorem tb_kE_all : (List.range 152).all tb_kE = true := by decide +kernel
theorem tb_okE (L : Nat) (xs : Nat → Int32) : am_okE (tb_P L xs) tb_TAB tb_NST tb_cl := by
  intro y q hq
  have hq : q ∈ am_hd (tb_me y) := hq
  by_cases hy : y < 152
  · have h1 := List.all_eq_true.mp tb_kE_all y (List.mem_range.mpr hy)
    unfold tb_kE at h1
    have h2 := List.all_eq_true.mp h1 q hq
    simp only [Bool.and_eq_true, Bool.not_eq_true', decide_eq_false_iff_not, List.all_eq_true, Bool.or_eq_true, decide_eq_true_eq] at h2
    obtain ⟨⟨g1, g2⟩, g3⟩ := h2
    refine ⟨g1, ?_, fun E hE hn => ?_⟩
    · split at g2
      · rename_i X T N hc
        exact ⟨X, T, N, hc, tb_mm g2⟩
      · cases g2
    · rcases g3 E hE with h3 | h3
      · exact absurd h3 hn
      · exact h3
  · have h2 : tb_me y = (⟨"GluedMachinesLaw", "law", "([I)Z"⟩, code, 7, ret, [], 0, 0) := tb_getDo (by rw [tb_len]; omega)
    rw [h2] at hq
    cases hq
end BG
