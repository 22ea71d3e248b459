/-! What the tables say is in the Statement's words. -/
section BF
def am_gw (w : Cond) : Bool := (w.onTables && w.keeps) || (match w with
  | .arrayClass _ => true
  | _ => false)
def tb_TAB : List Cond := lw_tbl.filter am_gw
theorem tb_good : ∀ w ∈ tb_TAB, (w.onTables && w.keeps) = true ∨ ∃ ty, w = .arrayClass ty := by
  intro w hw
  have h1 := (List.mem_filter.mp hw).2
  unfold am_gw at h1
  rcases Bool.or_eq_true _ _ |>.mp h1 with h2 | h2
  · exact Or.inl h2
  · right
    cases w <;> first | exact ⟨_, rfl⟩ | cases h2
def tb_ck (i : Nat) (w : Cond) : Bool := decide (lw_tbl[i]? = some w) && am_gw w
theorem tb_in {i : Nat} {w : Cond} (h : tb_ck i w = true) : w ∈ tb_TAB := by
  unfold tb_ck at h
  simp only [Bool.and_eq_true, decide_eq_true_eq] at h
  exact List.mem_filter.mpr ⟨List.mem_of_getElem? h.1, h.2⟩
theorem tb_getD {α : Type} {l : List α} {d : α} {Pp : α → Prop} (h : ∀ a ∈ l, Pp a) (hd : Pp d) (y : Nat) : Pp (l.getD y d) := by
  rw [List.getD_eq_getElem?_getD]
  cases hy : l[y]? with
  | none => exact hd
  | some a => exact h a (List.mem_of_getElem? hy)
theorem tb_getDo {α : Type} {l : List α} {d : α} {y : Nat} (h : l.length ≤ y) : l.getD y d = d := by
  rw [List.getD_eq_getElem?_getD, List.getElem?_eq_none h]
  rfl
theorem tb_find {α : Type} {L : List (List α)} {o n : Nat} {p : α → Bool} {e : α} {chk : Nat → α → Bool} (hall : (List.range n).all (fun o => (L.getD o []).all (chk o)) = true) (ho : o < n) (hf : (L.getD o []).find? p = some e) : chk o e = true ∧ p e = true :=
  ⟨List.all_eq_true.mp (List.all_eq_true.mp hall o (List.mem_range.mpr ho)) e (List.mem_of_find?_eq_some hf), List.find?_some hf⟩
theorem tb_kl_lt (y : Nat) : tb_kl y < 13 := tb_getD (Pp := fun o => o < 13) (by decide +kernel) (by decide +kernel) y
theorem tb_len : tb_ml.length = 152 := by decide +kernel
theorem tb_own_all : (List.range 152).all (fun y => decide ((am_nm (tb_me y)).cls = tb_on (tb_kl y)) && (!tb_ini y || decide ((am_nm (tb_me y)).name = "<init>"))) = true := by decide +kernel
theorem tb_own (y : Nat) : (am_nm (tb_me y)).cls = tb_on (tb_kl y) ∧ (tb_ini y = true → (am_nm (tb_me y)).name = "<init>") := by
  by_cases h : y < 152
  · have h1 := List.all_eq_true.mp tb_own_all y (List.mem_range.mpr h)
    simp only [Bool.and_eq_true, decide_eq_true_eq, Bool.or_eq_true, Bool.not_eq_true'] at h1
    refine ⟨h1.1, fun hi => ?_⟩
    rcases h1.2 with h2 | h2
    · rw [hi] at h2; cases h2
    · exact h2
  · have h2 : tb_me y = (⟨"GluedMachinesLaw", "law", "([I)Z"⟩, code, 7, ret, [], 0, 0) := tb_getDo (by rw [tb_len]; omega)
    have h3 : tb_kl y = 9 := tb_getDo (Nat.le_trans (m := 152) (by decide +kernel) (Nat.not_lt.mp h))
    have h4 : tb_ini y = false := tb_getDo (Nat.le_trans (m := 152) (by decide +kernel) (Nat.not_lt.mp h))
    refine ⟨by rw [h2, h3]; decide +kernel, fun hi => ?_⟩
    rw [h4] at hi; cases hi
-- fields
def tb_kF (o : Nat) (e : Nat × Nat × Nat × FieldType × Bool × Bool × Nat) : Bool := match tb_cl[e.2.1]? with
  | some (_, T, N) => decide (e.2.2.1 < N) && tb_ck e.2.2.2.2.2.2 (.fieldLink (tb_on o) e.1 (T e.2.2.1).1 (T e.2.2.1).2.1 (T e.2.2.1).2.2.1) && decide (parseFieldDescriptor (T e.2.2.1).2.2.1 = some e.2.2.2.1) && decide ((T e.2.2.1).2.2.2 = e.2.2.2.2.1) && (!e.2.2.2.2.2.1 || decide ((T e.2.2.1).1 = tb_on o))
  | none => false
theorem tb_kF_all : (List.range 13).all (fun o => (tb_fdl.getD o []).all (tb_kF o)) = true := by decide +kernel
theorem tb_okF (L : Nat) (xs : Nat → Int32) : am_okF (tb_P L xs) tb_TAB tb_cl := by
  intro y ix ci k ty wr hx
  have hx : (match (tb_fdl.getD (tb_kl y) []).find? (fun e => e.1 == ix) with
    | some (_, ci, k, ty, fin, same, _) => some (ci, k, ty, !fin || (tb_ini y && same))
    | none => none) = some (ci, k, ty, wr) := hx
  split at hx
  · rename_i ix' ci' k' ty' fin same wi hfind
    cases hx
    obtain ⟨h1, h2⟩ := tb_find tb_kF_all (tb_kl_lt y) hfind
    have h2 : ix' = ix := by simpa using h2
    subst h2
    unfold tb_kF at h1
    dsimp only at h1
    split at h1
    · rename_i C T N hc
      simp only [Bool.and_eq_true, decide_eq_true_eq, Bool.or_eq_true, Bool.not_eq_true'] at h1
      obtain ⟨⟨⟨⟨g1, g2⟩, g3⟩, g4⟩, g5⟩ := h1
      refine ⟨C, T, N, hc, g1, ?_, g3, fun hw => ?_⟩
      · show Cond.fieldLink (am_nm (tb_me y)).cls _ _ _ _ ∈ tb_TAB
        rw [(tb_own y).1]
        exact tb_in g2
      · rw [g4]
        cases fin with
        | false => exact Or.inl rfl
        | true =>
          right
          simp only [Bool.not_true, Bool.false_or, Bool.and_eq_true] at hw
          refine ⟨rfl, (tb_own y).2 hw.1, ?_⟩
          show _ = (am_nm (tb_me y)).cls
          rw [(tb_own y).1]
          rcases g5 with g5 | g5
          · rw [hw.2] at g5; cases g5
          · exact g5
    · cases h1
  · cases hx

-- a word by search
def tb_mem (w : Cond) : Bool := decide (w ∈ lw_tbl) && am_gw w
theorem tb_mm {w : Cond} (h : tb_mem w = true) : w ∈ tb_TAB := by
  unfold tb_mem at h
  simp only [Bool.and_eq_true, decide_eq_true_eq] at h
  exact List.mem_filter.mpr h
-- classes
def tb_kC (c : vw_C) : Bool := (u_ws c.1 c.2.1 c.2.2).all tb_mem && (List.range c.2.2).all (fun k => (parseFieldDescriptor (c.2.1 k).2.2.1).isSome) && (List.range c.2.2).all (fun x => (List.range c.2.2).all (fun z => decide (x = z) || !decide ((c.2.1 x).2.1 = (c.2.1 z).2.1)))
theorem tb_kC_all : tb_cl.all tb_kC = true := by decide +kernel
theorem tb_okC : am_okC tb_TAB tb_cl := by
  intro ci C T N hc
  have h1 := List.all_eq_true.mp tb_kC_all _ (List.mem_of_getElem? hc)
  unfold tb_kC at h1
  simp only [Bool.and_eq_true, List.all_eq_true, List.mem_range, Bool.or_eq_true, decide_eq_true_eq, Bool.not_eq_true', decide_eq_false_iff_not] at h1
  obtain ⟨⟨g1, g2⟩, g3⟩ := h1
  refine ⟨fun w hw => tb_mm (g1 w hw), ⟨fun k => (parseFieldDescriptor (T k).2.2.1).getD .int, fun k hk => ?_⟩, fun x hx z hz hn => ?_⟩
  · have h2 := g2 k hk
    cases h3 : parseFieldDescriptor (T k).2.2.1 with
    | none => rw [h3] at h2; cases h2
    | some v => dsimp only; rw [h3]; rfl
  · rcases g3 x hx z hz with h4 | h4
    · exact absurd h4 hn
    · exact h4
theorem tb_okT (L : Nat) (xs : Nat → Int32) : am_okT (tb_P L xs) tb_cl tb_tt := by
  refine ⟨rfl, rfl, rfl, rfl, fun t ht ty hy => ?_⟩
  match t, ht, hy with
  | 3, _, hy => cases hy; exact ⟨_, _, _, rfl, rfl⟩
  | 4, _, hy => cases hy; exact ⟨_, _, _, rfl, rfl⟩
  | t + 5, _, hy => cases hy
theorem tb_okA : am_okA tb_TAB := ⟨tb_mm (by decide +kernel), tb_mm (by decide +kernel), tb_mm (by decide +kernel)⟩
-- classes that are made
def tb_kN (o : Nat) (e : Nat × Nat × Nat × Nat × Nat) : Bool := match tb_cl[e.2.1]? with
  | some (C, T, N) => tb_ck e.2.2.1 (.classLink (tb_on o) e.1 C) && tb_ck e.2.2.2.1 (.instantiable C N) && tb_ck e.2.2.2.2 (.initialized C) && decide (am_ez (.inr (e.2.1, tb_df e.2.1)) = N) && (List.range N).all (fun k => decide ((parseFieldDescriptor (T k).2.2.1).map defaultValue = some (vp_V (tb_df e.2.1) k))) && (tb_df e.2.1).all (fun v => match v with
    | .ref _ => false
    | _ => true)
  | none => false
theorem tb_kN_all : (List.range 13).all (fun o => (tb_nwl.getD o []).all (tb_kN o)) = true := by decide +kernel
theorem tb_okN (L : Nat) (xs : Nat → Int32) : am_okN (tb_P L xs) tb_TAB tb_cl := by
  intro y ix ci hx
  have hx : (match (tb_nwl.getD (tb_kl y) []).find? (fun e => e.1 == ix) with
    | some (_, ci, _, _, _) => some ci
    | none => none) = some ci := hx
  split at hx
  · rename_i ix' ci' w1 w2 w3 hfind
    cases hx
    obtain ⟨h1, h2⟩ := tb_find tb_kN_all (tb_kl_lt y) hfind
    have h2 : ix' = ix := by simpa using h2
    subst h2
    unfold tb_kN at h1
    dsimp only at h1
    split at h1
    · rename_i C T N hc
      simp only [Bool.and_eq_true, decide_eq_true_eq, List.all_eq_true, List.mem_range] at h1
      obtain ⟨⟨⟨⟨⟨g1, g2⟩, g3⟩, g4⟩, g5⟩, g6⟩ := h1
      refine ⟨C, T, N, fun k => (parseFieldDescriptor (T k).2.2.1).getD .int, hc, ?_, tb_in g2, tb_in g3, g4, fun k hk => ?_, fun k hk => ?_, fun b bs => ?_⟩
      · show Cond.classLink (am_nm (tb_me y)).cls _ _ ∈ tb_TAB
        rw [(tb_own y).1]
        exact tb_in g1
      · have h5 := g5 k hk
        cases h3 : parseFieldDescriptor (T k).2.2.1 with
        | none => rw [h3] at h5; cases h5
        | some v => dsimp only; rw [h3]; rfl
      · have h5 := g5 k hk
        cases h3 : parseFieldDescriptor (T k).2.2.1 with
        | none => rw [h3] at h5; cases h5
        | some v => rw [h3] at h5; dsimp only; rw [h3]; exact Option.some.inj h5
      · show (tb_df ci).map (am_sv b bs) = tb_df ci
        refine (List.map_congr_left (g := id) fun v hv => ?_).trans (List.map_id _)
        have h7 := g6 v hv
        cases v <;> first | rfl | cases h7
    · cases h1
  · cases hx
def tb_AO : List String := ["GluedMachines$Formula", "GluedMachines$Event"]
def tb_kR (o : Nat) (e : Nat × Nat × Nat) : Bool := match tb_tt[e.2.1]? with
  | some (.object C) => tb_ck e.2.2 (.classLink (tb_on o) e.1 C) && decide (C ∈ tb_AO)
  | _ => false
theorem tb_kR_all : (List.range 13).all (fun o => (tb_anl.getD o []).all (tb_kR o)) = true := by decide +kernel
theorem tb_okR (L : Nat) (xs : Nat → Int32) : am_okR (tb_P L xs) tb_TAB tb_tt tb_AO := by
  intro y ix t hx
  have hx : (match (tb_anl.getD (tb_kl y) []).find? (fun e => e.1 == ix) with
    | some (_, t, _) => some t
    | none => none) = some t := hx
  split at hx
  · rename_i ix' t' w1 hfind
    cases hx
    obtain ⟨h1, h2⟩ := tb_find tb_kR_all (tb_kl_lt y) hfind
    have h2 : ix' = ix := by simpa using h2
    subst h2
    unfold tb_kR at h1
    dsimp only at h1
    split at h1
    · rename_i C hc
      simp only [Bool.and_eq_true, decide_eq_true_eq] at h1
      refine ⟨C, hc, ?_, h1.2⟩
      show Cond.classLink (am_nm (tb_me y)).cls _ _ ∈ tb_TAB
      rw [(tb_own y).1]
      exact tb_in h1.1
    · cases h1
  · cases hx
def tb_kL (o : Nat) (e : Nat × Int32 × Nat) : Bool := tb_ck e.2.2 (.constant (tb_on o) e.1 e.2.1)
theorem tb_kL_all : (List.range 13).all (fun o => (tb_kcl.getD o []).all (tb_kL o)) = true := by decide +kernel
theorem tb_okL (L : Nat) (xs : Nat → Int32) : am_okL (tb_P L xs) tb_TAB := by
  intro y ix v hx
  have hx : (match (tb_kcl.getD (tb_kl y) []).find? (fun e => e.1 == ix) with
    | some (_, v, _) => some v
    | none => none) = some v := hx
  split at hx
  · rename_i ix' v' w1 hfind
    cases hx
    obtain ⟨h1, h2⟩ := tb_find tb_kL_all (tb_kl_lt y) hfind
    have h2 : ix' = ix := by simpa using h2
    subst h2
    unfold tb_kL at h1
    show Cond.constant (am_nm (tb_me y)).cls _ _ ∈ tb_TAB
    rw [(tb_own y).1]
    exact tb_in h1
  · cases hx
-- members that are known
def tb_kS0 (o ix : Nat) (ws : List Nat) : Bool := match ws with
  | [a, b, c] => tb_ck a (.methodLink (tb_on o) ix Lib.objectInit) && tb_ck b (.instanceMethod Lib.objectInit) && tb_ck c (.code Lib.objectInit ⟨#[0xb1]⟩ 1 none)
  | _ => false
def tb_kS1 (o ix : Nat) (ws : List Nat) : Bool := match ws with
  | [a, b, c, d] => tb_ck a (.methodLink (tb_on o) ix Lib.Math.max.name) && tb_ck b (.static Lib.Math.max.name) && tb_ck c (.initialized "java/lang/Math") && tb_ck d (.code Lib.Math.max.name Lib.Math.max.code 2 (some .int))
  | _ => false
def tb_kS2 (o ix : Nat) (ws : List Nat) : Bool := match ws with
  | [a, b, c, d] => tb_ck a (.methodLink (tb_on o) ix Lib.Math.min.name) && tb_ck b (.static Lib.Math.min.name) && tb_ck c (.initialized "java/lang/Math") && tb_ck d (.code Lib.Math.min.name Lib.Math.min.code 2 (some .int))
  | _ => false
def tb_kS3 (o ix : Nat) (ws : List Nat) : Bool := match ws with
  | [a, b, c, d] => tb_ck a (.methodLink (tb_on o) ix arraycopyName) && tb_ck b (.native arraycopyName) && tb_ck c (.static arraycopyName) && tb_ck d (.initialized "java/lang/System")
  | _ => false
def tb_kS4 (o ix : Nat) (ws : List Nat) : Bool := match ws with
  | [a, b, c, d, f] => tb_ck a (.methodLink (tb_on o) ix ⟨"[I", "clone", "()Ljava/lang/Object;"⟩) && tb_ck b (.sameMethod "[I" "java/lang/Object" "clone" "()Ljava/lang/Object;") && tb_ck c (.native ⟨"java/lang/Object", "clone", "()Ljava/lang/Object;"⟩) && tb_ck d (.instanceMethod ⟨"java/lang/Object", "clone", "()Ljava/lang/Object;"⟩) && tb_ck f (.selects "[I" ⟨"[I", "clone", "()Ljava/lang/Object;"⟩ ⟨"java/lang/Object", "clone", "()Ljava/lang/Object;"⟩)
  | _ => false
def tb_kS5 (o ix : Nat) (ws : List Nat) : Bool := match ws with
  | [a] => tb_ck a (.classLink (tb_on o) ix "[I")
  | _ => false
def tb_kS (o : Nat) (e : Nat × Nat × List Nat) : Bool := (!decide (e.2.1 = 0) || tb_kS0 o e.1 e.2.2) && (!decide (e.2.1 = 1) || tb_kS1 o e.1 e.2.2) && (!decide (e.2.1 = 2) || tb_kS2 o e.1 e.2.2) && (!decide (e.2.1 = 3) || tb_kS3 o e.1 e.2.2) && (!decide (e.2.1 = 4) || tb_kS4 o e.1 e.2.2) && (!decide (e.2.1 = 5) || tb_kS5 o e.1 e.2.2)
theorem tb_kS_all : (List.range 13).all (fun o => (tb_spl.getD o []).all (tb_kS o)) = true := by decide +kernel
theorem tb_okS (L : Nat) (xs : Nat → Int32) : am_okS (tb_P L xs) tb_TAB := by
  intro y ix k hx
  have hx : (match (tb_spl.getD (tb_kl y) []).find? (fun e => e.1 == ix) with
    | some (_, k, _) => some k
    | none => none) = some k := hx
  have hcls : (am_nm (am_me (tb_P L xs) y)).cls = tb_on (tb_kl y) := (tb_own y).1
  rw [hcls]
  split at hx
  · rename_i ix' k' ws hfind
    have hk' : k' = k := Option.some.inj hx
    subst hk'
    obtain ⟨h1, h2⟩ := tb_find tb_kS_all (tb_kl_lt y) hfind
    have h2 : ix' = ix := by simpa using h2
    subst h2
    unfold tb_kS at h1
    dsimp only at h1
    simp only [Bool.and_eq_true, Bool.or_eq_true, Bool.not_eq_true', decide_eq_false_iff_not] at h1
    obtain ⟨⟨⟨⟨⟨h0, h1⟩, h2⟩, h3⟩, h4⟩, h5⟩ := h1
    refine ⟨fun hk => ?_, fun hk => ?_, fun hk => ?_, fun hk => ?_, fun hk => ?_, fun hk => ?_⟩
    · have h := h0.resolve_left (fun hn => hn hk)
      unfold tb_kS0 at h
      split at h
      · simp only [Bool.and_eq_true] at h
        exact ⟨tb_in h.1.1, tb_in h.1.2, tb_in h.2⟩
      · cases h
    · have h := h1.resolve_left (fun hn => hn hk)
      unfold tb_kS1 at h
      split at h
      · simp only [Bool.and_eq_true] at h
        exact ⟨tb_in h.1.1.1, tb_in h.1.1.2, tb_in h.1.2, tb_in h.2⟩
      · cases h
    · have h := h2.resolve_left (fun hn => hn hk)
      unfold tb_kS2 at h
      split at h
      · simp only [Bool.and_eq_true] at h
        exact ⟨tb_in h.1.1.1, tb_in h.1.1.2, tb_in h.1.2, tb_in h.2⟩
      · cases h
    · have h := h3.resolve_left (fun hn => hn hk)
      unfold tb_kS3 at h
      split at h
      · simp only [Bool.and_eq_true] at h
        exact ⟨tb_in h.1.1.1, tb_in h.1.1.2, tb_in h.1.2, tb_in h.2⟩
      · cases h
    · have h := h4.resolve_left (fun hn => hn hk)
      unfold tb_kS4 at h
      split at h
      · simp only [Bool.and_eq_true] at h
        exact ⟨tb_in h.1.1.1.1, tb_in h.1.1.1.2, tb_in h.1.1.2, tb_in h.1.2, tb_in h.2⟩
      · cases h
    · have h := h5.resolve_left (fun hn => hn hk)
      unfold tb_kS5 at h
      split at h
      · exact tb_in h
      · cases h
  · cases hx
theorem tb_OK (L : Nat) (xs : Nat → Int32) : am_OK (tb_P L xs) tb_TAB tb_AO tb_cl tb_tt := ⟨tb_okF L xs, tb_okC, tb_okT L xs, tb_okA, tb_okN L xs, tb_okR L xs, tb_okS L xs, tb_okL L xs⟩
end BF
