/-! The abstract machine's heap and locals beside the real ones. -/
section AR
/-- where an abstract address lies: the script apart, all others from b on -/
def am_ad (b bs a : Nat) : Nat := if a = am_scr then bs else b + a
def am_sv (b bs : Nat) : Value → Value
  | .ref a => .ref (am_ad b bs a)
  | v => v
def am_sA (b bs : Nat) (a : vp_A) : vp_A := match a with
  | (n, .inr (.inr (.inr (.inr g)))) => (n, .inr (.inr (.inr (.inr (fun j => (g j).map (am_ad b bs))))))
  | a => a
def am_sE (b bs : Nat) (ac : Nat → ClassId) : am_E → va_E
  | .inl (t, a) => .inl (ac t, am_sA b bs a)
  | .inr (c, fs) => .inr (c, fs.map (am_sv b bs))
def am_ws (b bs : Nat) (ac : Nat → ClassId) (h : am_H) : va_W := h.mapIdx (fun i e => (b + i, am_sE b bs ac e))
theorem am_sv_cat (b bs : Nat) (v : Value) : (am_sv b bs v).category = v.category := by cases v <;> rfl
theorem am_wd_sv (b bs : Nat) (st : List Value) : ((st.map (am_sv b bs)).map fun v => v.category).sum = am_wd st := by
  unfold am_wd
  induction st with
  | nil => rfl
  | cons v r ih => simp only [List.map_cons, List.sum_cons, am_sv_cat, ih]
theorem am_ws_at (b bs : Nat) (ac : Nat → ClassId) (h : am_H) (i : Nat) : (am_ws b bs ac h)[i]? = (h[i]?).map (fun e => (b + i, am_sE b bs ac e)) := by
  unfold am_ws
  rw [List.getElem?_mapIdx]
theorem am_ws_get {b bs : Nat} {ac : Nat → ClassId} {h : am_H} {i : Nat} {e : am_E} (hi : h[i]? = some e) : (am_ws b bs ac h)[i]? = some (b + i, am_sE b bs ac e) := by
  rw [am_ws_at, hi]; rfl
theorem am_ws_len (b bs : Nat) (ac : Nat → ClassId) (h : am_H) : (am_ws b bs ac h).length = h.length := by
  unfold am_ws
  rw [List.length_mapIdx]
theorem am_ws_set (b bs : Nat) (ac : Nat → ClassId) (h : am_H) (i : Nat) (e : am_E) : (am_ws b bs ac h).set i (b + i, am_sE b bs ac e) = am_ws b bs ac (h.set i e) := by
  refine List.ext_getElem? fun j => ?_
  rw [am_ws_at, List.getElem?_set, List.getElem?_set, am_ws_len]
  by_cases hj : i = j
  · subst hj
    by_cases hl : i < h.length
    · simp [hl]
    · simp [hl]
  · simp [hj, am_ws_at]
theorem am_ws_push (b bs : Nat) (ac : Nat → ClassId) (h : am_H) (e : am_E) : am_ws b bs ac h ++ [(b + h.length, am_sE b bs ac e)] = am_ws b bs ac (h ++ [e]) := by
  unfold am_ws
  rw [List.mapIdx_append]
  simp
theorem am_ws_D (b bs : Nat) (ac : Nat → ClassId) (h : am_H) : va_D (fun q => b ≤ q) (am_ws b bs ac h) := by
  have key : ∀ (i : Nat) (q : Nat × va_E), (am_ws b bs ac h)[i]? = some q → q.1 = b + i := by
    intro i q hq
    rw [am_ws_at] at hq
    cases hh : h[i]? with
    | none => rw [hh] at hq; cases hq
    | some e => rw [hh] at hq; cases hq; rfl
  refine ⟨fun i j x y hi hj hxy => ?_, fun k q hk => ?_⟩
  · have h1 := key i x hi
    have h2 := key j y hj
    omega
  · have h1 := key k q hk
    show b ≤ q.1
    omega
def am_HR (D : va_G) (cl : List vw_C) (b bs : Nat) (ac : Nat → ClassId) (h : am_H) (H : Heap) : Prop := va_P D cl (am_ws b bs ac h) H ∧ H.size = b + h.length
theorem am_lt {h : am_H} {a : Nat} {e : am_E} (hh : h[a]? = some e) : a < h.length := (List.getElem?_eq_some_iff.mp hh).1
theorem am_ad_in {b bs a : Nat} {h : am_H} {e : am_E} (hl : h.length ≤ am_scr) (hh : h[a]? = some e) : am_ad b bs a = b + a := by
  have := am_lt hh
  unfold am_ad
  rw [if_neg (by omega)]
/-- the locals -/
def am_LR (b bs n : Nat) (ls : Array Slot) (lo : am_L) : Prop := ls.size = n ∧ lo.length = n ∧ lv_wf ls ∧ ∀ (i : Nat) (v : Value), lo[i]? = some (some v) → ls[i]? = some (.val (am_sv b bs v))
def am_pr (b bs : Nat) (lo : am_L) : List (Nat × Value) := (lo.mapIdx (fun i o => o.map (fun v => (i, am_sv b bs v)))).filterMap id
theorem am_pr_mem {b bs : Nat} {lo : am_L} {q : Nat × Value} (h : q ∈ am_pr b bs lo) : ∃ v, lo[q.1]? = some (some v) ∧ q.2 = am_sv b bs v := by
  obtain ⟨o, ho, hq⟩ := List.mem_filterMap.mp h
  obtain ⟨i, hi⟩ := List.getElem?_of_mem ho
  rw [List.getElem?_mapIdx] at hi
  cases hx : lo[i]? with
  | none => rw [hx] at hi; cases hi
  | some o2 =>
    rw [hx] at hi
    cases o2 with
    | none =>
      cases hi
      cases hq
    | some v =>
      cases hi
      cases hq
      exact ⟨v, hx, rfl⟩
theorem am_mem_pr {b bs : Nat} {lo : am_L} {i : Nat} {v : Value} (h : lo[i]? = some (some v)) : (i, am_sv b bs v) ∈ am_pr b bs lo := by
  refine List.mem_filterMap.mpr ⟨some (i, am_sv b bs v), ?_, rfl⟩
  refine List.mem_of_getElem? (i := i) ?_
  rw [List.getElem?_mapIdx, h]
  rfl
theorem am_LR.has {b bs n : Nat} {ls : Array Slot} {lo : am_L} (h : am_LR b bs n ls lo) : lv_has ls n (am_pr b bs lo) := by
  refine ⟨h.1, h.2.2.1, fun q hq => ?_⟩
  obtain ⟨v, h1, h2⟩ := am_pr_mem hq
  rw [h2]
  exact h.2.2.2 _ _ h1
theorem am_LR.st1 {b bs n k : Nat} {ls ls' : Array Slot} {lo : am_L} {w : Value} {o : Option Value} (h : am_LR b bs n ls lo) (hk : am_pv lo k = true) (ho : ∀ v, o = some v → w = am_sv b bs v)
    (h' : lv_has ls' n ((k, w) :: (am_pr b bs lo).filter (fun q => !(q.1 == k) && !(q.1 + 1 == k && q.2.category == 2)))) : am_LR b bs n ls' (lo.set k o) := by
  refine ⟨h'.1, by rw [List.length_set]; exact h.2.1, h'.2.1, fun i v hi => ?_⟩
  rw [List.getElem?_set] at hi
  by_cases hik : k = i
  · subst hik
    rw [if_pos rfl] at hi
    split at hi
    · have := ho v (Option.some.inj hi)
      rw [← this]
      exact h'.2.2 (k, w) List.mem_cons_self
    · cases hi
  · rw [if_neg hik] at hi
    refine h'.2.2 (i, am_sv b bs v) (List.mem_cons_of_mem _ (List.mem_filter.mpr ⟨am_mem_pr hi, ?_⟩))
    have h1 : (i == k) = false := by simp; omega
    simp only [h1, Bool.not_false, Bool.true_and, Bool.not_eq_true', Bool.and_eq_false_iff]
    by_cases h2 : i + 1 = k
    · subst h2
      right
      have h3 : (v.category == 1) = true := by
        have h4 := hk
        simp only [am_pv, hi] at h4
        exact h4
      have h5 : v.category = 1 := by simpa using h3
      rw [am_sv_cat, h5]
      rfl
    · left
      simpa using h2
theorem am_LR.st2 {b bs n k : Nat} {ls ls' : Array Slot} {lo : am_L} {v : Value} (h : am_LR b bs n ls lo) (hk : am_pv lo k = true)
    (h' : lv_has ls' n ((k, am_sv b bs v) :: (am_pr b bs lo).filter (fun q => !(q.1 == k) && (!(q.1 == k + 1) && !(q.1 + 1 == k && q.2.category == 2))))) : am_LR b bs n ls' ((lo.set k (some v)).set (k + 1) none) := by
  refine ⟨h'.1, by rw [List.length_set, List.length_set]; exact h.2.1, h'.2.1, fun i w hi => ?_⟩
  rw [List.getElem?_set] at hi
  by_cases hik : k + 1 = i
  · rw [if_pos hik] at hi
    split at hi <;> cases hi
  · rw [if_neg hik, List.getElem?_set] at hi
    by_cases hik2 : k = i
    · subst hik2
      rw [if_pos rfl] at hi
      split at hi
      · cases hi
        exact h'.2.2 (k, am_sv b bs v) List.mem_cons_self
      · cases hi
    · rw [if_neg hik2] at hi
      refine h'.2.2 (i, am_sv b bs w) (List.mem_cons_of_mem _ (List.mem_filter.mpr ⟨am_mem_pr hi, ?_⟩))
      have h1 : (i == k) = false := by simp; omega
      have h0 : (i == k + 1) = false := by simp; omega
      simp only [h1, h0, Bool.not_false, Bool.true_and, Bool.not_eq_true', Bool.and_eq_false_iff]
      by_cases h2 : i + 1 = k
      · subst h2
        right
        have h3 : (w.category == 1) = true := by
          have h4 := hk
          simp only [am_pv, hi] at h4
          exact h4
        have h5 : w.category = 1 := by simpa using h3
        rw [am_sv_cat, h5]
        rfl
      · left
        simpa using h2
theorem am_sl_map (b bs : Nat) (as : List Value) : (lg_sl (as.map (am_sv b bs))).length = (am_en as).length := by
  induction as with
  | nil => rfl
  | cons v r ih =>
    simp only [lg_sl, List.map_cons, List.flatMap_cons, List.length_append, am_en] at ih ⊢
    rw [am_sv_cat, ih]
    rcases lv_cat v with hc | hc
    · simp [hc]; omega
    · simp [hc]; omega
theorem am_en_args (b bs : Nat) : ∀ (as : List Value) (j i : Nat) (v : Value), (am_en as)[i]? = some (some v) → (j + i, am_sv b bs v) ∈ lv_args j (as.map (am_sv b bs))
  | [], j, i, v, h => by simp [am_en] at h
  | w :: r, j, i, v, h => by
    simp only [List.map_cons, lv_args, am_sv_cat]
    unfold am_en at h
    rcases lv_cat w with hc | hc
    · rw [if_pos hc] at h
      rw [if_neg (by omega)]
      cases i with
      | zero =>
        cases h
        exact List.mem_cons_self
      | succ i =>
        have := am_en_args b bs r (j + 1) i v (by simpa using h)
        rw [show j + 1 + i = j + (i + 1) by omega] at this
        exact List.mem_cons_of_mem _ this
    · rw [if_neg (by omega)] at h
      rw [if_pos hc]
      match i, h with
      | 0, h =>
        cases h
        exact List.mem_cons_self
      | 1, h => cases h
      | i + 2, h =>
        have := am_en_args b bs r (j + 2) i v (by simpa using h)
        rw [show j + 2 + i = j + (i + 2) by omega] at this
        exact List.mem_cons_of_mem _ this
theorem am_entry {b bs n : Nat} (as : List Value) (hn : (am_en as).length ≤ n) :
    am_LR b bs n ((lg_sl (as.map (am_sv b bs)) ++ List.replicate (n - (lg_sl (as.map (am_sv b bs))).length) Slot.unset).toArray) (am_en as ++ List.replicate (n - (am_en as).length) none) := by
  have h := lv_entry (as.map (am_sv b bs)) (n := n) (by rw [am_sl_map]; exact hn)
  refine ⟨h.1, by rw [List.length_append, List.length_replicate]; omega, h.2.1, fun i v hi => ?_⟩
  have h1 : (am_en as)[i]? = some (some v) := by
    by_cases hl : i < (am_en as).length
    · rw [List.getElem?_append_left hl] at hi
      exact hi
    · rw [List.getElem?_append_right (by omega), List.getElem?_replicate] at hi
      split at hi <;> cases hi
  have h2 := am_en_args b bs as 0 i v h1
  rw [Nat.zero_add] at h2
  exact h.2.2 _ h2
end AR
