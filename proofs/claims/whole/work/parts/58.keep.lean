/-! What is told keeps the rules. -/
section ZA
variable {A : TD} {W : RS} {e f m n r u v s i : Nat} {ws : Nat → Int32} {x z w : Int32}
theorem TOK.sv (ok : TOK A) (h : 1 ≤ s ∧ s ≤ 4 ∧ i < s) : TOK (td_sv A v s i) := by
  obtain ⟨a, b, c, d, g, p, q, t⟩ := ok
  refine ⟨a, b, c, d, g, p, q, fun j hj => ?_⟩
  show 1 ≤ (if j = v then s else td_sz A j) ∧ (if j = v then s else td_sz A j) ≤ 4 ∧ (if j = v then i else td_in A j) < (if j = v then s else td_sz A j)
  by_cases c : j = v
  · rw [if_pos c, if_pos c]
    exact h
  · rw [if_neg c, if_neg c]
    exact t j hj
theorem TOK.ae {uo : Option Nat} (ok : TOK A) (h12 : td_ne A < 12) (hm : m ≤ 1) (hr : 1 ≤ r ∧ r ≤ 4) (hu : ∀ u, uo = some u → u < td_ne A ∧ m = 1 ∧ td_ma A u = 0) : TOK (td_ae A m r uo) := by
  obtain ⟨a, b, c, d, g, p, q, t⟩ := ok
  refine ⟨a, b, show td_ne A + 1 ≤ 12 by omega, fun j hj => ?_, fun j v hj => g j v (by have : td_ne A + 1 ≤ j := hj; omega), p, q, t⟩
  have hj : j < td_ne A + 1 := hj
  show (if j = td_ne A then m else td_ma A j) ≤ 1 ∧ (1 ≤ (if j = td_ne A then r else td_rg A j) ∧ (if j = td_ne A then r else td_rg A j) ≤ 4) ∧ (∀ u, (if j = td_ne A then uo else td_rf A j) = some u → u < j ∧ (if j = td_ne A then m else td_ma A j) = 1 ∧ (if u = td_ne A then m else td_ma A u) = 0) ∧ (∀ f, (if j = td_ne A then none else td_gd A j) = some f → f < td_nf A ∧ td_ft A f = true ∧ ((if j = td_ne A then m else td_ma A j) = 0 → td_hl A f = false)) ∧ (∀ f, (if j = td_ne A then none else td_wt A j) = some f → f < td_nf A ∧ td_ft A f = false ∧ ∃ u, (if j = td_ne A then uo else td_rf A j) = some u) ∧ ∀ v f, v < 6 → td_as A j v = some f → f < td_nf A ∧ td_ft A f = false ∧ v / 3 = (if j = td_ne A then m else td_ma A j) ∧ ((if j = td_ne A then m else td_ma A j) = 0 → td_hl A f = false)
  by_cases cj : j = td_ne A
  · rw [if_pos cj, if_pos cj, if_pos cj, if_pos cj, if_pos cj]
    refine ⟨hm, hr, fun u hu2 => ?_, fun f hf => (by cases hf), fun f hf => (by cases hf), fun v f _ hf => ?_⟩
    · obtain ⟨h1, h2, h3⟩ := hu u hu2
      rw [if_neg (by omega)]
      exact ⟨by omega, h2, h3⟩
    · rw [g j v (by omega)] at hf
      cases hf
  · rw [if_neg cj, if_neg cj, if_neg cj, if_neg cj, if_neg cj]
    obtain ⟨h1, h2, h3, h4, h5, h6⟩ := d j (by omega)
    refine ⟨h1, h2, fun u hu2 => ?_, h4, h5, h6⟩
    obtain ⟨q1, q2, q3⟩ := h3 u hu2
    rw [if_neg (by omega)]
    exact ⟨q1, q2, q3⟩
theorem TOK.sg (ok : TOK A) (hf : f < td_nf A) (ht : td_ft A f = true) (hl : td_ma A e = 0 → td_hl A f = false) : TOK (td_sg A e f) := by
  obtain ⟨a, b, c, d, g, p, q, t⟩ := ok
  refine ⟨a, b, c, fun j hj => ?_, g, p, q, t⟩
  obtain ⟨h1, h2, h3, h4, h5, h6⟩ := d j hj
  refine ⟨h1, h2, h3, fun f' hf' => ?_, h5, h6⟩
  have hf' : (if j = e then some f else td_gd A j) = some f' := hf'
  by_cases c : j = e
  · rw [if_pos c] at hf'
    cases hf'
    exact ⟨hf, ht, fun q => hl (by rw [← c]; exact q)⟩
  · rw [if_neg c] at hf'
    exact h4 f' hf'
theorem TOK.sw (ok : TOK A) (hf : f < td_nf A) (ht : td_ft A f = false) (hl : td_rf A e ≠ none) : TOK (td_sw A e f) := by
  obtain ⟨a, b, c, d, g, p, q, t⟩ := ok
  refine ⟨a, b, c, fun j hj => ?_, g, p, q, t⟩
  obtain ⟨h1, h2, h3, h4, h5, h6⟩ := d j hj
  refine ⟨h1, h2, h3, h4, fun f' hf' => ?_, h6⟩
  have hf' : (if j = e then some f else td_wt A j) = some f' := hf'
  by_cases c : j = e
  · rw [if_pos c] at hf'
    cases hf'
    refine ⟨hf, ht, ?_⟩
    show ∃ u, td_rf A j = some u
    rw [c]
    cases hr : td_rf A e with
    | none => exact absurd hr hl
    | some u => exact ⟨u, rfl⟩
  · rw [if_neg c] at hf'
    exact h5 f' hf'
theorem TOK.sa (ok : TOK A) (he : e < td_ne A) (hf : f < td_nf A) (ht : td_ft A f = false) (hv : v / 3 = td_ma A e) (hl : td_ma A e = 0 → td_hl A f = false) : TOK (td_sa A e v f) := by
  obtain ⟨a, b, c, d, g, p, q, t⟩ := ok
  refine ⟨a, b, c, fun j hj => ?_, fun j u hj => ?_, p, q, t⟩
  · obtain ⟨h1, h2, h3, h4, h5, h6⟩ := d j hj
    refine ⟨h1, h2, h3, h4, h5, fun u f' hu hf' => ?_⟩
    have hf' : (if j = e ∧ u = v then some f else td_as A j u) = some f' := hf'
    by_cases c : j = e ∧ u = v
    · rw [if_pos c] at hf'
      cases hf'
      exact ⟨hf, ht, show u / 3 = td_ma A j by rw [c.1, c.2]; exact hv, fun q => hl (by rw [← c.1]; exact q)⟩
    · rw [if_neg c] at hf'
      exact h6 u f' hu hf'
  · show (if j = e ∧ u = v then some f else td_as A j u) = none
    have hj : td_ne A ≤ j := hj
    rw [if_neg (by omega)]
    exact g j u hj
theorem TOK.ai (ok : TOK A) (h6 : td_ic A m < 6) (hf : f < td_nf A) (ht : td_ft A f = true) (hp : td_hp A f = false) (hl : m = 0 → td_hl A f = false) : TOK (td_ai A m f) := by
  obtain ⟨a, b, c, d, g, p, q, t⟩ := ok
  refine ⟨a, b, c, d, g, fun k hk => ?_, q, t⟩
  obtain ⟨p1, p2⟩ := p k hk
  show (if k = m then td_ic A m + 1 else td_ic A k) ≤ 6 ∧ ∀ i, i < (if k = m then td_ic A m + 1 else td_ic A k) → (if k = m ∧ i = td_ic A m then f else td_iv A k i) < td_nf A ∧ td_ft A (if k = m ∧ i = td_ic A m then f else td_iv A k i) = true ∧ td_hp A (if k = m ∧ i = td_ic A m then f else td_iv A k i) = false ∧ (k = 0 → td_hl A (if k = m ∧ i = td_ic A m then f else td_iv A k i) = false)
  by_cases ck : k = m
  · rw [if_pos ck]
    refine ⟨by omega, fun i hi => ?_⟩
    by_cases ci : i = td_ic A m
    · rw [if_pos ⟨ck, ci⟩]
      exact ⟨hf, ht, hp, fun q => hl (by omega)⟩
    · rw [if_neg (by omega)]
      exact p2 i (by rw [ck]; omega)
  · rw [if_neg ck]
    refine ⟨p1, fun i hi => ?_⟩
    rw [if_neg (by omega)]
    exact p2 i hi
theorem TOK.sr (ok : TOK A) (hf : f < td_nf A) (ht : td_ft A f = false) (hp : td_hp A f = false) : TOK (td_sr A f) := by
  obtain ⟨a, b, c, d, g, p, q, t⟩ := ok
  refine ⟨a, b, c, d, g, p, fun f' hf' => ?_, t⟩
  have hf' : some f = some f' := hf'
  cases hf'
  exact ⟨hf, ht, hp⟩
theorem TOK.af {tr : Bool} (ok : TOK A) (h30 : td_nf A < 30) (hn : 1 ≤ n ∧ n ≤ 24) (hw : ∀ i, i < n → wd_ok (ws i)) (hk : kr ws n [] = some [tr]) : TOK (td_af A n ws tr) := by
  obtain ⟨a, b, c, d, g, p, q, t⟩ := ok
  have old : ∀ f, f < td_nf A → f < td_nf A + 1 ∧ (if f = td_nf A then tr else td_ft A f) = td_ft A f ∧ td_hp (td_af A n ws tr) f = td_hp A f ∧ td_hl (td_af A n ws tr) f = td_hl A f := fun f hf => by
    rw [af_hp, af_hl, if_neg (by omega), if_neg (by omega), if_neg (by omega)]
    exact ⟨by omega, rfl, rfl, rfl⟩
  refine ⟨show td_nf A + 1 ≤ 30 by omega, fun f hf => ?_, c, fun j hj => ?_, g, fun m hm => ⟨(p m hm).1, fun i hi => ?_⟩, fun f hf => ?_, t⟩
  · have hf : f < td_nf A + 1 := hf
    show (1 ≤ (if f = td_nf A then n else td_ln A f) ∧ (if f = td_nf A then n else td_ln A f) ≤ 24) ∧ (∀ i, i < (if f = td_nf A then n else td_ln A f) → wd_ok ((if f = td_nf A then ws else td_fw A f) i)) ∧ kr (if f = td_nf A then ws else td_fw A f) (if f = td_nf A then n else td_ln A f) [] = some [if f = td_nf A then tr else td_ft A f]
    by_cases cf : f = td_nf A
    · rw [if_pos cf, if_pos cf, if_pos cf]
      exact ⟨hn, hw, hk⟩
    · rw [if_neg cf, if_neg cf, if_neg cf]
      exact b f (by omega)
  · obtain ⟨h1, h2, h3, h4, h5, h6⟩ := d j hj
    refine ⟨h1, h2, h3, fun f hf => ?_, fun f hf => ?_, fun v f hv hf => ?_⟩
    · obtain ⟨q1, q2, q3⟩ := h4 f hf
      obtain ⟨o1, o2, o3, o4⟩ := old f q1
      exact ⟨o1, o2.trans q2, fun q => o4.trans (q3 q)⟩
    · obtain ⟨q1, q2, q3⟩ := h5 f hf
      obtain ⟨o1, o2, o3, o4⟩ := old f q1
      exact ⟨o1, o2.trans q2, q3⟩
    · obtain ⟨q1, q2, q3, q4⟩ := h6 v f hv hf
      obtain ⟨o1, o2, o3, o4⟩ := old f q1
      exact ⟨o1, o2.trans q2, q3, fun q => o4.trans (q4 q)⟩
  · obtain ⟨q1, q2, q3, q4⟩ := (p m hm).2 i hi
    obtain ⟨o1, o2, o3, o4⟩ := old _ q1
    exact ⟨o1, o2.trans q2, o3.trans q3, fun q => o4.trans (q4 q)⟩
  · obtain ⟨q1, q2, q3⟩ := q f hf
    obtain ⟨o1, o2, o3, o4⟩ := old f q1
    exact ⟨o1, o2.trans q2, o3.trans q3⟩
theorem WOK.wd (h : WOK W) (hn : rs_n W < 24) (hw : wd_ok x) : WOK ((rs_n W + 1, fun j => if j = rs_n W then x else rs_w W j), W.2) := by
  refine ⟨⟨show rs_n W + 1 ≤ 24 by omega, fun i hi => ?_⟩, h.2⟩
  have hi : i < rs_n W + 1 := hi
  show wd_ok (if i = rs_n W then x else rs_w W i)
  by_cases c : i = rs_n W
  · rw [if_pos c]; exact hw
  · rw [if_neg c]; exact h.1.2 i (by omega)
theorem WOK.off (h : WOK W) : WOK (rs_off W) := ⟨h.1, fun q => by cases q⟩
theorem WOK.cl (h : WOK W) : WOK (rs_cl W) := ⟨⟨show 0 ≤ 24 by omega, fun i hi => by have : i < 0 := hi; omega⟩, h.2⟩
theorem WOK.st (ok : TOK A) (h : WOK W) : WOK (rs_st A W) := ⟨h.1, fun _ => ⟨show 0 ≤ 60 by omega, fun j v _ hv => by
  show td_in A v < 4
  have := ok.2.2.2.2.2.2.2 v hv
  omega⟩⟩
theorem WOK.bk (h : WOK W) (ho : rs_on W = true) : WOK (rs_bk W) := ⟨h.1, fun _ => ⟨by show rs_k W - 1 ≤ 60; have := (h.2 ho).1; omega, fun j v hj hv => by
  have hj : j ≤ rs_k W - 1 := hj
  exact (h.2 ho).2 j v (by omega) hv⟩⟩
theorem WOK.fi {p : Nat} (ok : TOK A) (h : WOK W) (ho : rs_on W = true) (hc : can A W e p) : WOK (rs_fi A W e p) := by
  have h60 := (h.2 ho).1
  have hk := hc.2.2.2
  refine ⟨h.1, fun _ => ⟨show rs_k W + 1 ≤ 60 by omega, fun j v hj hv => ?_⟩⟩
  have hj : j ≤ rs_k W + 1 := hj
  show (if j = rs_k W + 1 then (td_bo A e (rd (cur A W) p) v).toInt.toNat else rs_r W j v) < 4
  by_cases c : j = rs_k W + 1
  · rw [if_pos c]
    exact (dg_ok ok hc.2.1 v hv).2.2
  · rw [if_neg c]
    exact (h.2 ho).2 j v (by omega) hv
theorem WOK.sh {b : Bool} {g : Nat → Int32} (h : WOK W) : WOK (W.1, W.2.1, (b, g)) := h
/-- a formula that is found to be one -/
theorem ky_kr {n : Nat} (hn : ∀ i, i < n → wd_ok (ws i)) (h : ky ws n [] = true) : 1 ≤ n ∧ kr ws n [] = some [decide (53 ≤ (ws 0).toInt ∧ (ws 0).toInt ≤ 57)] := by
  unfold ky at h
  have h1 : 1 ≤ n := by
    by_cases c : n = 0
    · subst c
      cases h
    · omega
  refine ⟨h1, ?_⟩
  cases hk : kr ws n [] with
  | none => rw [hk] at h; cases h
  | some l =>
    rw [hk] at h
    match l, h with
    | [t], _ =>
      congr 2
      rw [kr_0] at hk
      have e : kg ws n 0 = (kg ws (n - 1) 1).bind (ks (ws 0)) := by
        have := kg_s (ws := ws) (j := 0) (n := n) (by omega)
        rw [Nat.sub_zero] at this
        exact this
      rw [e] at hk
      cases hg : kg ws (n - 1) 1 with
      | none => rw [hg] at hk; cases hk
      | some k =>
        rw [hg] at hk
        have hk : ks (ws 0) k = some [t] := hk
        have w0 := hn 0 (by omega)
        by_cases hc : k.length < pn (ws 0) ∨ ∃ i, i < pn (ws 0) ∧ ¬ (k.getD i false = true ↔ wt (ws 0) i)
        · rw [ks_no w0 hc] at hk
          cases hk
        · have hy := ks_yes w0 (kp := k) (by omega) (fun i hi => Classical.byContradiction (fun q => hc (Or.inr ⟨i, hi, q⟩)))
          rw [hy] at hk
          exact (List.cons.inj (Option.some.inj hk)).1.symm
end ZA
