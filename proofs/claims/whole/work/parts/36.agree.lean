/-! Rows that agree in what is mentioned. -/
section AGA
variable {A : TD} {e u f : Nat} {M : Nat → Bool} {r1 r2 : Nat → Int32}
def ag (M : Nat → Bool) (r1 r2 : Nat → Int32) : Prop := ∀ v, v ≤ 6 → M v = true → r1 v = r2 v
/-- what a formula, if there is one, mentions -/
def td_mo (A : TD) (o : Option Nat) (v : Nat) : Bool := match o with
  | none => false
  | some f => td_mn A f v
/-- what an event's own formulas mention -/
def td_em (A : TD) (e v : Nat) : Bool := td_mo A (td_gd A e) v || td_mo A (td_wt A e) v || (List.range 6).any (fun u => td_mo A (td_as A e u) v)
/-- what invariants mention -/
def td_im (A : TD) (m v : Nat) : Bool := (List.range (td_ic A m)).any (fun i => td_mn A (td_iv A m i) v)
theorem ev_ag (ok : TOK A) (hf : f < td_nf A) (hM : ∀ v, td_mn A f v = true → M v = true) (h : ag M r1 r2) : ev A f r1 = ev A f r2 :=
  ev_congr ok hf (fun v hv hm => h v hv (hM v hm))
theorem en_ag (ok : TOK A) (he : e < td_ne A) (hM : ∀ v, td_mo A (td_gd A e) v = true → M v = true) (h : ag M r1 r2) : td_en A e r1 = td_en A e r2 := by
  unfold td_en
  cases hc : td_gd A e with
  | none => rfl
  | some f =>
    dsimp only
    rw [ev_ag ok ((ok.2.2.2.1 e he).2.2.2.1 f hc).1 (fun v hv => hM v (by rw [hc]; exact hv)) h]
theorem wi_ag (ok : TOK A) (he : e < td_ne A) (hM : ∀ v, td_mo A (td_wt A e) v = true → M v = true) (h : ag M r1 r2) : td_wi A e r1 = td_wi A e r2 := by
  unfold td_wi
  cases hc : td_wt A e with
  | none => rfl
  | some f =>
    dsimp only
    rw [ev_ag ok ((ok.2.2.2.1 e he).2.2.2.2.1 f hc).1 (fun v hv => hM v (by rw [hc]; exact hv)) h]
theorem ld_ag (ok : TOK A) (he : e < td_ne A) (hu : u < 6) (hM : ∀ v, td_mo A (td_as A e u) v = true → M v = true) (h : ag M r1 r2) (hn : td_as A e u = none → r1 u = r2 u) : td_ld A e r1 u = td_ld A e r2 u := by
  unfold td_ld
  cases hc : td_as A e u with
  | none => exact hn hc
  | some f =>
    dsimp only
    rw [ev_ag ok ((ok.2.2.2.1 e he).2.2.2.2.2 u f hu hc).1 (fun v hv => hM v (by rw [hc]; exact hv)) h]
theorem ho_ag {m : Nat} (ok : TOK A) (hm : m < 2) (hM : ∀ v, td_im A m v = true → M v = true) (h : ag M r1 r2) : td_ho A m r1 = td_ho A m r2 := by
  unfold td_ho
  have e1 : ∀ j, j < td_ic A m → ev A (td_iv A m j) r1 = ev A (td_iv A m j) r2 := fun j hj =>
    ev_ag ok ((ok.2.2.2.2.2.1 m hm).2 j hj).1 (fun v hv => hM v (List.any_eq_true.mpr ⟨j, List.mem_range.mpr hj, hv⟩)) h
  rw [Bool.eq_iff_iff, List.all_eq_true, List.all_eq_true]
  refine ⟨fun q j hj => ?_, fun q j hj => ?_⟩
  · rw [← e1 j (List.mem_range.mp hj)]; exact q j hj
  · rw [e1 j (List.mem_range.mp hj)]; exact q j hj
theorem va_ag (ok : TOK A) (hM : ∀ v, td_mo A (td_vr A) v = true → M v = true) (h : ag M r1 r2) : td_va A r1 = td_va A r2 := by
  unfold td_va
  cases hc : td_vr A with
  | none => rfl
  | some f =>
    dsimp only
    rw [ev_ag ok (ok.2.2.2.2.2.2.1 f hc).1 (fun v hv => hM v (by rw [hc]; exact hv)) h]
theorem ag_rp {w : Int32} {M' : Nat → Bool} (h : ag M r1 r2) (hM : ∀ v, v ≠ 6 → M' v = true → M v = true) : ag M' (td_rp r1 w) (td_rp r2 w) := by
  intro v hv hm
  unfold td_rp
  by_cases h6 : v = 6
  · rw [if_pos h6, if_pos h6]
  · rw [if_neg h6, if_neg h6]
    exact h v hv (hM v h6 hm)
end AGA
