/-! A duty in a row doesn't depend on what nothing of concern mentions. -/
section AGB
variable {A : TD} {e u v : Nat} {M : Nat → Bool} {r1 r2 : Nat → Int32}
/-- what matters for an event's duties -/
def td_mf (A : TD) (e v : Nat) : Bool := td_em A e v || td_im A 0 v || (decide (td_ma A e = 1) && td_im A 1 v) || (decide (td_ma A e = 1 ∧ td_rf A e = none) && td_mo A (td_vr A) v) || (match td_rf A e with
  | none => false
  | some u => decide (v ≠ 6) && td_em A u v)
/-- a row of a state -/
def td_ir (A : TD) (r : Nat → Int32) : Prop := ∀ v, v < 6 → td_wn A r v = true
theorem em_as (hu : u < 6) (h : td_mo A (td_as A e u) v = true) : td_em A e v = true := by
  unfold td_em
  rw [List.any_eq_true.mpr ⟨u, List.mem_range.mpr hu, h⟩, Bool.or_true]
theorem em_gd (h : td_mo A (td_gd A e) v = true) : td_em A e v = true := by
  unfold td_em
  rw [h]
  simp
theorem em_wt (h : td_mo A (td_wt A e) v = true) : td_em A e v = true := by
  unfold td_em
  rw [h]
  simp
theorem mf_em (h : td_em A e v = true) : td_mf A e v = true := by
  unfold td_mf
  rw [h]
  simp
theorem mf_i0 (h : td_im A 0 v = true) : td_mf A e v = true := by
  unfold td_mf
  rw [h]
  simp
theorem mf_i1 (hm : td_ma A e = 1) (h : td_im A 1 v = true) : td_mf A e v = true := by
  unfold td_mf
  rw [h, decide_eq_true hm]
  simp
theorem mf_vr (hm : td_ma A e = 1 ∧ td_rf A e = none) (h : td_mo A (td_vr A) v = true) : td_mf A e v = true := by
  unfold td_mf
  rw [h, decide_eq_true hm]
  simp
theorem mf_rf (hr : td_rf A e = some u) (h6 : v ≠ 6) (h : td_em A u v = true) : td_mf A e v = true := by
  unfold td_mf
  rw [hr]
  dsimp only
  rw [h, decide_eq_true h6]
  simp
theorem im_6 {m : Nat} (ok : TOK A) (hm : m < 2) : td_im A m 6 = false := by
  unfold td_im
  rw [List.any_eq_false]
  intro i hi
  rw [td_hp_mn ((ok.2.2.2.2.2.1 m hm).2 i (List.mem_range.mp hi)).2.2.1]
  simp
theorem ld_di (ok : TOK A) (he : e < td_ne A) (hu : u < 6) (hM : ∀ v, td_em A e v = true → M v = true) (h : ag M r1 r2) : td_ld A e r1 u = td_ld A e r2 u ∨ (td_ld A e r1 u = r1 u ∧ td_ld A e r2 u = r2 u) := by
  cases hc : td_as A e u with
  | none =>
    right
    unfold td_ld
    rw [hc]
    exact ⟨rfl, rfl⟩
  | some f =>
    left
    exact ld_ag ok he hu (fun v hv => hM v (em_as hu hv)) h (fun q => by rw [hc] at q; cases q)
theorem bo_di (ok : TOK A) (he : e < td_ne A) (hv : v < 6) (hM : ∀ v, td_mf A e v = true → M v = true) (h : ag M r1 r2) : td_bo A e r1 v = td_bo A e r2 v ∨ (td_bo A e r1 v = r1 v ∧ td_bo A e r2 v = r2 v) := by
  have hl := ld_di ok he hv (fun v q => hM v (mf_em q)) h
  unfold td_bo
  cases hc : td_rf A e with
  | none =>
    dsimp only
    by_cases c : 3 * td_ma A e ≤ v ∧ v < 3 * td_ma A e + 3
    · rw [if_pos c, if_pos c]
      exact hl
    · rw [if_neg c, if_neg c]
      exact Or.inr ⟨rfl, rfl⟩
  | some u =>
    dsimp only
    have hu := (ok.2.2.2.1 e he).2.2.1 u hc
    have hw : td_wi A e r1 = td_wi A e r2 := wi_ag ok he (fun v q => hM v (mf_em (em_wt q))) h
    rw [hw]
    have hl2 := ld_di (M := td_em A u) (r1 := td_rp r1 (td_wi A e r2)) (r2 := td_rp r2 (td_wi A e r2)) ok (e := u) (by omega) hv (fun v q => q) (ag_rp h (fun v h6 q => hM v (mf_rf hc h6 q)))
    have h6 : v ≠ 6 := by omega
    have e1 : ∀ r : Nat → Int32, td_rp r (td_wi A e r2) v = r v := fun r => by
      unfold td_rp
      rw [if_neg h6]
    rw [e1, e1] at hl2
    by_cases c1 : 3 * td_ma A u ≤ v ∧ v < 3 * td_ma A u + 3
    · rw [if_pos c1, if_pos c1]
      exact hl2
    · rw [if_neg c1, if_neg c1]
      by_cases c : 3 * td_ma A e ≤ v ∧ v < 3 * td_ma A e + 3
      · rw [if_pos c, if_pos c]
        exact hl
      · rw [if_neg c, if_neg c]
        exact Or.inr ⟨rfl, rfl⟩
theorem di_wn {n1 n2 : Nat → Int32} (hv : v < 6) (i1 : td_ir A r1) (i2 : td_ir A r2) (h : n1 v = n2 v ∨ (n1 v = r1 v ∧ n2 v = r2 v)) : td_wn A n1 v = td_wn A n2 v := by
  rcases h with h | ⟨h1, h2⟩
  · exact wn_congr h
  · rw [wn_congr h1, wn_congr h2, i1 v hv, i2 v hv]
theorem bs_ag (ok : TOK A) (he : e < td_ne A) (hM : ∀ v, td_mf A e v = true → M v = true) (h : ag M r1 r2) (i1 : td_ir A r1) (i2 : td_ir A r2) : td_bs A e r1 = td_bs A e r2 := by
  unfold td_bs
  exact all_congr' 6 0 (fun v _ hv => di_wn (by omega) i1 i2 (bo_di ok he (by omega) hM h))
theorem bo_ag {m : Nat} (ok : TOK A) (he : e < td_ne A) (hm : m < 2) (hM : ∀ v, td_mf A e v = true → M v = true) (hi : ∀ v, td_im A m v = true → M v = true) (h : ag M r1 r2) : ag (td_im A m) (td_bo A e r1) (td_bo A e r2) := by
  intro v hv hq
  have h6 : v ≠ 6 := fun q => by
    subst q
    rw [im_6 ok hm] at hq
    cases hq
  rcases bo_di ok he (v := v) (by omega) hM h with g | ⟨g1, g2⟩
  · exact g
  · rw [g1, g2]
    exact h v hv (hi v hq)
theorem fo_ag (ok : TOK A) (he : e < td_ne A) (hM : ∀ v, td_mf A e v = true → M v = true) (h : ag M r1 r2) : td_fo A e r1 = td_fo A e r2 := by
  unfold td_fo
  cases hc : td_rf A e with
  | none => rfl
  | some u =>
    dsimp only
    have hu := (ok.2.2.2.1 e he).2.2.1 u hc
    have hw : td_wi A e r1 = td_wi A e r2 := wi_ag ok he (fun v q => hM v (mf_em (em_wt q))) h
    rw [hw]
    rw [en_ag (M := td_em A u) ok (e := u) (by omega) (fun v q => em_gd q) (ag_rp h (fun v h6 q => hM v (mf_rf hc h6 q)))]
/-- a kind of duty that an event has -/
def td_hk (A : TD) (kd e : Nat) : Prop := kd = 1 ∨ (kd = 2 ∧ td_ma A e = 0) ∨ (td_ma A e = 1 ∧ (kd = 3 ∨ kd = 4 ∨ (kd = 5 ∧ td_rf A e = none)))
theorem k0_ag {kd : Nat} (ok : TOK A) (he : e < td_ne A) (hk : td_hk A kd e) (hM : ∀ v, td_mf A e v = true → M v = true) (h : ag M r1 r2) (i1 : td_ir A r1) (i2 : td_ir A r2) : td_k0 A kd e r1 = td_k0 A kd e r2 := by
  have hma := (ok.2.2.2.1 e he).1
  have hld := fun v (hv : v < 6) => ld_di (A := A) (u := v) ok he hv (fun v q => hM v (mf_em q)) h
  have hbs := bs_ag ok he hM h i1 i2
  unfold td_k0
  rcases hk with rfl | ⟨rfl, hm⟩ | ⟨hm, rfl | rfl | ⟨rfl, hr⟩⟩
  · rw [if_pos rfl, if_pos rfl]
    exact all_congr' 3 _ (fun v _ hv => di_wn (by omega) i1 i2 (hld v (by omega)))
  · rw [if_neg (by decide), if_pos rfl, if_neg (by decide), if_pos rfl]
    have e1 : (List.range' 0 3).all (td_wn A (td_ld A e r1)) = (List.range' 0 3).all (td_wn A (td_ld A e r2)) := all_congr' 3 _ (fun v _ hv => di_wn (by omega) i1 i2 (hld v (by omega)))
    have e2 : td_ho A 0 (td_ld A e r1) = td_ho A 0 (td_ld A e r2) := ho_ag (M := td_im A 0) ok (by decide) (fun v q => q) (fun v hv hq => by
      have h6 : v ≠ 6 := fun q => by
        subst q
        rw [im_6 ok (by decide)] at hq
        cases hq
      rcases hld v (by omega) with g | ⟨g1, g2⟩
      · exact g
      · rw [g1, g2]
        exact h v hv (hM v (mf_i0 hq)))
    rw [e1, e2]
  · rw [if_neg (by decide), if_neg (by decide), if_pos rfl, if_neg (by decide), if_neg (by decide), if_pos rfl]
    have e2 : td_ri A (td_bo A e r1) = td_ri A (td_bo A e r2) := by
      unfold td_ri
      rw [ho_ag (M := td_im A 0) ok (by decide) (fun v q => q) (bo_ag ok he (by decide) hM (fun v q => hM v (mf_i0 q)) h), ho_ag (M := td_im A 1) (m := 1) ok (by decide) (fun v q => q) (bo_ag ok he (by decide) hM (fun v q => hM v (mf_i1 hm q)) h)]
    rw [hbs, e2]
  · rw [if_neg (by decide), if_neg (by decide), if_neg (by decide), if_pos rfl, if_neg (by decide), if_neg (by decide), if_neg (by decide), if_pos rfl]
    exact fo_ag ok he hM h
  · rw [if_neg (by decide), if_neg (by decide), if_neg (by decide), if_neg (by decide), if_neg (by decide), if_neg (by decide), if_neg (by decide), if_neg (by decide)]
    have e1 : td_va A r1 = td_va A r2 := va_ag ok (fun v q => hM v (mf_vr ⟨hm, hr⟩ q)) h
    have e2 : td_va A (td_bo A e r1) = td_va A (td_bo A e r2) := by
      refine va_ag (M := td_mo A (td_vr A)) ok (fun v q => q) (fun v hv hq => ?_)
      have h6 : v ≠ 6 := fun q => by
        subst q
        unfold td_mo at hq
        cases hc : td_vr A with
        | none => rw [hc] at hq; cases hq
        | some f =>
          rw [hc] at hq
          dsimp only at hq
          rw [td_hp_mn (ok.2.2.2.2.2.2.1 f hc).2.2] at hq
          cases hq
      rcases bo_di ok he (v := v) (by omega) hM h with g | ⟨g1, g2⟩
      · exact g
      · rw [g1, g2]
        exact h v hv (hM v (mf_vr ⟨hm, hr⟩ hq))
    rw [hbs, e1, e2]
theorem kp_ag {kd : Nat} (ok : TOK A) (he : e < td_ne A) (hk : td_hk A kd e) (hM : ∀ v, td_mf A e v = true → M v = true) (h : ag M r1 r2) (i1 : td_ir A r1) (i2 : td_ir A r2) : td_kp A kd e r1 = td_kp A kd e r2 := by
  unfold td_kp
  rw [k0_ag ok he hk hM h i1 i2, en_ag ok he (fun v q => hM v (mf_em (em_gd q))) h]
end AGB
