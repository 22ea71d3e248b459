/-! What is found first: the reference's box and the class's. -/
section YF
variable {A : TD} {e kd u r rg : Nat} {d D D' sz fl : Nat → Nat} {bp : (Nat → Nat) → Option Nat} {bad : (Nat → Nat) → Bool} {M : Nat → Bool}
/-- a row with its parameter -/
def dp (d : Nat → Nat) (p : Nat) : Nat → Nat := fun v => if v = 6 then p else d v
theorem find_rg {q : Nat → Bool} {n p : Nat} (h : (List.range n).find? q = some p) : p < n ∧ q p = true ∧ ∀ j, j < p → q j = false := by
  have h1 := List.find?_range_eq_some.mp h
  refine ⟨by simpa using h1.2.1, h1.1, fun j hj => by simpa using h1.2.2 j hj⟩
theorem find_no {q : Nat → Bool} {n : Nat} (h : (List.range n).find? q = none) : ∀ p, p < n → q p = false := by
  intro p hp
  have h1 := List.find?_eq_none.mp h p (List.mem_range.mpr hp)
  simpa using h1
theorem sch_lst (hfl : ∀ v, v < 7 → fl v = if v = 6 then rg else if v < r then sz v else 1) (hr : r ≤ 6) (hpos : ∀ v, v < r → 1 ≤ sz v) (hc : ∀ D D', bx fl 7 D → bx fl 7 D' → (∀ v, v < 7 → D v = D' v) → bad D = bad D') (h0 : ∀ d, bx sz r d → (∀ v, r ≤ v → d v = 0) → bp d = none → ∀ q, q < rg → bad (dp d q) = false) (h1 : ∀ d p, bx sz r d → (∀ v, r ≤ v → d v = 0) → bp d = some p → p < rg ∧ bad (dp d p) = true ∧ ∀ q, q < p → bad (dp d q) = false) : (sch bp sz r (pd sz r) (fun _ => 0) = none → ∀ D, bx fl 7 D → bad D = false) ∧ ∀ d p, sch bp sz r (pd sz r) (fun _ => 0) = some (d, p) → (∀ v, r ≤ v → d v = 0) ∧ LST bad fl (dp d p) := by
  have hz : bx sz r (fun _ => 0) := fun v hv => hpos v hv
  have v0 : vl sz r (fun _ => 0) = 0 := vl_zero r (fun _ _ => rfl)
  obtain ⟨s1, s2⟩ := sch_spec (bp := bp) (pd sz r) hz (by omega)
  have f6 : fl 6 = rg := by rw [hfl 6 (by omega), if_pos rfl]
  have fr : ∀ v, v < r → fl v = sz v := fun v hv => by rw [hfl v (by omega), if_neg (by omega), if_pos hv]
  have fo : ∀ v, r ≤ v → v < 6 → fl v = 1 := fun v h1 h2 => by rw [hfl v (by omega), if_neg (by omega), if_neg (by omega)]
  have tr : ∀ D, bx fl 7 D → bx sz r (fun v => if v < r then D v else 0) ∧ (∀ v, r ≤ v → (fun v => if v < r then D v else 0) v = 0) ∧ (∀ v, v < 7 → D v = dp (fun v => if v < r then D v else 0) (D 6) v) := fun D hD => by
    refine ⟨fun v hv => ?_, fun v hv => ?_, fun v hv => ?_⟩
    · show (if v < r then D v else 0) < sz v
      rw [if_pos hv, ← fr v hv]
      exact hD v (by omega)
    · show (if v < r then D v else 0) = 0
      rw [if_neg (by omega)]
    · unfold dp
      by_cases c6 : v = 6
      · rw [if_pos c6, c6]
      · rw [if_neg c6]
        show D v = if v < r then D v else 0
        by_cases cr : v < r
        · rw [if_pos cr]
        · rw [if_neg cr]
          have := hD v hv
          rw [fo v (by omega) (by omega)] at this
          omega
  have bxd : ∀ d p, bx sz r d → (∀ v, r ≤ v → d v = 0) → p < rg → bx fl 7 (dp d p) := fun d p hd hz hp v hv => by
    unfold dp
    by_cases c6 : v = 6
    · rw [if_pos c6, c6, f6]; exact hp
    · rw [if_neg c6]
      by_cases cr : v < r
      · rw [fr v cr]; exact hd v cr
      · rw [fo v (by omega) (by omega), hz v (by omega)]; omega
  refine ⟨fun hs D hD => ?_, fun d p hs => ?_⟩
  · obtain ⟨t1, t2, t3⟩ := tr D hD
    have h6 := hD 6 (by omega)
    rw [f6] at h6
    rw [hc D _ hD (bxd _ _ t1 t2 h6) t3]
    exact h0 _ t1 t2 (s1 hs _ t1 (fun v hv => t2 v hv) (by omega)) _ h6
  · obtain ⟨d1, d2, d3, d4⟩ := s2 d p hs
    have dz : ∀ v, r ≤ v → d v = 0 := fun v hv => d2 v hv
    obtain ⟨p1, p2, p3⟩ := h1 d p d1 dz d3
    refine ⟨dz, bxd d p d1 dz p1, p2, fun D hD hb hx => ?_⟩
    obtain ⟨t1, t2, t3⟩ := tr D hD
    have h6 := hD 6 (by omega)
    rw [f6] at h6
    rw [hc D _ hD (bxd _ _ t1 t2 h6) t3] at hb
    obtain ⟨i, i1, i2, i3⟩ := hx
    by_cases ci : i < r
    · have hlx : lx r (fun v => if v < r then D v else 0) d := by
        refine ⟨i, ci, ?_, fun v hv => ?_⟩
        · show (if i < r then D i else 0) < d i
          rw [if_pos ci]
          unfold dp at i2
          rw [if_neg (by omega)] at i2
          exact i2
        · show (if v < r then D v else 0) = d v
          rw [if_pos (by omega), i3 v hv]
          unfold dp
          rw [if_neg (by omega)]
      have hv := vl_lx r t1 d1 hlx
      have := h0 _ t1 t2 (d4 _ t1 (fun v hv => t2 v hv) (by omega) hv) _ h6
      rw [this] at hb
      cases hb
    · by_cases c6 : i = 6
      · subst c6
        unfold dp at i2
        rw [if_pos rfl] at i2
        have e : ∀ v, v < 7 → dp (fun v => if v < r then D v else 0) (D 6) v = dp d (D 6) v := fun v hv => by
          unfold dp
          by_cases c : v = 6
          · rw [if_pos c, if_pos c]
          · rw [if_neg c, if_neg c]
            show (if v < r then D v else 0) = d v
            by_cases cr : v < r
            · rw [if_pos cr, i3 v (by omega)]
              unfold dp
              rw [if_neg c]
            · rw [if_neg cr, dz v (by omega)]
        rw [hc _ _ (bxd _ _ t1 t2 h6) (bxd d (D 6) d1 dz h6) e, p3 (D 6) i2] at hb
        cases hb
      · unfold dp at i2
        rw [if_neg c6, dz i (by omega)] at i2
        omega
/-- a row breaks a duty -/
def bad1 (A : TD) (kd e : Nat) (D : Nat → Nat) : Bool := td_rt A (decide (td_ma A e = 0)) D && !td_kp A kd e (rd D (D 6))
def bad6 (A : TD) (D : Nat → Nat) : Bool := td_ri A (rd D 0) && !td_mv A (rd D 0)
/-- the whole box -/
def fl1 (A : TD) (e v : Nat) : Nat := if v = 6 then td_rg A e else if v < 3 * (td_ma A e + 1) then td_sz A v else 1
def fl6 (A : TD) (v : Nat) : Nat := if v = 6 then 1 else if v < 6 then td_sz A v else 1
theorem fl1_sz (ok : TOK A) (hD : bx (fl1 A e) 7 D) : ∀ v, v < 6 → D v < td_sz A v := fun v hv => by
  have h := hD v (by omega)
  have h4 := ok.2.2.2.2.2.2.2 v hv
  unfold fl1 at h
  rw [if_neg (by omega)] at h
  split at h <;> omega
theorem rd_agM {d d' : Nat → Nat} {p p' : Nat} (h : ∀ v, v < 6 → M v = true → d v = d' v) (hp : M 6 = true → p = p') : ag M (rd d p) (rd d' p') := fun v hv hM => by
  unfold rd
  by_cases c : v = 6
  · rw [if_pos c, if_pos c, hp (by rw [← c]; exact hM)]
  · rw [if_neg c, if_neg c, h v (by omega) hM]
theorem bad1_ind (ok : TOK A) (he : e < td_ne A) (hk : td_hk A kd e) (h1 : bx (fl1 A e) 7 D) (h2 : bx (fl1 A e) 7 D') (h : ∀ v, v < 7 → td_mf A e v = true → D v = D' v) : bad1 A kd e D = bad1 A kd e D' := by
  have a0 : ag (td_mf A e) (rd D 0) (rd D' 0) := rd_agM (fun v hv hM => h v (by omega) hM) (fun _ => rfl)
  have a6 : ag (td_mf A e) (rd D (D 6)) (rd D' (D' 6)) := rd_agM (fun v hv hM => h v (by omega) hM) (fun hM => h 6 (by omega) hM)
  unfold bad1
  have e1 : td_rt A (decide (td_ma A e = 0)) D = td_rt A (decide (td_ma A e = 0)) D' := by
    have q0 : td_ho A 0 (rd D 0) = td_ho A 0 (rd D' 0) := ho_ag ok (by omega) (fun v hv => mf_i0 hv) a0
    unfold td_rt
    by_cases c : td_ma A e = 0
    · rw [if_pos (decide_eq_true c), if_pos (decide_eq_true c), q0]
    · have hm := (ok.2.2.2.1 e he).1
      have q1 : td_ho A 1 (rd D 0) = td_ho A 1 (rd D' 0) := ho_ag ok (by omega) (fun v hv => mf_i1 (by omega) hv) a0
      rw [if_neg (by simpa using c), if_neg (by simpa using c)]
      unfold td_ri
      rw [q0, q1]
  rw [e1, kp_ag ok he hk (fun _ q => q) a6 (rd_ir ok (fl1_sz ok h1)) (rd_ir ok (fl1_sz ok h2))]
theorem R_1 (ok : TOK A) (he : e < td_ne A) (hk : td_hk A kd e) : (td_R A kd e = none → ∀ D, bx (fl1 A e) 7 D → bad1 A kd e D = false) ∧ ∀ d p, td_R A kd e = some (d, p) → (∀ v, 6 ≤ v → d v = 0) ∧ LST (bad1 A kd e) (fl1 A e) (dp d p) := by
  have hm := (ok.2.2.2.1 e he).1
  have key : ∀ r up, r = 3 * (td_ma A e + 1) → up = decide (td_ma A e = 0) → (sch (td_bp A kd e up) (td_sz A) r (pd (td_sz A) r) (fun _ => 0) = none → ∀ D, bx (fl1 A e) 7 D → bad1 A kd e D = false) ∧ ∀ d p, sch (td_bp A kd e up) (td_sz A) r (pd (td_sz A) r) (fun _ => 0) = some (d, p) → (∀ v, r ≤ v → d v = 0) ∧ LST (bad1 A kd e) (fl1 A e) (dp d p) := by
    intro r up hr hup
    have hbd : ∀ (d : Nat → Nat) (q : Nat), bx (td_sz A) r d → (∀ v, r ≤ v → d v = 0) → ∀ v, v < 6 → d v < td_sz A v := fun d q h1 h2 v hv => by
      by_cases c : v < r
      · exact h1 v c
      · have := (ok.2.2.2.2.2.2.2 v hv).1
        rw [h2 v (by omega)]
        omega
    have hba : ∀ d q, bx (td_sz A) r d → (∀ v, r ≤ v → d v = 0) → bad1 A kd e (dp d q) = (td_rt A up d && !td_kp A kd e (rd d q)) := fun d q h1 h2 => by
      unfold bad1
      have x1 : ∀ p, ag (fun _ => true) (rd (dp d q) p) (rd d p) := fun p => rd_agM (fun v hv _ => by unfold dp; rw [if_neg (by omega)]) (fun _ => rfl)
      have e6 : dp d q 6 = q := rfl
      have b2 : ∀ v, v < 6 → dp d q v < td_sz A v := fun v hv => by
        unfold dp
        rw [if_neg (by omega)]
        exact hbd d q h1 h2 v hv
      rw [e6, kp_ag (M := fun _ => true) ok he hk (fun _ _ => rfl) (x1 q) (rd_ir ok b2) (rd_ir ok (hbd d q h1 h2)), ← hup]
      congr 1
      unfold td_rt
      rw [ho_ag (M := fun _ => true) ok (by omega) (fun _ _ => rfl) (x1 0)]
      unfold td_ri
      rw [ho_ag (M := fun _ => true) (m := 0) ok (by omega) (fun _ _ => rfl) (x1 0), ho_ag (M := fun _ => true) (m := 1) ok (by omega) (fun _ _ => rfl) (x1 0)]
    refine sch_lst (rg := td_rg A e) (fun v hv => ?_) (by omega) (fun v hv => (ok.2.2.2.2.2.2.2 v (by omega)).1) (fun D D' h1 h2 h => bad1_ind ok he hk h1 h2 (fun v hv _ => h v hv)) (fun d h1 h2 hb q hq => ?_) (fun d p h1 h2 hb => ?_)
    · unfold fl1
      rw [hr]
    · rw [hba d q h1 h2]
      unfold td_bp at hb
      by_cases c : td_rt A up d = true
      · rw [if_pos c] at hb
        rw [find_no hb q hq, Bool.and_false]
      · have c' : td_rt A up d = false := by simpa using c
        rw [c', Bool.false_and]
    · unfold td_bp at hb
      by_cases c : td_rt A up d = true
      · rw [if_pos c] at hb
        obtain ⟨f1, f2, f3⟩ := find_rg hb
        refine ⟨f1, ?_, fun q hq => ?_⟩
        · rw [hba d p h1 h2, c, f2]
          rfl
        · rw [hba d q h1 h2, f3 q hq, Bool.and_false]
      · rw [if_neg c] at hb
        cases hb
  unfold td_R
  by_cases c : td_ma A e = 0
  · rw [if_pos c]
    obtain ⟨k1, k2⟩ := key 3 true (by omega) (by rw [c]; rfl)
    exact ⟨k1, fun d p h => ⟨fun v hv => (k2 d p h).1 v (by omega), (k2 d p h).2⟩⟩
  · rw [if_neg c]
    exact key 6 false (by omega) (decide_eq_false c).symm
theorem bad6_ind (ok : TOK A) (hM0 : ∀ v, td_im A 0 v = true → M v = true) (hM1 : ∀ v, td_im A 1 v = true → M v = true) (hMe : ∀ e v, e < td_ne A → td_ma A e = 1 → td_em A e v = true → v ≠ 6 → M v = true) (h : ∀ v, v < 6 → M v = true → D v = D' v) : bad6 A D = bad6 A D' := by
  have a0 : ag M (rd D 0) (rd D' 0) := rd_agM h (fun _ => rfl)
  unfold bad6 td_ri
  rw [ho_ag ok (by omega) hM0 a0, ho_ag ok (by omega) hM1 a0, mv_ag ok hMe a0]
theorem R_6 (ok : TOK A) : (td_R6 A = none → ∀ D, bx (fl6 A) 7 D → bad6 A D = false) ∧ ∀ d p, td_R6 A = some (d, p) → (∀ v, 6 ≤ v → d v = 0) ∧ LST (bad6 A) (fl6 A) (dp d p) := by
  have cg : ∀ D D' : Nat → Nat, (∀ v, v < 6 → D v = D' v) → bad6 A D = bad6 A D' := fun D D' h => bad6_ind (M := fun _ => true) ok (fun _ _ => rfl) (fun _ _ => rfl) (fun _ _ _ _ _ _ => rfl) (fun v hv _ => h v hv)
  have hba : ∀ d q, bad6 A (dp d q) = bad6 A d := fun d q => cg _ _ (fun v hv => by unfold dp; rw [if_neg (by omega)])
  unfold td_R6
  refine sch_lst (rg := 1) (fun v hv => rfl) (by omega) (fun v hv => (ok.2.2.2.2.2.2.2 v (by omega)).1) (fun D D' h1 h2 h => cg D D' (fun v hv => h v (by omega))) (fun d h1 h2 hb q hq => ?_) (fun d p h1 h2 hb => ?_)
  · rw [hba]
    unfold td_b6 at hb
    unfold bad6
    split at hb
    · cases hb
    · rename_i c
      simpa using c
  · unfold td_b6 at hb
    split at hb
    · rename_i c
      cases hb
      exact ⟨by omega, by rw [hba]; exact c, fun q hq => by omega⟩
    · cases hb
/-- an upper event and its invariants mention no lower variable -/
theorem mf_up {v : Nat} (ok : TOK A) (he : e < td_ne A) (hm : td_ma A e = 0) (h3 : 3 ≤ v) (h6 : v < 6) : td_mf A e v = false := by
  obtain ⟨-, -, hrf, hgd, hwt, has⟩ := ok.2.2.2.1 e he
  have rn : td_rf A e = none := by
    cases hg : td_rf A e with
    | none => rfl
    | some u => have := (hrf u hg).2.1; omega
  have em : td_em A e v = false := by
    unfold td_em
    have e1 : td_mo A (td_gd A e) v = false := by
      cases hg : td_gd A e with
      | none => rfl
      | some f => exact td_hl_mn ((hgd f hg).2.2 hm) h3 h6
    have e2 : td_mo A (td_wt A e) v = false := by
      cases hg : td_wt A e with
      | none => rfl
      | some f =>
        obtain ⟨u, hu⟩ := (hwt f hg).2.2
        rw [rn] at hu
        cases hu
    have e3 : (List.range 6).any (fun u => td_mo A (td_as A e u) v) = false := by
      rw [List.any_eq_false]
      intro u hu
      have hu6 := List.mem_range.mp hu
      cases hg : td_as A e u with
      | none => exact fun q => by cases q
      | some f =>
        have := td_hl_mn ((has u f hu6 hg).2.2.2 hm) h3 h6
        show ¬ td_mn A f v = true
        rw [this]
        exact fun q => by cases q
    rw [e1, e2, e3]
    rfl
  have im : td_im A 0 v = false := by
    unfold td_im
    rw [List.any_eq_false]
    intro i hi
    have hi6 := List.mem_range.mp hi
    have := td_hl_mn (((ok.2.2.2.2.2.1 0 (by omega)).2 i hi6).2.2.2 rfl) h3 h6
    rw [this]
    exact fun q => by cases q
  unfold td_mf
  rw [em, im, rn, decide_eq_false (show ¬ td_ma A e = 1 by omega), decide_eq_false (show ¬ (td_ma A e = 1 ∧ (none : Option Nat) = none) by omega)]
  rfl
theorem lm_fl (ok : TOK A) (he : e < td_ne A) : ∀ v, v < 7 → lm A (td_mf A e) (td_rg A e) v = if td_mf A e v = true then fl1 A e v else 1 := fun v hv => by
  have hm := (ok.2.2.2.1 e he).1
  unfold lm fl1
  by_cases c : td_mf A e v = true
  · rw [if_pos c, if_pos c]
    by_cases c6 : v = 6
    · rw [if_pos c6, if_pos c6]
    · rw [if_neg c6, if_neg c6, if_pos]
      by_cases c0 : td_ma A e = 0
      · by_cases c3 : v < 3
        · omega
        · rw [mf_up ok he c0 (by omega) (by omega)] at c
          cases c
      · omega
  · rw [if_neg c, if_neg c]
theorem fl1_pos (ok : TOK A) (he : e < td_ne A) : ∀ v, v < 7 → 1 ≤ fl1 A e v := fun v hv => by
  have hr := (ok.2.2.2.1 e he).2.1
  unfold fl1
  split
  · omega
  · split
    · exact (ok.2.2.2.2.2.2.2 v (by omega)).1
    · omega
/-- no row of the class's box breaks it: none is found -/
theorem cl_no (ok : TOK A) (he : e < td_ne A) (hk : td_hk A kd e) : (∀ D, bx (lm A (td_mf A e) (td_rg A e)) 7 D → bad1 A kd e D = false) ↔ td_R A kd e = none := by
  obtain ⟨r1, r2⟩ := R_1 ok he hk
  constructor
  · intro h
    have h2 := box_no (lm_fl ok he) (fun D D' h1 h2 h => bad1_ind ok he hk h1 h2 h) h
    cases hR : td_R A kd e with
    | none => rfl
    | some q =>
      obtain ⟨d, p⟩ := q
      obtain ⟨-, l1, l2, -⟩ := r2 d p hR
      rw [h2 _ l1] at l2
      cases l2
  · intro h D hD
    refine r1 h D (fun v hv => ?_)
    have h1 := hD v hv
    rw [lm_fl ok he v hv] at h1
    have := fl1_pos ok he v hv
    split at h1 <;> omega
theorem cl_lst (ok : TOK A) (he : e < td_ne A) (hk : td_hk A kd e) (h : LST (bad1 A kd e) (lm A (td_mf A e) (td_rg A e)) D) : ∃ d p, td_R A kd e = some (d, p) ∧ (∀ v, v < 6 → D v = d v) ∧ D 6 = p := by
  obtain ⟨r1, r2⟩ := R_1 ok he hk
  have h2 : LST (bad1 A kd e) (fl1 A e) D := box_lst (lm_fl ok he) (fl1_pos ok he) (fun D D' h1 h2 h => bad1_ind ok he hk h1 h2 h) h
  cases hR : td_R A kd e with
  | none =>
    have := r1 hR D h2.1
    rw [h2.2.1] at this
    cases this
  | some q =>
    obtain ⟨d, p⟩ := q
    have u := h2.uni (r2 d p hR).2
    refine ⟨d, p, rfl, fun v hv => ?_, u 6 (by omega)⟩
    rw [u v (by omega)]
    unfold dp
    rw [if_neg (by omega)]
/-- what matters for kind 6 -/
def td_m6 (A : TD) (v : Nat) : Bool := td_im A 0 v || td_im A 1 v || (List.range (td_ne A)).any (fun e => decide (td_ma A e = 1) && td_em A e v)
theorem lm_f6 : ∀ v, v < 7 → lm A (td_m6 A) 1 v = if td_m6 A v = true then fl6 A v else 1 := fun v hv => by
  unfold lm fl6
  by_cases c : td_m6 A v = true
  · rw [if_pos c, if_pos c]
    by_cases c6 : v = 6
    · rw [if_pos c6, if_pos c6]
    · rw [if_neg c6, if_neg c6, if_pos (by omega)]
  · rw [if_neg c, if_neg c]
theorem b6_ind (ok : TOK A) (D D' : Nat → Nat) (h : ∀ v, v < 7 → td_m6 A v = true → D v = D' v) : bad6 A D = bad6 A D' := by
  refine bad6_ind (M := td_m6 A) ok (fun v hv => ?_) (fun v hv => ?_) (fun e v he hm hv _ => ?_) (fun v hv hM => h v (by omega) hM)
  · unfold td_m6
    rw [hv]
    rfl
  · unfold td_m6
    rw [hv, Bool.or_true]
    rfl
  · unfold td_m6
    have : (List.range (td_ne A)).any (fun e => decide (td_ma A e = 1) && td_em A e v) = true := by
      rw [List.any_eq_true]
      exact ⟨e, List.mem_range.mpr he, by rw [decide_eq_true hm, hv]; rfl⟩
    rw [this, Bool.or_true]
theorem fl6_pos (ok : TOK A) : ∀ v, v < 7 → 1 ≤ fl6 A v := fun v hv => by
  unfold fl6
  split
  · omega
  · split
    · exact (ok.2.2.2.2.2.2.2 v (by omega)).1
    · omega
theorem c6_no (ok : TOK A) : (∀ D, bx (lm A (td_m6 A) 1) 7 D → bad6 A D = false) ↔ td_R6 A = none := by
  obtain ⟨r1, r2⟩ := R_6 ok
  constructor
  · intro h
    have h2 := box_no lm_f6 (fun D D' _ _ h => b6_ind ok D D' h) h
    cases hR : td_R6 A with
    | none => rfl
    | some q =>
      obtain ⟨d, p⟩ := q
      obtain ⟨-, l1, l2, -⟩ := r2 d p hR
      rw [h2 _ l1] at l2
      cases l2
  · intro h D hD
    refine r1 h D (fun v hv => ?_)
    have h1 := hD v hv
    rw [lm_f6 v hv] at h1
    have := fl6_pos ok v hv
    split at h1 <;> omega
theorem c6_lst (ok : TOK A) (h : LST (bad6 A) (lm A (td_m6 A) 1) D) : ∃ d p, td_R6 A = some (d, p) ∧ (∀ v, v < 6 → D v = d v) ∧ D 6 = p := by
  obtain ⟨r1, r2⟩ := R_6 ok
  have h2 : LST (bad6 A) (fl6 A) D := box_lst lm_f6 (fl6_pos ok) (fun D D' _ _ h => b6_ind ok D D' h) h
  cases hR : td_R6 A with
  | none =>
    have := r1 hR D h2.1
    rw [h2.2.1] at this
    cases this
  | some q =>
    obtain ⟨d, p⟩ := q
    have u := h2.uni (r2 d p hR).2
    refine ⟨d, p, rfl, fun v hv => ?_, u 6 (by omega)⟩
    rw [u v (by omega)]
    unfold dp
    rw [if_neg (by omega)]
end YF
