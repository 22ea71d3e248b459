/-! The reference: what a formula mentions; duties in one row. -/
section LC
variable {L : Nat} {xs : Nat → Int32} {Q : am_A → am_H → Prop} {dy : List (Nat × Nat)} {σ : Nat → Nat → Int32} {ρ : Nat → Nat → Option Nat} {τ : Nat → Nat → Int64} {A : TD} {e f m : Nat} {prm : Int32}
/-- a formula mentions a variable, or the parameter (6) -/
def td_mn (A : TD) (f v : Nat) : Bool := (List.range (td_ln A f)).any (fun i => decide ((td_fw A f i).toInt = if v = 6 then 40 else 20 + (v : Int)))
theorem td_mn_of {i v : Nat} (hi : i < td_ln A f) (hw : (td_fw A f i).toInt = if v = 6 then 40 else 20 + (v : Int)) : td_mn A f v = true := by
  unfold td_mn
  exact List.any_eq_true.mpr ⟨i, List.mem_range.mpr hi, decide_eq_true hw⟩
theorem ps_congr {r1 r2 : Nat → Int32} {w : Int32} {p : List Int32} (h1 : 10 ≤ w.toInt → w.toInt < 26 → r1 (w.toInt - 20).toNat = r2 (w.toInt - 20).toNat) (h2 : w.toInt = 40 → r1 6 = r2 6) : ps r1 w p = ps r2 w p := by
  unfold ps
  split
  · rfl
  · split
    · rw [h1 (by omega) (by omega)]
    · split
      · rw [h2 (by assumption)]
      · rfl
theorem pr_congr {r1 r2 ws : Nat → Int32} : ∀ (r : Nat) (p : List Int32), (∀ i, i < r → (10 ≤ (ws i).toInt → (ws i).toInt < 26 → r1 ((ws i).toInt - 20).toNat = r2 ((ws i).toInt - 20).toNat) ∧ ((ws i).toInt = 40 → r1 6 = r2 6)) → pr r1 ws r p = pr r2 ws r p
  | 0, _, _ => rfl
  | r + 1, p, h => by
    show pr r1 ws r (ps r1 (ws r) p) = pr r2 ws r (ps r2 (ws r) p)
    rw [ps_congr (h r (by omega)).1 (h r (by omega)).2]
    exact pr_congr r _ (fun i hi => h i (by omega))
theorem ev_congr {r1 r2 : Nat → Int32} (ok : TOK A) (hf : f < td_nf A) (h : ∀ v, v ≤ 6 → td_mn A f v = true → r1 v = r2 v) : ev A f r1 = ev A f r2 := by
  unfold ev
  rw [pr_congr (r1 := r1) (r2 := r2)]
  intro i hi
  have hok := (ok.2.1 f hf).2.1 i hi
  unfold wd_ok at hok
  refine ⟨fun h1 h2 => h _ (by omega) (td_mn_of hi ?_), fun h1 => h 6 (by omega) (td_mn_of hi ?_)⟩
  · rw [if_neg (by omega)]
    omega
  · rw [if_pos rfl]
    exact h1
theorem td_hp_mn (h : td_hp A f = false) : td_mn A f 6 = false := by
  unfold td_hp at h
  unfold td_mn
  simpa using h
theorem td_hl_mn {v : Nat} (h : td_hl A f = false) (h3 : 3 ≤ v) (h6 : v < 6) : td_mn A f v = false := by
  unfold td_hl at h
  unfold td_mn
  rw [List.any_eq_false] at h ⊢
  intro i hi
  have := h i hi
  simp only [decide_eq_true_eq] at this ⊢
  rw [if_neg (by omega)]
  omega
theorem ho_congr {r1 r2 : Nat → Int32} (ok : TOK A) (hm : m < 2) (h : ∀ v, v < (if m = 0 then 3 else 6) → r1 v = r2 v) : td_ho A m r1 = td_ho A m r2 := by
  unfold td_ho
  have e : ∀ j, j < td_ic A m → ev A (td_iv A m j) r1 = ev A (td_iv A m j) r2 := by
    intro j hj
    obtain ⟨g1, g2, g3, g4⟩ := (ok.2.2.2.2.2.1 m hm).2 j hj
    refine ev_congr ok g1 (fun v hv hmn => ?_)
    by_cases h6 : v = 6
    · subst h6
      rw [td_hp_mn g3] at hmn
      cases hmn
    · refine h v ?_
      split
      · rename_i h0
        by_cases h3 : v < 3
        · exact h3
        · rw [td_hl_mn (g4 h0) (by omega) (by omega)] at hmn
          cases hmn
      · omega
  rw [Bool.eq_iff_iff, List.all_eq_true, List.all_eq_true]
  refine ⟨fun q j hj => ?_, fun q j hj => ?_⟩
  · rw [← e j (List.mem_range.mp hj)]; exact q j hj
  · rw [e j (List.mem_range.mp hj)]; exact q j hj
theorem ri_congr {r1 r2 : Nat → Int32} (ok : TOK A) (h : ∀ v, v < 6 → r1 v = r2 v) : td_ri A r1 = td_ri A r2 := by
  unfold td_ri
  rw [ho_congr ok (by decide) (fun v hv => h v (by simp at hv; omega)), ho_congr ok (m := 1) (by decide) (fun v hv => h v (by simpa using hv))]
/-- the variant's worth -/
def td_va (A : TD) (rw : Nat → Int32) : Int32 := match td_vr A with
  | none => nn 0
  | some f => ev A f rw
theorem va_congr {r1 r2 : Nat → Int32} (ok : TOK A) (h : ∀ v, v < 6 → r1 v = r2 v) : td_va A r1 = td_va A r2 := by
  unfold td_va
  split
  · rfl
  · rename_i f hf
    obtain ⟨g1, g2, g3⟩ := ok.2.2.2.2.2.2.1 f hf
    refine ev_congr ok g1 (fun v hv hmn => ?_)
    by_cases h6 : v = 6
    · subst h6
      rw [td_hp_mn g3] at hmn
      cases hmn
    · exact h v (by omega)
/-- an event that may be done does its duty of a kind in a row -/
def td_k0 (A : TD) (kd e : Nat) (rw : Nat → Int32) : Bool := if kd = 1 then (List.range' (3 * td_ma A e) 3).all (td_wn A (td_ld A e rw)) else if kd = 2 then !(List.range' 0 3).all (td_wn A (td_ld A e rw)) || td_ho A 0 (td_ld A e rw) else if kd = 3 then !td_bs A e rw || td_ri A (td_bo A e rw) else if kd = 4 then td_fo A e rw else decide (0 ≤ (td_va A rw).toInt) && (!td_bs A e rw || decide ((td_va A (td_bo A e rw)).toInt < (td_va A rw).toInt))
def td_kp (A : TD) (kd e : Nat) (rw : Nat → Int32) : Bool := !td_en A e rw || td_k0 A kd e rw
theorem all_congr' {p q : Nat → Bool} : ∀ (k i : Nat), (∀ v, i ≤ v → v < i + k → p v = q v) → (List.range' i k).all p = (List.range' i k).all q
  | 0, _, _ => rfl
  | k + 1, i, h => by
    rw [List.range'_succ, List.all_cons, List.all_cons, h i (by omega) (by omega), all_congr' k (i + 1) (fun v h1 h2 => h v (by omega) (by omega))]
theorem rM_lt {σ : Nat → Nat → Int32} {prm w : Int32} {v : Nat} (hv : v < 6) : rM σ False prm v = rM σ False w v := by
  have h6 : v ≠ 6 := by omega
  unfold rM
  rw [if_neg h6, if_neg h6]
theorem rM_tr {σ : Nat → Nat → Int32} {prm : Int32} {v : Nat} (hv : v < 6) : rM σ True prm v = σ 42 v := by
  unfold rM
  rw [if_neg (by omega), if_pos trivial]
theorem wn_congr {n1 n2 : Nat → Int32} {v : Nat} (h : n1 v = n2 v) : td_wn A n1 v = td_wn A n2 v := by
  unfold td_wn
  rw [h]
theorem s_133 {kd : Nat} (hdy : dy.length < 100000) (ok : TOK A) (he : e < td_ne A) (hk : 1 ≤ kd ∧ kd ≤ 5) (hk2 : kd = 2 → td_ma A e = 0) (hR : RepM A σ) (kk : ∀ σ', ld_S σ σ' → Q (.inl (some (.int (bb (td_kp A kd e (rM σ False prm) = true))))) (mk dy σ' ρ τ)) : go (tb_P L xs) 133 0 [some (.ref 24), some (.int (nn kd)), some (.int (nn e)), some (.int prm), none, none, none, none] [] (mk dy σ ρ τ) Q := by
  have hne := ok.2.2.1
  have hma1 := (ok.2.2.2.1 e he).1
  have fin : ∀ (σ' : Nat → Nat → Int32) (b : Bool), ld_S σ σ' → td_kp A kd e (rM σ False prm) = b → Q (.inl (some (.int (bb (b = true))))) (mk dy σ' ρ τ) := by
    intro σ' b h1 h2
    rw [← h2]
    exact kk σ' h1
  unfold td_kp at fin
  have hkd : kd = 1 ∨ kd = 2 ∨ kd = 3 ∨ kd = 4 ∨ kd = 5 := by omega
  rcases hkd with rfl | rfl | rfl | rfl | rfl
  · skip
    refine g_aload_n k133_0 rfl ?_
    refine g_iload_n k133_1 rfl ?_
    refine g_iload_n k133_2 rfl ?_
    refine m_callV2 k133_3 s133_3 c133_3 l132 (by omega) ⟨rfl, rfl⟩ rfl r133_3 rfl ?_
    refine s_132 hdy ok he hR (fun σ1 hs1 => ?_)
    refine af_ret ?_
    have hR1 := hR.mono hs1.rs
    have hma := (hR1.2.1.2 e he).1
    have hr1 := rM_fi hs1 False prm
    refine g_ifneB k133_6 (t := 11) rfl (fun h6 => ?_) (fun h6 => ?_)
    · skip
      refine g_aload_n k133_11 rfl ?_
      refine m_get k133_12 f133_12 rfl rfl ?_
      refine g_iload_n k133_15 rfl ?_
      refine m_iald k133_16 hdy rfl rfl (by omega) (by omega) ?_
      rw [hma]
      refine g_istore k133_17 rfl rfl ?_
      refine g_iload_n k133_19 rfl ?_
      refine g_iconst (v := nn 1) k133_20 ci_1 ?_
      refine g_icne_f k133_21 (t := 45) rfl rfl ?_
      refine g_aload_n k133_24 rfl ?_
      refine g_iload_n k133_25 rfl ?_
      refine g_iload_n k133_26 rfl ?_
      refine m_callV2 k133_27 s133_27 c133_27 l134 (by omega) ⟨rfl, rfl⟩ rfl r133_27 rfl ?_
      refine s_134 hdy ok he hR1 (fun σ2 hs2 hu2 => ?_)
      refine af_void ?_
      refine g_aload_n k133_30 rfl ?_
      refine g_iconst (v := nn 3) k133_31 ci_3 ?_
      refine g_iload k133_32 rfl ?_
      refine g_imulN k133_34 ?_
      refine g_iconst (v := nn 3) k133_35 ci_3 ?_
      refine g_iload k133_36 rfl ?_
      refine g_imulN k133_38 ?_
      refine g_iconst (v := nn 3) k133_39 ci_3 ?_
      refine g_iaddN k133_40 ?_
      refine m_callV2 k133_41 s133_41 c133_41 l135 (by omega) ⟨rfl, rfl⟩ rfl r133_41 rfl ?_
      refine s_135 hdy ok (by omega) (by omega) (hR1.mono hs2.rs) ?_
      refine af_ret ?_
      refine g_breturnB k133_44 t133 ?_
      first
        | (exact fin σ1 true hs1.ld (by simp [h6]))
        | (refine fin σ2 _ (hs1.ld.tr hs2) ?_
           rw [h6]
           show (!true || td_k0 A 1 e (rM σ False prm)) = _
           unfold td_k0
           rw [if_pos rfl, show 3 * td_ma A e + 3 - 3 * td_ma A e = 3 by omega]
           refine all_congr' 3 _ (fun v h1 h2 => wn_congr ?_)
           rw [hu2 v, if_pos ⟨h1, h2⟩, hr1])
    · skip
      refine g_iconst (v := nn 1) k133_9 ci_1 ?_
      refine g_breturn k133_10 t133 (by decide) ?_
      first
        | (exact fin σ1 true hs1.ld (by simp [h6]))
        | (refine fin σ2 _ (hs1.ld.tr hs2) ?_
           rw [h6]
           show (!true || td_k0 A 1 e (rM σ False prm)) = _
           unfold td_k0
           rw [if_pos rfl, show 3 * td_ma A e + 3 - 3 * td_ma A e = 3 by omega]
           refine all_congr' 3 _ (fun v h1 h2 => wn_congr ?_)
           rw [hu2 v, if_pos ⟨h1, h2⟩, hr1])
  · skip
    refine g_aload_n k133_0 rfl ?_
    refine g_iload_n k133_1 rfl ?_
    refine g_iload_n k133_2 rfl ?_
    refine m_callV2 k133_3 s133_3 c133_3 l132 (by omega) ⟨rfl, rfl⟩ rfl r133_3 rfl ?_
    refine s_132 hdy ok he hR (fun σ1 hs1 => ?_)
    refine af_ret ?_
    have hR1 := hR.mono hs1.rs
    have hma := (hR1.2.1.2 e he).1
    have hr1 := rM_fi hs1 False prm
    refine g_ifneB k133_6 (t := 11) rfl (fun h6 => ?_) (fun h6 => ?_)
    · skip
      refine g_aload_n k133_11 rfl ?_
      refine m_get k133_12 f133_12 rfl rfl ?_
      refine g_iload_n k133_15 rfl ?_
      refine m_iald k133_16 hdy rfl rfl (by omega) (by omega) ?_
      rw [hma]
      refine g_istore k133_17 rfl rfl ?_
      refine g_iload_n k133_19 rfl ?_
      refine g_iconst (v := nn 1) k133_20 ci_1 ?_
      refine g_icne_t k133_21 (t := 45) rfl (by decide) ?_
      refine g_iload_n k133_45 rfl ?_
      refine g_iconst (v := nn 2) k133_46 ci_2 ?_
      refine g_icne_f k133_47 (t := 80) rfl rfl ?_
      refine g_aload_n k133_50 rfl ?_
      refine g_iload_n k133_51 rfl ?_
      refine g_iload_n k133_52 rfl ?_
      refine m_callV2 k133_53 s133_53 c133_53 l134 (by omega) ⟨rfl, rfl⟩ rfl r133_53 rfl ?_
      refine s_134 hdy ok he hR1 (fun σ2 hs2 hu2 => ?_)
      refine af_void ?_
      have hR2 := hR1.mono hs2.rs
      refine g_aload_n k133_56 rfl ?_
      refine g_iconst (v := nn 0) k133_57 ci_0 ?_
      refine g_iconst (v := nn 3) k133_58 ci_3 ?_
      refine m_callV2 k133_59 s133_59 c133_59 l135 (by omega) ⟨rfl, rfl⟩ rfl r133_59 rfl ?_
      refine s_135 (fr := 0) (to := 3) hdy ok (by omega) (by omega) hR2 ?_
      refine af_ret ?_
      refine g_ifeqB k133_62 (t := 74) rfl (fun h62 => ?_) (fun h62 => ?_)
      · skip
        refine g_iconst (v := nn 1) k133_74 ci_1 ?_
        refine g_goto k133_75 (t := 79) rfl ?_
        refine g_breturn k133_79 t133 (by decide) ?_
        have hm0 := hk2 rfl
        first
          | (exact fin σ1 true hs1.ld (by simp [h6]))
          | (have hrow : ∀ v, v < 3 → σ2 42 v = td_ld A e (rM σ False prm) v := fun v hv => by rw [hu2 v, if_pos (by omega), hr1]
             have ew : (List.range' 0 3).all (td_wn A (td_ld A e (rM σ False prm))) = (List.range' 0 3).all (td_wn A (σ2 42)) := all_congr' 3 0 (fun v h1 h2 => (wn_congr (hrow v (by omega))).symm)
             have eh : td_ho A 0 (td_ld A e (rM σ False prm)) = td_ho A 0 (rM σ2 True (nn 0)) := ho_congr ok (by decide) (fun v hv => by
               have hv : v < 3 := by simpa using hv
               rw [rM_tr (by omega), hrow v hv])
             have ek : td_k0 A 2 e (rM σ False prm) = (!(List.range' 0 3).all (td_wn A (σ2 42)) || td_ho A 0 (rM σ2 True (nn 0))) := by
               unfold td_k0
               rw [if_neg (by decide), if_pos rfl, ew, eh]
             first
               | (refine fin σ3 true ((hs1.ld.tr hs2).tr hs3.ld) ?_
                  rw [ek, h71]
                  simp)
               | (refine fin σ3 false ((hs1.ld.tr hs2).tr hs3.ld) ?_
                  have h62 : (List.range' 0 3).all (td_wn A (σ2 42)) = true := h62
                  rw [ek, h6, h62]
                  simpa using h71)
               | (refine fin σ2 true (hs1.ld.tr hs2) ?_
                  have h62 : ¬ (List.range' 0 3).all (td_wn A (σ2 42)) = true := h62
                  rw [ek]
                  simp only [Bool.not_eq_true] at h62
                  rw [h62]
                  simp))
      · skip
        refine g_aload_n k133_65 rfl ?_
        refine g_iconst (v := nn 0) k133_66 ci_0 ?_
        refine g_iconst (v := nn 1) k133_67 ci_1 ?_
        refine m_callV2 k133_68 s133_68 c133_68 l127 (by omega) ⟨rfl, rfl⟩ rfl r133_68 rfl ?_
        refine s_127 (m := 0) (lt := True) hdy ok (by omega) hR2 rfl (fun σ3 hs3 => ?_)
        refine af_ret ?_
        refine g_ifeqB k133_71 (t := 78) rfl (fun h71 => ?_) (fun h71 => ?_)
        · skip
          refine g_iconst (v := nn 0) k133_78 ci_0 ?_
          refine g_breturn k133_79 t133 (by decide) ?_
          have hm0 := hk2 rfl
          first
            | (exact fin σ1 true hs1.ld (by simp [h6]))
            | (have hrow : ∀ v, v < 3 → σ2 42 v = td_ld A e (rM σ False prm) v := fun v hv => by rw [hu2 v, if_pos (by omega), hr1]
               have ew : (List.range' 0 3).all (td_wn A (td_ld A e (rM σ False prm))) = (List.range' 0 3).all (td_wn A (σ2 42)) := all_congr' 3 0 (fun v h1 h2 => (wn_congr (hrow v (by omega))).symm)
               have eh : td_ho A 0 (td_ld A e (rM σ False prm)) = td_ho A 0 (rM σ2 True (nn 0)) := ho_congr ok (by decide) (fun v hv => by
                 have hv : v < 3 := by simpa using hv
                 rw [rM_tr (by omega), hrow v hv])
               have ek : td_k0 A 2 e (rM σ False prm) = (!(List.range' 0 3).all (td_wn A (σ2 42)) || td_ho A 0 (rM σ2 True (nn 0))) := by
                 unfold td_k0
                 rw [if_neg (by decide), if_pos rfl, ew, eh]
               first
                 | (refine fin σ3 true ((hs1.ld.tr hs2).tr hs3.ld) ?_
                    rw [ek, h71]
                    simp)
                 | (refine fin σ3 false ((hs1.ld.tr hs2).tr hs3.ld) ?_
                    have h62 : (List.range' 0 3).all (td_wn A (σ2 42)) = true := h62
                    rw [ek, h6, h62]
                    simpa using h71)
                 | (refine fin σ2 true (hs1.ld.tr hs2) ?_
                    have h62 : ¬ (List.range' 0 3).all (td_wn A (σ2 42)) = true := h62
                    rw [ek]
                    simp only [Bool.not_eq_true] at h62
                    rw [h62]
                    simp))
        · skip
          refine g_iconst (v := nn 1) k133_74 ci_1 ?_
          refine g_goto k133_75 (t := 79) rfl ?_
          refine g_breturn k133_79 t133 (by decide) ?_
          have hm0 := hk2 rfl
          first
            | (exact fin σ1 true hs1.ld (by simp [h6]))
            | (have hrow : ∀ v, v < 3 → σ2 42 v = td_ld A e (rM σ False prm) v := fun v hv => by rw [hu2 v, if_pos (by omega), hr1]
               have ew : (List.range' 0 3).all (td_wn A (td_ld A e (rM σ False prm))) = (List.range' 0 3).all (td_wn A (σ2 42)) := all_congr' 3 0 (fun v h1 h2 => (wn_congr (hrow v (by omega))).symm)
               have eh : td_ho A 0 (td_ld A e (rM σ False prm)) = td_ho A 0 (rM σ2 True (nn 0)) := ho_congr ok (by decide) (fun v hv => by
                 have hv : v < 3 := by simpa using hv
                 rw [rM_tr (by omega), hrow v hv])
               have ek : td_k0 A 2 e (rM σ False prm) = (!(List.range' 0 3).all (td_wn A (σ2 42)) || td_ho A 0 (rM σ2 True (nn 0))) := by
                 unfold td_k0
                 rw [if_neg (by decide), if_pos rfl, ew, eh]
               first
                 | (refine fin σ3 true ((hs1.ld.tr hs2).tr hs3.ld) ?_
                    rw [ek, h71]
                    simp)
                 | (refine fin σ3 false ((hs1.ld.tr hs2).tr hs3.ld) ?_
                    have h62 : (List.range' 0 3).all (td_wn A (σ2 42)) = true := h62
                    rw [ek, h6, h62]
                    simpa using h71)
                 | (refine fin σ2 true (hs1.ld.tr hs2) ?_
                    have h62 : ¬ (List.range' 0 3).all (td_wn A (σ2 42)) = true := h62
                    rw [ek]
                    simp only [Bool.not_eq_true] at h62
                    rw [h62]
                    simp))
    · skip
      refine g_iconst (v := nn 1) k133_9 ci_1 ?_
      refine g_breturn k133_10 t133 (by decide) ?_
      have hm0 := hk2 rfl
      first
        | (exact fin σ1 true hs1.ld (by simp [h6]))
        | (have hrow : ∀ v, v < 3 → σ2 42 v = td_ld A e (rM σ False prm) v := fun v hv => by rw [hu2 v, if_pos (by omega), hr1]
           have ew : (List.range' 0 3).all (td_wn A (td_ld A e (rM σ False prm))) = (List.range' 0 3).all (td_wn A (σ2 42)) := all_congr' 3 0 (fun v h1 h2 => (wn_congr (hrow v (by omega))).symm)
           have eh : td_ho A 0 (td_ld A e (rM σ False prm)) = td_ho A 0 (rM σ2 True (nn 0)) := ho_congr ok (by decide) (fun v hv => by
             have hv : v < 3 := by simpa using hv
             rw [rM_tr (by omega), hrow v hv])
           have ek : td_k0 A 2 e (rM σ False prm) = (!(List.range' 0 3).all (td_wn A (σ2 42)) || td_ho A 0 (rM σ2 True (nn 0))) := by
             unfold td_k0
             rw [if_neg (by decide), if_pos rfl, ew, eh]
           first
             | (refine fin σ3 true ((hs1.ld.tr hs2).tr hs3.ld) ?_
                rw [ek, h71]
                simp)
             | (refine fin σ3 false ((hs1.ld.tr hs2).tr hs3.ld) ?_
                have h62 : (List.range' 0 3).all (td_wn A (σ2 42)) = true := h62
                rw [ek, h6, h62]
                simpa using h71)
             | (refine fin σ2 true (hs1.ld.tr hs2) ?_
                have h62 : ¬ (List.range' 0 3).all (td_wn A (σ2 42)) = true := h62
                rw [ek]
                simp only [Bool.not_eq_true] at h62
                rw [h62]
                simp))
  · skip
    refine g_aload_n k133_0 rfl ?_
    refine g_iload_n k133_1 rfl ?_
    refine g_iload_n k133_2 rfl ?_
    refine m_callV2 k133_3 s133_3 c133_3 l132 (by omega) ⟨rfl, rfl⟩ rfl r133_3 rfl ?_
    refine s_132 hdy ok he hR (fun σ1 hs1 => ?_)
    refine af_ret ?_
    have hR1 := hR.mono hs1.rs
    have hma := (hR1.2.1.2 e he).1
    have hr1 := rM_fi hs1 False prm
    refine g_ifneB k133_6 (t := 11) rfl (fun h6 => ?_) (fun h6 => ?_)
    · skip
      refine g_aload_n k133_11 rfl ?_
      refine m_get k133_12 f133_12 rfl rfl ?_
      refine g_iload_n k133_15 rfl ?_
      refine m_iald k133_16 hdy rfl rfl (by omega) (by omega) ?_
      rw [hma]
      refine g_istore k133_17 rfl rfl ?_
      refine g_iload_n k133_19 rfl ?_
      refine g_iconst (v := nn 1) k133_20 ci_1 ?_
      refine g_icne_t k133_21 (t := 45) rfl (by decide) ?_
      refine g_iload_n k133_45 rfl ?_
      refine g_iconst (v := nn 2) k133_46 ci_2 ?_
      refine g_icne_t k133_47 (t := 80) rfl (by decide) ?_
      refine g_iload_n k133_80 rfl ?_
      refine g_iconst (v := nn 4) k133_81 ci_4 ?_
      refine g_icne_t k133_82 (t := 92) rfl (by decide) ?_
      refine g_aload_n k133_92 rfl ?_
      refine g_iload_n k133_93 rfl ?_
      refine g_iload_n k133_94 rfl ?_
      refine m_callV2 k133_95 s133_95 c133_95 l138 (by omega) ⟨rfl, rfl⟩ rfl r133_95 rfl ?_
      refine s_138 hdy ok he hR1 (fun σ2 hs2 hu2 => ?_)
      refine af_ret ?_
      have hR2 := hR1.mono hs2.rs
      rw [hr1] at hu2 ⊢
      refine g_istore k133_98 rfl rfl ?_
      refine g_iload_n k133_100 rfl ?_
      refine g_iconst (v := nn 3) k133_101 ci_3 ?_
      refine g_icne_f k133_102 (t := 124) rfl rfl ?_
      refine g_iload k133_105 rfl ?_
      refine g_ifeqB k133_107 (t := 118) rfl (fun h107 => ?_) (fun h107 => ?_)
      · skip
        refine g_iconst (v := nn 1) k133_118 ci_1 ?_
        refine g_goto k133_119 (t := 123) rfl ?_
        refine g_breturn k133_123 t133 (by decide) ?_
        first
          | (exact fin σ1 true hs1.ld (by simp [h6]))
          | (have eh : td_ri A (td_bo A e (rM σ False prm)) = td_ri A (rM σ2 True (nn 0)) := ri_congr ok (fun v hv => by rw [rM_tr hv, hu2 v hv])
             have ek : td_k0 A 3 e (rM σ False prm) = (!td_bs A e (rM σ False prm) || td_ri A (rM σ2 True (nn 0))) := by
               unfold td_k0
               rw [if_neg (by decide), if_neg (by decide), if_pos rfl]
               rw [eh]
             first
               | (refine fin σ3 true ((hs1.ld.tr hs2).tr hs3.ld) ?_
                  rw [ek, h115]
                  simp)
               | (refine fin σ3 false ((hs1.ld.tr hs2).tr hs3.ld) ?_
                  rw [ek, h6, h107]
                  simpa using h115)
               | (refine fin σ2 true (hs1.ld.tr hs2) ?_
                  rw [ek]
                  simp only [Bool.not_eq_true] at h107
                  rw [h107]
                  simp))
      · skip
        refine g_aload_n k133_110 rfl ?_
        refine g_iconst (v := nn 1) k133_111 ci_1 ?_
        refine m_callV1 k133_112 s133_112 c133_112 l126 (by omega) rfl rfl r133_112 rfl ?_
        refine s_126 (lt := True) hdy ok hR2 rfl (fun σ3 hs3 => ?_)
        refine af_ret ?_
        refine g_ifeqB k133_115 (t := 122) rfl (fun h115 => ?_) (fun h115 => ?_)
        · skip
          refine g_iconst (v := nn 0) k133_122 ci_0 ?_
          refine g_breturn k133_123 t133 (by decide) ?_
          first
            | (exact fin σ1 true hs1.ld (by simp [h6]))
            | (have eh : td_ri A (td_bo A e (rM σ False prm)) = td_ri A (rM σ2 True (nn 0)) := ri_congr ok (fun v hv => by rw [rM_tr hv, hu2 v hv])
               have ek : td_k0 A 3 e (rM σ False prm) = (!td_bs A e (rM σ False prm) || td_ri A (rM σ2 True (nn 0))) := by
                 unfold td_k0
                 rw [if_neg (by decide), if_neg (by decide), if_pos rfl]
                 rw [eh]
               first
                 | (refine fin σ3 true ((hs1.ld.tr hs2).tr hs3.ld) ?_
                    rw [ek, h115]
                    simp)
                 | (refine fin σ3 false ((hs1.ld.tr hs2).tr hs3.ld) ?_
                    rw [ek, h6, h107]
                    simpa using h115)
                 | (refine fin σ2 true (hs1.ld.tr hs2) ?_
                    rw [ek]
                    simp only [Bool.not_eq_true] at h107
                    rw [h107]
                    simp))
        · skip
          refine g_iconst (v := nn 1) k133_118 ci_1 ?_
          refine g_goto k133_119 (t := 123) rfl ?_
          refine g_breturn k133_123 t133 (by decide) ?_
          first
            | (exact fin σ1 true hs1.ld (by simp [h6]))
            | (have eh : td_ri A (td_bo A e (rM σ False prm)) = td_ri A (rM σ2 True (nn 0)) := ri_congr ok (fun v hv => by rw [rM_tr hv, hu2 v hv])
               have ek : td_k0 A 3 e (rM σ False prm) = (!td_bs A e (rM σ False prm) || td_ri A (rM σ2 True (nn 0))) := by
                 unfold td_k0
                 rw [if_neg (by decide), if_neg (by decide), if_pos rfl]
                 rw [eh]
               first
                 | (refine fin σ3 true ((hs1.ld.tr hs2).tr hs3.ld) ?_
                    rw [ek, h115]
                    simp)
                 | (refine fin σ3 false ((hs1.ld.tr hs2).tr hs3.ld) ?_
                    rw [ek, h6, h107]
                    simpa using h115)
                 | (refine fin σ2 true (hs1.ld.tr hs2) ?_
                    rw [ek]
                    simp only [Bool.not_eq_true] at h107
                    rw [h107]
                    simp))
    · skip
      refine g_iconst (v := nn 1) k133_9 ci_1 ?_
      refine g_breturn k133_10 t133 (by decide) ?_
      first
        | (exact fin σ1 true hs1.ld (by simp [h6]))
        | (have eh : td_ri A (td_bo A e (rM σ False prm)) = td_ri A (rM σ2 True (nn 0)) := ri_congr ok (fun v hv => by rw [rM_tr hv, hu2 v hv])
           have ek : td_k0 A 3 e (rM σ False prm) = (!td_bs A e (rM σ False prm) || td_ri A (rM σ2 True (nn 0))) := by
             unfold td_k0
             rw [if_neg (by decide), if_neg (by decide), if_pos rfl]
             rw [eh]
           first
             | (refine fin σ3 true ((hs1.ld.tr hs2).tr hs3.ld) ?_
                rw [ek, h115]
                simp)
             | (refine fin σ3 false ((hs1.ld.tr hs2).tr hs3.ld) ?_
                rw [ek, h6, h107]
                simpa using h115)
             | (refine fin σ2 true (hs1.ld.tr hs2) ?_
                rw [ek]
                simp only [Bool.not_eq_true] at h107
                rw [h107]
                simp))
  · skip
    refine g_aload_n k133_0 rfl ?_
    refine g_iload_n k133_1 rfl ?_
    refine g_iload_n k133_2 rfl ?_
    refine m_callV2 k133_3 s133_3 c133_3 l132 (by omega) ⟨rfl, rfl⟩ rfl r133_3 rfl ?_
    refine s_132 hdy ok he hR (fun σ1 hs1 => ?_)
    refine af_ret ?_
    have hR1 := hR.mono hs1.rs
    have hma := (hR1.2.1.2 e he).1
    have hr1 := rM_fi hs1 False prm
    refine g_ifneB k133_6 (t := 11) rfl (fun h6 => ?_) (fun h6 => ?_)
    · skip
      refine g_aload_n k133_11 rfl ?_
      refine m_get k133_12 f133_12 rfl rfl ?_
      refine g_iload_n k133_15 rfl ?_
      refine m_iald k133_16 hdy rfl rfl (by omega) (by omega) ?_
      rw [hma]
      refine g_istore k133_17 rfl rfl ?_
      refine g_iload_n k133_19 rfl ?_
      refine g_iconst (v := nn 1) k133_20 ci_1 ?_
      refine g_icne_t k133_21 (t := 45) rfl (by decide) ?_
      refine g_iload_n k133_45 rfl ?_
      refine g_iconst (v := nn 2) k133_46 ci_2 ?_
      refine g_icne_t k133_47 (t := 80) rfl (by decide) ?_
      refine g_iload_n k133_80 rfl ?_
      refine g_iconst (v := nn 4) k133_81 ci_4 ?_
      refine g_icne_f k133_82 (t := 92) rfl rfl ?_
      refine g_aload_n k133_85 rfl ?_
      refine g_iload_n k133_86 rfl ?_
      refine g_iload_n k133_87 rfl ?_
      refine m_callV2 k133_88 s133_88 c133_88 l136 (by omega) ⟨rfl, rfl⟩ rfl r133_88 rfl ?_
      refine s_136 hdy ok he hR1 (fun σ2 hs2 => ?_)
      refine af_ret ?_
      rw [hr1]
      refine g_breturnB k133_91 t133 ?_
      first
        | (exact fin σ1 true hs1.ld (by simp [h6]))
        | (refine fin σ2 _ (hs1.tr hs2).ld ?_
           rw [h6]
           show (!true || td_k0 A 4 e (rM σ False prm)) = _
           unfold td_k0
           rw [if_neg (by decide), if_neg (by decide), if_neg (by decide), if_pos rfl]
           rfl)
    · skip
      refine g_iconst (v := nn 1) k133_9 ci_1 ?_
      refine g_breturn k133_10 t133 (by decide) ?_
      first
        | (exact fin σ1 true hs1.ld (by simp [h6]))
        | (refine fin σ2 _ (hs1.tr hs2).ld ?_
           rw [h6]
           show (!true || td_k0 A 4 e (rM σ False prm)) = _
           unfold td_k0
           rw [if_neg (by decide), if_neg (by decide), if_neg (by decide), if_pos rfl]
           rfl)
  · skip
    have hvr := hR.2.2.2.2.1
    have hva0 := ok.2.2.2.2.2.2.1
    have hnf := ok.1
    cases hc : td_vr A with
    | none =>
      rw [hc, oi_none] at hvr
      have hva : ∀ r, td_va A r = nn 0 := fun r => by
        unfold td_va
        rw [hc]
      have ek : td_k0 A 5 e (rM σ False prm) = !td_bs A e (rM σ False prm) := by
        unfold td_k0
        rw [if_neg (by decide), if_neg (by decide), if_neg (by decide), if_neg (by decide), hva, hva, ti_0]
        simp
      refine g_aload_n k133_0 rfl ?_
      refine g_iload_n k133_1 rfl ?_
      refine g_iload_n k133_2 rfl ?_
      refine m_callV2 k133_3 s133_3 c133_3 l132 (by omega) ⟨rfl, rfl⟩ rfl r133_3 rfl ?_
      refine s_132 hdy ok he hR (fun σ1 hs1 => ?_)
      refine af_ret ?_
      have hR1 := hR.mono hs1.rs
      have hma := (hR1.2.1.2 e he).1
      have hr1 := rM_fi hs1 False prm
      refine g_ifneB k133_6 (t := 11) rfl (fun h6 => ?_) (fun h6 => ?_)
      · skip
        refine g_aload_n k133_11 rfl ?_
        refine m_get k133_12 f133_12 rfl rfl ?_
        refine g_iload_n k133_15 rfl ?_
        refine m_iald k133_16 hdy rfl rfl (by omega) (by omega) ?_
        rw [hma]
        refine g_istore k133_17 rfl rfl ?_
        refine g_iload_n k133_19 rfl ?_
        refine g_iconst (v := nn 1) k133_20 ci_1 ?_
        refine g_icne_t k133_21 (t := 45) rfl (by decide) ?_
        refine g_iload_n k133_45 rfl ?_
        refine g_iconst (v := nn 2) k133_46 ci_2 ?_
        refine g_icne_t k133_47 (t := 80) rfl (by decide) ?_
        refine g_iload_n k133_80 rfl ?_
        refine g_iconst (v := nn 4) k133_81 ci_4 ?_
        refine g_icne_t k133_82 (t := 92) rfl (by decide) ?_
        refine g_aload_n k133_92 rfl ?_
        refine g_iload_n k133_93 rfl ?_
        refine g_iload_n k133_94 rfl ?_
        refine m_callV2 k133_95 s133_95 c133_95 l138 (by omega) ⟨rfl, rfl⟩ rfl r133_95 rfl ?_
        refine s_138 hdy ok he hR1 (fun σ2 hs2 hu2 => ?_)
        refine af_ret ?_
        have hR2 := hR1.mono hs2.rs
        rw [hr1] at hu2 ⊢
        have hv2 : σ2 24 20 = -1 := (hs2 24 20 (by decide) (by decide) (Or.inr (by decide))).trans ((hs1 24 20 (by decide) (Or.inr (by decide))).trans hvr)
        refine g_istore k133_98 rfl rfl ?_
        refine g_iload_n k133_100 rfl ?_
        refine g_iconst (v := nn 3) k133_101 ci_3 ?_
        refine g_icne_t k133_102 (t := 124) rfl (by decide) ?_
        refine g_aload_n k133_124 rfl ?_
        refine m_get k133_125 f133_125 rfl rfl ?_
        rw [hv2]
        refine g_iconst (v := -1) k133_128 ci_m1 ?_
        refine g_icne_f k133_129 (t := 136) rfl rfl ?_
        refine g_iconst (v := nn 0) k133_132 ci_0 ?_
        refine g_goto k133_133 (t := 146) rfl ?_
        refine g_istore k133_146 rfl rfl ?_
        refine g_aload_n k133_148 rfl ?_
        refine m_get k133_149 f133_149 rfl rfl ?_
        rw [hv2]
        refine g_iconst (v := -1) k133_152 ci_m1 ?_
        refine g_icne_f k133_153 (t := 160) rfl rfl ?_
        refine g_iconst (v := nn 0) k133_156 ci_0 ?_
        refine g_goto k133_157 (t := 170) rfl ?_
        refine g_istore k133_170 rfl rfl ?_
        refine g_iload k133_172 rfl ?_
        refine g_ifltN (t := 193) k133_174 rfl (by omega) ?_
        refine g_iload k133_177 rfl ?_
        refine g_ifeqB k133_179 (t := 189) rfl (fun h179 => ?_) (fun h179 => ?_)
        · skip
          refine g_iconst (v := nn 1) k133_189 ci_1 ?_
          refine g_goto k133_190 (t := 194) rfl ?_
          refine g_breturn k133_194 t133 (by decide) ?_
          first
            | (exact fin σ1 true hs1.ld (by simp [h6]))
            | (exfalso
               omega)
            | (refine fin σ2 false (hs1.ld.tr hs2) ?_
               rw [ek, h6, h179]
               rfl)
            | (refine fin σ2 true (hs1.ld.tr hs2) ?_
               rw [ek]
               simp only [Bool.not_eq_true] at h179
               rw [h179]
               simp)
        · skip
          refine g_iload k133_182 rfl ?_
          refine g_iload k133_184 rfl ?_
          refine g_icgeN k133_186 (t := 193) rfl ⟨by omega, by omega⟩ (fun h186 => ?_) (fun h186 => ?_)
          · skip
            refine g_iconst (v := nn 0) k133_193 ci_0 ?_
            refine g_breturn k133_194 t133 (by decide) ?_
            first
              | (exact fin σ1 true hs1.ld (by simp [h6]))
              | (exfalso
                 omega)
              | (refine fin σ2 false (hs1.ld.tr hs2) ?_
                 rw [ek, h6, h179]
                 rfl)
              | (refine fin σ2 true (hs1.ld.tr hs2) ?_
                 rw [ek]
                 simp only [Bool.not_eq_true] at h179
                 rw [h179]
                 simp)
          · skip
            refine g_iconst (v := nn 1) k133_189 ci_1 ?_
            refine g_goto k133_190 (t := 194) rfl ?_
            refine g_breturn k133_194 t133 (by decide) ?_
            first
              | (exact fin σ1 true hs1.ld (by simp [h6]))
              | (exfalso
                 omega)
              | (refine fin σ2 false (hs1.ld.tr hs2) ?_
                 rw [ek, h6, h179]
                 rfl)
              | (refine fin σ2 true (hs1.ld.tr hs2) ?_
                 rw [ek]
                 simp only [Bool.not_eq_true] at h179
                 rw [h179]
                 simp)
      · skip
        refine g_iconst (v := nn 1) k133_9 ci_1 ?_
        refine g_breturn k133_10 t133 (by decide) ?_
        first
          | (exact fin σ1 true hs1.ld (by simp [h6]))
          | (exfalso
             omega)
          | (refine fin σ2 false (hs1.ld.tr hs2) ?_
             rw [ek, h6, h179]
             rfl)
          | (refine fin σ2 true (hs1.ld.tr hs2) ?_
             rw [ek]
             simp only [Bool.not_eq_true] at h179
             rw [h179]
             simp)
    | some f =>
      rw [hc, oi_some] at hvr
      have hf := (hva0 f hc).1
      have hva : ∀ r, td_va A r = ev A f r := fun r => by
        unfold td_va
        rw [hc]
      have ek : td_k0 A 5 e (rM σ False prm) = (decide (0 ≤ (ev A f (rM σ False prm)).toInt) && (!td_bs A e (rM σ False prm) || decide ((ev A f (td_bo A e (rM σ False prm))).toInt < (ev A f (rM σ False prm)).toInt))) := by
        unfold td_k0
        rw [if_neg (by decide), if_neg (by decide), if_neg (by decide), if_neg (by decide), hva, hva]
      refine g_aload_n k133_0 rfl ?_
      refine g_iload_n k133_1 rfl ?_
      refine g_iload_n k133_2 rfl ?_
      refine m_callV2 k133_3 s133_3 c133_3 l132 (by omega) ⟨rfl, rfl⟩ rfl r133_3 rfl ?_
      refine s_132 hdy ok he hR (fun σ1 hs1 => ?_)
      refine af_ret ?_
      have hR1 := hR.mono hs1.rs
      have hma := (hR1.2.1.2 e he).1
      have hr1 := rM_fi hs1 False prm
      refine g_ifneB k133_6 (t := 11) rfl (fun h6 => ?_) (fun h6 => ?_)
      · skip
        refine g_aload_n k133_11 rfl ?_
        refine m_get k133_12 f133_12 rfl rfl ?_
        refine g_iload_n k133_15 rfl ?_
        refine m_iald k133_16 hdy rfl rfl (by omega) (by omega) ?_
        rw [hma]
        refine g_istore k133_17 rfl rfl ?_
        refine g_iload_n k133_19 rfl ?_
        refine g_iconst (v := nn 1) k133_20 ci_1 ?_
        refine g_icne_t k133_21 (t := 45) rfl (by decide) ?_
        refine g_iload_n k133_45 rfl ?_
        refine g_iconst (v := nn 2) k133_46 ci_2 ?_
        refine g_icne_t k133_47 (t := 80) rfl (by decide) ?_
        refine g_iload_n k133_80 rfl ?_
        refine g_iconst (v := nn 4) k133_81 ci_4 ?_
        refine g_icne_t k133_82 (t := 92) rfl (by decide) ?_
        refine g_aload_n k133_92 rfl ?_
        refine g_iload_n k133_93 rfl ?_
        refine g_iload_n k133_94 rfl ?_
        refine m_callV2 k133_95 s133_95 c133_95 l138 (by omega) ⟨rfl, rfl⟩ rfl r133_95 rfl ?_
        refine s_138 hdy ok he hR1 (fun σ2 hs2 hu2 => ?_)
        refine af_ret ?_
        have hR2 := hR1.mono hs2.rs
        rw [hr1] at hu2 ⊢
        have hv2 : σ2 24 20 = nn f := (hs2 24 20 (by decide) (by decide) (Or.inr (by decide))).trans ((hs1 24 20 (by decide) (Or.inr (by decide))).trans hvr)
        refine g_istore k133_98 rfl rfl ?_
        refine g_iload_n k133_100 rfl ?_
        refine g_iconst (v := nn 3) k133_101 ci_3 ?_
        refine g_icne_t k133_102 (t := 124) rfl (by decide) ?_
        refine g_aload_n k133_124 rfl ?_
        refine m_get k133_125 f133_125 rfl rfl ?_
        rw [hv2]
        refine g_iconst (v := -1) k133_128 ci_m1 ?_
        refine g_icne_t k133_129 (t := 136) rfl (fun q => ti_nn_m1 (k := f) (by omega) (congrArg Int32.toInt q)) ?_
        refine g_aload_n k133_136 rfl ?_
        refine g_aload_n k133_137 rfl ?_
        refine m_get k133_138 f133_138 rfl rfl ?_
        rw [hv2]
        refine g_iconst (v := nn 0) k133_141 ci_0 ?_
        refine g_iconst (v := nn 0) k133_142 ci_0 ?_
        refine m_callV3 k133_143 s133_143 c133_143 l128 (by omega) ⟨rfl, rfl, rfl⟩ rfl r133_143 rfl ?_
        refine s_128 (lt := False) hdy ok hR2 hf rfl (fun σ3 hs3 => ?_)
        refine af_ret ?_
        have hv3 : σ3 24 20 = nn f := (hs3 24 20 (by decide) (Or.inr (by decide))).trans hv2
        have hR3 := hR2.mono hs3.rs
        have e5 : ev A f (rM σ2 False (nn 0)) = ev A f (rM σ False prm) := by
          have q := va_congr ok (r1 := rM σ2 False (nn 0)) (r2 := rM σ False prm) (fun v hv => by rw [rM_ld hs2, rM_fi hs1]; exact rM_lt hv)
          rw [hva, hva] at q
          exact q
        rw [e5]
        refine g_istore k133_146 rfl rfl ?_
        refine g_aload_n k133_148 rfl ?_
        refine m_get k133_149 f133_149 rfl rfl ?_
        rw [hv3]
        refine g_iconst (v := -1) k133_152 ci_m1 ?_
        refine g_icne_t k133_153 (t := 160) rfl (fun q => ti_nn_m1 (k := f) (by omega) (congrArg Int32.toInt q)) ?_
        refine g_aload_n k133_160 rfl ?_
        refine g_aload_n k133_161 rfl ?_
        refine m_get k133_162 f133_162 rfl rfl ?_
        rw [hv3]
        refine g_iconst (v := nn 1) k133_165 ci_1 ?_
        refine g_iconst (v := nn 0) k133_166 ci_0 ?_
        refine m_callV3 k133_167 s133_167 c133_167 l128 (by omega) ⟨rfl, rfl, rfl⟩ rfl r133_167 rfl ?_
        refine s_128 (lt := True) hdy ok hR3 hf rfl (fun σ4 hs4 => ?_)
        refine af_ret ?_
        have e6 : ev A f (rM σ3 True (nn 0)) = ev A f (td_bo A e (rM σ False prm)) := by
          have q := va_congr ok (r1 := rM σ3 True (nn 0)) (r2 := td_bo A e (rM σ False prm)) (fun v hv => by rw [rM_fi hs3, rM_tr hv, hu2 v hv])
          rw [hva, hva] at q
          exact q
        rw [e6]
        refine g_istore k133_170 rfl rfl ?_
        refine g_iload k133_172 rfl ?_
        refine g_iflt k133_174 (t := 193) rfl (fun h174 => ?_) (fun h174 => ?_)
        · skip
          refine g_iconst (v := nn 0) k133_193 ci_0 ?_
          refine g_breturn k133_194 t133 (by decide) ?_
          first
            | (exact fin σ1 true hs1.ld (by simp [h6]))
            | (refine fin σ4 true (((hs1.ld.tr hs2).tr hs3.ld).tr hs4.ld) ?_
               rw [ek, decide_eq_true h174, decide_eq_true h186]
               simp)
            | (refine fin σ4 true (((hs1.ld.tr hs2).tr hs3.ld).tr hs4.ld) ?_
               simp only [Bool.not_eq_true] at h179
               rw [ek, decide_eq_true h174, h179]
               simp)
            | (refine fin σ4 false (((hs1.ld.tr hs2).tr hs3.ld).tr hs4.ld) ?_
               rw [ek, h6, h179, decide_eq_false (by omega : ¬ (ev A f (td_bo A e (rM σ False prm))).toInt < (ev A f (rM σ False prm)).toInt)]
               simp)
            | (refine fin σ4 false (((hs1.ld.tr hs2).tr hs3.ld).tr hs4.ld) ?_
               rw [ek, h6, decide_eq_false (by omega : ¬ 0 ≤ (ev A f (rM σ False prm)).toInt)]
               rfl)
        · skip
          refine g_iload k133_177 rfl ?_
          refine g_ifeqB k133_179 (t := 189) rfl (fun h179 => ?_) (fun h179 => ?_)
          · skip
            refine g_iconst (v := nn 1) k133_189 ci_1 ?_
            refine g_goto k133_190 (t := 194) rfl ?_
            refine g_breturn k133_194 t133 (by decide) ?_
            first
              | (exact fin σ1 true hs1.ld (by simp [h6]))
              | (refine fin σ4 true (((hs1.ld.tr hs2).tr hs3.ld).tr hs4.ld) ?_
                 rw [ek, decide_eq_true h174, decide_eq_true h186]
                 simp)
              | (refine fin σ4 true (((hs1.ld.tr hs2).tr hs3.ld).tr hs4.ld) ?_
                 simp only [Bool.not_eq_true] at h179
                 rw [ek, decide_eq_true h174, h179]
                 simp)
              | (refine fin σ4 false (((hs1.ld.tr hs2).tr hs3.ld).tr hs4.ld) ?_
                 rw [ek, h6, h179, decide_eq_false (by omega : ¬ (ev A f (td_bo A e (rM σ False prm))).toInt < (ev A f (rM σ False prm)).toInt)]
                 simp)
              | (refine fin σ4 false (((hs1.ld.tr hs2).tr hs3.ld).tr hs4.ld) ?_
                 rw [ek, h6, decide_eq_false (by omega : ¬ 0 ≤ (ev A f (rM σ False prm)).toInt)]
                 rfl)
          · skip
            refine g_iload k133_182 rfl ?_
            refine g_iload k133_184 rfl ?_
            refine g_icge k133_186 (t := 193) rfl (fun h186 => ?_) (fun h186 => ?_)
            · skip
              refine g_iconst (v := nn 0) k133_193 ci_0 ?_
              refine g_breturn k133_194 t133 (by decide) ?_
              first
                | (exact fin σ1 true hs1.ld (by simp [h6]))
                | (refine fin σ4 true (((hs1.ld.tr hs2).tr hs3.ld).tr hs4.ld) ?_
                   rw [ek, decide_eq_true h174, decide_eq_true h186]
                   simp)
                | (refine fin σ4 true (((hs1.ld.tr hs2).tr hs3.ld).tr hs4.ld) ?_
                   simp only [Bool.not_eq_true] at h179
                   rw [ek, decide_eq_true h174, h179]
                   simp)
                | (refine fin σ4 false (((hs1.ld.tr hs2).tr hs3.ld).tr hs4.ld) ?_
                   rw [ek, h6, h179, decide_eq_false (by omega : ¬ (ev A f (td_bo A e (rM σ False prm))).toInt < (ev A f (rM σ False prm)).toInt)]
                   simp)
                | (refine fin σ4 false (((hs1.ld.tr hs2).tr hs3.ld).tr hs4.ld) ?_
                   rw [ek, h6, decide_eq_false (by omega : ¬ 0 ≤ (ev A f (rM σ False prm)).toInt)]
                   rfl)
            · skip
              refine g_iconst (v := nn 1) k133_189 ci_1 ?_
              refine g_goto k133_190 (t := 194) rfl ?_
              refine g_breturn k133_194 t133 (by decide) ?_
              first
                | (exact fin σ1 true hs1.ld (by simp [h6]))
                | (refine fin σ4 true (((hs1.ld.tr hs2).tr hs3.ld).tr hs4.ld) ?_
                   rw [ek, decide_eq_true h174, decide_eq_true h186]
                   simp)
                | (refine fin σ4 true (((hs1.ld.tr hs2).tr hs3.ld).tr hs4.ld) ?_
                   simp only [Bool.not_eq_true] at h179
                   rw [ek, decide_eq_true h174, h179]
                   simp)
                | (refine fin σ4 false (((hs1.ld.tr hs2).tr hs3.ld).tr hs4.ld) ?_
                   rw [ek, h6, h179, decide_eq_false (by omega : ¬ (ev A f (td_bo A e (rM σ False prm))).toInt < (ev A f (rM σ False prm)).toInt)]
                   simp)
                | (refine fin σ4 false (((hs1.ld.tr hs2).tr hs3.ld).tr hs4.ld) ?_
                   rw [ek, h6, decide_eq_false (by omega : ¬ 0 ≤ (ev A f (rM σ False prm)).toInt)]
                   rfl)
      · skip
        refine g_iconst (v := nn 1) k133_9 ci_1 ?_
        refine g_breturn k133_10 t133 (by decide) ?_
        first
          | (exact fin σ1 true hs1.ld (by simp [h6]))
          | (refine fin σ4 true (((hs1.ld.tr hs2).tr hs3.ld).tr hs4.ld) ?_
             rw [ek, decide_eq_true h174, decide_eq_true h186]
             simp)
          | (refine fin σ4 true (((hs1.ld.tr hs2).tr hs3.ld).tr hs4.ld) ?_
             simp only [Bool.not_eq_true] at h179
             rw [ek, decide_eq_true h174, h179]
             simp)
          | (refine fin σ4 false (((hs1.ld.tr hs2).tr hs3.ld).tr hs4.ld) ?_
             rw [ek, h6, h179, decide_eq_false (by omega : ¬ (ev A f (td_bo A e (rM σ False prm))).toInt < (ev A f (rM σ False prm)).toInt)]
             simp)
          | (refine fin σ4 false (((hs1.ld.tr hs2).tr hs3.ld).tr hs4.ld) ?_
             rw [ek, h6, decide_eq_false (by omega : ¬ 0 ≤ (ev A f (rM σ False prm)).toInt)]
             rfl)
end LC
