/-! The reference: duties in all states. -/
section LG
variable {L : Nat} {xs : Nat → Int32} {Q : am_A → am_H → Prop} {dy : List (Nat × Nat)} {σ : Nat → Nat → Int32} {ρ : Nat → Nat → Option Nat} {τ : Nat → Nat → Int64} {A : TD} {e kd p : Nat} {d : Nat → Nat}
/-- the row of a state and a parameter -/
def rd (d : Nat → Nat) (p : Nat) : Nat → Int32 := fun v => if v = 6 then nn p else nn (d v)
theorem rd_ag (hd : ∀ v, v < 6 → σ 41 v = nn (d v)) : ag (fun _ => true) (rM σ False (nn p)) (rd d p) := by
  intro v hv _
  unfold rM rd
  by_cases h6 : v = 6
  · rw [if_pos h6, if_pos h6]
  · rw [if_neg h6, if_neg h6, if_neg (by simp)]
    exact hd v (by omega)
theorem rd_ir (ok : TOK A) (hb : ∀ v, v < 6 → d v < td_sz A v) : td_ir A (rd d p) := by
  intro v hv
  have h4 := ok.2.2.2.2.2.2.2 v hv
  have h1 := hb v hv
  unfold td_wn rd
  rw [if_neg (by omega), nn_toInt (by omega)]
  exact decide_eq_true (by omega)
theorem rM_ir (ok : TOK A) (hd : ∀ v, v < 6 → σ 41 v = nn (d v)) (hb : ∀ v, v < 6 → d v < td_sz A v) : td_ir A (rM σ False (nn p)) := by
  intro v hv
  rw [wn_congr (rd_ag (p := p) hd v (by omega) rfl)]
  exact rd_ir ok hb v hv
theorem rd_kp (ok : TOK A) (he : e < td_ne A) (hk : td_hk A kd e) (hd : ∀ v, v < 6 → σ 41 v = nn (d v)) (hb : ∀ v, v < 6 → d v < td_sz A v) : td_kp A kd e (rM σ False (nn p)) = td_kp A kd e (rd d p) :=
  kp_ag (M := fun _ => true) ok he hk (fun _ _ => rfl) (rd_ag hd) (rM_ir ok hd hb) (rd_ir ok hb)
theorem rd_ho {m : Nat} (ok : TOK A) (hm : m < 2) (hd : ∀ v, v < 6 → σ 41 v = nn (d v)) : td_ho A m (rM σ False (nn 0)) = td_ho A m (rd d 0) :=
  ho_ag (M := fun _ => true) ok hm (fun _ _ => rfl) (rd_ag hd)
theorem rd_ri (ok : TOK A) (hd : ∀ v, v < 6 → σ 41 v = nn (d v)) : td_ri A (rM σ False (nn 0)) = td_ri A (rd d 0) := by
  unfold td_ri
  rw [rd_ho ok (by decide) hd, rd_ho ok (by decide) hd]
theorem ld_41 {σ' : Nat → Nat → Int32} (h : ld_S σ σ') (hd : ∀ v, v < 6 → σ 41 v = nn (d v)) : ∀ v, v < 6 → σ' 41 v = nn (d v) := fun v hv => by
  rw [h 41 v (by decide) (by decide) (Or.inl (by decide))]
  exact hd v hv
/-- the state is right, as far as an event's machine goes -/
def td_rt (A : TD) (up : Bool) (d : Nat → Nat) : Bool := if up = true then td_ho A 0 (rd d 0) else td_ri A (rd d 0)
/-- the first parameter that breaks a duty in a state -/
def td_bp (A : TD) (kd e : Nat) (up : Bool) (d : Nat → Nat) : Option Nat := if td_rt A up d = true then (List.range (td_rg A e)).find? (fun p => !td_kp A kd e (rd d p)) else none
theorem s_125P {up rt : Bool} (hdy : dy.length < 100000) (ok : TOK A) (he : e < td_ne A) (hk : td_hk A kd e) (hk5 : 1 ≤ kd ∧ kd ≤ 5) (hb : ∀ v, v < 6 → d v < td_sz A v) : ∀ (k p : Nat) {σ : Nat → Nat → Int32} {Q : am_A → am_H → Prop}, p + k = td_rg A e → RepM A σ → (∀ v, v < 6 → σ 41 v = nn (d v)) →
    (∀ σ' l6, ld_S σ σ' → (List.range' p k).find? (fun p => !td_kp A kd e (rd d p)) = none → go (tb_P L xs) 125 168 [some (.ref 24), some (.int (nn kd)), some (.int (nn e)), some (.int (bb (up = true))), some (.int (nn 1)), some (.int (nn 1)), l6] [] (mk dy σ' ρ τ) Q) →
    (∀ σ' q, ld_S σ σ' → (List.range' p k).find? (fun p => !td_kp A kd e (rd d p)) = some q → Q (.inl (some (.int (nn 0)))) (mk dy (up2 σ' 24 32 (nn q)) ρ τ)) →
    go (tb_P L xs) 125 121 [some (.ref 24), some (.int (nn kd)), some (.int (nn e)), some (.int (bb (up = true))), some (.int (nn 1)), some (.int (nn 1)), some (.int (nn p))] [] (mk dy σ ρ τ) Q := by
  intro k
  induction k with
  | zero =>
    intro p σ Q hp hR hd kk kf
    have hne := ok.2.2.1
    have hrg := (hR.2.1.2 e he).2.1
    have hr4 := (ok.2.2.2.1 e he).2.1
    refine g_iload k125_121 rfl ?_
    refine g_ifeq_f k125_123 (t := 168) rfl (by decide) ?_
    refine g_iload_n k125_126 rfl ?_
    refine g_bipush (v := nn 6) k125_127 cb_6 ?_
    refine g_icge_f k125_129 (t := 168) rfl (by rw [nn_toInt (by omega), nn_toInt (by omega)]; omega) ?_
    refine g_iload k125_132 rfl ?_
    refine g_aload_n k125_134 rfl ?_
    refine m_get k125_135 f125_135 rfl rfl ?_
    refine g_iload_n k125_138 rfl ?_
    refine m_iald k125_139 hdy rfl rfl (by omega) (by omega) ?_
    rw [hrg]
    refine g_icge_t k125_140 (t := 168) rfl (by rw [nn_toInt (by omega), nn_toInt (by omega)]; omega) ?_
    exact kk σ _ (ld_S.rf σ) rfl
  | succ k ih =>
    intro p σ Q hp hR hd kk kf
    have hne := ok.2.2.1
    have hrg := (hR.2.1.2 e he).2.1
    have hr4 := (ok.2.2.2.1 e he).2.1
    have hk2 : kd = 2 → td_ma A e = 0 := by
      intro q
      subst q
      rcases hk with h | ⟨_, h⟩ | ⟨_, h | h | ⟨h, _⟩⟩ <;> first | exact h | omega
    have hfi : (List.range' p (k + 1)).find? (fun p => !td_kp A kd e (rd d p)) = if (!td_kp A kd e (rd d p)) = true then some p else (List.range' (p + 1) k).find? (fun p => !td_kp A kd e (rd d p)) := by
      rw [List.range'_succ, List.find?_cons]
      split <;> simp_all
    rw [hfi] at kk kf
    refine g_iload k125_121 rfl ?_
    refine g_ifeq_f k125_123 (t := 168) rfl (by decide) ?_
    refine g_iload_n k125_126 rfl ?_
    refine g_bipush (v := nn 6) k125_127 cb_6 ?_
    refine g_icge_f k125_129 (t := 168) rfl (by rw [nn_toInt (by omega), nn_toInt (by omega)]; omega) ?_
    refine g_iload k125_132 rfl ?_
    refine g_aload_n k125_134 rfl ?_
    refine m_get k125_135 f125_135 rfl rfl ?_
    refine g_iload_n k125_138 rfl ?_
    refine m_iald k125_139 hdy rfl rfl (by omega) (by omega) ?_
    rw [hrg]
    refine g_icge_f k125_140 (t := 168) rfl (by rw [nn_toInt (by omega), nn_toInt (by omega)]; omega) ?_
    refine g_aload_n k125_143 rfl ?_
    refine g_iload_n k125_144 rfl ?_
    refine g_iload_n k125_145 rfl ?_
    refine g_iload k125_146 rfl ?_
    refine m_callV3 k125_148 s125_148 c125_148 l133 (by omega) ⟨rfl, rfl, rfl⟩ rfl r125_148 rfl ?_
    refine s_133 hdy ok he hk5 hk2 hR (fun σ1 hs1 => ?_)
    refine af_ret ?_
    rw [rd_kp ok he hk hd hb]
    refine g_ifneB k125_151 (t := 162) rfl (fun h151 => ?_) (fun h151 => ?_)
    · skip
      refine g_iincN k125_162 rfl rfl rfl ?_
      refine g_goto k125_165 (t := 121) rfl ?_
      have h151 : td_kp A kd e (rd d p) = true := h151
      rw [h151] at kk kf
      exact ih (p + 1) (by omega) (hR.mono hs1.rs) (ld_41 hs1 hd) (fun σ' l6 hs h => kk σ' l6 (hs1.tr hs) h) (fun σ' q hs h => kf σ' q (hs1.tr hs) h)
    · skip
      refine g_aload_n k125_154 rfl ?_
      refine g_iload k125_155 rfl ?_
      refine m_putI k125_157 f125_157 rfl rfl rfl ?_
      refine g_iconst (v := nn 0) k125_160 ci_0 ?_
      refine g_breturn k125_161 t125 (by decide) ?_
      have h151 : td_kp A kd e (rd d p) = false := by simpa using h151
      refine kf σ1 p hs1 ?_
      rw [h151]
      rfl
end LG
