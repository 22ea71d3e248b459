/-! The reference: does the lower machine always move; isDone whole. -/
section LI
variable {L : Nat} {xs : Nat → Int32} {Q : am_A → am_H → Prop} {dy : List (Nat × Nat)} {σ : Nat → Nat → Int32} {ρ : Nat → Nat → Option Nat} {τ : Nat → Nat → Int64} {A : TD} {e kd p : Nat} {d : Nat → Nat} {l2 l5 l6 : Option Value}
theorem mv_ag {M : Nat → Bool} {r1 r2 : Nat → Int32} (ok : TOK A) (hM : ∀ e v, e < td_ne A → td_ma A e = 1 → td_em A e v = true → v ≠ 6 → M v = true) (h : ag M r1 r2) : td_mv A r1 = td_mv A r2 := by
  unfold td_mv
  have e1 : ∀ e, e < td_ne A → td_m1 A r1 e = td_m1 A r2 e := by
    intro e he
    unfold td_m1
    by_cases hm : td_ma A e = 1
    · have e2 : ∀ p, td_en A e (td_rp r1 (nn p)) = td_en A e (td_rp r2 (nn p)) := fun p => en_ag (M := td_em A e) ok he (fun v q => em_gd q) (ag_rp h (fun v h6 q => hM e v he hm q h6))
      simp only [e2]
    · rw [decide_eq_false hm, Bool.false_and, Bool.false_and]
  rw [Bool.eq_iff_iff, List.any_eq_true, List.any_eq_true]
  refine ⟨fun ⟨j, hj, q⟩ => ⟨j, hj, ?_⟩, fun ⟨j, hj, q⟩ => ⟨j, hj, ?_⟩⟩
  · rw [← e1 j (List.mem_range.mp hj)]; exact q
  · rw [e1 j (List.mem_range.mp hj)]; exact q
theorem rd_mv (ok : TOK A) (hd : ∀ v, v < 6 → σ 41 v = nn (d v)) : td_mv A (rM σ False (nn 0)) = td_mv A (rd d 0) :=
  mv_ag (M := fun _ => true) ok (fun _ _ _ _ _ _ => rfl) (rd_ag hd)
/-- a right state in which nothing moves -/
def td_b6 (A : TD) (d : Nat → Nat) : Option Nat := if (td_ri A (rd d 0) && !td_mv A (rd d 0)) = true then some 0 else none
theorem s_125B (hdy : dy.length < 100000) (ok : TOK A) : ∀ (n : Nat) {σ : Nat → Nat → Int32} {d : Nat → Nat} {l5 l6 : Option Value} {Q : am_A → am_H → Prop}, vl (td_sz A) 6 d + n = pd (td_sz A) 6 → RepM A σ → (∀ v, v < 6 → σ 41 v = nn (d v)) → (∀ v, v < 6 → d v < td_sz A v) → σ 24 32 = nn 0 →
    (∀ σ', rs_S σ σ' → sch (td_b6 A) (td_sz A) 6 n d = none → Q (.inl (some (.int (nn 1)))) (mk dy σ' ρ τ)) → (∀ σ' d' p, rs_S σ σ' → sch (td_b6 A) (td_sz A) 6 n d = some (d', p) → (∀ v, v < 6 → σ' 41 v = nn (d' v)) → σ' 24 32 = nn p → Q (.inl (some (.int (nn 0)))) (mk dy σ' ρ τ)) →
    go (tb_P L xs) 125 73 [some (.ref 24), some (.int (nn 6)), l2, some (.int (bb (false = true))), some (.int (nn 1)), l5, l6] [] (mk dy σ ρ τ) Q := by
  intro n
  induction n with
  | zero =>
    intro σ d l5 l6 Q hn hR hd hb hz kt kf
    have := vl_lt (sz := td_sz A) 6 (d := d) (fun v hv => hb v (by omega))
    omega
  | succ n ih =>
    intro σ d l5 l6 Q hn hR hd hb hz kt kf
    have hct := ct_vl (sz := td_sz A) 6 (d := d) (fun v hv => hb v (by omega))
    have hsch : sch (td_b6 A) (td_sz A) 6 (n + 1) d = (match td_b6 A d with
      | some p => some (d, p)
      | none => if (ct (td_sz A) 6 d).1 = true then sch (td_b6 A) (td_sz A) 6 n (ct (td_sz A) 6 d).2 else none) := rfl
    have hnext : ∀ (σ1 : Nat → Nat → Int32) (l5 l6 : Option Value), rs_S σ σ1 → (∀ v, v < 6 → σ1 41 v = nn (d v)) → σ1 24 32 = nn 0 → td_b6 A d = none → go (tb_P L xs) 125 168 [some (.ref 24), some (.int (nn 6)), l2, some (.int (bb (false = true))), some (.int (nn 1)), l5, l6] [] (mk dy σ1 ρ τ) Q := by
      intro σ1 l5 l6 hs1 hd1 hz1 hbp
      rw [hsch, hbp] at kt kf
      dsimp only at kt kf
      refine s_125N0 hdy ok (hR.mono hs1) hd1 hb (fun σ2 h1 h2 hc => ?_) (fun σ2 h1 hc => ?_)
      · rw [if_pos hc] at kt kf
        have hs2 : rs_S σ1 σ2 := fun a k g1 _ _ _ => by rw [h1 a g1]
        exact ih (d := (ct (td_sz A) 6 d).2) (by rw [hct.2.1 hc]; omega) ((hR.mono hs1).mono hs2) h2 (fun v hv => hct.1 v hv) (by rw [h1 24 (by decide)]; exact hz1) (fun σ' hs h => kt σ' ((hs1.tr hs2).tr hs) h) (fun σ' d' p hs h g1 g2 => kf σ' d' p ((hs1.tr hs2).tr hs) h g1 g2)
      · rw [if_neg (by rw [hc]; simp)] at kt
        exact kt σ2 (hs1.tr (fun a k g1 _ _ _ => by rw [h1 a g1])) rfl
    refine g_iload k125_73 rfl ?_
    refine g_ifeq_f k125_75 (t := 186) rfl (by decide) ?_
    refine g_iload_n k125_78 rfl ?_
    refine g_ifeq_t k125_79 (t := 91) rfl rfl ?_
    refine g_aload_n k125_91 rfl ?_
    refine g_iconst (v := nn 0) k125_92 ci_0 ?_
    refine m_callV1 k125_93 s125_93 c125_93 l126 (by omega) rfl rfl r125_93 rfl ?_
    refine s_126 (lt := False) hdy ok hR rfl (fun σ1 hs1 => ?_)
    refine af_ret ?_
    rw [rd_ri ok hd]
    refine g_istore k125_96 rfl rfl ?_
    refine g_iload k125_98 rfl ?_
    refine g_ifeqB k125_100 (t := 118) rfl (fun h100 => ?_) (fun h100 => ?_)
    · skip
      refine g_iconst (v := nn 0) k125_118 ci_0 ?_
      refine g_istore k125_119 rfl rfl ?_
      first
        | (have h113 : td_mv A (rd d 0) = true := h113
           rw [bb_t h100]
           refine g_iload k125_121 rfl ?_
           refine g_ifeq_f k125_123 (t := 168) rfl (by decide) ?_
           refine g_iload_n k125_126 rfl ?_
           refine g_bipush (v := nn 6) k125_127 cb_6 ?_
           refine g_icge_t k125_129 (t := 168) rfl (by decide) ?_
           refine hnext σ2 _ _ ((hs1.tr hs2).rs) (ld_41 (hs1.tr hs2).ld hd) (((hs1.tr hs2) 24 32 (by decide) (Or.inr (by decide))).trans hz) ?_
           unfold td_b6
           rw [h113]
           simp)
        | (rw [bb_f h100]
           refine g_iload k125_121 rfl ?_
           refine g_ifeq_t k125_123 (t := 168) rfl rfl ?_
           refine hnext σ1 _ _ hs1.rs (ld_41 hs1.ld hd) ((hs1 24 32 (by decide) (Or.inr (by decide))).trans hz) ?_
           unfold td_b6
           have h100 : td_ri A (rd d 0) = false := by simpa using h100
           rw [h100]
           simp)
    · skip
      refine g_iload_n k125_103 rfl ?_
      refine g_bipush (v := nn 6) k125_104 cb_6 ?_
      refine g_icne_f k125_106 (t := 118) rfl rfl ?_
      refine g_aload_n k125_109 rfl ?_
      refine m_callV0 k125_110 s125_110 c125_110 l131 (by omega) trivial rfl r125_110 rfl ?_
      refine s_131 hdy ok (hR.mono hs1.rs) (fun σ2 hs2 => ?_)
      refine af_ret ?_
      rw [rM_fi hs1, rd_mv ok hd]
      refine g_ifneB k125_113 (t := 118) rfl (fun h113 => ?_) (fun h113 => ?_)
      · skip
        refine g_iconst (v := nn 0) k125_118 ci_0 ?_
        refine g_istore k125_119 rfl rfl ?_
        first
          | (have h113 : td_mv A (rd d 0) = true := h113
             rw [bb_t h100]
             refine g_iload k125_121 rfl ?_
             refine g_ifeq_f k125_123 (t := 168) rfl (by decide) ?_
             refine g_iload_n k125_126 rfl ?_
             refine g_bipush (v := nn 6) k125_127 cb_6 ?_
             refine g_icge_t k125_129 (t := 168) rfl (by decide) ?_
             refine hnext σ2 _ _ ((hs1.tr hs2).rs) (ld_41 (hs1.tr hs2).ld hd) (((hs1.tr hs2) 24 32 (by decide) (Or.inr (by decide))).trans hz) ?_
             unfold td_b6
             rw [h113]
             simp)
          | (rw [bb_f h100]
             refine g_iload k125_121 rfl ?_
             refine g_ifeq_t k125_123 (t := 168) rfl rfl ?_
             refine hnext σ1 _ _ hs1.rs (ld_41 hs1.ld hd) ((hs1 24 32 (by decide) (Or.inr (by decide))).trans hz) ?_
             unfold td_b6
             have h100 : td_ri A (rd d 0) = false := by simpa using h100
             rw [h100]
             simp)
      · skip
        refine g_iconst (v := nn 0) k125_116 ci_0 ?_
        refine g_breturn k125_117 t125 (by decide) ?_
        have h113 : td_mv A (rd d 0) = false := by simpa using h113
        have h100 : td_ri A (rd d 0) = true := h100
        refine kf σ2 d 0 ((hs1.tr hs2).rs) ?_ (ld_41 (hs1.tr hs2).ld hd) (((hs1.tr hs2) 24 32 (by decide) (Or.inr (by decide))).trans hz)
        rw [hsch]
        unfold td_b6
        rw [h100, h113]
        rfl
end LI
