/-! The reference: does anything move. -/
section LD
variable {L : Nat} {xs : Nat → Int32} {Q : am_A → am_H → Prop} {dy : List (Nat × Nat)} {σ : Nat → Nat → Int32} {ρ : Nat → Nat → Option Nat} {τ : Nat → Nat → Int64} {A : TD} {e f m : Nat} {prm : Int32}
/-- an event of the lower machine may be done with one of its parameters -/
def td_m1 (A : TD) (rw : Nat → Int32) (e : Nat) : Bool := decide (td_ma A e = 1) && (List.range (td_rg A e)).any (fun p => td_en A e (td_rp rw (nn p)))
def td_mv (A : TD) (rw : Nat → Int32) : Bool := (List.range (td_ne A)).any (td_m1 A rw)
theorem s_131P (hdy : dy.length < 100000) (ok : TOK A) (he : e < td_ne A) : ∀ (k p : Nat) {b : Bool} {σ : Nat → Nat → Int32} {Q : am_A → am_H → Prop}, p + k = td_rg A e → RepM A σ → (∀ (σ' : Nat → Nat → Int32) (l3 : Option Value) (b' : Bool), fi_S σ σ' → b' = (b || (decide (td_ma A e = 1) && (List.range' p k).any (fun p => td_en A e (td_rp (rM σ False (nn 0)) (nn p))))) → go (tb_P L xs) 131 59 [some (.ref 24), some (.int (bb (b' = true))), some (.int (nn e)), l3] [] (mk dy σ' ρ τ) Q) → go (tb_P L xs) 131 14 [some (.ref 24), some (.int (bb (b = true))), some (.int (nn e)), some (.int (nn p))] [] (mk dy σ ρ τ) Q := by
  intro k
  induction k with
  | zero =>
    intro p b σ Q hp hR kk
    have hne := ok.2.2.1
    have hrg := (hR.2.1.2 e he).2.1
    have hr4 := (ok.2.2.2.1 e he).2.1
    refine g_iload_n k131_14 rfl ?_
    refine g_aload_n k131_15 rfl ?_
    refine m_get k131_16 f131_16 rfl rfl ?_
    refine g_iload_n k131_19 rfl ?_
    refine m_iald k131_20 hdy rfl rfl (by omega) (by omega) ?_
    rw [hrg]
    refine g_icge_t k131_21 (t := 59) rfl (by rw [nn_toInt (by omega), nn_toInt (by omega)]; omega) ?_
    exact kk σ _ b (fi_S.rf σ) (by simp)
  | succ k ih =>
    intro p b σ Q hp hR kk
    have hne := ok.2.2.1
    have hrg := (hR.2.1.2 e he).2.1
    have hma := (hR.2.1.2 e he).1
    have hm1 := (ok.2.2.2.1 e he).1
    have hr4 := (ok.2.2.2.1 e he).2.1
    have hany : (List.range' p (k + 1)).any (fun p => td_en A e (td_rp (rM σ False (nn 0)) (nn p))) = (td_en A e (rM σ False (nn p)) || (List.range' (p + 1) k).any (fun p => td_en A e (td_rp (rM σ False (nn 0)) (nn p)))) := by
      rw [List.range'_succ, List.any_cons, ← rM_rp]
    rw [hany] at kk
    refine g_iload_n k131_14 rfl ?_
    refine g_aload_n k131_15 rfl ?_
    refine m_get k131_16 f131_16 rfl rfl ?_
    refine g_iload_n k131_19 rfl ?_
    refine m_iald k131_20 hdy rfl rfl (by omega) (by omega) ?_
    rw [hrg]
    refine g_icge_f k131_21 (t := 59) rfl (by rw [nn_toInt (by omega), nn_toInt (by omega)]; omega) ?_
    refine g_aload_n k131_24 rfl ?_
    refine m_get k131_25 f131_25 rfl rfl ?_
    refine g_iload_n k131_28 rfl ?_
    refine m_iald k131_29 hdy rfl rfl (by omega) (by omega) ?_
    rw [hma]
    refine g_iconst (v := nn 1) k131_30 ci_1 ?_
    refine g_icneN k131_31 (t := 59) rfl ⟨by omega, by omega⟩ (fun h31 => ?_) (fun h31 => ?_)
    · skip
      exact kk σ _ b (fi_S.rf σ) (by simp [h31])
    · skip
      refine g_iload_n k131_34 rfl ?_
      refine g_ifneB k131_35 (t := 47) rfl (fun h35 => ?_) (fun h35 => ?_)
      · skip
        refine g_iconst (v := nn 1) k131_47 ci_1 ?_
        refine g_goto k131_48 (t := 52) rfl ?_
        refine g_istore_n k131_52 rfl rfl ?_
        refine g_iincN k131_53 rfl rfl rfl ?_
        refine g_goto k131_56 (t := 14) rfl ?_
        first
          | (subst h35
             exact ih (p + 1) (b := true) (by omega) hR (fun σ' l3 b' hs hb => kk σ' l3 b' hs (by simpa using hb)))
          | (have hbf : b = false := by simpa using h35
             subst hbf
             refine ih (p + 1) (b := true) (by omega) (hR.mono hs1.rs) (fun σ' l3 b' hs hb => kk σ' l3 b' (hs1.tr hs) ?_)
             rw [h44, hb]
             simp [h31])
          | (have hbf : b = false := by simpa using h35
             subst hbf
             refine ih (p + 1) (b := false) (by omega) (hR.mono hs1.rs) (fun σ' l3 b' hs hb => kk σ' l3 b' (hs1.tr hs) ?_)
             have h44 : td_en A e (rM σ False (nn p)) = false := by simpa using h44
             rw [rM_fi hs1] at hb
             rw [h44, hb]
             simp)
      · skip
        refine g_aload_n k131_38 rfl ?_
        refine g_iload_n k131_39 rfl ?_
        refine g_iload_n k131_40 rfl ?_
        refine m_callV2 k131_41 s131_41 c131_41 l132 (by omega) ⟨rfl, rfl⟩ rfl r131_41 rfl ?_
        refine s_132 hdy ok he hR (fun σ1 hs1 => ?_)
        refine af_ret ?_
        refine g_ifeqB k131_44 (t := 51) rfl (fun h44 => ?_) (fun h44 => ?_)
        · skip
          refine g_iconst (v := nn 0) k131_51 ci_0 ?_
          refine g_istore_n k131_52 rfl rfl ?_
          refine g_iincN k131_53 rfl rfl rfl ?_
          refine g_goto k131_56 (t := 14) rfl ?_
          first
            | (subst h35
               exact ih (p + 1) (b := true) (by omega) hR (fun σ' l3 b' hs hb => kk σ' l3 b' hs (by simpa using hb)))
            | (have hbf : b = false := by simpa using h35
               subst hbf
               refine ih (p + 1) (b := true) (by omega) (hR.mono hs1.rs) (fun σ' l3 b' hs hb => kk σ' l3 b' (hs1.tr hs) ?_)
               rw [h44, hb]
               simp [h31])
            | (have hbf : b = false := by simpa using h35
               subst hbf
               refine ih (p + 1) (b := false) (by omega) (hR.mono hs1.rs) (fun σ' l3 b' hs hb => kk σ' l3 b' (hs1.tr hs) ?_)
               have h44 : td_en A e (rM σ False (nn p)) = false := by simpa using h44
               rw [rM_fi hs1] at hb
               rw [h44, hb]
               simp)
        · skip
          refine g_iconst (v := nn 1) k131_47 ci_1 ?_
          refine g_goto k131_48 (t := 52) rfl ?_
          refine g_istore_n k131_52 rfl rfl ?_
          refine g_iincN k131_53 rfl rfl rfl ?_
          refine g_goto k131_56 (t := 14) rfl ?_
          first
            | (subst h35
               exact ih (p + 1) (b := true) (by omega) hR (fun σ' l3 b' hs hb => kk σ' l3 b' hs (by simpa using hb)))
            | (have hbf : b = false := by simpa using h35
               subst hbf
               refine ih (p + 1) (b := true) (by omega) (hR.mono hs1.rs) (fun σ' l3 b' hs hb => kk σ' l3 b' (hs1.tr hs) ?_)
               rw [h44, hb]
               simp [h31])
            | (have hbf : b = false := by simpa using h35
               subst hbf
               refine ih (p + 1) (b := false) (by omega) (hR.mono hs1.rs) (fun σ' l3 b' hs hb => kk σ' l3 b' (hs1.tr hs) ?_)
               have h44 : td_en A e (rM σ False (nn p)) = false := by simpa using h44
               rw [rM_fi hs1] at hb
               rw [h44, hb]
               simp)
theorem s_131L (hdy : dy.length < 100000) (ok : TOK A) : ∀ (k e : Nat) {b : Bool} {σ : Nat → Nat → Int32} {l3 : Option Value} {Q : am_A → am_H → Prop}, e + k = td_ne A → RepM A σ → (∀ σ', fi_S σ σ' → Q (.inl (some (.int (bb ((b || (List.range' e k).any (td_m1 A (rM σ False (nn 0)))) = true))))) (mk dy σ' ρ τ)) → go (tb_P L xs) 131 4 [some (.ref 24), some (.int (bb (b = true))), some (.int (nn e)), l3] [] (mk dy σ ρ τ) Q := by
  intro k
  induction k with
  | zero =>
    intro e b σ l3 Q he hR kk
    have hne := ok.2.2.1
    have hev := hR.2.1.1
    refine g_iload_n k131_4 rfl ?_
    refine g_aload_n k131_5 rfl ?_
    refine m_get k131_6 f131_6 rfl rfl ?_
    rw [hev]
    refine g_icge_t k131_9 (t := 65) rfl (by rw [nn_toInt (by omega), nn_toInt (by omega)]; omega) ?_
    refine g_iload_n k131_65 rfl ?_
    refine g_breturnB k131_66 t131 ?_
    have hq := kk σ (fi_S.rf σ)
    rw [show (b || (List.range' e 0).any (td_m1 A (rM σ False (nn 0)))) = b by simp] at hq
    exact hq
  | succ k ih =>
    intro e b σ l3 Q he hR kk
    have hne := ok.2.2.1
    have hev := hR.2.1.1
    rw [show (List.range' e (k + 1)).any (td_m1 A (rM σ False (nn 0))) = (td_m1 A (rM σ False (nn 0)) e || (List.range' (e + 1) k).any (td_m1 A (rM σ False (nn 0)))) by rw [List.range'_succ, List.any_cons]] at kk
    refine g_iload_n k131_4 rfl ?_
    refine g_aload_n k131_5 rfl ?_
    refine m_get k131_6 f131_6 rfl rfl ?_
    rw [hev]
    refine g_icge_f k131_9 (t := 65) rfl (by rw [nn_toInt (by omega), nn_toInt (by omega)]; omega) ?_
    refine g_iconst (v := nn 0) k131_12 ci_0 ?_
    refine g_istore_n k131_13 rfl rfl ?_
    refine s_131P hdy ok (by omega) (td_rg A e) 0 (by omega) hR (fun σ' l3 b' hs hb => ?_)
    refine g_iincN k131_59 rfl rfl rfl ?_
    refine g_goto k131_62 (t := 4) rfl ?_
    refine ih (e + 1) (b := b') (by omega) (hR.mono hs.rs) (fun σ'' hs'' => ?_)
    have hq := kk σ'' (hs.tr hs'')
    rw [rM_fi hs, hb, Bool.or_assoc]
    unfold td_m1 at hq ⊢
    rw [List.range_eq_range'] at hq
    exact hq
theorem s_131 (hdy : dy.length < 100000) (ok : TOK A) (hR : RepM A σ) (kk : ∀ σ', fi_S σ σ' → Q (.inl (some (.int (bb (td_mv A (rM σ False (nn 0)) = true))))) (mk dy σ' ρ τ)) : go (tb_P L xs) 131 0 [some (.ref 24), none, none, none] [] (mk dy σ ρ τ) Q := by
  refine g_iconst (v := nn 0) k131_0 ci_0 ?_
  refine g_istore_n k131_1 rfl rfl ?_
  refine g_iconst (v := nn 0) k131_2 ci_0 ?_
  refine g_istore_n k131_3 rfl rfl ?_
  refine s_131L hdy ok (td_ne A) 0 (b := false) (by omega) hR (fun σ' hs => ?_)
  have hq := kk σ' hs
  unfold td_mv at hq
  rw [List.range_eq_range'] at hq
  rw [Bool.false_or]
  exact hq
end LD
