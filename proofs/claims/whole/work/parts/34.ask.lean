/-! The reference: small questions. -/
section LF
variable {L : Nat} {xs : Nat → Int32} {Q : am_A → am_H → Prop} {dy : List (Nat × Nat)} {σ : Nat → Nat → Int32} {ρ : Nat → Nat → Option Nat} {τ : Nat → Nat → Int64} {A : TD} {x z : Int32}
theorem in_nn {x : Int32} {n : Nat} (h : 0 ≤ x.toInt ∧ x.toInt < n) : ∃ k, x = nn k ∧ k < n := by
  obtain ⟨e1, e2⟩ := nn_of h.1
  exact ⟨_, e1, by omega⟩
theorem bb_inj {a b : Bool} (h : (bb (a = true)).toInt = (bb (b = true)).toInt) : a = b := by
  cases a <;> cases b <;> first | rfl | (exact absurd h (by decide))
theorem nn_in {k n : Nat} (hk : k < n) (hn : n < 2147483648) : 0 ≤ (nn k).toInt ∧ (nn k).toInt < n := by
  rw [nn_toInt (by omega)]
  omega
theorem s_115 (ok : TOK A) (hR : RepM A σ) (kk : Q (.inl (some (.int (bb (¬ (0 ≤ x.toInt ∧ x.toInt < td_ne A)))))) (mk dy σ ρ τ)) : go (tb_P L xs) 115 0 [some (.ref 24), some (.int x)] [] (mk dy σ ρ τ) Q := by
  have hb : td_ne A < 2147483648 := by have h1 := ok.1; have h2 := ok.2.2.1; omega
  have hv := hR.2.1.1
  refine g_iload_n k115_0 rfl ?_
  refine g_iflt k115_1 (t := 12) rfl (fun h1 => ?_) (fun h1 => ?_)
  · skip
    refine g_iconst (v := nn 1) k115_12 ci_1 ?_
    refine g_goto k115_13 (t := 17) rfl ?_
    refine g_breturn k115_17 t115 (by decide) ?_
    first
      | (rw [nn_toInt hb] at h9
         first | (rw [bb_t (by omega)] at kk; exact kk) | (rw [bb_f (by omega)] at kk; exact kk))
      | (rw [bb_t (by omega)] at kk; exact kk)
  · skip
    refine g_iload_n k115_4 rfl ?_
    refine g_aload_n k115_5 rfl ?_
    refine m_get k115_6 f115_6 rfl rfl ?_
    rw [hv]
    refine g_iclt k115_9 (t := 16) rfl (fun h9 => ?_) (fun h9 => ?_)
    · skip
      refine g_iconst (v := nn 0) k115_16 ci_0 ?_
      refine g_breturn k115_17 t115 (by decide) ?_
      first
        | (rw [nn_toInt hb] at h9
           first | (rw [bb_t (by omega)] at kk; exact kk) | (rw [bb_f (by omega)] at kk; exact kk))
        | (rw [bb_t (by omega)] at kk; exact kk)
    · skip
      refine g_iconst (v := nn 1) k115_12 ci_1 ?_
      refine g_goto k115_13 (t := 17) rfl ?_
      refine g_breturn k115_17 t115 (by decide) ?_
      first
        | (rw [nn_toInt hb] at h9
           first | (rw [bb_t (by omega)] at kk; exact kk) | (rw [bb_f (by omega)] at kk; exact kk))
        | (rw [bb_t (by omega)] at kk; exact kk)
theorem s_118 (ok : TOK A) (hR : RepM A σ) (kk : Q (.inl (some (.int (bb (¬ (0 ≤ x.toInt ∧ x.toInt < td_nf A)))))) (mk dy σ ρ τ)) : go (tb_P L xs) 118 0 [some (.ref 24), some (.int x)] [] (mk dy σ ρ τ) Q := by
  have hb : td_nf A < 2147483648 := by have h1 := ok.1; have h2 := ok.2.2.1; omega
  have hv := hR.1.1
  refine g_iload_n k118_0 rfl ?_
  refine g_iflt k118_1 (t := 12) rfl (fun h1 => ?_) (fun h1 => ?_)
  · skip
    refine g_iconst (v := nn 1) k118_12 ci_1 ?_
    refine g_goto k118_13 (t := 17) rfl ?_
    refine g_breturn k118_17 t118 (by decide) ?_
    first
      | (rw [nn_toInt hb] at h9
         first | (rw [bb_t (by omega)] at kk; exact kk) | (rw [bb_f (by omega)] at kk; exact kk))
      | (rw [bb_t (by omega)] at kk; exact kk)
  · skip
    refine g_iload_n k118_4 rfl ?_
    refine g_aload_n k118_5 rfl ?_
    refine m_get k118_6 f118_6 rfl rfl ?_
    rw [hv]
    refine g_iclt k118_9 (t := 16) rfl (fun h9 => ?_) (fun h9 => ?_)
    · skip
      refine g_iconst (v := nn 0) k118_16 ci_0 ?_
      refine g_breturn k118_17 t118 (by decide) ?_
      first
        | (rw [nn_toInt hb] at h9
           first | (rw [bb_t (by omega)] at kk; exact kk) | (rw [bb_f (by omega)] at kk; exact kk))
        | (rw [bb_t (by omega)] at kk; exact kk)
    · skip
      refine g_iconst (v := nn 1) k118_12 ci_1 ?_
      refine g_goto k118_13 (t := 17) rfl ?_
      refine g_breturn k118_17 t118 (by decide) ?_
      first
        | (rw [nn_toInt hb] at h9
           first | (rw [bb_t (by omega)] at kk; exact kk) | (rw [bb_f (by omega)] at kk; exact kk))
        | (rw [bb_t (by omega)] at kk; exact kk)
/-- an event may not have a formula -/
def td_no (A : TD) (x z : Int32) (tr : Bool) : Bool := !(decide (0 ≤ x.toInt ∧ x.toInt < td_ne A) && decide (0 ≤ z.toInt ∧ z.toInt < td_nf A) && (td_ft A z.toInt.toNat == tr) && !(decide (td_ma A x.toInt.toNat = 0) && td_hl A z.toInt.toNat))
theorem s_117 {tr : Bool} (ok : TOK A) (hR : RepM A σ) (kk : Q (.inl (some (.int (bb (td_no A x z tr = true))))) (mk dy σ ρ τ)) (hdy : dy.length < 100000) : go (tb_P L xs) 117 0 [some (.ref 24), some (.int x), some (.int z), some (.int (bb (tr = true)))] [] (mk dy σ ρ τ) Q := by
  have hn1 := ok.1
  have hn2 := ok.2.2.1
  have fin : ∀ b : Bool, td_no A x z tr = b → Q (.inl (some (.int (bb (b = true))))) (mk dy σ ρ τ) := by
    intro b h
    rw [← h]
    exact kk
  unfold td_no at fin
  by_cases hx : 0 ≤ x.toInt ∧ x.toInt < td_ne A
  · by_cases hz : 0 ≤ z.toInt ∧ z.toInt < td_nf A
    · obtain ⟨e, rfl, he⟩ := in_nn hx
      obtain ⟨f, rfl, hf⟩ := in_nn hz
      obtain ⟨g1, g2, g3, g4, g5⟩ := hR.1.2 f hf
      have hma := (hR.2.1.2 e he).1
      have hm1 := (ok.2.2.2.1 e he).1
      rw [decide_eq_true hx, decide_eq_true hz, nn_toInt (by omega), nn_toInt (by omega)] at fin
      have fin : ∀ b : Bool, (!((td_ft A f == tr) && !(decide (td_ma A e = 0) && td_hl A f))) = b → Q (.inl (some (.int (bb (b = true))))) (mk dy σ ρ τ) := by
        intro b h
        exact fin b (by simpa using h)
      refine g_aload_n k117_0 rfl ?_
      refine g_iload_n k117_1 rfl ?_
      refine m_callV1 k117_2 s117_2 c117_2 l115 (by omega) rfl rfl r117_2 rfl ?_
      refine s_115 ok hR ?_
      refine af_ret ?_
      refine g_ifne_f k117_5 (t := 44) rfl (bb_f (fun q => q hx)) ?_
      refine g_aload_n k117_8 rfl ?_
      refine g_iload_n k117_9 rfl ?_
      refine m_callV1 k117_10 s117_10 c117_10 l118 (by omega) rfl rfl r117_10 rfl ?_
      refine s_118 ok hR ?_
      refine af_ret ?_
      refine g_ifne_f k117_13 (t := 44) rfl (bb_f (fun q => q hz)) ?_
      refine g_aload_n k117_16 rfl ?_
      refine m_get k117_17 f117_17 rfl rfl ?_
      refine g_iload_n k117_20 rfl ?_
      refine m_bald k117_21 rfl rfl (by omega) (by omega) ?_
      rw [g3]
      refine g_iload_n k117_22 rfl ?_
      refine g_icneT k117_23 (t := 44) rfl (fun h23 => ?_) (fun h23 => ?_)
      · skip
        refine g_iconst (v := nn 1) k117_44 ci_1 ?_
        refine g_goto k117_45 (t := 49) rfl ?_
        refine g_breturn k117_49 t117 (by decide) ?_
        first
          | (refine fin true ?_
             have h41 := h41
             rw [h41, decide_eq_true h32]
             simp)
          | (have h41 := h41
             refine fin false ?_
             have hl : td_hl A f = false := by simpa using h41
             rw [hl, bb_inj h23]
             simp)
          | (have h32 := h32
             refine fin false ?_
             rw [decide_eq_false h32, bb_inj h23]
             simp)
          | (refine fin true ?_
             have ht : (td_ft A f == tr) = false := by
               rw [beq_eq_false_iff_ne]
               intro q
               rw [q] at h23
               exact h23 rfl
             rw [ht]
             rfl)
      · skip
        refine g_aload_n k117_26 rfl ?_
        refine m_get k117_27 f117_27 rfl rfl ?_
        refine g_iload_n k117_30 rfl ?_
        refine m_iald k117_31 hdy rfl rfl (by omega) (by omega) ?_
        rw [hma]
        refine g_ifneN k117_32 (t := 48) rfl (by omega) (fun h32 => ?_) (fun h32 => ?_)
        · skip
          refine g_iconst (v := nn 0) k117_48 ci_0 ?_
          refine g_breturn k117_49 t117 (by decide) ?_
          first
            | (refine fin true ?_
               have h41 := h41
               rw [h41, decide_eq_true h32]
               simp)
            | (have h41 := h41
               refine fin false ?_
               have hl : td_hl A f = false := by simpa using h41
               rw [hl, bb_inj h23]
               simp)
            | (have h32 := h32
               refine fin false ?_
               rw [decide_eq_false h32, bb_inj h23]
               simp)
            | (refine fin true ?_
               have ht : (td_ft A f == tr) = false := by
                 rw [beq_eq_false_iff_ne]
                 intro q
                 rw [q] at h23
                 exact h23 rfl
               rw [ht]
               rfl)
        · skip
          refine g_aload_n k117_35 rfl ?_
          refine m_get k117_36 f117_36 rfl rfl ?_
          refine g_iload_n k117_39 rfl ?_
          refine m_bald k117_40 rfl rfl (by omega) (by omega) ?_
          rw [g5]
          refine g_ifeqB k117_41 (t := 48) rfl (fun h41 => ?_) (fun h41 => ?_)
          · skip
            refine g_iconst (v := nn 0) k117_48 ci_0 ?_
            refine g_breturn k117_49 t117 (by decide) ?_
            first
              | (refine fin true ?_
                 have h41 := h41
                 rw [h41, decide_eq_true h32]
                 simp)
              | (have h41 := h41
                 refine fin false ?_
                 have hl : td_hl A f = false := by simpa using h41
                 rw [hl, bb_inj h23]
                 simp)
              | (have h32 := h32
                 refine fin false ?_
                 rw [decide_eq_false h32, bb_inj h23]
                 simp)
              | (refine fin true ?_
                 have ht : (td_ft A f == tr) = false := by
                   rw [beq_eq_false_iff_ne]
                   intro q
                   rw [q] at h23
                   exact h23 rfl
                 rw [ht]
                 rfl)
          · skip
            refine g_iconst (v := nn 1) k117_44 ci_1 ?_
            refine g_goto k117_45 (t := 49) rfl ?_
            refine g_breturn k117_49 t117 (by decide) ?_
            first
              | (refine fin true ?_
                 have h41 := h41
                 rw [h41, decide_eq_true h32]
                 simp)
              | (have h41 := h41
                 refine fin false ?_
                 have hl : td_hl A f = false := by simpa using h41
                 rw [hl, bb_inj h23]
                 simp)
              | (have h32 := h32
                 refine fin false ?_
                 rw [decide_eq_false h32, bb_inj h23]
                 simp)
              | (refine fin true ?_
                 have ht : (td_ft A f == tr) = false := by
                   rw [beq_eq_false_iff_ne]
                   intro q
                   rw [q] at h23
                   exact h23 rfl
                 rw [ht]
                 rfl)
    · rw [decide_eq_false hz, Bool.and_false, Bool.false_and, Bool.false_and] at fin
      refine g_aload_n k117_0 rfl ?_
      refine g_iload_n k117_1 rfl ?_
      refine m_callV1 k117_2 s117_2 c117_2 l115 (by omega) rfl rfl r117_2 rfl ?_
      refine s_115 ok hR ?_
      refine af_ret ?_
      refine g_ifne_f k117_5 (t := 44) rfl (bb_f (fun q => q hx)) ?_
      refine g_aload_n k117_8 rfl ?_
      refine g_iload_n k117_9 rfl ?_
      refine m_callV1 k117_10 s117_10 c117_10 l118 (by omega) rfl rfl r117_10 rfl ?_
      refine s_118 ok hR ?_
      refine af_ret ?_
      refine g_ifne_t k117_13 (t := 44) rfl (by rw [bb_t hz]; decide) ?_
      refine g_iconst (v := nn 1) k117_44 ci_1 ?_
      refine g_goto k117_45 (t := 49) rfl ?_
      refine g_breturn k117_49 t117 (by decide) ?_
      exact fin true rfl
  · rw [decide_eq_false hx, Bool.false_and, Bool.false_and, Bool.false_and] at fin
    refine g_aload_n k117_0 rfl ?_
    refine g_iload_n k117_1 rfl ?_
    refine m_callV1 k117_2 s117_2 c117_2 l115 (by omega) rfl rfl r117_2 rfl ?_
    refine s_115 ok hR ?_
    refine af_ret ?_
    refine g_ifne_t k117_5 (t := 44) rfl (by rw [bb_t hx]; decide) ?_
    refine g_iconst (v := nn 1) k117_44 ci_1 ?_
    refine g_goto k117_45 (t := 49) rfl ?_
    refine g_breturn k117_49 t117 (by decide) ?_
    exact fin true rfl
theorem s_105 (kk : Q (.inl (some (.int (σ 24 0)))) (mk dy σ ρ τ)) : go (tb_P L xs) 105 0 [some (.ref 24)] [] (mk dy σ ρ τ) Q := by
  refine g_aload_n k105_0 rfl ?_
  refine m_get k105_1 f105_1 rfl rfl ?_
  refine g_ireturn k105_4 t105 ?_
  exact kk
end LF
