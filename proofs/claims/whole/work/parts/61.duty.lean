/-! The class: invariants, and the duties asked for. -/
section ZD
variable {L : Nat} {xs : Nat → Int32} {Q : am_A → am_H → Prop} {dy dy' : List (Nat × Nat)} {σ σ' : Nat → Nat → Int32} {ρ ρ' : Nat → Nat → Option Nat} {τ τ' : Nat → Nat → Int64} {A : TD} {W : RS} {F E : Nat → Nat} {f e u r ad m kd v s i : Nat} {x z w a b : Int32} {d D : Nat → Nat} {p : Nat}
theorem g_callSJ {P : am_P} {y pc ix z m Wd : Nat} {lo : am_L} {h : am_H} {rest : List Value} {v1 : Value} {j : Int64} (d : decode (am_cd (am_me P y)) pc = .ok (.invokestatic ix, 3)) (hs : am_sp P y ix = none) (hca : am_ca P y ix = some (z, 2, 0)) (hm : am_ml (am_me P z) = m) (hl : 3 ≤ m) (hc : v1.category = 1) (hw : am_wd rest = Wd) (hr : am_rf (am_me P z) + 1 ≤ am_rf (am_me P y) ∧ Wd + (am_ml (am_me P z) + 11) + am_rl (am_me P z) ≤ am_rl (am_me P y)) (g : go P z 0 (some v1 :: some (.long j) :: none :: List.replicate (m - 3) none) [] h (am_af P y pc lo rest Q)) : go P y pc lo (.long j :: v1 :: rest) h Q := by
  subst hw
  have e : am_en [v1, .long j] = [some v1, some (.long j), none] := by
    unfold am_en
    rw [if_pos hc]
    rfl
  refine g_callS (as := [v1, .long j]) (rest := rest) d hs hca rfl rfl hr (l0 := some v1 :: some (.long j) :: none :: List.replicate (m - 3) none) ?_ g
  unfold am_en0
  rw [e, hm, if_pos (show [some v1, some (.long j), none].length ≤ m from hl)]
  rfl
theorem s_82L {ar : Nat} {j : Int64} (hdy : dy.length < 100000) (har : me_sh dy ar = some (1, 65)) : ∀ (k i : Nat) {τ : Nat → Nat → Int64} {Q : am_A → am_H → Prop}, i + k = 65 → (∀ τ', (∀ a, a ≠ ar → τ' a = τ a) → (∀ q, i ≤ q → q < 65 → τ' ar q = j) → (∀ q, q < i → τ' ar q = τ ar q) → Q (.inl none) (mk dy σ ρ τ')) → go (tb_P L xs) 82 6 [some (.ref ar), some (.long j), none, some (.int (nn i)), some (.int (nn 65))] [] (mk dy σ ρ τ) Q := by
  intro k
  induction k with
  | zero =>
    intro i τ Q hi kk
    have hi : i = 65 := by omega
    subst hi
    refine g_iload_n k82_6 rfl ?_
    refine g_iload k82_7 rfl ?_
    refine g_icge_t k82_9 (t := 22) rfl (by decide) ?_
    refine g_return k82_22 t82 ?_
    exact kk τ (fun _ _ => rfl) (fun q h1 h2 => by omega) (fun _ _ => rfl)
  | succ k ih =>
    intro i τ Q hi kk
    refine g_iload_n k82_6 rfl ?_
    refine g_iload k82_7 rfl ?_
    refine g_icge_f k82_9 (t := 22) rfl (by rw [nn_toInt (by omega), nn_toInt (by omega)]; omega) ?_
    refine g_aload_n k82_12 rfl ?_
    refine g_iload_n k82_13 rfl ?_
    refine g_lload_n k82_14 rfl ?_
    refine m_last k82_15 (by assumption) rfl (by omega) (by omega) ?_
    refine g_iincN k82_16 rfl rfl rfl ?_
    refine g_goto k82_19 (t := 6) rfl ?_
    refine ih (i + 1) (by omega) (fun τ' h1 h2 h3 => kk τ' (fun a ha => ?_) (fun q g1 g2 => ?_) (fun q g => ?_))
    · rw [h1 a ha]
      funext q
      exact up2_ne (Or.inl ha)
    · by_cases c : q = i
      · rw [c, h3 i (by omega), up2_at]
      · exact h2 q (by omega) g2
    · rw [h3 q (by omega)]
      exact up2_ne (by omega)
theorem s_82 {ar : Nat} {j : Int64} (hdy : dy.length < 100000) (har : me_sh dy ar = some (1, 65)) (kk : ∀ τ', (∀ a, a ≠ ar → τ' a = τ a) → (∀ q, q < 65 → τ' ar q = j) → Q (.inl none) (mk dy σ ρ τ')) : go (tb_P L xs) 82 0 [some (.ref ar), some (.long j), none, none, none] [] (mk dy σ ρ τ) Q := by
  refine g_iconst (v := nn 0) k82_0 ci_0 ?_
  refine g_istore_n k82_1 rfl rfl ?_
  refine g_aload_n k82_2 rfl ?_
  refine m_alen k82_3 hdy (by assumption) (by omega) ?_
  refine g_istore k82_4 rfl rfl ?_
  exact s_82L hdy har 65 0 (by omega) (fun τ' h1 h2 _ => kk τ' h1 (fun q hq => h2 q (by omega) hq))
theorem s_81 (hdy : dy.length < 100000) (ok : TOK A) (hX : RepX A F E dy σ ρ) (hm : m < 2) (h6 : td_ic A m < 6) (hf : f < td_nf A) (kk : ∀ τ', tE τ τ' → CX (td_ai A m f) τ' → Q (.inl (some (.int (nn (td_ic A m + 1))))) (mk dy (up2 σ 11 (2 + m) (nn (td_ic A m + 1))) (up2 ρ (12 + m) (td_ic A m) (some (F f))) τ')) : go (tb_P L xs) 81 0 [some (.ref 11), some (.int (nn m)), some (.ref (F f))] [] (mk dy σ ρ τ) Q := by
  obtain ⟨⟨hf47, hA, _⟩, _⟩ := (hX.1.2 f hf).2
  have c0 := hX.2.2.1.1
  have c1 := hX.2.2.1.2.1
  have hX' := hX.ai (f := f) hm ok
  have ec : td_ic (td_ai A m f) m = td_ic A m + 1 := by
    show (if m = m then td_ic A m + 1 else td_ic A m) = _
    rw [if_pos rfl]
  have hm2 : m = 0 ∨ m = 1 := by omega
  rcases hm2 with rfl | rfl
  · refine g_aload_n k81_0 rfl ?_
    refine m_get k81_1 f81_1 rfl rfl ?_
    refine g_lconst (v := 0) k81_4 rfl ?_
    refine g_callSJ k81_5 s81_5 c81_5 l82 (by omega) rfl rfl r81_5 ?_
    refine s_82 hdy rfl (fun τ1 h1 h2 => ?_)
    refine af_void ?_
    refine g_aload_n k81_8 rfl ?_
    refine m_get k81_9 f81_9 rfl rfl ?_
    refine g_lconst (v := 0) k81_12 rfl ?_
    refine g_callSJ k81_13 s81_13 c81_13 l82 (by omega) rfl rfl r81_13 ?_
    refine s_82 hdy rfl (fun τ2 h3 h4 => ?_)
    refine af_void ?_
    refine g_iload_n k81_16 rfl ?_
    refine g_ifne_f k81_17 (t := 43) rfl rfl ?_
    refine g_aload_n k81_20 rfl ?_
    refine m_get k81_21 f81_21 rfl rfl ?_
    refine g_aload_n k81_24 rfl ?_
    refine m_get k81_25 f81_25 rfl rfl ?_
    rw [c0]
    refine g_aload_n k81_28 rfl ?_
    refine m_aast k81_29 rfl (by assumption) ⟨⟨by omega, by omega⟩, rfl⟩ rfl (by omega) (by omega) ?_
    refine g_aload_n k81_30 rfl ?_
    refine g_dup k81_31 rfl ?_
    refine m_get k81_32 f81_32 rfl rfl ?_
    rw [c0]
    refine g_iconst (v := nn 1) k81_35 ci_1 ?_
    refine g_iaddN k81_36 ?_
    refine m_putI k81_37 f81_37 rfl rfl rfl ?_
    refine g_goto k81_40 (t := 63) rfl ?_
    refine g_aload_n k81_63 rfl ?_
    refine g_iload_n k81_64 rfl ?_
    refine m_callV1 k81_65 s81_65 c81_65 l12 (by omega) rfl rfl r81_65 rfl ?_
    refine s_12 hX' (by omega) ?_
    refine af_ret ?_
    refine g_ireturn k81_68 t81 ?_
    rw [ec]
    refine kk τ2 (fun a g1 g2 => by rw [h3 a g2, h1 a g1]) (fun s hs => ?_)
    have l1 := cdu_lt hs
    have z14 : ∀ q, q < 65 → τ2 14 q = 0 := fun q hq => by rw [h3 14 (by omega)]; exact h2 q hq
    have kn : ∀ m' cell pl row, cell < 65 → KN (td_ai A 0 f) m' cell pl τ2 row := fun m' cell pl row hc => ⟨fun q => (by rw [z14 cell hc, bq_0] at q; cases q), fun _ => by rw [h4 cell hc, bq_0]⟩
    exact ⟨kn 0 64 _ _ (by omega), kn 1 _ _ _ (by omega)⟩
  · refine g_aload_n k81_0 rfl ?_
    refine m_get k81_1 f81_1 rfl rfl ?_
    refine g_lconst (v := 0) k81_4 rfl ?_
    refine g_callSJ k81_5 s81_5 c81_5 l82 (by omega) rfl rfl r81_5 ?_
    refine s_82 hdy rfl (fun τ1 h1 h2 => ?_)
    refine af_void ?_
    refine g_aload_n k81_8 rfl ?_
    refine m_get k81_9 f81_9 rfl rfl ?_
    refine g_lconst (v := 0) k81_12 rfl ?_
    refine g_callSJ k81_13 s81_13 c81_13 l82 (by omega) rfl rfl r81_13 ?_
    refine s_82 hdy rfl (fun τ2 h3 h4 => ?_)
    refine af_void ?_
    refine g_iload_n k81_16 rfl ?_
    refine g_ifne_t k81_17 (t := 43) rfl (by decide) ?_
    refine g_aload_n k81_43 rfl ?_
    refine m_get k81_44 f81_44 rfl rfl ?_
    refine g_aload_n k81_47 rfl ?_
    refine m_get k81_48 f81_48 rfl rfl ?_
    rw [c1]
    refine g_aload_n k81_51 rfl ?_
    refine m_aast k81_52 rfl (by assumption) ⟨⟨by omega, by omega⟩, rfl⟩ rfl (by omega) (by omega) ?_
    refine g_aload_n k81_53 rfl ?_
    refine g_dup k81_54 rfl ?_
    refine m_get k81_55 f81_55 rfl rfl ?_
    rw [c1]
    refine g_iconst (v := nn 1) k81_58 ci_1 ?_
    refine g_iaddN k81_59 ?_
    refine m_putI k81_60 f81_60 rfl rfl rfl ?_
    refine g_aload_n k81_63 rfl ?_
    refine g_iload_n k81_64 rfl ?_
    refine m_callV1 k81_65 s81_65 c81_65 l12 (by omega) rfl rfl r81_65 rfl ?_
    refine s_12 hX' (by omega) ?_
    refine af_ret ?_
    refine g_ireturn k81_68 t81 ?_
    rw [ec]
    refine kk τ2 (fun a g1 g2 => by rw [h3 a g2, h1 a g1]) (fun s hs => ?_)
    have l1 := cdu_lt hs
    have z14 : ∀ q, q < 65 → τ2 14 q = 0 := fun q hq => by rw [h3 14 (by omega)]; exact h2 q hq
    have kn : ∀ m' cell pl row, cell < 65 → KN (td_ai A 1 f) m' cell pl τ2 row := fun m' cell pl row hc => ⟨fun q => (by rw [z14 cell hc, bq_0] at q; cases q), fun _ => by rw [h4 cell hc, bq_0]⟩
    exact ⟨kn 0 64 _ _ (by omega), kn 1 _ _ _ (by omega)⟩
theorem s_79 (hdy : dy.length < 100000) (ok : TOK A) (hS : XS A W F E dy σ ρ τ) (k1 : ¬ iok A x z → oX A W F E σ τ (dy ++ [(14, 0)]) σ ρ τ → Q (.inr 9) (mk (dy ++ [(14, 0)]) σ ρ τ)) (k2 : iok A x z → td_ic A x.toInt.toNat = 6 → oX A W F E σ τ (dy ++ [(15, 0)]) σ ρ τ → Q (.inr 10) (mk (dy ++ [(15, 0)]) σ ρ τ)) (k0 : iok A x z → td_ic A x.toInt.toNat < 6 → ∀ σ' ρ' τ', oX (td_ai A x.toInt.toNat z.toInt.toNat) W F E σ τ dy σ' ρ' τ' → Q (.inl (some (.int (nn (td_ic A x.toInt.toNat + 1))))) (mk dy σ' ρ' τ')) : go (tb_P L xs) 79 0 [some (.ref 0), some (.int x), some (.int z), none] [] (mk dy σ ρ τ) Q := by
  have bad : ¬ iok A x z → Q (.inr 9) (mk (dy ++ [(14, 0)]) σ ρ τ) := fun h => k1 h (hS.thr ok)
  have hnf := ok.1
  have t1 := ti_1
  by_cases hz : (0 ≤ z.toInt ∧ z.toInt < td_nf A) ∧ td_ft A z.toInt.toNat = true
  · obtain ⟨f, rfl, hf⟩ := in_nn hz.1
    have e2 : (nn f).toInt.toNat = f := by rw [nn_toInt (by omega)]; rfl
    have ht := hz.2
    rw [e2] at ht
    unfold iok at bad k0 k2
    rw [e2] at bad k0 k2
    obtain ⟨⟨hf47, hA, _⟩, _⟩ := (hS.1.1.2 f hf).2
    by_cases hx : 0 ≤ x.toInt ∧ x.toInt < 2
    · obtain ⟨m, rfl, hm⟩ := in_nn (n := 2) hx
      have e1 : (nn m).toInt.toNat = m := by rw [nn_toInt (by omega)]; rfl
      have e3 : (nn m).toInt = 0 ↔ m = 0 := by rw [nn_toInt (by omega)]; omega
      rw [e3] at bad
      rw [e1, e3] at k0 k2
      have hi6 := (ok.2.2.2.2.2.1 m hm).1
      have hmm : (nn m).toInt = 0 ∨ (nn m).toInt = 1 := by rw [nn_toInt (by omega)]; omega
      by_cases hp : td_hp A f = true
      · refine g_aload_n k79_0 rfl ?_
        refine g_iload_n k79_1 rfl ?_
        refine m_callV1 k79_2 s79_2 c79_2 l68 (by omega) rfl rfl r79_2 rfl ?_
        refine s_68a hdy ok hS.1 hf ht ?_
        refine af_ret ?_
        refine g_astore_n k79_5 rfl rfl ?_
        refine g_iload_n k79_6 rfl ?_
        refine g_callS1 k79_7 s79_7 c79_7 l60 (by omega) rfl rfl r79_7 ?_
        refine s_60 ?_
        refine af_ret ?_
        refine g_ifeq_f k79_10 (t := 36) rfl (by rw [bb_t hmm]; decide) ?_
        refine g_aload_n k79_13 rfl ?_
        refine m_callV0 k79_14 s79_14 c79_14 l80 (by omega) trivial rfl r79_14 (by assumption) ?_
        refine s_80 hS.1 hf ?_
        refine af_ret ?_
        refine g_ifne_t k79_17 (t := 36) rfl (by rw [bb_t hp]; decide) ?_
        refine g_iconst (v := nn 0) k79_36 ci_0 ?_
        refine g_callS1 k79_37 s79_37 c79_37 l69 (by omega) rfl rfl r79_37 ?_
        refine s_69b ?_
        refine af_thr (o79 _) ?_
        exact bad (fun q => by rw [hp] at q; cases q.2.2.2.1)
      · have hp' : td_hp A f = false := by simpa using hp
        by_cases hl : m = 0 ∧ td_hl A f = true
        · refine g_aload_n k79_0 rfl ?_
          refine g_iload_n k79_1 rfl ?_
          refine m_callV1 k79_2 s79_2 c79_2 l68 (by omega) rfl rfl r79_2 rfl ?_
          refine s_68a hdy ok hS.1 hf ht ?_
          refine af_ret ?_
          refine g_astore_n k79_5 rfl rfl ?_
          refine g_iload_n k79_6 rfl ?_
          refine g_callS1 k79_7 s79_7 c79_7 l60 (by omega) rfl rfl r79_7 ?_
          refine s_60 ?_
          refine af_ret ?_
          refine g_ifeq_f k79_10 (t := 36) rfl (by rw [bb_t hmm]; decide) ?_
          refine g_aload_n k79_13 rfl ?_
          refine m_callV0 k79_14 s79_14 c79_14 l80 (by omega) trivial rfl r79_14 (by assumption) ?_
          refine s_80 hS.1 hf ?_
          refine af_ret ?_
          refine g_ifne_f k79_17 (t := 36) rfl (bb_f hp) ?_
          refine g_iload_n k79_20 rfl ?_
          refine g_iconst (v := nn 1) k79_21 ci_1 ?_
          refine g_iceq_f k79_22 (t := 32) rfl (by rw [hl.1]; decide) ?_
          refine g_aload_n k79_25 rfl ?_
          refine m_callV0 k79_26 s79_26 c79_26 l71 (by omega) trivial rfl r79_26 (by assumption) ?_
          refine s_71 hS.1 hf ?_
          refine af_ret ?_
          refine g_ifne_t k79_29 (t := 36) rfl (by rw [bb_t hl.2]; decide) ?_
          refine g_iconst (v := nn 0) k79_36 ci_0 ?_
          refine g_callS1 k79_37 s79_37 c79_37 l69 (by omega) rfl rfl r79_37 ?_
          refine s_69b ?_
          refine af_thr (o79 _) ?_
          exact bad (fun q => by have := q.2.2.2.2 hl.1; rw [hl.2] at this; cases this)
        · have hg : m = 0 → td_hl A f = false := fun q => by
            cases hh : td_hl A f with
            | false => rfl
            | true => exact absurd ⟨q, hh⟩ hl
          have rest : go (tb_P L xs) 79 40 [some (.ref 0), some (.int (nn m)), some (.int (nn f)), some (.ref (F f))] [] (mk dy σ ρ τ) Q := by
            by_cases h6 : td_ic A m = 6
            · refine g_aload_n k79_40 rfl ?_
              refine m_get k79_41 f79_41 rfl rfl ?_
              refine m_get k79_44 f79_44 rfl rfl ?_
              refine g_iload_n k79_47 rfl ?_
              refine m_callV1 k79_48 s79_48 c79_48 l12 (by omega) rfl rfl r79_48 rfl ?_
              refine s_12 hS.1 hm ?_
              refine af_ret ?_
              refine g_bipush (v := nn 6) k79_51 cb_6 ?_
              refine g_icne_f k79_53 (t := 64) rfl (by rw [h6]) ?_
              refine m_throw k79_56 n79_56 k79_59 k79_60 k79_63 x79_56 (by omega) r79_56 (o79 _) ?_
              exact k2 ⟨hx, hz.1, ht, hp', hg⟩ h6 (hS.thr ok)
            · refine g_aload_n k79_40 rfl ?_
              refine m_get k79_41 f79_41 rfl rfl ?_
              refine m_get k79_44 f79_44 rfl rfl ?_
              refine g_iload_n k79_47 rfl ?_
              refine m_callV1 k79_48 s79_48 c79_48 l12 (by omega) rfl rfl r79_48 rfl ?_
              refine s_12 hS.1 hm ?_
              refine af_ret ?_
              refine g_bipush (v := nn 6) k79_51 cb_6 ?_
              refine g_icne_t k79_53 (t := 64) rfl (by rw [Ne, nn_inj (by omega) (by omega)]; exact h6) ?_
              refine g_aload_n k79_64 rfl ?_
              refine m_get k79_65 f79_65 rfl rfl ?_
              refine m_get k79_68 f79_68 rfl rfl ?_
              refine g_iload_n k79_71 rfl ?_
              refine g_aload_n k79_72 rfl ?_
              refine m_callV2 k79_73 s79_73 c79_73 l81 (by omega) ⟨rfl, rfl⟩ rfl r79_73 rfl ?_
              refine s_81 hdy ok hS.1 hm (by omega) hf (fun τ1 ht1 hC1 => ?_)
              refine af_ret ?_
              refine g_ireturn k79_76 t79 ?_
              exact k0 ⟨hx, hz.1, ht, hp', hg⟩ (by omega) _ _ _ ⟨⟨hS.1.ai hm ok, hC1, hS.2.2.agr (fun a k h => up2_ne (by omega))⟩, (fX.rf σ).up (by omega), ht1⟩
          by_cases hm1 : m = 1
          · refine g_aload_n k79_0 rfl ?_
            refine g_iload_n k79_1 rfl ?_
            refine m_callV1 k79_2 s79_2 c79_2 l68 (by omega) rfl rfl r79_2 rfl ?_
            refine s_68a hdy ok hS.1 hf ht ?_
            refine af_ret ?_
            refine g_astore_n k79_5 rfl rfl ?_
            refine g_iload_n k79_6 rfl ?_
            refine g_callS1 k79_7 s79_7 c79_7 l60 (by omega) rfl rfl r79_7 ?_
            refine s_60 ?_
            refine af_ret ?_
            refine g_ifeq_f k79_10 (t := 36) rfl (by rw [bb_t hmm]; decide) ?_
            refine g_aload_n k79_13 rfl ?_
            refine m_callV0 k79_14 s79_14 c79_14 l80 (by omega) trivial rfl r79_14 (by assumption) ?_
            refine s_80 hS.1 hf ?_
            refine af_ret ?_
            refine g_ifne_f k79_17 (t := 36) rfl (bb_f hp) ?_
            refine g_iload_n k79_20 rfl ?_
            refine g_iconst (v := nn 1) k79_21 ci_1 ?_
            refine g_iceq_t k79_22 (t := 32) rfl (by rw [hm1]) ?_
            refine g_iconst (v := nn 1) k79_32 ci_1 ?_
            refine g_goto k79_33 (t := 37) rfl ?_
            refine g_callS1 k79_37 s79_37 c79_37 l69 (by omega) rfl rfl r79_37 ?_
            refine s_69a ?_
            refine af_void ?_
            exact rest
          · refine g_aload_n k79_0 rfl ?_
            refine g_iload_n k79_1 rfl ?_
            refine m_callV1 k79_2 s79_2 c79_2 l68 (by omega) rfl rfl r79_2 rfl ?_
            refine s_68a hdy ok hS.1 hf ht ?_
            refine af_ret ?_
            refine g_astore_n k79_5 rfl rfl ?_
            refine g_iload_n k79_6 rfl ?_
            refine g_callS1 k79_7 s79_7 c79_7 l60 (by omega) rfl rfl r79_7 ?_
            refine s_60 ?_
            refine af_ret ?_
            refine g_ifeq_f k79_10 (t := 36) rfl (by rw [bb_t hmm]; decide) ?_
            refine g_aload_n k79_13 rfl ?_
            refine m_callV0 k79_14 s79_14 c79_14 l80 (by omega) trivial rfl r79_14 (by assumption) ?_
            refine s_80 hS.1 hf ?_
            refine af_ret ?_
            refine g_ifne_f k79_17 (t := 36) rfl (bb_f hp) ?_
            refine g_iload_n k79_20 rfl ?_
            refine g_iconst (v := nn 1) k79_21 ci_1 ?_
            refine g_iceq_f k79_22 (t := 32) rfl (by rw [Ne, nn_inj (by omega) (by omega)]; exact hm1) ?_
            refine g_aload_n k79_25 rfl ?_
            refine m_callV0 k79_26 s79_26 c79_26 l71 (by omega) trivial rfl r79_26 (by assumption) ?_
            refine s_71 hS.1 hf ?_
            refine af_ret ?_
            refine g_ifne_f k79_29 (t := 36) rfl (bb_f (by rw [hg (by omega)]; decide)) ?_
            refine g_iconst (v := nn 1) k79_32 ci_1 ?_
            refine g_goto k79_33 (t := 37) rfl ?_
            refine g_callS1 k79_37 s79_37 c79_37 l69 (by omega) rfl rfl r79_37 ?_
            refine s_69a ?_
            refine af_void ?_
            exact rest
    · refine g_aload_n k79_0 rfl ?_
      refine g_iload_n k79_1 rfl ?_
      refine m_callV1 k79_2 s79_2 c79_2 l68 (by omega) rfl rfl r79_2 rfl ?_
      refine s_68a hdy ok hS.1 hf ht ?_
      refine af_ret ?_
      refine g_astore_n k79_5 rfl rfl ?_
      refine g_iload_n k79_6 rfl ?_
      refine g_callS1 k79_7 s79_7 c79_7 l60 (by omega) rfl rfl r79_7 ?_
      refine s_60 ?_
      refine af_ret ?_
      refine g_ifeq_t k79_10 (t := 36) rfl (bb_f (fun q => hx (by omega))) ?_
      refine g_iconst (v := nn 0) k79_36 ci_0 ?_
      refine g_callS1 k79_37 s79_37 c79_37 l69 (by omega) rfl rfl r79_37 ?_
      refine s_69b ?_
      refine af_thr (o79 _) ?_
      exact bad (fun q => hx q.1)
  · refine g_aload_n k79_0 rfl ?_
    refine g_iload_n k79_1 rfl ?_
    refine m_callV1 k79_2 s79_2 c79_2 l68 (by omega) rfl rfl r79_2 rfl ?_
    refine s_68b hdy ok hS.1 hz ?_
    refine af_thr (o79 _) ?_
    exact bad (fun q => hz ⟨q.2.1, q.2.2.1⟩)
/-- a duty may be asked for so -/
def dok (A : TD) (x z : Int32) : Prop := ((x.toInt = 0 ∨ x.toInt = 6) ∧ z.toInt = 0) ∨ ((1 ≤ x.toInt ∧ x.toInt ≤ 5) ∧ (0 ≤ z.toInt ∧ z.toInt < td_ne A) ∧ td_dk A x.toInt.toNat z.toInt.toNat = true)
theorem s_87a (hdy : dy.length < 100000) (ok : TOK A) (hX : RepX A F E dy σ ρ) (h : dok A x z) (kk : Q (.inl (some (.int (nn 1)))) (mk dy σ ρ τ)) : go (tb_P L xs) 87 0 [some (.ref 0), some (.int x), some (.int z), none] [] (mk dy σ ρ τ) Q := by
  have t6 := ti_6
  rcases h with ⟨hx, hz⟩ | ⟨hx, hz, hd⟩
  · have hz0 : z = 0 := by rw [← Int32.toInt_inj, hz]; rfl
    refine g_iload_n k87_0 rfl ?_
    refine g_ifeqT k87_1 (t := 10) rfl (fun h1 => ?_) (fun h1 => ?_)
    · skip
      refine g_iload_n k87_10 rfl ?_
      refine g_ifne_f k87_11 (t := 18) rfl hz0 ?_
      refine g_iconst (v := nn 1) k87_14 ci_1 ?_
      refine g_goto k87_15 (t := 19) rfl ?_
      refine g_breturn k87_19 t87 (by decide) ?_
      exact kk
    · skip
      refine g_iload_n k87_4 rfl ?_
      refine g_bipush (v := nn 6) k87_5 cb_6 ?_
      refine g_icneT k87_7 (t := 20) rfl (fun h7 => ?_) (fun h7 => ?_)
      · skip
        exfalso
        omega
      · skip
        refine g_iload_n k87_10 rfl ?_
        refine g_ifne_f k87_11 (t := 18) rfl hz0 ?_
        refine g_iconst (v := nn 1) k87_14 ci_1 ?_
        refine g_goto k87_15 (t := 19) rfl ?_
        refine g_breturn k87_19 t87 (by decide) ?_
        exact kk
  · have hne := ok.2.2.1
    obtain ⟨kd, rfl, hk⟩ := in_nn (x := x) (n := 6) ⟨by omega, by omega⟩
    obtain ⟨e, rfl, he⟩ := in_nn hz
    have e1 : (nn e).toInt.toNat = e := by rw [nn_toInt (by omega)]; rfl
    have e2 : (nn kd).toInt.toNat = kd := by rw [nn_toInt (by omega)]; rfl
    rw [e1, e2] at hd
    rw [nn_toInt (by omega)] at hx
    obtain ⟨⟨h47, hA8, hA3⟩, hma, _⟩ := (hX.2.1.2.1 e he).2
    refine g_iload_n k87_0 rfl ?_
    refine g_ifeq_f k87_1 (t := 10) rfl (by rw [← nn_0, Ne, nn_inj (by omega) (by omega)]; omega) ?_
    refine g_iload_n k87_4 rfl ?_
    refine g_bipush (v := nn 6) k87_5 cb_6 ?_
    refine g_icne_t k87_7 (t := 20) rfl (by rw [Ne, nn_inj (by omega) (by omega)]; omega) ?_
    refine g_aload_n k87_20 rfl ?_
    refine m_get k87_21 f87_21 rfl rfl ?_
    refine g_iload_n k87_24 rfl ?_
    refine m_callV1 k87_25 s87_25 c87_25 l62 (by omega) rfl rfl r87_25 rfl ?_
    refine s_62a hdy ok hX he ?_
    refine af_ret ?_
    refine g_astore_n k87_28 rfl rfl ?_
    refine g_aload_n k87_29 rfl ?_
    refine g_ifnull_f k87_30 ?_
    refine g_iload_n k87_33 rfl ?_
    refine g_ifle_f k87_34 (t := 55) rfl (by rw [nn_toInt (by omega)]; omega) ?_
    refine g_iload_n k87_37 rfl ?_
    refine g_bipush (v := nn 6) k87_38 cb_6 ?_
    refine g_icge_f k87_40 (t := 55) rfl (by rw [nn_toInt (by omega), ti_6]; omega) ?_
    refine g_aload_n k87_43 rfl ?_
    refine g_iload_n k87_44 rfl ?_
    refine m_callV1 k87_45 s87_45 c87_45 l21 (by omega) rfl rfl r87_45 (by assumption) ?_
    refine s_21 ok hX he (by omega) ?_
    refine af_ret ?_
    refine g_ifeq_f k87_48 (t := 55) rfl (by rw [bb_t hd]; decide) ?_
    refine g_iconst (v := nn 1) k87_51 ci_1 ?_
    refine g_goto k87_52 (t := 56) rfl ?_
    refine g_breturn k87_56 t87 (by decide) ?_
    exact kk
theorem s_87b (hdy : dy.length < 100000) (ok : TOK A) (hX : RepX A F E dy σ ρ) (h : ¬ dok A x z) (kk : Q (.inl (some (.int (nn 0)))) (mk dy σ ρ τ)) : go (tb_P L xs) 87 0 [some (.ref 0), some (.int x), some (.int z), none] [] (mk dy σ ρ τ) Q := by
  have t6 := ti_6
  have hne := ok.2.2.1
  by_cases hx : x.toInt = 0 ∨ x.toInt = 6
  · refine g_iload_n k87_0 rfl ?_
    refine g_ifeqT k87_1 (t := 10) rfl (fun h1 => ?_) (fun h1 => ?_)
    · skip
      refine g_iload_n k87_10 rfl ?_
      refine g_ifneT k87_11 (t := 18) rfl (fun h11 => ?_) (fun h11 => ?_)
      · skip
        refine g_iconst (v := nn 0) k87_18 ci_0 ?_
        refine g_breturn k87_19 t87 (by decide) ?_
        first
          | exact kk
          | (exfalso
             exact h (Or.inl ⟨hx, by omega⟩))
      · skip
        refine g_iconst (v := nn 1) k87_14 ci_1 ?_
        refine g_goto k87_15 (t := 19) rfl ?_
        refine g_breturn k87_19 t87 (by decide) ?_
        first
          | exact kk
          | (exfalso
             exact h (Or.inl ⟨hx, by omega⟩))
    · skip
      refine g_iload_n k87_4 rfl ?_
      refine g_bipush (v := nn 6) k87_5 cb_6 ?_
      refine g_icneT k87_7 (t := 20) rfl (fun h7 => ?_) (fun h7 => ?_)
      · skip
        exfalso
        omega
      · skip
        refine g_iload_n k87_10 rfl ?_
        refine g_ifneT k87_11 (t := 18) rfl (fun h11 => ?_) (fun h11 => ?_)
        · skip
          refine g_iconst (v := nn 0) k87_18 ci_0 ?_
          refine g_breturn k87_19 t87 (by decide) ?_
          first
            | exact kk
            | (exfalso
               exact h (Or.inl ⟨hx, by omega⟩))
        · skip
          refine g_iconst (v := nn 1) k87_14 ci_1 ?_
          refine g_goto k87_15 (t := 19) rfl ?_
          refine g_breturn k87_19 t87 (by decide) ?_
          first
            | exact kk
            | (exfalso
               exact h (Or.inl ⟨hx, by omega⟩))
  · by_cases hz : 0 ≤ z.toInt ∧ z.toInt < td_ne A
    · obtain ⟨e, rfl, he⟩ := in_nn hz
      have e1 : (nn e).toInt.toNat = e := by rw [nn_toInt (by omega)]; rfl
      obtain ⟨⟨h47, hA8, hA3⟩, hma, _⟩ := (hX.2.1.2.1 e he).2
      by_cases hk : 1 ≤ x.toInt ∧ x.toInt ≤ 5
      · obtain ⟨kd, rfl, hk6⟩ := in_nn (x := x) (n := 6) ⟨by omega, by omega⟩
        have e2 : (nn kd).toInt.toNat = kd := by rw [nn_toInt (by omega)]; rfl
        have hd : ¬ td_dk A kd e = true := fun q => h (Or.inr ⟨hk, hz, by rw [e1, e2]; exact q⟩)
        refine g_iload_n k87_0 rfl ?_
        refine g_ifeq_f k87_1 (t := 10) rfl (fun q => hx (Or.inl (by rw [q]; rfl))) ?_
        refine g_iload_n k87_4 rfl ?_
        refine g_bipush (v := nn 6) k87_5 cb_6 ?_
        refine g_icne_t k87_7 (t := 20) rfl (fun q => hx (Or.inr (by rw [q]; exact ti_6))) ?_
        refine g_aload_n k87_20 rfl ?_
        refine m_get k87_21 f87_21 rfl rfl ?_
        refine g_iload_n k87_24 rfl ?_
        refine m_callV1 k87_25 s87_25 c87_25 l62 (by omega) rfl rfl r87_25 rfl ?_
        refine s_62a hdy ok hX he ?_
        refine af_ret ?_
        refine g_astore_n k87_28 rfl rfl ?_
        refine g_aload_n k87_29 rfl ?_
        refine g_ifnull_f k87_30 ?_
        refine g_iload_n k87_33 rfl ?_
        refine g_ifle_f k87_34 (t := 55) rfl (by omega) ?_
        refine g_iload_n k87_37 rfl ?_
        refine g_bipush (v := nn 6) k87_38 cb_6 ?_
        refine g_icge_f k87_40 (t := 55) rfl (by rw [ti_6]; omega) ?_
        refine g_aload_n k87_43 rfl ?_
        refine g_iload_n k87_44 rfl ?_
        refine m_callV1 k87_45 s87_45 c87_45 l21 (by omega) rfl rfl r87_45 (by assumption) ?_
        refine s_21 ok hX he (by omega) ?_
        refine af_ret ?_
        refine g_ifeq_t k87_48 (t := 55) rfl (bb_f hd) ?_
        refine g_iconst (v := nn 0) k87_55 ci_0 ?_
        refine g_breturn k87_56 t87 (by decide) ?_
        exact kk
      · refine g_iload_n k87_0 rfl ?_
        refine g_ifeq_f k87_1 (t := 10) rfl (fun q => hx (Or.inl (by rw [q]; rfl))) ?_
        refine g_iload_n k87_4 rfl ?_
        refine g_bipush (v := nn 6) k87_5 cb_6 ?_
        refine g_icne_t k87_7 (t := 20) rfl (fun q => hx (Or.inr (by rw [q]; exact ti_6))) ?_
        refine g_aload_n k87_20 rfl ?_
        refine m_get k87_21 f87_21 rfl rfl ?_
        refine g_iload_n k87_24 rfl ?_
        refine m_callV1 k87_25 s87_25 c87_25 l62 (by omega) rfl rfl r87_25 rfl ?_
        refine s_62a hdy ok hX he ?_
        refine af_ret ?_
        refine g_astore_n k87_28 rfl rfl ?_
        refine g_aload_n k87_29 rfl ?_
        refine g_ifnull_f k87_30 ?_
        refine g_iload_n k87_33 rfl ?_
        refine g_ifle k87_34 (t := 55) rfl (fun h34 => ?_) (fun h34 => ?_)
        · skip
          refine g_iconst (v := nn 0) k87_55 ci_0 ?_
          refine g_breturn k87_56 t87 (by decide) ?_
          exact kk
        · skip
          refine g_iload_n k87_37 rfl ?_
          refine g_bipush (v := nn 6) k87_38 cb_6 ?_
          refine g_icge k87_40 (t := 55) rfl (fun h40 => ?_) (fun h40 => ?_)
          · skip
            refine g_iconst (v := nn 0) k87_55 ci_0 ?_
            refine g_breturn k87_56 t87 (by decide) ?_
            exact kk
          · skip
            exfalso
            omega
    · refine g_iload_n k87_0 rfl ?_
      refine g_ifeq_f k87_1 (t := 10) rfl (fun q => hx (Or.inl (by rw [q]; rfl))) ?_
      refine g_iload_n k87_4 rfl ?_
      refine g_bipush (v := nn 6) k87_5 cb_6 ?_
      refine g_icne_t k87_7 (t := 20) rfl (fun q => hx (Or.inr (by rw [q]; exact ti_6))) ?_
      refine g_aload_n k87_20 rfl ?_
      refine m_get k87_21 f87_21 rfl rfl ?_
      refine g_iload_n k87_24 rfl ?_
      refine m_callV1 k87_25 s87_25 c87_25 l62 (by omega) rfl rfl r87_25 rfl ?_
      refine s_62b hdy ok hX hz ?_
      refine af_ret ?_
      refine g_astoreq_n (x := none) k87_28 rfl rfl ?_
      refine g_aloadq_n (x := none) k87_29 rfl ?_
      refine g_ifnull_t k87_30 (t := 55) rfl ?_
      refine g_iconst (v := nn 0) k87_55 ci_0 ?_
      refine g_breturn k87_56 t87 (by decide) ?_
      exact kk
/-- what is shown behind a duty -/
def rs_dn (W : RS) (R : Option ((Nat → Nat) × Nat)) : RS := (W.1, W.2.1, match R with
  | none => (false, rs_sh W)
  | some q => (true, rd q.1 q.2))
theorem s_86t (hdy : dy.length < 100000) (kk : Q (.inl (some (.int (nn 1)))) (mk dy (up2 σ 0 7 (nn 0)) ρ τ)) : go (tb_P L xs) 86 65 [some (.ref 0), some (.int x), some (.int z), some (.int (nn 1))] [] (mk dy σ ρ τ) Q := by
  refine g_aload_n k86_65 rfl ?_
  refine g_iload_n k86_66 rfl ?_
  refine g_ifne_t k86_67 (t := 74) rfl (by decide) ?_
  refine g_iconst (v := nn 0) k86_74 ci_0 ?_
  refine m_putI k86_75 f86_75 rfl rfl rfl ?_
  refine g_aload_n k86_78 rfl ?_
  refine m_get k86_79 f86_79 rfl rfl ?_
  rw [up2_at]
  refine g_ifeq_t k86_82 (t := 103) rfl rfl ?_
  refine g_iload_n k86_103 rfl ?_
  refine g_breturn k86_104 t86 (by decide) ?_
  exact kk
theorem s_86f (hdy : dy.length < 100000) (kk : Q (.inl (some (.int (nn 0)))) (mk dy (upr (up2 σ 0 7 (nn 1)) 6 (va_cpy (σ 19) (σ 6) 0 0 7)) ρ τ)) : go (tb_P L xs) 86 65 [some (.ref 0), some (.int x), some (.int z), some (.int (nn 0))] [] (mk dy σ ρ τ) Q := by
  refine g_aload_n k86_65 rfl ?_
  refine g_iload_n k86_66 rfl ?_
  refine g_ifne_f k86_67 (t := 74) rfl rfl ?_
  refine g_iconst (v := nn 1) k86_70 ci_1 ?_
  refine g_goto k86_71 (t := 75) rfl ?_
  refine m_putI k86_75 f86_75 rfl rfl rfl ?_
  refine g_aload_n k86_78 rfl ?_
  refine m_get k86_79 f86_79 rfl rfl ?_
  rw [up2_at]
  refine g_ifeq_f k86_82 (t := 103) rfl (by decide) ?_
  refine g_aload_n k86_85 rfl ?_
  refine m_get k86_86 f86_86 rfl rfl ?_
  refine m_get k86_89 f86_89 rfl rfl ?_
  refine g_iconst (v := nn 0) k86_92 ci_0 ?_
  refine g_aload_n k86_93 rfl ?_
  refine m_get k86_94 f86_94 rfl rfl ?_
  refine g_iconst (v := nn 0) k86_97 ci_0 ?_
  refine g_bipush (v := nn 7) k86_98 cb_7 ?_
  refine m_copy k86_100 s86_100 rfl rfl rfl rfl rfl (by omega) r86_100 ?_
  refine g_iload_n k86_103 rfl ?_
  refine g_breturn k86_104 t86 (by decide) ?_
  exact kk
theorem XS.sh0 (ok : TOK A) (h : XS A W F E dy σ ρ τ) (hs : fD dy σ σ') (ht : tE τ τ') (hC : CX A τ') : oX A (rs_dn W none) F E σ τ dy (up2 σ' 0 7 (nn 0)) ρ τ' := by
  have h1 : XS A W F E dy σ' ρ τ' := ⟨h.1.agr ok hs.ag, hC, h.2.2.agr hs.agV⟩
  exact ⟨⟨h1.1.agr ok ⟨fun a k q => up2_ne (by omega), fun a k s q _ _ => up2_ne (by omega)⟩, hC, ⟨h1.2.2.1, h1.2.2.2.1, rfl, fun q => by cases q⟩⟩, hs.fX.up (by omega), ht⟩
theorem XS.sh1 (ok : TOK A) (h : XS A W F E dy σ ρ τ) (hs : fD dy σ σ') (ht : tE τ τ') (hC : CX A τ') (hr : row7 σ' D) (hd : ∀ v, v < 6 → D v = d v) (hp : D 6 = p) : oX A (rs_dn W (some (d, p))) F E σ τ dy (upr (up2 σ' 0 7 (nn 1)) 6 (va_cpy (σ' 19) (σ' 6) 0 0 7)) ρ τ' := by
  have h1 : XS A W F E dy σ' ρ τ' := ⟨h.1.agr ok hs.ag, hC, h.2.2.agr hs.agV⟩
  refine ⟨⟨h1.1.agr ok ⟨fun a k q => by rw [upr_ne (by omega), up2_ne (by omega)], fun a k s q _ _ => by rw [upr_ne (by omega), up2_ne (by omega)]⟩, hC, ⟨h1.2.2.1, h1.2.2.2.1, rfl, fun _ v hv => ?_⟩⟩, (hs.fX.up (by omega)).ur (by omega), ht⟩
  rw [upr_at, cpy7, if_pos hv, hr v hv]
  show nn (D v) = rd d p v
  unfold rd
  by_cases c : v = 6
  · rw [if_pos c, c, hp]
  · rw [if_neg c, hd v (by omega)]
theorem s_86x (hdy : dy.length < 100000) (ok : TOK A) (hS : XS A W F E dy σ ρ τ) (h : ¬ dok A x z) (kk : oX A W F E σ τ (dy ++ [(14, 0)]) σ ρ τ → Q (.inr 9) (mk (dy ++ [(14, 0)]) σ ρ τ)) : go (tb_P L xs) 86 0 [some (.ref 0), some (.int x), some (.int z), none] [] (mk dy σ ρ τ) Q := by
  refine g_aload_n k86_0 rfl ?_
  refine g_iload_n k86_1 rfl ?_
  refine g_iload_n k86_2 rfl ?_
  refine m_callV2 k86_3 s86_3 c86_3 l87 (by omega) ⟨rfl, rfl⟩ rfl r86_3 rfl ?_
  refine s_87b hdy ok hS.1 h ?_
  refine af_ret ?_
  refine g_callS1 k86_6 s86_6 c86_6 l69 (by omega) rfl rfl r86_6 ?_
  refine s_69b ?_
  refine af_thr (o86 _) ?_
  exact kk (hS.thr ok)
theorem s_86_0 (hdy : dy.length < 100000) (ok : TOK A) (hS : XS A W F E dy σ ρ τ) (kt : td_R0 A = none → ∀ σ' τ', oX A (rs_dn W (td_R0 A)) F E σ τ dy σ' ρ τ' → Q (.inl (some (.int (nn 1)))) (mk dy σ' ρ τ')) (kf : ∀ d p, td_R0 A = some (d, p) → ∀ σ' τ', oX A (rs_dn W (td_R0 A)) F E σ τ dy σ' ρ τ' → Q (.inl (some (.int (nn 0)))) (mk dy σ' ρ τ')) : go (tb_P L xs) 86 0 [some (.ref 0), some (.int (nn 0)), some (.int (nn 0)), none] [] (mk dy σ ρ τ) Q := by
  have hd0 : dok A (nn 0) (nn 0) := Or.inl ⟨Or.inl rfl, rfl⟩
  have r0 : ∀ R, td_R0 A = R → (if td_ri A (rd (td_in A) 0) = true then none else some (td_in A, 0)) = R := fun R h => h
  have dr : ∀ v, v < 6 → dp (td_in A) 0 v = td_in A v := fun v hv => by unfold dp; rw [if_neg (by omega)]
  refine g_aload_n k86_0 rfl ?_
  refine g_iload_n k86_1 rfl ?_
  refine g_iload_n k86_2 rfl ?_
  refine m_callV2 k86_3 s86_3 c86_3 l87 (by omega) ⟨rfl, rfl⟩ rfl r86_3 rfl ?_
  refine s_87a hdy ok hS.1 hd0 ?_
  refine af_ret ?_
  refine g_callS1 k86_6 s86_6 c86_6 l69 (by omega) rfl rfl r86_6 ?_
  refine s_69a ?_
  refine af_void ?_
  refine g_iload_n k86_9 rfl ?_
  refine g_ifne_f k86_10 (t := 24) rfl rfl ?_
  refine g_aload_n k86_13 rfl ?_
  refine m_get k86_14 f86_14 rfl rfl ?_
  refine m_callV0 k86_17 s86_17 c86_17 l8 (by omega) trivial rfl r86_17 rfl ?_
  refine s_8 hdy ok hS.1 hS.2.1 (fun σ1 τ1 hs1 ht1 hC1 hr1 => ?_)
  refine af_ret ?_
  by_cases hri : td_ri A (rd (td_in A) 0) = true
  · have hR : td_R0 A = none := by unfold td_R0; rw [if_pos hri]
    rw [hR] at kt
    rw [bb_t hri]
    refine g_istore_n k86_20 rfl rfl ?_
    refine g_goto k86_21 (t := 65) rfl ?_
    exact s_86t hdy (kt rfl _ _ (hS.sh0 ok hs1 ht1 hC1))
  · have hR : td_R0 A = some (td_in A, 0) := by unfold td_R0; rw [if_neg hri]
    rw [hR] at kf
    rw [bb_f hri]
    refine g_istore_n k86_20 rfl rfl ?_
    refine g_goto k86_21 (t := 65) rfl ?_
    exact s_86f hdy (kf _ _ rfl _ _ (hS.sh1 ok hs1 ht1 hC1 hr1 dr rfl))
theorem s_86_6 (hdy : dy.length < 100000) (ok : TOK A) (hS : XS A W F E dy σ ρ τ) (kt : td_R6 A = none → ∀ σ' τ', oX A (rs_dn W (td_R6 A)) F E σ τ dy σ' ρ τ' → Q (.inl (some (.int (nn 1)))) (mk dy σ' ρ τ')) (kf : ∀ d p, td_R6 A = some (d, p) → ∀ σ' τ', oX A (rs_dn W (td_R6 A)) F E σ τ dy σ' ρ τ' → Q (.inl (some (.int (nn 0)))) (mk dy σ' ρ τ')) : go (tb_P L xs) 86 0 [some (.ref 0), some (.int (nn 6)), some (.int (nn 0)), none] [] (mk dy σ ρ τ) Q := by
  have hd0 : dok A (nn 6) (nn 0) := Or.inl ⟨Or.inr ti_6, rfl⟩
  refine g_aload_n k86_0 rfl ?_
  refine g_iload_n k86_1 rfl ?_
  refine g_iload_n k86_2 rfl ?_
  refine m_callV2 k86_3 s86_3 c86_3 l87 (by omega) ⟨rfl, rfl⟩ rfl r86_3 rfl ?_
  refine s_87a hdy ok hS.1 hd0 ?_
  refine af_ret ?_
  refine g_callS1 k86_6 s86_6 c86_6 l69 (by omega) rfl rfl r86_6 ?_
  refine s_69a ?_
  refine af_void ?_
  refine g_iload_n k86_9 rfl ?_
  refine g_ifne_t k86_10 (t := 24) rfl (by decide) ?_
  refine g_iload_n k86_24 rfl ?_
  refine g_bipush (v := nn 6) k86_25 cb_6 ?_
  refine g_icne_f k86_27 (t := 41) rfl rfl ?_
  refine g_aload_n k86_30 rfl ?_
  refine m_get k86_31 f86_31 rfl rfl ?_
  refine m_callV0 k86_34 s86_34 c86_34 l88 (by omega) trivial rfl r86_34 rfl ?_
  refine s_88 hdy ok hS.1 hS.2.1 (fun σ1 τ1 D hs1 ht1 hC1 hr1 hL => ?_) (fun σ1 τ1 hs1 ht1 hC1 hno => ?_)
  · refine af_ret ?_
    obtain ⟨d, p, hR, hd, hp⟩ := c6_lst ok hL
    rw [hR] at kf
    refine g_istore_n k86_37 rfl rfl ?_
    refine g_goto k86_38 (t := 65) rfl ?_
    exact s_86f hdy (kf _ _ rfl _ _ (hS.sh1 ok hs1 ht1 hC1 hr1 hd hp))
  · refine af_ret ?_
    have hR := (c6_no ok).mp hno
    rw [hR] at kt
    refine g_istore_n k86_37 rfl rfl ?_
    refine g_goto k86_38 (t := 65) rfl ?_
    exact s_86t hdy (kt rfl _ _ (hS.sh0 ok hs1 ht1 hC1))
theorem s_86_e (hdy : dy.length < 100000) (ok : TOK A) (hS : XS A W F E dy σ ρ τ) (he : e < td_ne A) (hk : 1 ≤ kd ∧ kd ≤ 5) (hdk : td_dk A kd e = true) (kt : td_R A kd e = none → ∀ σ' τ', oX A (rs_dn W (td_R A kd e)) F E σ τ dy σ' ρ τ' → Q (.inl (some (.int (nn 1)))) (mk dy σ' ρ τ')) (kf : ∀ d p, td_R A kd e = some (d, p) → ∀ σ' τ', oX A (rs_dn W (td_R A kd e)) F E σ τ dy σ' ρ τ' → Q (.inl (some (.int (nn 0)))) (mk dy σ' ρ τ')) : go (tb_P L xs) 86 0 [some (.ref 0), some (.int (nn kd)), some (.int (nn e)), none] [] (mk dy σ ρ τ) Q := by
  have hne := ok.2.2.1
  have hd0 : dok A (nn kd) (nn e) := Or.inr ⟨by rw [nn_toInt (by omega)]; omega, by rw [nn_toInt (by omega)]; omega, by rw [nn_toInt (by omega), nn_toInt (by omega)]; exact hdk⟩
  obtain ⟨⟨h47, hA8, hA3⟩, hma, _⟩ := (hS.1.2.1.2.1 e he).2
  refine g_aload_n k86_0 rfl ?_
  refine g_iload_n k86_1 rfl ?_
  refine g_iload_n k86_2 rfl ?_
  refine m_callV2 k86_3 s86_3 c86_3 l87 (by omega) ⟨rfl, rfl⟩ rfl r86_3 rfl ?_
  refine s_87a hdy ok hS.1 hd0 ?_
  refine af_ret ?_
  refine g_callS1 k86_6 s86_6 c86_6 l69 (by omega) rfl rfl r86_6 ?_
  refine s_69a ?_
  refine af_void ?_
  refine g_iload_n k86_9 rfl ?_
  refine g_ifne_t k86_10 (t := 24) rfl (by rw [← nn_0, Ne, nn_inj (by omega) (by omega)]; omega) ?_
  refine g_iload_n k86_24 rfl ?_
  refine g_bipush (v := nn 6) k86_25 cb_6 ?_
  refine g_icne_t k86_27 (t := 41) rfl (by rw [Ne, nn_inj (by omega) (by omega)]; omega) ?_
  refine g_aload_n k86_41 rfl ?_
  refine m_get k86_42 f86_42 rfl rfl ?_
  refine g_aload_n k86_45 rfl ?_
  refine g_iload_n k86_46 rfl ?_
  refine m_callV1 k86_47 s86_47 c86_47 l67 (by omega) rfl rfl r86_47 rfl ?_
  refine s_67a hdy ok hS.1 he ?_
  refine af_ret ?_
  refine g_iconst (v := nn 1) k86_50 ci_1 ?_
  refine g_iload_n k86_51 rfl ?_
  refine g_ishl k86_52 ?_
  refine m_callV2 k86_53 s86_53 c86_53 l17 (by omega) ⟨rfl, rfl⟩ rfl r86_53 rfl ?_
  refine s_17 (K := fun q => decide (q = kd)) hdy ok hS.1 hS.2.1 he (bt_1 (by omega)) (fun q _ hq => by rw [of_decide_eq_true hq]; exact hdk) ⟨kd, by omega, decide_eq_true rfl⟩ (fun σ1 τ1 D hs1 ht1 hC1 hr1 hL hall => ?_) (fun σ1 τ1 y M hs1 ht1 hC1 hy hM hN => ?_)
  · refine af_ret ?_
    obtain ⟨q, hq, hqk, hL⟩ := hL
    rw [of_decide_eq_true hqk] at hL
    obtain ⟨d, p, hR, hd, hp⟩ := cl_lst ok he (dk_hk hdk) hL
    rw [hR] at kf
    refine g_ifeq_t k86_56 (t := 63) rfl rfl ?_
    refine g_iconst (v := nn 0) k86_63 ci_0 ?_
    refine g_istore_n k86_64 rfl rfl ?_
    exact s_86f hdy (kf _ _ rfl _ _ (hS.sh1 ok hs1 ht1 hC1 hr1 hd hp))
  · refine af_ret ?_
    obtain ⟨q, hq, hqM⟩ := hN
    obtain ⟨h1, h2⟩ := (hM q hq).mp hqM
    rw [of_decide_eq_true h1] at h2
    have hR := (cl_no ok he (dk_hk hdk)).mp h2
    rw [hR] at kt
    refine g_ifeq_f k86_56 (t := 63) rfl (fun h => by have := (bt_z hy).mp (by rw [h]; rfl) q hq; rw [hqM] at this; cases this) ?_
    refine g_iconst (v := nn 1) k86_59 ci_1 ?_
    refine g_goto k86_60 (t := 64) rfl ?_
    refine g_istore_n k86_64 rfl rfl ?_
    exact s_86t hdy (kt rfl _ _ (hS.sh0 ok hs1 ht1 hC1))
theorem s_91 (hdy : dy.length < 100000) (ok : TOK A) (hS : XS A W F E dy σ ρ τ) (k1 : ¬ (0 ≤ x.toInt ∧ x.toInt < 7) → oX A W F E σ τ (dy ++ [(14, 0)]) σ ρ τ → Q (.inr 9) (mk (dy ++ [(14, 0)]) σ ρ τ)) (k0 : 0 ≤ x.toInt ∧ x.toInt < 7 → Q (.inl (some (.int (if rs_sw W = true then rs_sh W x.toInt.toNat else -1)))) (mk dy σ ρ τ)) : go (tb_P L xs) 91 0 [some (.ref 0), some (.int x)] [] (mk dy σ ρ τ) Q := by
  have h7 := hS.2.2.2.2.1
  by_cases hx : 0 ≤ x.toInt ∧ x.toInt < 7
  · have hq := k0 hx
    obtain ⟨v, rfl, hv⟩ := in_nn (n := 7) hx
    rw [show (nn v).toInt.toNat = v by rw [nn_toInt (by omega)]; rfl] at hq
    by_cases hsw : rs_sw W = true
    · have g6 := hS.2.2.2.2.2 hsw v hv
      refine g_iload_n k91_0 rfl ?_
      refine g_bipush (v := nn 7) k91_1 cb_7 ?_
      refine g_callS2 k91_3 s91_3 c91_3 l26 (by omega) ⟨rfl, rfl⟩ rfl r91_3 ?_
      refine s_26 ?_
      refine af_ret ?_
      rw [ti_7, bb_t hx]
      refine g_callS1 k91_6 s91_6 c91_6 l69 (by omega) rfl rfl r91_6 ?_
      refine s_69a ?_
      refine af_void ?_
      refine g_aload_n k91_9 rfl ?_
      refine m_get k91_10 f91_10 rfl rfl ?_
      rw [h7]
      refine g_ifeq_f k91_13 (t := 25) rfl (by rw [bb_t hsw]; decide) ?_
      refine g_aload_n k91_16 rfl ?_
      refine m_get k91_17 f91_17 rfl rfl ?_
      refine g_iload_n k91_20 rfl ?_
      refine m_iald k91_21 hdy rfl rfl (by omega) (by omega) ?_
      rw [g6]
      refine g_goto k91_22 (t := 26) rfl ?_
      refine g_ireturn k91_26 t91 ?_
      rw [if_pos hsw] at hq
      exact hq
    · refine g_iload_n k91_0 rfl ?_
      refine g_bipush (v := nn 7) k91_1 cb_7 ?_
      refine g_callS2 k91_3 s91_3 c91_3 l26 (by omega) ⟨rfl, rfl⟩ rfl r91_3 ?_
      refine s_26 ?_
      refine af_ret ?_
      rw [ti_7, bb_t hx]
      refine g_callS1 k91_6 s91_6 c91_6 l69 (by omega) rfl rfl r91_6 ?_
      refine s_69a ?_
      refine af_void ?_
      refine g_aload_n k91_9 rfl ?_
      refine m_get k91_10 f91_10 rfl rfl ?_
      rw [h7]
      refine g_ifeq_t k91_13 (t := 25) rfl (bb_f hsw) ?_
      refine g_iconst (v := -1) k91_25 ci_m1 ?_
      refine g_ireturn k91_26 t91 ?_
      rw [if_neg hsw] at hq
      exact hq
  · refine g_iload_n k91_0 rfl ?_
    refine g_bipush (v := nn 7) k91_1 cb_7 ?_
    refine g_callS2 k91_3 s91_3 c91_3 l26 (by omega) ⟨rfl, rfl⟩ rfl r91_3 ?_
    refine s_26 ?_
    refine af_ret ?_
    rw [ti_7, bb_f hx]
    refine g_callS1 k91_6 s91_6 c91_6 l69 (by omega) rfl rfl r91_6 ?_
    refine s_69b ?_
    refine af_thr (o91 _) ?_
    exact k1 hx (hS.thr ok)
theorem oe_bn {M : Nat → Bool} (h : ∀ kd, kd < 7 → (M kd = true ↔ td_dk A kd e = true ∧ td_R A kd e = none)) : bn (fun kd => td_dk A kd e) = bn M + td_oe A e := by
  have key : ∀ kd, kd < 7 → (if td_dk A kd e = true then 1 else 0) = (if M kd = true then 1 else 0) + td_o1 A e kd := fun kd hk => by
    have h1 := h kd hk
    unfold td_o1
    by_cases c : td_dk A kd e = true
    · rw [if_pos c, if_pos c]
      cases hR : td_R A kd e with
      | none => rw [if_pos (h1.mpr ⟨c, hR⟩)]; rfl
      | some q => rw [if_neg (fun hm => by have := (h1.mp hm).2; rw [hR] at this; cases this)]; rfl
    · rw [if_neg c, if_neg (fun hm => c (h1.mp hm).1), if_neg c]
  have z : ∀ kd, (kd = 0 ∨ kd = 6) → td_o1 A e kd = 0 := fun kd hk => by
    unfold td_o1
    rw [if_neg (fun q => by have := dk_15 q; omega)]
  have k0 := key 0 (by omega)
  have k1 := key 1 (by omega)
  have k2 := key 2 (by omega)
  have k3 := key 3 (by omega)
  have k4 := key 4 (by omega)
  have k5 := key 5 (by omega)
  have k6 := key 6 (by omega)
  have z0 := z 0 (Or.inl rfl)
  have z6 := z 6 (Or.inr rfl)
  have e1 : ∀ N : Nat → Bool, bn N = (if N 0 = true then 1 else 0) + ((if N 1 = true then 1 else 0) + ((if N 2 = true then 1 else 0) + ((if N 3 = true then 1 else 0) + ((if N 4 = true then 1 else 0) + ((if N 5 = true then 1 else 0) + ((if N 6 = true then 1 else 0) + 0)))))) := fun N => rfl
  have e2 : td_oe A e = td_o1 A e 1 + (td_o1 A e 2 + (td_o1 A e 3 + (td_o1 A e 4 + (td_o1 A e 5 + 0)))) := rfl
  rw [e1, e1, e2]
  omega
theorem bn_7 (M : Nat → Bool) : bn M ≤ 7 := by
  have e1 : bn M = (if M 0 = true then 1 else 0) + ((if M 1 = true then 1 else 0) + ((if M 2 = true then 1 else 0) + ((if M 3 = true then 1 else 0) + ((if M 4 = true then 1 else 0) + ((if M 5 = true then 1 else 0) + ((if M 6 = true then 1 else 0) + 0)))))) := rfl
  rw [e1]
  repeat' split
  all_goals omega
theorem s_7L (hdy : dy.length < 100000) (ok : TOK A) : ∀ (k e n : Nat) {σ : Nat → Nat → Int32} {τ : Nat → Nat → Int64} {l3 l4 : Option Value} {Q : am_A → am_H → Prop}, e + k = td_ne A → RepX A F E dy σ ρ → CX A τ → (∀ σ' τ', fD dy σ σ' → tE τ τ' → CX A τ' → Q (.inl (some (.int (nn (n + ((List.range' e k).map (td_oe A)).sum))))) (mk dy σ' ρ τ')) → go (tb_P L xs) 7 18 [some (.ref 0), some (.int (nn n)), some (.int (nn e)), l3, l4] [] (mk dy σ ρ τ) Q := by
  have hne := ok.2.2.1
  intro k
  induction k with
  | zero =>
    intro e n σ τ l3 l4 Q he hX hC kk
    have h11 := hX.2.1.1
    refine g_iload_n k7_18 rfl ?_
    refine g_aload_n k7_19 rfl ?_
    refine m_get k7_20 f7_20 rfl rfl ?_
    refine m_get k7_23 f7_23 rfl rfl ?_
    rw [h11]
    refine g_icge_t k7_26 (t := 80) rfl (by rw [nn_toInt (by omega), nn_toInt (by omega)]; omega) ?_
    refine g_iload_n k7_80 rfl ?_
    refine g_ireturn k7_81 t7 ?_
    exact kk σ τ (fD.rf σ) (tE.rf τ) hC
  | succ k ih =>
    intro e n σ τ l3 l4 Q he hX hC kk
    have h11 := hX.2.1.1
    have heA : e < td_ne A := by omega
    have g10 := (hX.2.1.2.1 e heA).1
    obtain ⟨⟨h47, hA8, hA3⟩, hma, _⟩ := (hX.2.1.2.1 e heA).2
    have nxt : ∀ (σ1 : Nat → Nat → Int32) (τ1 : Nat → Nat → Int64) (M : Nat → Bool) (l3 l4 : Option Value), fD dy σ σ1 → tE τ τ1 → CX A τ1 → bn (fun kd => td_dk A kd e) = bn M + td_oe A e → go (tb_P L xs) 7 18 [some (.ref 0), some (.int (nn (n + (bn (fun kd => td_dk A kd e) - bn M)))), some (.int (nn (e + 1))), l3, l4] [] (mk dy σ1 ρ τ1) Q := by
      intro σ1 τ1 M l3 l4 hs ht hC1 hb
      refine ih (e + 1) _ (by omega) (hX.agr ok hs.ag) hC1 (fun σ' τ' g1 g2 g3 => ?_)
      have hz := kk σ' τ' (hs.tr g1) (ht.tr g2) g3
      rw [List.range'_succ, List.map_cons, List.sum_cons] at hz
      rw [show n + (bn (fun kd => td_dk A kd e) - bn M) + ((List.range' (e + 1) k).map (td_oe A)).sum = n + (td_oe A e + ((List.range' (e + 1) k).map (td_oe A)).sum) by omega]
      exact hz
    refine g_iload_n k7_18 rfl ?_
    refine g_aload_n k7_19 rfl ?_
    refine m_get k7_20 f7_20 rfl rfl ?_
    refine m_get k7_23 f7_23 rfl rfl ?_
    rw [h11]
    refine g_icge_f k7_26 (t := 80) rfl (by rw [nn_toInt (by omega), nn_toInt (by omega)]; omega) ?_
    refine g_aload_n k7_29 rfl ?_
    refine m_get k7_30 f7_30 rfl rfl ?_
    refine m_get k7_33 f7_33 rfl rfl ?_
    refine g_iload_n k7_36 rfl ?_
    refine m_aald k7_37 rfl ⟨by omega, by omega⟩ rfl (by omega) (by omega) ?_
    rw [g10, va_rs]
    refine m_callV0 k7_38 s7_38 c7_38 l16 (by omega) trivial rfl r7_38 (by assumption) ?_
    refine s_16 ok hX heA (fun x hx => ?_)
    refine af_ret ?_
    refine g_istore_n k7_41 rfl rfl ?_
    refine g_aload_n k7_42 rfl ?_
    refine m_get k7_43 f7_43 rfl rfl ?_
    refine g_aload_n k7_46 rfl ?_
    refine m_get k7_47 f7_47 rfl rfl ?_
    refine m_get k7_50 f7_50 rfl rfl ?_
    refine g_iload_n k7_53 rfl ?_
    refine m_aald k7_54 rfl ⟨by omega, by omega⟩ rfl (by omega) (by omega) ?_
    rw [g10, va_rs]
    refine g_iload_n k7_55 rfl ?_
    refine m_callV2 k7_56 s7_56 c7_56 l17 (by omega) ⟨rfl, rfl⟩ rfl r7_56 rfl ?_
    refine s_17 (K := fun kd => td_dk A kd e) hdy ok hX hC heA hx (fun q _ hq => hq) ⟨1, by omega, rfl⟩ (fun σ1 τ1 D hs1 ht1 hC1 hr1 hL hall => ?_) (fun σ1 τ1 y M hs1 ht1 hC1 hy hM hN => ?_)
    · refine af_ret ?_
      have hbn := oe_bn (A := A) (e := e) (M := fun _ => false) (fun kd hk => ⟨fun q => (by cases q), fun q => by
        obtain ⟨D', hD', hb'⟩ := hall kd hk q.1
        have := (cl_no ok heA (dk_hk q.1)).mpr q.2 D' hD'
        rw [this] at hb'
        cases hb'⟩)
      have hb7 : bn (fun _ => false) ≤ bn (fun kd => td_dk A kd e) := by omega
      refine g_istore k7_59 rfl rfl ?_
      refine g_iload_n k7_61 rfl ?_
      refine g_iload_n k7_62 rfl ?_
      refine g_callS1 k7_63 s7_63 c7_63 l32 (by omega) rfl rfl r7_63 ?_
      refine s_32 hx ?_
      refine af_ret ?_
      refine g_iload k7_66 rfl ?_
      refine g_callS1 k7_68 s7_68 c7_68 l32 (by omega) rfl rfl r7_68 ?_
      refine s_32 bt_0 ?_
      refine af_ret ?_
      refine g_isubN k7_71 (by omega) ?_
      refine g_iaddN k7_72 ?_
      refine g_istore_n k7_73 rfl rfl ?_
      refine g_iincN k7_74 rfl rfl rfl ?_
      refine g_goto k7_77 (t := 18) rfl ?_
      exact nxt σ1 τ1 (fun _ => false) _ _ hs1 ht1 hC1 hbn
    · refine af_ret ?_
      have hbn := oe_bn (A := A) (e := e) (M := M) (fun kd hk => by
        rw [hM kd hk]
        refine and_congr_right (fun hd => ?_)
        exact cl_no ok heA (dk_hk hd))
      have hb7 : bn M ≤ bn (fun kd => td_dk A kd e) := by omega
      refine g_istore k7_59 rfl rfl ?_
      refine g_iload_n k7_61 rfl ?_
      refine g_iload_n k7_62 rfl ?_
      refine g_callS1 k7_63 s7_63 c7_63 l32 (by omega) rfl rfl r7_63 ?_
      refine s_32 hx ?_
      refine af_ret ?_
      refine g_iload k7_66 rfl ?_
      refine g_callS1 k7_68 s7_68 c7_68 l32 (by omega) rfl rfl r7_68 ?_
      refine s_32 hy ?_
      refine af_ret ?_
      refine g_isubN k7_71 (by omega) ?_
      refine g_iaddN k7_72 ?_
      refine g_istore_n k7_73 rfl rfl ?_
      refine g_iincN k7_74 rfl rfl rfl ?_
      refine g_goto k7_77 (t := 18) rfl ?_
      exact nxt σ1 τ1 M _ _ hs1 ht1 hC1 hbn
theorem s_7 (hdy : dy.length < 100000) (ok : TOK A) (hS : XS A W F E dy σ ρ τ) (kk : ∀ σ' τ', oX A W F E σ τ dy σ' ρ τ' → Q (.inl (some (.int (nn (td_op A))))) (mk dy σ' ρ τ')) : go (tb_P L xs) 7 0 [some (.ref 0), none, none, none, none] [] (mk dy σ ρ τ) Q := by
  refine g_aload_n k7_0 rfl ?_
  refine m_get k7_1 f7_1 rfl rfl ?_
  refine m_callV0 k7_4 s7_4 c7_4 l8 (by omega) trivial rfl r7_4 rfl ?_
  refine s_8 hdy ok hS.1 hS.2.1 (fun σ1 τ1 hs1 ht1 hC1 hr1 => ?_)
  refine af_ret ?_
  refine g_ifeqB k7_7 (t := 14) rfl (fun h7 => ?_) (fun h7 => ?_)
  · skip
    refine g_iconst (v := nn 1) k7_14 ci_1 ?_
    refine g_istore_n k7_15 rfl rfl ?_
    refine g_iconst (v := nn 0) k7_16 ci_0 ?_
    refine g_istore_n k7_17 rfl rfl ?_
    refine s_7L hdy ok (td_ne A) 0 _ (by omega) (hS.1.agr ok hs1.ag) hC1 (fun σ2 τ2 g1 g2 g3 => ?_)
    have hz := kk σ2 τ2 (hS.dn ok (hs1.tr g1) (ht1.tr g2) g3)
    unfold td_op td_R0 at hz
    first
      | (rw [if_pos h7] at hz; exact hz)
      | (rw [if_neg h7] at hz; exact hz)
  · skip
    refine g_iconst (v := nn 0) k7_10 ci_0 ?_
    refine g_goto k7_11 (t := 15) rfl ?_
    refine g_istore_n k7_15 rfl rfl ?_
    refine g_iconst (v := nn 0) k7_16 ci_0 ?_
    refine g_istore_n k7_17 rfl rfl ?_
    refine s_7L hdy ok (td_ne A) 0 _ (by omega) (hS.1.agr ok hs1.ag) hC1 (fun σ2 τ2 g1 g2 g3 => ?_)
    have hz := kk σ2 τ2 (hS.dn ok (hs1.tr g1) (ht1.tr g2) g3)
    unfold td_op td_R0 at hz
    first
      | (rw [if_pos h7] at hz; exact hz)
      | (rw [if_neg h7] at hz; exact hz)
end ZD
