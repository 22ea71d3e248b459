/-! The law: what is asked. -/
section ZK
variable {L : Nat} {xs : Nat → Int32} {Q : am_A → am_H → Prop} {dy : List (Nat × Nat)} {σ : Nat → Nat → Int32} {ρ : Nat → Nat → Option Nat} {τ : Nat → Nat → Int64} {A : TD} {W : RS} {F E : Nat → Nat} {i : Nat} {l5 l6 : Option Value}
variable {x z : Int32}
theorem inA.fi {e p : Nat} (ok : TOK A) (h : inA A W) (ho : rs_on W = true) (hc : can A W e p) : inA A (rs_fi A W e p) := fun _ j v hj hv => by
  have hj : j ≤ rs_k W + 1 := hj
  show (if j = rs_k W + 1 then (td_bo A e (rd (cur A W) p) v).toInt.toNat else rs_r W j v) < td_sz A v
  by_cases c : j = rs_k W + 1
  · rw [if_pos c]
    exact (dg_ok ok hc.2.1 v hv).2.1
  · rw [if_neg c]
    exact h ho j v (by omega) hv
theorem inA.st (ok : TOK A) : inA A (rs_st A W) := fun _ j v _ hv => (ok.2.2.2.2.2.2.2 v hv).2.2
theorem inA.bk (h : inA A W) (ho : rs_on W = true) : inA A (rs_bk W) := fun _ j v hj hv => by
  have hj : j ≤ rs_k W - 1 := hj
  exact h ho j v (by omega) hv
/-- what a duty's look finds -/
def td_Rk (A : TD) (x z : Int32) : Option ((Nat → Nat) × Nat) := if x.toInt = 0 then td_R0 A else if x.toInt = 6 then td_R6 A else td_R A x.toInt.toNat z.toInt.toNat
theorem dok_3 (ok : TOK A) (h : dok A x z) : (x = nn 0 ∧ z = nn 0 ∧ td_Rk A x z = td_R0 A) ∨ (x = nn 6 ∧ z = nn 0 ∧ td_Rk A x z = td_R6 A) ∨ ∃ kd e, x = nn kd ∧ z = nn e ∧ (1 ≤ kd ∧ kd ≤ 5) ∧ e < td_ne A ∧ td_dk A kd e = true ∧ td_Rk A x z = td_R A kd e := by
  have hne := ok.2.2.1
  unfold td_Rk
  rcases h with ⟨hx | hx, hz⟩ | ⟨hx, hz, hd⟩
  · exact Or.inl ⟨eq_0.mp hx, eq_0.mp hz, by rw [if_pos hx]⟩
  · refine Or.inr (Or.inl ⟨by rw [← Int32.toInt_inj, hx, ti_6], eq_0.mp hz, by rw [if_neg (by omega), if_pos hx]⟩)
  · obtain ⟨kd, rfl, hk⟩ := in_nn (x := x) (n := 6) ⟨by omega, by omega⟩
    obtain ⟨e, rfl, he⟩ := in_nn hz
    have e1 : (nn e).toInt.toNat = e := by rw [nn_toInt (by omega)]; rfl
    have e2 : (nn kd).toInt.toNat = kd := by rw [nn_toInt (by omega)]; rfl
    rw [e1, e2] at hd
    rw [if_neg (by omega), if_neg (by omega), e1, e2]
    rw [nn_toInt (by omega)] at hx
    exact Or.inr (Or.inr ⟨kd, e, rfl, rfl, by omega, he, hd, rfl⟩)
theorem WOK.dn {R : Option ((Nat → Nat) × Nat)} (h : WOK W) : WOK (rs_dn W R) := h
theorem s_86w (hdy : dy.length < 100000) (ok : TOK A) (hS : XS A W F E dy σ ρ τ) (k1 : ¬ dok A x z → oX A W F E σ τ (dy ++ [(14, 0)]) σ ρ τ → Q (.inr 9) (mk (dy ++ [(14, 0)]) σ ρ τ)) (kt : dok A x z → td_Rk A x z = none → ∀ σ' τ', oX A (rs_dn W (td_Rk A x z)) F E σ τ dy σ' ρ τ' → Q (.inl (some (.int (nn 1)))) (mk dy σ' ρ τ')) (kf : dok A x z → ∀ d p, td_Rk A x z = some (d, p) → ∀ σ' τ', oX A (rs_dn W (td_Rk A x z)) F E σ τ dy σ' ρ τ' → Q (.inl (some (.int (nn 0)))) (mk dy σ' ρ τ')) : go (tb_P L xs) 86 0 [some (.ref 0), some (.int x), some (.int z), none] [] (mk dy σ ρ τ) Q := by
  by_cases h : dok A x z
  · have kt := kt h
    have kf := kf h
    rcases dok_3 ok h with ⟨rfl, rfl, e⟩ | ⟨rfl, rfl, e⟩ | ⟨kd, e0, rfl, rfl, hk, he, hd, e⟩
    · rw [e] at kt kf
      exact s_86_0 hdy ok hS kt kf
    · rw [e] at kt kf
      exact s_86_6 hdy ok hS kt kf
    · rw [e] at kt kf
      exact s_86_e hdy ok hS he hk hd kt kf
  · exact s_86x hdy ok hS h (k1 h)
theorem nd_0 (hdy : dy.length < 100000) (ok : TOK A) (hR : RepM A σ) (h : dok A x z) (kk : Q (.inl (some (.int (nn 0)))) (mk dy σ ρ τ)) : go (tb_P L xs) 124 0 [some (.ref 24), some (.int x), some (.int z)] [] (mk dy σ ρ τ) Q := by
  rcases dok_3 ok h with ⟨rfl, rfl, e⟩ | ⟨rfl, rfl, e⟩ | ⟨kd, e0, rfl, rfl, hk, he, hd, e⟩
  · exact s_124_0 hdy kk
  · exact s_124_6 hdy kk
  · refine s_124e hdy ok hR hk he ?_
    rw [hd]
    exact kk
theorem nd_1 (hdy : dy.length < 100000) (ok : TOK A) (hR : RepM A σ) (h : ¬ dok A x z) (kk : Q (.inl (some (.int (nn 1)))) (mk dy σ ρ τ)) : go (tb_P L xs) 124 0 [some (.ref 24), some (.int x), some (.int z)] [] (mk dy σ ρ τ) Q := by
  have hne := ok.2.2.1
  by_cases hx : x.toInt < 0 ∨ 6 < x.toInt
  · exact s_124x hdy ok hR hx kk
  by_cases h0 : x.toInt = 0
  · have := eq_0.mp h0
    subst this
    refine s_124_0 hdy ?_
    rw [bb_t (show z.toInt ≠ 0 from fun q => h (Or.inl ⟨Or.inl h0, q⟩))]
    exact kk
  by_cases h6 : x.toInt = 6
  · have e : x = nn 6 := by rw [← Int32.toInt_inj, h6, ti_6]
    subst e
    refine s_124_6 hdy ?_
    rw [bb_t (show z.toInt ≠ 0 from fun q => h (Or.inl ⟨Or.inr h6, q⟩))]
    exact kk
  obtain ⟨kd, rfl, hk⟩ := in_nn (x := x) (n := 6) ⟨by omega, by omega⟩
  have e2 : (nn kd).toInt = kd := nn_toInt (by omega)
  by_cases hz : 0 ≤ z.toInt ∧ z.toInt < td_ne A
  · obtain ⟨e, rfl, he⟩ := in_nn hz
    refine s_124e hdy ok hR (by omega) he ?_
    have hd : td_dk A kd e = false := by
      cases hq : td_dk A kd e with
      | false => rfl
      | true =>
        refine absurd (Or.inr ⟨by omega, hz, ?_⟩) h
        rw [e2, nn_toInt (by omega)]
        exact hq
    rw [hd]
    exact kk
  · exact s_124n hdy ok hR (by omega) hz kk
theorem dn_d (hdy : dy.length < 100000) (ok : TOK A) (h : dok A x z) : dn_H L xs dy ρ τ A x z (td_Rk A x z) := by
  rcases dok_3 ok h with ⟨rfl, rfl, e⟩ | ⟨rfl, rfl, e⟩ | ⟨kd, e0, rfl, rfl, hk, he, hd, e⟩
  · rw [e]
    exact dn_H0 hdy ok
  · rw [e]
    exact dn_H6 hdy ok
  · rw [e]
    exact dn_He hdy ok he hk hd
theorem s_123w (hdy : dy.length < 100000) (ok : TOK A) (hR : RepM A σ) (hW : RunM W σ) (k1 : ¬ dok A x z → ∀ σ', oM A W 1 σ σ' → Q (.inl (some (.int (nn 0)))) (mk dy σ' ρ τ)) (kt : dok A x z → td_Rk A x z = none → ∀ σ', oM A (rs_dn W (td_Rk A x z)) 0 σ σ' → Q (.inl (some (.int (nn 1)))) (mk dy σ' ρ τ)) (kf : dok A x z → ∀ d p, td_Rk A x z = some (d, p) → ∀ σ', oM A (rs_dn W (td_Rk A x z)) 0 σ σ' → Q (.inl (some (.int (nn 0)))) (mk dy σ' ρ τ)) : go (tb_P L xs) 123 0 [some (.ref 24), some (.int x), some (.int z), none, none] [] (mk dy σ ρ τ) Q := by
  by_cases h : dok A x z
  · have rw1 : ∀ σ', dn_S σ σ' → (σ' 24 3 = nn (rs_n W) ∧ ∀ i, i < rs_n W → σ' 27 i = rs_w W i) ∧ (σ' 24 23 = bb (rs_on W = true) ∧ (rs_on W = true → σ' 24 24 = bb (rs_tn W = true) ∧ σ' 24 25 = nn (rs_k W) ∧ ∀ j v, j ≤ rs_k W → v < 6 → σ' 43 (6 * j + v) = nn (rs_r W j v))) := fun σ' hs => by
      have q24 : ∀ k, k = 3 ∨ k = 23 ∨ k = 24 ∨ k = 25 → σ' 24 k = σ 24 k := fun k hk => hs 24 k (by omega) (by omega) (by omega) (by omega) (by omega)
      refine ⟨⟨by rw [q24 3 (by omega)]; exact hW.1.1, fun i hi => by rw [hs 27 i (by omega) (by omega) (by omega) (by omega) (by omega)]; exact hW.1.2 i hi⟩, by rw [q24 23 (by omega)]; exact hW.2.1.1, fun ho => ?_⟩
      obtain ⟨g1, g2, g3⟩ := hW.2.1.2 ho
      exact ⟨by rw [q24 24 (by omega)]; exact g1, by rw [q24 25 (by omega)]; exact g2, fun j v hj hv => by rw [hs 43 _ (by omega) (by omega) (by omega) (by omega) (by omega)]; exact g3 j v hj hv⟩
    refine s_123 hdy hR (fun q => nd_0 hdy ok hR h q) (dn_d hdy ok h) (fun σ' hs hr g0 g27 => ?_) (fun σ' d p hs hr g0 g27 g44 g6 => ?_)
    · have kt := kt h hr
      rw [hr] at kt
      exact kt σ' ⟨hs.fM, hR.mono_dn hs, ⟨(rw1 σ' hs).1, (rw1 σ' hs).2, g27, fun q => by cases q⟩, g0⟩
    · have kf := kf h d p hr
      rw [hr] at kf
      refine kf σ' ⟨hs.fM, hR.mono_dn hs, ⟨(rw1 σ' hs).1, (rw1 σ' hs).2, g27, fun _ v hv => ?_⟩, g0⟩
      show σ' 44 v = rd d p v
      unfold rd
      by_cases c : v = 6
      · rw [if_pos c, c]; exact g6
      · rw [if_neg c]; exact g44 v (by omega)
  · exact s_123x hdy (fun q => nd_1 hdy ok hR h q) (k1 h _ (oM_t hR hW))
theorem s_140w (hdy : dy.length < 100000) (hR : RepM A σ) (hW : RunM W σ) (k1 : ¬ (0 ≤ x.toInt ∧ x.toInt < 7) → ∀ σ', oM A W 1 σ σ' → Q (.inl (some (.int (nn 0)))) (mk dy σ' ρ τ)) (k0 : 0 ≤ x.toInt ∧ x.toInt < 7 → ∀ σ', oM A W 0 σ σ' → Q (.inl (some (.int (if rs_sw W = true then rs_sh W x.toInt.toNat else -1)))) (mk dy σ' ρ τ)) : go (tb_P L xs) 140 0 [some (.ref 24), some (.int x)] [] (mk dy σ ρ τ) Q := by
  by_cases hx : 0 ≤ x.toInt ∧ x.toInt < 7
  · have k0 := k0 hx
    obtain ⟨v, rfl, hv⟩ := in_nn (n := 7) hx
    rw [show (nn v).toInt.toNat = v by rw [nn_toInt (by omega)]; rfl] at k0
    refine s_140 hdy (by omega) hW.2.2.1 ?_
    have hz := k0 _ (oM_t hR hW)
    by_cases hs : rs_sw W = true
    · rw [if_pos hs] at hz ⊢
      rw [hW.2.2.2 hs v hv]
      exact hz
    · rw [if_neg hs] at hz ⊢
      exact hz
  · exact s_140x hdy (by omega) (k1 hx _ (oM_t hR hW))
theorem s_141w (hdy : dy.length < 100000) (ok : TOK A) (hR : RepM A σ) (hW : RunM W σ) (kk : ∀ σ', oM A W 0 σ σ' → Q (.inl (some (.int (nn (td_op A))))) (mk dy σ' ρ τ)) : go (tb_P L xs) 141 0 [some (.ref 24), none, none, none] [] (mk dy σ ρ τ) Q := by
  refine s_141 hdy ok hR (fun σ' hs g0 g27 g44 => kk σ' ⟨hs.fM, hR.mono_dn hs, hW.agr (fun a k h => ?_), g0⟩)
  by_cases c : a = 44
  · rw [c]
    exact g44 k
  · by_cases c2 : a = 24 ∧ k = 27
    · rw [c2.1, c2.2]
      exact g27
    · exact hs a k (by omega) (by omega) (by omega) c (by omega)
theorem s_93w (hdy : dy.length < 100000) (ok : TOK A) (wo : WOK W) (hi : inS A W) (hS : XS A W F E dy σ ρ τ) (k1 : ¬ lev A x z → oX A W F E σ τ (dy ++ [(14, 0)]) σ ρ τ → Q (.inr 9) (mk (dy ++ [(14, 0)]) σ ρ τ)) (k2 : lev A x z → rs_on W = false → oX A W F E σ τ (dy ++ [(15, 0)]) σ ρ τ → Q (.inr 10) (mk (dy ++ [(15, 0)]) σ ρ τ)) (kt : lev A x z → rs_on W = true → (td_en A x.toInt.toNat (rd (cur A W) z.toInt.toNat) && td_bs A x.toInt.toNat (rd (cur A W) z.toInt.toNat)) = true → ∀ σ', oX A W F E σ τ dy σ' ρ τ → Q (.inl (some (.int (nn 1)))) (mk dy σ' ρ τ)) (kf : lev A x z → rs_on W = true → (td_en A x.toInt.toNat (rd (cur A W) z.toInt.toNat) && td_bs A x.toInt.toNat (rd (cur A W) z.toInt.toNat)) = false → ∀ σ', oX A W F E σ τ dy σ' ρ τ → Q (.inl (some (.int (nn 0)))) (mk dy σ' ρ τ)) : go (tb_P L xs) 93 0 [some (.ref 0), some (.int x), some (.int z), none] [] (mk dy σ ρ τ) Q := by
  refine s_93 hdy ok wo hi hS k1 k2 (fun h ho σ' hx => ?_)
  cases hv : (td_en A x.toInt.toNat (rd (cur A W) z.toInt.toNat) && td_bs A x.toInt.toNat (rd (cur A W) z.toInt.toNat)) with
  | true => exact kt h ho hv σ' hx
  | false => exact kf h ho hv σ' hx
theorem s_143w (hdy : dy.length < 100000) (ok : TOK A) (hR : RepM A σ) (hW : RunM W σ) (wo : WOK W) (k1 : ¬ lev A x z → ∀ σ', oM A W 1 σ σ' → Q (.inl (some (.int (nn 0)))) (mk dy σ' ρ τ)) (k2 : lev A x z → rs_on W = false → ∀ σ', oM A W 2 σ σ' → Q (.inl (some (.int (nn 0)))) (mk dy σ' ρ τ)) (kt : lev A x z → rs_on W = true → (td_en A x.toInt.toNat (rd (cur A W) z.toInt.toNat) && td_bs A x.toInt.toNat (rd (cur A W) z.toInt.toNat)) = true → ∀ σ', oM A W 0 σ σ' → Q (.inl (some (.int (nn 1)))) (mk dy σ' ρ τ)) (kf : lev A x z → rs_on W = true → (td_en A x.toInt.toNat (rd (cur A W) z.toInt.toNat) && td_bs A x.toInt.toNat (rd (cur A W) z.toInt.toNat)) = false → ∀ σ', oM A W 0 σ σ' → Q (.inl (some (.int (nn 0)))) (mk dy σ' ρ τ)) : go (tb_P L xs) 143 0 [some (.ref 24), some (.int x), some (.int z)] [] (mk dy σ ρ τ) Q := by
  refine s_143 hdy ok hR hW wo k1 k2 (fun h ho σ' hx => ?_)
  cases hv : (td_en A x.toInt.toNat (rd (cur A W) z.toInt.toNat) && td_bs A x.toInt.toNat (rd (cur A W) z.toInt.toNat)) with
  | true => exact kt h ho hv σ' hx
  | false => exact kf h ho hv σ' hx
theorem L_9 (hdy : dy.length < 80000) (hi : i + 4 ≤ L) (hL : L ≤ 2048) (hJ : JJ A W F E dy σ ρ τ) (kk : LK L xs i dy Q) : go (tb_P L xs) 151 628 [some (.ref am_scr), some (.ref 0), some (.ref 24), some (.ref 46), some (.int (nn i)), l5, l6] [] (mk dy σ ρ τ) Q := by
  obtain ⟨⟨ok, wo, hin⟩, hS, hR, hW⟩ := hJ
  have hdy2 : dy.length < 100000 := by omega
  refine g_aload_n k151_628 rfl ?_
  refine g_aload_n k151_629 rfl ?_
  refine g_iload k151_630 rfl ?_
  refine g_iconst (v := nn 1) k151_632 ci_1 ?_
  refine g_iaddN k151_633 ?_
  refine m_sald k151_634 (by omega) (by omega) ?_
  refine g_aload_n k151_635 rfl ?_
  refine g_iload k151_636 rfl ?_
  refine g_iconst (v := nn 2) k151_638 ci_2 ?_
  refine g_iaddN k151_639 ?_
  refine m_sald k151_640 (by omega) (by omega) ?_
  refine g_aload_n k151_641 rfl ?_
  refine g_callS4 k151_642 s151_642 c151_642 l85 (by omega) ⟨rfl, rfl, rfl, rfl⟩ rfl r151_642 ?_
  refine g_aload_n k85_0 rfl ?_
  refine g_iconst (v := nn 0) k85_1 ci_0 ?_
  refine g_aload_n k85_2 rfl ?_
  refine g_iload_n k85_3 rfl ?_
  refine g_iload_n k85_4 rfl ?_
  refine m_callV2 k85_5 s85_5 c85_5 l86 (by omega) ⟨rfl, rfl⟩ rfl r85_5 rfl ?_
  refine s_86w hdy2 ok hS (fun hc ho => ?_) (fun hc hf σ1 τ1 ho => ?_) (fun hc d p hf σ1 τ1 ho => ?_)
  · skip
    refine af_cat h85x v85_9 ⟨(show 4 < 5 by omega), rfl⟩ ?_
    refine g_iconst (v := nn 1) k85_22 ci_1 ?_
    refine g_ireturn k85_23 t85 ?_
    refine af_ret ?_
    have hg : gr dy (dy ++ [(14, 0)]) := gr_1
    have hdl : List.length (dy ++ [(14, 0)]) < 100000 := by have := hg.1; omega
    have hR1 : RepM A σ := hR.fx ho.2.1
    have hW1 : RunM W σ := hW.fx ho.2.1
    refine g_istore k151_645 rfl rfl ?_
    refine g_aload_n k151_647 rfl ?_
    refine g_aload_n k151_648 rfl ?_
    refine g_iload k151_649 rfl ?_
    refine g_iconst (v := nn 1) k151_651 ci_1 ?_
    refine g_iaddN k151_652 ?_
    refine m_sald k151_653 (by omega) (by omega) ?_
    refine g_aload_n k151_654 rfl ?_
    refine g_iload k151_655 rfl ?_
    refine g_iconst (v := nn 2) k151_657 ci_2 ?_
    refine g_iaddN k151_658 ?_
    refine m_sald k151_659 (by omega) (by omega) ?_
    refine m_callV2 k151_660 s151_660 c151_660 l123 (by omega) ⟨rfl, rfl⟩ rfl r151_660 rfl ?_
    refine s_123w hdl ok hR1 hW1 (fun _ σ2 hm => ?_) (fun h => absurd h hc) (fun h => absurd h hc)
    refine af_ret ?_
    refine g_istore k151_663 rfl rfl ?_
    refine g_aload_n k151_665 rfl ?_
    refine m_callV0 k151_666 s151_666 c151_666 l105 (by omega) trivial rfl r151_666 rfl ?_
    refine s_105 ?_
    refine af_ret ?_
    rw [hm.2.2.2]
    refine g_iload k151_669 rfl ?_
    refine g_iceq_t k151_671 (t := 676) rfl rfl ?_
    refine g_iload k151_676 rfl ?_
    refine g_ifne_t k151_678 (t := 700) rfl (by decide) ?_
    refine g_goto k151_700 (t := 1052) rfl ?_
    exact kk _ _ _ _ _ _ _ _ _ _ (JJ.fin ok wo hin ho.1 hm) hg
  · skip
    refine af_ret ?_
    have hg : gr dy dy := gr.rf
    have hdl : List.length dy < 100000 := by have := hg.1; omega
    have hR1 : RepM A σ1 := hR.fx ho.2.1
    have hW1 : RunM W σ1 := hW.fx ho.2.1
    refine g_ifeq_f k85_8 (t := 15) rfl (by decide) ?_
    refine g_lconst (v := 1) k85_11 rfl ?_
    refine g_goto k85_12 (t := 16) rfl ?_
    refine m_last k85_16 rfl rfl (by omega) (by omega) ?_
    refine g_goto k85_17 (t := 24) rfl ?_
    refine g_iconst (v := nn 0) k85_24 ci_0 ?_
    refine g_ireturn k85_25 t85 ?_
    refine af_ret ?_
    refine g_istore k151_645 rfl rfl ?_
    refine g_aload_n k151_647 rfl ?_
    refine g_aload_n k151_648 rfl ?_
    refine g_iload k151_649 rfl ?_
    refine g_iconst (v := nn 1) k151_651 ci_1 ?_
    refine g_iaddN k151_652 ?_
    refine m_sald k151_653 (by omega) (by omega) ?_
    refine g_aload_n k151_654 rfl ?_
    refine g_iload k151_655 rfl ?_
    refine g_iconst (v := nn 2) k151_657 ci_2 ?_
    refine g_iaddN k151_658 ?_
    refine m_sald k151_659 (by omega) (by omega) ?_
    refine m_callV2 k151_660 s151_660 c151_660 l123 (by omega) ⟨rfl, rfl⟩ rfl r151_660 rfl ?_
    refine s_123w hdl ok hR1 hW1 (fun h => absurd hc h) (fun _ _ σ2 hm => ?_) (fun _ d p h => by rw [hf] at h; cases h)
    refine af_ret ?_
    refine g_istore k151_663 rfl rfl ?_
    refine g_aload_n k151_665 rfl ?_
    refine m_callV0 k151_666 s151_666 c151_666 l105 (by omega) trivial rfl r151_666 rfl ?_
    refine s_105 ?_
    refine af_ret ?_
    rw [hm.2.2.2]
    refine g_iload k151_669 rfl ?_
    refine g_iceq_t k151_671 (t := 676) rfl rfl ?_
    refine g_iload k151_676 rfl ?_
    refine g_ifne_f k151_678 (t := 700) rfl rfl ?_
    refine g_aload_n k151_681 rfl ?_
    refine g_iconst (v := nn 0) k151_682 ci_0 ?_
    refine m_lald k151_683 rfl rfl (by omega) (by omega) ?_
    rw [up2_at]
    refine g_iload k151_684 rfl ?_
    refine g_ifeq_f k151_686 (t := 693) rfl (by decide) ?_
    refine g_lconst (v := 1) k151_689 rfl ?_
    refine g_goto k151_690 (t := 694) rfl ?_
    refine g_lcmp k151_694 ?_
    refine g_ifeq_t k151_695 (t := 700) rfl lc_s ?_
    refine g_goto k151_700 (t := 1052) rfl ?_
    exact kk _ _ _ _ _ _ _ _ _ _ (JJ.fin ok wo.dn hin ho.1.out hm) hg
  · skip
    refine af_ret ?_
    have hg : gr dy dy := gr.rf
    have hdl : List.length dy < 100000 := by have := hg.1; omega
    have hR1 : RepM A σ1 := hR.fx ho.2.1
    have hW1 : RunM W σ1 := hW.fx ho.2.1
    refine g_ifeq_t k85_8 (t := 15) rfl rfl ?_
    refine g_lconst (v := 0) k85_15 rfl ?_
    refine m_last k85_16 rfl rfl (by omega) (by omega) ?_
    refine g_goto k85_17 (t := 24) rfl ?_
    refine g_iconst (v := nn 0) k85_24 ci_0 ?_
    refine g_ireturn k85_25 t85 ?_
    refine af_ret ?_
    refine g_istore k151_645 rfl rfl ?_
    refine g_aload_n k151_647 rfl ?_
    refine g_aload_n k151_648 rfl ?_
    refine g_iload k151_649 rfl ?_
    refine g_iconst (v := nn 1) k151_651 ci_1 ?_
    refine g_iaddN k151_652 ?_
    refine m_sald k151_653 (by omega) (by omega) ?_
    refine g_aload_n k151_654 rfl ?_
    refine g_iload k151_655 rfl ?_
    refine g_iconst (v := nn 2) k151_657 ci_2 ?_
    refine g_iaddN k151_658 ?_
    refine m_sald k151_659 (by omega) (by omega) ?_
    refine m_callV2 k151_660 s151_660 c151_660 l123 (by omega) ⟨rfl, rfl⟩ rfl r151_660 rfl ?_
    refine s_123w hdl ok hR1 hW1 (fun h => absurd hc h) (fun _ h => by rw [hf] at h; cases h) (fun _ d2 p2 _ σ2 hm => ?_)
    refine af_ret ?_
    refine g_istore k151_663 rfl rfl ?_
    refine g_aload_n k151_665 rfl ?_
    refine m_callV0 k151_666 s151_666 c151_666 l105 (by omega) trivial rfl r151_666 rfl ?_
    refine s_105 ?_
    refine af_ret ?_
    rw [hm.2.2.2]
    refine g_iload k151_669 rfl ?_
    refine g_iceq_t k151_671 (t := 676) rfl rfl ?_
    refine g_iload k151_676 rfl ?_
    refine g_ifne_f k151_678 (t := 700) rfl rfl ?_
    refine g_aload_n k151_681 rfl ?_
    refine g_iconst (v := nn 0) k151_682 ci_0 ?_
    refine m_lald k151_683 rfl rfl (by omega) (by omega) ?_
    rw [up2_at]
    refine g_iload k151_684 rfl ?_
    refine g_ifeq_t k151_686 (t := 693) rfl rfl ?_
    refine g_lconst (v := 0) k151_693 rfl ?_
    refine g_lcmp k151_694 ?_
    refine g_ifeq_t k151_695 (t := 700) rfl lc_s ?_
    refine g_goto k151_700 (t := 1052) rfl ?_
    exact kk _ _ _ _ _ _ _ _ _ _ (JJ.fin ok wo.dn hin ho.1.out hm) hg
theorem L_10 (hdy : dy.length < 80000) (hi : i + 4 ≤ L) (hL : L ≤ 2048) (hJ : JJ A W F E dy σ ρ τ) (kk : LK L xs i dy Q) : go (tb_P L xs) 151 703 [some (.ref am_scr), some (.ref 0), some (.ref 24), some (.ref 46), some (.int (nn i)), l5, l6] [] (mk dy σ ρ τ) Q := by
  obtain ⟨⟨ok, wo, hin⟩, hS, hR, hW⟩ := hJ
  have hdy2 : dy.length < 100000 := by omega
  refine g_aload_n k151_703 rfl ?_
  refine g_aload_n k151_704 rfl ?_
  refine g_iload k151_705 rfl ?_
  refine g_iconst (v := nn 1) k151_707 ci_1 ?_
  refine g_iaddN k151_708 ?_
  refine m_sald k151_709 (by omega) (by omega) ?_
  refine g_aload_n k151_710 rfl ?_
  refine g_callS3 k151_711 s151_711 c151_711 l90 (by omega) ⟨rfl, rfl, rfl⟩ rfl r151_711 ?_
  refine g_aload_n k90_0 rfl ?_
  refine g_iconst (v := nn 0) k90_1 ci_0 ?_
  refine g_aload_n k90_2 rfl ?_
  refine g_iload_n k90_3 rfl ?_
  refine m_callV1 k90_4 s90_4 c90_4 l91 (by omega) rfl rfl r90_4 rfl ?_
  refine s_91 hdy2 ok hS (fun hc ho => ?_) (fun hc => ?_)
  · skip
    refine af_cat h90x v90_9 ⟨(show 3 < 4 by omega), rfl⟩ ?_
    refine g_iconst (v := nn 1) k90_13 ci_1 ?_
    refine g_ireturn k90_14 t90 ?_
    refine af_ret ?_
    have hg : gr dy (dy ++ [(14, 0)]) := gr_1
    have hdl : List.length (dy ++ [(14, 0)]) < 100000 := by have := hg.1; omega
    have hR1 : RepM A σ := hR.fx ho.2.1
    have hW1 : RunM W σ := hW.fx ho.2.1
    refine g_istore k151_714 rfl rfl ?_
    refine g_aload_n k151_716 rfl ?_
    refine g_aload_n k151_717 rfl ?_
    refine g_iload k151_718 rfl ?_
    refine g_iconst (v := nn 1) k151_720 ci_1 ?_
    refine g_iaddN k151_721 ?_
    refine m_sald k151_722 (by omega) (by omega) ?_
    refine m_callV1 k151_723 s151_723 c151_723 l140 (by omega) rfl rfl r151_723 rfl ?_
    refine s_140w hdl hR1 hW1 (fun _ σ2 hm => ?_) (fun h => absurd h hc)
    refine af_ret ?_
    refine g_istore k151_726 rfl rfl ?_
    refine g_aload_n k151_728 rfl ?_
    refine m_callV0 k151_729 s151_729 c151_729 l105 (by omega) trivial rfl r151_729 rfl ?_
    refine s_105 ?_
    refine af_ret ?_
    rw [hm.2.2.2]
    refine g_iload k151_732 rfl ?_
    refine g_iceq_t k151_734 (t := 739) rfl rfl ?_
    refine g_iload k151_739 rfl ?_
    refine g_ifne_t k151_741 (t := 756) rfl (by decide) ?_
    refine g_goto k151_756 (t := 1052) rfl ?_
    exact kk _ _ _ _ _ _ _ _ _ _ (JJ.fin ok wo hin ho.1 hm) hg
  · skip
    refine af_ret ?_
    have ho := hS.same
    have hg : gr dy dy := gr.rf
    have hdl : List.length dy < 100000 := by have := hg.1; omega
    have hR1 : RepM A σ := hR.fx ho.2.1
    have hW1 : RunM W σ := hW.fx ho.2.1
    refine g_i2l k90_7 ?_
    refine m_last k90_8 rfl rfl (by omega) (by omega) ?_
    refine g_goto k90_9 (t := 15) rfl ?_
    refine g_iconst (v := nn 0) k90_15 ci_0 ?_
    refine g_ireturn k90_16 t90 ?_
    refine af_ret ?_
    refine g_istore k151_714 rfl rfl ?_
    refine g_aload_n k151_716 rfl ?_
    refine g_aload_n k151_717 rfl ?_
    refine g_iload k151_718 rfl ?_
    refine g_iconst (v := nn 1) k151_720 ci_1 ?_
    refine g_iaddN k151_721 ?_
    refine m_sald k151_722 (by omega) (by omega) ?_
    refine m_callV1 k151_723 s151_723 c151_723 l140 (by omega) rfl rfl r151_723 rfl ?_
    refine s_140w hdl hR1 hW1 (fun h => absurd hc h) (fun _ σ2 hm => ?_)
    refine af_ret ?_
    refine g_istore k151_726 rfl rfl ?_
    refine g_aload_n k151_728 rfl ?_
    refine m_callV0 k151_729 s151_729 c151_729 l105 (by omega) trivial rfl r151_729 rfl ?_
    refine s_105 ?_
    refine af_ret ?_
    rw [hm.2.2.2]
    refine g_iload k151_732 rfl ?_
    refine g_iceq_t k151_734 (t := 739) rfl rfl ?_
    refine g_iload k151_739 rfl ?_
    refine g_ifne_f k151_741 (t := 756) rfl rfl ?_
    refine g_aload_n k151_744 rfl ?_
    refine g_iconst (v := nn 0) k151_745 ci_0 ?_
    refine m_lald k151_746 rfl rfl (by omega) (by omega) ?_
    rw [up2_at]
    refine g_iload k151_747 rfl ?_
    refine g_i2l k151_749 ?_
    refine g_lcmp k151_750 ?_
    refine g_ifeq_t k151_751 (t := 756) rfl lc_s ?_
    refine g_goto k151_756 (t := 1052) rfl ?_
    exact kk _ _ _ _ _ _ _ _ _ _ (JJ.fin ok wo hin ho.1.out hm) hg
theorem L_13 (hdy : dy.length < 80000) (hi : i + 4 ≤ L) (hL : L ≤ 2048) (hJ : JJ A W F E dy σ ρ τ) (kk : LK L xs i dy Q) : go (tb_P L xs) 151 783 [some (.ref am_scr), some (.ref 0), some (.ref 24), some (.ref 46), some (.int (nn i)), l5, l6] [] (mk dy σ ρ τ) Q := by
  obtain ⟨⟨ok, wo, hin⟩, hS, hR, hW⟩ := hJ
  have hdy2 : dy.length < 100000 := by omega
  refine g_aload_n k151_783 rfl ?_
  refine g_aload_n k151_784 rfl ?_
  refine g_iload k151_785 rfl ?_
  refine g_iconst (v := nn 1) k151_787 ci_1 ?_
  refine g_iaddN k151_788 ?_
  refine m_sald k151_789 (by omega) (by omega) ?_
  refine g_aload_n k151_790 rfl ?_
  refine g_iload k151_791 rfl ?_
  refine g_iconst (v := nn 2) k151_793 ci_2 ?_
  refine g_iaddN k151_794 ?_
  refine m_sald k151_795 (by omega) (by omega) ?_
  refine g_aload_n k151_796 rfl ?_
  refine g_callS4 k151_797 s151_797 c151_797 l92 (by omega) ⟨rfl, rfl, rfl, rfl⟩ rfl r151_797 ?_
  refine g_aload_n k92_0 rfl ?_
  refine g_iconst (v := nn 0) k92_1 ci_0 ?_
  refine g_aload_n k92_2 rfl ?_
  refine g_iload_n k92_3 rfl ?_
  refine g_iload_n k92_4 rfl ?_
  refine m_callV2 k92_5 s92_5 c92_5 l93 (by omega) ⟨rfl, rfl⟩ rfl r92_5 rfl ?_
  refine s_93w hdy2 ok wo hin.inS hS (fun hc ho => ?_) (fun hc hf ho => ?_) (fun hc hf hv σ1 ho => ?_) (fun hc hf hv σ1 ho => ?_)
  · skip
    refine af_cat h92x v92_9 ⟨(show 4 < 5 by omega), rfl⟩ ?_
    refine g_iconst (v := nn 1) k92_22 ci_1 ?_
    refine g_ireturn k92_23 t92 ?_
    refine af_ret ?_
    have hg : gr dy (dy ++ [(14, 0)]) := gr_1
    have hdl : List.length (dy ++ [(14, 0)]) < 100000 := by have := hg.1; omega
    have hR1 : RepM A σ := hR.fx ho.2.1
    have hW1 : RunM W σ := hW.fx ho.2.1
    refine g_istore k151_800 rfl rfl ?_
    refine g_aload_n k151_802 rfl ?_
    refine g_aload_n k151_803 rfl ?_
    refine g_iload k151_804 rfl ?_
    refine g_iconst (v := nn 1) k151_806 ci_1 ?_
    refine g_iaddN k151_807 ?_
    refine m_sald k151_808 (by omega) (by omega) ?_
    refine g_aload_n k151_809 rfl ?_
    refine g_iload k151_810 rfl ?_
    refine g_iconst (v := nn 2) k151_812 ci_2 ?_
    refine g_iaddN k151_813 ?_
    refine m_sald k151_814 (by omega) (by omega) ?_
    refine m_callV2 k151_815 s151_815 c151_815 l143 (by omega) ⟨rfl, rfl⟩ rfl r151_815 rfl ?_
    refine s_143w hdl ok hR1 hW1 wo (fun _ σ2 hm => ?_) (fun h => absurd h hc) (fun h => absurd h hc) (fun h => absurd h hc)
    refine af_ret ?_
    refine g_istore k151_818 rfl rfl ?_
    refine g_aload_n k151_820 rfl ?_
    refine m_callV0 k151_821 s151_821 c151_821 l105 (by omega) trivial rfl r151_821 rfl ?_
    refine s_105 ?_
    refine af_ret ?_
    rw [hm.2.2.2]
    refine g_iload k151_824 rfl ?_
    refine g_iceq_t k151_826 (t := 831) rfl rfl ?_
    refine g_iload k151_831 rfl ?_
    refine g_ifne_t k151_833 (t := 855) rfl (by decide) ?_
    refine g_goto k151_855 (t := 1052) rfl ?_
    exact kk _ _ _ _ _ _ _ _ _ _ (JJ.fin ok wo hin ho.1 hm) hg
  · skip
    refine af_cat h92x v92_10 ⟨(show 4 < 5 by omega), rfl⟩ ?_
    refine g_iconst (v := nn 2) k92_26 ci_2 ?_
    refine g_ireturn k92_27 t92 ?_
    refine af_ret ?_
    have hg : gr dy (dy ++ [(15, 0)]) := gr_1
    have hdl : List.length (dy ++ [(15, 0)]) < 100000 := by have := hg.1; omega
    have hR1 : RepM A σ := hR.fx ho.2.1
    have hW1 : RunM W σ := hW.fx ho.2.1
    refine g_istore k151_800 rfl rfl ?_
    refine g_aload_n k151_802 rfl ?_
    refine g_aload_n k151_803 rfl ?_
    refine g_iload k151_804 rfl ?_
    refine g_iconst (v := nn 1) k151_806 ci_1 ?_
    refine g_iaddN k151_807 ?_
    refine m_sald k151_808 (by omega) (by omega) ?_
    refine g_aload_n k151_809 rfl ?_
    refine g_iload k151_810 rfl ?_
    refine g_iconst (v := nn 2) k151_812 ci_2 ?_
    refine g_iaddN k151_813 ?_
    refine m_sald k151_814 (by omega) (by omega) ?_
    refine m_callV2 k151_815 s151_815 c151_815 l143 (by omega) ⟨rfl, rfl⟩ rfl r151_815 rfl ?_
    refine s_143w hdl ok hR1 hW1 wo (fun h => absurd hc h) (fun _ _ σ2 hm => ?_) (fun _ h => by rw [hf] at h; cases h) (fun _ h => by rw [hf] at h; cases h)
    refine af_ret ?_
    refine g_istore k151_818 rfl rfl ?_
    refine g_aload_n k151_820 rfl ?_
    refine m_callV0 k151_821 s151_821 c151_821 l105 (by omega) trivial rfl r151_821 rfl ?_
    refine s_105 ?_
    refine af_ret ?_
    rw [hm.2.2.2]
    refine g_iload k151_824 rfl ?_
    refine g_iceq_t k151_826 (t := 831) rfl rfl ?_
    refine g_iload k151_831 rfl ?_
    refine g_ifne_t k151_833 (t := 855) rfl (by decide) ?_
    refine g_goto k151_855 (t := 1052) rfl ?_
    exact kk _ _ _ _ _ _ _ _ _ _ (JJ.fin ok wo hin ho.1 hm) hg
  · skip
    refine af_ret ?_
    have hg : gr dy dy := gr.rf
    have hdl : List.length dy < 100000 := by have := hg.1; omega
    have hR1 : RepM A σ1 := hR.fx ho.2.1
    have hW1 : RunM W σ1 := hW.fx ho.2.1
    refine g_ifeq_f k92_8 (t := 15) rfl (by decide) ?_
    refine g_lconst (v := 1) k92_11 rfl ?_
    refine g_goto k92_12 (t := 16) rfl ?_
    refine m_last k92_16 rfl rfl (by omega) (by omega) ?_
    refine g_goto k92_17 (t := 28) rfl ?_
    refine g_iconst (v := nn 0) k92_28 ci_0 ?_
    refine g_ireturn k92_29 t92 ?_
    refine af_ret ?_
    refine g_istore k151_800 rfl rfl ?_
    refine g_aload_n k151_802 rfl ?_
    refine g_aload_n k151_803 rfl ?_
    refine g_iload k151_804 rfl ?_
    refine g_iconst (v := nn 1) k151_806 ci_1 ?_
    refine g_iaddN k151_807 ?_
    refine m_sald k151_808 (by omega) (by omega) ?_
    refine g_aload_n k151_809 rfl ?_
    refine g_iload k151_810 rfl ?_
    refine g_iconst (v := nn 2) k151_812 ci_2 ?_
    refine g_iaddN k151_813 ?_
    refine m_sald k151_814 (by omega) (by omega) ?_
    refine m_callV2 k151_815 s151_815 c151_815 l143 (by omega) ⟨rfl, rfl⟩ rfl r151_815 rfl ?_
    refine s_143w hdl ok hR1 hW1 wo (fun h => absurd hc h) (fun _ h => by rw [hf] at h; cases h) (fun _ _ _ σ2 hm => ?_) (fun _ _ h => by rw [hv] at h; cases h)
    refine af_ret ?_
    refine g_istore k151_818 rfl rfl ?_
    refine g_aload_n k151_820 rfl ?_
    refine m_callV0 k151_821 s151_821 c151_821 l105 (by omega) trivial rfl r151_821 rfl ?_
    refine s_105 ?_
    refine af_ret ?_
    rw [hm.2.2.2]
    refine g_iload k151_824 rfl ?_
    refine g_iceq_t k151_826 (t := 831) rfl rfl ?_
    refine g_iload k151_831 rfl ?_
    refine g_ifne_f k151_833 (t := 855) rfl rfl ?_
    refine g_aload_n k151_836 rfl ?_
    refine g_iconst (v := nn 0) k151_837 ci_0 ?_
    refine m_lald k151_838 rfl rfl (by omega) (by omega) ?_
    rw [up2_at]
    refine g_iload k151_839 rfl ?_
    refine g_ifeq_f k151_841 (t := 848) rfl (by decide) ?_
    refine g_lconst (v := 1) k151_844 rfl ?_
    refine g_goto k151_845 (t := 849) rfl ?_
    refine g_lcmp k151_849 ?_
    refine g_ifeq_t k151_850 (t := 855) rfl lc_s ?_
    refine g_goto k151_855 (t := 1052) rfl ?_
    exact kk _ _ _ _ _ _ _ _ _ _ (JJ.fin ok wo hin ho.1.out hm) hg
  · skip
    refine af_ret ?_
    have hg : gr dy dy := gr.rf
    have hdl : List.length dy < 100000 := by have := hg.1; omega
    have hR1 : RepM A σ1 := hR.fx ho.2.1
    have hW1 : RunM W σ1 := hW.fx ho.2.1
    refine g_ifeq_t k92_8 (t := 15) rfl rfl ?_
    refine g_lconst (v := 0) k92_15 rfl ?_
    refine m_last k92_16 rfl rfl (by omega) (by omega) ?_
    refine g_goto k92_17 (t := 28) rfl ?_
    refine g_iconst (v := nn 0) k92_28 ci_0 ?_
    refine g_ireturn k92_29 t92 ?_
    refine af_ret ?_
    refine g_istore k151_800 rfl rfl ?_
    refine g_aload_n k151_802 rfl ?_
    refine g_aload_n k151_803 rfl ?_
    refine g_iload k151_804 rfl ?_
    refine g_iconst (v := nn 1) k151_806 ci_1 ?_
    refine g_iaddN k151_807 ?_
    refine m_sald k151_808 (by omega) (by omega) ?_
    refine g_aload_n k151_809 rfl ?_
    refine g_iload k151_810 rfl ?_
    refine g_iconst (v := nn 2) k151_812 ci_2 ?_
    refine g_iaddN k151_813 ?_
    refine m_sald k151_814 (by omega) (by omega) ?_
    refine m_callV2 k151_815 s151_815 c151_815 l143 (by omega) ⟨rfl, rfl⟩ rfl r151_815 rfl ?_
    refine s_143w hdl ok hR1 hW1 wo (fun h => absurd hc h) (fun _ h => by rw [hf] at h; cases h) (fun _ _ h => by rw [hv] at h; cases h) (fun _ _ _ σ2 hm => ?_)
    refine af_ret ?_
    refine g_istore k151_818 rfl rfl ?_
    refine g_aload_n k151_820 rfl ?_
    refine m_callV0 k151_821 s151_821 c151_821 l105 (by omega) trivial rfl r151_821 rfl ?_
    refine s_105 ?_
    refine af_ret ?_
    rw [hm.2.2.2]
    refine g_iload k151_824 rfl ?_
    refine g_iceq_t k151_826 (t := 831) rfl rfl ?_
    refine g_iload k151_831 rfl ?_
    refine g_ifne_f k151_833 (t := 855) rfl rfl ?_
    refine g_aload_n k151_836 rfl ?_
    refine g_iconst (v := nn 0) k151_837 ci_0 ?_
    refine m_lald k151_838 rfl rfl (by omega) (by omega) ?_
    rw [up2_at]
    refine g_iload k151_839 rfl ?_
    refine g_ifeq_t k151_841 (t := 848) rfl rfl ?_
    refine g_lconst (v := 0) k151_848 rfl ?_
    refine g_lcmp k151_849 ?_
    refine g_ifeq_t k151_850 (t := 855) rfl lc_s ?_
    refine g_goto k151_855 (t := 1052) rfl ?_
    exact kk _ _ _ _ _ _ _ _ _ _ (JJ.fin ok wo hin ho.1.out hm) hg
theorem L_14 (hdy : dy.length < 80000) (hi : i + 4 ≤ L) (hL : L ≤ 2048) (hJ : JJ A W F E dy σ ρ τ) (kk : LK L xs i dy Q) : go (tb_P L xs) 151 858 [some (.ref am_scr), some (.ref 0), some (.ref 24), some (.ref 46), some (.int (nn i)), l5, l6] [] (mk dy σ ρ τ) Q := by
  obtain ⟨⟨ok, wo, hin⟩, hS, hR, hW⟩ := hJ
  have hdy2 : dy.length < 100000 := by omega
  refine g_aload_n k151_858 rfl ?_
  refine g_aload_n k151_859 rfl ?_
  refine g_iload k151_860 rfl ?_
  refine g_iconst (v := nn 1) k151_862 ci_1 ?_
  refine g_iaddN k151_863 ?_
  refine m_sald k151_864 (by omega) (by omega) ?_
  refine g_aload_n k151_865 rfl ?_
  refine g_iload k151_866 rfl ?_
  refine g_iconst (v := nn 2) k151_868 ci_2 ?_
  refine g_iaddN k151_869 ?_
  refine m_sald k151_870 (by omega) (by omega) ?_
  refine g_aload_n k151_871 rfl ?_
  refine g_callS4 k151_872 s151_872 c151_872 l96 (by omega) ⟨rfl, rfl, rfl, rfl⟩ rfl r151_872 ?_
  refine g_aload_n k96_0 rfl ?_
  refine g_iconst (v := nn 0) k96_1 ci_0 ?_
  refine g_aload_n k96_2 rfl ?_
  refine g_iload_n k96_3 rfl ?_
  refine g_iload_n k96_4 rfl ?_
  refine m_callV2 k96_5 s96_5 c96_5 l97 (by omega) ⟨rfl, rfl⟩ rfl r96_5 rfl ?_
  refine s_97 hdy2 ok wo hin.inS hS (fun hc ho => ?_) (fun hc hf ho => ?_) (fun hc hf hn σ1 ho => ?_) (fun hc hf hn σ1 ho => ?_)
  · skip
    refine af_cat h96x v96_9 ⟨(show 4 < 5 by omega), rfl⟩ ?_
    refine g_iconst (v := nn 1) k96_15 ci_1 ?_
    refine g_ireturn k96_16 t96 ?_
    refine af_ret ?_
    have hg : gr dy (dy ++ [(14, 0)]) := gr_1
    have hdl : List.length (dy ++ [(14, 0)]) < 100000 := by have := hg.1; omega
    have hR1 : RepM A σ := hR.fx ho.2.1
    have hW1 : RunM W σ := hW.fx ho.2.1
    refine g_istore k151_875 rfl rfl ?_
    refine g_aload_n k151_877 rfl ?_
    refine g_aload_n k151_878 rfl ?_
    refine g_iload k151_879 rfl ?_
    refine g_iconst (v := nn 1) k151_881 ci_1 ?_
    refine g_iaddN k151_882 ?_
    refine m_sald k151_883 (by omega) (by omega) ?_
    refine g_aload_n k151_884 rfl ?_
    refine g_iload k151_885 rfl ?_
    refine g_iconst (v := nn 2) k151_887 ci_2 ?_
    refine g_iaddN k151_888 ?_
    refine m_sald k151_889 (by omega) (by omega) ?_
    refine m_callV2 k151_890 s151_890 c151_890 l146 (by omega) ⟨rfl, rfl⟩ rfl r151_890 rfl ?_
    refine s_146 hdl ok hR1 hW1 wo (fun _ σ2 hm => ?_) (fun h => absurd h hc) (fun h => absurd h hc) (fun h => absurd h hc)
    refine af_ret ?_
    refine g_istore k151_893 rfl rfl ?_
    refine g_aload_n k151_895 rfl ?_
    refine m_callV0 k151_896 s151_896 c151_896 l105 (by omega) trivial rfl r151_896 rfl ?_
    refine s_105 ?_
    refine af_ret ?_
    rw [hm.2.2.2]
    refine g_iload k151_899 rfl ?_
    refine g_iceq_t k151_901 (t := 906) rfl rfl ?_
    refine g_iload k151_906 rfl ?_
    refine g_ifne_t k151_908 (t := 923) rfl (by decide) ?_
    refine g_goto k151_923 (t := 1052) rfl ?_
    exact kk _ _ _ _ _ _ _ _ _ _ (JJ.fin ok wo hin ho.1 hm) hg
  · skip
    refine af_cat h96x v96_10 ⟨(show 4 < 5 by omega), rfl⟩ ?_
    refine g_iconst (v := nn 2) k96_19 ci_2 ?_
    refine g_ireturn k96_20 t96 ?_
    refine af_ret ?_
    have hg : gr dy (dy ++ [(15, 0)]) := gr_1
    have hdl : List.length (dy ++ [(15, 0)]) < 100000 := by have := hg.1; omega
    have hR1 : RepM A σ := hR.fx ho.2.1
    have hW1 : RunM W σ := hW.fx ho.2.1
    refine g_istore k151_875 rfl rfl ?_
    refine g_aload_n k151_877 rfl ?_
    refine g_aload_n k151_878 rfl ?_
    refine g_iload k151_879 rfl ?_
    refine g_iconst (v := nn 1) k151_881 ci_1 ?_
    refine g_iaddN k151_882 ?_
    refine m_sald k151_883 (by omega) (by omega) ?_
    refine g_aload_n k151_884 rfl ?_
    refine g_iload k151_885 rfl ?_
    refine g_iconst (v := nn 2) k151_887 ci_2 ?_
    refine g_iaddN k151_888 ?_
    refine m_sald k151_889 (by omega) (by omega) ?_
    refine m_callV2 k151_890 s151_890 c151_890 l146 (by omega) ⟨rfl, rfl⟩ rfl r151_890 rfl ?_
    refine s_146 hdl ok hR1 hW1 wo (fun h => absurd hc h) (fun _ _ σ2 hm => ?_) (fun _ h => by rw [hf] at h; cases h) (fun _ h => by rw [hf] at h; cases h)
    refine af_ret ?_
    refine g_istore k151_893 rfl rfl ?_
    refine g_aload_n k151_895 rfl ?_
    refine m_callV0 k151_896 s151_896 c151_896 l105 (by omega) trivial rfl r151_896 rfl ?_
    refine s_105 ?_
    refine af_ret ?_
    rw [hm.2.2.2]
    refine g_iload k151_899 rfl ?_
    refine g_iceq_t k151_901 (t := 906) rfl rfl ?_
    refine g_iload k151_906 rfl ?_
    refine g_ifne_t k151_908 (t := 923) rfl (by decide) ?_
    refine g_goto k151_923 (t := 1052) rfl ?_
    exact kk _ _ _ _ _ _ _ _ _ _ (JJ.fin ok wo hin ho.1 hm) hg
  · skip
    refine af_cat h96x v96_11 ⟨(show 4 < 5 by omega), rfl⟩ ?_
    refine g_iconst (v := nn 3) k96_23 ci_3 ?_
    refine g_ireturn k96_24 t96 ?_
    refine af_ret ?_
    have hg : gr dy (dy ++ [(16, 0)]) := gr_1
    have hdl : List.length (dy ++ [(16, 0)]) < 100000 := by have := hg.1; omega
    have hR1 : RepM A σ1 := hR.fx ho.2.1
    have hW1 : RunM W σ1 := hW.fx ho.2.1
    refine g_istore k151_875 rfl rfl ?_
    refine g_aload_n k151_877 rfl ?_
    refine g_aload_n k151_878 rfl ?_
    refine g_iload k151_879 rfl ?_
    refine g_iconst (v := nn 1) k151_881 ci_1 ?_
    refine g_iaddN k151_882 ?_
    refine m_sald k151_883 (by omega) (by omega) ?_
    refine g_aload_n k151_884 rfl ?_
    refine g_iload k151_885 rfl ?_
    refine g_iconst (v := nn 2) k151_887 ci_2 ?_
    refine g_iaddN k151_888 ?_
    refine m_sald k151_889 (by omega) (by omega) ?_
    refine m_callV2 k151_890 s151_890 c151_890 l146 (by omega) ⟨rfl, rfl⟩ rfl r151_890 rfl ?_
    refine s_146 hdl ok hR1 hW1 wo (fun h => absurd hc h) (fun _ h => by rw [hf] at h; cases h) (fun _ _ _ σ2 hm => ?_) (fun _ _ h => absurd h hn)
    refine af_ret ?_
    refine g_istore k151_893 rfl rfl ?_
    refine g_aload_n k151_895 rfl ?_
    refine m_callV0 k151_896 s151_896 c151_896 l105 (by omega) trivial rfl r151_896 rfl ?_
    refine s_105 ?_
    refine af_ret ?_
    rw [hm.2.2.2]
    refine g_iload k151_899 rfl ?_
    refine g_iceq_t k151_901 (t := 906) rfl rfl ?_
    refine g_iload k151_906 rfl ?_
    refine g_ifne_t k151_908 (t := 923) rfl (by decide) ?_
    refine g_goto k151_923 (t := 1052) rfl ?_
    exact kk _ _ _ _ _ _ _ _ _ _ (JJ.fin ok wo hin ho.1 hm) hg
  · skip
    refine af_ret ?_
    have hg : gr dy dy := gr.rf
    have hdl : List.length dy < 100000 := by have := hg.1; omega
    have hR1 : RepM A σ1 := hR.fx ho.2.1
    have hW1 : RunM W σ1 := hW.fx ho.2.1
    refine g_i2l k96_8 ?_
    refine m_last k96_9 rfl rfl (by omega) (by omega) ?_
    refine g_goto k96_10 (t := 25) rfl ?_
    refine g_iconst (v := nn 0) k96_25 ci_0 ?_
    refine g_ireturn k96_26 t96 ?_
    refine af_ret ?_
    refine g_istore k151_875 rfl rfl ?_
    refine g_aload_n k151_877 rfl ?_
    refine g_aload_n k151_878 rfl ?_
    refine g_iload k151_879 rfl ?_
    refine g_iconst (v := nn 1) k151_881 ci_1 ?_
    refine g_iaddN k151_882 ?_
    refine m_sald k151_883 (by omega) (by omega) ?_
    refine g_aload_n k151_884 rfl ?_
    refine g_iload k151_885 rfl ?_
    refine g_iconst (v := nn 2) k151_887 ci_2 ?_
    refine g_iaddN k151_888 ?_
    refine m_sald k151_889 (by omega) (by omega) ?_
    refine m_callV2 k151_890 s151_890 c151_890 l146 (by omega) ⟨rfl, rfl⟩ rfl r151_890 rfl ?_
    refine s_146 hdl ok hR1 hW1 wo (fun h => absurd hc h) (fun _ h => by rw [hf] at h; cases h) (fun _ _ h => absurd hn h) (fun _ _ _ σ2 hm => ?_)
    refine af_ret ?_
    refine g_istore k151_893 rfl rfl ?_
    refine g_aload_n k151_895 rfl ?_
    refine m_callV0 k151_896 s151_896 c151_896 l105 (by omega) trivial rfl r151_896 rfl ?_
    refine s_105 ?_
    refine af_ret ?_
    rw [hm.2.2.2]
    refine g_iload k151_899 rfl ?_
    refine g_iceq_t k151_901 (t := 906) rfl rfl ?_
    refine g_iload k151_906 rfl ?_
    refine g_ifne_f k151_908 (t := 923) rfl rfl ?_
    refine g_aload_n k151_911 rfl ?_
    refine g_iconst (v := nn 0) k151_912 ci_0 ?_
    refine m_lald k151_913 rfl rfl (by omega) (by omega) ?_
    rw [up2_at]
    refine g_iload k151_914 rfl ?_
    refine g_i2l k151_916 ?_
    refine g_lcmp k151_917 ?_
    refine g_ifeq_t k151_918 (t := 923) rfl lc_s ?_
    refine g_goto k151_923 (t := 1052) rfl ?_
    exact kk _ _ _ _ _ _ _ _ _ _ (JJ.fin ok (wo.fi ok hf hn) (hin.fi ok hf hn) ho.1.out hm) hg
theorem L_15 (hdy : dy.length < 80000) (hi : i + 4 ≤ L) (hL : L ≤ 2048) (hJ : JJ A W F E dy σ ρ τ) (kk : LK L xs i dy Q) : go (tb_P L xs) 151 926 [some (.ref am_scr), some (.ref 0), some (.ref 24), some (.ref 46), some (.int (nn i)), l5, l6] [] (mk dy σ ρ τ) Q := by
  obtain ⟨⟨ok, wo, hin⟩, hS, hR, hW⟩ := hJ
  have hdy2 : dy.length < 100000 := by omega
  refine g_aload_n k151_926 rfl ?_
  refine g_aload_n k151_927 rfl ?_
  refine g_callS2 k151_928 s151_928 c151_928 l99 (by omega) ⟨rfl, rfl⟩ rfl r151_928 ?_
  refine g_aload_n k99_0 rfl ?_
  refine g_iconst (v := nn 0) k99_1 ci_0 ?_
  refine g_aload_n k99_2 rfl ?_
  refine m_callV0 k99_3 s99_3 c99_3 l100 (by omega) trivial rfl r99_3 rfl ?_
  refine s_100 hdy2 ok wo hS (fun hc ho => ?_) (fun hc hf σ1 ho => ?_)
  · skip
    refine af_cat h99x v99_10 ⟨(show 2 < 3 by omega), rfl⟩ ?_
    refine g_iconst (v := nn 1) k99_12 ci_1 ?_
    refine g_ireturn k99_13 t99 ?_
    refine af_ret ?_
    have hg : gr dy (dy ++ [(15, 0)]) := gr_1
    have hdl : List.length (dy ++ [(15, 0)]) < 100000 := by have := hg.1; omega
    have hR1 : RepM A σ := hR.fx ho.2.1
    have hW1 : RunM W σ := hW.fx ho.2.1
    refine g_istore k151_931 rfl rfl ?_
    refine g_aload_n k151_933 rfl ?_
    refine m_callV0 k151_934 s151_934 c151_934 l147 (by omega) trivial rfl r151_934 rfl ?_
    refine s_147 hdl hR1 hW1 wo (fun _ σ2 hm => ?_) (fun h1 h2 => absurd ⟨h1, h2⟩ hc)
    refine af_ret ?_
    refine g_istore k151_937 rfl rfl ?_
    refine g_aload_n k151_939 rfl ?_
    refine m_callV0 k151_940 s151_940 c151_940 l105 (by omega) trivial rfl r151_940 rfl ?_
    refine s_105 ?_
    refine af_ret ?_
    rw [hm.2.2.2]
    refine g_iload k151_943 rfl ?_
    refine g_iceq_t k151_945 (t := 950) rfl rfl ?_
    refine g_iload k151_950 rfl ?_
    refine g_ifne_t k151_952 (t := 967) rfl (by decide) ?_
    refine g_goto k151_967 (t := 1052) rfl ?_
    exact kk _ _ _ _ _ _ _ _ _ _ (JJ.fin ok wo hin ho.1 hm) hg
  · skip
    refine af_ret ?_
    have hg : gr dy dy := gr.rf
    have hdl : List.length dy < 100000 := by have := hg.1; omega
    have hR1 : RepM A σ1 := hR.fx ho.2.1
    have hW1 : RunM W σ1 := hW.fx ho.2.1
    refine g_i2l k99_6 ?_
    refine m_last k99_7 rfl rfl (by omega) (by omega) ?_
    refine g_goto k99_8 (t := 14) rfl ?_
    refine g_iconst (v := nn 0) k99_14 ci_0 ?_
    refine g_ireturn k99_15 t99 ?_
    refine af_ret ?_
    refine g_istore k151_931 rfl rfl ?_
    refine g_aload_n k151_933 rfl ?_
    refine m_callV0 k151_934 s151_934 c151_934 l147 (by omega) trivial rfl r151_934 rfl ?_
    refine s_147 hdl hR1 hW1 wo (fun h => absurd ⟨hc, hf⟩ h) (fun _ _ σ2 hm => ?_)
    refine af_ret ?_
    refine g_istore k151_937 rfl rfl ?_
    refine g_aload_n k151_939 rfl ?_
    refine m_callV0 k151_940 s151_940 c151_940 l105 (by omega) trivial rfl r151_940 rfl ?_
    refine s_105 ?_
    refine af_ret ?_
    rw [hm.2.2.2]
    refine g_iload k151_943 rfl ?_
    refine g_iceq_t k151_945 (t := 950) rfl rfl ?_
    refine g_iload k151_950 rfl ?_
    refine g_ifne_f k151_952 (t := 967) rfl rfl ?_
    refine g_aload_n k151_955 rfl ?_
    refine g_iconst (v := nn 0) k151_956 ci_0 ?_
    refine m_lald k151_957 rfl rfl (by omega) (by omega) ?_
    rw [up2_at]
    refine g_iload k151_958 rfl ?_
    refine g_i2l k151_960 ?_
    refine g_lcmp k151_961 ?_
    refine g_ifeq_t k151_962 (t := 967) rfl lc_s ?_
    refine g_goto k151_967 (t := 1052) rfl ?_
    exact kk _ _ _ _ _ _ _ _ _ _ (JJ.fin ok (wo.bk hc) (hin.bk hc) ho.1.out hm) hg
theorem L_16 (hdy : dy.length < 80000) (hi : i + 4 ≤ L) (hL : L ≤ 2048) (hJ : JJ A W F E dy σ ρ τ) (kk : LK L xs i dy Q) : go (tb_P L xs) 151 970 [some (.ref am_scr), some (.ref 0), some (.ref 24), some (.ref 46), some (.int (nn i)), l5, l6] [] (mk dy σ ρ τ) Q := by
  obtain ⟨⟨ok, wo, hin⟩, hS, hR, hW⟩ := hJ
  have hdy2 : dy.length < 100000 := by omega
  refine g_aload_n k151_970 rfl ?_
  refine g_aload_n k151_971 rfl ?_
  refine g_iload k151_972 rfl ?_
  refine g_iconst (v := nn 1) k151_974 ci_1 ?_
  refine g_iaddN k151_975 ?_
  refine m_sald k151_976 (by omega) (by omega) ?_
  refine g_aload_n k151_977 rfl ?_
  refine g_callS3 k151_978 s151_978 c151_978 l102 (by omega) ⟨rfl, rfl, rfl⟩ rfl r151_978 ?_
  refine g_aload_n k102_0 rfl ?_
  refine g_iconst (v := nn 0) k102_1 ci_0 ?_
  refine g_aload_n k102_2 rfl ?_
  refine g_iload_n k102_3 rfl ?_
  refine m_callV1 k102_4 s102_4 c102_4 l103 (by omega) rfl rfl r102_4 rfl ?_
  refine s_103 hdy2 ok hS (fun hc ho => ?_) (fun hc => ?_)
  · skip
    refine af_cat h102x v102_9 ⟨(show 3 < 4 by omega), rfl⟩ ?_
    refine g_iconst (v := nn 1) k102_13 ci_1 ?_
    refine g_ireturn k102_14 t102 ?_
    refine af_ret ?_
    have hg : gr dy (dy ++ [(14, 0)]) := gr_1
    have hdl : List.length (dy ++ [(14, 0)]) < 100000 := by have := hg.1; omega
    have hR1 : RepM A σ := hR.fx ho.2.1
    have hW1 : RunM W σ := hW.fx ho.2.1
    refine g_istore k151_981 rfl rfl ?_
    refine g_aload_n k151_983 rfl ?_
    refine g_aload_n k151_984 rfl ?_
    refine g_iload k151_985 rfl ?_
    refine g_iconst (v := nn 1) k151_987 ci_1 ?_
    refine g_iaddN k151_988 ?_
    refine m_sald k151_989 (by omega) (by omega) ?_
    refine m_callV1 k151_990 s151_990 c151_990 l148 (by omega) rfl rfl r151_990 rfl ?_
    refine s_148 hdl hR1 hW1 wo (fun _ σ2 hm => ?_) (fun h => absurd h hc)
    refine af_ret ?_
    refine g_istore k151_993 rfl rfl ?_
    refine g_aload_n k151_995 rfl ?_
    refine m_callV0 k151_996 s151_996 c151_996 l105 (by omega) trivial rfl r151_996 rfl ?_
    refine s_105 ?_
    refine af_ret ?_
    rw [hm.2.2.2]
    refine g_iload k151_999 rfl ?_
    refine g_iceq_t k151_1001 (t := 1006) rfl rfl ?_
    refine g_iload k151_1006 rfl ?_
    refine g_ifne_t k151_1008 (t := 1023) rfl (by decide) ?_
    refine g_goto k151_1023 (t := 1052) rfl ?_
    exact kk _ _ _ _ _ _ _ _ _ _ (JJ.fin ok wo hin ho.1 hm) hg
  · skip
    refine af_ret ?_
    have ho := hS.same
    have hg : gr dy dy := gr.rf
    have hdl : List.length dy < 100000 := by have := hg.1; omega
    have hR1 : RepM A σ := hR.fx ho.2.1
    have hW1 : RunM W σ := hW.fx ho.2.1
    refine g_i2l k102_7 ?_
    refine m_last k102_8 rfl rfl (by omega) (by omega) ?_
    refine g_goto k102_9 (t := 15) rfl ?_
    refine g_iconst (v := nn 0) k102_15 ci_0 ?_
    refine g_ireturn k102_16 t102 ?_
    refine af_ret ?_
    refine g_istore k151_981 rfl rfl ?_
    refine g_aload_n k151_983 rfl ?_
    refine g_aload_n k151_984 rfl ?_
    refine g_iload k151_985 rfl ?_
    refine g_iconst (v := nn 1) k151_987 ci_1 ?_
    refine g_iaddN k151_988 ?_
    refine m_sald k151_989 (by omega) (by omega) ?_
    refine m_callV1 k151_990 s151_990 c151_990 l148 (by omega) rfl rfl r151_990 rfl ?_
    refine s_148 hdl hR1 hW1 wo (fun h => absurd hc h) (fun _ σ2 hm => ?_)
    refine af_ret ?_
    refine g_istore k151_993 rfl rfl ?_
    refine g_aload_n k151_995 rfl ?_
    refine m_callV0 k151_996 s151_996 c151_996 l105 (by omega) trivial rfl r151_996 rfl ?_
    refine s_105 ?_
    refine af_ret ?_
    rw [hm.2.2.2]
    refine g_iload k151_999 rfl ?_
    refine g_iceq_t k151_1001 (t := 1006) rfl rfl ?_
    refine g_iload k151_1006 rfl ?_
    refine g_ifne_f k151_1008 (t := 1023) rfl rfl ?_
    refine g_aload_n k151_1011 rfl ?_
    refine g_iconst (v := nn 0) k151_1012 ci_0 ?_
    refine m_lald k151_1013 rfl rfl (by omega) (by omega) ?_
    rw [up2_at]
    refine g_iload k151_1014 rfl ?_
    refine g_i2l k151_1016 ?_
    refine g_lcmp k151_1017 ?_
    refine g_ifeq_t k151_1018 (t := 1023) rfl lc_s ?_
    refine g_goto k151_1023 (t := 1052) rfl ?_
    exact kk _ _ _ _ _ _ _ _ _ _ (JJ.fin ok wo hin ho.1.out hm) hg
theorem L_11 (hdy : dy.length < 80000) (hi : i + 4 ≤ L) (hL : L ≤ 2048) (hJ : JJ A W F E dy σ ρ τ) (kk : LK L xs i dy Q) : go (tb_P L xs) 151 759 [some (.ref am_scr), some (.ref 0), some (.ref 24), some (.ref 46), some (.int (nn i)), l5, l6] [] (mk dy σ ρ τ) Q := by
  obtain ⟨⟨ok, wo, hin⟩, hS, hR, hW⟩ := hJ
  have hdy2 : dy.length < 100000 := by omega
  refine g_aload_n k151_759 rfl ?_
  refine m_callV0 k151_760 s151_760 c151_760 l7 (by omega) trivial rfl r151_760 rfl ?_
  refine s_7 hdy2 ok hS (fun σ1 τ1 ho => ?_)
  refine af_ret ?_
  have hg : gr dy dy := gr.rf
  have hdl : List.length dy < 100000 := by have := hg.1; omega
  have hR1 : RepM A σ1 := hR.fx ho.2.1
  have hW1 : RunM W σ1 := hW.fx ho.2.1
  refine g_aload_n k151_763 rfl ?_
  refine m_callV0 k151_764 s151_764 c151_764 l141 (by omega) trivial rfl r151_764 rfl ?_
  refine s_141w hdl ok hR1 hW1 (fun σ2 hm => ?_)
  refine af_ret ?_
  refine g_iceq_t k151_767 (t := 1052) rfl rfl ?_
  exact kk _ _ _ _ _ _ _ _ _ _ (JJ.fin ok wo hin ho.1 hm) hg
theorem L_12 (hdy : dy.length < 80000) (hi : i + 4 ≤ L) (hL : L ≤ 2048) (hJ : JJ A W F E dy σ ρ τ) (kk : LK L xs i dy Q) : go (tb_P L xs) 151 772 [some (.ref am_scr), some (.ref 0), some (.ref 24), some (.ref 46), some (.int (nn i)), l5, l6] [] (mk dy σ ρ τ) Q := by
  obtain ⟨⟨ok, wo, hin⟩, hS, hR, hW⟩ := hJ
  have hdy2 : dy.length < 100000 := by omega
  refine g_aload_n k151_772 rfl ?_
  refine m_callV0 k151_773 s151_773 c151_773 l33 (by omega) trivial rfl r151_773 rfl ?_
  refine s_33 hdy2 ok hS (fun σ1 ho => ?_)
  refine af_void ?_
  have hg : gr dy dy := gr.rf
  have hdl : List.length dy < 100000 := by have := hg.1; omega
  have hR1 : RepM A σ1 := hR.fx ho.2.1
  have hW1 : RunM W σ1 := hW.fx ho.2.1
  refine g_aload_n k151_776 rfl ?_
  refine m_callV0 k151_777 s151_777 c151_777 l142 (by omega) trivial rfl r151_777 rfl ?_
  refine s_142 hdl hR1 hW1 (fun σ2 hm => ?_)
  refine af_void ?_
  refine g_goto k151_780 (t := 1052) rfl ?_
  exact kk _ _ _ _ _ _ _ _ _ _ (JJ.fin ok (wo.st ok) (inA.st ok) ho.1 hm) hg
theorem L_17 (hdy : dy.length < 80000) (hi : i + 4 ≤ L) (hL : L ≤ 2048) (hJ : JJ A W F E dy σ ρ τ) (kk : LK L xs i dy Q) : go (tb_P L xs) 151 1026 [some (.ref am_scr), some (.ref 0), some (.ref 24), some (.ref 46), some (.int (nn i)), l5, l6] [] (mk dy σ ρ τ) Q := by
  obtain ⟨⟨ok, wo, hin⟩, hS, hR, hW⟩ := hJ
  have hdy2 : dy.length < 100000 := by omega
  refine g_aload_n k151_1026 rfl ?_
  refine m_callV0 k151_1027 s151_1027 c151_1027 l36 (by omega) trivial rfl r151_1027 rfl ?_
  refine s_36 hS ?_
  refine af_ret ?_
  have ho := hS.same
  have hg : gr dy dy := gr.rf
  have hdl : List.length dy < 100000 := by have := hg.1; omega
  have hR1 : RepM A σ := hR.fx ho.2.1
  have hW1 : RunM W σ := hW.fx ho.2.1
  refine g_aload_n k151_1030 rfl ?_
  refine m_callV0 k151_1031 s151_1031 c151_1031 l149 (by omega) trivial rfl r151_1031 rfl ?_
  refine s_149 hdl hR1 hW1 (fun σ2 hm => ?_)
  refine af_ret ?_
  refine g_iceq_t k151_1034 (t := 1052) rfl rfl ?_
  exact kk _ _ _ _ _ _ _ _ _ _ (JJ.fin ok wo hin ho.1 hm) hg
theorem L_18 (hdy : dy.length < 80000) (hi : i + 4 ≤ L) (hL : L ≤ 2048) (hJ : JJ A W F E dy σ ρ τ) (kk : LK L xs i dy Q) : go (tb_P L xs) 151 1039 [some (.ref am_scr), some (.ref 0), some (.ref 24), some (.ref 46), some (.int (nn i)), l5, l6] [] (mk dy σ ρ τ) Q := by
  obtain ⟨⟨ok, wo, hin⟩, hS, hR, hW⟩ := hJ
  have hdy2 : dy.length < 100000 := by omega
  refine g_aload_n k151_1039 rfl ?_
  refine m_callV0 k151_1040 s151_1040 c151_1040 l37 (by omega) trivial rfl r151_1040 rfl ?_
  refine s_37 hdy2 ok wo hS (fun σ1 τ1 ho => ?_)
  refine af_ret ?_
  have hg : gr dy dy := gr.rf
  have hdl : List.length dy < 100000 := by have := hg.1; omega
  have hR1 : RepM A σ1 := hR.fx ho.2.1
  have hW1 : RunM W σ1 := hW.fx ho.2.1
  refine g_aload_n k151_1043 rfl ?_
  refine m_callV0 k151_1044 s151_1044 c151_1044 l150 (by omega) trivial rfl r151_1044 rfl ?_
  refine s_150 hdl ok hR1 hW1 wo (fun σ2 hm => ?_)
  refine af_ret ?_
  refine g_iceq_t k151_1047 (t := 1052) rfl rfl ?_
  exact kk _ _ _ _ _ _ _ _ _ _ (JJ.fin ok wo hin ho.1 hm) hg
end ZK
