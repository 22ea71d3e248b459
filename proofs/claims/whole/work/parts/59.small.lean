/-! The class: its whole state; small questions. -/
section ZB
variable {L : Nat} {xs : Nat → Int32} {Q : am_A → am_H → Prop} {dy dy' : List (Nat × Nat)} {σ σ' : Nat → Nat → Int32} {ρ ρ' : Nat → Nat → Option Nat} {τ τ' : Nat → Nat → Int64} {A : TD} {W : RS} {F E : Nat → Nat} {f e u r ad m kd : Nat} {x z w a b : Int32}
/-- the class holds what is written, the run, what is shown -/
def RunX (W : RS) (σ : Nat → Nat → Int32) : Prop := (σ 1 3 = nn (rs_n W) ∧ ∀ i, i < rs_n W → σ 2 i = rs_w W i) ∧ (σ 21 4 = bb (rs_on W = true) ∧ σ 21 5 = bb ((rs_on W && rs_tn W) = true) ∧ σ 21 3 = nn (if rs_on W = true then rs_k W else 0) ∧ nf (σ 22 6) ∧ (rs_on W = true → (∀ v, v < 6 → σ 22 v = nn (rs_r W (rs_k W) v)) ∧ ∀ j v, j < rs_k W → v < 6 → σ 23 (6 * j + v) = nn (rs_r W j v))) ∧ (σ 0 7 = bb (rs_sw W = true) ∧ (rs_sw W = true → ∀ v, v < 7 → σ 6 v = rs_sh W v))
/-- no place of these is another -/
def agV (σ σ' : Nat → Nat → Int32) : Prop := ∀ a k, a = 2 ∨ a = 6 ∨ a = 22 ∨ a = 23 ∨ (a = 1 ∧ k = 3) ∨ (a = 21 ∧ (k = 3 ∨ k = 4 ∨ k = 5)) ∨ (a = 0 ∧ k = 7) → σ' a k = σ a k
theorem RunX.agr (h : RunX W σ) (hs : agV σ σ') : RunX W σ' := by
  obtain ⟨⟨a1, a2⟩, ⟨b1, b2, b3, b4, b5⟩, c1, c2⟩ := h
  refine ⟨⟨by rw [hs 1 3 (by omega)]; exact a1, fun i hi => by rw [hs 2 i (by omega)]; exact a2 i hi⟩, ⟨by rw [hs 21 4 (by omega)]; exact b1, by rw [hs 21 5 (by omega)]; exact b2, by rw [hs 21 3 (by omega)]; exact b3, by rw [hs 22 6 (by omega)]; exact b4, fun ho => ⟨fun v hv => by rw [hs 22 v (by omega)]; exact (b5 ho).1 v hv, fun j v hj hv => by rw [hs 23 _ (by omega)]; exact (b5 ho).2 j v hj hv⟩⟩, by rw [hs 0 7 (by omega)]; exact c1, fun hw v hv => by rw [hs 6 v (by omega)]; exact c2 hw v hv⟩
/-- the class's whole state -/
def XS (A : TD) (W : RS) (F E : Nat → Nat) (dy : List (Nat × Nat)) (σ : Nat → Nat → Int32) (ρ : Nat → Nat → Option Nat) (τ : Nat → Nat → Int64) : Prop := RepX A F E dy σ ρ ∧ CX A τ ∧ RunX W σ
/-- the class alone has changed -/
def fX (σ σ' : Nat → Nat → Int32) : Prop := ∀ a, 24 ≤ a → a < 47 → σ' a = σ a
theorem fX.rf (σ : Nat → Nat → Int32) : fX σ σ := fun _ _ _ => rfl
theorem fX.tr {σ σ1 σ2 : Nat → Nat → Int32} (h1 : fX σ σ1) (h2 : fX σ1 σ2) : fX σ σ2 := fun a g1 g2 => (h2 a g1 g2).trans (h1 a g1 g2)
theorem fX.up {a k : Nat} {v : Int32} (h : fX σ σ') (ha : a < 24 ∨ 47 ≤ a) : fX σ (up2 σ' a k v) := fun b g1 g2 => by
  rw [← h b g1 g2]
  funext q
  exact up2_ne (Or.inl (by omega))
theorem fX.ur {a : Nat} {g : Nat → Int32} (h : fX σ σ') (ha : a < 24 ∨ 47 ≤ a) : fX σ (upr σ' a g) := fun b g1 g2 => by
  rw [← h b g1 g2]
  exact upr_ne (by omega)
theorem fD.fX (h : fD dy σ σ') : fX σ σ' := fun a g1 g2 => funext fun k => h a k (by omega) (by omega) (by omega) (by omega) (by omega) (Or.inl g2)
theorem fD.agV (h : fD dy σ σ') : agV σ σ' := fun a k g => h a k (by omega) (by omega) (by omega) (by omega) (by omega) (Or.inl (by omega))
/-- how a call of the class ends -/
def oX (A : TD) (W : RS) (F E : Nat → Nat) (σ : Nat → Nat → Int32) (τ : Nat → Nat → Int64) (dy' : List (Nat × Nat)) (σ' : Nat → Nat → Int32) (ρ' : Nat → Nat → Option Nat) (τ' : Nat → Nat → Int64) : Prop := XS A W F E dy' σ' ρ' τ' ∧ fX σ σ' ∧ tE τ τ'
theorem sh_app {l : List (Nat × Nat)} {s : Nat × Nat} {a : Nat} (h : me_sh dy a = some s) : me_sh (dy ++ l) a = some s := by
  unfold me_sh at h ⊢
  rw [← List.append_assoc, List.getElem?_append_left (List.getElem?_eq_some_iff.mp h).1]
  exact h
theorem XS.app {l : List (Nat × Nat)} (ok : TOK A) (h : XS A W F E dy σ ρ τ) : XS A W F E (dy ++ l) σ ρ τ := ⟨h.1.mono ok (fun _ _ q => sh_app q) ⟨fun _ _ _ => rfl, fun _ _ _ _ _ _ => rfl⟩ ⟨fun _ _ _ => rfl, fun _ _ _ _ _ => rfl⟩, h.2⟩
theorem XS.thr {l : List (Nat × Nat)} (ok : TOK A) (h : XS A W F E dy σ ρ τ) : oX A W F E σ τ (dy ++ l) σ ρ τ := ⟨h.app ok, fX.rf σ, tE.rf τ⟩
theorem XS.same (h : XS A W F E dy σ ρ τ) : oX A W F E σ τ dy σ ρ τ := ⟨h, fX.rf σ, tE.rf τ⟩
theorem XS.dn (ok : TOK A) (h : XS A W F E dy σ ρ τ) (hs : fD dy σ σ') (ht : tE τ τ') (hC : CX A τ') : oX A W F E σ τ dy σ' ρ τ' := ⟨⟨h.1.agr ok hs.ag, hC, h.2.2.agr hs.agV⟩, hs.fX, ht⟩
theorem XS.dnt {l : List (Nat × Nat)} (ok : TOK A) (h : XS A W F E dy σ ρ τ) (hs : fD dy σ σ') (ht : tE τ τ') (hC : CX A τ') : oX A W F E σ τ (dy ++ l) σ' ρ τ' := ⟨XS.app ok ⟨h.1.agr ok hs.ag, hC, h.2.2.agr hs.agV⟩, hs.fX, ht⟩
/-- one less -/
theorem sub1 : (0 ≤ (z - nn 1).toInt ∧ (z - nn 1).toInt < 4) ↔ (1 ≤ z.toInt ∧ z.toInt ≤ 4) := by
  constructor
  · intro h
    obtain ⟨k, hk, hk4⟩ := in_nn (n := 4) h
    have e : z = nn (k + 1) := by
      rw [← nn_add, ← hk, Int32.sub_add_cancel]
    rw [e, nn_toInt (by omega)]
    omega
  · intro h
    obtain ⟨k, hk, hk5⟩ := in_nn (x := z) (n := 5) ⟨by omega, by omega⟩
    subst hk
    rw [nn_toInt (by omega)] at h
    rw [nn_sub (by omega), nn_toInt (by omega)]
    omega
theorem s_40 (kk : Q (.inl (some (.int (bb (0 ≤ a.toInt ∧ a.toInt < 6))))) (mk dy σ ρ τ)) : go (tb_P L xs) 40 0 [some (.int a)] [] (mk dy σ ρ τ) Q := by
  refine g_iload_n k40_0 rfl ?_
  refine g_bipush (v := nn 6) k40_1 cb_6 ?_
  refine g_callS2 k40_3 s40_3 c40_3 l26 (by omega) ⟨rfl, rfl⟩ rfl r40_3 ?_
  refine s_26 ?_
  refine af_ret ?_
  rw [ti_6]
  refine g_breturnB k40_6 t40 ?_
  exact kk
theorem s_69a (kk : Q (.inl none) (mk dy σ ρ τ)) : go (tb_P L xs) 69 0 [some (.int (nn 1))] [] (mk dy σ ρ τ) Q := by
  refine g_iload_n k69_0 rfl ?_
  refine g_ifne_t k69_1 (t := 12) rfl (by decide) ?_
  refine g_return k69_12 t69 ?_
  exact kk
theorem s_69b (kk : Q (.inr 9) (mk (dy ++ [(14, 0)]) σ ρ τ)) : go (tb_P L xs) 69 0 [some (.int (nn 0))] [] (mk dy σ ρ τ) Q := by
  refine g_iload_n k69_0 rfl ?_
  refine g_ifne_f k69_1 (t := 12) rfl rfl ?_
  refine m_throw k69_4 n69_4 k69_7 k69_8 k69_11 x69_4 (by omega) r69_4 (o69 _) ?_
  exact kk
theorem s_62a (hdy : dy.length < 100000) (ok : TOK A) (hX : RepX A F E dy σ ρ) (he : e < td_ne A) (kk : Q (.inl (some (.ref (E e)))) (mk dy σ ρ τ)) : go (tb_P L xs) 62 0 [some (.ref 7), some (.int (nn e))] [] (mk dy σ ρ τ) Q := by
  have h11 := hX.2.1.1
  have hne := ok.2.2.1
  have g10 := (hX.2.1.2.1 e he).1
  refine g_iload_n k62_0 rfl ?_
  refine g_aload_n k62_1 rfl ?_
  refine m_get k62_2 f62_2 rfl rfl ?_
  rw [h11]
  refine g_callS2 k62_5 s62_5 c62_5 l26 (by omega) ⟨rfl, rfl⟩ rfl r62_5 ?_
  refine s_26 ?_
  refine af_ret ?_
  refine g_ifeq_f k62_8 (t := 20) rfl (by rw [bb_t (by rw [nn_toInt (by omega), nn_toInt (by omega)]; omega)]; decide) ?_
  refine g_aload_n k62_11 rfl ?_
  refine m_get k62_12 f62_12 rfl rfl ?_
  refine g_iload_n k62_15 rfl ?_
  refine m_aald k62_16 rfl ⟨by omega, by omega⟩ rfl (by omega) (by omega) ?_
  rw [g10, va_rs]
  refine g_goto k62_17 (t := 21) rfl ?_
  refine g_areturn k62_21 (by rw [t62]; rfl) ?_
  exact kk
theorem s_62b (hdy : dy.length < 100000) (ok : TOK A) (hX : RepX A F E dy σ ρ) (hx : ¬ (0 ≤ x.toInt ∧ x.toInt < td_ne A)) (kk : Q (.inl (some .null)) (mk dy σ ρ τ)) : go (tb_P L xs) 62 0 [some (.ref 7), some (.int x)] [] (mk dy σ ρ τ) Q := by
  have h11 := hX.2.1.1
  have hne := ok.2.2.1
  refine g_iload_n k62_0 rfl ?_
  refine g_aload_n k62_1 rfl ?_
  refine m_get k62_2 f62_2 rfl rfl ?_
  rw [h11]
  refine g_callS2 k62_5 s62_5 c62_5 l26 (by omega) ⟨rfl, rfl⟩ rfl r62_5 ?_
  refine s_26 ?_
  refine af_ret ?_
  refine g_ifeq_t k62_8 (t := 20) rfl (bb_f (by rw [nn_toInt (k := td_ne A) (by omega)]; exact hx)) ?_
  refine g_null k62_20 ?_
  refine g_areturnq (x := none) k62_21 (by rw [t62]; rfl) ?_
  exact kk
theorem s_67a (hdy : dy.length < 100000) (ok : TOK A) (hX : RepX A F E dy σ ρ) (he : e < td_ne A) (kk : Q (.inl (some (.ref (E e)))) (mk dy σ ρ τ)) : go (tb_P L xs) 67 0 [some (.ref 0), some (.int (nn e)), none] [] (mk dy σ ρ τ) Q := by
  refine g_aload_n k67_0 rfl ?_
  refine m_get k67_1 f67_1 rfl rfl ?_
  refine g_iload_n k67_4 rfl ?_
  refine m_callV1 k67_5 s67_5 c67_5 l62 (by omega) rfl rfl r67_5 rfl ?_
  refine s_62a hdy ok hX he ?_
  refine af_ret ?_
  refine g_astore_n k67_8 rfl rfl ?_
  refine g_aload_n k67_9 rfl ?_
  refine g_ifnonnull_t k67_10 (t := 21) rfl ?_
  refine g_aload_n k67_21 rfl ?_
  refine g_areturn k67_22 (by rw [t67]; rfl) ?_
  exact kk
theorem s_67b (hdy : dy.length < 100000) (ok : TOK A) (hX : RepX A F E dy σ ρ) (hx : ¬ (0 ≤ x.toInt ∧ x.toInt < td_ne A)) (kk : Q (.inr 9) (mk (dy ++ [(14, 0)]) σ ρ τ)) : go (tb_P L xs) 67 0 [some (.ref 0), some (.int x), none] [] (mk dy σ ρ τ) Q := by
  refine g_aload_n k67_0 rfl ?_
  refine m_get k67_1 f67_1 rfl rfl ?_
  refine g_iload_n k67_4 rfl ?_
  refine m_callV1 k67_5 s67_5 c67_5 l62 (by omega) rfl rfl r67_5 rfl ?_
  refine s_62b hdy ok hX hx ?_
  refine af_ret ?_
  refine g_astoreq_n (x := none) k67_8 rfl rfl ?_
  refine g_aloadq_n (x := none) k67_9 rfl ?_
  refine g_ifnonnull_f k67_10 ?_
  refine m_throw k67_13 n67_13 k67_16 k67_17 k67_20 x67_13 (by omega) r67_13 (o67 _) ?_
  exact kk
theorem s_68a (hdy : dy.length < 100000) (ok : TOK A) (hX : RepX A F E dy σ ρ) (hf : f < td_nf A) (ht : td_ft A f = true) (kk : Q (.inl (some (.ref (F f)))) (mk dy σ ρ τ)) : go (tb_P L xs) 68 0 [some (.ref 0), some (.int (nn f))] [] (mk dy σ ρ τ) Q := by
  have h2 := hX.1.1
  have hnf := ok.1
  have g5 := (hX.1.2 f hf).1
  obtain ⟨⟨_, hA, _⟩, _, _, hft, _⟩ := (hX.1.2 f hf).2
  refine g_iload_n k68_0 rfl ?_
  refine g_aload_n k68_1 rfl ?_
  refine m_get k68_2 f68_2 rfl rfl ?_
  rw [h2]
  refine g_callS2 k68_5 s68_5 c68_5 l26 (by omega) ⟨rfl, rfl⟩ rfl r68_5 ?_
  refine s_26 ?_
  refine af_ret ?_
  refine g_ifeq_f k68_8 (t := 27) rfl (by rw [bb_t (by rw [nn_toInt (by omega), nn_toInt (by omega)]; omega)]; decide) ?_
  refine g_aload_n k68_11 rfl ?_
  refine m_get k68_12 f68_12 rfl rfl ?_
  refine g_iload_n k68_15 rfl ?_
  refine m_aald k68_16 rfl ⟨by omega, by omega⟩ rfl (by omega) (by omega) ?_
  rw [g5, va_rs]
  refine m_get k68_17 f68_17 (by assumption) rfl ?_
  rw [hft]
  refine g_ifeq_f k68_20 (t := 27) rfl (by rw [bb_t ht]; decide) ?_
  refine g_iconst (v := nn 1) k68_23 ci_1 ?_
  refine g_goto k68_24 (t := 28) rfl ?_
  refine g_callS1 k68_28 s68_28 c68_28 l69 (by omega) rfl rfl r68_28 ?_
  refine s_69a ?_
  refine af_void ?_
  refine g_aload_n k68_31 rfl ?_
  refine m_get k68_32 f68_32 rfl rfl ?_
  refine g_iload_n k68_35 rfl ?_
  refine m_aald k68_36 rfl ⟨by omega, by omega⟩ rfl (by omega) (by omega) ?_
  rw [g5, va_rs]
  refine g_areturn k68_37 (by rw [t68]; rfl) ?_
  exact kk
theorem s_68b (hdy : dy.length < 100000) (ok : TOK A) (hX : RepX A F E dy σ ρ) (hx : ¬ ((0 ≤ x.toInt ∧ x.toInt < td_nf A) ∧ td_ft A x.toInt.toNat = true)) (kk : Q (.inr 9) (mk (dy ++ [(14, 0)]) σ ρ τ)) : go (tb_P L xs) 68 0 [some (.ref 0), some (.int x)] [] (mk dy σ ρ τ) Q := by
  have h2 := hX.1.1
  have hnf := ok.1
  by_cases hr : 0 ≤ x.toInt ∧ x.toInt < td_nf A
  · obtain ⟨f, rfl, hf⟩ := in_nn hr
    have e1 : (nn f).toInt.toNat = f := by rw [nn_toInt (by omega)]; rfl
    rw [e1] at hx
    have g5 := (hX.1.2 f hf).1
    obtain ⟨⟨_, hA, _⟩, _, _, hft, _⟩ := (hX.1.2 f hf).2
    refine g_iload_n k68_0 rfl ?_
    refine g_aload_n k68_1 rfl ?_
    refine m_get k68_2 f68_2 rfl rfl ?_
    rw [h2]
    refine g_callS2 k68_5 s68_5 c68_5 l26 (by omega) ⟨rfl, rfl⟩ rfl r68_5 ?_
    refine s_26 ?_
    refine af_ret ?_
    refine g_ifeq_f k68_8 (t := 27) rfl (by rw [bb_t (by rw [nn_toInt (by omega), nn_toInt (by omega)]; omega)]; decide) ?_
    refine g_aload_n k68_11 rfl ?_
    refine m_get k68_12 f68_12 rfl rfl ?_
    refine g_iload_n k68_15 rfl ?_
    refine m_aald k68_16 rfl ⟨by omega, by omega⟩ rfl (by omega) (by omega) ?_
    rw [g5, va_rs]
    refine m_get k68_17 f68_17 (by assumption) rfl ?_
    rw [hft]
    refine g_ifeq_t k68_20 (t := 27) rfl (bb_f (fun q => hx ⟨hr, q⟩)) ?_
    refine g_iconst (v := nn 0) k68_27 ci_0 ?_
    refine g_callS1 k68_28 s68_28 c68_28 l69 (by omega) rfl rfl r68_28 ?_
    refine s_69b ?_
    refine af_thr (o68 _) ?_
    exact kk
  · refine g_iload_n k68_0 rfl ?_
    refine g_aload_n k68_1 rfl ?_
    refine m_get k68_2 f68_2 rfl rfl ?_
    rw [h2]
    refine g_callS2 k68_5 s68_5 c68_5 l26 (by omega) ⟨rfl, rfl⟩ rfl r68_5 ?_
    refine s_26 ?_
    refine af_ret ?_
    refine g_ifeq_t k68_8 (t := 27) rfl (bb_f (by rw [nn_toInt (k := td_nf A) (by omega)]; exact hr)) ?_
    refine g_iconst (v := nn 0) k68_27 ci_0 ?_
    refine g_callS1 k68_28 s68_28 c68_28 l69 (by omega) rfl rfl r68_28 ?_
    refine s_69b ?_
    refine af_thr (o68 _) ?_
    exact kk
theorem s_74a (hdy : dy.length < 100000) (ok : TOK A) (hX : RepX A F E dy σ ρ) (hf : f < td_nf A) (ht : td_ft A f = false) (kk : Q (.inl (some (.ref (F f)))) (mk dy σ ρ τ)) : go (tb_P L xs) 74 0 [some (.ref 0), some (.int (nn f))] [] (mk dy σ ρ τ) Q := by
  have h2 := hX.1.1
  have hnf := ok.1
  have g5 := (hX.1.2 f hf).1
  obtain ⟨⟨_, hA, _⟩, _, _, hft, _⟩ := (hX.1.2 f hf).2
  refine g_iload_n k74_0 rfl ?_
  refine g_aload_n k74_1 rfl ?_
  refine m_get k74_2 f74_2 rfl rfl ?_
  rw [h2]
  refine g_callS2 k74_5 s74_5 c74_5 l26 (by omega) ⟨rfl, rfl⟩ rfl r74_5 ?_
  refine s_26 ?_
  refine af_ret ?_
  refine g_ifeq_f k74_8 (t := 27) rfl (by rw [bb_t (by rw [nn_toInt (by omega), nn_toInt (by omega)]; omega)]; decide) ?_
  refine g_aload_n k74_11 rfl ?_
  refine m_get k74_12 f74_12 rfl rfl ?_
  refine g_iload_n k74_15 rfl ?_
  refine m_aald k74_16 rfl ⟨by omega, by omega⟩ rfl (by omega) (by omega) ?_
  rw [g5, va_rs]
  refine m_get k74_17 f74_17 (by assumption) rfl ?_
  rw [hft]
  refine g_ifne_f k74_20 (t := 27) rfl (by rw [bb_f (by rw [ht]; decide)]; rfl) ?_
  refine g_iconst (v := nn 1) k74_23 ci_1 ?_
  refine g_goto k74_24 (t := 28) rfl ?_
  refine g_callS1 k74_28 s74_28 c74_28 l69 (by omega) rfl rfl r74_28 ?_
  refine s_69a ?_
  refine af_void ?_
  refine g_aload_n k74_31 rfl ?_
  refine m_get k74_32 f74_32 rfl rfl ?_
  refine g_iload_n k74_35 rfl ?_
  refine m_aald k74_36 rfl ⟨by omega, by omega⟩ rfl (by omega) (by omega) ?_
  rw [g5, va_rs]
  refine g_areturn k74_37 (by rw [t74]; rfl) ?_
  exact kk
theorem s_74b (hdy : dy.length < 100000) (ok : TOK A) (hX : RepX A F E dy σ ρ) (hx : ¬ ((0 ≤ x.toInt ∧ x.toInt < td_nf A) ∧ td_ft A x.toInt.toNat = false)) (kk : Q (.inr 9) (mk (dy ++ [(14, 0)]) σ ρ τ)) : go (tb_P L xs) 74 0 [some (.ref 0), some (.int x)] [] (mk dy σ ρ τ) Q := by
  have h2 := hX.1.1
  have hnf := ok.1
  by_cases hr : 0 ≤ x.toInt ∧ x.toInt < td_nf A
  · obtain ⟨f, rfl, hf⟩ := in_nn hr
    have e1 : (nn f).toInt.toNat = f := by rw [nn_toInt (by omega)]; rfl
    rw [e1] at hx
    have g5 := (hX.1.2 f hf).1
    obtain ⟨⟨_, hA, _⟩, _, _, hft, _⟩ := (hX.1.2 f hf).2
    refine g_iload_n k74_0 rfl ?_
    refine g_aload_n k74_1 rfl ?_
    refine m_get k74_2 f74_2 rfl rfl ?_
    rw [h2]
    refine g_callS2 k74_5 s74_5 c74_5 l26 (by omega) ⟨rfl, rfl⟩ rfl r74_5 ?_
    refine s_26 ?_
    refine af_ret ?_
    refine g_ifeq_f k74_8 (t := 27) rfl (by rw [bb_t (by rw [nn_toInt (by omega), nn_toInt (by omega)]; omega)]; decide) ?_
    refine g_aload_n k74_11 rfl ?_
    refine m_get k74_12 f74_12 rfl rfl ?_
    refine g_iload_n k74_15 rfl ?_
    refine m_aald k74_16 rfl ⟨by omega, by omega⟩ rfl (by omega) (by omega) ?_
    rw [g5, va_rs]
    refine m_get k74_17 f74_17 (by assumption) rfl ?_
    rw [hft]
    refine g_ifne_t k74_20 (t := 27) rfl (by rw [bb_t (by simpa using fun q => hx ⟨hr, q⟩)]; decide) ?_
    refine g_iconst (v := nn 0) k74_27 ci_0 ?_
    refine g_callS1 k74_28 s74_28 c74_28 l69 (by omega) rfl rfl r74_28 ?_
    refine s_69b ?_
    refine af_thr (o74 _) ?_
    exact kk
  · refine g_iload_n k74_0 rfl ?_
    refine g_aload_n k74_1 rfl ?_
    refine m_get k74_2 f74_2 rfl rfl ?_
    rw [h2]
    refine g_callS2 k74_5 s74_5 c74_5 l26 (by omega) ⟨rfl, rfl⟩ rfl r74_5 ?_
    refine s_26 ?_
    refine af_ret ?_
    refine g_ifeq_t k74_8 (t := 27) rfl (bb_f (by rw [nn_toInt (k := td_nf A) (by omega)]; exact hr)) ?_
    refine g_iconst (v := nn 0) k74_27 ci_0 ?_
    refine g_callS1 k74_28 s74_28 c74_28 l69 (by omega) rfl rfl r74_28 ?_
    refine s_69b ?_
    refine af_thr (o74 _) ?_
    exact kk
theorem hl_mn : td_hl A f = false ↔ ∀ v, 3 ≤ v → v < 6 → td_mn A f v = false := by
  constructor
  · intro h v h3 h6
    exact td_hl_mn h h3 h6
  · intro h
    unfold td_hl
    rw [List.any_eq_false]
    intro i hi hq
    have hq := of_decide_eq_true hq
    have h1 := h ((td_fw A f i).toInt - 20).toNat (by omega) (by omega)
    have h2 := td_mn_of (v := ((td_fw A f i).toInt - 20).toNat) (List.mem_range.mp hi) (by rw [if_neg (by omega)]; omega)
    rw [h1] at h2
    cases h2
theorem hp_mn : td_hp A f = td_mn A f 6 := by
  unfold td_hp td_mn
  rfl
theorem s_71 (hX : RepX A F E dy σ ρ) (hf : f < td_nf A) (kk : Q (.inl (some (.int (bb (td_hl A f = true))))) (mk dy σ ρ τ)) : go (tb_P L xs) 71 0 [some (.ref (F f))] [] (mk dy σ ρ τ) Q := by
  obtain ⟨⟨_, hA, _⟩, _⟩ := (hX.1.2 f hf).2
  have hb := bt_56 (bt_mo hX hf)
  refine g_aload_n k71_0 rfl ?_
  refine m_get k71_1 f71_1 (by assumption) rfl ?_
  refine g_bipush (v := nn 56) k71_4 cb_56 ?_
  refine g_iand k71_6 ?_
  refine g_ifeqT k71_7 (t := 14) rfl (fun h7 => ?_) (fun h7 => ?_)
  · skip
    refine g_iconst (v := nn 0) k71_14 ci_0 ?_
    refine g_breturn k71_15 t71 (by decide) ?_
    first
      | (rw [hl_mn.mpr (hb.mp h7)] at kk; exact kk)
      | (have h7' : td_hl A f = true := by
           cases hd : td_hl A f with
           | true => rfl
           | false => exact absurd (hb.mpr (hl_mn.mp hd)) h7
         rw [h7'] at kk
         exact kk)
  · skip
    refine g_iconst (v := nn 1) k71_10 ci_1 ?_
    refine g_goto k71_11 (t := 15) rfl ?_
    refine g_breturn k71_15 t71 (by decide) ?_
    first
      | (rw [hl_mn.mpr (hb.mp h7)] at kk; exact kk)
      | (have h7' : td_hl A f = true := by
           cases hd : td_hl A f with
           | true => rfl
           | false => exact absurd (hb.mpr (hl_mn.mp hd)) h7
         rw [h7'] at kk
         exact kk)
theorem s_80 (hX : RepX A F E dy σ ρ) (hf : f < td_nf A) (kk : Q (.inl (some (.int (bb (td_hp A f = true))))) (mk dy σ ρ τ)) : go (tb_P L xs) 80 0 [some (.ref (F f))] [] (mk dy σ ρ τ) Q := by
  obtain ⟨⟨_, hA, _⟩, _⟩ := (hX.1.2 f hf).2
  have hb := bt_64 (bt_mo hX hf)
  rw [hp_mn] at kk
  refine g_aload_n k80_0 rfl ?_
  refine m_get k80_1 f80_1 (by assumption) rfl ?_
  refine g_bipush (v := nn 64) k80_4 cb_64 ?_
  refine g_iand k80_6 ?_
  refine g_ifeqT k80_7 (t := 14) rfl (fun h7 => ?_) (fun h7 => ?_)
  · skip
    refine g_iconst (v := nn 0) k80_14 ci_0 ?_
    refine g_breturn k80_15 t80 (by decide) ?_
    first
      | (rw [hb.mp h7] at kk; exact kk)
      | (have h7' : td_mn A f 6 = true := by
           cases hd : td_mn A f 6 with
           | true => rfl
           | false => exact absurd (hb.mpr hd) h7
         rw [h7'] at kk
         exact kk)
  · skip
    refine g_iconst (v := nn 1) k80_10 ci_1 ?_
    refine g_goto k80_11 (t := 15) rfl ?_
    refine g_breturn k80_15 t80 (by decide) ?_
    first
      | (rw [hb.mp h7] at kk; exact kk)
      | (have h7' : td_mn A f 6 = true := by
           cases hd : td_mn A f 6 with
           | true => rfl
           | false => exact absurd (hb.mpr hd) h7
         rw [h7'] at kk
         exact kk)
theorem s_70 (ok : TOK A) (hX : RepX A F E dy σ ρ) (he : e < td_ne A) (hf : f < td_nf A) (kk : Q (.inl (some (.int (bb ((!(decide (td_ma A e = 0) && td_hl A f)) = true))))) (mk dy σ ρ τ)) : go (tb_P L xs) 70 0 [some (.ref (E e)), some (.ref (F f))] [] (mk dy σ ρ τ) Q := by
  obtain ⟨⟨_, hA8, hA3⟩, hma, _⟩ := (hX.2.1.2.1 e he).2
  obtain ⟨⟨_, hA, _⟩, _⟩ := (hX.1.2 f hf).2
  have hm1 := (ok.2.2.2.1 e he).1
  refine g_aload_n k70_0 rfl ?_
  refine m_get k70_1 f70_1 (by assumption) rfl ?_
  rw [hma]
  refine g_iconst (v := nn 1) k70_4 ci_1 ?_
  refine g_iceqN k70_5 (t := 15) rfl ⟨by omega, by omega⟩ (fun h5 => ?_) (fun h5 => ?_)
  · skip
    refine g_iconst (v := nn 1) k70_15 ci_1 ?_
    refine g_goto k70_16 (t := 20) rfl ?_
    refine g_breturn k70_20 t70 (by decide) ?_
    first
      | (rw [decide_eq_false (show ¬ td_ma A e = 0 by omega), Bool.false_and] at kk; exact kk)
      | (rw [decide_eq_true (show td_ma A e = 0 by omega), h12] at kk; exact kk)
      | (rw [show td_hl A f = false by simpa using h12, Bool.and_false] at kk; exact kk)
  · skip
    refine g_aload_n k70_8 rfl ?_
    refine m_callV0 k70_9 s70_9 c70_9 l71 (by omega) trivial rfl r70_9 (by assumption) ?_
    refine s_71 hX hf ?_
    refine af_ret ?_
    refine g_ifneB k70_12 (t := 19) rfl (fun h12 => ?_) (fun h12 => ?_)
    · skip
      refine g_iconst (v := nn 0) k70_19 ci_0 ?_
      refine g_breturn k70_20 t70 (by decide) ?_
      first
        | (rw [decide_eq_false (show ¬ td_ma A e = 0 by omega), Bool.false_and] at kk; exact kk)
        | (rw [decide_eq_true (show td_ma A e = 0 by omega), h12] at kk; exact kk)
        | (rw [show td_hl A f = false by simpa using h12, Bool.and_false] at kk; exact kk)
    · skip
      refine g_iconst (v := nn 1) k70_15 ci_1 ?_
      refine g_goto k70_16 (t := 20) rfl ?_
      refine g_breturn k70_20 t70 (by decide) ?_
      first
        | (rw [decide_eq_false (show ¬ td_ma A e = 0 by omega), Bool.false_and] at kk; exact kk)
        | (rw [decide_eq_true (show td_ma A e = 0 by omega), h12] at kk; exact kk)
        | (rw [show td_hl A f = false by simpa using h12, Bool.and_false] at kk; exact kk)
end ZB
