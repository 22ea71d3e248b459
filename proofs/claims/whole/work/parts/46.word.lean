/-! The reference: its whole state; word, variable. -/
section LP
variable {L : Nat} {xs : Nat → Int32} {Q : am_A → am_H → Prop} {dy : List (Nat × Nat)} {σ σ' : Nat → Nat → Int32} {ρ : Nat → Nat → Option Nat} {τ : Nat → Nat → Int64} {A : TD} {x z w : Int32}
theorem up2_ne {α : Type} {f : Nat → Nat → α} {a k a0 k0 : Nat} {v : α} (h : a ≠ a0 ∨ k ≠ k0) : up2 f a0 k0 v a k = f a k := by
  unfold up2
  by_cases h1 : a = a0
  · by_cases h2 : k = k0
    · omega
    · rw [if_pos h1, if_neg h2]
  · rw [if_neg h1]
theorem up2_at {α : Type} {f : Nat → Nat → α} {a k : Nat} {v : α} : up2 f a k v a k = v := by
  unfold up2
  rw [if_pos rfl, if_pos rfl]
theorem up2_of {α : Type} {f : Nat → Nat → α} {a k k0 : Nat} {v : α} : up2 f a k0 v a k = if k = k0 then v else f a k := by
  unfold up2
  rw [if_pos rfl]
/-- what is written; the run: is it on, is it torn, its steps, its states; what is shown -/
abbrev RS : Type := (Nat × (Nat → Int32)) × (Bool × Bool × Nat × (Nat → Nat → Nat)) × (Bool × (Nat → Int32))
abbrev rs_n (W : RS) : Nat := W.1.1
abbrev rs_w (W : RS) : Nat → Int32 := W.1.2
abbrev rs_on (W : RS) : Bool := W.2.1.1
abbrev rs_tn (W : RS) : Bool := W.2.1.2.1
abbrev rs_k (W : RS) : Nat := W.2.1.2.2.1
abbrev rs_r (W : RS) : Nat → Nat → Nat := W.2.1.2.2.2
abbrev rs_sw (W : RS) : Bool := W.2.2.1
abbrev rs_sh (W : RS) : Nat → Int32 := W.2.2.2
def WOK (W : RS) : Prop := (rs_n W ≤ 24 ∧ ∀ i, i < rs_n W → wd_ok (rs_w W i)) ∧ (rs_on W = true → rs_k W ≤ 60 ∧ ∀ j v, j ≤ rs_k W → v < 6 → rs_r W j v < 4)
/-- the reference holds it -/
def RunM (W : RS) (σ : Nat → Nat → Int32) : Prop := (σ 24 3 = nn (rs_n W) ∧ ∀ i, i < rs_n W → σ 27 i = rs_w W i) ∧ (σ 24 23 = bb (rs_on W = true) ∧ (rs_on W = true → σ 24 24 = bb (rs_tn W = true) ∧ σ 24 25 = nn (rs_k W) ∧ ∀ j v, j ≤ rs_k W → v < 6 → σ 43 (6 * j + v) = nn (rs_r W j v))) ∧ (σ 24 27 = bb (rs_sw W = true) ∧ (rs_sw W = true → ∀ v, v < 7 → σ 44 v = rs_sh W v))
/-- the reference alone has changed -/
def fM (σ σ' : Nat → Nat → Int32) : Prop := ∀ a, a < 24 ∨ 45 < a → σ' a = σ a
theorem fM.rf (σ : Nat → Nat → Int32) : fM σ σ := fun _ _ => rfl
theorem fM.tr {σ σ1 σ2 : Nat → Nat → Int32} (h1 : fM σ σ1) (h2 : fM σ1 σ2) : fM σ σ2 := fun a h => (h2 a h).trans (h1 a h)
theorem fM.up {a k : Nat} {v : Int32} (h : fM σ σ') (ha : 24 ≤ a ∧ a ≤ 45) : fM σ (up2 σ' a k v) := fun b hb => by
  rw [← h b hb]
  funext q
  exact up2_ne (Or.inl (by omega))
theorem rs_S.fM {σ σ' : Nat → Nat → Int32} (h : rs_S σ σ') : fM σ σ' := fun a ha => funext fun k => h a k (by omega) (by omega) (by omega) (Or.inl (by omega))
theorem dn_S.fM {σ σ' : Nat → Nat → Int32} (h : dn_S σ σ') : fM σ σ' := fun a ha => funext fun k => h a k (by omega) (by omega) (by omega) (by omega) (Or.inl (by omega))
/-- no place of what has been told is another -/
def agA (σ σ' : Nat → Nat → Int32) : Prop := ∀ a k, (25 ≤ a ∧ a ≤ 40 ∧ a ≠ 27) ∨ (a = 24 ∧ (k = 5 ∨ k = 11 ∨ k = 20)) → σ' a k = σ a k
theorem RepM.agr (h : RepM A σ) (hs : agA σ σ') : RepM A σ' := by
  have q : ∀ a k, 25 ≤ a ∧ a ≤ 40 ∧ a ≠ 27 → σ' a k = σ a k := fun a k g => hs a k (Or.inl g)
  have q24 : ∀ k, k = 5 ∨ k = 11 ∨ k = 20 → σ' 24 k = σ 24 k := fun k g => hs 24 k (Or.inr ⟨rfl, g⟩)
  obtain ⟨⟨a1, a2⟩, ⟨b1, b2⟩, c1, ⟨d1, d2⟩, e1, f1⟩ := h
  refine ⟨⟨by rw [q24 5 (by decide)]; exact a1, fun f hf => ?_⟩, ⟨by rw [q24 11 (by decide)]; exact b1, fun e he => ?_⟩, fun e v he hv => by rw [q 37 _ (by decide)]; exact c1 e v he hv, ⟨fun m hm => by rw [q 39 _ (by decide)]; exact d1 m hm, fun m i hm hi => by rw [q 40 _ (by decide)]; exact d2 m i hm hi⟩, by rw [q24 20 (by decide)]; exact e1, fun v hv => by rw [q 25 _ (by decide), q 26 _ (by decide)]; exact f1 v hv⟩
  · obtain ⟨g1, g2, g3, g4, g5⟩ := a2 f hf
    exact ⟨by rw [q 28 _ (by decide)]; exact g1, fun i hi => by rw [q 29 _ (by decide)]; exact g2 i hi, by rw [q 30 _ (by decide)]; exact g3, by rw [q 31 _ (by decide)]; exact g4, by rw [q 32 _ (by decide)]; exact g5⟩
  · obtain ⟨g1, g2, g3, g4, g5⟩ := b2 e he
    exact ⟨by rw [q 33 _ (by decide)]; exact g1, by rw [q 34 _ (by decide)]; exact g2, by rw [q 35 _ (by decide)]; exact g3, by rw [q 36 _ (by decide)]; exact g4, by rw [q 38 _ (by decide)]; exact g5⟩
/-- no place of the run is another -/
def agW (σ σ' : Nat → Nat → Int32) : Prop := ∀ a k, a = 27 ∨ a = 43 ∨ a = 44 ∨ (a = 24 ∧ (k = 3 ∨ k = 23 ∨ k = 24 ∨ k = 25 ∨ k = 27)) → σ' a k = σ a k
theorem RunM.agr {W : RS} (h : RunM W σ) (hs : agW σ σ') : RunM W σ' := by
  have q24 : ∀ k, k = 3 ∨ k = 23 ∨ k = 24 ∨ k = 25 ∨ k = 27 → σ' 24 k = σ 24 k := fun k g => hs 24 k (Or.inr (Or.inr (Or.inr ⟨rfl, g⟩)))
  obtain ⟨⟨a1, a2⟩, ⟨b1, b2⟩, c1, c2⟩ := h
  refine ⟨⟨by rw [q24 3 (by decide)]; exact a1, fun i hi => by rw [hs 27 i (Or.inl rfl)]; exact a2 i hi⟩, ⟨by rw [q24 23 (by decide)]; exact b1, fun ho => ?_⟩, by rw [q24 27 (by decide)]; exact c1, fun hw v hv => by rw [hs 44 v (by omega)]; exact c2 hw v hv⟩
  obtain ⟨g1, g2, g3⟩ := b2 ho
  exact ⟨by rw [q24 24 (by decide)]; exact g1, by rw [q24 25 (by decide)]; exact g2, fun j v hj hv => by rw [hs 43 _ (by omega)]; exact g3 j v hj hv⟩
/-- how a call of the reference ends -/
def oM (A : TD) (W : RS) (c : Nat) (σ σ' : Nat → Nat → Int32) : Prop := fM σ σ' ∧ RepM A σ' ∧ RunM W σ' ∧ σ' 24 0 = nn c
variable {W : RS}
theorem oM_t {c : Nat} (hR : RepM A σ) (hW : RunM W σ) : oM A W c σ (up2 σ 24 0 (nn c)) := ⟨(fM.rf σ).up (by omega), hR.agr (fun a k h => up2_ne (by omega)), hW.agr (fun a k h => up2_ne (by omega)), up2_at⟩
theorem rs_agA (h : rs_S σ σ') : agA σ σ' := fun a k g => h a k (by omega) (by omega) (by omega) (by omega)
theorem rs_agW (h : rs_S σ σ') : agW σ σ' := fun a k g => h a k (by omega) (by omega) (by omega) (by omega)
theorem s_106 (hdy : dy.length < 100000) (hR : RepM A σ) (hW : RunM W σ) (wo : WOK W) (k1 : ¬ wd_ok x → ∀ σ', oM A W 1 σ σ' → Q (.inl (some (.int (nn 0)))) (mk dy σ' ρ τ)) (k2 : wd_ok x → rs_n W = 24 → ∀ σ', oM A W 2 σ σ' → Q (.inl (some (.int (nn 0)))) (mk dy σ' ρ τ)) (k0 : wd_ok x → rs_n W < 24 → ∀ σ', oM A ((rs_n W + 1, fun j => if j = rs_n W then x else rs_w W j), W.2) 0 σ σ' → Q (.inl (some (.int (nn (rs_n W + 1))))) (mk dy σ' ρ τ)) : go (tb_P L xs) 106 0 [some (.ref 24), some (.int x)] [] (mk dy σ ρ τ) Q := by
  have hn := wo.1.1
  have h3 := hW.1.1
  unfold wd_ok at k0 k1 k2
  by_cases hx : (0 ≤ x.toInt ∧ x.toInt ≤ 9) ∨ (20 ≤ x.toInt ∧ x.toInt ≤ 25) ∨ x.toInt = 40 ∨ (50 ≤ x.toInt ∧ x.toInt ≤ 58)
  · by_cases hf : rs_n W = 24
    · refine g_aload_n k106_0 rfl ?_
      refine g_aload_n k106_1 rfl ?_
      refine g_iload_n k106_2 rfl ?_
      refine m_callV1 k106_3 s106_3 c106_3 l107 (by omega) rfl rfl r106_3 rfl ?_
      refine s_107 ?_
      refine af_ret ?_
      refine g_ifne_t k106_6 (t := 13) rfl (by rw [bb_t hx]; decide) ?_
      refine g_aload_n k106_13 rfl ?_
      refine m_get k106_14 f106_14 rfl rfl ?_
      rw [h3]
      refine g_bipush (v := nn 24) k106_17 cb_24 ?_
      refine g_icne_f k106_19 (t := 26) rfl (by rw [hf]) ?_
      refine g_iconst (v := nn 2) k106_22 ci_2 ?_
      refine g_goto k106_23 (t := 27) rfl ?_
      refine m_putI k106_27 f106_27 rfl rfl rfl ?_
      refine g_aload_n k106_30 rfl ?_
      refine m_get k106_31 f106_31 rfl rfl ?_
      rw [show up2 σ 24 0 (nn 2) 24 0 = nn 2 from rfl]
      refine g_ifeq_f k106_34 (t := 39) rfl (by decide) ?_
      refine g_iconst (v := nn 0) k106_37 ci_0 ?_
      refine g_ireturn k106_38 t106 ?_
      exact k2 hx hf _ (oM_t hR hW)
    · refine g_aload_n k106_0 rfl ?_
      refine g_aload_n k106_1 rfl ?_
      refine g_iload_n k106_2 rfl ?_
      refine m_callV1 k106_3 s106_3 c106_3 l107 (by omega) rfl rfl r106_3 rfl ?_
      refine s_107 ?_
      refine af_ret ?_
      refine g_ifne_t k106_6 (t := 13) rfl (by rw [bb_t hx]; decide) ?_
      refine g_aload_n k106_13 rfl ?_
      refine m_get k106_14 f106_14 rfl rfl ?_
      rw [h3]
      refine g_bipush (v := nn 24) k106_17 cb_24 ?_
      refine g_icne_t k106_19 (t := 26) rfl (by rw [Ne, nn_inj (by omega) (by omega)]; exact hf) ?_
      refine g_iconst (v := nn 0) k106_26 ci_0 ?_
      refine m_putI k106_27 f106_27 rfl rfl rfl ?_
      refine g_aload_n k106_30 rfl ?_
      refine m_get k106_31 f106_31 rfl rfl ?_
      rw [show up2 σ 24 0 (nn 0) 24 0 = nn 0 from rfl]
      refine g_ifeq_t k106_34 (t := 39) rfl rfl ?_
      refine g_aload_n k106_39 rfl ?_
      refine m_get k106_40 f106_40 rfl rfl ?_
      refine g_aload_n k106_43 rfl ?_
      refine m_get k106_44 f106_44 rfl rfl ?_
      rw [show up2 σ 24 0 (nn 0) 24 3 = nn (rs_n W) from h3]
      refine g_iload_n k106_47 rfl ?_
      refine m_iast k106_48 rfl rfl (by omega) (by omega) ?_
      refine g_aload_n k106_49 rfl ?_
      refine g_dup k106_50 rfl ?_
      refine m_get k106_51 f106_51 rfl rfl ?_
      rw [show up2 (up2 σ 24 0 (nn 0)) 27 (rs_n W) x 24 3 = nn (rs_n W) from h3]
      refine g_iconst (v := nn 1) k106_54 ci_1 ?_
      refine g_iaddN k106_55 ?_
      refine m_putI k106_56 f106_56 rfl rfl rfl ?_
      refine g_aload_n k106_59 rfl ?_
      refine m_get k106_60 f106_60 rfl rfl ?_
      rw [up2_at]
      refine g_ireturn k106_63 t106 ?_
      refine k0 hx (by omega) _ ⟨(((fM.rf σ).up (by omega)).up (by omega)).up (by omega), hR.agr (fun a k h => by rw [up2_ne (by omega), up2_ne (by omega), up2_ne (by omega)]), ⟨⟨up2_at, fun i hi => ?_⟩, ?_, ?_⟩, ?_⟩
      · rw [up2_ne (by omega), up2_of]
        by_cases hi2 : i = rs_n W
        · rw [if_pos hi2]
          exact (if_pos hi2).symm
        · rw [if_neg hi2, up2_ne (by omega), hW.1.2 i (by have : i < rs_n W + 1 := hi; omega)]
          exact (if_neg hi2).symm
      · exact hW.2.1
      · exact hW.2.2
      · rfl
  · refine g_aload_n k106_0 rfl ?_
    refine g_aload_n k106_1 rfl ?_
    refine g_iload_n k106_2 rfl ?_
    refine m_callV1 k106_3 s106_3 c106_3 l107 (by omega) rfl rfl r106_3 rfl ?_
    refine s_107 ?_
    refine af_ret ?_
    refine g_ifne_f k106_6 (t := 13) rfl (bb_f hx) ?_
    refine g_iconst (v := nn 1) k106_9 ci_1 ?_
    refine g_goto k106_10 (t := 27) rfl ?_
    refine m_putI k106_27 f106_27 rfl rfl rfl ?_
    refine g_aload_n k106_30 rfl ?_
    refine m_get k106_31 f106_31 rfl rfl ?_
    rw [show up2 σ 24 0 (nn 1) 24 0 = nn 1 from rfl]
    refine g_ifeq_f k106_34 (t := 39) rfl (by decide) ?_
    refine g_iconst (v := nn 0) k106_37 ci_0 ?_
    refine g_ireturn k106_38 t106 ?_
    exact k1 hx _ (oM_t hR hW)
/-- a variable is told -/
def td_sv (A : TD) (v s i : Nat) : TD := (A.1, A.2.1, A.2.2.1, (fun j => if j = v then s else td_sz A j), fun j => if j = v then i else td_in A j)
theorem RepM.sv {v s i : Nat} (hR : RepM A σ) : RepM (td_sv A v s i) (up2 (up2 σ 25 v (nn s)) 26 v (nn i)) := by
  obtain ⟨a, b, c, d, e, f⟩ := hR
  refine ⟨a, b, c, d, e, fun u hu => ?_⟩
  show _ = nn (if u = v then s else td_sz A u) ∧ _ = nn (if u = v then i else td_in A u)
  rw [up2_of, up2_ne (Or.inl (by decide)), up2_ne (a := 26) (Or.inl (by decide)), up2_of]
  by_cases h : u = v
  · rw [if_pos h, if_pos h, if_pos h, if_pos h]
    exact ⟨rfl, rfl⟩
  · rw [if_neg h, if_neg h, if_neg h, if_neg h]
    exact f u hu
/-- the run is off -/
def rs_off (W : RS) : RS := (W.1, (false, false, 0, rs_r W), W.2.2)
/-- a variable may be told so -/
def vok (x z w : Int32) : Prop := (0 ≤ x.toInt ∧ x.toInt < 6) ∧ (1 ≤ z.toInt ∧ z.toInt ≤ 4) ∧ 0 ≤ w.toInt ∧ w.toInt < z.toInt
theorem s_113 (hdy : dy.length < 100000) (hR : RepM A σ) (hW : RunM W σ) (k1 : ¬ vok x z w → ∀ σ', oM A W 1 σ σ' → Q (.inl none) (mk dy σ' ρ τ)) (k0 : vok x z w → ∀ σ', oM (td_sv A x.toInt.toNat z.toInt.toNat w.toInt.toNat) (rs_off W) 0 σ σ' → Q (.inl none) (mk dy σ' ρ τ)) : go (tb_P L xs) 113 0 [some (.ref 24), some (.int x), some (.int z), some (.int w)] [] (mk dy σ ρ τ) Q := by
  have t1 := ti_1
  have t4 := ti_4
  have t5 := ti_5
  have h0 : ∀ v, up2 σ 24 0 v 24 0 = v := fun v => rfl
  have bad : ¬ vok x z w → go (tb_P L xs) 113 34 [some (.ref 24), some (.int x), some (.int z), some (.int w)] [.int (nn 1), .ref 24] (mk dy σ ρ τ) Q := by
    intro hb
    refine m_putI k113_34 f113_34 rfl rfl rfl ?_
    refine g_aload_n k113_37 rfl ?_
    refine m_get k113_38 f113_38 rfl rfl ?_
    rw [h0]
    refine g_ifne_t k113_41 (t := 63) rfl (by decide) ?_
    refine g_return k113_63 t113 ?_
    exact k1 hb _ (oM_t hR hW)
  have good : vok x z w → go (tb_P L xs) 113 34 [some (.ref 24), some (.int x), some (.int z), some (.int w)] [.int (nn 0), .ref 24] (mk dy σ ρ τ) Q := by
    intro hb
    have hq := k0 hb
    obtain ⟨⟨x1, x2⟩, ⟨z1, z2⟩, w1, w2⟩ := hb
    obtain ⟨v, rfl, hv⟩ := in_nn (n := 6) ⟨x1, x2⟩
    obtain ⟨s, rfl, hs⟩ := in_nn (n := 5) ⟨show 0 ≤ z.toInt by omega, show z.toInt < 5 by omega⟩
    obtain ⟨i, rfl, hi⟩ := in_nn (n := 5) ⟨w1, show w.toInt < 5 by omega⟩
    rw [nn_toInt (by omega), nn_toInt (by omega), nn_toInt (by omega)] at hq
    simp only [Int.toNat_natCast] at hq
    refine m_putI k113_34 f113_34 rfl rfl rfl ?_
    refine g_aload_n k113_37 rfl ?_
    refine m_get k113_38 f113_38 rfl rfl ?_
    rw [h0]
    refine g_ifne_f k113_41 (t := 63) rfl rfl ?_
    refine g_aload_n k113_44 rfl ?_
    refine m_get k113_45 f113_45 rfl rfl ?_
    refine g_iload_n k113_48 rfl ?_
    refine g_iload_n k113_49 rfl ?_
    refine m_iast k113_50 rfl rfl (by omega) (by omega) ?_
    refine g_aload_n k113_51 rfl ?_
    refine m_get k113_52 f113_52 rfl rfl ?_
    refine g_iload_n k113_55 rfl ?_
    refine g_iload_n k113_56 rfl ?_
    refine m_iast k113_57 rfl rfl (by omega) (by omega) ?_
    refine g_aload_n k113_58 rfl ?_
    refine g_iconst (v := nn 0) k113_59 ci_0 ?_
    refine m_putI k113_60 f113_60 rfl rfl rfl ?_
    refine g_return k113_63 t113 ?_
    refine hq _ ⟨((((fM.rf σ).up (by omega)).up (by omega)).up (by omega)).up (by omega), ?_, ?_, rfl⟩
    · refine RepM.agr (RepM.sv (hR.agr (σ' := up2 σ 24 0 (nn 0)) (fun a k h => up2_ne (by omega)))) (fun a k h => up2_ne (by omega))
    · exact ⟨hW.1, ⟨rfl, fun q => by cases q⟩, hW.2.2⟩
  refine g_aload_n k113_0 rfl ?_
  refine g_iload_n k113_1 rfl ?_
  refine g_iflt k113_2 (t := 29) rfl (fun h2 => ?_) (fun h2 => ?_)
  · skip
    refine g_iconst (v := nn 1) k113_29 ci_1 ?_
    refine g_goto k113_30 (t := 34) rfl ?_
    first
      | exact good ⟨⟨by omega, by omega⟩, ⟨by omega, by omega⟩, by omega, by omega⟩
      | exact bad (fun q => by obtain ⟨⟨x1, x2⟩, ⟨z1, z2⟩, w1, w2⟩ := q; omega)
  · skip
    refine g_iload_n k113_5 rfl ?_
    refine g_iconst (v := nn 5) k113_6 ci_5 ?_
    refine g_icgt k113_7 (t := 29) rfl (fun h7 => ?_) (fun h7 => ?_)
    · skip
      refine g_iconst (v := nn 1) k113_29 ci_1 ?_
      refine g_goto k113_30 (t := 34) rfl ?_
      first
        | exact good ⟨⟨by omega, by omega⟩, ⟨by omega, by omega⟩, by omega, by omega⟩
        | exact bad (fun q => by obtain ⟨⟨x1, x2⟩, ⟨z1, z2⟩, w1, w2⟩ := q; omega)
    · skip
      refine g_iload_n k113_10 rfl ?_
      refine g_iconst (v := nn 1) k113_11 ci_1 ?_
      refine g_iclt k113_12 (t := 29) rfl (fun h12 => ?_) (fun h12 => ?_)
      · skip
        refine g_iconst (v := nn 1) k113_29 ci_1 ?_
        refine g_goto k113_30 (t := 34) rfl ?_
        first
          | exact good ⟨⟨by omega, by omega⟩, ⟨by omega, by omega⟩, by omega, by omega⟩
          | exact bad (fun q => by obtain ⟨⟨x1, x2⟩, ⟨z1, z2⟩, w1, w2⟩ := q; omega)
      · skip
        refine g_iload_n k113_15 rfl ?_
        refine g_iconst (v := nn 4) k113_16 ci_4 ?_
        refine g_icgt k113_17 (t := 29) rfl (fun h17 => ?_) (fun h17 => ?_)
        · skip
          refine g_iconst (v := nn 1) k113_29 ci_1 ?_
          refine g_goto k113_30 (t := 34) rfl ?_
          first
            | exact good ⟨⟨by omega, by omega⟩, ⟨by omega, by omega⟩, by omega, by omega⟩
            | exact bad (fun q => by obtain ⟨⟨x1, x2⟩, ⟨z1, z2⟩, w1, w2⟩ := q; omega)
        · skip
          refine g_iload_n k113_20 rfl ?_
          refine g_iflt k113_21 (t := 29) rfl (fun h21 => ?_) (fun h21 => ?_)
          · skip
            refine g_iconst (v := nn 1) k113_29 ci_1 ?_
            refine g_goto k113_30 (t := 34) rfl ?_
            first
              | exact good ⟨⟨by omega, by omega⟩, ⟨by omega, by omega⟩, by omega, by omega⟩
              | exact bad (fun q => by obtain ⟨⟨x1, x2⟩, ⟨z1, z2⟩, w1, w2⟩ := q; omega)
          · skip
            refine g_iload_n k113_24 rfl ?_
            refine g_iload_n k113_25 rfl ?_
            refine g_iclt k113_26 (t := 33) rfl (fun h26 => ?_) (fun h26 => ?_)
            · skip
              refine g_iconst (v := nn 0) k113_33 ci_0 ?_
              first
                | exact good ⟨⟨by omega, by omega⟩, ⟨by omega, by omega⟩, by omega, by omega⟩
                | exact bad (fun q => by obtain ⟨⟨x1, x2⟩, ⟨z1, z2⟩, w1, w2⟩ := q; omega)
            · skip
              refine g_iconst (v := nn 1) k113_29 ci_1 ?_
              refine g_goto k113_30 (t := 34) rfl ?_
              first
                | exact good ⟨⟨by omega, by omega⟩, ⟨by omega, by omega⟩, by omega, by omega⟩
                | exact bad (fun q => by obtain ⟨⟨x1, x2⟩, ⟨z1, z2⟩, w1, w2⟩ := q; omega)
end LP
