/-! The reference: the next state. -/
section LE
variable {L : Nat} {xs : Nat → Int32} {Q : am_A → am_H → Prop} {dy : List (Nat × Nat)} {σ : Nat → Nat → Int32} {ρ : Nat → Nat → Option Nat} {τ : Nat → Nat → Int64} {A : TD}
/-- the next row of the first r numbers, the last the fastest; whether there is one -/
def ct (sz : Nat → Nat) : Nat → (Nat → Nat) → Bool × (Nat → Nat)
  | 0, d => (false, d)
  | r + 1, d => if d r + 1 < sz r then (true, va_up d r (d r + 1)) else ct sz r (va_up d r 0)
theorem s_139L (hdy : dy.length < 100000) (ok : TOK A) {ls : Int32} : ∀ (r : Nat) {σ : Nat → Nat → Int32} {d : Nat → Nat} {Q : am_A → am_H → Prop}, r ≤ 6 → (∀ v, v < 6 → σ 25 v = nn (td_sz A v)) → (∀ v, v < 6 → σ 41 v = nn (d v)) → (∀ v, v < r → d v < td_sz A v) → (∀ σ', (∀ a, a ≠ 41 → σ' a = σ a) → (∀ v, v < 6 → σ' 41 v = nn ((ct (td_sz A) r d).2 v)) → Q (.inl (some (.int (bb ((ct (td_sz A) r d).1 = true))))) (mk dy σ' ρ τ)) → go (tb_P L xs) 139 2 [some (.ref 24), some (.int ls), some (.int (nn r - nn 1))] [] (mk dy σ ρ τ) Q := by
  intro r
  induction r with
  | zero =>
    intro σ d Q hr hz hd hb kk
    refine g_iload_n k139_2 rfl ?_
    refine g_iflt_t k139_3 (t := 46) rfl (by decide) ?_
    refine g_iconst (v := nn 0) k139_46 ci_0 ?_
    refine g_breturn k139_47 t139 (by decide) ?_
    exact kk σ (fun _ _ => rfl) hd
  | succ r ih =>
    intro σ d Q hr hz hd hb kk
    have hdr := hd r (by omega)
    have hbr := hb r (by omega)
    have hzr := hz r (by omega)
    have hs4 := ok.2.2.2.2.2.2.2 r (by omega)
    have hup : ∀ (x : Int32) (a : Nat), a ≠ 41 → up2 σ 41 r x a = σ a := fun x a ha => by
      funext k
      unfold up2
      rw [if_neg ha]
    have hct : ct (td_sz A) (r + 1) d = if d r + 1 < td_sz A r then (true, va_up d r (d r + 1)) else ct (td_sz A) r (va_up d r 0) := rfl
    rw [hct] at kk
    rw [nn_pred]
    refine g_iload_n k139_2 rfl ?_
    refine g_ifltN (t := 46) k139_3 rfl (by omega) ?_
    refine g_aload_n k139_6 rfl ?_
    refine m_get k139_7 f139_7 rfl rfl ?_
    refine g_iload_n k139_10 rfl ?_
    refine g_dup2 k139_11 ⟨rfl, rfl⟩ ?_
    refine m_iald k139_12 hdy rfl rfl (by omega) (by omega) ?_
    rw [hdr]
    refine g_iconst (v := nn 1) k139_13 ci_1 ?_
    refine g_iaddN k139_14 ?_
    refine m_iast k139_15 rfl rfl (by omega) (by omega) ?_
    refine g_aload_n k139_16 rfl ?_
    refine m_get k139_17 f139_17 rfl rfl ?_
    refine g_iload_n k139_20 rfl ?_
    refine m_iald k139_21 hdy rfl rfl (by omega) (by omega) ?_
    rw [show up2 σ 41 r (nn (d r + 1)) 41 r = nn (d r + 1) by simp [up2]]
    refine g_aload_n k139_22 rfl ?_
    refine m_get k139_23 f139_23 rfl rfl ?_
    refine g_iload_n k139_26 rfl ?_
    refine m_iald k139_27 hdy rfl rfl (by omega) (by omega) ?_
    rw [show up2 σ 41 r (nn (d r + 1)) 25 r = nn (td_sz A r) from hzr]
    refine g_icgeN k139_28 (t := 33) rfl ⟨by omega, by omega⟩ (fun h28 => ?_) (fun h28 => ?_)
    · skip
      refine g_aload_n k139_33 rfl ?_
      refine m_get k139_34 f139_34 rfl rfl ?_
      refine g_iload_n k139_37 rfl ?_
      refine g_iconst (v := nn 0) k139_38 ci_0 ?_
      refine m_iast k139_39 rfl rfl (by omega) (by omega) ?_
      refine g_idecM k139_40 rfl rfl rfl ?_
      refine g_goto k139_43 (t := 2) rfl ?_
      rw [if_neg (by omega)] at kk
      refine ih (d := va_up d r 0) (by omega) (fun v hv => hz v hv) (fun v hv => ?_) (fun v hv => ?_) (fun σ' h1 h2 => kk σ' (fun a ha => ?_) h2)
      · by_cases c : v = r
        · subst c
          simp [up2, va_up]
        · simp [up2, va_up, c, hd v hv]
      · rw [va_up_ne _ _ (by omega)]
        exact hb v (by omega)
      · rw [h1 a ha]
        funext k
        simp [up2, ha]
    · skip
      refine g_iconst (v := nn 1) k139_31 ci_1 ?_
      refine g_breturn k139_32 t139 (by decide) ?_
      rw [if_pos (by omega)] at kk
      refine kk _ (fun a ha => hup _ a ha) (fun v hv => ?_)
      by_cases c : v = r
      · subst c
        simp [up2, va_up]
      · simp [up2, va_up, c, hd v hv]
theorem s_139 {r : Nat} {d : Nat → Nat} (hdy : dy.length < 100000) (ok : TOK A) (hr : r < 6) (hR : RepM A σ) (hd : ∀ v, v < 6 → σ 41 v = nn (d v)) (hb : ∀ v, v < r + 1 → d v < td_sz A v) (kk : ∀ σ', (∀ a, a ≠ 41 → σ' a = σ a) → (∀ v, v < 6 → σ' 41 v = nn ((ct (td_sz A) (r + 1) d).2 v)) → Q (.inl (some (.int (bb ((ct (td_sz A) (r + 1) d).1 = true))))) (mk dy σ' ρ τ)) : go (tb_P L xs) 139 0 [some (.ref 24), some (.int (nn r)), none] [] (mk dy σ ρ τ) Q := by
  refine g_iload_n k139_0 rfl ?_
  refine g_istore_n k139_1 rfl rfl ?_
  have g := s_139L (L := L) (xs := xs) (ρ := ρ) (τ := τ) (ls := nn r) hdy ok (r + 1) (by omega) (fun v hv => (hR.2.2.2.2.2 v hv).1) hd hb kk
  rw [nn_pred] at g
  exact g
end LE
