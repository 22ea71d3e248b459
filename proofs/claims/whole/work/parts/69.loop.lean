/-! The law: its loop. -/
section ZL
variable {L : Nat} {xs : Nat → Int32} {Q : am_A → am_H → Prop} {dy : List (Nat × Nat)} {σ : Nat → Nat → Int32} {ρ : Nat → Nat → Option Nat} {τ : Nat → Nat → Int64} {A : TD} {W : RS} {F E : Nat → Nat} {i : Nat} {l5 l6 : Option Value}
theorem ez_le {a : Nat} {s : Nat × Nat} {f : Nat → Int32} {r : Nat → Option Nat} {t : Nat → Int64} : am_ez (me_cell a s f r t) ≤ s.2 + 33 := by
  obtain ⟨s1, s2⟩ := s
  match s1 with
  | 0 => exact Nat.le_add_right s2 33
  | 1 => exact Nat.le_add_right s2 33
  | 2 => exact Nat.le_add_right s2 33
  | 3 => exact Nat.le_add_right s2 33
  | 4 => exact Nat.le_add_right s2 33
  | 5 => exact Nat.le_trans (show 8 ≤ 33 by omega) (Nat.le_add_left 33 s2)
  | 6 => exact Nat.le_trans (show 4 ≤ 33 by omega) (Nat.le_add_left 33 s2)
  | 7 => exact Nat.le_trans (show 6 ≤ 33 by omega) (Nat.le_add_left 33 s2)
  | 8 => exact Nat.le_trans (show 6 ≤ 33 by omega) (Nat.le_add_left 33 s2)
  | 9 => exact Nat.le_trans (show 6 ≤ 33 by omega) (Nat.le_add_left 33 s2)
  | 10 => exact Nat.le_trans (show 8 ≤ 33 by omega) (Nat.le_add_left 33 s2)
  | 11 => exact Nat.le_trans (show 4 ≤ 33 by omega) (Nat.le_add_left 33 s2)
  | 12 => exact Nat.le_trans (show 6 ≤ 33 by omega) (Nat.le_add_left 33 s2)
  | 13 => exact Nat.le_trans (show 33 ≤ 33 by omega) (Nat.le_add_left 33 s2)
  | c + 14 => exact Nat.le_trans (show 6 ≤ 33 by omega) (Nat.le_add_left 33 s2)
theorem sl_idx : ∀ (l : List (Nat × Nat)) {g : Nat → Nat × Nat → am_E}, (∀ a s, am_ez (g a s) ≤ s.2 + 33) → ((l.mapIdx g).map am_ez).sum ≤ (l.map (fun s => s.2 + 33)).sum
  | [], _, _ => Nat.le_refl _
  | s :: l, g, h => by
    rw [List.mapIdx_cons, List.map_cons, List.map_cons, List.sum_cons, List.sum_cons]
    exact Nat.add_le_add (h 0 s) (sl_idx l (fun a s => h (a + 1) s))
theorem sl_dy : ∀ (l : List (Nat × Nat)), (∀ s, s ∈ l → s.2 ≤ 25) → (l.map (fun s => s.2 + 33)).sum ≤ 58 * l.length
  | [], _ => Nat.le_refl _
  | s :: l, h => by
    rw [List.map_cons, List.sum_cons, List.length_cons]
    have h1 := h s List.mem_cons_self
    have h2 := sl_dy l (fun t ht => h t (List.mem_cons_of_mem _ ht))
    omega
theorem sl_mk (h : ∀ s, s ∈ dy → s.2 ≤ 25) : am_sl (mk dy σ ρ τ) ≤ 4000 + 58 * dy.length := by
  have h1 : am_sl (mk dy σ ρ τ) ≤ ((me_s0 ++ dy).map (fun s => s.2 + 33)).sum := sl_idx _ (fun a s => ez_le)
  have h2 : (me_s0.map (fun s => s.2 + 33)).sum ≤ 4000 := by decide
  have h3 := sl_dy dy h
  rw [List.map_append, List.sum_append] at h1
  omega
/-- the law's end -/
def LQ : am_A → am_H → Prop := fun r h => r = .inl (some (.int 1)) ∧ h.length ≤ 601024 ∧ am_sl h ≤ 7293034
theorem sub4 (hL : L ≤ 2048) : (nn L - nn 4).toInt = (L : Int) - 4 := by
  by_cases c : 4 ≤ L
  · rw [nn_sub c, nn_toInt (by omega)]
    omega
  · have h : L = 0 ∨ L = 1 ∨ L = 2 ∨ L = 3 := by omega
    rcases h with rfl | rfl | rfl | rfl <;> decide +kernel
theorem nn_4 (i : Nat) : nn i + Int32.ofInt 4 = nn (i + 4) := nn_add i 4
theorem s_151E (hL : L ≤ 2048) (hi : L < i + 4) (hb : i ≤ 2052) (hdl : dy.length ≤ 2 * i) (h25 : ∀ s, s ∈ dy → s.2 ≤ 25) : go (tb_P L xs) 151 23 [some (.ref am_scr), some (.ref 0), some (.ref 24), some (.ref 46), some (.int (nn i)), l5, l6] [] (mk dy σ ρ τ) LQ := by
  refine g_iload k151_23 rfl ?_
  refine g_aload_n k151_25 rfl ?_
  refine g_slen k151_26 ?_
  rw [show Int32.ofNat (am_sL (tb_P L xs)) = nn L from rfl]
  refine g_iconst (v := nn 4) k151_27 ci_4 ?_
  refine g_isub k151_28 ?_
  refine g_icgt_t k151_29 (t := 1058) rfl (by rw [sub4 hL, nn_toInt (by omega)]; omega) ?_
  refine g_iconst (v := nn 1) k151_1058 ci_1 ?_
  refine g_breturn k151_1059 t151 (by decide) ?_
  refine ⟨rfl, ?_, ?_⟩
  · rw [mk_len]
    omega
  · have := sl_mk (σ := σ) (ρ := ρ) (τ := τ) h25
    omega
theorem s_151L (hL : L ≤ 2048) : ∀ (k i : Nat) {A : TD} {W : RS} {F E : Nat → Nat} {dy : List (Nat × Nat)} {σ : Nat → Nat → Int32} {ρ : Nat → Nat → Option Nat} {τ : Nat → Nat → Int64} {l5 l6 : Option Value}, L < i + 4 * k + 4 → i ≤ 2052 → JJ A W F E dy σ ρ τ → dy.length ≤ 2 * i → (∀ s, s ∈ dy → s.2 ≤ 25) → go (tb_P L xs) 151 23 [some (.ref am_scr), some (.ref 0), some (.ref 24), some (.ref 46), some (.int (nn i)), l5, l6] [] (mk dy σ ρ τ) LQ := by
  intro k
  induction k with
  | zero =>
    intro i A W F E dy σ ρ τ l5 l6 hk hb hJ hdl h25
    exact s_151E hL (by omega) hb hdl h25
  | succ k ih =>
    intro i A W F E dy σ ρ τ l5 l6 hk hb hJ hdl h25
    by_cases hi : i + 4 ≤ L
    · have kk : LK L xs i dy LQ := by
        intro A' W' F' E' dy' σ' ρ' τ' m5 m6 hJ' hg
        refine g_iinc k151_1052 rfl rfl rfl ?_
        rw [nn_4]
        refine g_goto k151_1055 (t := 23) rfl ?_
        exact ih (i + 4) (by omega) (by omega) hJ' (by have := hg.1; omega) (hg.2 h25)
      have hd8 : dy.length < 80000 := by omega
      refine g_iload k151_23 rfl ?_
      refine g_aload_n k151_25 rfl ?_
      refine g_slen k151_26 ?_
      rw [show Int32.ofNat (am_sL (tb_P L xs)) = nn L from rfl]
      refine g_iconst (v := nn 4) k151_27 ci_4 ?_
      refine g_isub k151_28 ?_
      refine g_icgt_f k151_29 (t := 1058) rfl (by rw [sub4 hL, nn_toInt (by omega)]; omega) ?_
      refine g_aload_n k151_32 rfl ?_
      refine g_iload k151_33 rfl ?_
      refine m_sald k151_35 (by omega) (by omega) ?_
      refine g_bipush (v := nn 31) k151_36 cb_31 ?_
      refine g_iand k151_38 ?_
      refine g_split 0 (fun h39_0 => ?_) (fun h39_0 => ?_)
      · skip
        refine g_switch k151_39 ⟨by omega, by omega⟩ (off := 89) (t := 128) (by rw [h39_0]; rfl) rfl ?_
        exact L_0 hd8 hi hL hJ kk
      refine g_split 1 (fun h39_1 => ?_) (fun h39_1 => ?_)
      · skip
        refine g_switch k151_39 ⟨by omega, by omega⟩ (off := 149) (t := 188) (by rw [h39_1]; rfl) rfl ?_
        exact L_1 hd8 hi hL hJ kk
      refine g_split 2 (fun h39_2 => ?_) (fun h39_2 => ?_)
      · skip
        refine g_switch k151_39 ⟨by omega, by omega⟩ (off := 205) (t := 244) (by rw [h39_2]; rfl) rfl ?_
        exact L_2 hd8 hi hL hJ kk
      refine g_split 3 (fun h39_3 => ?_) (fun h39_3 => ?_)
      · skip
        refine g_switch k151_39 ⟨by omega, by omega⟩ (off := 249) (t := 288) (by rw [h39_3]; rfl) rfl ?_
        exact L_3 hd8 hi hL hJ kk
      refine g_split 4 (fun h39_4 => ?_) (fun h39_4 => ?_)
      · skip
        refine g_switch k151_39 ⟨by omega, by omega⟩ (off := 329) (t := 368) (by rw [h39_4]; rfl) rfl ?_
        exact L_4 hd8 hi hL hJ kk
      refine g_split 5 (fun h39_5 => ?_) (fun h39_5 => ?_)
      · skip
        refine g_switch k151_39 ⟨by omega, by omega⟩ (off := 377) (t := 416) (by rw [h39_5]; rfl) rfl ?_
        exact L_5 hd8 hi hL hJ kk
      refine g_split 6 (fun h39_6 => ?_) (fun h39_6 => ?_)
      · skip
        refine g_switch k151_39 ⟨by omega, by omega⟩ (off := 437) (t := 476) (by rw [h39_6]; rfl) rfl ?_
        exact L_6 hd8 hi hL hJ kk
      refine g_split 7 (fun h39_7 => ?_) (fun h39_7 => ?_)
      · skip
        refine g_switch k151_39 ⟨by omega, by omega⟩ (off := 485) (t := 524) (by rw [h39_7]; rfl) rfl ?_
        exact L_7 hd8 hi hL hJ kk
      refine g_split 8 (fun h39_8 => ?_) (fun h39_8 => ?_)
      · skip
        refine g_switch k151_39 ⟨by omega, by omega⟩ (off := 553) (t := 592) (by rw [h39_8]; rfl) rfl ?_
        exact L_8 hd8 hi hL hJ kk
      refine g_split 9 (fun h39_9 => ?_) (fun h39_9 => ?_)
      · skip
        refine g_switch k151_39 ⟨by omega, by omega⟩ (off := 589) (t := 628) (by rw [h39_9]; rfl) rfl ?_
        exact L_9 hd8 hi hL hJ kk
      refine g_split 10 (fun h39_10 => ?_) (fun h39_10 => ?_)
      · skip
        refine g_switch k151_39 ⟨by omega, by omega⟩ (off := 664) (t := 703) (by rw [h39_10]; rfl) rfl ?_
        exact L_10 hd8 hi hL hJ kk
      refine g_split 11 (fun h39_11 => ?_) (fun h39_11 => ?_)
      · skip
        refine g_switch k151_39 ⟨by omega, by omega⟩ (off := 720) (t := 759) (by rw [h39_11]; rfl) rfl ?_
        exact L_11 hd8 hi hL hJ kk
      refine g_split 12 (fun h39_12 => ?_) (fun h39_12 => ?_)
      · skip
        refine g_switch k151_39 ⟨by omega, by omega⟩ (off := 733) (t := 772) (by rw [h39_12]; rfl) rfl ?_
        exact L_12 hd8 hi hL hJ kk
      refine g_split 13 (fun h39_13 => ?_) (fun h39_13 => ?_)
      · skip
        refine g_switch k151_39 ⟨by omega, by omega⟩ (off := 744) (t := 783) (by rw [h39_13]; rfl) rfl ?_
        exact L_13 hd8 hi hL hJ kk
      refine g_split 14 (fun h39_14 => ?_) (fun h39_14 => ?_)
      · skip
        refine g_switch k151_39 ⟨by omega, by omega⟩ (off := 819) (t := 858) (by rw [h39_14]; rfl) rfl ?_
        exact L_14 hd8 hi hL hJ kk
      refine g_split 15 (fun h39_15 => ?_) (fun h39_15 => ?_)
      · skip
        refine g_switch k151_39 ⟨by omega, by omega⟩ (off := 887) (t := 926) (by rw [h39_15]; rfl) rfl ?_
        exact L_15 hd8 hi hL hJ kk
      refine g_split 16 (fun h39_16 => ?_) (fun h39_16 => ?_)
      · skip
        refine g_switch k151_39 ⟨by omega, by omega⟩ (off := 931) (t := 970) (by rw [h39_16]; rfl) rfl ?_
        exact L_16 hd8 hi hL hJ kk
      refine g_split 17 (fun h39_17 => ?_) (fun h39_17 => ?_)
      · skip
        refine g_switch k151_39 ⟨by omega, by omega⟩ (off := 987) (t := 1026) (by rw [h39_17]; rfl) rfl ?_
        exact L_17 hd8 hi hL hJ kk
      refine g_split 18 (fun h39_18 => ?_) (fun h39_18 => ?_)
      · skip
        refine g_switch k151_39 ⟨by omega, by omega⟩ (off := 1000) (t := 1039) (by rw [h39_18]; rfl) rfl ?_
        exact L_18 hd8 hi hL hJ kk
      refine g_switch_d k151_39 (by omega) (t := 1052) rfl ?_
      exact kk A W F E dy σ ρ τ l5 l6 hJ gr.rf
    · exact s_151E hL (by omega) hb hdl h25
end ZL
