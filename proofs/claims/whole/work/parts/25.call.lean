/-! Calls by the number of their arguments. -/
section CA
theorem va_cat (x : Option Nat) : (va_rf x).category = 1 := by cases x <;> rfl
variable {P : am_P} {y pc : Nat} {lo : am_L} {h : am_H} {Q : am_A → am_H → Prop} {rest : List Value} {ix z W m : Nat} {dy : List (Nat × Nat)} {σ : Nat → Nat → Int32} {ρ : Nat → Nat → Option Nat} {τ : Nat → Nat → Int64}
theorem af_ret {v : Value} (k : go P y (pc + 3) lo (v :: rest) h Q) : am_af P y pc lo rest Q (.inl (some v)) h := k
theorem af_void (k : go P y (pc + 3) lo rest h Q) : am_af P y pc lo rest Q (.inl none) h := k
theorem en_eq : ∀ {as : List Value}, (∀ v ∈ as, v.category = 1) → am_en as = as.map some
  | [], _ => rfl
  | v :: r, hc => by
    unfold am_en
    rw [if_pos (hc v List.mem_cons_self), en_eq (fun u hu => hc u (List.mem_cons_of_mem _ hu))]
    rfl
theorem en0_eq {as : List Value} (hm : am_ml (am_me P z) = m) (hc : ∀ v ∈ as, v.category = 1) (hl : as.length ≤ m) : am_en0 P z as = some (as.map some ++ List.replicate (m - as.length) none) := by
  unfold am_en0
  rw [en_eq hc, hm, List.length_map, if_pos hl]

theorem g_callS0  (d : decode (am_cd (am_me P y)) pc = .ok (.invokestatic ix, 3)) (hs : am_sp P y ix = none) (hca : am_ca P y ix = some (z, 0, 0)) (hm : am_ml (am_me P z) = m) (hl : 0 ≤ m) (hc : True) (hw : am_wd rest = W) (hr : am_rf (am_me P z) + 1 ≤ am_rf (am_me P y) ∧ W + (am_ml (am_me P z) + 11) + am_rl (am_me P z) ≤ am_rl (am_me P y)) (g : go P z 0 (List.replicate (m - 0) none) [] h (am_af P y pc lo rest Q)) : go P y pc lo (rest) h Q := by
  subst hw
  refine g_callS (as := []) (rest := rest) d hs hca rfl rfl hr (en0_eq hm (fun v hv => by cases hv) hl) g
theorem m_callV0 {a na : Nat}  (d : decode (am_cd (am_me P y)) pc = .ok (.invokevirtual ix, 3)) (hs : am_sp P y ix = none) (hca : am_ca P y ix = some (z, 0, 1)) (hm : am_ml (am_me P z) = m) (hl : 1 ≤ m) (hc : True) (hw : am_wd rest = W) (hr : am_rf (am_me P z) + 1 ≤ am_rf (am_me P y) ∧ W + (am_ml (am_me P z) + 11) + am_rl (am_me P z) ≤ am_rl (am_me P y)) (ha : me_sh dy a = some (am_rc P z + 5, na)) (g : go P z 0 (some (.ref a) :: List.replicate (m - 1) none) [] (mk dy σ ρ τ) (am_af P y pc lo rest Q)) : go P y pc lo (.ref a :: rest) (mk dy σ ρ τ) Q := by
  subst hw
  refine m_callV (as := []) (rest := rest) d hs hca rfl rfl ha hr (en0_eq hm (fun v hv => by
    simp only [List.mem_cons, List.not_mem_nil, or_false] at hv
    rcases hv with rfl
    · rfl) hl) g
theorem g_callI0 {a : Nat}  (d : decode (am_cd (am_me P y)) pc = .ok (.invokespecial ix, 3)) (hs : am_sp P y ix = none) (hca : am_ca P y ix = some (z, 0, 2)) (hm : am_ml (am_me P z) = m) (hl : 1 ≤ m) (hc : True) (hw : am_wd rest = W) (hr : am_rf (am_me P z) + 1 ≤ am_rf (am_me P y) ∧ W + (am_ml (am_me P z) + 11) + am_rl (am_me P z) ≤ am_rl (am_me P y)) (g : go P z 0 (some (.ref a) :: List.replicate (m - 1) none) [] h (am_af P y pc lo rest Q)) : go P y pc lo (.ref a :: rest) h Q := by
  subst hw
  refine g_callI (as := []) (rest := rest) d hs hca rfl rfl hr (en0_eq hm (fun v hv => by
    simp only [List.mem_cons, List.not_mem_nil, or_false] at hv
    rcases hv with rfl
    · rfl) hl) g
theorem g_callS1 {v1 : Value} (d : decode (am_cd (am_me P y)) pc = .ok (.invokestatic ix, 3)) (hs : am_sp P y ix = none) (hca : am_ca P y ix = some (z, 1, 0)) (hm : am_ml (am_me P z) = m) (hl : 1 ≤ m) (hc : v1.category = 1) (hw : am_wd rest = W) (hr : am_rf (am_me P z) + 1 ≤ am_rf (am_me P y) ∧ W + (am_ml (am_me P z) + 11) + am_rl (am_me P z) ≤ am_rl (am_me P y)) (g : go P z 0 (some v1 :: List.replicate (m - 1) none) [] h (am_af P y pc lo rest Q)) : go P y pc lo (v1 :: rest) h Q := by
  subst hw
  refine g_callS (as := [v1]) (rest := rest) d hs hca rfl rfl hr (en0_eq hm (fun v hv => by
    simp only [List.mem_cons, List.not_mem_nil, or_false] at hv
    rcases hv with rfl
    · exact hc) hl) g
theorem m_callV1 {a na : Nat} {v1 : Value} (d : decode (am_cd (am_me P y)) pc = .ok (.invokevirtual ix, 3)) (hs : am_sp P y ix = none) (hca : am_ca P y ix = some (z, 1, 1)) (hm : am_ml (am_me P z) = m) (hl : 2 ≤ m) (hc : v1.category = 1) (hw : am_wd rest = W) (hr : am_rf (am_me P z) + 1 ≤ am_rf (am_me P y) ∧ W + (am_ml (am_me P z) + 11) + am_rl (am_me P z) ≤ am_rl (am_me P y)) (ha : me_sh dy a = some (am_rc P z + 5, na)) (g : go P z 0 (some (.ref a) :: some v1 :: List.replicate (m - 2) none) [] (mk dy σ ρ τ) (am_af P y pc lo rest Q)) : go P y pc lo (v1 :: .ref a :: rest) (mk dy σ ρ τ) Q := by
  subst hw
  refine m_callV (as := [v1]) (rest := rest) d hs hca rfl rfl ha hr (en0_eq hm (fun v hv => by
    simp only [List.mem_cons, List.not_mem_nil, or_false] at hv
    rcases hv with rfl | rfl
    · rfl
    · exact hc) hl) g
theorem g_callI1 {a : Nat} {v1 : Value} (d : decode (am_cd (am_me P y)) pc = .ok (.invokespecial ix, 3)) (hs : am_sp P y ix = none) (hca : am_ca P y ix = some (z, 1, 2)) (hm : am_ml (am_me P z) = m) (hl : 2 ≤ m) (hc : v1.category = 1) (hw : am_wd rest = W) (hr : am_rf (am_me P z) + 1 ≤ am_rf (am_me P y) ∧ W + (am_ml (am_me P z) + 11) + am_rl (am_me P z) ≤ am_rl (am_me P y)) (g : go P z 0 (some (.ref a) :: some v1 :: List.replicate (m - 2) none) [] h (am_af P y pc lo rest Q)) : go P y pc lo (v1 :: .ref a :: rest) h Q := by
  subst hw
  refine g_callI (as := [v1]) (rest := rest) d hs hca rfl rfl hr (en0_eq hm (fun v hv => by
    simp only [List.mem_cons, List.not_mem_nil, or_false] at hv
    rcases hv with rfl | rfl
    · rfl
    · exact hc) hl) g
theorem g_callS2 {v1 v2 : Value} (d : decode (am_cd (am_me P y)) pc = .ok (.invokestatic ix, 3)) (hs : am_sp P y ix = none) (hca : am_ca P y ix = some (z, 2, 0)) (hm : am_ml (am_me P z) = m) (hl : 2 ≤ m) (hc : v1.category = 1 ∧ v2.category = 1) (hw : am_wd rest = W) (hr : am_rf (am_me P z) + 1 ≤ am_rf (am_me P y) ∧ W + (am_ml (am_me P z) + 11) + am_rl (am_me P z) ≤ am_rl (am_me P y)) (g : go P z 0 (some v1 :: some v2 :: List.replicate (m - 2) none) [] h (am_af P y pc lo rest Q)) : go P y pc lo (v2 :: v1 :: rest) h Q := by
  subst hw
  refine g_callS (as := [v1, v2]) (rest := rest) d hs hca rfl rfl hr (en0_eq hm (fun v hv => by
    simp only [List.mem_cons, List.not_mem_nil, or_false] at hv
    rcases hv with rfl | rfl
    · exact hc.1
    · exact hc.2) hl) g
theorem m_callV2 {a na : Nat} {v1 v2 : Value} (d : decode (am_cd (am_me P y)) pc = .ok (.invokevirtual ix, 3)) (hs : am_sp P y ix = none) (hca : am_ca P y ix = some (z, 2, 1)) (hm : am_ml (am_me P z) = m) (hl : 3 ≤ m) (hc : v1.category = 1 ∧ v2.category = 1) (hw : am_wd rest = W) (hr : am_rf (am_me P z) + 1 ≤ am_rf (am_me P y) ∧ W + (am_ml (am_me P z) + 11) + am_rl (am_me P z) ≤ am_rl (am_me P y)) (ha : me_sh dy a = some (am_rc P z + 5, na)) (g : go P z 0 (some (.ref a) :: some v1 :: some v2 :: List.replicate (m - 3) none) [] (mk dy σ ρ τ) (am_af P y pc lo rest Q)) : go P y pc lo (v2 :: v1 :: .ref a :: rest) (mk dy σ ρ τ) Q := by
  subst hw
  refine m_callV (as := [v1, v2]) (rest := rest) d hs hca rfl rfl ha hr (en0_eq hm (fun v hv => by
    simp only [List.mem_cons, List.not_mem_nil, or_false] at hv
    rcases hv with rfl | rfl | rfl
    · rfl
    · exact hc.1
    · exact hc.2) hl) g
theorem g_callI2 {a : Nat} {v1 v2 : Value} (d : decode (am_cd (am_me P y)) pc = .ok (.invokespecial ix, 3)) (hs : am_sp P y ix = none) (hca : am_ca P y ix = some (z, 2, 2)) (hm : am_ml (am_me P z) = m) (hl : 3 ≤ m) (hc : v1.category = 1 ∧ v2.category = 1) (hw : am_wd rest = W) (hr : am_rf (am_me P z) + 1 ≤ am_rf (am_me P y) ∧ W + (am_ml (am_me P z) + 11) + am_rl (am_me P z) ≤ am_rl (am_me P y)) (g : go P z 0 (some (.ref a) :: some v1 :: some v2 :: List.replicate (m - 3) none) [] h (am_af P y pc lo rest Q)) : go P y pc lo (v2 :: v1 :: .ref a :: rest) h Q := by
  subst hw
  refine g_callI (as := [v1, v2]) (rest := rest) d hs hca rfl rfl hr (en0_eq hm (fun v hv => by
    simp only [List.mem_cons, List.not_mem_nil, or_false] at hv
    rcases hv with rfl | rfl | rfl
    · rfl
    · exact hc.1
    · exact hc.2) hl) g
theorem g_callS3 {v1 v2 v3 : Value} (d : decode (am_cd (am_me P y)) pc = .ok (.invokestatic ix, 3)) (hs : am_sp P y ix = none) (hca : am_ca P y ix = some (z, 3, 0)) (hm : am_ml (am_me P z) = m) (hl : 3 ≤ m) (hc : v1.category = 1 ∧ v2.category = 1 ∧ v3.category = 1) (hw : am_wd rest = W) (hr : am_rf (am_me P z) + 1 ≤ am_rf (am_me P y) ∧ W + (am_ml (am_me P z) + 11) + am_rl (am_me P z) ≤ am_rl (am_me P y)) (g : go P z 0 (some v1 :: some v2 :: some v3 :: List.replicate (m - 3) none) [] h (am_af P y pc lo rest Q)) : go P y pc lo (v3 :: v2 :: v1 :: rest) h Q := by
  subst hw
  refine g_callS (as := [v1, v2, v3]) (rest := rest) d hs hca rfl rfl hr (en0_eq hm (fun v hv => by
    simp only [List.mem_cons, List.not_mem_nil, or_false] at hv
    rcases hv with rfl | rfl | rfl
    · exact hc.1
    · exact hc.2.1
    · exact hc.2.2) hl) g
theorem m_callV3 {a na : Nat} {v1 v2 v3 : Value} (d : decode (am_cd (am_me P y)) pc = .ok (.invokevirtual ix, 3)) (hs : am_sp P y ix = none) (hca : am_ca P y ix = some (z, 3, 1)) (hm : am_ml (am_me P z) = m) (hl : 4 ≤ m) (hc : v1.category = 1 ∧ v2.category = 1 ∧ v3.category = 1) (hw : am_wd rest = W) (hr : am_rf (am_me P z) + 1 ≤ am_rf (am_me P y) ∧ W + (am_ml (am_me P z) + 11) + am_rl (am_me P z) ≤ am_rl (am_me P y)) (ha : me_sh dy a = some (am_rc P z + 5, na)) (g : go P z 0 (some (.ref a) :: some v1 :: some v2 :: some v3 :: List.replicate (m - 4) none) [] (mk dy σ ρ τ) (am_af P y pc lo rest Q)) : go P y pc lo (v3 :: v2 :: v1 :: .ref a :: rest) (mk dy σ ρ τ) Q := by
  subst hw
  refine m_callV (as := [v1, v2, v3]) (rest := rest) d hs hca rfl rfl ha hr (en0_eq hm (fun v hv => by
    simp only [List.mem_cons, List.not_mem_nil, or_false] at hv
    rcases hv with rfl | rfl | rfl | rfl
    · rfl
    · exact hc.1
    · exact hc.2.1
    · exact hc.2.2) hl) g
theorem g_callI3 {a : Nat} {v1 v2 v3 : Value} (d : decode (am_cd (am_me P y)) pc = .ok (.invokespecial ix, 3)) (hs : am_sp P y ix = none) (hca : am_ca P y ix = some (z, 3, 2)) (hm : am_ml (am_me P z) = m) (hl : 4 ≤ m) (hc : v1.category = 1 ∧ v2.category = 1 ∧ v3.category = 1) (hw : am_wd rest = W) (hr : am_rf (am_me P z) + 1 ≤ am_rf (am_me P y) ∧ W + (am_ml (am_me P z) + 11) + am_rl (am_me P z) ≤ am_rl (am_me P y)) (g : go P z 0 (some (.ref a) :: some v1 :: some v2 :: some v3 :: List.replicate (m - 4) none) [] h (am_af P y pc lo rest Q)) : go P y pc lo (v3 :: v2 :: v1 :: .ref a :: rest) h Q := by
  subst hw
  refine g_callI (as := [v1, v2, v3]) (rest := rest) d hs hca rfl rfl hr (en0_eq hm (fun v hv => by
    simp only [List.mem_cons, List.not_mem_nil, or_false] at hv
    rcases hv with rfl | rfl | rfl | rfl
    · rfl
    · exact hc.1
    · exact hc.2.1
    · exact hc.2.2) hl) g
theorem g_callS4 {v1 v2 v3 v4 : Value} (d : decode (am_cd (am_me P y)) pc = .ok (.invokestatic ix, 3)) (hs : am_sp P y ix = none) (hca : am_ca P y ix = some (z, 4, 0)) (hm : am_ml (am_me P z) = m) (hl : 4 ≤ m) (hc : v1.category = 1 ∧ v2.category = 1 ∧ v3.category = 1 ∧ v4.category = 1) (hw : am_wd rest = W) (hr : am_rf (am_me P z) + 1 ≤ am_rf (am_me P y) ∧ W + (am_ml (am_me P z) + 11) + am_rl (am_me P z) ≤ am_rl (am_me P y)) (g : go P z 0 (some v1 :: some v2 :: some v3 :: some v4 :: List.replicate (m - 4) none) [] h (am_af P y pc lo rest Q)) : go P y pc lo (v4 :: v3 :: v2 :: v1 :: rest) h Q := by
  subst hw
  refine g_callS (as := [v1, v2, v3, v4]) (rest := rest) d hs hca rfl rfl hr (en0_eq hm (fun v hv => by
    simp only [List.mem_cons, List.not_mem_nil, or_false] at hv
    rcases hv with rfl | rfl | rfl | rfl
    · exact hc.1
    · exact hc.2.1
    · exact hc.2.2.1
    · exact hc.2.2.2) hl) g
theorem m_callV4 {a na : Nat} {v1 v2 v3 v4 : Value} (d : decode (am_cd (am_me P y)) pc = .ok (.invokevirtual ix, 3)) (hs : am_sp P y ix = none) (hca : am_ca P y ix = some (z, 4, 1)) (hm : am_ml (am_me P z) = m) (hl : 5 ≤ m) (hc : v1.category = 1 ∧ v2.category = 1 ∧ v3.category = 1 ∧ v4.category = 1) (hw : am_wd rest = W) (hr : am_rf (am_me P z) + 1 ≤ am_rf (am_me P y) ∧ W + (am_ml (am_me P z) + 11) + am_rl (am_me P z) ≤ am_rl (am_me P y)) (ha : me_sh dy a = some (am_rc P z + 5, na)) (g : go P z 0 (some (.ref a) :: some v1 :: some v2 :: some v3 :: some v4 :: List.replicate (m - 5) none) [] (mk dy σ ρ τ) (am_af P y pc lo rest Q)) : go P y pc lo (v4 :: v3 :: v2 :: v1 :: .ref a :: rest) (mk dy σ ρ τ) Q := by
  subst hw
  refine m_callV (as := [v1, v2, v3, v4]) (rest := rest) d hs hca rfl rfl ha hr (en0_eq hm (fun v hv => by
    simp only [List.mem_cons, List.not_mem_nil, or_false] at hv
    rcases hv with rfl | rfl | rfl | rfl | rfl
    · rfl
    · exact hc.1
    · exact hc.2.1
    · exact hc.2.2.1
    · exact hc.2.2.2) hl) g
theorem g_callI4 {a : Nat} {v1 v2 v3 v4 : Value} (d : decode (am_cd (am_me P y)) pc = .ok (.invokespecial ix, 3)) (hs : am_sp P y ix = none) (hca : am_ca P y ix = some (z, 4, 2)) (hm : am_ml (am_me P z) = m) (hl : 5 ≤ m) (hc : v1.category = 1 ∧ v2.category = 1 ∧ v3.category = 1 ∧ v4.category = 1) (hw : am_wd rest = W) (hr : am_rf (am_me P z) + 1 ≤ am_rf (am_me P y) ∧ W + (am_ml (am_me P z) + 11) + am_rl (am_me P z) ≤ am_rl (am_me P y)) (g : go P z 0 (some (.ref a) :: some v1 :: some v2 :: some v3 :: some v4 :: List.replicate (m - 5) none) [] h (am_af P y pc lo rest Q)) : go P y pc lo (v4 :: v3 :: v2 :: v1 :: .ref a :: rest) h Q := by
  subst hw
  refine g_callI (as := [v1, v2, v3, v4]) (rest := rest) d hs hca rfl rfl hr (en0_eq hm (fun v hv => by
    simp only [List.mem_cons, List.not_mem_nil, or_false] at hv
    rcases hv with rfl | rfl | rfl | rfl | rfl
    · rfl
    · exact hc.1
    · exact hc.2.1
    · exact hc.2.2.1
    · exact hc.2.2.2) hl) g
theorem g_callS5 {v1 v2 v3 v4 v5 : Value} (d : decode (am_cd (am_me P y)) pc = .ok (.invokestatic ix, 3)) (hs : am_sp P y ix = none) (hca : am_ca P y ix = some (z, 5, 0)) (hm : am_ml (am_me P z) = m) (hl : 5 ≤ m) (hc : v1.category = 1 ∧ v2.category = 1 ∧ v3.category = 1 ∧ v4.category = 1 ∧ v5.category = 1) (hw : am_wd rest = W) (hr : am_rf (am_me P z) + 1 ≤ am_rf (am_me P y) ∧ W + (am_ml (am_me P z) + 11) + am_rl (am_me P z) ≤ am_rl (am_me P y)) (g : go P z 0 (some v1 :: some v2 :: some v3 :: some v4 :: some v5 :: List.replicate (m - 5) none) [] h (am_af P y pc lo rest Q)) : go P y pc lo (v5 :: v4 :: v3 :: v2 :: v1 :: rest) h Q := by
  subst hw
  refine g_callS (as := [v1, v2, v3, v4, v5]) (rest := rest) d hs hca rfl rfl hr (en0_eq hm (fun v hv => by
    simp only [List.mem_cons, List.not_mem_nil, or_false] at hv
    rcases hv with rfl | rfl | rfl | rfl | rfl
    · exact hc.1
    · exact hc.2.1
    · exact hc.2.2.1
    · exact hc.2.2.2.1
    · exact hc.2.2.2.2) hl) g
end CA
