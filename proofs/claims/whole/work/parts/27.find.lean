/-! What a formula is worth: the reference. -/
section EA
variable {L : Nat} {xs : Nat → Int32} {h : am_H} {Q : am_A → am_H → Prop} {dy : List (Nat × Nat)} {σ : Nat → Nat → Int32} {ρ : Nat → Nat → Option Nat} {τ : Nat → Nat → Int64}
/-- a number that is not too far -/
def cl (x : Int32) : Int32 := if x.toInt < -999 then -999 else if 999 < x.toInt then nn 999 else x
/-- an operator of two parts -/
def wk (w a b : Int32) : Int32 := if w.toInt = 50 then cl (a + b) else if w.toInt = 51 then cl (a - b) else if w.toInt = 52 then cl (a * b) else if w.toInt = 53 then bb (a.toInt = b.toInt) else if w.toInt = 54 then bb (a.toInt < b.toInt) else if w.toInt = 55 then bb (a.toInt = 1 ∧ b.toInt = 1) else bb (a.toInt = 1 ∨ b.toInt = 1)
/-- a word and the pile of what its parts are worth, in a row -/
def ps (rw : Nat → Int32) (w : Int32) (p : List Int32) : List Int32 :=
  if w.toInt < 10 then w :: p
  else if w.toInt < 26 then rw (w.toInt - 20).toNat :: p
  else if w.toInt = 40 then rw 6 :: p
  else if w.toInt = 57 then (nn 1 - p.getD 0 0) :: p.drop 1
  else if w.toInt = 58 then (if (p.getD 0 0).toInt = 1 then p.getD 1 0 else p.getD 2 0) :: p.drop 3
  else wk w (p.getD 0 0) (p.getD 1 0) :: p.drop 2
/-- the words r-1, .., 0 on a pile -/
def pr (rw : Nat → Int32) (ws : Nat → Int32) : Nat → List Int32 → List Int32
  | 0, p => p
  | r + 1, p => pr rw ws r (ps rw (ws r) p)
/-- the same of kinds: true is a truth -/
def ks (w : Int32) (k : List Bool) : Option (List Bool) :=
  if w.toInt < 50 then some (false :: k)
  else if w.toInt = 57 then (match k with
    | true :: r => some (true :: r)
    | _ => none)
  else if w.toInt = 58 then (match k with
    | true :: false :: false :: r => some (false :: r)
    | _ => none)
  else if w.toInt = 55 ∨ w.toInt = 56 then (match k with
    | true :: true :: r => some (true :: r)
    | _ => none)
  else (match k with
    | false :: false :: r => some (decide (52 < w.toInt) :: r)
    | _ => none)
def kr (ws : Nat → Int32) : Nat → List Bool → Option (List Bool)
  | 0, k => some k
  | r + 1, k => (ks (ws r) k).bind (kr ws r)
/-- a word of the language -/
def wd_ok (w : Int32) : Prop := (0 ≤ w.toInt ∧ w.toInt ≤ 9) ∨ (20 ≤ w.toInt ∧ w.toInt ≤ 25) ∨ w.toInt = 40 ∨ (50 ≤ w.toInt ∧ w.toInt ≤ 58)
theorem s_130 {m : Nat} {x : Int32} (kk : Q (.inl (some (.int (cl x)))) h) : go (tb_P L xs) 130 0 [some (.ref m), some (.int x)] [] h Q := by
  unfold cl at kk
  refine g_iload_n k130_0 rfl ?_
  refine g_sipush (v := -999) k130_1 cs_m999 ?_
  refine g_icge k130_4 (t := 13) rfl (fun h4 => ?_) (fun h4 => ?_)
  · skip
    refine g_iload_n k130_13 rfl ?_
    refine g_sipush (v := nn 999) k130_14 cs_999 ?_
    refine g_icle k130_17 (t := 26) rfl (fun h17 => ?_) (fun h17 => ?_)
    · skip
      refine g_iload_n k130_26 rfl ?_
      refine g_ireturn k130_27 t130 ?_
      simp only [ti_0, ti_1, ti_2, ti_3, ti_10, ti_20, ti_26, ti_40, ti_57, ti_58, ti_999, ti_m1, ti_m999] at *
      first | (rw [if_pos (by omega)] at kk; exact kk) | (rw [if_neg (by omega), if_pos (by omega)] at kk; exact kk) | (rw [if_neg (by omega), if_neg (by omega)] at kk; exact kk)
    · skip
      refine g_sipush (v := nn 999) k130_20 cs_999 ?_
      refine g_goto k130_23 (t := 27) rfl ?_
      refine g_ireturn k130_27 t130 ?_
      simp only [ti_0, ti_1, ti_2, ti_3, ti_10, ti_20, ti_26, ti_40, ti_57, ti_58, ti_999, ti_m1, ti_m999] at *
      first | (rw [if_pos (by omega)] at kk; exact kk) | (rw [if_neg (by omega), if_pos (by omega)] at kk; exact kk) | (rw [if_neg (by omega), if_neg (by omega)] at kk; exact kk)
  · skip
    refine g_sipush (v := -999) k130_7 cs_m999 ?_
    refine g_goto k130_10 (t := 27) rfl ?_
    refine g_ireturn k130_27 t130 ?_
    simp only [ti_0, ti_1, ti_2, ti_3, ti_10, ti_20, ti_26, ti_40, ti_57, ti_58, ti_999, ti_m1, ti_m999] at *
    first | (rw [if_pos (by omega)] at kk; exact kk) | (rw [if_neg (by omega), if_pos (by omega)] at kk; exact kk) | (rw [if_neg (by omega), if_neg (by omega)] at kk; exact kk)
theorem s_129 {w a b : Int32} (kk : Q (.inl (some (.int (wk w a b)))) (mk dy σ ρ τ)) : go (tb_P L xs) 129 0 [some (.ref 24), some (.int w), some (.int a), some (.int b)] [] (mk dy σ ρ τ) Q := by
  refine g_iload_n k129_0 rfl ?_
  refine g_split 50 (fun h1_50 => ?_) (fun h1_50 => ?_)
  · skip
    refine g_switch k129_1 ⟨by omega, by omega⟩ (off := 39) (t := 40) (by rw [h1_50]; rfl) rfl ?_
    refine g_aload_n k129_40 rfl ?_
    refine g_iload_n k129_41 rfl ?_
    refine g_iload_n k129_42 rfl ?_
    refine g_iadd k129_43 ?_
    refine m_callV1 k129_44 s129_44 c129_44 l130 (by omega) rfl rfl r129_44 rfl ?_
    refine s_130 ?_
    refine af_ret ?_
    refine g_ireturn k129_47 t129 ?_
    try simp only [ti_1] at *
    simp only [wk, *, reduceIte, Int.reduceEq] at kk
    first | exact kk | (rw [bb_t (by omega)] at kk; exact kk) | (rw [bb_f (by omega)] at kk; exact kk)
  refine g_split 51 (fun h1_51 => ?_) (fun h1_51 => ?_)
  · skip
    refine g_switch k129_1 ⟨by omega, by omega⟩ (off := 47) (t := 48) (by rw [h1_51]; rfl) rfl ?_
    refine g_aload_n k129_48 rfl ?_
    refine g_iload_n k129_49 rfl ?_
    refine g_iload_n k129_50 rfl ?_
    refine g_isub k129_51 ?_
    refine m_callV1 k129_52 s129_52 c129_52 l130 (by omega) rfl rfl r129_52 rfl ?_
    refine s_130 ?_
    refine af_ret ?_
    refine g_ireturn k129_55 t129 ?_
    try simp only [ti_1] at *
    simp only [wk, *, reduceIte, Int.reduceEq] at kk
    first | exact kk | (rw [bb_t (by omega)] at kk; exact kk) | (rw [bb_f (by omega)] at kk; exact kk)
  refine g_split 52 (fun h1_52 => ?_) (fun h1_52 => ?_)
  · skip
    refine g_switch k129_1 ⟨by omega, by omega⟩ (off := 55) (t := 56) (by rw [h1_52]; rfl) rfl ?_
    refine g_aload_n k129_56 rfl ?_
    refine g_iload_n k129_57 rfl ?_
    refine g_iload_n k129_58 rfl ?_
    refine g_imul k129_59 ?_
    refine m_callV1 k129_60 s129_60 c129_60 l130 (by omega) rfl rfl r129_60 rfl ?_
    refine s_130 ?_
    refine af_ret ?_
    refine g_ireturn k129_63 t129 ?_
    try simp only [ti_1] at *
    simp only [wk, *, reduceIte, Int.reduceEq] at kk
    first | exact kk | (rw [bb_t (by omega)] at kk; exact kk) | (rw [bb_f (by omega)] at kk; exact kk)
  refine g_split 53 (fun h1_53 => ?_) (fun h1_53 => ?_)
  · skip
    refine g_switch k129_1 ⟨by omega, by omega⟩ (off := 63) (t := 64) (by rw [h1_53]; rfl) rfl ?_
    refine g_iload_n k129_64 rfl ?_
    refine g_iload_n k129_65 rfl ?_
    refine g_icneT k129_66 (t := 73) rfl (fun h66 => ?_) (fun h66 => ?_)
    · skip
      refine g_iconst (v := nn 0) k129_73 ci_0 ?_
      refine g_ireturn k129_74 t129 ?_
      try simp only [ti_1] at *
      simp only [wk, *, reduceIte, Int.reduceEq] at kk
      first | exact kk | (rw [bb_t (by omega)] at kk; exact kk) | (rw [bb_f (by omega)] at kk; exact kk)
    · skip
      refine g_iconst (v := nn 1) k129_69 ci_1 ?_
      refine g_goto k129_70 (t := 74) rfl ?_
      refine g_ireturn k129_74 t129 ?_
      try simp only [ti_1] at *
      simp only [wk, *, reduceIte, Int.reduceEq] at kk
      first | exact kk | (rw [bb_t (by omega)] at kk; exact kk) | (rw [bb_f (by omega)] at kk; exact kk)
  refine g_split 54 (fun h1_54 => ?_) (fun h1_54 => ?_)
  · skip
    refine g_switch k129_1 ⟨by omega, by omega⟩ (off := 74) (t := 75) (by rw [h1_54]; rfl) rfl ?_
    refine g_iload_n k129_75 rfl ?_
    refine g_iload_n k129_76 rfl ?_
    refine g_icge k129_77 (t := 84) rfl (fun h77 => ?_) (fun h77 => ?_)
    · skip
      refine g_iconst (v := nn 0) k129_84 ci_0 ?_
      refine g_ireturn k129_85 t129 ?_
      try simp only [ti_1] at *
      simp only [wk, *, reduceIte, Int.reduceEq] at kk
      first | exact kk | (rw [bb_t (by omega)] at kk; exact kk) | (rw [bb_f (by omega)] at kk; exact kk)
    · skip
      refine g_iconst (v := nn 1) k129_80 ci_1 ?_
      refine g_goto k129_81 (t := 85) rfl ?_
      refine g_ireturn k129_85 t129 ?_
      try simp only [ti_1] at *
      simp only [wk, *, reduceIte, Int.reduceEq] at kk
      first | exact kk | (rw [bb_t (by omega)] at kk; exact kk) | (rw [bb_f (by omega)] at kk; exact kk)
  refine g_split 55 (fun h1_55 => ?_) (fun h1_55 => ?_)
  · skip
    refine g_switch k129_1 ⟨by omega, by omega⟩ (off := 85) (t := 86) (by rw [h1_55]; rfl) rfl ?_
    refine g_iload_n k129_86 rfl ?_
    refine g_iconst (v := nn 1) k129_87 ci_1 ?_
    refine g_icneT k129_88 (t := 100) rfl (fun h88 => ?_) (fun h88 => ?_)
    · skip
      refine g_iconst (v := nn 0) k129_100 ci_0 ?_
      refine g_ireturn k129_101 t129 ?_
      try simp only [ti_1] at *
      simp only [wk, *, reduceIte, Int.reduceEq] at kk
      first | exact kk | (rw [bb_t (by omega)] at kk; exact kk) | (rw [bb_f (by omega)] at kk; exact kk)
    · skip
      refine g_iload_n k129_91 rfl ?_
      refine g_iconst (v := nn 1) k129_92 ci_1 ?_
      refine g_icneT k129_93 (t := 100) rfl (fun h93 => ?_) (fun h93 => ?_)
      · skip
        refine g_iconst (v := nn 0) k129_100 ci_0 ?_
        refine g_ireturn k129_101 t129 ?_
        try simp only [ti_1] at *
        simp only [wk, *, reduceIte, Int.reduceEq] at kk
        first | exact kk | (rw [bb_t (by omega)] at kk; exact kk) | (rw [bb_f (by omega)] at kk; exact kk)
      · skip
        refine g_iconst (v := nn 1) k129_96 ci_1 ?_
        refine g_goto k129_97 (t := 101) rfl ?_
        refine g_ireturn k129_101 t129 ?_
        try simp only [ti_1] at *
        simp only [wk, *, reduceIte, Int.reduceEq] at kk
        first | exact kk | (rw [bb_t (by omega)] at kk; exact kk) | (rw [bb_f (by omega)] at kk; exact kk)
  refine g_switch_d k129_1 (by omega) (t := 102) rfl ?_
  refine g_iload_n k129_102 rfl ?_
  refine g_iconst (v := nn 1) k129_103 ci_1 ?_
  refine g_iceqT k129_104 (t := 112) rfl (fun h104 => ?_) (fun h104 => ?_)
  · skip
    refine g_iconst (v := nn 1) k129_112 ci_1 ?_
    refine g_goto k129_113 (t := 117) rfl ?_
    refine g_ireturn k129_117 t129 ?_
    try simp only [ti_1] at *
    simp only [wk, *, reduceIte, Int.reduceEq] at kk
    first | exact kk | (rw [bb_t (by omega)] at kk; exact kk) | (rw [bb_f (by omega)] at kk; exact kk)
  · skip
    refine g_iload_n k129_107 rfl ?_
    refine g_iconst (v := nn 1) k129_108 ci_1 ?_
    refine g_icneT k129_109 (t := 116) rfl (fun h109 => ?_) (fun h109 => ?_)
    · skip
      refine g_iconst (v := nn 0) k129_116 ci_0 ?_
      refine g_ireturn k129_117 t129 ?_
      try simp only [ti_1] at *
      simp only [wk, *, reduceIte, Int.reduceEq] at kk
      first | exact kk | (rw [bb_t (by omega)] at kk; exact kk) | (rw [bb_f (by omega)] at kk; exact kk)
    · skip
      refine g_iconst (v := nn 1) k129_112 ci_1 ?_
      refine g_goto k129_113 (t := 117) rfl ?_
      refine g_ireturn k129_117 t129 ?_
      try simp only [ti_1] at *
      simp only [wk, *, reduceIte, Int.reduceEq] at kk
      first | exact kk | (rw [bb_t (by omega)] at kk; exact kk) | (rw [bb_f (by omega)] at kk; exact kk)
/-- what the pile holds -/
def fi_P (σ : Nat → Nat → Int32) (p : List Int32) : Prop := σ 24 29 = nn p.length ∧ ∀ j, j < p.length → σ 45 (p.length - 1 - j) = p.getD j 0
/-- nothing but the pile is another -/
def fi_S (σ σ' : Nat → Nat → Int32) : Prop := ∀ a k, a ≠ 45 → (a ≠ 24 ∨ k ≠ 29) → σ' a k = σ a k
/-- the words of a formula and the row -/
def fi_W (σ : Nat → Nat → Int32) (f n : Nat) (lt : Prop) (prm : Int32) (ws rw : Nat → Int32) : Prop := (∀ i, i < n → σ 29 (24 * f + i) = ws i) ∧ (∀ v, v < 6 → (lt → σ 42 v = rw v) ∧ (¬ lt → σ 41 v = rw v)) ∧ rw 6 = prm
theorem fi_S.rf (σ : Nat → Nat → Int32) : fi_S σ σ := fun _ _ _ _ => rfl
theorem fi_S.tr {σ σ1 σ2 : Nat → Nat → Int32} (h1 : fi_S σ σ1) (h2 : fi_S σ1 σ2) : fi_S σ σ2 := fun a k h3 h4 => (h2 a k h3 h4).trans (h1 a k h3 h4)
theorem fi_W.mono {σ σ' : Nat → Nat → Int32} {f n n' : Nat} {lt : Prop} {prm : Int32} {ws rw : Nat → Int32} (h : fi_W σ f n lt prm ws rw) (hs : fi_S σ σ') (hn : n' ≤ n) : fi_W σ' f n' lt prm ws rw := by
  obtain ⟨h1, h2, h3⟩ := h
  refine ⟨fun i hi => ?_, fun v hv => ⟨fun hl => ?_, fun hl => ?_⟩, h3⟩
  · rw [hs 29 _ (by decide) (Or.inl (by decide))]; exact h1 i (by omega)
  · rw [hs 42 _ (by decide) (Or.inl (by decide))]; exact (h2 v hv).1 hl
  · rw [hs 41 _ (by decide) (Or.inl (by decide))]; exact (h2 v hv).2 hl
theorem fi_step {p : List Int32} {n : Nat} {x : Int32} (h : fi_P σ p) (hn : n ≤ p.length) : fi_P (up2 (up2 (up2 σ 24 29 (nn (p.length - n))) 45 (p.length - n) x) 24 29 (nn (p.length - n + 1))) (x :: p.drop n) ∧ fi_S σ (up2 (up2 (up2 σ 24 29 (nn (p.length - n))) 45 (p.length - n) x) 24 29 (nn (p.length - n + 1))) := by
  refine ⟨⟨?_, fun j hj => ?_⟩, fun a k h1 h2 => ?_⟩
  · simp [up2]
  · have hl : (x :: p.drop n).length = p.length - n + 1 := by simp
    rw [hl] at hj ⊢
    cases j with
    | zero => simp [up2]
    | succ j =>
      have h3 := h.2 (n + j) (by omega)
      have e1 : p.length - n + 1 - 1 - (j + 1) = p.length - 1 - (n + j) := by omega
      rw [e1]
      have e2 : p.length - 1 - (n + j) ≠ p.length - n := by omega
      simp only [up2, e2, if_false, if_true]
      simp only [show (45 : Nat) ≠ 24 by decide, if_false]
      rw [h3]
      simp [List.getD_eq_getElem?_getD, List.getElem?_drop]
  · simp only [up2]
    by_cases ha : a = 24
    · subst ha
      have hk : k ≠ 29 := by
        rcases h2 with h2 | h2
        · exact absurd rfl h2
        · exact h2
      simp [hk]
    · simp [ha, h1]
theorem f128C {f : Nat} {lt : Prop} [Decidable lt] {prm : Int32} {x c9 : Int32} {d i : Nat} {l5 l6 l7 l8 l10 : Option Value} (hp : σ 24 29 = nn d) (hd : d < 30) (kk : go (tb_P L xs) 128 15 [some (.ref 24), some (.int (nn f)), some (.int (bb lt)), some (.int prm), some (.int (nn i - nn 1)), l5, l6, l7, l8, some (.int c9), some (.int x)] [] (mk dy (up2 (up2 σ 45 d x) 24 29 (nn (d + 1))) ρ τ) Q) : go (tb_P L xs) 128 228 [some (.ref 24), some (.int (nn f)), some (.int (bb lt)), some (.int prm), some (.int (nn i)), l5, l6, l7, l8, some (.int c9), l10] [.int x] (mk dy σ ρ τ) Q := by
  refine g_istore k128_228 rfl rfl ?_
  refine g_aload_n k128_230 rfl ?_
  refine m_get k128_231 f128_231 rfl rfl ?_
  refine g_aload_n k128_234 rfl ?_
  refine m_get k128_235 f128_235 rfl rfl ?_
  rw [hp]
  refine g_iload k128_238 rfl ?_
  refine m_iast k128_240 rfl rfl (by omega) (by omega) ?_
  refine g_aload_n k128_241 rfl ?_
  refine g_dup k128_242 rfl ?_
  refine m_get k128_243 f128_243 rfl rfl ?_
  rw [show up2 σ 45 d x 24 29 = nn d from hp]
  refine g_iconst (v := nn 1) k128_246 ci_1 ?_
  refine g_iaddN k128_247 ?_
  refine m_putI k128_248 f128_248 rfl rfl rfl ?_
  refine g_idecM k128_251 rfl rfl rfl ?_
  refine g_goto k128_254 (t := 15) rfl ?_
  exact kk
theorem s_128L {f : Nat} {lt : Prop} [Decidable lt] {prm : Int32} {ws rw : Nat → Int32} {t : Bool} (hdy : dy.length < 100000) (hf : f < 30) : ∀ (r : Nat) {σ : Nat → Nat → Int32} {p : List Int32} {kp : List Bool} {l5 l6 l7 l8 l9 l10 : Option Value} {Q : am_A → am_H → Prop}, r ≤ 24 → fi_W σ f r lt prm ws rw → (∀ i, i < r → wd_ok (ws i)) → kr ws r kp = some [t] → kp.length = p.length → p.length + r ≤ 30 → fi_P σ p →
    (∀ σ', fi_S σ σ' → Q (.inl (some (.int ((pr rw ws r p).getD 0 0)))) (mk dy σ' ρ τ)) → go (tb_P L xs) 128 15 [some (.ref 24), some (.int (nn f)), some (.int (bb lt)), some (.int prm), some (.int (nn r - nn 1)), l5, l6, l7, l8, l9, l10] [] (mk dy σ ρ τ) Q := by
  intro r
  induction r with
  | zero =>
    intro σ p kp l5 l6 l7 l8 l9 l10 Q hr hW hwd hk hl hb hP kk
    cases hk
    have hp1 : p.length = 1 := hl.symm
    refine g_iload k128_15 rfl ?_
    refine g_iflt_t k128_17 (t := 257) rfl (by decide) ?_
    refine g_aload_n k128_257 rfl ?_
    refine m_get k128_258 f128_258 rfl rfl ?_
    refine g_iconst (v := nn 0) k128_261 ci_0 ?_
    refine m_iald k128_262 hdy rfl rfl (by omega) (by omega) ?_
    refine g_ireturn k128_263 t128 ?_
    have e := hP.2 0 (by omega)
    rw [hp1] at e
    have e : σ 45 0 = p.getD 0 0 := e
    rw [e]
    exact kk σ (fi_S.rf σ)
  | succ r ih =>
    intro σ p kp l5 l6 l7 l8 l9 l10 Q hr hW hwd hk hl hb hP kk
    have hk : (ks (ws r) kp).bind (kr ws r) = some [t] := hk
    obtain ⟨kp', hk1, hk2⟩ := Option.bind_eq_some_iff.mp hk
    have hnext : ∀ (n : Nat) (x : Int32) (l5 l6 l7 l8 l9 l10 : Option Value), n ≤ p.length → kp'.length = p.length - n + 1 → ps rw (ws r) p = x :: p.drop n → go (tb_P L xs) 128 15 [some (.ref 24), some (.int (nn f)), some (.int (bb lt)), some (.int prm), some (.int (nn r - nn 1)), l5, l6, l7, l8, l9, l10] [] (mk dy (up2 (up2 (up2 σ 24 29 (nn (p.length - n))) 45 (p.length - n) x) 24 29 (nn (p.length - n + 1))) ρ τ) Q := by
      intro n x l5 l6 l7 l8 l9 l10 hn hkl hps
      obtain ⟨s1, s2⟩ := fi_step (x := x) hP hn
      refine ih (p := x :: p.drop n) (kp := kp') (by omega) (hW.mono s2 (by omega)) (fun i hi => hwd i (by omega)) hk2 (by simp; omega) (by simp; omega) s1 (fun σ' hs => ?_)
      have hq := kk σ' (s2.tr hs)
      have e : pr rw ws (r + 1) p = pr rw ws r (ps rw (ws r) p) := rfl
      rw [e, hps] at hq
      exact hq
    have hw : σ 29 (24 * f + r) = ws r := hW.1 r (by omega)
    have hp := hP.1
    have ha : 1 ≤ p.length → σ 45 (p.length - 1) = p.getD 0 0 := fun q => hP.2 0 (by omega)
    have hb' : 2 ≤ p.length → σ 45 (p.length - 2) = p.getD 1 0 := fun q => hP.2 1 (by omega)
    have hc' : 3 ≤ p.length → σ 45 (p.length - 3) = p.getD 2 0 := fun q => hP.2 2 (by omega)
    rw [nn_pred]
    unfold ks at hk1
    have hok := hwd r (by omega)
    unfold wd_ok at hok
    by_cases c50 : (ws r).toInt < 50
    · rw [if_pos c50] at hk1
      have hkl : kp'.length = p.length - 0 + 1 := by cases hk1; simp; omega
      by_cases c10 : (ws r).toInt < 10
      · have hps : ps rw (ws r) p = ws r :: p.drop 0 := by
          unfold ps
          rw [if_pos c10]
          rfl
        refine g_iload k128_15 rfl ?_
        refine g_ifltN (t := 257) k128_17 rfl (by omega) ?_
        refine g_aload_n k128_20 rfl ?_
        refine m_get k128_21 f128_21 rfl rfl ?_
        refine g_bipush (v := nn 24) k128_24 cb_24 ?_
        refine g_iload_n k128_26 rfl ?_
        refine g_imulN k128_27 ?_
        refine g_iload k128_28 rfl ?_
        refine g_iaddN k128_30 ?_
        refine m_iald k128_31 hdy rfl rfl (by omega) (by omega) ?_
        rw [hw]
        refine g_istore k128_32 rfl rfl ?_
        refine g_aload_n k128_34 rfl ?_
        refine g_iload k128_35 rfl ?_
        refine m_callV1 k128_37 s128_37 c128_37 l110 (by omega) rfl rfl r128_37 rfl ?_
        refine s_110 ?_
        refine af_ret ?_
        rw [if_pos c50]
        refine g_istore k128_40 rfl rfl ?_
        refine g_iload k128_42 rfl ?_
        refine g_ifle_t k128_44 (t := 61) rfl (by decide) ?_
        refine g_iconst (v := nn 0) k128_61 ci_0 ?_
        refine g_istore k128_62 rfl rfl ?_
        refine g_iload k128_64 rfl ?_
        refine g_iconst (v := nn 1) k128_66 ci_1 ?_
        refine g_icle_t k128_67 (t := 84) rfl (by decide) ?_
        refine g_iconst (v := nn 0) k128_84 ci_0 ?_
        refine g_istore k128_85 rfl rfl ?_
        refine g_iload k128_87 rfl ?_
        refine g_iconst (v := nn 2) k128_89 ci_2 ?_
        refine g_icle_t k128_90 (t := 107) rfl (by decide) ?_
        refine g_iconst (v := nn 0) k128_107 ci_0 ?_
        refine g_istore k128_108 rfl rfl ?_
        refine g_aload_n k128_110 rfl ?_
        refine g_dup k128_111 rfl ?_
        refine m_get k128_112 f128_112 rfl rfl ?_
        rw [hp]
        refine g_iload k128_115 rfl ?_
        refine g_isubN k128_117 (by omega) ?_
        refine m_putI k128_118 f128_118 rfl rfl rfl ?_
        refine g_iload k128_121 rfl ?_
        refine g_bipush (v := nn 10) k128_123 cb_10 ?_
        refine g_icge_f k128_125 (t := 133) rfl (by rw [ti_10]; omega) ?_
        refine g_iload k128_128 rfl ?_
        refine g_goto k128_130 (t := 228) rfl ?_
        refine f128C (d := p.length - 0) rfl (by omega) ?_
        exact hnext 0 _ _ _ _ _ _ _ (by omega) hkl hps
      · by_cases c26 : (ws r).toInt < 26
        · have hj : ws r - nn 20 = nn ((ws r).toInt - 20).toNat := by
            obtain ⟨e1, e2⟩ := nn_of (x := ws r) (by omega)
            rw [e1, nn_sub (by omega), nn_toInt e2]
            congr 1
            omega
          have hps : ps rw (ws r) p = rw ((ws r).toInt - 20).toNat :: p.drop 0 := by
            unfold ps
            rw [if_neg c10, if_pos c26]
            rfl
          have hv := hW.2.1 ((ws r).toInt - 20).toNat (by omega)
          refine g_iload k128_15 rfl ?_
          refine g_ifltN (t := 257) k128_17 rfl (by omega) ?_
          refine g_aload_n k128_20 rfl ?_
          refine m_get k128_21 f128_21 rfl rfl ?_
          refine g_bipush (v := nn 24) k128_24 cb_24 ?_
          refine g_iload_n k128_26 rfl ?_
          refine g_imulN k128_27 ?_
          refine g_iload k128_28 rfl ?_
          refine g_iaddN k128_30 ?_
          refine m_iald k128_31 hdy rfl rfl (by omega) (by omega) ?_
          rw [hw]
          refine g_istore k128_32 rfl rfl ?_
          refine g_aload_n k128_34 rfl ?_
          refine g_iload k128_35 rfl ?_
          refine m_callV1 k128_37 s128_37 c128_37 l110 (by omega) rfl rfl r128_37 rfl ?_
          refine s_110 ?_
          refine af_ret ?_
          rw [if_pos c50]
          refine g_istore k128_40 rfl rfl ?_
          refine g_iload k128_42 rfl ?_
          refine g_ifle_t k128_44 (t := 61) rfl (by decide) ?_
          refine g_iconst (v := nn 0) k128_61 ci_0 ?_
          refine g_istore k128_62 rfl rfl ?_
          refine g_iload k128_64 rfl ?_
          refine g_iconst (v := nn 1) k128_66 ci_1 ?_
          refine g_icle_t k128_67 (t := 84) rfl (by decide) ?_
          refine g_iconst (v := nn 0) k128_84 ci_0 ?_
          refine g_istore k128_85 rfl rfl ?_
          refine g_iload k128_87 rfl ?_
          refine g_iconst (v := nn 2) k128_89 ci_2 ?_
          refine g_icle_t k128_90 (t := 107) rfl (by decide) ?_
          refine g_iconst (v := nn 0) k128_107 ci_0 ?_
          refine g_istore k128_108 rfl rfl ?_
          refine g_aload_n k128_110 rfl ?_
          refine g_dup k128_111 rfl ?_
          refine m_get k128_112 f128_112 rfl rfl ?_
          rw [hp]
          refine g_iload k128_115 rfl ?_
          refine g_isubN k128_117 (by omega) ?_
          refine m_putI k128_118 f128_118 rfl rfl rfl ?_
          refine g_iload k128_121 rfl ?_
          refine g_bipush (v := nn 10) k128_123 cb_10 ?_
          refine g_icge_t k128_125 (t := 133) rfl (by rw [ti_10]; omega) ?_
          refine g_iload k128_133 rfl ?_
          refine g_bipush (v := nn 26) k128_135 cb_26 ?_
          refine g_icge_f k128_137 (t := 170) rfl (by rw [ti_26]; omega) ?_
          refine g_iload_n k128_140 rfl ?_
          refine g_ifeqB k128_141 (t := 157) rfl (fun h141 => ?_) (fun h141 => ?_)
          · skip
            refine g_aload_n k128_157 rfl ?_
            refine m_get k128_158 f128_158 rfl rfl ?_
            refine g_iload k128_161 rfl ?_
            refine g_bipush (v := nn 20) k128_163 cb_20 ?_
            refine g_isub k128_165 ?_
            refine m_iald k128_166 hdy rfl hj (by omega) (by omega) ?_
            refine g_goto k128_167 (t := 228) rfl ?_
            refine f128C (d := p.length - 0) rfl (by omega) ?_
            refine hnext 0 _ _ _ _ _ _ _ (by omega) hkl ?_
            first | (rw [← hv.1 h141] at hps; exact hps) | (rw [← hv.2 h141] at hps; exact hps)
          · skip
            refine g_aload_n k128_144 rfl ?_
            refine m_get k128_145 f128_145 rfl rfl ?_
            refine g_iload k128_148 rfl ?_
            refine g_bipush (v := nn 20) k128_150 cb_20 ?_
            refine g_isub k128_152 ?_
            refine m_iald k128_153 hdy rfl hj (by omega) (by omega) ?_
            refine g_goto k128_154 (t := 228) rfl ?_
            refine f128C (d := p.length - 0) rfl (by omega) ?_
            refine hnext 0 _ _ _ _ _ _ _ (by omega) hkl ?_
            first | (rw [← hv.1 h141] at hps; exact hps) | (rw [← hv.2 h141] at hps; exact hps)
        · have c40 : (ws r).toInt = 40 := by omega
          have hps : ps rw (ws r) p = prm :: p.drop 0 := by
            unfold ps
            rw [if_neg c10, if_neg c26, if_pos c40, hW.2.2]
            rfl
          refine g_iload k128_15 rfl ?_
          refine g_ifltN (t := 257) k128_17 rfl (by omega) ?_
          refine g_aload_n k128_20 rfl ?_
          refine m_get k128_21 f128_21 rfl rfl ?_
          refine g_bipush (v := nn 24) k128_24 cb_24 ?_
          refine g_iload_n k128_26 rfl ?_
          refine g_imulN k128_27 ?_
          refine g_iload k128_28 rfl ?_
          refine g_iaddN k128_30 ?_
          refine m_iald k128_31 hdy rfl rfl (by omega) (by omega) ?_
          rw [hw]
          refine g_istore k128_32 rfl rfl ?_
          refine g_aload_n k128_34 rfl ?_
          refine g_iload k128_35 rfl ?_
          refine m_callV1 k128_37 s128_37 c128_37 l110 (by omega) rfl rfl r128_37 rfl ?_
          refine s_110 ?_
          refine af_ret ?_
          rw [if_pos c50]
          refine g_istore k128_40 rfl rfl ?_
          refine g_iload k128_42 rfl ?_
          refine g_ifle_t k128_44 (t := 61) rfl (by decide) ?_
          refine g_iconst (v := nn 0) k128_61 ci_0 ?_
          refine g_istore k128_62 rfl rfl ?_
          refine g_iload k128_64 rfl ?_
          refine g_iconst (v := nn 1) k128_66 ci_1 ?_
          refine g_icle_t k128_67 (t := 84) rfl (by decide) ?_
          refine g_iconst (v := nn 0) k128_84 ci_0 ?_
          refine g_istore k128_85 rfl rfl ?_
          refine g_iload k128_87 rfl ?_
          refine g_iconst (v := nn 2) k128_89 ci_2 ?_
          refine g_icle_t k128_90 (t := 107) rfl (by decide) ?_
          refine g_iconst (v := nn 0) k128_107 ci_0 ?_
          refine g_istore k128_108 rfl rfl ?_
          refine g_aload_n k128_110 rfl ?_
          refine g_dup k128_111 rfl ?_
          refine m_get k128_112 f128_112 rfl rfl ?_
          rw [hp]
          refine g_iload k128_115 rfl ?_
          refine g_isubN k128_117 (by omega) ?_
          refine m_putI k128_118 f128_118 rfl rfl rfl ?_
          refine g_iload k128_121 rfl ?_
          refine g_bipush (v := nn 10) k128_123 cb_10 ?_
          refine g_icge_t k128_125 (t := 133) rfl (by rw [ti_10]; omega) ?_
          refine g_iload k128_133 rfl ?_
          refine g_bipush (v := nn 26) k128_135 cb_26 ?_
          refine g_icge_t k128_137 (t := 170) rfl (by rw [ti_26]; omega) ?_
          refine g_iload k128_170 rfl ?_
          refine g_bipush (v := nn 40) k128_172 cb_40 ?_
          refine g_icne_f k128_174 (t := 181) rfl (by rw [← Int32.toInt_inj, ti_40]; omega) ?_
          refine g_iload_n k128_177 rfl ?_
          refine g_goto k128_178 (t := 228) rfl ?_
          refine f128C (d := p.length - 0) rfl (by omega) ?_
          exact hnext 0 _ _ _ _ _ _ _ (by omega) hkl hps
    · rw [if_neg c50] at hk1
      have c10 : ¬ (ws r).toInt < 10 := by omega
      have c26 : ¬ (ws r).toInt < 26 := by omega
      have c40 : ¬ (ws r).toInt = 40 := by omega
      by_cases c57 : (ws r).toInt = 57
      · rw [if_pos c57] at hk1
        obtain ⟨kq, hkq, hkl⟩ : ∃ kq, kp = true :: kq ∧ kp'.length = kq.length + 1 := by
          split at hk1
          · cases hk1; exact ⟨_, rfl, rfl⟩
          · cases hk1
        subst hkq
        have hl : kq.length + 1 = p.length := hl
        have ha := ha (by omega)
        have hkl : kp'.length = p.length - 1 + 1 := by omega
        have hps : ps rw (ws r) p = (nn 1 - p.getD 0 0) :: p.drop 1 := by
          unfold ps
          rw [if_neg c10, if_neg c26, if_neg c40, if_pos c57]
        refine g_iload k128_15 rfl ?_
        refine g_ifltN (t := 257) k128_17 rfl (by omega) ?_
        refine g_aload_n k128_20 rfl ?_
        refine m_get k128_21 f128_21 rfl rfl ?_
        refine g_bipush (v := nn 24) k128_24 cb_24 ?_
        refine g_iload_n k128_26 rfl ?_
        refine g_imulN k128_27 ?_
        refine g_iload k128_28 rfl ?_
        refine g_iaddN k128_30 ?_
        refine m_iald k128_31 hdy rfl rfl (by omega) (by omega) ?_
        rw [hw]
        refine g_istore k128_32 rfl rfl ?_
        refine g_aload_n k128_34 rfl ?_
        refine g_iload k128_35 rfl ?_
        refine m_callV1 k128_37 s128_37 c128_37 l110 (by omega) rfl rfl r128_37 rfl ?_
        refine s_110 ?_
        refine af_ret ?_
        rw [if_neg c50, if_pos c57]
        refine g_istore k128_40 rfl rfl ?_
        refine g_iload k128_42 rfl ?_
        refine g_ifle_f k128_44 (t := 61) rfl (by decide) ?_
        refine g_aload_n k128_47 rfl ?_
        refine m_get k128_48 f128_48 rfl rfl ?_
        refine g_aload_n k128_51 rfl ?_
        refine m_get k128_52 f128_52 rfl rfl ?_
        rw [hp]
        refine g_iconst (v := nn 1) k128_55 ci_1 ?_
        refine g_isubN k128_56 (by omega) ?_
        refine m_iald k128_57 hdy rfl rfl (by omega) (by omega) ?_
        rw [ha]
        refine g_goto k128_58 (t := 62) rfl ?_
        refine g_istore k128_62 rfl rfl ?_
        refine g_iload k128_64 rfl ?_
        refine g_iconst (v := nn 1) k128_66 ci_1 ?_
        refine g_icle_t k128_67 (t := 84) rfl (by decide) ?_
        refine g_iconst (v := nn 0) k128_84 ci_0 ?_
        refine g_istore k128_85 rfl rfl ?_
        refine g_iload k128_87 rfl ?_
        refine g_iconst (v := nn 2) k128_89 ci_2 ?_
        refine g_icle_t k128_90 (t := 107) rfl (by decide) ?_
        refine g_iconst (v := nn 0) k128_107 ci_0 ?_
        refine g_istore k128_108 rfl rfl ?_
        refine g_aload_n k128_110 rfl ?_
        refine g_dup k128_111 rfl ?_
        refine m_get k128_112 f128_112 rfl rfl ?_
        rw [hp]
        refine g_iload k128_115 rfl ?_
        refine g_isubN k128_117 (by omega) ?_
        refine m_putI k128_118 f128_118 rfl rfl rfl ?_
        refine g_iload k128_121 rfl ?_
        refine g_bipush (v := nn 10) k128_123 cb_10 ?_
        refine g_icge_t k128_125 (t := 133) rfl (by rw [ti_10]; omega) ?_
        refine g_iload k128_133 rfl ?_
        refine g_bipush (v := nn 26) k128_135 cb_26 ?_
        refine g_icge_t k128_137 (t := 170) rfl (by rw [ti_26]; omega) ?_
        refine g_iload k128_170 rfl ?_
        refine g_bipush (v := nn 40) k128_172 cb_40 ?_
        refine g_icne_t k128_174 (t := 181) rfl (by rw [ne_eq, ← Int32.toInt_inj, ti_40]; omega) ?_
        refine g_iload k128_181 rfl ?_
        refine g_bipush (v := nn 57) k128_183 cb_57 ?_
        refine g_icne_f k128_185 (t := 195) rfl (by rw [← Int32.toInt_inj, ti_57]; omega) ?_
        refine g_iconst (v := nn 1) k128_188 ci_1 ?_
        refine g_iload k128_189 rfl ?_
        refine g_isub k128_191 ?_
        refine g_goto k128_192 (t := 228) rfl ?_
        refine f128C (d := p.length - 1) rfl (by omega) ?_
        exact hnext 1 _ _ _ _ _ _ _ (by omega) hkl hps
      · rw [if_neg c57] at hk1
        by_cases c58 : (ws r).toInt = 58
        · rw [if_pos c58] at hk1
          obtain ⟨kq, hkq, hkl⟩ : ∃ kq, kp = true :: false :: false :: kq ∧ kp'.length = kq.length + 1 := by
            split at hk1
            · cases hk1; exact ⟨_, rfl, rfl⟩
            · cases hk1
          subst hkq
          have hl : kq.length + 1 + 1 + 1 = p.length := hl
          have ha := ha (by omega)
          have hb' := hb' (by omega)
          have hc' := hc' (by omega)
          have hkl : kp'.length = p.length - 3 + 1 := by omega
          have hps : ps rw (ws r) p = (if (p.getD 0 0).toInt = 1 then p.getD 1 0 else p.getD 2 0) :: p.drop 3 := by
            unfold ps
            rw [if_neg c10, if_neg c26, if_neg c40, if_neg c57, if_pos c58]
          refine g_iload k128_15 rfl ?_
          refine g_ifltN (t := 257) k128_17 rfl (by omega) ?_
          refine g_aload_n k128_20 rfl ?_
          refine m_get k128_21 f128_21 rfl rfl ?_
          refine g_bipush (v := nn 24) k128_24 cb_24 ?_
          refine g_iload_n k128_26 rfl ?_
          refine g_imulN k128_27 ?_
          refine g_iload k128_28 rfl ?_
          refine g_iaddN k128_30 ?_
          refine m_iald k128_31 hdy rfl rfl (by omega) (by omega) ?_
          rw [hw]
          refine g_istore k128_32 rfl rfl ?_
          refine g_aload_n k128_34 rfl ?_
          refine g_iload k128_35 rfl ?_
          refine m_callV1 k128_37 s128_37 c128_37 l110 (by omega) rfl rfl r128_37 rfl ?_
          refine s_110 ?_
          refine af_ret ?_
          rw [if_neg c50, if_neg c57, if_pos c58]
          refine g_istore k128_40 rfl rfl ?_
          refine g_iload k128_42 rfl ?_
          refine g_ifle_f k128_44 (t := 61) rfl (by decide) ?_
          refine g_aload_n k128_47 rfl ?_
          refine m_get k128_48 f128_48 rfl rfl ?_
          refine g_aload_n k128_51 rfl ?_
          refine m_get k128_52 f128_52 rfl rfl ?_
          rw [hp]
          refine g_iconst (v := nn 1) k128_55 ci_1 ?_
          refine g_isubN k128_56 (by omega) ?_
          refine m_iald k128_57 hdy rfl rfl (by omega) (by omega) ?_
          rw [ha]
          refine g_goto k128_58 (t := 62) rfl ?_
          refine g_istore k128_62 rfl rfl ?_
          refine g_iload k128_64 rfl ?_
          refine g_iconst (v := nn 1) k128_66 ci_1 ?_
          refine g_icle_f k128_67 (t := 84) rfl (by decide) ?_
          refine g_aload_n k128_70 rfl ?_
          refine m_get k128_71 f128_71 rfl rfl ?_
          refine g_aload_n k128_74 rfl ?_
          refine m_get k128_75 f128_75 rfl rfl ?_
          rw [hp]
          refine g_iconst (v := nn 2) k128_78 ci_2 ?_
          refine g_isubN k128_79 (by omega) ?_
          refine m_iald k128_80 hdy rfl rfl (by omega) (by omega) ?_
          rw [hb']
          refine g_goto k128_81 (t := 85) rfl ?_
          refine g_istore k128_85 rfl rfl ?_
          refine g_iload k128_87 rfl ?_
          refine g_iconst (v := nn 2) k128_89 ci_2 ?_
          refine g_icle_f k128_90 (t := 107) rfl (by decide) ?_
          refine g_aload_n k128_93 rfl ?_
          refine m_get k128_94 f128_94 rfl rfl ?_
          refine g_aload_n k128_97 rfl ?_
          refine m_get k128_98 f128_98 rfl rfl ?_
          rw [hp]
          refine g_iconst (v := nn 3) k128_101 ci_3 ?_
          refine g_isubN k128_102 (by omega) ?_
          refine m_iald k128_103 hdy rfl rfl (by omega) (by omega) ?_
          rw [hc']
          refine g_goto k128_104 (t := 108) rfl ?_
          refine g_istore k128_108 rfl rfl ?_
          refine g_aload_n k128_110 rfl ?_
          refine g_dup k128_111 rfl ?_
          refine m_get k128_112 f128_112 rfl rfl ?_
          rw [hp]
          refine g_iload k128_115 rfl ?_
          refine g_isubN k128_117 (by omega) ?_
          refine m_putI k128_118 f128_118 rfl rfl rfl ?_
          refine g_iload k128_121 rfl ?_
          refine g_bipush (v := nn 10) k128_123 cb_10 ?_
          refine g_icge_t k128_125 (t := 133) rfl (by rw [ti_10]; omega) ?_
          refine g_iload k128_133 rfl ?_
          refine g_bipush (v := nn 26) k128_135 cb_26 ?_
          refine g_icge_t k128_137 (t := 170) rfl (by rw [ti_26]; omega) ?_
          refine g_iload k128_170 rfl ?_
          refine g_bipush (v := nn 40) k128_172 cb_40 ?_
          refine g_icne_t k128_174 (t := 181) rfl (by rw [ne_eq, ← Int32.toInt_inj, ti_40]; omega) ?_
          refine g_iload k128_181 rfl ?_
          refine g_bipush (v := nn 57) k128_183 cb_57 ?_
          refine g_icne_t k128_185 (t := 195) rfl (by rw [ne_eq, ← Int32.toInt_inj, ti_57]; omega) ?_
          refine g_iload k128_195 rfl ?_
          refine g_bipush (v := nn 58) k128_197 cb_58 ?_
          refine g_icne_f k128_199 (t := 218) rfl (by rw [← Int32.toInt_inj, ti_58]; omega) ?_
          refine g_iload k128_202 rfl ?_
          refine g_iconst (v := nn 1) k128_204 ci_1 ?_
          refine g_icneT k128_205 (t := 213) rfl (fun h205 => ?_) (fun h205 => ?_)
          · skip
            refine g_iload k128_213 rfl ?_
            refine g_goto k128_215 (t := 228) rfl ?_
            refine f128C (d := p.length - 3) rfl (by omega) ?_
            refine hnext 3 _ _ _ _ _ _ _ (by omega) hkl ?_
            rw [ti_1] at h205
            first | (rw [if_pos h205] at hps; exact hps) | (rw [if_neg h205] at hps; exact hps)
          · skip
            refine g_iload k128_208 rfl ?_
            refine g_goto k128_210 (t := 228) rfl ?_
            refine f128C (d := p.length - 3) rfl (by omega) ?_
            refine hnext 3 _ _ _ _ _ _ _ (by omega) hkl ?_
            rw [ti_1] at h205
            first | (rw [if_pos h205] at hps; exact hps) | (rw [if_neg h205] at hps; exact hps)
        · rw [if_neg c58] at hk1
          obtain ⟨kx, ky, kq, hkq, hkl⟩ : ∃ kx ky kq, kp = kx :: ky :: kq ∧ kp'.length = kq.length + 1 := by
            split at hk1
            · split at hk1
              · cases hk1; exact ⟨_, _, _, rfl, rfl⟩
              · cases hk1
            · split at hk1
              · cases hk1; exact ⟨_, _, _, rfl, rfl⟩
              · cases hk1
          subst hkq
          have hl : kq.length + 1 + 1 = p.length := hl
          have ha := ha (by omega)
          have hb' := hb' (by omega)
          have hkl : kp'.length = p.length - 2 + 1 := by omega
          have hps : ps rw (ws r) p = wk (ws r) (p.getD 0 0) (p.getD 1 0) :: p.drop 2 := by
            unfold ps
            rw [if_neg c10, if_neg c26, if_neg c40, if_neg c57, if_neg c58]
          refine g_iload k128_15 rfl ?_
          refine g_ifltN (t := 257) k128_17 rfl (by omega) ?_
          refine g_aload_n k128_20 rfl ?_
          refine m_get k128_21 f128_21 rfl rfl ?_
          refine g_bipush (v := nn 24) k128_24 cb_24 ?_
          refine g_iload_n k128_26 rfl ?_
          refine g_imulN k128_27 ?_
          refine g_iload k128_28 rfl ?_
          refine g_iaddN k128_30 ?_
          refine m_iald k128_31 hdy rfl rfl (by omega) (by omega) ?_
          rw [hw]
          refine g_istore k128_32 rfl rfl ?_
          refine g_aload_n k128_34 rfl ?_
          refine g_iload k128_35 rfl ?_
          refine m_callV1 k128_37 s128_37 c128_37 l110 (by omega) rfl rfl r128_37 rfl ?_
          refine s_110 ?_
          refine af_ret ?_
          rw [if_neg c50, if_neg c57, if_neg c58]
          refine g_istore k128_40 rfl rfl ?_
          refine g_iload k128_42 rfl ?_
          refine g_ifle_f k128_44 (t := 61) rfl (by decide) ?_
          refine g_aload_n k128_47 rfl ?_
          refine m_get k128_48 f128_48 rfl rfl ?_
          refine g_aload_n k128_51 rfl ?_
          refine m_get k128_52 f128_52 rfl rfl ?_
          rw [hp]
          refine g_iconst (v := nn 1) k128_55 ci_1 ?_
          refine g_isubN k128_56 (by omega) ?_
          refine m_iald k128_57 hdy rfl rfl (by omega) (by omega) ?_
          rw [ha]
          refine g_goto k128_58 (t := 62) rfl ?_
          refine g_istore k128_62 rfl rfl ?_
          refine g_iload k128_64 rfl ?_
          refine g_iconst (v := nn 1) k128_66 ci_1 ?_
          refine g_icle_f k128_67 (t := 84) rfl (by decide) ?_
          refine g_aload_n k128_70 rfl ?_
          refine m_get k128_71 f128_71 rfl rfl ?_
          refine g_aload_n k128_74 rfl ?_
          refine m_get k128_75 f128_75 rfl rfl ?_
          rw [hp]
          refine g_iconst (v := nn 2) k128_78 ci_2 ?_
          refine g_isubN k128_79 (by omega) ?_
          refine m_iald k128_80 hdy rfl rfl (by omega) (by omega) ?_
          rw [hb']
          refine g_goto k128_81 (t := 85) rfl ?_
          refine g_istore k128_85 rfl rfl ?_
          refine g_iload k128_87 rfl ?_
          refine g_iconst (v := nn 2) k128_89 ci_2 ?_
          refine g_icle_t k128_90 (t := 107) rfl (by decide) ?_
          refine g_iconst (v := nn 0) k128_107 ci_0 ?_
          refine g_istore k128_108 rfl rfl ?_
          refine g_aload_n k128_110 rfl ?_
          refine g_dup k128_111 rfl ?_
          refine m_get k128_112 f128_112 rfl rfl ?_
          rw [hp]
          refine g_iload k128_115 rfl ?_
          refine g_isubN k128_117 (by omega) ?_
          refine m_putI k128_118 f128_118 rfl rfl rfl ?_
          refine g_iload k128_121 rfl ?_
          refine g_bipush (v := nn 10) k128_123 cb_10 ?_
          refine g_icge_t k128_125 (t := 133) rfl (by rw [ti_10]; omega) ?_
          refine g_iload k128_133 rfl ?_
          refine g_bipush (v := nn 26) k128_135 cb_26 ?_
          refine g_icge_t k128_137 (t := 170) rfl (by rw [ti_26]; omega) ?_
          refine g_iload k128_170 rfl ?_
          refine g_bipush (v := nn 40) k128_172 cb_40 ?_
          refine g_icne_t k128_174 (t := 181) rfl (by rw [ne_eq, ← Int32.toInt_inj, ti_40]; omega) ?_
          refine g_iload k128_181 rfl ?_
          refine g_bipush (v := nn 57) k128_183 cb_57 ?_
          refine g_icne_t k128_185 (t := 195) rfl (by rw [ne_eq, ← Int32.toInt_inj, ti_57]; omega) ?_
          refine g_iload k128_195 rfl ?_
          refine g_bipush (v := nn 58) k128_197 cb_58 ?_
          refine g_icne_t k128_199 (t := 218) rfl (by rw [ne_eq, ← Int32.toInt_inj, ti_58]; omega) ?_
          refine g_aload_n k128_218 rfl ?_
          refine g_iload k128_219 rfl ?_
          refine g_iload k128_221 rfl ?_
          refine g_iload k128_223 rfl ?_
          refine m_callV3 k128_225 s128_225 c128_225 l129 (by omega) ⟨rfl, rfl, rfl⟩ rfl r128_225 rfl ?_
          refine s_129 ?_
          refine af_ret ?_
          refine f128C (d := p.length - 2) rfl (by omega) ?_
          exact hnext 2 _ _ _ _ _ _ _ (by omega) hkl hps
end EA
