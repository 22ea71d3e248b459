/-! Runs of the abstract machine, an instruction at a time. -/
section GA
variable {P : am_P}
theorem am_run_up (P : am_P) : ∀ (n : Nat) (y pc : Nat) (lo : am_L) (st : List Value) (h : am_H) (r : am_A × am_H), am_run P n y pc lo st h = some r → am_run P (n + 1) y pc lo st h = some r := by
  intro n
  induction n with
  | zero => intro y pc lo st h r hx; cases hx
  | succ n ih =>
    intro y pc lo st h r hx
    unfold am_run at hx ⊢
    cases hs : am_st P y pc lo st h with
    | none => rw [hs] at hx; cases hx
    | some out =>
      rw [hs] at hx
      rcases out with ⟨pc1, lo1, st1, h1⟩ | ⟨z, as, rest⟩ | v | E
      · exact ih _ _ _ _ _ _ hx
      · dsimp only at hx ⊢
        cases hl : am_en0 P z as with
        | none => rw [hl] at hx; cases hx
        | some l0 =>
          rw [hl] at hx
          dsimp only at hx ⊢
          cases hr : am_run P n z 0 l0 [] h with
          | none => rw [hr] at hx; cases hx
          | some q =>
            rw [hr] at hx
            rw [ih _ _ _ _ _ _ hr]
            rcases q with ⟨v | E, h1⟩
            · exact ih _ _ _ _ _ _ hx
            · dsimp only at hx ⊢
              split at hx
              · rename_i hno
                rw [if_pos hno]
                exact hx
              · rename_i hno
                rw [if_neg hno]
                split at hx
                · rename_i pc' k hfh
                  split at hx
                  · rename_i hk
                    rw [if_pos hk]
                    exact ih _ _ _ _ _ _ hx
                  · cases hx
                · cases hx
      · exact hx
      · exact hx
theorem am_run_mono (P : am_P) {n : Nat} {y pc : Nat} {lo : am_L} {st : List Value} {h : am_H} {r : am_A × am_H} (hx : am_run P n y pc lo st h = some r) (k : Nat) : am_run P (n + k) y pc lo st h = some r := by
  induction k with
  | zero => exact hx
  | succ k ih => exact am_run_up P _ _ _ _ _ _ _ ih
/-- the method comes to an end, and what holds of it -/
def go (P : am_P) (y pc : Nat) (lo : am_L) (st : List Value) (h : am_H) (Q : am_A → am_H → Prop) : Prop := ∃ (n : Nat) (o : am_A) (h' : am_H), am_run P n y pc lo st h = some (o, h') ∧ Q o h'
/-- what is to be shown behind a call -/
def am_af (P : am_P) (y pc : Nat) (lo : am_L) (rest : List Value) (Q : am_A → am_H → Prop) : am_A → am_H → Prop := fun o h1 => match o with
  | .inl v => go P y (pc + 3) lo (v.toList ++ rest) h1 Q
  | .inr E => if am_no P y pc = true then Q (.inr E) h1 else match am_fh P y pc E with
    | some (pc', k) => (k < lo.length ∧ am_pv lo k = true) ∧ go P y pc' (lo.set k none) [] h1 Q
    | none => False
variable {y pc : Nat} {lo : am_L} {st : List Value} {h : am_H} {Q : am_A → am_H → Prop}
theorem go_mono {Q' : am_A → am_H → Prop} (g : go P y pc lo st h Q) (hq : ∀ o h', Q o h' → Q' o h') : go P y pc lo st h Q' := by
  obtain ⟨n, o, h', g1, g2⟩ := g
  exact ⟨n, o, h', g1, hq _ _ g2⟩
theorem go_st {pc' : Nat} {lo' : am_L} {st' : List Value} {h' : am_H} (hs : am_st P y pc lo st h = some (.inl (pc', lo', st', h'))) (g : go P y pc' lo' st' h' Q) : go P y pc lo st h Q := by
  obtain ⟨n, o, h1, g1, g2⟩ := g
  refine ⟨n + 1, o, h1, ?_, g2⟩
  unfold am_run
  rw [hs]
  exact g1
theorem go_ret {v : Option Value} (hs : am_st P y pc lo st h = some (.inr (.inr (.inl v)))) (g : Q (.inl v) h) : go P y pc lo st h Q := by
  refine ⟨1, .inl v, h, ?_, g⟩
  unfold am_run
  rw [hs]
theorem go_thr {E : Nat} (hs : am_st P y pc lo st h = some (.inr (.inr (.inr E)))) (hno : am_no P y (pc + 7) = true) (g : Q (.inr E) (h ++ [.inr (E, [])])) : go P y pc lo st h Q := by
  refine ⟨1, .inr E, _, ?_, g⟩
  unfold am_run
  rw [hs]
  dsimp only
  rw [if_pos hno]
theorem go_call {z : Nat} {as rest : List Value} {l0 : am_L} (hs : am_st P y pc lo st h = some (.inr (.inl (z, as, rest)))) (hl : am_en0 P z as = some l0) (g : go P z 0 l0 [] h (am_af P y pc lo rest Q)) : go P y pc lo st h Q := by
  obtain ⟨n, o, h1, g1, g2⟩ := g
  rcases o with v | E
  · obtain ⟨n2, o2, h2, g3, g4⟩ := g2
    refine ⟨n + n2 + 1, o2, h2, ?_, g4⟩
    unfold am_run
    rw [hs]
    dsimp only
    rw [hl]
    dsimp only
    rw [am_run_mono P g1 n2]
    dsimp only
    rw [show n + n2 = n2 + n by omega]
    exact am_run_mono P g3 n
  · unfold am_af at g2
    dsimp only at g2
    split at g2
    · rename_i hno
      refine ⟨n + 1, .inr E, h1, ?_, g2⟩
      unfold am_run
      rw [hs]
      dsimp only
      rw [hl]
      dsimp only
      rw [g1]
      dsimp only
      rw [if_pos hno]
    · rename_i hno
      split at g2
      · rename_i pc' k hfh
        obtain ⟨hk, n2, o2, h2, g3, g4⟩ := g2
        refine ⟨n + n2 + 1, o2, h2, ?_, g4⟩
        unfold am_run
        rw [hs]
        dsimp only
        rw [hl]
        dsimp only
        rw [am_run_mono P g1 n2]
        dsimp only
        rw [if_neg hno, hfh]
        dsimp only
        rw [if_pos hk, show n + n2 = n2 + n by omega]
        exact am_run_mono P g3 n
      · exact g2.elim
theorem am_st_of {i : Instr} {len : Nat} (d : decode (am_cd (am_me P y)) pc = .ok (i, len)) (hl : am_ln i len = true) : am_st P y pc lo st h = am_ex P y pc i lo st h := by
  unfold am_st
  rw [d]
  dsimp only
  rw [if_pos hl]

theorem g_iconst {n : _} {v : Int32} (d : decode (am_cd (am_me P y)) pc = .ok (.iconst n, 1)) (hv : Int32.ofInt n = v) (kk : go P y (pc + 1) lo (.int v :: st) h Q) : go P y pc lo st h Q := by
  refine go_st ?_ kk
  rw [am_st_of d rfl]
  subst hv; rfl
theorem g_bipush {n : _} {v : Int32} (d : decode (am_cd (am_me P y)) pc = .ok (.bipush n, 2)) (hv : (Int8.ofInt n).toInt32 = v) (kk : go P y (pc + 2) lo (.int v :: st) h Q) : go P y pc lo st h Q := by
  refine go_st ?_ kk
  rw [am_st_of d rfl]
  subst hv; rfl
theorem g_sipush {n : _} {v : Int32} (d : decode (am_cd (am_me P y)) pc = .ok (.sipush n, 3)) (hv : (Int16.ofInt n).toInt32 = v) (kk : go P y (pc + 3) lo (.int v :: st) h Q) : go P y pc lo st h Q := by
  refine go_st ?_ kk
  rw [am_st_of d rfl]
  subst hv; rfl
theorem g_lconst {n : _} {v : Int64} (d : decode (am_cd (am_me P y)) pc = .ok (.lconst n, 1)) (hv : Int64.ofNat (n : Nat) = v) (kk : go P y (pc + 1) lo (.long v :: st) h Q) : go P y pc lo st h Q := by
  refine go_st ?_ kk
  rw [am_st_of d rfl]
  subst hv; rfl
theorem g_null  (d : decode (am_cd (am_me P y)) pc = .ok (.aconst_null, 1))  (kk : go P y (pc + 1) lo (.null :: st) h Q) : go P y pc lo st h Q := by
  refine go_st ?_ kk
  rw [am_st_of d rfl]
  rfl
theorem g_ldc {ix : Nat} {v : Int32} (d : decode (am_cd (am_me P y)) pc = .ok (.ldc_w ix, 3)) (hv : am_kc P y ix = some v) (kk : go P y (pc + 3) lo (.int v :: st) h Q) : go P y pc lo st h Q := by
  refine go_st ?_ kk
  rw [am_st_of d rfl]
  unfold am_ex; dsimp only; rw [hv]; rfl
theorem g_iload {k : _} {x : Int32} (d : decode (am_cd (am_me P y)) pc = .ok (.iload k, 2)) (hk : lo[(k : Nat)]? = some (some (.int x))) (kk : go P y (pc + 2) lo (.int x :: st) h Q) : go P y pc lo st h Q := by
  refine go_st ?_ kk
  rw [am_st_of d rfl]
  unfold am_ex; dsimp only; unfold am_li; rw [hk]; rfl
theorem g_iload_n {k : _} {x : Int32} (d : decode (am_cd (am_me P y)) pc = .ok (.iload_n k, 1)) (hk : lo[(k : Nat)]? = some (some (.int x))) (kk : go P y (pc + 1) lo (.int x :: st) h Q) : go P y pc lo st h Q := by
  refine go_st ?_ kk
  rw [am_st_of d rfl]
  unfold am_ex; dsimp only; unfold am_li; rw [hk]; rfl
theorem g_lload {k : _} {x : Int64} (d : decode (am_cd (am_me P y)) pc = .ok (.lload k, 2)) (hk : lo[(k : Nat)]? = some (some (.long x))) (kk : go P y (pc + 2) lo (.long x :: st) h Q) : go P y pc lo st h Q := by
  refine go_st ?_ kk
  rw [am_st_of d rfl]
  unfold am_ex; dsimp only; unfold am_lj; rw [hk]; rfl
theorem g_lload_n {k : _} {x : Int64} (d : decode (am_cd (am_me P y)) pc = .ok (.lload_n k, 1)) (hk : lo[(k : Nat)]? = some (some (.long x))) (kk : go P y (pc + 1) lo (.long x :: st) h Q) : go P y pc lo st h Q := by
  refine go_st ?_ kk
  rw [am_st_of d rfl]
  unfold am_ex; dsimp only; unfold am_lj; rw [hk]; rfl
theorem g_aload {k : _} {x : Nat} (d : decode (am_cd (am_me P y)) pc = .ok (.aload k, 2)) (hk : lo[(k : Nat)]? = some (some (.ref x))) (kk : go P y (pc + 2) lo (.ref x :: st) h Q) : go P y pc lo st h Q := by
  refine go_st ?_ kk
  rw [am_st_of d rfl]
  unfold am_ex; dsimp only; unfold am_la; rw [hk]; rfl
theorem g_aload_n {k : _} {x : Nat} (d : decode (am_cd (am_me P y)) pc = .ok (.aload_n k, 1)) (hk : lo[(k : Nat)]? = some (some (.ref x))) (kk : go P y (pc + 1) lo (.ref x :: st) h Q) : go P y pc lo st h Q := by
  refine go_st ?_ kk
  rw [am_st_of d rfl]
  unfold am_ex; dsimp only; unfold am_la; rw [hk]; rfl
theorem g_aloadq {k : _} {x : Option Nat} (d : decode (am_cd (am_me P y)) pc = .ok (.aload k, 2)) (hk : lo[(k : Nat)]? = some (some (va_rf x))) (kk : go P y (pc + 2) lo (va_rf x :: st) h Q) : go P y pc lo st h Q := by
  refine go_st ?_ kk
  rw [am_st_of d rfl]
  unfold am_ex; dsimp only; unfold am_la; rw [hk]; cases x <;> rfl
theorem g_aloadq_n {k : _} {x : Option Nat} (d : decode (am_cd (am_me P y)) pc = .ok (.aload_n k, 1)) (hk : lo[(k : Nat)]? = some (some (va_rf x))) (kk : go P y (pc + 1) lo (va_rf x :: st) h Q) : go P y pc lo st h Q := by
  refine go_st ?_ kk
  rw [am_st_of d rfl]
  unfold am_ex; dsimp only; unfold am_la; rw [hk]; cases x <;> rfl
theorem g_istore {k : _} {x : Int32} {lo1 : am_L} (d : decode (am_cd (am_me P y)) pc = .ok (.istore k, 2)) (hk : (decide ((k : Nat) < lo.length) && am_pv lo k) = true) (hl : lo.set k (some (.int x)) = lo1) (kk : go P y (pc + 2) lo1 st h Q) : go P y pc lo (.int x :: st) h Q := by
  refine go_st ?_ kk
  rw [am_st_of d rfl]
  subst hl; unfold am_ex; dsimp only; unfold am_si am_s1; dsimp only; rw [if_pos (by rw [hk]; rfl)]; rfl
theorem g_istore_n {k : _} {x : Int32} {lo1 : am_L} (d : decode (am_cd (am_me P y)) pc = .ok (.istore_n k, 1)) (hk : (decide ((k : Nat) < lo.length) && am_pv lo k) = true) (hl : lo.set k (some (.int x)) = lo1) (kk : go P y (pc + 1) lo1 st h Q) : go P y pc lo (.int x :: st) h Q := by
  refine go_st ?_ kk
  rw [am_st_of d rfl]
  subst hl; unfold am_ex; dsimp only; unfold am_si am_s1; dsimp only; rw [if_pos (by rw [hk]; rfl)]; rfl
theorem g_lstore {k : _} {x : Int64} {lo1 : am_L} (d : decode (am_cd (am_me P y)) pc = .ok (.lstore k, 2)) (hk : (decide ((k : Nat) + 1 < lo.length) && am_pv lo k) = true) (hl : (lo.set k (some (.long x))).set (k + 1) none = lo1) (kk : go P y (pc + 2) lo1 st h Q) : go P y pc lo (.long x :: st) h Q := by
  refine go_st ?_ kk
  rw [am_st_of d rfl]
  subst hl; unfold am_ex; dsimp only; unfold am_sj am_s2; dsimp only; rw [if_pos (by rw [hk]; rfl)]; rfl
theorem g_lstore_n {k : _} {x : Int64} {lo1 : am_L} (d : decode (am_cd (am_me P y)) pc = .ok (.lstore_n k, 1)) (hk : (decide ((k : Nat) + 1 < lo.length) && am_pv lo k) = true) (hl : (lo.set k (some (.long x))).set (k + 1) none = lo1) (kk : go P y (pc + 1) lo1 st h Q) : go P y pc lo (.long x :: st) h Q := by
  refine go_st ?_ kk
  rw [am_st_of d rfl]
  subst hl; unfold am_ex; dsimp only; unfold am_sj am_s2; dsimp only; rw [if_pos (by rw [hk]; rfl)]; rfl
theorem g_astore {k : _} {x : Nat} {lo1 : am_L} (d : decode (am_cd (am_me P y)) pc = .ok (.astore k, 2)) (hk : (decide ((k : Nat) < lo.length) && am_pv lo k) = true) (hl : lo.set k (some (.ref x)) = lo1) (kk : go P y (pc + 2) lo1 st h Q) : go P y pc lo (.ref x :: st) h Q := by
  refine go_st ?_ kk
  rw [am_st_of d rfl]
  subst hl; unfold am_ex; dsimp only; unfold am_sa am_s1; dsimp only; rw [if_pos (by rw [hk]; rfl)]; rfl
theorem g_astore_n {k : _} {x : Nat} {lo1 : am_L} (d : decode (am_cd (am_me P y)) pc = .ok (.astore_n k, 1)) (hk : (decide ((k : Nat) < lo.length) && am_pv lo k) = true) (hl : lo.set k (some (.ref x)) = lo1) (kk : go P y (pc + 1) lo1 st h Q) : go P y pc lo (.ref x :: st) h Q := by
  refine go_st ?_ kk
  rw [am_st_of d rfl]
  subst hl; unfold am_ex; dsimp only; unfold am_sa am_s1; dsimp only; rw [if_pos (by rw [hk]; rfl)]; rfl
theorem g_astoreq {k : _} {x : Option Nat} {lo1 : am_L} (d : decode (am_cd (am_me P y)) pc = .ok (.astore k, 2)) (hk : (decide ((k : Nat) < lo.length) && am_pv lo k) = true) (hl : lo.set k (some (va_rf x)) = lo1) (kk : go P y (pc + 2) lo1 st h Q) : go P y pc lo (va_rf x :: st) h Q := by
  refine go_st ?_ kk
  rw [am_st_of d rfl]
  subst hl; unfold am_ex; dsimp only; cases x <;> (unfold am_sa am_s1 va_rf; dsimp only; rw [if_pos (by rw [hk]; rfl)]; rfl)
theorem g_astoreq_n {k : _} {x : Option Nat} {lo1 : am_L} (d : decode (am_cd (am_me P y)) pc = .ok (.astore_n k, 1)) (hk : (decide ((k : Nat) < lo.length) && am_pv lo k) = true) (hl : lo.set k (some (va_rf x)) = lo1) (kk : go P y (pc + 1) lo1 st h Q) : go P y pc lo (va_rf x :: st) h Q := by
  refine go_st ?_ kk
  rw [am_st_of d rfl]
  subst hl; unfold am_ex; dsimp only; cases x <;> (unfold am_sa am_s1 va_rf; dsimp only; rw [if_pos (by rw [hk]; rfl)]; rfl)
theorem g_iinc {k : _} {n : _} {x : Int32} {lo1 : am_L} (d : decode (am_cd (am_me P y)) pc = .ok (.iinc k n, 3)) (hx : lo[(k : Nat)]? = some (some (.int x))) (hk : (decide ((k : Nat) < lo.length) && am_pv lo k) = true) (hl : lo.set k (some (.int (x + Int32.ofInt n))) = lo1) (kk : go P y (pc + 3) lo1 st h Q) : go P y pc lo st h Q := by
  refine go_st ?_ kk
  rw [am_st_of d rfl]
  subst hl; unfold am_ex; dsimp only; rw [hx]; dsimp only; unfold am_s1; rw [if_pos (by rw [hk]; rfl)]; rfl
theorem g_iadd {a b : Int32} (d : decode (am_cd (am_me P y)) pc = .ok (.iadd, 1))  (kk : go P y (pc + 1) lo (.int (a + b) :: st) h Q) : go P y pc lo (.int b :: .int a :: st) h Q := by
  refine go_st ?_ kk
  rw [am_st_of d rfl]
  rfl
theorem g_isub {a b : Int32} (d : decode (am_cd (am_me P y)) pc = .ok (.isub, 1))  (kk : go P y (pc + 1) lo (.int (a - b) :: st) h Q) : go P y pc lo (.int b :: .int a :: st) h Q := by
  refine go_st ?_ kk
  rw [am_st_of d rfl]
  rfl
theorem g_imul {a b : Int32} (d : decode (am_cd (am_me P y)) pc = .ok (.imul, 1))  (kk : go P y (pc + 1) lo (.int (a * b) :: st) h Q) : go P y pc lo (.int b :: .int a :: st) h Q := by
  refine go_st ?_ kk
  rw [am_st_of d rfl]
  rfl
theorem g_iand {a b : Int32} (d : decode (am_cd (am_me P y)) pc = .ok (.iand, 1))  (kk : go P y (pc + 1) lo (.int (a &&& b) :: st) h Q) : go P y pc lo (.int b :: .int a :: st) h Q := by
  refine go_st ?_ kk
  rw [am_st_of d rfl]
  rfl
theorem g_ior {a b : Int32} (d : decode (am_cd (am_me P y)) pc = .ok (.ior, 1))  (kk : go P y (pc + 1) lo (.int (a ||| b) :: st) h Q) : go P y pc lo (.int b :: .int a :: st) h Q := by
  refine go_st ?_ kk
  rw [am_st_of d rfl]
  rfl
theorem g_ixor {a b : Int32} (d : decode (am_cd (am_me P y)) pc = .ok (.ixor, 1))  (kk : go P y (pc + 1) lo (.int (a ^^^ b) :: st) h Q) : go P y pc lo (.int b :: .int a :: st) h Q := by
  refine go_st ?_ kk
  rw [am_st_of d rfl]
  rfl
theorem g_ishl {a b : Int32} (d : decode (am_cd (am_me P y)) pc = .ok (.ishl, 1))  (kk : go P y (pc + 1) lo (.int (a <<< (b &&& 31)) :: st) h Q) : go P y pc lo (.int b :: .int a :: st) h Q := by
  refine go_st ?_ kk
  rw [am_st_of d rfl]
  rfl
theorem g_iushr {a b : Int32} (d : decode (am_cd (am_me P y)) pc = .ok (.iushr, 1))  (kk : go P y (pc + 1) lo (.int ((a.toUInt32 >>> (b.toUInt32 &&& Int32.toUInt32 31)).toInt32) :: st) h Q) : go P y pc lo (.int b :: .int a :: st) h Q := by
  refine go_st ?_ kk
  rw [am_st_of d rfl]
  rfl
theorem g_idiv {a b : Int32} (d : decode (am_cd (am_me P y)) pc = .ok (.idiv, 1)) (hb : b ≠ 0) (kk : go P y (pc + 1) lo (.int (a / b) :: st) h Q) : go P y pc lo (.int b :: .int a :: st) h Q := by
  refine go_st ?_ kk
  rw [am_st_of d rfl]
  unfold am_ex; dsimp only; unfold am_i2; dsimp only; rw [if_neg hb]; rfl
theorem g_land {a b : Int64} (d : decode (am_cd (am_me P y)) pc = .ok (.land, 1))  (kk : go P y (pc + 1) lo (.long (a &&& b) :: st) h Q) : go P y pc lo (.long b :: .long a :: st) h Q := by
  refine go_st ?_ kk
  rw [am_st_of d rfl]
  rfl
theorem g_lor {a b : Int64} (d : decode (am_cd (am_me P y)) pc = .ok (.lor, 1))  (kk : go P y (pc + 1) lo (.long (a ||| b) :: st) h Q) : go P y pc lo (.long b :: .long a :: st) h Q := by
  refine go_st ?_ kk
  rw [am_st_of d rfl]
  rfl
theorem g_lshl {a : Int64} {b : Int32} (d : decode (am_cd (am_me P y)) pc = .ok (.lshl, 1))  (kk : go P y (pc + 1) lo (.long (a <<< (b.toInt64 &&& 63)) :: st) h Q) : go P y pc lo (.int b :: .long a :: st) h Q := by
  refine go_st ?_ kk
  rw [am_st_of d rfl]
  rfl
theorem g_lcmp {a b : Int64} (d : decode (am_cd (am_me P y)) pc = .ok (.lcmp, 1))  (kk : go P y (pc + 1) lo (.int (lg_cmp a b) :: st) h Q) : go P y pc lo (.long b :: .long a :: st) h Q := by
  refine go_st ?_ kk
  rw [am_st_of d rfl]
  rfl
theorem g_i2l {a : Int32} (d : decode (am_cd (am_me P y)) pc = .ok (.i2l, 1))  (kk : go P y (pc + 1) lo (.long a.toInt64 :: st) h Q) : go P y pc lo (.int a :: st) h Q := by
  refine go_st ?_ kk
  rw [am_st_of d rfl]
  rfl
theorem g_dup {v : Value} (d : decode (am_cd (am_me P y)) pc = .ok (.dup, 1)) (hv : v.category = 1) (kk : go P y (pc + 1) lo (v :: v :: st) h Q) : go P y pc lo (v :: st) h Q := by
  refine go_st ?_ kk
  rw [am_st_of d rfl]
  unfold am_ex; dsimp only; rw [if_pos hv]; rfl
theorem g_pop {v : Value} (d : decode (am_cd (am_me P y)) pc = .ok (.pop, 1)) (hv : v.category = 1) (kk : go P y (pc + 1) lo st h Q) : go P y pc lo (v :: st) h Q := by
  refine go_st ?_ kk
  rw [am_st_of d rfl]
  unfold am_ex; dsimp only; rw [if_pos hv]; rfl
theorem g_dup_x1 {v u : Value} (d : decode (am_cd (am_me P y)) pc = .ok (.dup_x1, 1)) (hv : v.category = 1 ∧ u.category = 1) (kk : go P y (pc + 1) lo (v :: u :: v :: st) h Q) : go P y pc lo (v :: u :: st) h Q := by
  refine go_st ?_ kk
  rw [am_st_of d rfl]
  unfold am_ex; dsimp only; rw [if_pos hv]; rfl
theorem g_dup2 {v u : Value} (d : decode (am_cd (am_me P y)) pc = .ok (.dup2, 1)) (hv : v.category = 1 ∧ u.category = 1) (kk : go P y (pc + 1) lo (v :: u :: v :: u :: st) h Q) : go P y pc lo (v :: u :: st) h Q := by
  refine go_st ?_ kk
  rw [am_st_of d rfl]
  unfold am_ex; dsimp only; rw [if_pos hv]; rfl
theorem am_to_eq {pc t : Nat} {off : Int} {k : Nat → Option am_O} (ht : (pc : Int) + off = (t : Int)) : am_to pc off k = k t := by
  unfold am_to
  rw [ht, if_pos (Int.natCast_nonneg t), Int.toNat_natCast]
theorem cc_eq_t {x z : Int32} (hc : x = z) : am_cc .eq x z = true := by simp [am_cc, hc]
theorem cc_eq_f {x z : Int32} (hc : x ≠ z) : am_cc .eq x z = false := by simp [am_cc, hc]
theorem g_ifeq_t {off : _} {t : Nat} {x : Int32}  (d : decode (am_cd (am_me P y)) pc = .ok (.ifCond .eq off, 3)) (ht : (pc : Int) + off = (t : Int)) (hc : x = (0 : Int32)) (kk : go P y t lo st h Q) : go P y pc lo (.int x :: st) h Q := by
  refine go_st ?_ kk
  rw [am_st_of d rfl]
  unfold am_ex; dsimp only; unfold am_i1; dsimp only; rw [am_to_eq ht]; rw [if_pos (cc_eq_t (by simpa using hc))]; rfl
theorem g_ifeq_f {off : _} {t : Nat} {x : Int32}  (d : decode (am_cd (am_me P y)) pc = .ok (.ifCond .eq off, 3)) (ht : (pc : Int) + off = (t : Int)) (hc : x ≠ (0 : Int32)) (kk : go P y (pc + 3) lo st h Q) : go P y pc lo (.int x :: st) h Q := by
  refine go_st ?_ kk
  rw [am_st_of d rfl]
  unfold am_ex; dsimp only; unfold am_i1; dsimp only; rw [am_to_eq ht]; rw [if_neg (by rw [cc_eq_f (by simpa using hc)]; simp)]; rfl
theorem g_ifeq {off : _} {t : Nat} {x : Int32}  (d : decode (am_cd (am_me P y)) pc = .ok (.ifCond .eq off, 3)) (ht : (pc : Int) + off = (t : Int)) (k1 : x = (0 : Int32) → go P y t lo st h Q) (k2 : x ≠ (0 : Int32) → go P y (pc + 3) lo st h Q) : go P y pc lo (.int x :: st) h Q := by
  by_cases hc : x = (0 : Int32)
  · exact g_ifeq_t d ht hc (k1 hc)
  · exact g_ifeq_f d ht (by simpa using hc) (k2 (by simpa using hc))
theorem g_iceq_t {off : _} {t : Nat} {x : Int32} {z : Int32} (d : decode (am_cd (am_me P y)) pc = .ok (.if_icmp .eq off, 3)) (ht : (pc : Int) + off = (t : Int)) (hc : x = z) (kk : go P y t lo st h Q) : go P y pc lo (.int z :: .int x :: st) h Q := by
  refine go_st ?_ kk
  rw [am_st_of d rfl]
  unfold am_ex; dsimp only; unfold am_i2; dsimp only; rw [am_to_eq ht]; rw [if_pos (cc_eq_t (by simpa using hc))]; rfl
theorem g_iceq_f {off : _} {t : Nat} {x : Int32} {z : Int32} (d : decode (am_cd (am_me P y)) pc = .ok (.if_icmp .eq off, 3)) (ht : (pc : Int) + off = (t : Int)) (hc : x ≠ z) (kk : go P y (pc + 3) lo st h Q) : go P y pc lo (.int z :: .int x :: st) h Q := by
  refine go_st ?_ kk
  rw [am_st_of d rfl]
  unfold am_ex; dsimp only; unfold am_i2; dsimp only; rw [am_to_eq ht]; rw [if_neg (by rw [cc_eq_f (by simpa using hc)]; simp)]; rfl
theorem g_iceq {off : _} {t : Nat} {x : Int32} {z : Int32} (d : decode (am_cd (am_me P y)) pc = .ok (.if_icmp .eq off, 3)) (ht : (pc : Int) + off = (t : Int)) (k1 : x = z → go P y t lo st h Q) (k2 : x ≠ z → go P y (pc + 3) lo st h Q) : go P y pc lo (.int z :: .int x :: st) h Q := by
  by_cases hc : x = z
  · exact g_iceq_t d ht hc (k1 hc)
  · exact g_iceq_f d ht (by simpa using hc) (k2 (by simpa using hc))
theorem cc_ne_t {x z : Int32} (hc : x ≠ z) : am_cc .ne x z = true := by simp [am_cc, hc]
theorem cc_ne_f {x z : Int32} (hc : x = z) : am_cc .ne x z = false := by simp [am_cc, hc]
theorem g_ifne_t {off : _} {t : Nat} {x : Int32}  (d : decode (am_cd (am_me P y)) pc = .ok (.ifCond .ne off, 3)) (ht : (pc : Int) + off = (t : Int)) (hc : x ≠ (0 : Int32)) (kk : go P y t lo st h Q) : go P y pc lo (.int x :: st) h Q := by
  refine go_st ?_ kk
  rw [am_st_of d rfl]
  unfold am_ex; dsimp only; unfold am_i1; dsimp only; rw [am_to_eq ht]; rw [if_pos (cc_ne_t (by simpa using hc))]; rfl
theorem g_ifne_f {off : _} {t : Nat} {x : Int32}  (d : decode (am_cd (am_me P y)) pc = .ok (.ifCond .ne off, 3)) (ht : (pc : Int) + off = (t : Int)) (hc : x = (0 : Int32)) (kk : go P y (pc + 3) lo st h Q) : go P y pc lo (.int x :: st) h Q := by
  refine go_st ?_ kk
  rw [am_st_of d rfl]
  unfold am_ex; dsimp only; unfold am_i1; dsimp only; rw [am_to_eq ht]; rw [if_neg (by rw [cc_ne_f (by simpa using hc)]; simp)]; rfl
theorem g_ifne {off : _} {t : Nat} {x : Int32}  (d : decode (am_cd (am_me P y)) pc = .ok (.ifCond .ne off, 3)) (ht : (pc : Int) + off = (t : Int)) (k1 : x ≠ (0 : Int32) → go P y t lo st h Q) (k2 : x = (0 : Int32) → go P y (pc + 3) lo st h Q) : go P y pc lo (.int x :: st) h Q := by
  by_cases hc : x ≠ (0 : Int32)
  · exact g_ifne_t d ht hc (k1 hc)
  · exact g_ifne_f d ht (by simpa using hc) (k2 (by simpa using hc))
theorem g_icne_t {off : _} {t : Nat} {x : Int32} {z : Int32} (d : decode (am_cd (am_me P y)) pc = .ok (.if_icmp .ne off, 3)) (ht : (pc : Int) + off = (t : Int)) (hc : x ≠ z) (kk : go P y t lo st h Q) : go P y pc lo (.int z :: .int x :: st) h Q := by
  refine go_st ?_ kk
  rw [am_st_of d rfl]
  unfold am_ex; dsimp only; unfold am_i2; dsimp only; rw [am_to_eq ht]; rw [if_pos (cc_ne_t (by simpa using hc))]; rfl
theorem g_icne_f {off : _} {t : Nat} {x : Int32} {z : Int32} (d : decode (am_cd (am_me P y)) pc = .ok (.if_icmp .ne off, 3)) (ht : (pc : Int) + off = (t : Int)) (hc : x = z) (kk : go P y (pc + 3) lo st h Q) : go P y pc lo (.int z :: .int x :: st) h Q := by
  refine go_st ?_ kk
  rw [am_st_of d rfl]
  unfold am_ex; dsimp only; unfold am_i2; dsimp only; rw [am_to_eq ht]; rw [if_neg (by rw [cc_ne_f (by simpa using hc)]; simp)]; rfl
theorem g_icne {off : _} {t : Nat} {x : Int32} {z : Int32} (d : decode (am_cd (am_me P y)) pc = .ok (.if_icmp .ne off, 3)) (ht : (pc : Int) + off = (t : Int)) (k1 : x ≠ z → go P y t lo st h Q) (k2 : x = z → go P y (pc + 3) lo st h Q) : go P y pc lo (.int z :: .int x :: st) h Q := by
  by_cases hc : x ≠ z
  · exact g_icne_t d ht hc (k1 hc)
  · exact g_icne_f d ht (by simpa using hc) (k2 (by simpa using hc))
theorem cc_lt_t {x z : Int32} (hc : x.toInt < z.toInt) : am_cc .lt x z = true := by simp [am_cc, Int32.lt_iff_toInt_lt, hc]
theorem cc_lt_f {x z : Int32} (hc : z.toInt ≤ x.toInt) : am_cc .lt x z = false := by simp [am_cc, Int32.lt_iff_toInt_lt, hc]
theorem g_iflt_t {off : _} {t : Nat} {x : Int32}  (d : decode (am_cd (am_me P y)) pc = .ok (.ifCond .lt off, 3)) (ht : (pc : Int) + off = (t : Int)) (hc : x.toInt < 0) (kk : go P y t lo st h Q) : go P y pc lo (.int x :: st) h Q := by
  refine go_st ?_ kk
  rw [am_st_of d rfl]
  unfold am_ex; dsimp only; unfold am_i1; dsimp only; rw [am_to_eq ht]; rw [if_pos (cc_lt_t (by simpa using hc))]; rfl
theorem g_iflt_f {off : _} {t : Nat} {x : Int32}  (d : decode (am_cd (am_me P y)) pc = .ok (.ifCond .lt off, 3)) (ht : (pc : Int) + off = (t : Int)) (hc : 0 ≤ x.toInt) (kk : go P y (pc + 3) lo st h Q) : go P y pc lo (.int x :: st) h Q := by
  refine go_st ?_ kk
  rw [am_st_of d rfl]
  unfold am_ex; dsimp only; unfold am_i1; dsimp only; rw [am_to_eq ht]; rw [if_neg (by rw [cc_lt_f (by simpa using hc)]; simp)]; rfl
theorem g_iflt {off : _} {t : Nat} {x : Int32}  (d : decode (am_cd (am_me P y)) pc = .ok (.ifCond .lt off, 3)) (ht : (pc : Int) + off = (t : Int)) (k1 : x.toInt < 0 → go P y t lo st h Q) (k2 : 0 ≤ x.toInt → go P y (pc + 3) lo st h Q) : go P y pc lo (.int x :: st) h Q := by
  by_cases hc : x.toInt < 0
  · exact g_iflt_t d ht hc (k1 hc)
  · exact g_iflt_f d ht (by omega) (k2 (by omega))
theorem g_iclt_t {off : _} {t : Nat} {x : Int32} {z : Int32} (d : decode (am_cd (am_me P y)) pc = .ok (.if_icmp .lt off, 3)) (ht : (pc : Int) + off = (t : Int)) (hc : x.toInt < z.toInt) (kk : go P y t lo st h Q) : go P y pc lo (.int z :: .int x :: st) h Q := by
  refine go_st ?_ kk
  rw [am_st_of d rfl]
  unfold am_ex; dsimp only; unfold am_i2; dsimp only; rw [am_to_eq ht]; rw [if_pos (cc_lt_t (by simpa using hc))]; rfl
theorem g_iclt_f {off : _} {t : Nat} {x : Int32} {z : Int32} (d : decode (am_cd (am_me P y)) pc = .ok (.if_icmp .lt off, 3)) (ht : (pc : Int) + off = (t : Int)) (hc : z.toInt ≤ x.toInt) (kk : go P y (pc + 3) lo st h Q) : go P y pc lo (.int z :: .int x :: st) h Q := by
  refine go_st ?_ kk
  rw [am_st_of d rfl]
  unfold am_ex; dsimp only; unfold am_i2; dsimp only; rw [am_to_eq ht]; rw [if_neg (by rw [cc_lt_f (by simpa using hc)]; simp)]; rfl
theorem g_iclt {off : _} {t : Nat} {x : Int32} {z : Int32} (d : decode (am_cd (am_me P y)) pc = .ok (.if_icmp .lt off, 3)) (ht : (pc : Int) + off = (t : Int)) (k1 : x.toInt < z.toInt → go P y t lo st h Q) (k2 : z.toInt ≤ x.toInt → go P y (pc + 3) lo st h Q) : go P y pc lo (.int z :: .int x :: st) h Q := by
  by_cases hc : x.toInt < z.toInt
  · exact g_iclt_t d ht hc (k1 hc)
  · exact g_iclt_f d ht (by omega) (k2 (by omega))
theorem cc_ge_t {x z : Int32} (hc : z.toInt ≤ x.toInt) : am_cc .ge x z = true := by simp [am_cc, Int32.le_iff_toInt_le, hc]
theorem cc_ge_f {x z : Int32} (hc : x.toInt < z.toInt) : am_cc .ge x z = false := by simp [am_cc, Int32.le_iff_toInt_le, hc]
theorem g_ifge_t {off : _} {t : Nat} {x : Int32}  (d : decode (am_cd (am_me P y)) pc = .ok (.ifCond .ge off, 3)) (ht : (pc : Int) + off = (t : Int)) (hc : 0 ≤ x.toInt) (kk : go P y t lo st h Q) : go P y pc lo (.int x :: st) h Q := by
  refine go_st ?_ kk
  rw [am_st_of d rfl]
  unfold am_ex; dsimp only; unfold am_i1; dsimp only; rw [am_to_eq ht]; rw [if_pos (cc_ge_t (by simpa using hc))]; rfl
theorem g_ifge_f {off : _} {t : Nat} {x : Int32}  (d : decode (am_cd (am_me P y)) pc = .ok (.ifCond .ge off, 3)) (ht : (pc : Int) + off = (t : Int)) (hc : x.toInt < 0) (kk : go P y (pc + 3) lo st h Q) : go P y pc lo (.int x :: st) h Q := by
  refine go_st ?_ kk
  rw [am_st_of d rfl]
  unfold am_ex; dsimp only; unfold am_i1; dsimp only; rw [am_to_eq ht]; rw [if_neg (by rw [cc_ge_f (by simpa using hc)]; simp)]; rfl
theorem g_ifge {off : _} {t : Nat} {x : Int32}  (d : decode (am_cd (am_me P y)) pc = .ok (.ifCond .ge off, 3)) (ht : (pc : Int) + off = (t : Int)) (k1 : 0 ≤ x.toInt → go P y t lo st h Q) (k2 : x.toInt < 0 → go P y (pc + 3) lo st h Q) : go P y pc lo (.int x :: st) h Q := by
  by_cases hc : 0 ≤ x.toInt
  · exact g_ifge_t d ht hc (k1 hc)
  · exact g_ifge_f d ht (by omega) (k2 (by omega))
theorem g_icge_t {off : _} {t : Nat} {x : Int32} {z : Int32} (d : decode (am_cd (am_me P y)) pc = .ok (.if_icmp .ge off, 3)) (ht : (pc : Int) + off = (t : Int)) (hc : z.toInt ≤ x.toInt) (kk : go P y t lo st h Q) : go P y pc lo (.int z :: .int x :: st) h Q := by
  refine go_st ?_ kk
  rw [am_st_of d rfl]
  unfold am_ex; dsimp only; unfold am_i2; dsimp only; rw [am_to_eq ht]; rw [if_pos (cc_ge_t (by simpa using hc))]; rfl
theorem g_icge_f {off : _} {t : Nat} {x : Int32} {z : Int32} (d : decode (am_cd (am_me P y)) pc = .ok (.if_icmp .ge off, 3)) (ht : (pc : Int) + off = (t : Int)) (hc : x.toInt < z.toInt) (kk : go P y (pc + 3) lo st h Q) : go P y pc lo (.int z :: .int x :: st) h Q := by
  refine go_st ?_ kk
  rw [am_st_of d rfl]
  unfold am_ex; dsimp only; unfold am_i2; dsimp only; rw [am_to_eq ht]; rw [if_neg (by rw [cc_ge_f (by simpa using hc)]; simp)]; rfl
theorem g_icge {off : _} {t : Nat} {x : Int32} {z : Int32} (d : decode (am_cd (am_me P y)) pc = .ok (.if_icmp .ge off, 3)) (ht : (pc : Int) + off = (t : Int)) (k1 : z.toInt ≤ x.toInt → go P y t lo st h Q) (k2 : x.toInt < z.toInt → go P y (pc + 3) lo st h Q) : go P y pc lo (.int z :: .int x :: st) h Q := by
  by_cases hc : z.toInt ≤ x.toInt
  · exact g_icge_t d ht hc (k1 hc)
  · exact g_icge_f d ht (by omega) (k2 (by omega))
theorem cc_gt_t {x z : Int32} (hc : z.toInt < x.toInt) : am_cc .gt x z = true := by simp [am_cc, Int32.lt_iff_toInt_lt, hc]
theorem cc_gt_f {x z : Int32} (hc : x.toInt ≤ z.toInt) : am_cc .gt x z = false := by simp [am_cc, Int32.lt_iff_toInt_lt, hc]
theorem g_ifgt_t {off : _} {t : Nat} {x : Int32}  (d : decode (am_cd (am_me P y)) pc = .ok (.ifCond .gt off, 3)) (ht : (pc : Int) + off = (t : Int)) (hc : 0 < x.toInt) (kk : go P y t lo st h Q) : go P y pc lo (.int x :: st) h Q := by
  refine go_st ?_ kk
  rw [am_st_of d rfl]
  unfold am_ex; dsimp only; unfold am_i1; dsimp only; rw [am_to_eq ht]; rw [if_pos (cc_gt_t (by simpa using hc))]; rfl
theorem g_ifgt_f {off : _} {t : Nat} {x : Int32}  (d : decode (am_cd (am_me P y)) pc = .ok (.ifCond .gt off, 3)) (ht : (pc : Int) + off = (t : Int)) (hc : x.toInt ≤ 0) (kk : go P y (pc + 3) lo st h Q) : go P y pc lo (.int x :: st) h Q := by
  refine go_st ?_ kk
  rw [am_st_of d rfl]
  unfold am_ex; dsimp only; unfold am_i1; dsimp only; rw [am_to_eq ht]; rw [if_neg (by rw [cc_gt_f (by simpa using hc)]; simp)]; rfl
theorem g_ifgt {off : _} {t : Nat} {x : Int32}  (d : decode (am_cd (am_me P y)) pc = .ok (.ifCond .gt off, 3)) (ht : (pc : Int) + off = (t : Int)) (k1 : 0 < x.toInt → go P y t lo st h Q) (k2 : x.toInt ≤ 0 → go P y (pc + 3) lo st h Q) : go P y pc lo (.int x :: st) h Q := by
  by_cases hc : 0 < x.toInt
  · exact g_ifgt_t d ht hc (k1 hc)
  · exact g_ifgt_f d ht (by omega) (k2 (by omega))
theorem g_icgt_t {off : _} {t : Nat} {x : Int32} {z : Int32} (d : decode (am_cd (am_me P y)) pc = .ok (.if_icmp .gt off, 3)) (ht : (pc : Int) + off = (t : Int)) (hc : z.toInt < x.toInt) (kk : go P y t lo st h Q) : go P y pc lo (.int z :: .int x :: st) h Q := by
  refine go_st ?_ kk
  rw [am_st_of d rfl]
  unfold am_ex; dsimp only; unfold am_i2; dsimp only; rw [am_to_eq ht]; rw [if_pos (cc_gt_t (by simpa using hc))]; rfl
theorem g_icgt_f {off : _} {t : Nat} {x : Int32} {z : Int32} (d : decode (am_cd (am_me P y)) pc = .ok (.if_icmp .gt off, 3)) (ht : (pc : Int) + off = (t : Int)) (hc : x.toInt ≤ z.toInt) (kk : go P y (pc + 3) lo st h Q) : go P y pc lo (.int z :: .int x :: st) h Q := by
  refine go_st ?_ kk
  rw [am_st_of d rfl]
  unfold am_ex; dsimp only; unfold am_i2; dsimp only; rw [am_to_eq ht]; rw [if_neg (by rw [cc_gt_f (by simpa using hc)]; simp)]; rfl
theorem g_icgt {off : _} {t : Nat} {x : Int32} {z : Int32} (d : decode (am_cd (am_me P y)) pc = .ok (.if_icmp .gt off, 3)) (ht : (pc : Int) + off = (t : Int)) (k1 : z.toInt < x.toInt → go P y t lo st h Q) (k2 : x.toInt ≤ z.toInt → go P y (pc + 3) lo st h Q) : go P y pc lo (.int z :: .int x :: st) h Q := by
  by_cases hc : z.toInt < x.toInt
  · exact g_icgt_t d ht hc (k1 hc)
  · exact g_icgt_f d ht (by omega) (k2 (by omega))
theorem cc_le_t {x z : Int32} (hc : x.toInt ≤ z.toInt) : am_cc .le x z = true := by simp [am_cc, Int32.le_iff_toInt_le, hc]
theorem cc_le_f {x z : Int32} (hc : z.toInt < x.toInt) : am_cc .le x z = false := by simp [am_cc, Int32.le_iff_toInt_le, hc]
theorem g_ifle_t {off : _} {t : Nat} {x : Int32}  (d : decode (am_cd (am_me P y)) pc = .ok (.ifCond .le off, 3)) (ht : (pc : Int) + off = (t : Int)) (hc : x.toInt ≤ 0) (kk : go P y t lo st h Q) : go P y pc lo (.int x :: st) h Q := by
  refine go_st ?_ kk
  rw [am_st_of d rfl]
  unfold am_ex; dsimp only; unfold am_i1; dsimp only; rw [am_to_eq ht]; rw [if_pos (cc_le_t (by simpa using hc))]; rfl
theorem g_ifle_f {off : _} {t : Nat} {x : Int32}  (d : decode (am_cd (am_me P y)) pc = .ok (.ifCond .le off, 3)) (ht : (pc : Int) + off = (t : Int)) (hc : 0 < x.toInt) (kk : go P y (pc + 3) lo st h Q) : go P y pc lo (.int x :: st) h Q := by
  refine go_st ?_ kk
  rw [am_st_of d rfl]
  unfold am_ex; dsimp only; unfold am_i1; dsimp only; rw [am_to_eq ht]; rw [if_neg (by rw [cc_le_f (by simpa using hc)]; simp)]; rfl
theorem g_ifle {off : _} {t : Nat} {x : Int32}  (d : decode (am_cd (am_me P y)) pc = .ok (.ifCond .le off, 3)) (ht : (pc : Int) + off = (t : Int)) (k1 : x.toInt ≤ 0 → go P y t lo st h Q) (k2 : 0 < x.toInt → go P y (pc + 3) lo st h Q) : go P y pc lo (.int x :: st) h Q := by
  by_cases hc : x.toInt ≤ 0
  · exact g_ifle_t d ht hc (k1 hc)
  · exact g_ifle_f d ht (by omega) (k2 (by omega))
theorem g_icle_t {off : _} {t : Nat} {x : Int32} {z : Int32} (d : decode (am_cd (am_me P y)) pc = .ok (.if_icmp .le off, 3)) (ht : (pc : Int) + off = (t : Int)) (hc : x.toInt ≤ z.toInt) (kk : go P y t lo st h Q) : go P y pc lo (.int z :: .int x :: st) h Q := by
  refine go_st ?_ kk
  rw [am_st_of d rfl]
  unfold am_ex; dsimp only; unfold am_i2; dsimp only; rw [am_to_eq ht]; rw [if_pos (cc_le_t (by simpa using hc))]; rfl
theorem g_icle_f {off : _} {t : Nat} {x : Int32} {z : Int32} (d : decode (am_cd (am_me P y)) pc = .ok (.if_icmp .le off, 3)) (ht : (pc : Int) + off = (t : Int)) (hc : z.toInt < x.toInt) (kk : go P y (pc + 3) lo st h Q) : go P y pc lo (.int z :: .int x :: st) h Q := by
  refine go_st ?_ kk
  rw [am_st_of d rfl]
  unfold am_ex; dsimp only; unfold am_i2; dsimp only; rw [am_to_eq ht]; rw [if_neg (by rw [cc_le_f (by simpa using hc)]; simp)]; rfl
theorem g_icle {off : _} {t : Nat} {x : Int32} {z : Int32} (d : decode (am_cd (am_me P y)) pc = .ok (.if_icmp .le off, 3)) (ht : (pc : Int) + off = (t : Int)) (k1 : x.toInt ≤ z.toInt → go P y t lo st h Q) (k2 : z.toInt < x.toInt → go P y (pc + 3) lo st h Q) : go P y pc lo (.int z :: .int x :: st) h Q := by
  by_cases hc : x.toInt ≤ z.toInt
  · exact g_icle_t d ht hc (k1 hc)
  · exact g_icle_f d ht (by omega) (k2 (by omega))
theorem g_ifnull_t {off : _} {t : Nat} (d : decode (am_cd (am_me P y)) pc = .ok (.ifnull off, 3)) (ht : (pc : Int) + off = (t : Int)) (kk : go P y t lo st h Q) : go P y pc lo (.null :: st) h Q := by
  refine go_st ?_ kk
  rw [am_st_of d rfl]
  unfold am_ex; dsimp only; rw [am_to_eq ht]; rfl
theorem g_ifnull_f {off : _} {a : Nat} (d : decode (am_cd (am_me P y)) pc = .ok (.ifnull off, 3)) (kk : go P y (pc + 3) lo st h Q) : go P y pc lo (.ref a :: st) h Q := by
  refine go_st ?_ kk
  rw [am_st_of d rfl]
  rfl
theorem g_ifnull {off : _} {t : Nat} {x : Option Nat} (d : decode (am_cd (am_me P y)) pc = .ok (.ifnull off, 3)) (ht : (pc : Int) + off = (t : Int)) (k1 : x = none → go P y t lo st h Q) (k2 : ∀ a, x = some a → go P y (pc + 3) lo st h Q) : go P y pc lo (va_rf x :: st) h Q := by
  cases x with
  | none => exact g_ifnull_t d ht (k1 rfl)
  | some a => exact g_ifnull_f d (k2 a rfl)
theorem g_ifnonnull_t {off : _} {t a : Nat} (d : decode (am_cd (am_me P y)) pc = .ok (.ifnonnull off, 3)) (ht : (pc : Int) + off = (t : Int)) (kk : go P y t lo st h Q) : go P y pc lo (.ref a :: st) h Q := by
  refine go_st ?_ kk
  rw [am_st_of d rfl]
  unfold am_ex; dsimp only; rw [am_to_eq ht]; rfl
theorem g_ifnonnull_f {off : _} (d : decode (am_cd (am_me P y)) pc = .ok (.ifnonnull off, 3)) (kk : go P y (pc + 3) lo st h Q) : go P y pc lo (.null :: st) h Q := by
  refine go_st ?_ kk
  rw [am_st_of d rfl]
  rfl
theorem g_ifnonnull {off : _} {t : Nat} {x : Option Nat} (d : decode (am_cd (am_me P y)) pc = .ok (.ifnonnull off, 3)) (ht : (pc : Int) + off = (t : Int)) (k1 : ∀ a, x = some a → go P y t lo st h Q) (k2 : x = none → go P y (pc + 3) lo st h Q) : go P y pc lo (va_rf x :: st) h Q := by
  cases x with
  | none => exact g_ifnonnull_f d (k2 rfl)
  | some a => exact g_ifnonnull_t d ht (k1 a rfl)
theorem g_goto {off : _} {t : Nat} (d : decode (am_cd (am_me P y)) pc = .ok (.goto off, 3)) (ht : (pc : Int) + off = (t : Int)) (kk : go P y t lo st h Q) : go P y pc lo st h Q := by
  refine go_st ?_ kk
  rw [am_st_of d rfl]
  unfold am_ex; dsimp only; rw [am_to_eq ht]; rfl
theorem g_switch {df a b : _} {len : Nat} {offs : _} {off : Int} {t : Nat} {x : Int32} (d : decode (am_cd (am_me P y)) pc = .ok (.tableswitch df a b offs, len)) (hx : a ≤ x.toInt ∧ x.toInt ≤ b) (ho : offs[(x.toInt - a).toNat]? = some off) (ht : (pc : Int) + off = (t : Int)) (kk : go P y t lo st h Q) : go P y pc lo (.int x :: st) h Q := by
  refine go_st ?_ kk
  rw [am_st_of d rfl]
  unfold am_ex; dsimp only; unfold am_i1; dsimp only; rw [if_neg (by omega), ho]; dsimp only; rw [am_to_eq ht]; rfl
theorem g_switch_d {df a b : _} {len : Nat} {offs : _} {t : Nat} {x : Int32} (d : decode (am_cd (am_me P y)) pc = .ok (.tableswitch df a b offs, len)) (hx : x.toInt < a ∨ b < x.toInt) (ht : (pc : Int) + df = (t : Int)) (kk : go P y t lo st h Q) : go P y pc lo (.int x :: st) h Q := by
  refine go_st ?_ kk
  rw [am_st_of d rfl]
  unfold am_ex; dsimp only; unfold am_i1; dsimp only; rw [if_pos hx, am_to_eq ht]; rfl

theorem g_ireturn {x : Int32} (d : decode (am_cd (am_me P y)) pc = .ok (.ireturn, 1)) (hr : am_rt (am_me P y) = some .int) (q : Q (.inl (some (.int x))) h) : go P y pc lo [.int x] h Q := by
  refine go_ret ?_ q
  rw [am_st_of d rfl]
  unfold am_ex; dsimp only; rw [if_pos (Or.inl hr)]
theorem g_breturn {x : Int32} (d : decode (am_cd (am_me P y)) pc = .ok (.ireturn, 1)) (hr : am_rt (am_me P y) = some .boolean) (hx : x = 0 ∨ x = 1) (q : Q (.inl (some (.int x))) h) : go P y pc lo [.int x] h Q := by
  refine go_ret ?_ q
  rw [am_st_of d rfl]
  unfold am_ex; dsimp only; rw [if_pos (Or.inr ⟨hr, hx⟩)]
theorem g_areturn {x : Nat} (d : decode (am_cd (am_me P y)) pc = .ok (.areturn, 1)) (hr : am_ro (am_rt (am_me P y)) = true) (q : Q (.inl (some (.ref x))) h) : go P y pc lo [.ref x] h Q := by
  refine go_ret ?_ q
  rw [am_st_of d rfl]
  unfold am_ex; dsimp only; rw [if_pos hr]
theorem g_areturnq {x : Option Nat} (d : decode (am_cd (am_me P y)) pc = .ok (.areturn, 1)) (hr : am_ro (am_rt (am_me P y)) = true) (q : Q (.inl (some (va_rf x))) h) : go P y pc lo [va_rf x] h Q := by
  refine go_ret ?_ q
  rw [am_st_of d rfl]
  unfold am_ex; dsimp only; rw [if_pos hr]
  cases x <;> rfl
theorem g_return (d : decode (am_cd (am_me P y)) pc = .ok (.return_, 1)) (hr : am_rt (am_me P y) = none) (q : Q (.inl none) h) : go P y pc lo [] h Q := by
  refine go_ret ?_ q
  rw [am_st_of d rfl]
  unfold am_ex; dsimp only; rw [if_pos hr]

theorem am_gI_eq {a n : Nat} {f : Nat → Int32} {k : Nat → (Nat → Int32) → Option am_O} (ha : h[a]? = some (am_I n f)) : am_gI h a k = k n f := by unfold am_gI; rw [ha]; rfl
theorem am_gZ_eq {a n : Nat} {f : Nat → Int32} {k : Nat → (Nat → Int32) → Option am_O} (ha : h[a]? = some (am_Z n f)) : am_gZ h a k = k n f := by unfold am_gZ; rw [ha]; rfl
theorem am_gJ_eq {a n : Nat} {f : Nat → Int64} {k : Nat → (Nat → Int64) → Option am_O} (ha : h[a]? = some (am_J n f)) : am_gJ h a k = k n f := by unfold am_gJ; rw [ha]; rfl
theorem am_gR_eq {a n t : Nat} {f : Nat → Option Nat} {k : Nat → Nat → (Nat → Option Nat) → Option am_O} (ha : h[a]? = some (am_R t n f)) : am_gR h a k = k t n f := by unfold am_gR; rw [ha]
theorem am_gB_eq {a c : Nat} {fs : List Value} {k : Nat → List Value → Option am_O} (ha : h[a]? = some (.inr (c, fs))) : am_gB h a k = k c fs := by unfold am_gB; rw [ha]
theorem g_get {ix ci k a : Nat} {ty : FieldType} {wr : Bool} {fs : List Value} {v : Value} (d : decode (am_cd (am_me P y)) pc = .ok (.getfield ix, 3)) (hf : am_fd P y ix = some (ci, k, ty, wr)) (ha : h[a]? = some (.inr (ci, fs))) (hv : fs[k]? = some v) (kk : go P y (pc + 3) lo (v :: st) h Q) : go P y pc lo (.ref a :: st) h Q := by
  refine go_st ?_ kk
  rw [am_st_of d rfl]
  unfold am_ex; dsimp only; rw [hf]; dsimp only; unfold am_r1; dsimp only; rw [am_gB_eq ha]; (try dsimp only); rw [if_pos rfl, hv]; rfl
theorem g_put {ix ci k a : Nat} {ty : FieldType} {fs : List Value} {v : Value} {h1 : am_H} (d : decode (am_cd (am_me P y)) pc = .ok (.putfield ix, 3)) (hf : am_fd P y ix = some (ci, k, ty, true)) (ha : h[a]? = some (.inr (ci, fs))) (hk : k < fs.length) (hv : am_ft ty v = true) (hh : h.set a (.inr (ci, fs.set k v)) = h1) (kk : go P y (pc + 3) lo st h1 Q) : go P y pc lo (v :: .ref a :: st) h Q := by
  subst hh
  refine go_st ?_ kk
  rw [am_st_of d rfl]
  unfold am_ex; dsimp only; rw [hf]; dsimp only; unfold am_vr; dsimp only; rw [am_gB_eq ha]; (try dsimp only); rw [if_pos ⟨rfl, hk, hv⟩]; rfl
theorem g_iaload {a n : Nat} {i : Int32} {f : Nat → Int32} (d : decode (am_cd (am_me P y)) pc = .ok (.iaload, 1)) (hs : a ≠ am_scr) (ha : h[a]? = some (am_I n f)) (hi : am_in i n = true) (kk : go P y (pc + 1) lo (.int (f i.toNatClampNeg) :: st) h Q) : go P y pc lo (.int i :: .ref a :: st) h Q := by
  refine go_st ?_ kk
  rw [am_st_of d rfl]
  unfold am_ex; dsimp only; unfold am_ir; dsimp only; rw [if_neg hs]; rw [am_gI_eq ha]; (try dsimp only); rw [if_pos hi]; rfl
theorem g_saload {i : Int32} (d : decode (am_cd (am_me P y)) pc = .ok (.iaload, 1)) (hi : am_in i (am_sL P) = true) (kk : go P y (pc + 1) lo (.int (am_sX P i.toNatClampNeg) :: st) h Q) : go P y pc lo (.int i :: .ref am_scr :: st) h Q := by
  refine go_st ?_ kk
  rw [am_st_of d rfl]
  unfold am_ex; dsimp only; unfold am_ir; dsimp only; rw [if_pos rfl, if_pos hi]; rfl
theorem g_baload {a n : Nat} {i : Int32} {f : Nat → Int32} (d : decode (am_cd (am_me P y)) pc = .ok (.baload, 1)) (ha : h[a]? = some (am_Z n f)) (hi : am_in i n = true) (kk : go P y (pc + 1) lo (.int (f i.toNatClampNeg) :: st) h Q) : go P y pc lo (.int i :: .ref a :: st) h Q := by
  refine go_st ?_ kk
  rw [am_st_of d rfl]
  unfold am_ex; dsimp only; unfold am_ir; dsimp only; rw [am_gZ_eq ha]; (try dsimp only); rw [if_pos hi]; rfl
theorem g_laload {a n : Nat} {i : Int32} {f : Nat → Int64} (d : decode (am_cd (am_me P y)) pc = .ok (.laload, 1)) (ha : h[a]? = some (am_J n f)) (hi : am_in i n = true) (kk : go P y (pc + 1) lo (.long (f i.toNatClampNeg) :: st) h Q) : go P y pc lo (.int i :: .ref a :: st) h Q := by
  refine go_st ?_ kk
  rw [am_st_of d rfl]
  unfold am_ex; dsimp only; unfold am_ir; dsimp only; rw [am_gJ_eq ha]; (try dsimp only); rw [if_pos hi]; rfl
theorem g_aaload {a n t : Nat} {i : Int32} {f : Nat → Option Nat} (d : decode (am_cd (am_me P y)) pc = .ok (.aaload, 1)) (ha : h[a]? = some (am_R t n f)) (ht : 2 < t ∧ t < 5) (hi : am_in i n = true) (kk : go P y (pc + 1) lo (va_rf (f i.toNatClampNeg) :: st) h Q) : go P y pc lo (.int i :: .ref a :: st) h Q := by
  refine go_st ?_ kk
  rw [am_st_of d rfl]
  unfold am_ex; dsimp only; unfold am_ir; dsimp only; rw [am_gR_eq ha]; (try dsimp only); rw [if_pos ⟨hi, ht⟩]; rfl
theorem g_iastore {a n : Nat} {i x : Int32} {f : Nat → Int32} {h1 : am_H} (d : decode (am_cd (am_me P y)) pc = .ok (.iastore, 1)) (ha : h[a]? = some (am_I n f)) (hi : am_in i n = true) (hh : h.set a (am_I n (upd f i.toNatClampNeg x)) = h1) (kk : go P y (pc + 1) lo st h1 Q) : go P y pc lo (.int x :: .int i :: .ref a :: st) h Q := by
  subst hh
  refine go_st ?_ kk
  rw [am_st_of d rfl]
  unfold am_ex; dsimp only; unfold am_vir; dsimp only; rw [am_gI_eq ha]; (try dsimp only); rw [if_pos hi]; rfl
theorem g_bastore {a n : Nat} {i x : Int32} {f : Nat → Int32} {h1 : am_H} (d : decode (am_cd (am_me P y)) pc = .ok (.bastore, 1)) (ha : h[a]? = some (am_Z n f)) (hi : am_in i n = true) (hx : x = 0 ∨ x = 1) (hh : h.set a (am_Z n (upd f i.toNatClampNeg x)) = h1) (kk : go P y (pc + 1) lo st h1 Q) : go P y pc lo (.int x :: .int i :: .ref a :: st) h Q := by
  subst hh
  have e : vp_nar .boolean x = x := by rcases hx with rfl | rfl <;> rfl
  refine go_st ?_ kk
  rw [am_st_of d rfl]
  unfold am_ex; dsimp only; unfold am_vir; dsimp only; rw [am_gZ_eq ha]; (try dsimp only); rw [if_pos hi, e]; rfl
theorem g_lastore {a n : Nat} {i : Int32} {x : Int64} {f : Nat → Int64} {h1 : am_H} (d : decode (am_cd (am_me P y)) pc = .ok (.lastore, 1)) (ha : h[a]? = some (am_J n f)) (hi : am_in i n = true) (hh : h.set a (am_J n (vp_updL f i.toNatClampNeg x)) = h1) (kk : go P y (pc + 1) lo st h1 Q) : go P y pc lo (.long x :: .int i :: .ref a :: st) h Q := by
  subst hh
  refine go_st ?_ kk
  rw [am_st_of d rfl]
  unfold am_ex; dsimp only; unfold am_vir; dsimp only; rw [am_gJ_eq ha]; (try dsimp only); rw [if_pos hi]; rfl
theorem g_aastore {a n t x ci : Nat} {i : Int32} {f : Nat → Option Nat} {fs : List Value} {h1 : am_H} (d : decode (am_cd (am_me P y)) pc = .ok (.aastore, 1)) (ha : h[a]? = some (am_R t n f)) (hx : h[x]? = some (.inr (ci, fs))) (hi : am_in i n = true) (ht : (2 < t ∧ t < 5) ∧ am_cp P t = ci) (hh : h.set a (am_R t n (va_up f i.toNatClampNeg (some x))) = h1) (kk : go P y (pc + 1) lo st h1 Q) : go P y pc lo (.ref x :: .int i :: .ref a :: st) h Q := by
  subst hh
  refine go_st ?_ kk
  rw [am_st_of d rfl]
  unfold am_ex; dsimp only; unfold am_vir; dsimp only; rw [am_gR_eq ha]; (try dsimp only); rw [am_gB_eq hx]; (try dsimp only); rw [if_pos ⟨⟨hi, ht.1⟩, ht.2⟩]; rfl
theorem g_alen {a n t : Nat} {q : _} (d : decode (am_cd (am_me P y)) pc = .ok (.arraylength, 1)) (hs : a ≠ am_scr) (ha : h[a]? = some (.inl (t, n, q))) (ht : t < 5) (kk : go P y (pc + 1) lo (.int (Int32.ofNat n) :: st) h Q) : go P y pc lo (.ref a :: st) h Q := by
  refine go_st ?_ kk
  rw [am_st_of d rfl]
  unfold am_ex; dsimp only; unfold am_r1; dsimp only; rw [if_neg hs, ha]; dsimp only; rw [if_pos ht]; rfl
theorem g_slen (d : decode (am_cd (am_me P y)) pc = .ok (.arraylength, 1)) (kk : go P y (pc + 1) lo (.int (Int32.ofNat (am_sL P)) :: st) h Q) : go P y pc lo (.ref am_scr :: st) h Q := by
  refine go_st ?_ kk
  rw [am_st_of d rfl]
  unfold am_ex; dsimp only; unfold am_r1; dsimp only; rw [if_pos rfl]; rfl
theorem g_newI {x : Int32} (d : decode (am_cd (am_me P y)) pc = .ok (.newarray .int, 2)) (hx : 0 ≤ x.toInt ∧ x.toInt < 100000) (kk : go P y (pc + 2) lo (.ref h.length :: st) (h ++ [am_I x.toNatClampNeg (fun _ => 0)]) Q) : go P y pc lo (.int x :: st) h Q := by
  refine go_st ?_ kk
  rw [am_st_of d rfl]
  unfold am_ex; dsimp only; unfold am_i1; dsimp only; rw [if_pos hx]; rfl
theorem g_newJ {x : Int32} (d : decode (am_cd (am_me P y)) pc = .ok (.newarray .long, 2)) (hx : 0 ≤ x.toInt ∧ x.toInt < 100000) (kk : go P y (pc + 2) lo (.ref h.length :: st) (h ++ [am_J x.toNatClampNeg (fun _ => 0)]) Q) : go P y pc lo (.int x :: st) h Q := by
  refine go_st ?_ kk
  rw [am_st_of d rfl]
  unfold am_ex; dsimp only; unfold am_i1; dsimp only; rw [if_pos hx]; rfl
theorem g_newZ {x : Int32} (d : decode (am_cd (am_me P y)) pc = .ok (.newarray .boolean, 2)) (hx : 0 ≤ x.toInt ∧ x.toInt < 100000) (kk : go P y (pc + 2) lo (.ref h.length :: st) (h ++ [am_Z x.toNatClampNeg (fun _ => 0)]) Q) : go P y pc lo (.int x :: st) h Q := by
  refine go_st ?_ kk
  rw [am_st_of d rfl]
  unfold am_ex; dsimp only; unfold am_i1; dsimp only; rw [if_pos hx]; rfl
theorem g_newR {x : Int32} {ix t : Nat} (d : decode (am_cd (am_me P y)) pc = .ok (.anewarray ix, 3)) (ht : am_an P y ix = some t) (hx : 0 ≤ x.toInt ∧ x.toInt < 100000) (kk : go P y (pc + 3) lo (.ref h.length :: st) (h ++ [am_R t x.toNatClampNeg (fun _ => none)]) Q) : go P y pc lo (.int x :: st) h Q := by
  refine go_st ?_ kk
  rw [am_st_of d rfl]
  unfold am_ex; dsimp only; rw [ht]; dsimp only; unfold am_i1; dsimp only; rw [if_pos hx]; rfl
theorem g_new {ix ci : Nat} (d : decode (am_cd (am_me P y)) pc = .ok (.new ix, 3)) (ht : am_nw P y ix = some ci) (kk : go P y (pc + 3) lo (.ref h.length :: st) (h ++ [.inr (ci, am_df P ci)]) Q) : go P y pc lo st h Q := by
  refine go_st ?_ kk
  rw [am_st_of d rfl]
  unfold am_ex; dsimp only; rw [ht]; rfl
theorem g_throw {ix ic E : Nat} (d : decode (am_cd (am_me P y)) pc = .ok (.new ix, 3)) (ht : am_nw P y ix = none) (d1 : decode (am_cd (am_me P y)) (pc + 3) = .ok (.dup, 1)) (d2 : decode (am_cd (am_me P y)) (pc + 4) = .ok (.invokespecial ic, 3)) (d3 : decode (am_cd (am_me P y)) (pc + 7) = .ok (.athrow, 1)) (hx : am_xn P y ix ic = some E) (hr : 5 < am_rf (am_me P y) ∧ am_wd st + 82 ≤ am_rl (am_me P y)) (hno : am_no P y (pc + 7) = true) (q : Q (.inr E) (h ++ [.inr (E, [])])) : go P y pc lo st h Q := by
  refine go_thr ?_ hno q
  rw [am_st_of d rfl]
  unfold am_ex; dsimp only; rw [ht]; dsimp only; rw [d1, d2, d3]; refine Eq.trans (b := match am_xn P y ix ic with | some ci => if 5 < am_rf (am_me P y) ∧ am_wd st + 82 ≤ am_rl (am_me P y) then some (Sum.inr (Sum.inr (Sum.inr ci))) else none | none => none) rfl ?_; rw [hx]; (try dsimp only); rw [if_pos hr]
theorem g_oinit {ix a : Nat} (d : decode (am_cd (am_me P y)) pc = .ok (.invokespecial ix, 3)) (hs : am_sp P y ix = some 0) (hr : 1 ≤ am_rf (am_me P y) ∧ am_wd st + 12 ≤ am_rl (am_me P y)) (kk : go P y (pc + 3) lo st h Q) : go P y pc lo (.ref a :: st) h Q := by
  refine go_st ?_ kk
  rw [am_st_of d rfl]
  refine Eq.trans (b := am_r1 (.ref a :: st) fun _ r => if 1 ≤ am_rf (am_me P y) ∧ am_wd r + 12 ≤ am_rl (am_me P y) then am_nx (pc + 3) lo r h else none) (by unfold am_ex; dsimp only; rw [hs]; rfl) ?_
  unfold am_r1; dsimp only; rw [if_pos hr]; rfl
theorem g_cast {ix a n : Nat} {f : Nat → Int32} (d : decode (am_cd (am_me P y)) pc = .ok (.checkcast ix, 3)) (hs : am_sp P y ix = some 5) (ha : h[a]? = some (am_I n f)) (kk : go P y (pc + 3) lo (.ref a :: st) h Q) : go P y pc lo (.ref a :: st) h Q := by
  refine go_st ?_ kk
  rw [am_st_of d rfl]
  refine Eq.trans (b := am_r1 (.ref a :: st) fun a r => am_gI h a fun _ _ => am_nx (pc + 3) lo (.ref a :: r) h) (by unfold am_ex; dsimp only; rw [hs]; rfl) ?_
  unfold am_r1; dsimp only; rw [am_gI_eq ha]; rfl
theorem g_clone {ix a n : Nat} {f : Nat → Int32} (d : decode (am_cd (am_me P y)) pc = .ok (.invokevirtual ix, 3)) (hs : am_sp P y ix = some 4) (ha : h[a]? = some (am_I n f)) (hr : 1 ≤ am_rf (am_me P y) ∧ am_wd st + 14 ≤ am_rl (am_me P y)) (kk : go P y (pc + 3) lo (.ref h.length :: st) (h ++ [am_I n f]) Q) : go P y pc lo (.ref a :: st) h Q := by
  refine go_st ?_ kk
  rw [am_st_of d rfl]
  refine Eq.trans (b := am_r1 (.ref a :: st) fun a r => am_gI h a fun n f => if 1 ≤ am_rf (am_me P y) ∧ am_wd r + 14 ≤ am_rl (am_me P y) then am_nx (pc + 3) lo (.ref h.length :: r) (h ++ [am_I n f]) else none) (by unfold am_ex; dsimp only; rw [hs]; rfl) ?_
  unfold am_r1; dsimp only; rw [am_gI_eq ha]; (try dsimp only); rw [if_pos hr]; rfl
theorem g_max {ix : Nat} {a b : Int32} (d : decode (am_cd (am_me P y)) pc = .ok (.invokestatic ix, 3)) (hs : am_sp P y ix = some 1) (hr : 1 ≤ am_rf (am_me P y) ∧ am_wd st + 13 ≤ am_rl (am_me P y)) (kk : go P y (pc + 3) lo (.int (if a < b then b else a) :: st) h Q) : go P y pc lo (.int b :: .int a :: st) h Q := by
  refine go_st ?_ kk
  rw [am_st_of d rfl]
  refine Eq.trans (b := am_i2 (.int b :: .int a :: st) fun a b r => if 1 ≤ am_rf (am_me P y) ∧ am_wd r + 13 ≤ am_rl (am_me P y) then am_nx (pc + 3) lo (.int (if a < b then b else a) :: r) h else none) (by unfold am_ex; dsimp only; rw [hs]; rfl) ?_
  unfold am_i2; dsimp only; rw [if_pos hr]; rfl
theorem g_min {ix : Nat} {a b : Int32} (d : decode (am_cd (am_me P y)) pc = .ok (.invokestatic ix, 3)) (hs : am_sp P y ix = some 2) (hr : 1 ≤ am_rf (am_me P y) ∧ am_wd st + 13 ≤ am_rl (am_me P y)) (kk : go P y (pc + 3) lo (.int (if b < a then b else a) :: st) h Q) : go P y pc lo (.int b :: .int a :: st) h Q := by
  refine go_st ?_ kk
  rw [am_st_of d rfl]
  refine Eq.trans (b := am_i2 (.int b :: .int a :: st) fun a b r => if 1 ≤ am_rf (am_me P y) ∧ am_wd r + 13 ≤ am_rl (am_me P y) then am_nx (pc + 3) lo (.int (if b < a then b else a) :: r) h else none) (by unfold am_ex; dsimp only; rw [hs]; rfl) ?_
  unfold am_i2; dsimp only; rw [if_pos hr]; rfl
theorem g_copy {ix a0 a1 n0 n1 : Nat} {sp dp k : Int32} {f g : Nat → Int32} {h1 : am_H} (d : decode (am_cd (am_me P y)) pc = .ok (.invokestatic ix, 3)) (hs : am_sp P y ix = some 3) (ha : h[a0]? = some (am_I n0 f)) (hb : h[a1]? = some (am_I n1 g)) (hn : 0 ≤ sp.toInt ∧ 0 ≤ dp.toInt ∧ 0 ≤ k.toInt ∧ sp.toNatClampNeg + k.toNatClampNeg ≤ n0 ∧ dp.toNatClampNeg + k.toNatClampNeg ≤ n1) (hr : 1 ≤ am_rf (am_me P y) ∧ am_wd st + (nativeFrameWords "java/lang/System" "arraycopy" 5 + 11) ≤ am_rl (am_me P y)) (hh : h.set a1 (am_I n1 (va_cpy f g sp.toNatClampNeg dp.toNatClampNeg k.toNatClampNeg)) = h1) (kk : go P y (pc + 3) lo st h1 Q) : go P y pc lo (.int k :: .int dp :: .ref a1 :: .int sp :: .ref a0 :: st) h Q := by
  subst hh
  refine go_st ?_ kk
  rw [am_st_of d rfl]
  refine Eq.trans (b := am_cy (.int k :: .int dp :: .ref a1 :: .int sp :: .ref a0 :: st) fun a0 sp a1 dp k r => am_gI h a0 fun n0 f => am_gI h a1 fun n1 g =>
        if (0 ≤ sp.toInt ∧ 0 ≤ dp.toInt ∧ 0 ≤ k.toInt ∧ sp.toNatClampNeg + k.toNatClampNeg ≤ n0 ∧ dp.toNatClampNeg + k.toNatClampNeg ≤ n1) ∧ 1 ≤ am_rf (am_me P y) ∧ am_wd r + (nativeFrameWords "java/lang/System" "arraycopy" 5 + 11) ≤ am_rl (am_me P y) then
          am_nx (pc + 3) lo r (h.set a1 (am_I n1 (va_cpy f g sp.toNatClampNeg dp.toNatClampNeg k.toNatClampNeg))) else none) (by unfold am_ex; dsimp only; rw [hs]; rfl) ?_
  unfold am_cy; dsimp only; rw [am_gI_eq ha]; (try dsimp only); rw [am_gI_eq hb]; (try dsimp only); rw [if_pos ⟨hn, hr⟩]; rfl

theorem am_call_eq {z : Nat} {as rest : List Value} (hr : am_rf (am_me P z) + 1 ≤ am_rf (am_me P y) ∧ am_wd rest + (am_ml (am_me P z) + 11) + am_rl (am_me P z) ≤ am_rl (am_me P y)) : am_call P y z as rest = some (.inr (.inl (z, as, rest))) := by
  unfold am_call
  rw [if_pos (by simp only [Bool.and_eq_true, decide_eq_true_eq]; exact hr)]
theorem am_as_eq {n : Nat} {st as r : List Value} {k : List Value → List Value → Option am_O} (h1 : st = as.reverse ++ r) (h2 : as.length = n) : am_as n st k = k as r := by
  subst h1; subst h2
  unfold am_as
  rw [if_pos (by simp)]
  have e1 : ((as.reverse ++ r).take as.length).reverse = as := by
    rw [show as.length = as.reverse.length by simp, List.take_left, List.reverse_reverse]
  have e2 : (as.reverse ++ r).drop as.length = r := by
    rw [show as.length = as.reverse.length by simp, List.drop_left]
  rw [e1, e2]
theorem g_callS {ix z n : Nat} {as rest : List Value} {l0 : am_L} (d : decode (am_cd (am_me P y)) pc = .ok (.invokestatic ix, 3)) (hs : am_sp P y ix = none) (hc : am_ca P y ix = some (z, n, 0)) (h1 : st = as.reverse ++ rest) (h2 : as.length = n) (hr : am_rf (am_me P z) + 1 ≤ am_rf (am_me P y) ∧ am_wd rest + (am_ml (am_me P z) + 11) + am_rl (am_me P z) ≤ am_rl (am_me P y)) (hl : am_en0 P z as = some l0) (g : go P z 0 l0 [] h (am_af P y pc lo rest Q)) : go P y pc lo st h Q := by
  refine go_call (z := z) (as := as) (rest := rest) ?_ hl g
  rw [am_st_of d rfl]
  refine Eq.trans (b := am_as n st fun as r => am_call P y z as r) (by unfold am_ex; dsimp only; rw [hs]; rw [hc]; rfl) ?_
  rw [am_as_eq h1 h2, am_call_eq hr]
theorem g_callV {ix z n a : Nat} {as rest : List Value} {l0 : am_L} {fs : List Value} (d : decode (am_cd (am_me P y)) pc = .ok (.invokevirtual ix, 3)) (hs : am_sp P y ix = none) (hc : am_ca P y ix = some (z, n, 1)) (h1 : st = as.reverse ++ .ref a :: rest) (h2 : as.length = n) (ha : h[a]? = some (.inr (am_rc P z, fs))) (hr : am_rf (am_me P z) + 1 ≤ am_rf (am_me P y) ∧ am_wd rest + (am_ml (am_me P z) + 11) + am_rl (am_me P z) ≤ am_rl (am_me P y)) (hl : am_en0 P z (.ref a :: as) = some l0) (g : go P z 0 l0 [] h (am_af P y pc lo rest Q)) : go P y pc lo st h Q := by
  refine go_call (z := z) (as := .ref a :: as) (rest := rest) ?_ hl g
  rw [am_st_of d rfl]
  refine Eq.trans (b := am_as n st fun as r => am_r1 r fun a r => am_gB h a fun c _ => if c = am_rc P z then am_call P y z (.ref a :: as) r else none) (by unfold am_ex; dsimp only; rw [hs]; rw [hc]; rfl) ?_
  rw [am_as_eq h1 h2]; unfold am_r1; dsimp only; rw [am_gB_eq ha]; (try dsimp only); rw [if_pos rfl, am_call_eq hr]
theorem g_callI {ix z n a : Nat} {as rest : List Value} {l0 : am_L} (d : decode (am_cd (am_me P y)) pc = .ok (.invokespecial ix, 3)) (hs : am_sp P y ix = none) (hc : am_ca P y ix = some (z, n, 2)) (h1 : st = as.reverse ++ .ref a :: rest) (h2 : as.length = n) (hr : am_rf (am_me P z) + 1 ≤ am_rf (am_me P y) ∧ am_wd rest + (am_ml (am_me P z) + 11) + am_rl (am_me P z) ≤ am_rl (am_me P y)) (hl : am_en0 P z (.ref a :: as) = some l0) (g : go P z 0 l0 [] h (am_af P y pc lo rest Q)) : go P y pc lo st h Q := by
  refine go_call (z := z) (as := .ref a :: as) (rest := rest) ?_ hl g
  rw [am_st_of d rfl]
  refine Eq.trans (b := am_as n st fun as r => am_r1 r fun a r => am_call P y z (.ref a :: as) r) (by unfold am_ex; dsimp only; rw [hs]; rw [hc]; rfl) ?_
  rw [am_as_eq h1 h2]; unfold am_r1; dsimp only; rw [am_call_eq hr]
theorem af_thr {E : Nat} {rest : List Value} (hno : am_no P y pc = true) (q : Q (.inr E) h) : am_af P y pc lo rest Q (.inr E) h := by
  unfold am_af
  dsimp only
  rw [if_pos hno]
  exact q
theorem af_cat {E pc' k : Nat} {rest : List Value} (hno : am_no P y pc = false) (hf : am_fh P y pc E = some (pc', k)) (hk : k < lo.length ∧ am_pv lo k = true) (g : go P y pc' (lo.set k none) [] h Q) : am_af P y pc lo rest Q (.inr E) h := by
  unfold am_af
  dsimp only
  rw [if_neg (by rw [hno]; simp), hf]
  exact ⟨hk, g⟩
end GA

