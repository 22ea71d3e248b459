/-! The memory: what is where; numbers by address and place, references likewise. -/
section MA
def me_fs (c a : Nat) (σ : Nat → Int32) (ρ : Nat → Option Nat) : List Value := match c with
  | 0 => [.ref 1, .ref 5, .int (σ 2), .ref 7, .ref 18, .ref 21, .ref 6, .int (σ 7)]
  | 1 => [.ref 2, .ref 3, .ref 4, .int (σ 3)]
  | 2 => [.ref (a + 2), .ref (a + 3), .ref (a + 4), .ref (a + 1), .int (σ 4), .int (σ 5)]
  | 3 => [.int (σ 0), .int (σ 1), va_rf (ρ 2), va_rf (ρ 3), va_rf (ρ 4), .ref (a + 1)]
  | 4 => [.ref 12, .ref 13, .int (σ 2), .int (σ 3), .ref 14, .ref 15]
  | 5 => [.ref 8, .ref 9, .ref 10, .int (σ 3), .ref 11, va_rf (ρ 5), .ref 16, .ref 17]
  | 6 => [.ref 7, .ref 19, .ref 20, .int (σ 3)]
  | 7 => [.ref 7, .ref 22, .ref 23, .int (σ 3), .int (σ 4), .int (σ 5)]
  | 8 => [.int (σ 0), .ref 25, .ref 26, .int (σ 3), .ref 27, .int (σ 5), .ref 28, .ref 29, .ref 30, .ref 31, .ref 32, .int (σ 11), .ref 33, .ref 34, .ref 35, .ref 36, .ref 37, .ref 38, .ref 39, .ref 40, .int (σ 20), .ref 41, .ref 42, .int (σ 23), .int (σ 24), .int (σ 25), .ref 43, .int (σ 27), .ref 44, .int (σ 29), .ref 45, .int (σ 31), .int (σ 32)]
  | _ => []
def me_cell (a : Nat) (s : Nat × Nat) (σ : Nat → Int32) (ρ : Nat → Option Nat) (τ : Nat → Int64) : am_E := match s.1 with
  | 0 => am_I s.2 σ
  | 1 => am_J s.2 τ
  | 2 => am_Z s.2 σ
  | 3 => am_R 3 s.2 ρ
  | 4 => am_R 4 s.2 ρ
  | c + 5 => .inr (c, me_fs c a σ ρ)
def me_s0 : List (Nat × Nat) := [(5, 0), (6, 0), (0, 24), (0, 25), (0, 25), (3, 30), (0, 7), (10, 0), (0, 6), (0, 7), (4, 12), (9, 0), (3, 6), (3, 6), (1, 65), (1, 65), (0, 7), (0, 7), (11, 0), (0, 7), (0, 7), (12, 0), (0, 7), (0, 360), (13, 0), (0, 6), (0, 6), (0, 24), (0, 30), (0, 720), (2, 30), (2, 30), (2, 30), (0, 12), (0, 12), (0, 12), (0, 12), (0, 72), (0, 12), (0, 2), (0, 12), (0, 6), (0, 6), (0, 366), (0, 7), (0, 30), (1, 1)]
def me_sh (dy : List (Nat × Nat)) (a : Nat) : Option (Nat × Nat) := (me_s0 ++ dy)[a]?
def mk (dy : List (Nat × Nat)) (σ : Nat → Nat → Int32) (ρ : Nat → Nat → Option Nat) (τ : Nat → Nat → Int64) : am_H := (me_s0 ++ dy).mapIdx (fun a s => me_cell a s (σ a) (ρ a) (τ a))
def up2 {α : Type} (f : Nat → Nat → α) (a k : Nat) (v : α) : Nat → Nat → α := fun a' k' => if a' = a then (if k' = k then v else f a' k') else f a' k'
def upr {α : Type} (f : Nat → Nat → α) (a : Nat) (g : Nat → α) : Nat → Nat → α := fun a' => if a' = a then g else f a'
theorem up2_eq {α : Type} (f : Nat → Nat → α) (a k : Nat) (v : α) : up2 f a k v = upr f a (va_up (f a) k v) := by
  funext a' k'
  unfold up2 upr va_up
  by_cases h : a' = a
  · subst h; simp
  · simp [h]
def me_isI (c k : Nat) : Bool := match (me_fs c 0 (fun _ => 0) (fun _ => none))[k]? with
  | some (.int _) => true
  | _ => false
def me_isR (c k : Nat) : Bool := match (me_fs c 0 (fun _ => 0) (fun _ => none))[k]? with
  | some .null => true
  | _ => false
theorem me_setI {c k a : Nat} {σ : Nat → Int32} {ρ : Nat → Option Nat} {x : Int32} (h : me_isI c k = true) : (me_fs c a σ ρ).set k (.int x) = me_fs c a (upd σ k x) ρ ∧ k < (me_fs c a σ ρ).length := by
  unfold me_isI at h
  match c, h with
  | 0, h =>
    match k, h with
    | 0, h => cases h
    | 1, h => cases h
    | 2, _ => exact ⟨rfl, by show 2 < 8; omega⟩
    | 3, h => cases h
    | 4, h => cases h
    | 5, h => cases h
    | 6, h => cases h
    | 7, _ => exact ⟨rfl, by show 7 < 8; omega⟩
    | k + 8, h => cases h
  | 1, h =>
    match k, h with
    | 0, h => cases h
    | 1, h => cases h
    | 2, h => cases h
    | 3, _ => exact ⟨rfl, by show 3 < 4; omega⟩
    | k + 4, h => cases h
  | 2, h =>
    match k, h with
    | 0, h => cases h
    | 1, h => cases h
    | 2, h => cases h
    | 3, h => cases h
    | 4, _ => exact ⟨rfl, by show 4 < 6; omega⟩
    | 5, _ => exact ⟨rfl, by show 5 < 6; omega⟩
    | k + 6, h => cases h
  | 3, h =>
    match k, h with
    | 0, _ => exact ⟨rfl, by show 0 < 6; omega⟩
    | 1, _ => exact ⟨rfl, by show 1 < 6; omega⟩
    | 2, h => cases h
    | 3, h => cases h
    | 4, h => cases h
    | 5, h => cases h
    | k + 6, h => cases h
  | 4, h =>
    match k, h with
    | 0, h => cases h
    | 1, h => cases h
    | 2, _ => exact ⟨rfl, by show 2 < 6; omega⟩
    | 3, _ => exact ⟨rfl, by show 3 < 6; omega⟩
    | 4, h => cases h
    | 5, h => cases h
    | k + 6, h => cases h
  | 5, h =>
    match k, h with
    | 0, h => cases h
    | 1, h => cases h
    | 2, h => cases h
    | 3, _ => exact ⟨rfl, by show 3 < 8; omega⟩
    | 4, h => cases h
    | 5, h => cases h
    | 6, h => cases h
    | 7, h => cases h
    | k + 8, h => cases h
  | 6, h =>
    match k, h with
    | 0, h => cases h
    | 1, h => cases h
    | 2, h => cases h
    | 3, _ => exact ⟨rfl, by show 3 < 4; omega⟩
    | k + 4, h => cases h
  | 7, h =>
    match k, h with
    | 0, h => cases h
    | 1, h => cases h
    | 2, h => cases h
    | 3, _ => exact ⟨rfl, by show 3 < 6; omega⟩
    | 4, _ => exact ⟨rfl, by show 4 < 6; omega⟩
    | 5, _ => exact ⟨rfl, by show 5 < 6; omega⟩
    | k + 6, h => cases h
  | 8, h =>
    match k, h with
    | 0, _ => exact ⟨rfl, by show 0 < 33; omega⟩
    | 1, h => cases h
    | 2, h => cases h
    | 3, _ => exact ⟨rfl, by show 3 < 33; omega⟩
    | 4, h => cases h
    | 5, _ => exact ⟨rfl, by show 5 < 33; omega⟩
    | 6, h => cases h
    | 7, h => cases h
    | 8, h => cases h
    | 9, h => cases h
    | 10, h => cases h
    | 11, _ => exact ⟨rfl, by show 11 < 33; omega⟩
    | 12, h => cases h
    | 13, h => cases h
    | 14, h => cases h
    | 15, h => cases h
    | 16, h => cases h
    | 17, h => cases h
    | 18, h => cases h
    | 19, h => cases h
    | 20, _ => exact ⟨rfl, by show 20 < 33; omega⟩
    | 21, h => cases h
    | 22, h => cases h
    | 23, _ => exact ⟨rfl, by show 23 < 33; omega⟩
    | 24, _ => exact ⟨rfl, by show 24 < 33; omega⟩
    | 25, _ => exact ⟨rfl, by show 25 < 33; omega⟩
    | 26, h => cases h
    | 27, _ => exact ⟨rfl, by show 27 < 33; omega⟩
    | 28, h => cases h
    | 29, _ => exact ⟨rfl, by show 29 < 33; omega⟩
    | 30, h => cases h
    | 31, _ => exact ⟨rfl, by show 31 < 33; omega⟩
    | 32, _ => exact ⟨rfl, by show 32 < 33; omega⟩
    | k + 33, h => cases h
  | c + 9, h => cases h
theorem me_setR {c k a : Nat} {σ : Nat → Int32} {ρ : Nat → Option Nat} {x : Option Nat} (h : me_isR c k = true) : (me_fs c a σ ρ).set k (va_rf x) = me_fs c a σ (va_up ρ k x) ∧ k < (me_fs c a σ ρ).length := by
  unfold me_isR at h
  match c, h with
  | 0, h =>
    match k, h with
    | 0, h => cases h
    | 1, h => cases h
    | 2, h => cases h
    | 3, h => cases h
    | 4, h => cases h
    | 5, h => cases h
    | 6, h => cases h
    | 7, h => cases h
    | k + 8, h => cases h
  | 1, h =>
    match k, h with
    | 0, h => cases h
    | 1, h => cases h
    | 2, h => cases h
    | 3, h => cases h
    | k + 4, h => cases h
  | 2, h =>
    match k, h with
    | 0, h => cases h
    | 1, h => cases h
    | 2, h => cases h
    | 3, h => cases h
    | 4, h => cases h
    | 5, h => cases h
    | k + 6, h => cases h
  | 3, h =>
    match k, h with
    | 0, h => cases h
    | 1, h => cases h
    | 2, _ => exact ⟨rfl, by show 2 < 6; omega⟩
    | 3, _ => exact ⟨rfl, by show 3 < 6; omega⟩
    | 4, _ => exact ⟨rfl, by show 4 < 6; omega⟩
    | 5, h => cases h
    | k + 6, h => cases h
  | 4, h =>
    match k, h with
    | 0, h => cases h
    | 1, h => cases h
    | 2, h => cases h
    | 3, h => cases h
    | 4, h => cases h
    | 5, h => cases h
    | k + 6, h => cases h
  | 5, h =>
    match k, h with
    | 0, h => cases h
    | 1, h => cases h
    | 2, h => cases h
    | 3, h => cases h
    | 4, h => cases h
    | 5, _ => exact ⟨rfl, by show 5 < 8; omega⟩
    | 6, h => cases h
    | 7, h => cases h
    | k + 8, h => cases h
  | 6, h =>
    match k, h with
    | 0, h => cases h
    | 1, h => cases h
    | 2, h => cases h
    | 3, h => cases h
    | k + 4, h => cases h
  | 7, h =>
    match k, h with
    | 0, h => cases h
    | 1, h => cases h
    | 2, h => cases h
    | 3, h => cases h
    | 4, h => cases h
    | 5, h => cases h
    | k + 6, h => cases h
  | 8, h =>
    match k, h with
    | 0, h => cases h
    | 1, h => cases h
    | 2, h => cases h
    | 3, h => cases h
    | 4, h => cases h
    | 5, h => cases h
    | 6, h => cases h
    | 7, h => cases h
    | 8, h => cases h
    | 9, h => cases h
    | 10, h => cases h
    | 11, h => cases h
    | 12, h => cases h
    | 13, h => cases h
    | 14, h => cases h
    | 15, h => cases h
    | 16, h => cases h
    | 17, h => cases h
    | 18, h => cases h
    | 19, h => cases h
    | 20, h => cases h
    | 21, h => cases h
    | 22, h => cases h
    | 23, h => cases h
    | 24, h => cases h
    | 25, h => cases h
    | 26, h => cases h
    | 27, h => cases h
    | 28, h => cases h
    | 29, h => cases h
    | 30, h => cases h
    | 31, h => cases h
    | 32, h => cases h
    | k + 33, h => cases h
  | c + 9, h => cases h
variable {dy : List (Nat × Nat)} {σ : Nat → Nat → Int32} {ρ : Nat → Nat → Option Nat} {τ : Nat → Nat → Int64} {a n : Nat} {s : Nat × Nat}
theorem mk_at (h : me_sh dy a = some s) : (mk dy σ ρ τ)[a]? = some (me_cell a s (σ a) (ρ a) (τ a)) := by
  unfold mk
  rw [List.getElem?_mapIdx]
  unfold me_sh at h
  rw [h]
  rfl
theorem mk_set {σ' : Nat → Nat → Int32} {ρ' : Nat → Nat → Option Nat} {τ' : Nat → Nat → Int64} (h : me_sh dy a = some s) (h1 : ∀ b, b ≠ a → σ' b = σ b ∧ ρ' b = ρ b ∧ τ' b = τ b) : (mk dy σ ρ τ).set a (me_cell a s (σ' a) (ρ' a) (τ' a)) = mk dy σ' ρ' τ' := by
  unfold me_sh at h
  refine List.ext_getElem? fun j => ?_
  unfold mk
  rw [List.getElem?_set, List.getElem?_mapIdx, List.getElem?_mapIdx]
  by_cases hj : a = j
  · subst hj
    have hl : a < (me_s0 ++ dy).length := (List.getElem?_eq_some_iff.mp h).1
    rw [if_pos rfl, List.length_mapIdx, if_pos hl, h]
    rfl
  · obtain ⟨e1, e2, e3⟩ := h1 j (fun q => hj q.symm)
    rw [if_neg hj, e1, e2, e3]
theorem mk_len : (mk dy σ ρ τ).length = 47 + dy.length := by
  unfold mk
  rw [List.length_mapIdx, List.length_append]
  rfl
theorem mi_push {β : Type} {f g : Nat → Nat × Nat → β} (S : List (Nat × Nat)) (s : Nat × Nat) (x : β) (h1 : ∀ j e, j < S.length → f j e = g j e) (h2 : x = g S.length s) : S.mapIdx f ++ [x] = (S ++ [s]).mapIdx g := by
  refine List.ext_getElem? fun j => ?_
  rw [List.getElem?_mapIdx]
  by_cases hj : j < S.length
  · rw [List.getElem?_append_left (by rw [List.length_mapIdx]; exact hj), List.getElem?_mapIdx, List.getElem?_append_left hj]
    rw [List.getElem?_eq_getElem hj]
    show some (f j S[j]) = some (g j S[j])
    rw [h1 j _ hj]
  · rw [List.getElem?_append_right (by rw [List.length_mapIdx]; omega), List.getElem?_append_right (by omega), List.length_mapIdx]
    by_cases hj2 : j = S.length
    · subst hj2
      rw [Nat.sub_self, h2]
      rfl
    · rw [List.getElem?_eq_none (by simp; omega), List.getElem?_eq_none (by simp; omega)]
      rfl
theorem mk_push (s : Nat × Nat) (f : Nat → Int32) (r : Nat → Option Nat) (t : Nat → Int64) : mk dy σ ρ τ ++ [me_cell (47 + dy.length) s f r t] = mk (dy ++ [s]) (upr σ (47 + dy.length) f) (upr ρ (47 + dy.length) r) (upr τ (47 + dy.length) t) := by
  have hsz : (me_s0 ++ dy).length = 47 + dy.length := by
    rw [List.length_append]
    rfl
  unfold mk
  rw [← List.append_assoc]
  refine mi_push _ s _ (fun j e hj => ?_) ?_
  · have hne : j ≠ 47 + dy.length := by omega
    show me_cell j e _ _ _ = me_cell j e _ _ _
    unfold upr
    rw [if_neg hne, if_neg hne, if_neg hne]
  · rw [hsz]
    show me_cell _ s _ _ _ = me_cell _ s _ _ _
    unfold upr
    rw [if_pos rfl, if_pos rfl, if_pos rfl]
theorem mk_pushX (E : Nat) (hE : 9 ≤ E) : mk dy σ ρ τ ++ [.inr (E, [])] = mk (dy ++ [(E + 5, 0)]) σ ρ τ := by
  have h := mk_push (dy := dy) (σ := σ) (ρ := ρ) (τ := τ) (E + 5, 0) (σ (47 + dy.length)) (ρ (47 + dy.length)) (τ (47 + dy.length))
  have e1 : me_cell (47 + dy.length) (E + 5, 0) (σ (47 + dy.length)) (ρ (47 + dy.length)) (τ (47 + dy.length)) = .inr (E, []) := by
    match E, hE with
    | e + 9, _ => rfl
  have e2 : ∀ {α : Type} (f : Nat → Nat → α) (a : Nat), upr f a (f a) = f := by
    intro α f a
    funext a'
    unfold upr
    split
    · rename_i h; rw [h]
    · rfl
  rw [e1, e2, e2, e2] at h
  exact h
variable {P : am_P} {y pc : Nat} {lo : am_L} {st : List Value} {Q : am_A → am_H → Prop}
theorem m_get {ix c k : Nat} {ty : FieldType} {wr : Bool} {v : Value} (d : decode (am_cd (am_me P y)) pc = .ok (.getfield ix, 3)) (hf : am_fd P y ix = some (c, k, ty, wr)) (ha : me_sh dy a = some (c + 5, n)) (hv : (me_fs c a (σ a) (ρ a))[k]? = some v) (kk : go P y (pc + 3) lo (v :: st) (mk dy σ ρ τ) Q) : go P y pc lo (.ref a :: st) (mk dy σ ρ τ) Q :=
  g_get d hf (mk_at ha) hv kk
theorem m_putI {ix c k : Nat} {ty : FieldType} {x : Int32} (d : decode (am_cd (am_me P y)) pc = .ok (.putfield ix, 3)) (hf : am_fd P y ix = some (c, k, ty, true)) (ha : me_sh dy a = some (c + 5, n)) (hi : me_isI c k = true) (hx : am_ft ty (.int x) = true) (kk : go P y (pc + 3) lo st (mk dy (up2 σ a k x) ρ τ) Q) : go P y pc lo (.int x :: .ref a :: st) (mk dy σ ρ τ) Q := by
  obtain ⟨e1, e2⟩ := me_setI (a := a) (σ := σ a) (ρ := ρ a) (x := x) hi
  refine g_put (fs := me_fs c a (σ a) (ρ a)) d hf (mk_at ha) e2 hx ?_ kk
  rw [e1]
  have h := mk_set (σ := σ) (ρ := ρ) (τ := τ) (σ' := up2 σ a k x) (ρ' := ρ) (τ' := τ) ha (fun b hb => ⟨by rw [up2_eq]; unfold upr; rw [if_neg hb], rfl, rfl⟩)
  rw [← h, up2_eq]
  congr 1
  show _ = Sum.inr (c, me_fs c a _ _)
  unfold upr
  rw [if_pos rfl]
  rfl
theorem m_putR {ix c k b : Nat} {ty : FieldType} (d : decode (am_cd (am_me P y)) pc = .ok (.putfield ix, 3)) (hf : am_fd P y ix = some (c, k, ty, true)) (ha : me_sh dy a = some (c + 5, n)) (hi : me_isR c k = true) (hx : am_ft ty (.ref b) = true) (kk : go P y (pc + 3) lo st (mk dy σ (up2 ρ a k (some b)) τ) Q) : go P y pc lo (.ref b :: .ref a :: st) (mk dy σ ρ τ) Q := by
  obtain ⟨e1, e2⟩ := me_setR (a := a) (σ := σ a) (ρ := ρ a) (x := some b) hi
  refine g_put (fs := me_fs c a (σ a) (ρ a)) d hf (mk_at ha) e2 hx ?_ kk
  have e1 : (me_fs c a (σ a) (ρ a)).set k (.ref b) = me_fs c a (σ a) (va_up (ρ a) k (some b)) := e1
  rw [e1]
  have h := mk_set (σ := σ) (ρ := ρ) (τ := τ) (σ' := σ) (ρ' := up2 ρ a k (some b)) (τ' := τ) ha (fun b hb => ⟨rfl, by rw [up2_eq]; unfold upr; rw [if_neg hb], rfl⟩)
  rw [← h, up2_eq]
  congr 1
  show _ = Sum.inr (c, me_fs c a _ _)
  unfold upr
  rw [if_pos rfl]
/-- an index that is within -/
theorem ix_in {i : Int32} {j n : Nat} (hi : i = nn j) (hj : j < n) (hn : n < 100000) : am_in i n = true ∧ i.toNatClampNeg = j := by
  subst hi
  have e : (nn j).toInt = j := by
    unfold nn
    rw [Int32.toInt_ofNat_of_lt (by omega)]
  refine ⟨?_, ?_⟩
  · unfold am_in
    rw [e]
    simp only [Bool.and_eq_true, decide_eq_true_eq]
    omega
  · show (nn j).toInt.toNat = j
    rw [e]
    rfl
theorem sh_scr {s : Nat × Nat} (h : me_sh dy a = some s) (hd : dy.length < 100000) : a ≠ am_scr := by
  have h1 := (List.getElem?_eq_some_iff.mp h).1
  rw [List.length_append] at h1
  have : me_s0.length = 47 := rfl
  unfold am_scr
  omega
theorem m_iald {i : Int32} {j : Nat} (d : decode (am_cd (am_me P y)) pc = .ok (.iaload, 1)) (hd : dy.length < 100000) (ha : me_sh dy a = some (0, n)) (hi : i = nn j) (hj : j < n) (hn : n < 100000) (kk : go P y (pc + 1) lo (.int (σ a j) :: st) (mk dy σ ρ τ) Q) : go P y pc lo (.int i :: .ref a :: st) (mk dy σ ρ τ) Q := by
  obtain ⟨e1, e2⟩ := ix_in hi hj hn
  refine g_iaload d (sh_scr ha hd) (mk_at ha) e1 ?_
  rw [e2]
  exact kk
theorem m_bald {i : Int32} {j : Nat} (d : decode (am_cd (am_me P y)) pc = .ok (.baload, 1)) (ha : me_sh dy a = some (2, n)) (hi : i = nn j) (hj : j < n) (hn : n < 100000) (kk : go P y (pc + 1) lo (.int (σ a j) :: st) (mk dy σ ρ τ) Q) : go P y pc lo (.int i :: .ref a :: st) (mk dy σ ρ τ) Q := by
  obtain ⟨e1, e2⟩ := ix_in hi hj hn
  refine g_baload d (mk_at ha) e1 ?_
  rw [e2]
  exact kk
theorem m_lald {i : Int32} {j : Nat} (d : decode (am_cd (am_me P y)) pc = .ok (.laload, 1)) (ha : me_sh dy a = some (1, n)) (hi : i = nn j) (hj : j < n) (hn : n < 100000) (kk : go P y (pc + 1) lo (.long (τ a j) :: st) (mk dy σ ρ τ) Q) : go P y pc lo (.int i :: .ref a :: st) (mk dy σ ρ τ) Q := by
  obtain ⟨e1, e2⟩ := ix_in hi hj hn
  refine g_laload d (mk_at ha) e1 ?_
  rw [e2]
  exact kk
theorem me_R {t : Nat} {f : Nat → Int32} {r : Nat → Option Nat} {g : Nat → Int64} (ht : 2 < t ∧ t < 5) : me_cell a (t, n) f r g = am_R t n r := by
  obtain ⟨h1, h2⟩ := ht
  match t, h1, h2 with
  | 3, _, _ => rfl
  | 4, _, _ => rfl
theorem m_aald {i : Int32} {j t : Nat} (d : decode (am_cd (am_me P y)) pc = .ok (.aaload, 1)) (ha : me_sh dy a = some (t, n)) (ht : 2 < t ∧ t < 5) (hi : i = nn j) (hj : j < n) (hn : n < 100000) (kk : go P y (pc + 1) lo (va_rf (ρ a j) :: st) (mk dy σ ρ τ) Q) : go P y pc lo (.int i :: .ref a :: st) (mk dy σ ρ τ) Q := by
  obtain ⟨e1, e2⟩ := ix_in hi hj hn
  refine g_aaload d (by rw [mk_at ha, me_R ht]) ht e1 ?_
  rw [e2]
  exact kk
theorem m_iast {i x : Int32} {j : Nat} (d : decode (am_cd (am_me P y)) pc = .ok (.iastore, 1)) (ha : me_sh dy a = some (0, n)) (hi : i = nn j) (hj : j < n) (hn : n < 100000) (kk : go P y (pc + 1) lo st (mk dy (up2 σ a j x) ρ τ) Q) : go P y pc lo (.int x :: .int i :: .ref a :: st) (mk dy σ ρ τ) Q := by
  obtain ⟨e1, e2⟩ := ix_in hi hj hn
  refine g_iastore d (mk_at ha) e1 ?_ kk
  rw [e2]
  have h := mk_set (σ := σ) (ρ := ρ) (τ := τ) (σ' := up2 σ a j x) (ρ' := ρ) (τ' := τ) ha (fun b hb => ⟨by rw [up2_eq]; unfold upr; rw [if_neg hb], rfl, rfl⟩)
  rw [← h, up2_eq]
  congr 1
  show _ = am_I n (upr σ a (va_up (σ a) j x) a)
  unfold upr
  rw [if_pos rfl]
  rfl
theorem m_bast {i x : Int32} {j : Nat} (d : decode (am_cd (am_me P y)) pc = .ok (.bastore, 1)) (ha : me_sh dy a = some (2, n)) (hi : i = nn j) (hj : j < n) (hn : n < 100000) (hx : x = 0 ∨ x = 1) (kk : go P y (pc + 1) lo st (mk dy (up2 σ a j x) ρ τ) Q) : go P y pc lo (.int x :: .int i :: .ref a :: st) (mk dy σ ρ τ) Q := by
  obtain ⟨e1, e2⟩ := ix_in hi hj hn
  refine g_bastore d (mk_at ha) e1 hx ?_ kk
  rw [e2]
  have h := mk_set (σ := σ) (ρ := ρ) (τ := τ) (σ' := up2 σ a j x) (ρ' := ρ) (τ' := τ) ha (fun b hb => ⟨by rw [up2_eq]; unfold upr; rw [if_neg hb], rfl, rfl⟩)
  rw [← h, up2_eq]
  congr 1
  show _ = am_Z n (upr σ a (va_up (σ a) j x) a)
  unfold upr
  rw [if_pos rfl]
  rfl
theorem m_last {i : Int32} {x : Int64} {j : Nat} (d : decode (am_cd (am_me P y)) pc = .ok (.lastore, 1)) (ha : me_sh dy a = some (1, n)) (hi : i = nn j) (hj : j < n) (hn : n < 100000) (kk : go P y (pc + 1) lo st (mk dy σ ρ (up2 τ a j x)) Q) : go P y pc lo (.long x :: .int i :: .ref a :: st) (mk dy σ ρ τ) Q := by
  obtain ⟨e1, e2⟩ := ix_in hi hj hn
  refine g_lastore d (mk_at ha) e1 ?_ kk
  rw [e2]
  have h := mk_set (σ := σ) (ρ := ρ) (τ := τ) (σ' := σ) (ρ' := ρ) (τ' := up2 τ a j x) ha (fun b hb => ⟨rfl, rfl, by rw [up2_eq]; unfold upr; rw [if_neg hb]⟩)
  rw [← h, up2_eq]
  congr 1
  show _ = am_J n (upr τ a (va_up (τ a) j x) a)
  unfold upr
  rw [if_pos rfl]
  rfl
theorem m_aast {i : Int32} {j t x c n' : Nat} (d : decode (am_cd (am_me P y)) pc = .ok (.aastore, 1)) (ha : me_sh dy a = some (t, n)) (hx : me_sh dy x = some (c + 5, n')) (ht : (2 < t ∧ t < 5) ∧ am_cp P t = c) (hi : i = nn j) (hj : j < n) (hn : n < 100000) (kk : go P y (pc + 1) lo st (mk dy σ (up2 ρ a j (some x)) τ) Q) : go P y pc lo (.ref x :: .int i :: .ref a :: st) (mk dy σ ρ τ) Q := by
  obtain ⟨e1, e2⟩ := ix_in hi hj hn
  refine g_aastore (ci := c) d (by rw [mk_at ha, me_R ht.1]) (mk_at hx) e1 ht ?_ kk
  rw [e2]
  have h := mk_set (σ := σ) (ρ := ρ) (τ := τ) (σ' := σ) (ρ' := up2 ρ a j (some x)) (τ' := τ) ha (fun b hb => ⟨rfl, by rw [up2_eq]; unfold upr; rw [if_neg hb], rfl⟩)
  rw [← h, up2_eq, me_R ht.1]
  congr 1
  unfold upr
  rw [if_pos rfl]
theorem m_alen {t : Nat} (d : decode (am_cd (am_me P y)) pc = .ok (.arraylength, 1)) (hd : dy.length < 100000) (ha : me_sh dy a = some (t, n)) (ht : t < 5) (kk : go P y (pc + 1) lo (.int (nn n) :: st) (mk dy σ ρ τ) Q) : go P y pc lo (.ref a :: st) (mk dy σ ρ τ) Q := by
  have h := mk_at (σ := σ) (ρ := ρ) (τ := τ) ha
  match t, ht with
  | 0, _ => exact g_alen d (sh_scr ha hd) h (by omega) kk
  | 1, _ => exact g_alen d (sh_scr ha hd) h (by omega) kk
  | 2, _ => exact g_alen d (sh_scr ha hd) h (by omega) kk
  | 3, _ => exact g_alen d (sh_scr ha hd) h (by omega) kk
  | 4, _ => exact g_alen d (sh_scr ha hd) h (by omega) kk
theorem m_copy {ix a0 n0 : Nat} {sp dp k : Int32} {sp' dp' k' : Nat} (d : decode (am_cd (am_me P y)) pc = .ok (.invokestatic ix, 3)) (hs : am_sp P y ix = some 3) (ha : me_sh dy a0 = some (0, n0)) (hb : me_sh dy a = some (0, n)) (h1 : sp = nn sp') (h2 : dp = nn dp') (h3 : k = nn k') (hn : sp' + k' ≤ n0 ∧ dp' + k' ≤ n ∧ n0 < 100000 ∧ n < 100000) (hr : 1 ≤ am_rf (am_me P y) ∧ am_wd st + (nativeFrameWords "java/lang/System" "arraycopy" 5 + 11) ≤ am_rl (am_me P y)) (kk : go P y (pc + 3) lo st (mk dy (upr σ a (va_cpy (σ a0) (σ a) sp' dp' k')) ρ τ) Q) : go P y pc lo (.int k :: .int dp :: .ref a :: .int sp :: .ref a0 :: st) (mk dy σ ρ τ) Q := by
  subst h1; subst h2; subst h3
  have e : ∀ j : Nat, j < 200000 → (nn j).toInt = j := by
    intro j hj
    unfold nn
    rw [Int32.toInt_ofNat_of_lt (by omega)]
  have e' : ∀ j : Nat, j < 200000 → (nn j).toNatClampNeg = j := by
    intro j hj
    show (nn j).toInt.toNat = j
    rw [e j hj]
    rfl
  refine g_copy d hs (mk_at ha) (mk_at hb) ?_ hr ?_ kk
  · rw [e _ (by omega), e _ (by omega), e _ (by omega), e' _ (by omega), e' _ (by omega), e' _ (by omega)]
    omega
  · rw [e' _ (by omega), e' _ (by omega), e' _ (by omega)]
    have h := mk_set (σ := σ) (ρ := ρ) (τ := τ) (σ' := upr σ a (va_cpy (σ a0) (σ a) sp' dp' k')) (ρ' := ρ) (τ' := τ) hb (fun b hb => ⟨by unfold upr; rw [if_neg hb], rfl, rfl⟩)
    rw [← h]
    congr 1
    show _ = am_I n (upr σ a _ a)
    unfold upr
    rw [if_pos rfl]
theorem m_throw {ix ic E : Nat} (d : decode (am_cd (am_me P y)) pc = .ok (.new ix, 3)) (ht : am_nw P y ix = none) (d1 : decode (am_cd (am_me P y)) (pc + 3) = .ok (.dup, 1)) (d2 : decode (am_cd (am_me P y)) (pc + 4) = .ok (.invokespecial ic, 3)) (d3 : decode (am_cd (am_me P y)) (pc + 7) = .ok (.athrow, 1)) (hx : am_xn P y ix ic = some E) (hE : 9 ≤ E) (hr : 5 < am_rf (am_me P y) ∧ am_wd st + 82 ≤ am_rl (am_me P y)) (hno : am_no P y (pc + 7) = true) (q : Q (.inr E) (mk (dy ++ [(E + 5, 0)]) σ ρ τ)) : go P y pc lo st (mk dy σ ρ τ) Q :=
  g_throw d ht d1 d2 d3 hx hr hno (by rw [mk_pushX E hE]; exact q)
theorem m_callV {ix z n' : Nat} {as rest : List Value} {l0 : am_L} (d : decode (am_cd (am_me P y)) pc = .ok (.invokevirtual ix, 3)) (hs : am_sp P y ix = none) (hc : am_ca P y ix = some (z, n', 1)) (h1 : st = as.reverse ++ .ref a :: rest) (h2 : as.length = n') (ha : me_sh dy a = some (am_rc P z + 5, n)) (hr : am_rf (am_me P z) + 1 ≤ am_rf (am_me P y) ∧ am_wd rest + (am_ml (am_me P z) + 11) + am_rl (am_me P z) ≤ am_rl (am_me P y)) (hl : am_en0 P z (.ref a :: as) = some l0) (g : go P z 0 l0 [] (mk dy σ ρ τ) (am_af P y pc lo rest Q)) : go P y pc lo st (mk dy σ ρ τ) Q :=
  g_callV d hs hc h1 h2 (mk_at ha) hr hl g
end MA
