/-! Bits of numbers. -/
section XC
variable {x y : Int32} {M N : Nat → Bool} {p q i : Nat}
/-- the bits below 7 are M, the others are none -/
def bt (x : Int32) (M : Nat → Bool) : Prop := ∀ v, v < 32 → x.toBitVec.getLsbD v = (decide (v < 7) && M v)
theorem bt_or (hx : bt x M) (hy : bt y N) : bt (x ||| y) (fun v => M v || N v) := fun v hv => by
  rw [Int32.toBitVec_or, BitVec.getLsbD_or, hx v hv, hy v hv]
  cases decide (v < 7) <;> rfl
theorem bt_and (hx : bt x M) (hy : bt y N) : bt (x &&& y) (fun v => M v && N v) := fun v hv => by
  rw [Int32.toBitVec_and, BitVec.getLsbD_and, hx v hv, hy v hv]
  cases decide (v < 7) <;> simp
theorem bt_congr (hx : bt x M) (h : ∀ v, v < 7 → M v = N v) : bt x N := fun v hv => by
  rw [hx v hv]
  by_cases h7 : v < 7
  · rw [h v h7]
  · rw [decide_eq_false h7]
    rfl
theorem bt_0 : bt (nn 0) (fun _ => false) := by
  intro v hv
  have h : (nn 0).toBitVec = 0#32 := rfl
  rw [h, BitVec.getLsbD_zero, Bool.and_false]
theorem bt_nn {k : Nat} (hk : k < 128) : bt (nn k) (fun v => k.testBit v) := by
  intro v hv
  have h : (nn k).toBitVec = BitVec.ofNat 32 k := rfl
  rw [h, BitVec.getLsbD_ofNat]
  by_cases h7 : v < 7
  · rw [decide_eq_true h7, decide_eq_true hv]
  · rw [decide_eq_false h7, Bool.false_and, Nat.testBit_lt_two_pow (Nat.lt_of_lt_of_le hk (Nat.pow_le_pow_right (n := 2) (by omega) (show 7 ≤ v by omega))), Bool.and_false]
theorem sh_1 : ∀ p, p < 7 → nn 1 <<< (nn p &&& 31) = nn (2 ^ p) := by decide +kernel
theorem bt_1 (hp : p < 7) : bt (nn 1 <<< (nn p &&& 31)) (fun v => decide (v = p)) := by
  rw [sh_1 p hp]
  refine bt_congr (bt_nn (by
    have : 2 ^ p ≤ 2 ^ 6 := Nat.pow_le_pow_right (by omega) (by omega)
    omega)) (fun v hv => ?_)
  rw [Nat.testBit_two_pow]
  exact decide_eq_decide.mpr (by omega)
theorem eq_0 : x.toInt = 0 ↔ x = nn 0 := by
  rw [← Int32.toInt_inj, ti_0]
theorem bt_z (hx : bt x M) : x.toInt = 0 ↔ ∀ v, v < 7 → M v = false := by
  rw [eq_0]
  constructor
  · intro h v hv
    have h1 := hx v (by omega)
    rw [h, bt_0 v (by omega), decide_eq_true hv] at h1
    simpa using h1.symm
  · intro h
    rw [← Int32.toBitVec_inj]
    refine BitVec.eq_of_getLsbD_eq (fun v hv => ?_)
    rw [hx v hv, bt_0 v hv]
    by_cases h7 : v < 7
    · rw [h v h7]
    · rw [decide_eq_false h7]
      rfl
/-- is a bit set -/
theorem bt_t (hx : bt x M) (hi : i < 7) : (x &&& (nn 1 <<< (nn i &&& 31))).toInt = 0 ↔ M i = false := by
  rw [bt_z (bt_and hx (bt_1 hi))]
  constructor
  · intro h
    have h1 := h i hi
    simpa using h1
  · intro h v hv
    by_cases c : v = i
    · subst c
      show (M v && _) = false
      rw [h, Bool.false_and]
    · rw [decide_eq_false c, Bool.and_false]
theorem bt_64 (hx : bt x M) : (x &&& nn 64).toInt = 0 ↔ M 6 = false := bt_t hx (i := 6) (by omega)
theorem bt_56 (hx : bt x M) : (x &&& nn 56).toInt = 0 ↔ ∀ v, 3 ≤ v → v < 6 → M v = false := by
  rw [bt_z (bt_and hx (bt_nn (k := 56) (by omega)))]
  constructor
  · intro h v h3 h6
    have h1 := h v (by omega)
    have h2 : v = 3 ∨ v = 4 ∨ v = 5 := by omega
    rcases h2 with rfl | rfl | rfl <;> simpa [Nat.testBit] using h1
  · intro h v hv
    by_cases h3 : 3 ≤ v ∧ v < 6
    · rw [h v h3.1 h3.2, Bool.false_and]
    · have h2 : v = 0 ∨ v = 1 ∨ v = 2 ∨ v = 6 := by omega
      rcases h2 with rfl | rfl | rfl | rfl <;> simp [Nat.testBit]
theorem bt_n64 (hx : bt x M) : bt (x &&& (-65 : Int32)) (fun v => decide (v ≠ 6) && M v) := fun v hv => by
  rw [Int32.toBitVec_and, BitVec.getLsbD_and, hx v hv]
  have h : ∀ v, v < 32 → (-65 : Int32).toBitVec.getLsbD v = decide (v ≠ 6) := by decide +kernel
  rw [h v hv]
  cases decide (v < 7) <;> cases hm : M v <;> simp [hm]
theorem bt_clr (hx : bt x M) (hp : p < 7) : bt (x &&& ((nn 1 <<< (nn p &&& 31)) ^^^ (-1 : Int32))) (fun v => decide (v ≠ p) && M v) := fun v hv => by
  rw [Int32.toBitVec_and, BitVec.getLsbD_and, hx v hv, Int32.toBitVec_xor, BitVec.getLsbD_xor, bt_1 hp v hv]
  have h : ∀ v, v < 32 → (-1 : Int32).toBitVec.getLsbD v = true := by decide +kernel
  rw [h v hv]
  by_cases c : v = p
  · subst c
    rw [decide_eq_true hp]
    simp
  · cases decide (v < 7) <;> cases hm : M v <;> simp [c, hm]
theorem bt_k (hx : bt x M) : ∃ k, k < 128 ∧ x = nn k ∧ ∀ v, v < 7 → M v = k.testBit v := by
  have h1 : x.toBitVec.toNat < 2 ^ 7 := Nat.lt_pow_two_of_testBit _ (fun i hi => by
    by_cases h32 : i < 32
    · have := hx i h32
      rw [decide_eq_false (by omega), Bool.false_and] at this
      exact this
    · exact Nat.testBit_lt_two_pow (Nat.lt_of_lt_of_le x.toBitVec.isLt (Nat.pow_le_pow_right (n := 2) (by omega) (by omega))))
  have e : x = nn x.toBitVec.toNat := by
    rw [← Int32.toBitVec_inj]
    show x.toBitVec = BitVec.ofNat 32 x.toBitVec.toNat
    rw [BitVec.ofNat_toNat]
    simp
  refine ⟨x.toBitVec.toNat, h1, e, fun v hv => ?_⟩
  have := hx v (by omega)
  rw [decide_eq_true hv, Bool.true_and] at this
  exact this.symm
/-- how many bits -/
def bn (M : Nat → Bool) : Nat := ((List.range 7).map (fun v => if M v then 1 else 0)).sum
def us (a b : Int32) : Int32 := (a.toUInt32 >>> (b.toUInt32 &&& Int32.toUInt32 31)).toInt32
def bc1 (i : Int32) : Int32 := i - (us i (nn 1) &&& 1431655765)
def bc2 (i : Int32) : Int32 := (i &&& 858993459) + (us i (nn 2) &&& 858993459)
def bc3 (i : Int32) : Int32 := (i + us i (nn 4)) &&& 252645135
def bc4 (i : Int32) : Int32 := i + us i (nn 8)
def bc5 (i : Int32) : Int32 := (i + us i (nn 16)) &&& nn 63
theorem bc_k : ∀ k, k < 128 → bc5 (bc4 (bc3 (bc2 (bc1 (nn k))))) = nn (bn (fun v => k.testBit v)) := by decide +kernel
theorem bn_congr (h : ∀ v, v < 7 → M v = N v) : bn M = bn N := by
  unfold bn
  congr 1
  exact List.map_congr_left (fun v hv => by rw [h v (List.mem_range.mp hv)])
theorem bc_bn (hx : bt x M) : bc5 (bc4 (bc3 (bc2 (bc1 x)))) = nn (bn M) := by
  obtain ⟨k, hk, e, h⟩ := bt_k hx
  rw [e, bc_k k hk, bn_congr h]
/-- a bit of a long -/
def bq (x : Int64) (p : Nat) : Bool := x.toBitVec.getLsbD p
theorem lsh_1 : ∀ p, p < 64 → ((1 : Int64) <<< ((nn p).toInt64 &&& 63)).toBitVec = BitVec.twoPow 64 p := by decide +kernel
theorem bq_or {x : Int64} (hp : p < 64) : bq (x ||| (1 <<< ((nn p).toInt64 &&& 63))) q = (bq x q || decide (q = p)) := by
  unfold bq
  rw [Int64.toBitVec_or, BitVec.getLsbD_or, lsh_1 p hp, BitVec.getLsbD_twoPow]
  by_cases c : p = q
  · subst c; simp [hp]
  · have c2 : ¬ q = p := fun h => c h.symm
    simp [c, c2]
theorem bq_z {x : Int64} (hp : p < 64) : x &&& (1 <<< ((nn p).toInt64 &&& 63)) = 0 ↔ bq x p = false := by
  rw [← Int64.toBitVec_inj]
  constructor
  · intro h
    have h1 : (x &&& (1 <<< ((nn p).toInt64 &&& 63))).toBitVec.getLsbD p = (0 : Int64).toBitVec.getLsbD p := by rw [h]
    rw [Int64.toBitVec_and, BitVec.getLsbD_and, lsh_1 p hp, BitVec.getLsbD_twoPow] at h1
    have h2 : (0 : Int64).toBitVec.getLsbD p = false := by
      show (0#64).getLsbD p = false
      simp
    rw [h2] at h1
    simpa [hp, bq] using h1
  · intro h
    refine BitVec.eq_of_getLsbD_eq (fun v hv => ?_)
    rw [Int64.toBitVec_and, BitVec.getLsbD_and, lsh_1 p hp, BitVec.getLsbD_twoPow]
    have h2 : (0 : Int64).toBitVec.getLsbD v = false := by
      show (0#64).getLsbD v = false
      simp
    rw [h2]
    by_cases c : p = v
    · subst c
      unfold bq at h
      rw [h, Bool.false_and]
    · simp [c]
theorem bq_0 : bq 0 p = false := by
  unfold bq
  show (0#64).getLsbD p = false
  simp
theorem or_0 (x : Int64) : x ||| 0 = x := by simp
/-- the code of three values -/
theorem cd_k : ∀ a b c, a < 4 → b < 4 → c < 4 → ((((nn a &&& nn 3) <<< (nn 2 &&& 31)) ||| (nn b &&& nn 3)) <<< (nn 2 &&& 31)) ||| (nn c &&& nn 3) = nn (16 * a + 4 * b + c) := by
  intro a b c ha hb hc
  have h1 : a = 0 ∨ a = 1 ∨ a = 2 ∨ a = 3 := by omega
  have h2 : b = 0 ∨ b = 1 ∨ b = 2 ∨ b = 3 := by omega
  have h3 : c = 0 ∨ c = 1 ∨ c = 2 ∨ c = 3 := by omega
  rcases h1 with rfl | rfl | rfl | rfl <;> rcases h2 with rfl | rfl | rfl | rfl <;> rcases h3 with rfl | rfl | rfl | rfl <;> decide +kernel
end XC
