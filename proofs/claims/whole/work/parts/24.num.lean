/-! Numbers and truths. -/
section NA
theorem nn_toInt {k : Nat} (h : k < 2147483648) : (nn k).toInt = k := by
  unfold nn
  rw [Int32.toInt_ofNat_of_lt (by omega)]
theorem nn_add (a b : Nat) : nn a + nn b = nn (a + b) := by
  unfold nn
  exact (Int32.ofNat_add a b).symm
theorem nn_mul (a b : Nat) : nn a * nn b = nn (a * b) := by
  unfold nn
  exact (Int32.ofNat_mul a b).symm
theorem nn_sub {a b : Nat} (h : b ≤ a) : nn a - nn b = nn (a - b) := by
  have e : nn a = nn (a - b) + nn b := by rw [nn_add, Nat.sub_add_cancel h]
  rw [e, Int32.add_sub_cancel]
theorem nn_inj {a b : Nat} (ha : a < 2147483648) (hb : b < 2147483648) : nn a = nn b ↔ a = b := by
  refine ⟨fun h => ?_, fun h => by rw [h]⟩
  have h1 := congrArg Int32.toInt h
  rw [nn_toInt ha, nn_toInt hb] at h1
  omega
theorem nn_of {x : Int32} (h : 0 ≤ x.toInt) : x = nn x.toInt.toNat ∧ x.toInt.toNat < 2147483648 := by
  have h2 := x.toInt_lt
  have h3 : x.toInt.toNat < 2147483648 := by omega
  refine ⟨?_, h3⟩
  rw [← Int32.toInt_inj, nn_toInt h3]
  omega
theorem nn_0 : nn 0 = 0 := rfl
theorem nn_1 : nn 1 = 1 := rfl
/-- a truth as a number -/
def bb (p : Prop) [Decidable p] : Int32 := if p then nn 1 else nn 0
theorem bb_t {p : Prop} [Decidable p] (h : p) : bb p = nn 1 := by unfold bb; rw [if_pos h]
theorem bb_f {p : Prop} [Decidable p] (h : ¬ p) : bb p = nn 0 := by unfold bb; rw [if_neg h]
theorem bb_01 (p : Prop) [Decidable p] : bb p = 0 ∨ bb p = 1 := by
  by_cases h : p
  · right; rw [bb_t h]; rfl
  · left; rw [bb_f h]; rfl
theorem bb_congr {p q : Prop} [Decidable p] [Decidable q] (h : p ↔ q) : bb p = bb q := by
  by_cases hp : p
  · rw [bb_t hp, bb_t (h.mp hp)]
  · rw [bb_f hp, bb_f (fun hq => hp (h.mpr hq))]
theorem am_ft_bb (p : Prop) [Decidable p] : am_ft .boolean (.int (bb p)) = true := by
  rcases bb_01 p with h | h <;> rw [h] <;> rfl
variable {P : am_P} {y pc : Nat} {lo : am_L} {st : List Value} {h : am_H} {Q : am_A → am_H → Prop}
theorem cb_6 : (Int8.ofInt 6).toInt32 = nn 6 := by decide +kernel
theorem cb_7 : (Int8.ofInt 7).toInt32 = nn 7 := by decide +kernel
theorem cb_8 : (Int8.ofInt 8).toInt32 = nn 8 := by decide +kernel
theorem cb_9 : (Int8.ofInt 9).toInt32 = nn 9 := by decide +kernel
theorem cb_10 : (Int8.ofInt 10).toInt32 = nn 10 := by decide +kernel
theorem cb_12 : (Int8.ofInt 12).toInt32 = nn 12 := by decide +kernel
theorem cb_16 : (Int8.ofInt 16).toInt32 = nn 16 := by decide +kernel
theorem cb_20 : (Int8.ofInt 20).toInt32 = nn 20 := by decide +kernel
theorem cb_22 : (Int8.ofInt 22).toInt32 = nn 22 := by decide +kernel
theorem cb_24 : (Int8.ofInt 24).toInt32 = nn 24 := by decide +kernel
theorem cb_25 : (Int8.ofInt 25).toInt32 = nn 25 := by decide +kernel
theorem cb_26 : (Int8.ofInt 26).toInt32 = nn 26 := by decide +kernel
theorem cb_30 : (Int8.ofInt 30).toInt32 = nn 30 := by decide +kernel
theorem cb_31 : (Int8.ofInt 31).toInt32 = nn 31 := by decide +kernel
theorem cb_40 : (Int8.ofInt 40).toInt32 = nn 40 := by decide +kernel
theorem cb_50 : (Int8.ofInt 50).toInt32 = nn 50 := by decide +kernel
theorem cb_52 : (Int8.ofInt 52).toInt32 = nn 52 := by decide +kernel
theorem cb_53 : (Int8.ofInt 53).toInt32 = nn 53 := by decide +kernel
theorem cb_55 : (Int8.ofInt 55).toInt32 = nn 55 := by decide +kernel
theorem cb_56 : (Int8.ofInt 56).toInt32 = nn 56 := by decide +kernel
theorem cb_57 : (Int8.ofInt 57).toInt32 = nn 57 := by decide +kernel
theorem cb_58 : (Int8.ofInt 58).toInt32 = nn 58 := by decide +kernel
theorem cb_59 : (Int8.ofInt 59).toInt32 = nn 59 := by decide +kernel
theorem cb_60 : (Int8.ofInt 60).toInt32 = nn 60 := by decide +kernel
theorem cb_63 : (Int8.ofInt 63).toInt32 = nn 63 := by decide +kernel
theorem cb_64 : (Int8.ofInt 64).toInt32 = nn 64 := by decide +kernel
theorem cb_65 : (Int8.ofInt 65).toInt32 = nn 65 := by decide +kernel
theorem cb_72 : (Int8.ofInt 72).toInt32 = nn 72 := by decide +kernel
theorem ci_0 : Int32.ofInt 0 = nn 0 := by decide +kernel
theorem ci_1 : Int32.ofInt 1 = nn 1 := by decide +kernel
theorem ci_2 : Int32.ofInt 2 = nn 2 := by decide +kernel
theorem ci_3 : Int32.ofInt 3 = nn 3 := by decide +kernel
theorem ci_4 : Int32.ofInt 4 = nn 4 := by decide +kernel
theorem ci_5 : Int32.ofInt 5 = nn 5 := by decide +kernel
theorem cs_360 : (Int16.ofInt 360).toInt32 = nn 360 := by decide +kernel
theorem cs_366 : (Int16.ofInt 366).toInt32 = nn 366 := by decide +kernel
theorem cs_720 : (Int16.ofInt 720).toInt32 = nn 720 := by decide +kernel
theorem cs_999 : (Int16.ofInt 999).toInt32 = nn 999 := by decide +kernel
theorem ci_m1 : Int32.ofInt (-1) = -1 := by decide +kernel
theorem cb_m65 : (Int8.ofInt (-65)).toInt32 = (-65 : Int32) := by decide +kernel
theorem cs_m999 : (Int16.ofInt (-999)).toInt32 = (-999 : Int32) := by decide +kernel
theorem g_iaddN {a b : Nat} (d : decode (am_cd (am_me P y)) pc = .ok (.iadd, 1)) (kk : go P y (pc + 1) lo (.int (nn (a + b)) :: st) h Q) : go P y pc lo (.int (nn b) :: .int (nn a) :: st) h Q := g_iadd d (by rw [nn_add]; exact kk)
theorem g_imulN {a b : Nat} (d : decode (am_cd (am_me P y)) pc = .ok (.imul, 1)) (kk : go P y (pc + 1) lo (.int (nn (a * b)) :: st) h Q) : go P y pc lo (.int (nn b) :: .int (nn a) :: st) h Q := g_imul d (by rw [nn_mul]; exact kk)
theorem g_isubN {a b : Nat} (d : decode (am_cd (am_me P y)) pc = .ok (.isub, 1)) (hb : b ≤ a) (kk : go P y (pc + 1) lo (.int (nn (a - b)) :: st) h Q) : go P y pc lo (.int (nn b) :: .int (nn a) :: st) h Q := g_isub d (by rw [nn_sub hb]; exact kk)
theorem g_iincN {k i : Nat} {lo1 : am_L} (d : decode (am_cd (am_me P y)) pc = .ok (.iinc k 1, 3)) (hx : lo[k]? = some (some (.int (nn i)))) (hk : (decide (k < lo.length) && am_pv lo k) = true) (hl : lo.set k (some (.int (nn (i + 1)))) = lo1) (kk : go P y (pc + 3) lo1 st h Q) : go P y pc lo st h Q :=
  g_iinc d hx hk (by rw [show nn i + Int32.ofInt 1 = nn (i + 1) from nn_add i 1]; exact hl) kk
theorem g_idecN {k i : Nat} {lo1 : am_L} (d : decode (am_cd (am_me P y)) pc = .ok (.iinc k (-1), 3)) (hx : lo[k]? = some (some (.int (nn (i + 1))))) (hk : (decide (k < lo.length) && am_pv lo k) = true) (hl : lo.set k (some (.int (nn i))) = lo1) (kk : go P y (pc + 3) lo1 st h Q) : go P y pc lo st h Q :=
  g_iinc d hx hk (by
    have e : nn (i + 1) + Int32.ofInt (-1) = nn i := by
      have h1 := nn_sub (a := i + 1) (b := 1) (by omega)
      rw [Nat.add_sub_cancel] at h1
      rw [← h1, Int32.sub_eq_add_neg]
      rfl
    rw [e]; exact hl) kk
theorem g_ifeqB {off : _} {t : Nat} {p : Prop} [Decidable p] (d : decode (am_cd (am_me P y)) pc = .ok (.ifCond .eq off, 3)) (ht : (pc : Int) + off = (t : Int)) (k1 : ¬ p → go P y t lo st h Q) (k2 : p → go P y (pc + 3) lo st h Q) : go P y pc lo (.int (bb p) :: st) h Q := by
  by_cases hp : p
  · exact g_ifeq_f d ht (by rw [bb_t hp]; decide) (k2 hp)
  · exact g_ifeq_t d ht (by rw [bb_f hp]; rfl) (k1 hp)
theorem g_ifneB {off : _} {t : Nat} {p : Prop} [Decidable p] (d : decode (am_cd (am_me P y)) pc = .ok (.ifCond .ne off, 3)) (ht : (pc : Int) + off = (t : Int)) (k1 : p → go P y t lo st h Q) (k2 : ¬ p → go P y (pc + 3) lo st h Q) : go P y pc lo (.int (bb p) :: st) h Q := by
  by_cases hp : p
  · exact g_ifne_t d ht (by rw [bb_t hp]; decide) (k1 hp)
  · exact g_ifne_f d ht (by rw [bb_f hp]; rfl) (k2 hp)
theorem g_breturnB {p : Prop} [Decidable p] (d : decode (am_cd (am_me P y)) pc = .ok (.ireturn, 1)) (hr : am_rt (am_me P y) = some .boolean) (q : Q (.inl (some (.int (bb p)))) h) : go P y pc lo [.int (bb p)] h Q := g_breturn d hr (bb_01 p) q

theorem g_iceqN {off : _} {t a b : Nat} (d : decode (am_cd (am_me P y)) pc = .ok (.if_icmp .eq off, 3)) (ht : (pc : Int) + off = (t : Int)) (hb : a < 2147483648 ∧ b < 2147483648) (k1 : a = b → go P y t lo st h Q) (k2 : a ≠ b → go P y (pc + 3) lo st h Q) : go P y pc lo (.int (nn b) :: .int (nn a) :: st) h Q := by
  refine g_iceq d ht (fun hc => k1 ?_) (fun hc => k2 ?_) <;> simpa [nn_inj hb.1 hb.2] using hc
theorem g_ifeqN {off : _} {t a : Nat} (d : decode (am_cd (am_me P y)) pc = .ok (.ifCond .eq off, 3)) (ht : (pc : Int) + off = (t : Int)) (hb : a < 2147483648) (k1 : a = 0 → go P y t lo st h Q) (k2 : a ≠ 0 → go P y (pc + 3) lo st h Q) : go P y pc lo (.int (nn a) :: st) h Q := by
  refine g_ifeq d ht (fun hc => k1 ?_) (fun hc => k2 ?_) <;> simpa [← nn_0, nn_inj hb] using hc
theorem g_icneN {off : _} {t a b : Nat} (d : decode (am_cd (am_me P y)) pc = .ok (.if_icmp .ne off, 3)) (ht : (pc : Int) + off = (t : Int)) (hb : a < 2147483648 ∧ b < 2147483648) (k1 : a ≠ b → go P y t lo st h Q) (k2 : a = b → go P y (pc + 3) lo st h Q) : go P y pc lo (.int (nn b) :: .int (nn a) :: st) h Q := by
  refine g_icne d ht (fun hc => k1 ?_) (fun hc => k2 ?_) <;> simpa [nn_inj hb.1 hb.2] using hc
theorem g_ifneN {off : _} {t a : Nat} (d : decode (am_cd (am_me P y)) pc = .ok (.ifCond .ne off, 3)) (ht : (pc : Int) + off = (t : Int)) (hb : a < 2147483648) (k1 : a ≠ 0 → go P y t lo st h Q) (k2 : a = 0 → go P y (pc + 3) lo st h Q) : go P y pc lo (.int (nn a) :: st) h Q := by
  refine g_ifne d ht (fun hc => k1 ?_) (fun hc => k2 ?_) <;> simpa [← nn_0, nn_inj hb] using hc
theorem g_icltN {off : _} {t a b : Nat} (d : decode (am_cd (am_me P y)) pc = .ok (.if_icmp .lt off, 3)) (ht : (pc : Int) + off = (t : Int)) (hb : a < 2147483648 ∧ b < 2147483648) (k1 : a < b → go P y t lo st h Q) (k2 : b ≤ a → go P y (pc + 3) lo st h Q) : go P y pc lo (.int (nn b) :: .int (nn a) :: st) h Q := by
  refine g_iclt d ht (fun hc => k1 ?_) (fun hc => k2 ?_) <;> (rw [nn_toInt hb.1, nn_toInt hb.2] at hc; omega)
theorem g_ifltN {off : _} {a : Nat} {t : Nat} (d : decode (am_cd (am_me P y)) pc = .ok (.ifCond .lt off, 3)) (ht : (pc : Int) + off = (t : Int)) (hb : a < 2147483648) (kk : go P y (pc + 3) lo st h Q) : go P y pc lo (.int (nn a) :: st) h Q := g_iflt_f d ht (by rw [nn_toInt hb]; omega) kk
theorem g_icgeN {off : _} {t a b : Nat} (d : decode (am_cd (am_me P y)) pc = .ok (.if_icmp .ge off, 3)) (ht : (pc : Int) + off = (t : Int)) (hb : a < 2147483648 ∧ b < 2147483648) (k1 : b ≤ a → go P y t lo st h Q) (k2 : a < b → go P y (pc + 3) lo st h Q) : go P y pc lo (.int (nn b) :: .int (nn a) :: st) h Q := by
  refine g_icge d ht (fun hc => k1 ?_) (fun hc => k2 ?_) <;> (rw [nn_toInt hb.1, nn_toInt hb.2] at hc; omega)
theorem g_ifgeN {off : _} {a : Nat} {t : Nat} (d : decode (am_cd (am_me P y)) pc = .ok (.ifCond .ge off, 3)) (ht : (pc : Int) + off = (t : Int)) (hb : a < 2147483648) (kk : go P y t lo st h Q) : go P y pc lo (.int (nn a) :: st) h Q := g_ifge_t d ht (by rw [nn_toInt hb]; omega) kk
theorem g_icgtN {off : _} {t a b : Nat} (d : decode (am_cd (am_me P y)) pc = .ok (.if_icmp .gt off, 3)) (ht : (pc : Int) + off = (t : Int)) (hb : a < 2147483648 ∧ b < 2147483648) (k1 : b < a → go P y t lo st h Q) (k2 : a ≤ b → go P y (pc + 3) lo st h Q) : go P y pc lo (.int (nn b) :: .int (nn a) :: st) h Q := by
  refine g_icgt d ht (fun hc => k1 ?_) (fun hc => k2 ?_) <;> (rw [nn_toInt hb.1, nn_toInt hb.2] at hc; omega)
theorem g_ifgtN {off : _} {t a : Nat} (d : decode (am_cd (am_me P y)) pc = .ok (.ifCond .gt off, 3)) (ht : (pc : Int) + off = (t : Int)) (hb : a < 2147483648) (k1 : 0 < a → go P y t lo st h Q) (k2 : a = 0 → go P y (pc + 3) lo st h Q) : go P y pc lo (.int (nn a) :: st) h Q := by
  refine g_ifgt d ht (fun hc => k1 ?_) (fun hc => k2 ?_) <;> (rw [nn_toInt hb] at hc; omega)
theorem g_icleN {off : _} {t a b : Nat} (d : decode (am_cd (am_me P y)) pc = .ok (.if_icmp .le off, 3)) (ht : (pc : Int) + off = (t : Int)) (hb : a < 2147483648 ∧ b < 2147483648) (k1 : a ≤ b → go P y t lo st h Q) (k2 : b < a → go P y (pc + 3) lo st h Q) : go P y pc lo (.int (nn b) :: .int (nn a) :: st) h Q := by
  refine g_icle d ht (fun hc => k1 ?_) (fun hc => k2 ?_) <;> (rw [nn_toInt hb.1, nn_toInt hb.2] at hc; omega)
theorem g_ifleN {off : _} {t a : Nat} (d : decode (am_cd (am_me P y)) pc = .ok (.ifCond .le off, 3)) (ht : (pc : Int) + off = (t : Int)) (hb : a < 2147483648) (k1 : a = 0 → go P y t lo st h Q) (k2 : 0 < a → go P y (pc + 3) lo st h Q) : go P y pc lo (.int (nn a) :: st) h Q := by
  refine g_ifle d ht (fun hc => k1 ?_) (fun hc => k2 ?_) <;> (rw [nn_toInt hb] at hc; omega)
theorem ti_0 : (nn 0).toInt = 0 := by decide +kernel
theorem ti_1 : (nn 1).toInt = 1 := by decide +kernel
theorem ti_2 : (nn 2).toInt = 2 := by decide +kernel
theorem ti_3 : (nn 3).toInt = 3 := by decide +kernel
theorem ti_4 : (nn 4).toInt = 4 := by decide +kernel
theorem ti_5 : (nn 5).toInt = 5 := by decide +kernel
theorem ti_6 : (nn 6).toInt = 6 := by decide +kernel
theorem ti_7 : (nn 7).toInt = 7 := by decide +kernel
theorem ti_8 : (nn 8).toInt = 8 := by decide +kernel
theorem ti_9 : (nn 9).toInt = 9 := by decide +kernel
theorem ti_10 : (nn 10).toInt = 10 := by decide +kernel
theorem ti_12 : (nn 12).toInt = 12 := by decide +kernel
theorem ti_16 : (nn 16).toInt = 16 := by decide +kernel
theorem ti_20 : (nn 20).toInt = 20 := by decide +kernel
theorem ti_22 : (nn 22).toInt = 22 := by decide +kernel
theorem ti_24 : (nn 24).toInt = 24 := by decide +kernel
theorem ti_25 : (nn 25).toInt = 25 := by decide +kernel
theorem ti_26 : (nn 26).toInt = 26 := by decide +kernel
theorem ti_30 : (nn 30).toInt = 30 := by decide +kernel
theorem ti_31 : (nn 31).toInt = 31 := by decide +kernel
theorem ti_40 : (nn 40).toInt = 40 := by decide +kernel
theorem ti_48 : (nn 48).toInt = 48 := by decide +kernel
theorem ti_50 : (nn 50).toInt = 50 := by decide +kernel
theorem ti_52 : (nn 52).toInt = 52 := by decide +kernel
theorem ti_53 : (nn 53).toInt = 53 := by decide +kernel
theorem ti_55 : (nn 55).toInt = 55 := by decide +kernel
theorem ti_56 : (nn 56).toInt = 56 := by decide +kernel
theorem ti_57 : (nn 57).toInt = 57 := by decide +kernel
theorem ti_58 : (nn 58).toInt = 58 := by decide +kernel
theorem ti_59 : (nn 59).toInt = 59 := by decide +kernel
theorem ti_60 : (nn 60).toInt = 60 := by decide +kernel
theorem ti_63 : (nn 63).toInt = 63 := by decide +kernel
theorem ti_64 : (nn 64).toInt = 64 := by decide +kernel
theorem ti_65 : (nn 65).toInt = 65 := by decide +kernel
theorem ti_72 : (nn 72).toInt = 72 := by decide +kernel
theorem ti_127 : (nn 127).toInt = 127 := by decide +kernel
theorem ti_360 : (nn 360).toInt = 360 := by decide +kernel
theorem ti_366 : (nn 366).toInt = 366 := by decide +kernel
theorem ti_720 : (nn 720).toInt = 720 := by decide +kernel
theorem ti_999 : (nn 999).toInt = 999 := by decide +kernel
theorem ti_m1 : (-1 : Int32).toInt = -1 := by decide +kernel
theorem ti_m999 : (-999 : Int32).toInt = -999 := by decide +kernel
theorem g_iceqT {off : _} {t : Nat} {x z : Int32} (d : decode (am_cd (am_me P y)) pc = .ok (.if_icmp .eq off, 3)) (ht : (pc : Int) + off = (t : Int)) (k1 : x.toInt = z.toInt → go P y t lo st h Q) (k2 : x.toInt ≠ z.toInt → go P y (pc + 3) lo st h Q) : go P y pc lo (.int z :: .int x :: st) h Q := g_iceq d ht (fun hc => k1 (by simpa [Int32.toInt_inj] using hc)) (fun hc => k2 (by simpa [Int32.toInt_inj] using hc))
theorem g_ifeqT {off : _} {t : Nat} {x : Int32} (d : decode (am_cd (am_me P y)) pc = .ok (.ifCond .eq off, 3)) (ht : (pc : Int) + off = (t : Int)) (k1 : x.toInt = 0 → go P y t lo st h Q) (k2 : x.toInt ≠ 0 → go P y (pc + 3) lo st h Q) : go P y pc lo (.int x :: st) h Q := g_ifeq d ht (fun hc => k1 (by simpa [← Int32.toInt_inj] using hc)) (fun hc => k2 (by simpa [← Int32.toInt_inj] using hc))
theorem g_icneT {off : _} {t : Nat} {x z : Int32} (d : decode (am_cd (am_me P y)) pc = .ok (.if_icmp .ne off, 3)) (ht : (pc : Int) + off = (t : Int)) (k1 : x.toInt ≠ z.toInt → go P y t lo st h Q) (k2 : x.toInt = z.toInt → go P y (pc + 3) lo st h Q) : go P y pc lo (.int z :: .int x :: st) h Q := g_icne d ht (fun hc => k1 (by simpa [Int32.toInt_inj] using hc)) (fun hc => k2 (by simpa [Int32.toInt_inj] using hc))
theorem g_ifneT {off : _} {t : Nat} {x : Int32} (d : decode (am_cd (am_me P y)) pc = .ok (.ifCond .ne off, 3)) (ht : (pc : Int) + off = (t : Int)) (k1 : x.toInt ≠ 0 → go P y t lo st h Q) (k2 : x.toInt = 0 → go P y (pc + 3) lo st h Q) : go P y pc lo (.int x :: st) h Q := g_ifne d ht (fun hc => k1 (by simpa [← Int32.toInt_inj] using hc)) (fun hc => k2 (by simpa [← Int32.toInt_inj] using hc))
theorem g_idecM {k i : Nat} {lo1 : am_L} (d : decode (am_cd (am_me P y)) pc = .ok (.iinc k (-1), 3)) (hx : lo[k]? = some (some (.int (nn i)))) (hk : (decide (k < lo.length) && am_pv lo k) = true) (hl : lo.set k (some (.int (nn i - nn 1))) = lo1) (kk : go P y (pc + 3) lo1 st h Q) : go P y pc lo st h Q :=
  g_iinc d hx hk (by rw [show nn i + Int32.ofInt (-1) = nn i - nn 1 by rw [Int32.sub_eq_add_neg]; rfl]; exact hl) kk
theorem g_split {x : Int32} (v : Int) (k1 : x.toInt = v → go P y pc lo (.int x :: st) h Q) (k2 : x.toInt ≠ v → go P y pc lo (.int x :: st) h Q) : go P y pc lo (.int x :: st) h Q := by
  by_cases hc : x.toInt = v
  · exact k1 hc
  · exact k2 hc
theorem nn_pred (r : Nat) : nn (r + 1) - nn 1 = nn r := by
  rw [nn_sub (by omega)]
  rfl
end NA
