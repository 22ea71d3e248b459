/-! An abstract machine of our own: a heap is a list of cells at addresses 0, 1, ..; a run is a function of fuel. -/
section AM
abbrev am_E : Type := (Nat × vp_A) ⊕ (Nat × List Value)
abbrev am_H : Type := List am_E
abbrev am_L : Type := List (Option Value)
/-- how a method ends: it returned, or threw an exception of a class by its number -/
abbrev am_A : Type := Option Value ⊕ Nat
abbrev am_O : Type := (Nat × am_L × List Value × am_H) ⊕ ((Nat × List Value × List Value) ⊕ am_A)
/-- a method: its name, code, locals, answer, handlers (from, to, where, place in the pool, class), frames, words -/
abbrev am_M : Type := MethodName × ByteArray × Nat × Option FieldType × List (Nat × Nat × Nat × Nat × Nat) × Nat × Nat
/-- methods; fields (class, place, type, may be written here); callees (number, arguments, kind: 0 static, 1 virtual, 2 a constructor); members that are known; classes that are made; exceptions that are made; arrays of objects that are made; what a new object holds; the class of a method's own objects; the component of an array; the script; constants of the pool; the exceptions' classes -/
abbrev am_P : Type := (Nat → am_M) × (Nat → Nat → Option (Nat × Nat × FieldType × Bool)) × (Nat → Nat → Option (Nat × Nat × Nat)) × (Nat → Nat → Option Nat) × (Nat → Nat → Option Nat) × (Nat → Nat → Nat → Option Nat) × (Nat → Nat → Option Nat) × (Nat → List Value) × (Nat → Nat) × (Nat → Nat) × Nat × (Nat → Int32) × (Nat → Nat → Option Int32) × List Nat
abbrev am_me (P : am_P) : Nat → am_M := P.1
abbrev am_fd (P : am_P) : Nat → Nat → Option (Nat × Nat × FieldType × Bool) := P.2.1
abbrev am_ca (P : am_P) : Nat → Nat → Option (Nat × Nat × Nat) := P.2.2.1
abbrev am_sp (P : am_P) : Nat → Nat → Option Nat := P.2.2.2.1
abbrev am_nw (P : am_P) : Nat → Nat → Option Nat := P.2.2.2.2.1
abbrev am_xn (P : am_P) : Nat → Nat → Nat → Option Nat := P.2.2.2.2.2.1
abbrev am_an (P : am_P) : Nat → Nat → Option Nat := P.2.2.2.2.2.2.1
abbrev am_df (P : am_P) : Nat → List Value := P.2.2.2.2.2.2.2.1
abbrev am_rc (P : am_P) : Nat → Nat := P.2.2.2.2.2.2.2.2.1
abbrev am_cp (P : am_P) : Nat → Nat := P.2.2.2.2.2.2.2.2.2.1
abbrev am_sL (P : am_P) : Nat := P.2.2.2.2.2.2.2.2.2.2.1
abbrev am_sX (P : am_P) : Nat → Int32 := P.2.2.2.2.2.2.2.2.2.2.2.1
abbrev am_kc (P : am_P) : Nat → Nat → Option Int32 := P.2.2.2.2.2.2.2.2.2.2.2.2.1
abbrev am_xl (P : am_P) : List Nat := P.2.2.2.2.2.2.2.2.2.2.2.2.2
abbrev am_nm (M : am_M) : MethodName := M.1
abbrev am_cd (M : am_M) : ByteArray := M.2.1
abbrev am_ml (M : am_M) : Nat := M.2.2.1
abbrev am_rt (M : am_M) : Option FieldType := M.2.2.2.1
abbrev am_hd (M : am_M) : List (Nat × Nat × Nat × Nat × Nat) := M.2.2.2.2.1
abbrev am_rf (M : am_M) : Nat := M.2.2.2.2.2.1
abbrev am_rl (M : am_M) : Nat := M.2.2.2.2.2.2
/-- the script's own address -/
def am_scr : Nat := 1000000000
abbrev am_I (n : Nat) (f : Nat → Int32) : am_E := .inl (0, n, .inl f)
abbrev am_J (n : Nat) (f : Nat → Int64) : am_E := .inl (1, n, .inr (.inl f))
abbrev am_Z (n : Nat) (f : Nat → Int32) : am_E := .inl (2, n, .inl f)
abbrev am_R (t n : Nat) (g : Nat → Option Nat) : am_E := .inl (t, n, .inr (.inr (.inr (.inr g))))
abbrev am_B (c : Nat) (fs : List Value) : am_E := .inr (c, fs)
/-- the slots of a cell; an exception has six -/
def am_ez : am_E → Nat
  | .inl a => a.2.1
  | .inr (_, []) => 6
  | .inr (_, v :: r) => (v :: r).length
def am_sl (h : am_H) : Nat := (h.map am_ez).sum
def am_nx (pc : Nat) (lo : am_L) (st : List Value) (h : am_H) : Option am_O := some (.inl (pc, lo, st, h))
def am_wd (st : List Value) : Nat := (st.map fun v => v.category).sum
def am_in (i : Int32) (n : Nat) : Bool := decide (0 ≤ i.toInt) && decide (i.toInt < n)
-- what an instruction takes from the stack
def am_i1 (st : List Value) (k : Int32 → List Value → Option am_O) : Option am_O := match st with
  | .int x :: r => k x r
  | _ => none
def am_i2 (st : List Value) (k : Int32 → Int32 → List Value → Option am_O) : Option am_O := match st with
  | .int y :: .int x :: r => k x y r
  | _ => none
def am_j2 (st : List Value) (k : Int64 → Int64 → List Value → Option am_O) : Option am_O := match st with
  | .long y :: .long x :: r => k x y r
  | _ => none
def am_ij (st : List Value) (k : Int64 → Int32 → List Value → Option am_O) : Option am_O := match st with
  | .int y :: .long x :: r => k x y r
  | _ => none
def am_r1 (st : List Value) (k : Nat → List Value → Option am_O) : Option am_O := match st with
  | .ref a :: r => k a r
  | _ => none
def am_ir (st : List Value) (k : Int32 → Nat → List Value → Option am_O) : Option am_O := match st with
  | .int i :: .ref a :: r => k i a r
  | _ => none
def am_vr (st : List Value) (k : Value → Nat → List Value → Option am_O) : Option am_O := match st with
  | v :: .ref a :: r => k v a r
  | _ => none
def am_vir (st : List Value) (k : Value → Int32 → Nat → List Value → Option am_O) : Option am_O := match st with
  | v :: .int i :: .ref a :: r => k v i a r
  | _ => none
def am_cy (st : List Value) (k : Nat → Int32 → Nat → Int32 → Int32 → List Value → Option am_O) : Option am_O := match st with
  | .int n :: .int dp :: .ref a1 :: .int sp :: .ref a0 :: r => k a0 sp a1 dp n r
  | _ => none
-- what lies at an address
def am_gI (h : am_H) (a : Nat) (k : Nat → (Nat → Int32) → Option am_O) : Option am_O := match h[a]? with
  | some (.inl (0, n, .inl f)) => k n f
  | _ => none
def am_gJ (h : am_H) (a : Nat) (k : Nat → (Nat → Int64) → Option am_O) : Option am_O := match h[a]? with
  | some (.inl (1, n, .inr (.inl f))) => k n f
  | _ => none
def am_gZ (h : am_H) (a : Nat) (k : Nat → (Nat → Int32) → Option am_O) : Option am_O := match h[a]? with
  | some (.inl (2, n, .inl f)) => k n f
  | _ => none
def am_gR (h : am_H) (a : Nat) (k : Nat → Nat → (Nat → Option Nat) → Option am_O) : Option am_O := match h[a]? with
  | some (.inl (t, n, .inr (.inr (.inr (.inr g))))) => k t n g
  | _ => none
def am_gB (h : am_H) (a : Nat) (k : Nat → List Value → Option am_O) : Option am_O := match h[a]? with
  | some (.inr (c, fs)) => k c fs
  | _ => none
-- locals
def am_li (pc k : Nat) (lo : am_L) (st : List Value) (h : am_H) : Option am_O := match lo[k]? with
  | some (some (.int x)) => am_nx pc lo (.int x :: st) h
  | _ => none
def am_lj (pc k : Nat) (lo : am_L) (st : List Value) (h : am_H) : Option am_O := match lo[k]? with
  | some (some (.long x)) => am_nx pc lo (.long x :: st) h
  | _ => none
def am_la (pc k : Nat) (lo : am_L) (st : List Value) (h : am_H) : Option am_O := match lo[k]? with
  | some (some (.ref x)) => am_nx pc lo (.ref x :: st) h
  | some (some .null) => am_nx pc lo (.null :: st) h
  | _ => none
/-- no long before the place -/
def am_pv (lo : am_L) : Nat → Bool
  | 0 => true
  | j + 1 => match lo[j]? with
    | some (some v) => v.category == 1
    | _ => true
def am_s1 (pc k : Nat) (v : Value) (lo : am_L) (r : List Value) (h : am_H) : Option am_O :=
  if (decide (k < lo.length) && am_pv lo k && v.category == 1) = true then am_nx pc (lo.set k (some v)) r h else none
def am_s2 (pc k : Nat) (v : Value) (lo : am_L) (r : List Value) (h : am_H) : Option am_O :=
  if (decide (k + 1 < lo.length) && am_pv lo k && v.category == 2) = true then am_nx pc ((lo.set k (some v)).set (k + 1) none) r h else none
def am_si (pc k : Nat) (lo : am_L) (st : List Value) (h : am_H) : Option am_O := match st with
  | .int x :: r => am_s1 pc k (.int x) lo r h
  | _ => none
def am_sj (pc k : Nat) (lo : am_L) (st : List Value) (h : am_H) : Option am_O := match st with
  | .long x :: r => am_s2 pc k (.long x) lo r h
  | _ => none
def am_sa (pc k : Nat) (lo : am_L) (st : List Value) (h : am_H) : Option am_O := match st with
  | .ref x :: r => am_s1 pc k (.ref x) lo r h
  | .null :: r => am_s1 pc k .null lo r h
  | _ => none
-- jumps
def am_to (pc : Nat) (off : Int) (k : Nat → Option am_O) : Option am_O := if 0 ≤ (pc : Int) + off then k ((pc : Int) + off).toNat else none
def am_cc (c : ClassFile.Cond) (x y : Int32) : Bool := match c with
  | .eq => decide (x = y)
  | .ne => !decide (x = y)
  | .lt => decide (x < y)
  | .ge => decide (y ≤ x)
  | .gt => decide (y < x)
  | .le => decide (x ≤ y)
/-- a value that a field of a type takes as it is -/
def am_ft (ty : FieldType) (v : Value) : Bool := match ty, v with
  | .int, .int _ => true
  | .boolean, .int x => decide (x = 0) || decide (x = 1)
  | .object _, .ref _ => true
  | .object _, .null => true
  | .array _, .ref _ => true
  | .array _, .null => true
  | _, _ => false
def am_call (P : am_P) (y z : Nat) (as rest : List Value) : Option am_O :=
  if (decide (am_rf (am_me P z) + 1 ≤ am_rf (am_me P y)) && decide (am_wd rest + (am_ml (am_me P z) + 11) + am_rl (am_me P z) ≤ am_rl (am_me P y))) = true then some (.inr (.inl (z, as, rest))) else none
/-- n arguments from the stack, the last on top -/
def am_as (n : Nat) (st : List Value) (k : List Value → List Value → Option am_O) : Option am_O := if n ≤ st.length then k (st.take n).reverse (st.drop n) else none
end AM
section AMX
/-- the length of an instruction (a switch has any) -/
def am_ln (i : Instr) (len : Nat) : Bool := match i with
  | .bipush _ => len == 2
  | .sipush _ => len == 3
  | .iload _ => len == 2
  | .lload _ => len == 2
  | .aload _ => len == 2
  | .istore _ => len == 2
  | .lstore _ => len == 2
  | .astore _ => len == 2
  | .iinc _ _ => len == 3
  | .ifCond _ _ => len == 3
  | .if_icmp _ _ => len == 3
  | .ifnull _ => len == 3
  | .ifnonnull _ => len == 3
  | .goto _ => len == 3
  | .getfield _ => len == 3
  | .putfield _ => len == 3
  | .new _ => len == 3
  | .anewarray _ => len == 3
  | .newarray _ => len == 2
  | .ldc_w _ => len == 3
  | .checkcast _ => len == 3
  | .invokestatic _ => len == 3
  | .invokevirtual _ => len == 3
  | .invokespecial _ => len == 3
  | .tableswitch _ _ _ _ => true
  | .lookupswitch _ _ => true
  | _ => len == 1
/-- the answer is an object -/
def am_ro (t : Option FieldType) : Bool := match t with
  | some (.object _) => true
  | some (.array _) => true
  | _ => false
def am_ex (P : am_P) (y pc : Nat) (i : Instr) (lo : am_L) (st : List Value) (h : am_H) : Option am_O := match i with
  | .iconst n => am_nx (pc + 1) lo (.int (Int32.ofInt n) :: st) h
  | .bipush n => am_nx (pc + 2) lo (.int (Int8.ofInt n).toInt32 :: st) h
  | .sipush n => am_nx (pc + 3) lo (.int (Int16.ofInt n).toInt32 :: st) h
  | .lconst n => am_nx (pc + 1) lo (.long (Int64.ofNat (n : Nat)) :: st) h
  | .aconst_null => am_nx (pc + 1) lo (.null :: st) h
  | .ldc_w ix => (match am_kc P y ix with
    | some v => am_nx (pc + 3) lo (.int v :: st) h
    | none => none)
  | .iload k => am_li (pc + 2) k lo st h
  | .iload_n k => am_li (pc + 1) k lo st h
  | .lload k => am_lj (pc + 2) k lo st h
  | .lload_n k => am_lj (pc + 1) k lo st h
  | .aload k => am_la (pc + 2) k lo st h
  | .aload_n k => am_la (pc + 1) k lo st h
  | .istore k => am_si (pc + 2) k lo st h
  | .istore_n k => am_si (pc + 1) k lo st h
  | .lstore k => am_sj (pc + 2) k lo st h
  | .lstore_n k => am_sj (pc + 1) k lo st h
  | .astore k => am_sa (pc + 2) k lo st h
  | .astore_n k => am_sa (pc + 1) k lo st h
  | .iinc k n => (match lo[k]? with
    | some (some (.int x)) => am_s1 (pc + 3) k (.int (x + Int32.ofInt n)) lo st h
    | _ => none)
  | .iadd => am_i2 st fun a b r => am_nx (pc + 1) lo (.int (a + b) :: r) h
  | .isub => am_i2 st fun a b r => am_nx (pc + 1) lo (.int (a - b) :: r) h
  | .imul => am_i2 st fun a b r => am_nx (pc + 1) lo (.int (a * b) :: r) h
  | .idiv => am_i2 st fun a b r => if b = 0 then none else am_nx (pc + 1) lo (.int (a / b) :: r) h
  | .iand => am_i2 st fun a b r => am_nx (pc + 1) lo (.int (a &&& b) :: r) h
  | .ior => am_i2 st fun a b r => am_nx (pc + 1) lo (.int (a ||| b) :: r) h
  | .ixor => am_i2 st fun a b r => am_nx (pc + 1) lo (.int (a ^^^ b) :: r) h
  | .ishl => am_i2 st fun a b r => am_nx (pc + 1) lo (.int (a <<< (b &&& 31)) :: r) h
  | .iushr => am_i2 st fun a b r => am_nx (pc + 1) lo (.int (a.toUInt32 >>> (b.toUInt32 &&& Int32.toUInt32 31)).toInt32 :: r) h
  | .land => am_j2 st fun a b r => am_nx (pc + 1) lo (.long (a &&& b) :: r) h
  | .lor => am_j2 st fun a b r => am_nx (pc + 1) lo (.long (a ||| b) :: r) h
  | .lshl => am_ij st fun a b r => am_nx (pc + 1) lo (.long (a <<< (b.toInt64 &&& 63)) :: r) h
  | .lcmp => am_j2 st fun a b r => am_nx (pc + 1) lo (.int (lg_cmp a b) :: r) h
  | .i2l => am_i1 st fun a r => am_nx (pc + 1) lo (.long a.toInt64 :: r) h
  | .dup => (match st with
    | v :: r => if v.category = 1 then am_nx (pc + 1) lo (v :: v :: r) h else none
    | _ => none)
  | .pop => (match st with
    | v :: r => if v.category = 1 then am_nx (pc + 1) lo r h else none
    | _ => none)
  | .dup_x1 => (match st with
    | v :: w :: r => if v.category = 1 ∧ w.category = 1 then am_nx (pc + 1) lo (v :: w :: v :: r) h else none
    | _ => none)
  | .dup_x2 => (match st with
    | v :: w :: u :: r => if v.category = 1 ∧ w.category = 1 ∧ u.category = 1 then am_nx (pc + 1) lo (v :: w :: u :: v :: r) h else none
    | _ => none)
  | .dup2 => (match st with
    | v :: w :: r => if v.category = 1 ∧ w.category = 1 then am_nx (pc + 1) lo (v :: w :: v :: w :: r) h else none
    | _ => none)
  | .ifCond c off => am_i1 st fun x r => am_to pc off fun t => am_nx (if am_cc c x 0 = true then t else pc + 3) lo r h
  | .if_icmp c off => am_i2 st fun a b r => am_to pc off fun t => am_nx (if am_cc c a b = true then t else pc + 3) lo r h
  | .ifnull off => (match st with
    | .null :: r => am_to pc off fun t => am_nx t lo r h
    | .ref _ :: r => am_nx (pc + 3) lo r h
    | _ => none)
  | .ifnonnull off => (match st with
    | .null :: r => am_nx (pc + 3) lo r h
    | .ref _ :: r => am_to pc off fun t => am_nx t lo r h
    | _ => none)
  | .goto off => am_to pc off fun t => am_nx t lo st h
  | .tableswitch d a b offs => am_i1 st fun x r => if x.toInt < a ∨ b < x.toInt then am_to pc d fun t => am_nx t lo r h else match offs[(x.toInt - a).toNat]? with
    | some o => am_to pc o fun t => am_nx t lo r h
    | none => none
  | .lookupswitch d ps => am_i1 st fun x r => if (ps.toList.zip (ps.toList.drop 1)).all (fun q => decide (q.1.1 < q.2.1)) = true then am_to pc (Op.lookupswitch.offset ps.toList d x.toInt) fun t => am_nx t lo r h else none
  | .getfield ix => (match am_fd P y ix with
    | some (ci, k, _, _) => am_r1 st fun a r => am_gB h a fun c fs => if c = ci then (match fs[k]? with
      | some v => am_nx (pc + 3) lo (v :: r) h
      | none => none) else none
    | none => none)
  | .putfield ix => (match am_fd P y ix with
    | some (ci, k, ty, true) => am_vr st fun v a r => am_gB h a fun c fs => if c = ci ∧ k < fs.length ∧ am_ft ty v = true then am_nx (pc + 3) lo r (h.set a (.inr (c, fs.set k v))) else none
    | _ => none)
  | .iaload => am_ir st fun i a r => if a = am_scr then (if am_in i (am_sL P) = true then am_nx (pc + 1) lo (.int (am_sX P i.toNatClampNeg) :: r) h else none) else am_gI h a fun n f => if am_in i n = true then am_nx (pc + 1) lo (.int (f i.toNatClampNeg) :: r) h else none
  | .baload => am_ir st fun i a r => am_gZ h a fun n f => if am_in i n = true then am_nx (pc + 1) lo (.int (f i.toNatClampNeg) :: r) h else none
  | .laload => am_ir st fun i a r => am_gJ h a fun n f => if am_in i n = true then am_nx (pc + 1) lo (.long (f i.toNatClampNeg) :: r) h else none
  | .aaload => am_ir st fun i a r => am_gR h a fun t n g => if am_in i n = true ∧ 2 < t ∧ t < 5 then am_nx (pc + 1) lo (va_rf (g i.toNatClampNeg) :: r) h else none
  | .iastore => am_vir st fun v i a r => (match v with
    | .int x => am_gI h a fun n f => if am_in i n = true then am_nx (pc + 1) lo r (h.set a (am_I n (upd f i.toNatClampNeg x))) else none
    | _ => none)
  | .bastore => am_vir st fun v i a r => (match v with
    | .int x => am_gZ h a fun n f => if am_in i n = true then am_nx (pc + 1) lo r (h.set a (am_Z n (upd f i.toNatClampNeg (vp_nar .boolean x)))) else none
    | _ => none)
  | .lastore => am_vir st fun v i a r => (match v with
    | .long x => am_gJ h a fun n f => if am_in i n = true then am_nx (pc + 1) lo r (h.set a (am_J n (vp_updL f i.toNatClampNeg x))) else none
    | _ => none)
  | .aastore => am_vir st fun v i a r => (match v with
    | .ref x => am_gR h a fun t n g => am_gB h x fun ci _ => if (am_in i n = true ∧ 2 < t ∧ t < 5) ∧ am_cp P t = ci then am_nx (pc + 1) lo r (h.set a (am_R t n (va_up g i.toNatClampNeg (some x)))) else none
    | _ => none)
  | .arraylength => am_r1 st fun a r => if a = am_scr then am_nx (pc + 1) lo (.int (Int32.ofNat (am_sL P)) :: r) h else (match h[a]? with
    | some (.inl (t, n, _)) => if t < 5 then am_nx (pc + 1) lo (.int (Int32.ofNat n) :: r) h else none
    | _ => none)
  | .newarray ty => am_i1 st fun x r => if 0 ≤ x.toInt ∧ x.toInt < 100000 then (match ty with
    | .int => am_nx (pc + 2) lo (.ref h.length :: r) (h ++ [am_I x.toNatClampNeg (fun _ => 0)])
    | .long => am_nx (pc + 2) lo (.ref h.length :: r) (h ++ [am_J x.toNatClampNeg (fun _ => 0)])
    | .boolean => am_nx (pc + 2) lo (.ref h.length :: r) (h ++ [am_Z x.toNatClampNeg (fun _ => 0)])
    | _ => none) else none
  | .anewarray ix => (match am_an P y ix with
    | some t => am_i1 st fun x r => if 0 ≤ x.toInt ∧ x.toInt < 100000 then am_nx (pc + 3) lo (.ref h.length :: r) (h ++ [am_R t x.toNatClampNeg (fun _ => none)]) else none
    | none => none)
  | .new ix => (match am_nw P y ix with
    | some ci => am_nx (pc + 3) lo (.ref h.length :: st) (h ++ [.inr (ci, am_df P ci)])
    | none => (match decode (am_cd (am_me P y)) (pc + 3), decode (am_cd (am_me P y)) (pc + 4), decode (am_cd (am_me P y)) (pc + 7) with
      | .ok (.dup, 1), .ok (.invokespecial ic, 3), .ok (.athrow, 1) => (match am_xn P y ix ic with
        | some ci => if 5 < am_rf (am_me P y) ∧ am_wd st + 82 ≤ am_rl (am_me P y) then some (.inr (.inr (.inr ci))) else none
        | none => none)
      | _, _, _ => none))
  | .invokespecial ix => (match am_sp P y ix with
    | some 0 => am_r1 st fun _ r => if 1 ≤ am_rf (am_me P y) ∧ am_wd r + 12 ≤ am_rl (am_me P y) then am_nx (pc + 3) lo r h else none
    | some _ => none
    | none => (match am_ca P y ix with
      | some (z, n, 2) => am_as n st fun as r => am_r1 r fun a r => am_call P y z (.ref a :: as) r
      | _ => none))
  | .checkcast ix => (match am_sp P y ix with
    | some 5 => am_r1 st fun a r => am_gI h a fun _ _ => am_nx (pc + 3) lo (.ref a :: r) h
    | _ => none)
  | .invokevirtual ix => (match am_sp P y ix with
    | some 4 => am_r1 st fun a r => am_gI h a fun n f => if 1 ≤ am_rf (am_me P y) ∧ am_wd r + 14 ≤ am_rl (am_me P y) then am_nx (pc + 3) lo (.ref h.length :: r) (h ++ [am_I n f]) else none
    | some _ => none
    | none => (match am_ca P y ix with
      | some (z, n, 1) => am_as n st fun as r => am_r1 r fun a r => am_gB h a fun c _ => if c = am_rc P z then am_call P y z (.ref a :: as) r else none
      | _ => none))
  | .invokestatic ix => (match am_sp P y ix with
    | some 1 => am_i2 st fun a b r => if 1 ≤ am_rf (am_me P y) ∧ am_wd r + 13 ≤ am_rl (am_me P y) then am_nx (pc + 3) lo (.int (if a < b then b else a) :: r) h else none
    | some 2 => am_i2 st fun a b r => if 1 ≤ am_rf (am_me P y) ∧ am_wd r + 13 ≤ am_rl (am_me P y) then am_nx (pc + 3) lo (.int (if b < a then b else a) :: r) h else none
    | some 3 => am_cy st fun a0 sp a1 dp k r => am_gI h a0 fun n0 f => am_gI h a1 fun n1 g =>
        if (0 ≤ sp.toInt ∧ 0 ≤ dp.toInt ∧ 0 ≤ k.toInt ∧ sp.toNatClampNeg + k.toNatClampNeg ≤ n0 ∧ dp.toNatClampNeg + k.toNatClampNeg ≤ n1) ∧ 1 ≤ am_rf (am_me P y) ∧ am_wd r + (nativeFrameWords "java/lang/System" "arraycopy" 5 + 11) ≤ am_rl (am_me P y) then
          am_nx (pc + 3) lo r (h.set a1 (am_I n1 (va_cpy f g sp.toNatClampNeg dp.toNatClampNeg k.toNatClampNeg))) else none
    | some _ => none
    | none => (match am_ca P y ix with
      | some (z, n, 0) => am_as n st fun as r => am_call P y z as r
      | _ => none))
  | .ireturn => (match st with
    | [.int x] => if am_rt (am_me P y) = some .int ∨ (am_rt (am_me P y) = some .boolean ∧ (x = 0 ∨ x = 1)) then some (.inr (.inr (.inl (some (.int x))))) else none
    | _ => none)
  | .areturn => if am_ro (am_rt (am_me P y)) = true then (match st with
    | [.ref x] => some (.inr (.inr (.inl (some (.ref x)))))
    | [.null] => some (.inr (.inr (.inl (some .null))))
    | _ => none) else none
  | .return_ => if am_rt (am_me P y) = none then (match st with
    | [] => some (.inr (.inr (.inl none)))
    | _ => none) else none
  | _ => none
def am_st (P : am_P) (y pc : Nat) (lo : am_L) (st : List Value) (h : am_H) : Option am_O := match decode (am_cd (am_me P y)) pc with
  | .ok (i, len) => if am_ln i len = true then am_ex P y pc i lo st h else none
  | _ => none
/-- the slots of the arguments; a long takes two -/
def am_en : List Value → am_L
  | [] => []
  | v :: r => if v.category = 1 then some v :: am_en r else some v :: none :: am_en r
def am_en0 (P : am_P) (z : Nat) (as : List Value) : Option am_L := if (am_en as).length ≤ am_ml (am_me P z) then some (am_en as ++ List.replicate (am_ml (am_me P z) - (am_en as).length) none) else none
/-- where an exception of a class is caught: behind the handler's store, and the place that it stores into -/
def am_fh (P : am_P) (y pc E : Nat) : Option (Nat × Nat) := if E ∈ am_xl P then (match (am_hd (am_me P y)).find? (fun q => decide (q.1 ≤ pc) && decide (pc < q.2.1) && decide (q.2.2.2.2 = E)) with
  | some q => (match decode (am_cd (am_me P y)) q.2.2.1 with
    | .ok (.astore k, 2) => some (q.2.2.1 + 2, k)
    | .ok (.astore_n k, 1) => some (q.2.2.1 + 1, k)
    | _ => none)
  | none => none) else none
/-- nothing is caught here -/
def am_no (P : am_P) (y pc : Nat) : Bool := (am_hd (am_me P y)).all (fun q => !(decide (q.1 ≤ pc) && decide (pc < q.2.1)))
def am_run (P : am_P) : Nat → Nat → Nat → am_L → List Value → am_H → Option (am_A × am_H)
  | 0, _, _, _, _, _ => none
  | n + 1, y, pc, lo, st, h => match am_st P y pc lo st h with
    | none => none
    | some (.inl (pc', lo', st', h')) => am_run P n y pc' lo' st' h'
    | some (.inr (.inl (z, as, rest))) => (match am_en0 P z as with
      | none => none
      | some l0 => (match am_run P n z 0 l0 [] h with
        | none => none
        | some (.inl v, h1) => am_run P n y (pc + 3) lo (v.toList ++ rest) h1
        | some (.inr E, h1) => if am_no P y pc = true then some (.inr E, h1) else (match am_fh P y pc E with
          | some (pc', k) => if k < lo.length ∧ am_pv lo k = true then am_run P n y pc' (lo.set k none) [] h1 else none
          | none => none)))
    | some (.inr (.inr (.inl v))) => some (.inl v, h)
    | some (.inr (.inr (.inr E))) => if am_no P y (pc + 7) = true then some (.inr E, h ++ [.inr (E, [])]) else none
end AMX
