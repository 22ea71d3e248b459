/-! The tables without the script. -/
def nn (k : Nat) : Int32 := Int32.ofNat k
def tb_fdF (y ix : Nat) : Option (Nat × Nat × FieldType × Bool) := match (tb_fdl.getD (tb_kl y) []).find? (fun e => e.1 == ix) with
    | some (_, ci, k, ty, fin, same, _) => some (ci, k, ty, !fin || (tb_ini y && same))
    | none => none
def tb_caF (y ix : Nat) : Option (Nat × Nat × Nat) := match (tb_cal.getD (tb_kl y) []).find? (fun e => e.1 == ix) with
    | some (_, z, n, k, _, _) => some (z, n, k)
    | none => none
def tb_spF (y ix : Nat) : Option Nat := match (tb_spl.getD (tb_kl y) []).find? (fun e => e.1 == ix) with
    | some (_, k, _) => some k
    | none => none
def tb_nwF (y ix : Nat) : Option Nat := match (tb_nwl.getD (tb_kl y) []).find? (fun e => e.1 == ix) with
    | some (_, ci, _, _, _) => some ci
    | none => none
def tb_xnF (y ix ic : Nat) : Option Nat := match (tb_xnl.getD (tb_kl y) []).find? (fun e => e.1 == ix && e.2.1 == ic) with
    | some (_, _, E, _, _) => some E
    | none => none
def tb_anF (y ix : Nat) : Option Nat := match (tb_anl.getD (tb_kl y) []).find? (fun e => e.1 == ix) with
    | some (_, t, _) => some t
    | none => none
def tb_kcF (y ix : Nat) : Option Int32 := match (tb_kcl.getD (tb_kl y) []).find? (fun e => e.1 == ix) with
    | some (_, v, _) => some v
    | none => none
