/-! Facts of the instructions, printed by a program of our own. -/
theorem k35_0 {L : Nat} {xs : Nat → Int32} : decode (am_cd (am_me (tb_P L xs) 35)) 0 = .ok (.aload_n 0, 1) := show decode (am_cd (tb_me 35)) 0 = .ok (.aload_n 0, 1) from by decide +kernel
theorem k35_1 {L : Nat} {xs : Nat → Int32} : decode (am_cd (am_me (tb_P L xs) 35)) 1 = .ok (.iconst 0, 1) := show decode (am_cd (tb_me 35)) 1 = .ok (.iconst 0, 1) from by decide +kernel
theorem k35_2 {L : Nat} {xs : Nat → Int32} : decode (am_cd (am_me (tb_P L xs) 35)) 2 = .ok (.putfield 22, 3) := show decode (am_cd (tb_me 35)) 2 = .ok (.putfield 22, 3) from by decide +kernel
theorem f35_2 {L : Nat} {xs : Nat → Int32} : am_fd (tb_P L xs) 35 22 = some (7, 4, (.boolean : FieldType), true) := show tb_fdF 35 22 = some (7, 4, (.boolean : FieldType), true) from by decide +kernel
theorem k35_5 {L : Nat} {xs : Nat → Int32} : decode (am_cd (am_me (tb_P L xs) 35)) 5 = .ok (.aload_n 0, 1) := show decode (am_cd (tb_me 35)) 5 = .ok (.aload_n 0, 1) from by decide +kernel
theorem k35_6 {L : Nat} {xs : Nat → Int32} : decode (am_cd (am_me (tb_P L xs) 35)) 6 = .ok (.iconst 0, 1) := show decode (am_cd (tb_me 35)) 6 = .ok (.iconst 0, 1) from by decide +kernel
theorem k35_7 {L : Nat} {xs : Nat → Int32} : decode (am_cd (am_me (tb_P L xs) 35)) 7 = .ok (.putfield 26, 3) := show decode (am_cd (tb_me 35)) 7 = .ok (.putfield 26, 3) from by decide +kernel
theorem f35_7 {L : Nat} {xs : Nat → Int32} : am_fd (tb_P L xs) 35 26 = some (7, 5, (.boolean : FieldType), true) := show tb_fdF 35 26 = some (7, 5, (.boolean : FieldType), true) from by decide +kernel
theorem k35_10 {L : Nat} {xs : Nat → Int32} : decode (am_cd (am_me (tb_P L xs) 35)) 10 = .ok (.aload_n 0, 1) := show decode (am_cd (tb_me 35)) 10 = .ok (.aload_n 0, 1) from by decide +kernel
theorem k35_11 {L : Nat} {xs : Nat → Int32} : decode (am_cd (am_me (tb_P L xs) 35)) 11 = .ok (.iconst 0, 1) := show decode (am_cd (tb_me 35)) 11 = .ok (.iconst 0, 1) from by decide +kernel
theorem k35_12 {L : Nat} {xs : Nat → Int32} : decode (am_cd (am_me (tb_P L xs) 35)) 12 = .ok (.putfield 18, 3) := show decode (am_cd (tb_me 35)) 12 = .ok (.putfield 18, 3) from by decide +kernel
theorem f35_12 {L : Nat} {xs : Nat → Int32} : am_fd (tb_P L xs) 35 18 = some (7, 3, (.int : FieldType), true) := show tb_fdF 35 18 = some (7, 3, (.int : FieldType), true) from by decide +kernel
theorem k35_15 {L : Nat} {xs : Nat → Int32} : decode (am_cd (am_me (tb_P L xs) 35)) 15 = .ok (.return_, 1) := show decode (am_cd (tb_me 35)) 15 = .ok (.return_, 1) from by decide +kernel
theorem t35 {L : Nat} {xs : Nat → Int32} : am_rt (am_me (tb_P L xs) 35) = none := show am_rt (tb_me 35) = none from by decide +kernel
theorem l35 {L : Nat} {xs : Nat → Int32} : am_ml (am_me (tb_P L xs) 35) = 1 := show am_ml (tb_me 35) = 1 from by decide +kernel
theorem o35 {L : Nat} {xs : Nat → Int32} (pc : Nat) : am_no (tb_P L xs) 35 pc = true := show (am_hd (tb_me 35)).all (fun q => !(decide (q.1 ≤ pc) && decide (pc < q.2.1))) = true from by rw [show am_hd (tb_me 35) = [] by decide +kernel]; rfl
theorem k36_0 {L : Nat} {xs : Nat → Int32} : decode (am_cd (am_me (tb_P L xs) 36)) 0 = .ok (.aload_n 0, 1) := show decode (am_cd (tb_me 36)) 0 = .ok (.aload_n 0, 1) from by decide +kernel
theorem k36_1 {L : Nat} {xs : Nat → Int32} : decode (am_cd (am_me (tb_P L xs) 36)) 1 = .ok (.getfield 53, 3) := show decode (am_cd (tb_me 36)) 1 = .ok (.getfield 53, 3) from by decide +kernel
theorem f36_1 {L : Nat} {xs : Nat → Int32} : am_fd (tb_P L xs) 36 53 = some (0, 5, (.object "GluedMachines$Run" : FieldType), false) := show tb_fdF 36 53 = some (0, 5, (.object "GluedMachines$Run" : FieldType), false) from by decide +kernel
theorem k36_4 {L : Nat} {xs : Nat → Int32} : decode (am_cd (am_me (tb_P L xs) 36)) 4 = .ok (.getfield 230, 3) := show decode (am_cd (tb_me 36)) 4 = .ok (.getfield 230, 3) from by decide +kernel
theorem f36_4 {L : Nat} {xs : Nat → Int32} : am_fd (tb_P L xs) 36 230 = some (7, 5, (.boolean : FieldType), true) := show tb_fdF 36 230 = some (7, 5, (.boolean : FieldType), true) from by decide +kernel
theorem k36_7 {L : Nat} {xs : Nat → Int32} : decode (am_cd (am_me (tb_P L xs) 36)) 7 = .ok (.ireturn, 1) := show decode (am_cd (tb_me 36)) 7 = .ok (.ireturn, 1) from by decide +kernel
theorem t36 {L : Nat} {xs : Nat → Int32} : am_rt (am_me (tb_P L xs) 36) = some (.boolean : FieldType) := show am_rt (tb_me 36) = some (.boolean : FieldType) from by decide +kernel
theorem l36 {L : Nat} {xs : Nat → Int32} : am_ml (am_me (tb_P L xs) 36) = 1 := show am_ml (tb_me 36) = 1 from by decide +kernel
theorem o36 {L : Nat} {xs : Nat → Int32} (pc : Nat) : am_no (tb_P L xs) 36 pc = true := show (am_hd (tb_me 36)).all (fun q => !(decide (q.1 ≤ pc) && decide (pc < q.2.1))) = true from by rw [show am_hd (tb_me 36) = [] by decide +kernel]; rfl
theorem k37_0 {L : Nat} {xs : Nat → Int32} : decode (am_cd (am_me (tb_P L xs) 37)) 0 = .ok (.aload_n 0, 1) := show decode (am_cd (tb_me 37)) 0 = .ok (.aload_n 0, 1) from by decide +kernel
theorem k37_1 {L : Nat} {xs : Nat → Int32} : decode (am_cd (am_me (tb_P L xs) 37)) 1 = .ok (.getfield 37, 3) := show decode (am_cd (tb_me 37)) 1 = .ok (.getfield 37, 3) from by decide +kernel
theorem f37_1 {L : Nat} {xs : Nat → Int32} : am_fd (tb_P L xs) 37 37 = some (0, 3, (.object "GluedMachines$Model" : FieldType), false) := show tb_fdF 37 37 = some (0, 3, (.object "GluedMachines$Model" : FieldType), false) from by decide +kernel
theorem k37_4 {L : Nat} {xs : Nat → Int32} : decode (am_cd (am_me (tb_P L xs) 37)) 4 = .ok (.getfield 167, 3) := show decode (am_cd (tb_me 37)) 4 = .ok (.getfield 167, 3) from by decide +kernel
theorem f37_4 {L : Nat} {xs : Nat → Int32} : am_fd (tb_P L xs) 37 167 = some (5, 4, (.object "GluedMachines$Invariants" : FieldType), false) := show tb_fdF 37 167 = some (5, 4, (.object "GluedMachines$Invariants" : FieldType), false) from by decide +kernel
theorem k37_7 {L : Nat} {xs : Nat → Int32} : decode (am_cd (am_me (tb_P L xs) 37)) 7 = .ok (.iconst 1, 1) := show decode (am_cd (tb_me 37)) 7 = .ok (.iconst 1, 1) from by decide +kernel
theorem k37_8 {L : Nat} {xs : Nat → Int32} : decode (am_cd (am_me (tb_P L xs) 37)) 8 = .ok (.aload_n 0, 1) := show decode (am_cd (tb_me 37)) 8 = .ok (.aload_n 0, 1) from by decide +kernel
theorem k37_9 {L : Nat} {xs : Nat → Int32} : decode (am_cd (am_me (tb_P L xs) 37)) 9 = .ok (.getfield 53, 3) := show decode (am_cd (tb_me 37)) 9 = .ok (.getfield 53, 3) from by decide +kernel
theorem f37_9 {L : Nat} {xs : Nat → Int32} : am_fd (tb_P L xs) 37 53 = some (0, 5, (.object "GluedMachines$Run" : FieldType), false) := show tb_fdF 37 53 = some (0, 5, (.object "GluedMachines$Run" : FieldType), false) from by decide +kernel
theorem k37_12 {L : Nat} {xs : Nat → Int32} : decode (am_cd (am_me (tb_P L xs) 37)) 12 = .ok (.getfield 223, 3) := show decode (am_cd (tb_me 37)) 12 = .ok (.getfield 223, 3) from by decide +kernel
theorem f37_12 {L : Nat} {xs : Nat → Int32} : am_fd (tb_P L xs) 37 223 = some (7, 4, (.boolean : FieldType), true) := show tb_fdF 37 223 = some (7, 4, (.boolean : FieldType), true) from by decide +kernel
theorem k37_15 {L : Nat} {xs : Nat → Int32} : decode (am_cd (am_me (tb_P L xs) 37)) 15 = .ok (.ifCond .eq 13, 3) := show decode (am_cd (tb_me 37)) 15 = .ok (.ifCond .eq 13, 3) from by decide +kernel
theorem k37_18 {L : Nat} {xs : Nat → Int32} : decode (am_cd (am_me (tb_P L xs) 37)) 18 = .ok (.aload_n 0, 1) := show decode (am_cd (tb_me 37)) 18 = .ok (.aload_n 0, 1) from by decide +kernel
theorem k37_19 {L : Nat} {xs : Nat → Int32} : decode (am_cd (am_me (tb_P L xs) 37)) 19 = .ok (.getfield 53, 3) := show decode (am_cd (tb_me 37)) 19 = .ok (.getfield 53, 3) from by decide +kernel
theorem f37_19 {L : Nat} {xs : Nat → Int32} : am_fd (tb_P L xs) 37 53 = some (0, 5, (.object "GluedMachines$Run" : FieldType), false) := show tb_fdF 37 53 = some (0, 5, (.object "GluedMachines$Run" : FieldType), false) from by decide +kernel
theorem k37_22 {L : Nat} {xs : Nat → Int32} : decode (am_cd (am_me (tb_P L xs) 37)) 22 = .ok (.getfield 245, 3) := show decode (am_cd (tb_me 37)) 22 = .ok (.getfield 245, 3) from by decide +kernel
theorem f37_22 {L : Nat} {xs : Nat → Int32} : am_fd (tb_P L xs) 37 245 = some (7, 1, (.array .int : FieldType), false) := show tb_fdF 37 245 = some (7, 1, (.array .int : FieldType), false) from by decide +kernel
theorem k37_25 {L : Nat} {xs : Nat → Int32} : decode (am_cd (am_me (tb_P L xs) 37)) 25 = .ok (.goto 10, 3) := show decode (am_cd (tb_me 37)) 25 = .ok (.goto 10, 3) from by decide +kernel
theorem k37_28 {L : Nat} {xs : Nat → Int32} : decode (am_cd (am_me (tb_P L xs) 37)) 28 = .ok (.aload_n 0, 1) := show decode (am_cd (tb_me 37)) 28 = .ok (.aload_n 0, 1) from by decide +kernel
theorem k37_29 {L : Nat} {xs : Nat → Int32} : decode (am_cd (am_me (tb_P L xs) 37)) 29 = .ok (.getfield 37, 3) := show decode (am_cd (tb_me 37)) 29 = .ok (.getfield 37, 3) from by decide +kernel
theorem f37_29 {L : Nat} {xs : Nat → Int32} : am_fd (tb_P L xs) 37 37 = some (0, 3, (.object "GluedMachines$Model" : FieldType), false) := show tb_fdF 37 37 = some (0, 3, (.object "GluedMachines$Model" : FieldType), false) from by decide +kernel
theorem k37_32 {L : Nat} {xs : Nat → Int32} : decode (am_cd (am_me (tb_P L xs) 37)) 32 = .ok (.getfield 71, 3) := show decode (am_cd (tb_me 37)) 32 = .ok (.getfield 71, 3) from by decide +kernel
theorem f37_32 {L : Nat} {xs : Nat → Int32} : am_fd (tb_P L xs) 37 71 = some (5, 1, (.array .int : FieldType), false) := show tb_fdF 37 71 = some (5, 1, (.array .int : FieldType), false) from by decide +kernel
theorem k37_35 {L : Nat} {xs : Nat → Int32} : decode (am_cd (am_me (tb_P L xs) 37)) 35 = .ok (.invokevirtual 246, 3) := show decode (am_cd (tb_me 37)) 35 = .ok (.invokevirtual 246, 3) from by decide +kernel
theorem s37_35 {L : Nat} {xs : Nat → Int32} : am_sp (tb_P L xs) 37 246 = none := show tb_spF 37 246 = none from by decide +kernel
theorem c37_35 {L : Nat} {xs : Nat → Int32} : am_ca (tb_P L xs) 37 246 = some (9, 2, 1) := show tb_caF 37 246 = some (9, 2, 1) from by decide +kernel
theorem r37_35 {L : Nat} {xs : Nat → Int32} : am_rf (am_me (tb_P L xs) 9) + 1 ≤ am_rf (am_me (tb_P L xs) 37) ∧ 0 + (am_ml (am_me (tb_P L xs) 9) + 11) + am_rl (am_me (tb_P L xs) 9) ≤ am_rl (am_me (tb_P L xs) 37) := show am_rf (tb_me 9) + 1 ≤ am_rf (tb_me 37) ∧ 0 + (am_ml (tb_me 9) + 11) + am_rl (tb_me 9) ≤ am_rl (tb_me 37) from by decide +kernel
theorem k37_38 {L : Nat} {xs : Nat → Int32} : decode (am_cd (am_me (tb_P L xs) 37)) 38 = .ok (.ireturn, 1) := show decode (am_cd (tb_me 37)) 38 = .ok (.ireturn, 1) from by decide +kernel
theorem t37 {L : Nat} {xs : Nat → Int32} : am_rt (am_me (tb_P L xs) 37) = some (.boolean : FieldType) := show am_rt (tb_me 37) = some (.boolean : FieldType) from by decide +kernel
theorem l37 {L : Nat} {xs : Nat → Int32} : am_ml (am_me (tb_P L xs) 37) = 1 := show am_ml (tb_me 37) = 1 from by decide +kernel
theorem o37 {L : Nat} {xs : Nat → Int32} (pc : Nat) : am_no (tb_P L xs) 37 pc = true := show (am_hd (tb_me 37)).all (fun q => !(decide (q.1 ≤ pc) && decide (pc < q.2.1))) = true from by rw [show am_hd (tb_me 37) = [] by decide +kernel]; rfl
theorem k38_0 {L : Nat} {xs : Nat → Int32} : decode (am_cd (am_me (tb_P L xs) 38)) 0 = .ok (.aload_n 0, 1) := show decode (am_cd (tb_me 38)) 0 = .ok (.aload_n 0, 1) from by decide +kernel
theorem k38_1 {L : Nat} {xs : Nat → Int32} : decode (am_cd (am_me (tb_P L xs) 38)) 1 = .ok (.iload_n 1, 1) := show decode (am_cd (tb_me 38)) 1 = .ok (.iload_n 1, 1) from by decide +kernel
theorem k38_2 {L : Nat} {xs : Nat → Int32} : decode (am_cd (am_me (tb_P L xs) 38)) 2 = .ok (.iload_n 2, 1) := show decode (am_cd (tb_me 38)) 2 = .ok (.iload_n 2, 1) from by decide +kernel
theorem k38_3 {L : Nat} {xs : Nat → Int32} : decode (am_cd (am_me (tb_P L xs) 38)) 3 = .ok (.iload_n 3, 1) := show decode (am_cd (tb_me 38)) 3 = .ok (.iload_n 3, 1) from by decide +kernel
theorem k38_4 {L : Nat} {xs : Nat → Int32} : decode (am_cd (am_me (tb_P L xs) 38)) 4 = .ok (.invokevirtual 7, 3) := show decode (am_cd (tb_me 38)) 4 = .ok (.invokevirtual 7, 3) from by decide +kernel
theorem s38_4 {L : Nat} {xs : Nat → Int32} : am_sp (tb_P L xs) 38 7 = none := show tb_spF 38 7 = none from by decide +kernel
theorem c38_4 {L : Nat} {xs : Nat → Int32} : am_ca (tb_P L xs) 38 7 = some (39, 3, 1) := show tb_caF 38 7 = some (39, 3, 1) from by decide +kernel
theorem r38_4 {L : Nat} {xs : Nat → Int32} : am_rf (am_me (tb_P L xs) 39) + 1 ≤ am_rf (am_me (tb_P L xs) 38) ∧ 0 + (am_ml (am_me (tb_P L xs) 39) + 11) + am_rl (am_me (tb_P L xs) 39) ≤ am_rl (am_me (tb_P L xs) 38) := show am_rf (tb_me 39) + 1 ≤ am_rf (tb_me 38) ∧ 0 + (am_ml (tb_me 39) + 11) + am_rl (tb_me 39) ≤ am_rl (tb_me 38) from by decide +kernel
theorem k38_7 {L : Nat} {xs : Nat → Int32} : decode (am_cd (am_me (tb_P L xs) 38)) 7 = .ok (.goto 7, 3) := show decode (am_cd (tb_me 38)) 7 = .ok (.goto 7, 3) from by decide +kernel
theorem k38_10 {L : Nat} {xs : Nat → Int32} : decode (am_cd (am_me (tb_P L xs) 38)) 10 = .ok (.astore 4, 2) := show decode (am_cd (tb_me 38)) 10 = .ok (.astore 4, 2) from by decide +kernel
theorem k38_12 {L : Nat} {xs : Nat → Int32} : decode (am_cd (am_me (tb_P L xs) 38)) 12 = .ok (.iconst 1, 1) := show decode (am_cd (tb_me 38)) 12 = .ok (.iconst 1, 1) from by decide +kernel
theorem k38_13 {L : Nat} {xs : Nat → Int32} : decode (am_cd (am_me (tb_P L xs) 38)) 13 = .ok (.ireturn, 1) := show decode (am_cd (tb_me 38)) 13 = .ok (.ireturn, 1) from by decide +kernel
theorem k38_14 {L : Nat} {xs : Nat → Int32} : decode (am_cd (am_me (tb_P L xs) 38)) 14 = .ok (.iconst 0, 1) := show decode (am_cd (tb_me 38)) 14 = .ok (.iconst 0, 1) from by decide +kernel
theorem k38_15 {L : Nat} {xs : Nat → Int32} : decode (am_cd (am_me (tb_P L xs) 38)) 15 = .ok (.ireturn, 1) := show decode (am_cd (tb_me 38)) 15 = .ok (.ireturn, 1) from by decide +kernel
theorem t38 {L : Nat} {xs : Nat → Int32} : am_rt (am_me (tb_P L xs) 38) = some (.int : FieldType) := show am_rt (tb_me 38) = some (.int : FieldType) from by decide +kernel
theorem l38 {L : Nat} {xs : Nat → Int32} : am_ml (am_me (tb_P L xs) 38) = 5 := show am_ml (tb_me 38) = 5 from by decide +kernel
theorem k39_0 {L : Nat} {xs : Nat → Int32} : decode (am_cd (am_me (tb_P L xs) 39)) 0 = .ok (.iload_n 1, 1) := show decode (am_cd (tb_me 39)) 0 = .ok (.iload_n 1, 1) from by decide +kernel
theorem k39_1 {L : Nat} {xs : Nat → Int32} : decode (am_cd (am_me (tb_P L xs) 39)) 1 = .ok (.invokestatic 57, 3) := show decode (am_cd (tb_me 39)) 1 = .ok (.invokestatic 57, 3) from by decide +kernel
theorem s39_1 {L : Nat} {xs : Nat → Int32} : am_sp (tb_P L xs) 39 57 = none := show tb_spF 39 57 = none from by decide +kernel
theorem c39_1 {L : Nat} {xs : Nat → Int32} : am_ca (tb_P L xs) 39 57 = some (40, 1, 0) := show tb_caF 39 57 = some (40, 1, 0) from by decide +kernel
theorem r39_1 {L : Nat} {xs : Nat → Int32} : am_rf (am_me (tb_P L xs) 40) + 1 ≤ am_rf (am_me (tb_P L xs) 39) ∧ 0 + (am_ml (am_me (tb_P L xs) 40) + 11) + am_rl (am_me (tb_P L xs) 40) ≤ am_rl (am_me (tb_P L xs) 39) := show am_rf (tb_me 40) + 1 ≤ am_rf (tb_me 39) ∧ 0 + (am_ml (tb_me 40) + 11) + am_rl (tb_me 40) ≤ am_rl (tb_me 39) from by decide +kernel
theorem k39_4 {L : Nat} {xs : Nat → Int32} : decode (am_cd (am_me (tb_P L xs) 39)) 4 = .ok (.ifCond .eq 21, 3) := show decode (am_cd (tb_me 39)) 4 = .ok (.ifCond .eq 21, 3) from by decide +kernel
theorem k39_7 {L : Nat} {xs : Nat → Int32} : decode (am_cd (am_me (tb_P L xs) 39)) 7 = .ok (.iload_n 2, 1) := show decode (am_cd (tb_me 39)) 7 = .ok (.iload_n 2, 1) from by decide +kernel
theorem k39_8 {L : Nat} {xs : Nat → Int32} : decode (am_cd (am_me (tb_P L xs) 39)) 8 = .ok (.iconst 1, 1) := show decode (am_cd (tb_me 39)) 8 = .ok (.iconst 1, 1) from by decide +kernel
theorem k39_9 {L : Nat} {xs : Nat → Int32} : decode (am_cd (am_me (tb_P L xs) 39)) 9 = .ok (.isub, 1) := show decode (am_cd (tb_me 39)) 9 = .ok (.isub, 1) from by decide +kernel
theorem k39_10 {L : Nat} {xs : Nat → Int32} : decode (am_cd (am_me (tb_P L xs) 39)) 10 = .ok (.iconst 4, 1) := show decode (am_cd (tb_me 39)) 10 = .ok (.iconst 4, 1) from by decide +kernel
theorem k39_11 {L : Nat} {xs : Nat → Int32} : decode (am_cd (am_me (tb_P L xs) 39)) 11 = .ok (.invokestatic 61, 3) := show decode (am_cd (tb_me 39)) 11 = .ok (.invokestatic 61, 3) from by decide +kernel
theorem s39_11 {L : Nat} {xs : Nat → Int32} : am_sp (tb_P L xs) 39 61 = none := show tb_spF 39 61 = none from by decide +kernel
theorem c39_11 {L : Nat} {xs : Nat → Int32} : am_ca (tb_P L xs) 39 61 = some (26, 2, 0) := show tb_caF 39 61 = some (26, 2, 0) from by decide +kernel
theorem r39_11 {L : Nat} {xs : Nat → Int32} : am_rf (am_me (tb_P L xs) 26) + 1 ≤ am_rf (am_me (tb_P L xs) 39) ∧ 0 + (am_ml (am_me (tb_P L xs) 26) + 11) + am_rl (am_me (tb_P L xs) 26) ≤ am_rl (am_me (tb_P L xs) 39) := show am_rf (tb_me 26) + 1 ≤ am_rf (tb_me 39) ∧ 0 + (am_ml (tb_me 26) + 11) + am_rl (tb_me 26) ≤ am_rl (tb_me 39) from by decide +kernel
theorem k39_14 {L : Nat} {xs : Nat → Int32} : decode (am_cd (am_me (tb_P L xs) 39)) 14 = .ok (.ifCond .eq 11, 3) := show decode (am_cd (tb_me 39)) 14 = .ok (.ifCond .eq 11, 3) from by decide +kernel
theorem k39_17 {L : Nat} {xs : Nat → Int32} : decode (am_cd (am_me (tb_P L xs) 39)) 17 = .ok (.iload_n 3, 1) := show decode (am_cd (tb_me 39)) 17 = .ok (.iload_n 3, 1) from by decide +kernel
theorem k39_18 {L : Nat} {xs : Nat → Int32} : decode (am_cd (am_me (tb_P L xs) 39)) 18 = .ok (.iload_n 2, 1) := show decode (am_cd (tb_me 39)) 18 = .ok (.iload_n 2, 1) from by decide +kernel
theorem k39_19 {L : Nat} {xs : Nat → Int32} : decode (am_cd (am_me (tb_P L xs) 39)) 19 = .ok (.invokestatic 61, 3) := show decode (am_cd (tb_me 39)) 19 = .ok (.invokestatic 61, 3) from by decide +kernel
theorem s39_19 {L : Nat} {xs : Nat → Int32} : am_sp (tb_P L xs) 39 61 = none := show tb_spF 39 61 = none from by decide +kernel
theorem c39_19 {L : Nat} {xs : Nat → Int32} : am_ca (tb_P L xs) 39 61 = some (26, 2, 0) := show tb_caF 39 61 = some (26, 2, 0) from by decide +kernel
theorem r39_19 {L : Nat} {xs : Nat → Int32} : am_rf (am_me (tb_P L xs) 26) + 1 ≤ am_rf (am_me (tb_P L xs) 39) ∧ 0 + (am_ml (am_me (tb_P L xs) 26) + 11) + am_rl (am_me (tb_P L xs) 26) ≤ am_rl (am_me (tb_P L xs) 39) := show am_rf (tb_me 26) + 1 ≤ am_rf (tb_me 39) ∧ 0 + (am_ml (tb_me 26) + 11) + am_rl (tb_me 26) ≤ am_rl (tb_me 39) from by decide +kernel
theorem k39_22 {L : Nat} {xs : Nat → Int32} : decode (am_cd (am_me (tb_P L xs) 39)) 22 = .ok (.ifCond .ne 11, 3) := show decode (am_cd (tb_me 39)) 22 = .ok (.ifCond .ne 11, 3) from by decide +kernel
theorem k39_25 {L : Nat} {xs : Nat → Int32} : decode (am_cd (am_me (tb_P L xs) 39)) 25 = .ok (.new 65, 3) := show decode (am_cd (tb_me 39)) 25 = .ok (.new 65, 3) from by decide +kernel
theorem n39_25 {L : Nat} {xs : Nat → Int32} : am_nw (tb_P L xs) 39 65 = none := show tb_nwF 39 65 = none from by decide +kernel
theorem x39_25 {L : Nat} {xs : Nat → Int32} : am_xn (tb_P L xs) 39 65 67 = some 9 := show tb_xnF 39 65 67 = some 9 from by decide +kernel
theorem r39_25 {L : Nat} {xs : Nat → Int32} : 5 < am_rf (am_me (tb_P L xs) 39) ∧ 0 + 82 ≤ am_rl (am_me (tb_P L xs) 39) := show 5 < am_rf (tb_me 39) ∧ 0 + 82 ≤ am_rl (tb_me 39) from by decide +kernel
theorem k39_28 {L : Nat} {xs : Nat → Int32} : decode (am_cd (am_me (tb_P L xs) 39)) 28 = .ok (.dup, 1) := show decode (am_cd (tb_me 39)) 28 = .ok (.dup, 1) from by decide +kernel
theorem k39_29 {L : Nat} {xs : Nat → Int32} : decode (am_cd (am_me (tb_P L xs) 39)) 29 = .ok (.invokespecial 67, 3) := show decode (am_cd (tb_me 39)) 29 = .ok (.invokespecial 67, 3) from by decide +kernel
theorem k39_32 {L : Nat} {xs : Nat → Int32} : decode (am_cd (am_me (tb_P L xs) 39)) 32 = .ok (.athrow, 1) := show decode (am_cd (tb_me 39)) 32 = .ok (.athrow, 1) from by decide +kernel
theorem k39_33 {L : Nat} {xs : Nat → Int32} : decode (am_cd (am_me (tb_P L xs) 39)) 33 = .ok (.aload_n 0, 1) := show decode (am_cd (tb_me 39)) 33 = .ok (.aload_n 0, 1) from by decide +kernel
theorem k39_34 {L : Nat} {xs : Nat → Int32} : decode (am_cd (am_me (tb_P L xs) 39)) 34 = .ok (.getfield 37, 3) := show decode (am_cd (tb_me 39)) 34 = .ok (.getfield 37, 3) from by decide +kernel
theorem f39_34 {L : Nat} {xs : Nat → Int32} : am_fd (tb_P L xs) 39 37 = some (0, 3, (.object "GluedMachines$Model" : FieldType), false) := show tb_fdF 39 37 = some (0, 3, (.object "GluedMachines$Model" : FieldType), false) from by decide +kernel
theorem k39_37 {L : Nat} {xs : Nat → Int32} : decode (am_cd (am_me (tb_P L xs) 39)) 37 = .ok (.getfield 68, 3) := show decode (am_cd (tb_me 39)) 37 = .ok (.getfield 68, 3) from by decide +kernel
theorem f39_37 {L : Nat} {xs : Nat → Int32} : am_fd (tb_P L xs) 39 68 = some (5, 0, (.array .int : FieldType), false) := show tb_fdF 39 68 = some (5, 0, (.array .int : FieldType), false) from by decide +kernel
theorem k39_40 {L : Nat} {xs : Nat → Int32} : decode (am_cd (am_me (tb_P L xs) 39)) 40 = .ok (.iload_n 1, 1) := show decode (am_cd (tb_me 39)) 40 = .ok (.iload_n 1, 1) from by decide +kernel
theorem k39_41 {L : Nat} {xs : Nat → Int32} : decode (am_cd (am_me (tb_P L xs) 39)) 41 = .ok (.iload_n 2, 1) := show decode (am_cd (tb_me 39)) 41 = .ok (.iload_n 2, 1) from by decide +kernel
theorem k39_42 {L : Nat} {xs : Nat → Int32} : decode (am_cd (am_me (tb_P L xs) 39)) 42 = .ok (.iastore, 1) := show decode (am_cd (tb_me 39)) 42 = .ok (.iastore, 1) from by decide +kernel
theorem k39_43 {L : Nat} {xs : Nat → Int32} : decode (am_cd (am_me (tb_P L xs) 39)) 43 = .ok (.aload_n 0, 1) := show decode (am_cd (tb_me 39)) 43 = .ok (.aload_n 0, 1) from by decide +kernel
theorem k39_44 {L : Nat} {xs : Nat → Int32} : decode (am_cd (am_me (tb_P L xs) 39)) 44 = .ok (.getfield 37, 3) := show decode (am_cd (tb_me 39)) 44 = .ok (.getfield 37, 3) from by decide +kernel
theorem f39_44 {L : Nat} {xs : Nat → Int32} : am_fd (tb_P L xs) 39 37 = some (0, 3, (.object "GluedMachines$Model" : FieldType), false) := show tb_fdF 39 37 = some (0, 3, (.object "GluedMachines$Model" : FieldType), false) from by decide +kernel
theorem k39_47 {L : Nat} {xs : Nat → Int32} : decode (am_cd (am_me (tb_P L xs) 39)) 47 = .ok (.getfield 71, 3) := show decode (am_cd (tb_me 39)) 47 = .ok (.getfield 71, 3) from by decide +kernel
theorem f39_47 {L : Nat} {xs : Nat → Int32} : am_fd (tb_P L xs) 39 71 = some (5, 1, (.array .int : FieldType), false) := show tb_fdF 39 71 = some (5, 1, (.array .int : FieldType), false) from by decide +kernel
theorem k39_50 {L : Nat} {xs : Nat → Int32} : decode (am_cd (am_me (tb_P L xs) 39)) 50 = .ok (.iload_n 1, 1) := show decode (am_cd (tb_me 39)) 50 = .ok (.iload_n 1, 1) from by decide +kernel
theorem k39_51 {L : Nat} {xs : Nat → Int32} : decode (am_cd (am_me (tb_P L xs) 39)) 51 = .ok (.iload_n 3, 1) := show decode (am_cd (tb_me 39)) 51 = .ok (.iload_n 3, 1) from by decide +kernel
theorem k39_52 {L : Nat} {xs : Nat → Int32} : decode (am_cd (am_me (tb_P L xs) 39)) 52 = .ok (.iastore, 1) := show decode (am_cd (tb_me 39)) 52 = .ok (.iastore, 1) from by decide +kernel
theorem k39_53 {L : Nat} {xs : Nat → Int32} : decode (am_cd (am_me (tb_P L xs) 39)) 53 = .ok (.aload_n 0, 1) := show decode (am_cd (tb_me 39)) 53 = .ok (.aload_n 0, 1) from by decide +kernel
theorem k39_54 {L : Nat} {xs : Nat → Int32} : decode (am_cd (am_me (tb_P L xs) 39)) 54 = .ok (.getfield 53, 3) := show decode (am_cd (tb_me 39)) 54 = .ok (.getfield 53, 3) from by decide +kernel
theorem f39_54 {L : Nat} {xs : Nat → Int32} : am_fd (tb_P L xs) 39 53 = some (0, 5, (.object "GluedMachines$Run" : FieldType), false) := show tb_fdF 39 53 = some (0, 5, (.object "GluedMachines$Run" : FieldType), false) from by decide +kernel
theorem k39_57 {L : Nat} {xs : Nat → Int32} : decode (am_cd (am_me (tb_P L xs) 39)) 57 = .ok (.invokevirtual 74, 3) := show decode (am_cd (tb_me 39)) 57 = .ok (.invokevirtual 74, 3) from by decide +kernel
theorem s39_57 {L : Nat} {xs : Nat → Int32} : am_sp (tb_P L xs) 39 74 = none := show tb_spF 39 74 = none from by decide +kernel
theorem c39_57 {L : Nat} {xs : Nat → Int32} : am_ca (tb_P L xs) 39 74 = some (35, 0, 1) := show tb_caF 39 74 = some (35, 0, 1) from by decide +kernel
theorem r39_57 {L : Nat} {xs : Nat → Int32} : am_rf (am_me (tb_P L xs) 35) + 1 ≤ am_rf (am_me (tb_P L xs) 39) ∧ 0 + (am_ml (am_me (tb_P L xs) 35) + 11) + am_rl (am_me (tb_P L xs) 35) ≤ am_rl (am_me (tb_P L xs) 39) := show am_rf (tb_me 35) + 1 ≤ am_rf (tb_me 39) ∧ 0 + (am_ml (tb_me 35) + 11) + am_rl (tb_me 35) ≤ am_rl (tb_me 39) from by decide +kernel
theorem k39_60 {L : Nat} {xs : Nat → Int32} : decode (am_cd (am_me (tb_P L xs) 39)) 60 = .ok (.return_, 1) := show decode (am_cd (tb_me 39)) 60 = .ok (.return_, 1) from by decide +kernel
theorem t39 {L : Nat} {xs : Nat → Int32} : am_rt (am_me (tb_P L xs) 39) = none := show am_rt (tb_me 39) = none from by decide +kernel
theorem l39 {L : Nat} {xs : Nat → Int32} : am_ml (am_me (tb_P L xs) 39) = 4 := show am_ml (tb_me 39) = 4 from by decide +kernel
theorem o39 {L : Nat} {xs : Nat → Int32} (pc : Nat) : am_no (tb_P L xs) 39 pc = true := show (am_hd (tb_me 39)).all (fun q => !(decide (q.1 ≤ pc) && decide (pc < q.2.1))) = true from by rw [show am_hd (tb_me 39) = [] by decide +kernel]; rfl
theorem k40_0 {L : Nat} {xs : Nat → Int32} : decode (am_cd (am_me (tb_P L xs) 40)) 0 = .ok (.iload_n 0, 1) := show decode (am_cd (tb_me 40)) 0 = .ok (.iload_n 0, 1) from by decide +kernel
theorem k40_1 {L : Nat} {xs : Nat → Int32} : decode (am_cd (am_me (tb_P L xs) 40)) 1 = .ok (.bipush 6, 2) := show decode (am_cd (tb_me 40)) 1 = .ok (.bipush 6, 2) from by decide +kernel
theorem k40_3 {L : Nat} {xs : Nat → Int32} : decode (am_cd (am_me (tb_P L xs) 40)) 3 = .ok (.invokestatic 61, 3) := show decode (am_cd (tb_me 40)) 3 = .ok (.invokestatic 61, 3) from by decide +kernel
theorem s40_3 {L : Nat} {xs : Nat → Int32} : am_sp (tb_P L xs) 40 61 = none := show tb_spF 40 61 = none from by decide +kernel
theorem c40_3 {L : Nat} {xs : Nat → Int32} : am_ca (tb_P L xs) 40 61 = some (26, 2, 0) := show tb_caF 40 61 = some (26, 2, 0) from by decide +kernel
theorem r40_3 {L : Nat} {xs : Nat → Int32} : am_rf (am_me (tb_P L xs) 26) + 1 ≤ am_rf (am_me (tb_P L xs) 40) ∧ 0 + (am_ml (am_me (tb_P L xs) 26) + 11) + am_rl (am_me (tb_P L xs) 26) ≤ am_rl (am_me (tb_P L xs) 40) := show am_rf (tb_me 26) + 1 ≤ am_rf (tb_me 40) ∧ 0 + (am_ml (tb_me 26) + 11) + am_rl (tb_me 26) ≤ am_rl (tb_me 40) from by decide +kernel
theorem k40_6 {L : Nat} {xs : Nat → Int32} : decode (am_cd (am_me (tb_P L xs) 40)) 6 = .ok (.ireturn, 1) := show decode (am_cd (tb_me 40)) 6 = .ok (.ireturn, 1) from by decide +kernel
theorem t40 {L : Nat} {xs : Nat → Int32} : am_rt (am_me (tb_P L xs) 40) = some (.boolean : FieldType) := show am_rt (tb_me 40) = some (.boolean : FieldType) from by decide +kernel
theorem l40 {L : Nat} {xs : Nat → Int32} : am_ml (am_me (tb_P L xs) 40) = 1 := show am_ml (tb_me 40) = 1 from by decide +kernel
theorem o40 {L : Nat} {xs : Nat → Int32} (pc : Nat) : am_no (tb_P L xs) 40 pc = true := show (am_hd (tb_me 40)).all (fun q => !(decide (q.1 ≤ pc) && decide (pc < q.2.1))) = true from by rw [show am_hd (tb_me 40) = [] by decide +kernel]; rfl
theorem k41_0 {L : Nat} {xs : Nat → Int32} : decode (am_cd (am_me (tb_P L xs) 41)) 0 = .ok (.aload_n 2, 1) := show decode (am_cd (tb_me 41)) 0 = .ok (.aload_n 2, 1) from by decide +kernel
theorem k41_1 {L : Nat} {xs : Nat → Int32} : decode (am_cd (am_me (tb_P L xs) 41)) 1 = .ok (.iconst 0, 1) := show decode (am_cd (tb_me 41)) 1 = .ok (.iconst 0, 1) from by decide +kernel
theorem k41_2 {L : Nat} {xs : Nat → Int32} : decode (am_cd (am_me (tb_P L xs) 41)) 2 = .ok (.aload_n 0, 1) := show decode (am_cd (tb_me 41)) 2 = .ok (.aload_n 0, 1) from by decide +kernel
theorem k41_3 {L : Nat} {xs : Nat → Int32} : decode (am_cd (am_me (tb_P L xs) 41)) 3 = .ok (.iload_n 1, 1) := show decode (am_cd (tb_me 41)) 3 = .ok (.iload_n 1, 1) from by decide +kernel
theorem k41_4 {L : Nat} {xs : Nat → Int32} : decode (am_cd (am_me (tb_P L xs) 41)) 4 = .ok (.invokevirtual 15, 3) := show decode (am_cd (tb_me 41)) 4 = .ok (.invokevirtual 15, 3) from by decide +kernel
theorem s41_4 {L : Nat} {xs : Nat → Int32} : am_sp (tb_P L xs) 41 15 = none := show tb_spF 41 15 = none from by decide +kernel
theorem c41_4 {L : Nat} {xs : Nat → Int32} : am_ca (tb_P L xs) 41 15 = some (42, 1, 1) := show tb_caF 41 15 = some (42, 1, 1) from by decide +kernel
theorem r41_4 {L : Nat} {xs : Nat → Int32} : am_rf (am_me (tb_P L xs) 42) + 1 ≤ am_rf (am_me (tb_P L xs) 41) ∧ 2 + (am_ml (am_me (tb_P L xs) 42) + 11) + am_rl (am_me (tb_P L xs) 42) ≤ am_rl (am_me (tb_P L xs) 41) := show am_rf (tb_me 42) + 1 ≤ am_rf (tb_me 41) ∧ 2 + (am_ml (tb_me 42) + 11) + am_rl (tb_me 42) ≤ am_rl (tb_me 41) from by decide +kernel
theorem k41_7 {L : Nat} {xs : Nat → Int32} : decode (am_cd (am_me (tb_P L xs) 41)) 7 = .ok (.i2l, 1) := show decode (am_cd (tb_me 41)) 7 = .ok (.i2l, 1) from by decide +kernel
theorem k41_8 {L : Nat} {xs : Nat → Int32} : decode (am_cd (am_me (tb_P L xs) 41)) 8 = .ok (.lastore, 1) := show decode (am_cd (tb_me 41)) 8 = .ok (.lastore, 1) from by decide +kernel
theorem k41_9 {L : Nat} {xs : Nat → Int32} : decode (am_cd (am_me (tb_P L xs) 41)) 9 = .ok (.goto 9, 3) := show decode (am_cd (tb_me 41)) 9 = .ok (.goto 9, 3) from by decide +kernel
theorem k41_12 {L : Nat} {xs : Nat → Int32} : decode (am_cd (am_me (tb_P L xs) 41)) 12 = .ok (.astore_n 3, 1) := show decode (am_cd (tb_me 41)) 12 = .ok (.astore_n 3, 1) from by decide +kernel
theorem k41_13 {L : Nat} {xs : Nat → Int32} : decode (am_cd (am_me (tb_P L xs) 41)) 13 = .ok (.iconst 1, 1) := show decode (am_cd (tb_me 41)) 13 = .ok (.iconst 1, 1) from by decide +kernel
theorem k41_14 {L : Nat} {xs : Nat → Int32} : decode (am_cd (am_me (tb_P L xs) 41)) 14 = .ok (.ireturn, 1) := show decode (am_cd (tb_me 41)) 14 = .ok (.ireturn, 1) from by decide +kernel
theorem k41_15 {L : Nat} {xs : Nat → Int32} : decode (am_cd (am_me (tb_P L xs) 41)) 15 = .ok (.astore_n 3, 1) := show decode (am_cd (tb_me 41)) 15 = .ok (.astore_n 3, 1) from by decide +kernel
theorem k41_16 {L : Nat} {xs : Nat → Int32} : decode (am_cd (am_me (tb_P L xs) 41)) 16 = .ok (.iconst 2, 1) := show decode (am_cd (tb_me 41)) 16 = .ok (.iconst 2, 1) from by decide +kernel
theorem k41_17 {L : Nat} {xs : Nat → Int32} : decode (am_cd (am_me (tb_P L xs) 41)) 17 = .ok (.ireturn, 1) := show decode (am_cd (tb_me 41)) 17 = .ok (.ireturn, 1) from by decide +kernel
theorem k41_18 {L : Nat} {xs : Nat → Int32} : decode (am_cd (am_me (tb_P L xs) 41)) 18 = .ok (.iconst 0, 1) := show decode (am_cd (tb_me 41)) 18 = .ok (.iconst 0, 1) from by decide +kernel
theorem k41_19 {L : Nat} {xs : Nat → Int32} : decode (am_cd (am_me (tb_P L xs) 41)) 19 = .ok (.ireturn, 1) := show decode (am_cd (tb_me 41)) 19 = .ok (.ireturn, 1) from by decide +kernel
theorem t41 {L : Nat} {xs : Nat → Int32} : am_rt (am_me (tb_P L xs) 41) = some (.int : FieldType) := show am_rt (tb_me 41) = some (.int : FieldType) from by decide +kernel
theorem l41 {L : Nat} {xs : Nat → Int32} : am_ml (am_me (tb_P L xs) 41) = 4 := show am_ml (tb_me 41) = 4 from by decide +kernel
theorem k42_0 {L : Nat} {xs : Nat → Int32} : decode (am_cd (am_me (tb_P L xs) 42)) 0 = .ok (.iload_n 1, 1) := show decode (am_cd (tb_me 42)) 0 = .ok (.iload_n 1, 1) from by decide +kernel
theorem k42_1 {L : Nat} {xs : Nat → Int32} : decode (am_cd (am_me (tb_P L xs) 42)) 1 = .ok (.invokestatic 77, 3) := show decode (am_cd (tb_me 42)) 1 = .ok (.invokestatic 77, 3) from by decide +kernel
theorem s42_1 {L : Nat} {xs : Nat → Int32} : am_sp (tb_P L xs) 42 77 = none := show tb_spF 42 77 = none from by decide +kernel
theorem c42_1 {L : Nat} {xs : Nat → Int32} : am_ca (tb_P L xs) 42 77 = some (43, 1, 0) := show tb_caF 42 77 = some (43, 1, 0) from by decide +kernel
theorem r42_1 {L : Nat} {xs : Nat → Int32} : am_rf (am_me (tb_P L xs) 43) + 1 ≤ am_rf (am_me (tb_P L xs) 42) ∧ 0 + (am_ml (am_me (tb_P L xs) 43) + 11) + am_rl (am_me (tb_P L xs) 43) ≤ am_rl (am_me (tb_P L xs) 42) := show am_rf (tb_me 43) + 1 ≤ am_rf (tb_me 42) ∧ 0 + (am_ml (tb_me 43) + 11) + am_rl (tb_me 43) ≤ am_rl (tb_me 42) from by decide +kernel
theorem k42_4 {L : Nat} {xs : Nat → Int32} : decode (am_cd (am_me (tb_P L xs) 42)) 4 = .ok (.ifCond .ne 11, 3) := show decode (am_cd (tb_me 42)) 4 = .ok (.ifCond .ne 11, 3) from by decide +kernel
theorem k42_7 {L : Nat} {xs : Nat → Int32} : decode (am_cd (am_me (tb_P L xs) 42)) 7 = .ok (.new 65, 3) := show decode (am_cd (tb_me 42)) 7 = .ok (.new 65, 3) from by decide +kernel
theorem n42_7 {L : Nat} {xs : Nat → Int32} : am_nw (tb_P L xs) 42 65 = none := show tb_nwF 42 65 = none from by decide +kernel
theorem x42_7 {L : Nat} {xs : Nat → Int32} : am_xn (tb_P L xs) 42 65 67 = some 9 := show tb_xnF 42 65 67 = some 9 from by decide +kernel
theorem r42_7 {L : Nat} {xs : Nat → Int32} : 5 < am_rf (am_me (tb_P L xs) 42) ∧ 0 + 82 ≤ am_rl (am_me (tb_P L xs) 42) := show 5 < am_rf (tb_me 42) ∧ 0 + 82 ≤ am_rl (tb_me 42) from by decide +kernel
theorem k42_10 {L : Nat} {xs : Nat → Int32} : decode (am_cd (am_me (tb_P L xs) 42)) 10 = .ok (.dup, 1) := show decode (am_cd (tb_me 42)) 10 = .ok (.dup, 1) from by decide +kernel
theorem k42_11 {L : Nat} {xs : Nat → Int32} : decode (am_cd (am_me (tb_P L xs) 42)) 11 = .ok (.invokespecial 67, 3) := show decode (am_cd (tb_me 42)) 11 = .ok (.invokespecial 67, 3) from by decide +kernel
theorem k42_14 {L : Nat} {xs : Nat → Int32} : decode (am_cd (am_me (tb_P L xs) 42)) 14 = .ok (.athrow, 1) := show decode (am_cd (tb_me 42)) 14 = .ok (.athrow, 1) from by decide +kernel
theorem k42_15 {L : Nat} {xs : Nat → Int32} : decode (am_cd (am_me (tb_P L xs) 42)) 15 = .ok (.aload_n 0, 1) := show decode (am_cd (tb_me 42)) 15 = .ok (.aload_n 0, 1) from by decide +kernel
theorem k42_16 {L : Nat} {xs : Nat → Int32} : decode (am_cd (am_me (tb_P L xs) 42)) 16 = .ok (.getfield 10, 3) := show decode (am_cd (tb_me 42)) 16 = .ok (.getfield 10, 3) from by decide +kernel
theorem f42_16 {L : Nat} {xs : Nat → Int32} : am_fd (tb_P L xs) 42 10 = some (0, 0, (.object "GluedMachines$Writing" : FieldType), false) := show tb_fdF 42 10 = some (0, 0, (.object "GluedMachines$Writing" : FieldType), false) from by decide +kernel
theorem k42_19 {L : Nat} {xs : Nat → Int32} : decode (am_cd (am_me (tb_P L xs) 42)) 19 = .ok (.getfield 82, 3) := show decode (am_cd (tb_me 42)) 19 = .ok (.getfield 82, 3) from by decide +kernel
theorem f42_19 {L : Nat} {xs : Nat → Int32} : am_fd (tb_P L xs) 42 82 = some (1, 3, (.int : FieldType), true) := show tb_fdF 42 82 = some (1, 3, (.int : FieldType), true) from by decide +kernel
theorem k42_22 {L : Nat} {xs : Nat → Int32} : decode (am_cd (am_me (tb_P L xs) 42)) 22 = .ok (.bipush 24, 2) := show decode (am_cd (tb_me 42)) 22 = .ok (.bipush 24, 2) from by decide +kernel
theorem k42_24 {L : Nat} {xs : Nat → Int32} : decode (am_cd (am_me (tb_P L xs) 42)) 24 = .ok (.if_icmp .ne 11, 3) := show decode (am_cd (tb_me 42)) 24 = .ok (.if_icmp .ne 11, 3) from by decide +kernel
theorem k42_27 {L : Nat} {xs : Nat → Int32} : decode (am_cd (am_me (tb_P L xs) 42)) 27 = .ok (.new 85, 3) := show decode (am_cd (tb_me 42)) 27 = .ok (.new 85, 3) from by decide +kernel
theorem n42_27 {L : Nat} {xs : Nat → Int32} : am_nw (tb_P L xs) 42 85 = none := show tb_nwF 42 85 = none from by decide +kernel
theorem x42_27 {L : Nat} {xs : Nat → Int32} : am_xn (tb_P L xs) 42 85 87 = some 10 := show tb_xnF 42 85 87 = some 10 from by decide +kernel
theorem r42_27 {L : Nat} {xs : Nat → Int32} : 5 < am_rf (am_me (tb_P L xs) 42) ∧ 0 + 82 ≤ am_rl (am_me (tb_P L xs) 42) := show 5 < am_rf (tb_me 42) ∧ 0 + 82 ≤ am_rl (tb_me 42) from by decide +kernel
theorem k42_30 {L : Nat} {xs : Nat → Int32} : decode (am_cd (am_me (tb_P L xs) 42)) 30 = .ok (.dup, 1) := show decode (am_cd (tb_me 42)) 30 = .ok (.dup, 1) from by decide +kernel
theorem k42_31 {L : Nat} {xs : Nat → Int32} : decode (am_cd (am_me (tb_P L xs) 42)) 31 = .ok (.invokespecial 87, 3) := show decode (am_cd (tb_me 42)) 31 = .ok (.invokespecial 87, 3) from by decide +kernel
theorem k42_34 {L : Nat} {xs : Nat → Int32} : decode (am_cd (am_me (tb_P L xs) 42)) 34 = .ok (.athrow, 1) := show decode (am_cd (tb_me 42)) 34 = .ok (.athrow, 1) from by decide +kernel
theorem k42_35 {L : Nat} {xs : Nat → Int32} : decode (am_cd (am_me (tb_P L xs) 42)) 35 = .ok (.aload_n 0, 1) := show decode (am_cd (tb_me 42)) 35 = .ok (.aload_n 0, 1) from by decide +kernel
theorem k42_36 {L : Nat} {xs : Nat → Int32} : decode (am_cd (am_me (tb_P L xs) 42)) 36 = .ok (.getfield 10, 3) := show decode (am_cd (tb_me 42)) 36 = .ok (.getfield 10, 3) from by decide +kernel
theorem f42_36 {L : Nat} {xs : Nat → Int32} : am_fd (tb_P L xs) 42 10 = some (0, 0, (.object "GluedMachines$Writing" : FieldType), false) := show tb_fdF 42 10 = some (0, 0, (.object "GluedMachines$Writing" : FieldType), false) from by decide +kernel
theorem k42_39 {L : Nat} {xs : Nat → Int32} : decode (am_cd (am_me (tb_P L xs) 42)) 39 = .ok (.iload_n 1, 1) := show decode (am_cd (tb_me 42)) 39 = .ok (.iload_n 1, 1) from by decide +kernel
theorem k42_40 {L : Nat} {xs : Nat → Int32} : decode (am_cd (am_me (tb_P L xs) 42)) 40 = .ok (.invokevirtual 88, 3) := show decode (am_cd (tb_me 42)) 40 = .ok (.invokevirtual 88, 3) from by decide +kernel
theorem s42_40 {L : Nat} {xs : Nat → Int32} : am_sp (tb_P L xs) 42 88 = none := show tb_spF 42 88 = none from by decide +kernel
theorem c42_40 {L : Nat} {xs : Nat → Int32} : am_ca (tb_P L xs) 42 88 = some (45, 1, 1) := show tb_caF 42 88 = some (45, 1, 1) from by decide +kernel
theorem r42_40 {L : Nat} {xs : Nat → Int32} : am_rf (am_me (tb_P L xs) 45) + 1 ≤ am_rf (am_me (tb_P L xs) 42) ∧ 0 + (am_ml (am_me (tb_P L xs) 45) + 11) + am_rl (am_me (tb_P L xs) 45) ≤ am_rl (am_me (tb_P L xs) 42) := show am_rf (tb_me 45) + 1 ≤ am_rf (tb_me 42) ∧ 0 + (am_ml (tb_me 45) + 11) + am_rl (tb_me 45) ≤ am_rl (tb_me 42) from by decide +kernel
theorem k42_43 {L : Nat} {xs : Nat → Int32} : decode (am_cd (am_me (tb_P L xs) 42)) 43 = .ok (.ireturn, 1) := show decode (am_cd (tb_me 42)) 43 = .ok (.ireturn, 1) from by decide +kernel
theorem t42 {L : Nat} {xs : Nat → Int32} : am_rt (am_me (tb_P L xs) 42) = some (.int : FieldType) := show am_rt (tb_me 42) = some (.int : FieldType) from by decide +kernel
theorem l42 {L : Nat} {xs : Nat → Int32} : am_ml (am_me (tb_P L xs) 42) = 2 := show am_ml (tb_me 42) = 2 from by decide +kernel
theorem o42 {L : Nat} {xs : Nat → Int32} (pc : Nat) : am_no (tb_P L xs) 42 pc = true := show (am_hd (tb_me 42)).all (fun q => !(decide (q.1 ≤ pc) && decide (pc < q.2.1))) = true from by rw [show am_hd (tb_me 42) = [] by decide +kernel]; rfl
theorem k43_0 {L : Nat} {xs : Nat → Int32} : decode (am_cd (am_me (tb_P L xs) 43)) 0 = .ok (.iload_n 0, 1) := show decode (am_cd (tb_me 43)) 0 = .ok (.iload_n 0, 1) from by decide +kernel
theorem k43_1 {L : Nat} {xs : Nat → Int32} : decode (am_cd (am_me (tb_P L xs) 43)) 1 = .ok (.ifCond .lt 9, 3) := show decode (am_cd (tb_me 43)) 1 = .ok (.ifCond .lt 9, 3) from by decide +kernel
theorem k43_4 {L : Nat} {xs : Nat → Int32} : decode (am_cd (am_me (tb_P L xs) 43)) 4 = .ok (.iload_n 0, 1) := show decode (am_cd (tb_me 43)) 4 = .ok (.iload_n 0, 1) from by decide +kernel
theorem k43_5 {L : Nat} {xs : Nat → Int32} : decode (am_cd (am_me (tb_P L xs) 43)) 5 = .ok (.bipush 9, 2) := show decode (am_cd (tb_me 43)) 5 = .ok (.bipush 9, 2) from by decide +kernel
theorem k43_7 {L : Nat} {xs : Nat → Int32} : decode (am_cd (am_me (tb_P L xs) 43)) 7 = .ok (.if_icmp .le 28, 3) := show decode (am_cd (tb_me 43)) 7 = .ok (.if_icmp .le 28, 3) from by decide +kernel
theorem k43_10 {L : Nat} {xs : Nat → Int32} : decode (am_cd (am_me (tb_P L xs) 43)) 10 = .ok (.iload_n 0, 1) := show decode (am_cd (tb_me 43)) 10 = .ok (.iload_n 0, 1) from by decide +kernel
theorem k43_11 {L : Nat} {xs : Nat → Int32} : decode (am_cd (am_me (tb_P L xs) 43)) 11 = .ok (.bipush 20, 2) := show decode (am_cd (tb_me 43)) 11 = .ok (.bipush 20, 2) from by decide +kernel
theorem k43_13 {L : Nat} {xs : Nat → Int32} : decode (am_cd (am_me (tb_P L xs) 43)) 13 = .ok (.if_icmp .lt 9, 3) := show decode (am_cd (tb_me 43)) 13 = .ok (.if_icmp .lt 9, 3) from by decide +kernel
theorem k43_16 {L : Nat} {xs : Nat → Int32} : decode (am_cd (am_me (tb_P L xs) 43)) 16 = .ok (.iload_n 0, 1) := show decode (am_cd (tb_me 43)) 16 = .ok (.iload_n 0, 1) from by decide +kernel
theorem k43_17 {L : Nat} {xs : Nat → Int32} : decode (am_cd (am_me (tb_P L xs) 43)) 17 = .ok (.bipush 25, 2) := show decode (am_cd (tb_me 43)) 17 = .ok (.bipush 25, 2) from by decide +kernel
theorem k43_19 {L : Nat} {xs : Nat → Int32} : decode (am_cd (am_me (tb_P L xs) 43)) 19 = .ok (.if_icmp .le 16, 3) := show decode (am_cd (tb_me 43)) 19 = .ok (.if_icmp .le 16, 3) from by decide +kernel
theorem k43_22 {L : Nat} {xs : Nat → Int32} : decode (am_cd (am_me (tb_P L xs) 43)) 22 = .ok (.iload_n 0, 1) := show decode (am_cd (tb_me 43)) 22 = .ok (.iload_n 0, 1) from by decide +kernel
theorem k43_23 {L : Nat} {xs : Nat → Int32} : decode (am_cd (am_me (tb_P L xs) 43)) 23 = .ok (.bipush 40, 2) := show decode (am_cd (tb_me 43)) 23 = .ok (.bipush 40, 2) from by decide +kernel
theorem k43_25 {L : Nat} {xs : Nat → Int32} : decode (am_cd (am_me (tb_P L xs) 43)) 25 = .ok (.if_icmp .eq 10, 3) := show decode (am_cd (tb_me 43)) 25 = .ok (.if_icmp .eq 10, 3) from by decide +kernel
theorem k43_28 {L : Nat} {xs : Nat → Int32} : decode (am_cd (am_me (tb_P L xs) 43)) 28 = .ok (.iload_n 0, 1) := show decode (am_cd (tb_me 43)) 28 = .ok (.iload_n 0, 1) from by decide +kernel
theorem k43_29 {L : Nat} {xs : Nat → Int32} : decode (am_cd (am_me (tb_P L xs) 43)) 29 = .ok (.invokestatic 9, 3) := show decode (am_cd (tb_me 43)) 29 = .ok (.invokestatic 9, 3) from by decide +kernel
theorem s43_29 {L : Nat} {xs : Nat → Int32} : am_sp (tb_P L xs) 43 9 = none := show tb_spF 43 9 = none from by decide +kernel
theorem c43_29 {L : Nat} {xs : Nat → Int32} : am_ca (tb_P L xs) 43 9 = some (44, 1, 0) := show tb_caF 43 9 = some (44, 1, 0) from by decide +kernel
theorem r43_29 {L : Nat} {xs : Nat → Int32} : am_rf (am_me (tb_P L xs) 44) + 1 ≤ am_rf (am_me (tb_P L xs) 43) ∧ 0 + (am_ml (am_me (tb_P L xs) 44) + 11) + am_rl (am_me (tb_P L xs) 44) ≤ am_rl (am_me (tb_P L xs) 43) := show am_rf (tb_me 44) + 1 ≤ am_rf (tb_me 43) ∧ 0 + (am_ml (tb_me 44) + 11) + am_rl (tb_me 44) ≤ am_rl (tb_me 43) from by decide +kernel
theorem k43_32 {L : Nat} {xs : Nat → Int32} : decode (am_cd (am_me (tb_P L xs) 43)) 32 = .ok (.ifCond .eq 7, 3) := show decode (am_cd (tb_me 43)) 32 = .ok (.ifCond .eq 7, 3) from by decide +kernel
theorem k43_35 {L : Nat} {xs : Nat → Int32} : decode (am_cd (am_me (tb_P L xs) 43)) 35 = .ok (.iconst 1, 1) := show decode (am_cd (tb_me 43)) 35 = .ok (.iconst 1, 1) from by decide +kernel
theorem k43_36 {L : Nat} {xs : Nat → Int32} : decode (am_cd (am_me (tb_P L xs) 43)) 36 = .ok (.goto 4, 3) := show decode (am_cd (tb_me 43)) 36 = .ok (.goto 4, 3) from by decide +kernel
theorem k43_39 {L : Nat} {xs : Nat → Int32} : decode (am_cd (am_me (tb_P L xs) 43)) 39 = .ok (.iconst 0, 1) := show decode (am_cd (tb_me 43)) 39 = .ok (.iconst 0, 1) from by decide +kernel
theorem k43_40 {L : Nat} {xs : Nat → Int32} : decode (am_cd (am_me (tb_P L xs) 43)) 40 = .ok (.ireturn, 1) := show decode (am_cd (tb_me 43)) 40 = .ok (.ireturn, 1) from by decide +kernel
theorem t43 {L : Nat} {xs : Nat → Int32} : am_rt (am_me (tb_P L xs) 43) = some (.boolean : FieldType) := show am_rt (tb_me 43) = some (.boolean : FieldType) from by decide +kernel
theorem l43 {L : Nat} {xs : Nat → Int32} : am_ml (am_me (tb_P L xs) 43) = 1 := show am_ml (tb_me 43) = 1 from by decide +kernel
theorem o43 {L : Nat} {xs : Nat → Int32} (pc : Nat) : am_no (tb_P L xs) 43 pc = true := show (am_hd (tb_me 43)).all (fun q => !(decide (q.1 ≤ pc) && decide (pc < q.2.1))) = true from by rw [show am_hd (tb_me 43) = [] by decide +kernel]; rfl
theorem k44_0 {L : Nat} {xs : Nat → Int32} : decode (am_cd (am_me (tb_P L xs) 44)) 0 = .ok (.iload_n 0, 1) := show decode (am_cd (tb_me 44)) 0 = .ok (.iload_n 0, 1) from by decide +kernel
theorem k44_1 {L : Nat} {xs : Nat → Int32} : decode (am_cd (am_me (tb_P L xs) 44)) 1 = .ok (.bipush 50, 2) := show decode (am_cd (tb_me 44)) 1 = .ok (.bipush 50, 2) from by decide +kernel
theorem k44_3 {L : Nat} {xs : Nat → Int32} : decode (am_cd (am_me (tb_P L xs) 44)) 3 = .ok (.if_icmp .lt 13, 3) := show decode (am_cd (tb_me 44)) 3 = .ok (.if_icmp .lt 13, 3) from by decide +kernel
theorem k44_6 {L : Nat} {xs : Nat → Int32} : decode (am_cd (am_me (tb_P L xs) 44)) 6 = .ok (.iload_n 0, 1) := show decode (am_cd (tb_me 44)) 6 = .ok (.iload_n 0, 1) from by decide +kernel
theorem k44_7 {L : Nat} {xs : Nat → Int32} : decode (am_cd (am_me (tb_P L xs) 44)) 7 = .ok (.bipush 58, 2) := show decode (am_cd (tb_me 44)) 7 = .ok (.bipush 58, 2) from by decide +kernel
theorem k44_9 {L : Nat} {xs : Nat → Int32} : decode (am_cd (am_me (tb_P L xs) 44)) 9 = .ok (.if_icmp .gt 7, 3) := show decode (am_cd (tb_me 44)) 9 = .ok (.if_icmp .gt 7, 3) from by decide +kernel
theorem k44_12 {L : Nat} {xs : Nat → Int32} : decode (am_cd (am_me (tb_P L xs) 44)) 12 = .ok (.iconst 1, 1) := show decode (am_cd (tb_me 44)) 12 = .ok (.iconst 1, 1) from by decide +kernel
theorem k44_13 {L : Nat} {xs : Nat → Int32} : decode (am_cd (am_me (tb_P L xs) 44)) 13 = .ok (.goto 4, 3) := show decode (am_cd (tb_me 44)) 13 = .ok (.goto 4, 3) from by decide +kernel
theorem k44_16 {L : Nat} {xs : Nat → Int32} : decode (am_cd (am_me (tb_P L xs) 44)) 16 = .ok (.iconst 0, 1) := show decode (am_cd (tb_me 44)) 16 = .ok (.iconst 0, 1) from by decide +kernel
theorem k44_17 {L : Nat} {xs : Nat → Int32} : decode (am_cd (am_me (tb_P L xs) 44)) 17 = .ok (.ireturn, 1) := show decode (am_cd (tb_me 44)) 17 = .ok (.ireturn, 1) from by decide +kernel
theorem t44 {L : Nat} {xs : Nat → Int32} : am_rt (am_me (tb_P L xs) 44) = some (.boolean : FieldType) := show am_rt (tb_me 44) = some (.boolean : FieldType) from by decide +kernel
theorem l44 {L : Nat} {xs : Nat → Int32} : am_ml (am_me (tb_P L xs) 44) = 1 := show am_ml (tb_me 44) = 1 from by decide +kernel
theorem o44 {L : Nat} {xs : Nat → Int32} (pc : Nat) : am_no (tb_P L xs) 44 pc = true := show (am_hd (tb_me 44)).all (fun q => !(decide (q.1 ≤ pc) && decide (pc < q.2.1))) = true from by rw [show am_hd (tb_me 44) = [] by decide +kernel]; rfl
theorem k45_0 {L : Nat} {xs : Nat → Int32} : decode (am_cd (am_me (tb_P L xs) 45)) 0 = .ok (.aload_n 0, 1) := show decode (am_cd (tb_me 45)) 0 = .ok (.aload_n 0, 1) from by decide +kernel
theorem k45_1 {L : Nat} {xs : Nat → Int32} : decode (am_cd (am_me (tb_P L xs) 45)) 1 = .ok (.getfield 9, 3) := show decode (am_cd (tb_me 45)) 1 = .ok (.getfield 9, 3) from by decide +kernel
theorem f45_1 {L : Nat} {xs : Nat → Int32} : am_fd (tb_P L xs) 45 9 = some (1, 0, (.array .int : FieldType), false) := show tb_fdF 45 9 = some (1, 0, (.array .int : FieldType), false) from by decide +kernel
theorem k45_4 {L : Nat} {xs : Nat → Int32} : decode (am_cd (am_me (tb_P L xs) 45)) 4 = .ok (.aload_n 0, 1) := show decode (am_cd (tb_me 45)) 4 = .ok (.aload_n 0, 1) from by decide +kernel
theorem k45_5 {L : Nat} {xs : Nat → Int32} : decode (am_cd (am_me (tb_P L xs) 45)) 5 = .ok (.getfield 21, 3) := show decode (am_cd (tb_me 45)) 5 = .ok (.getfield 21, 3) from by decide +kernel
theorem f45_5 {L : Nat} {xs : Nat → Int32} : am_fd (tb_P L xs) 45 21 = some (1, 3, (.int : FieldType), true) := show tb_fdF 45 21 = some (1, 3, (.int : FieldType), true) from by decide +kernel
theorem k45_8 {L : Nat} {xs : Nat → Int32} : decode (am_cd (am_me (tb_P L xs) 45)) 8 = .ok (.iload_n 1, 1) := show decode (am_cd (tb_me 45)) 8 = .ok (.iload_n 1, 1) from by decide +kernel
theorem k45_9 {L : Nat} {xs : Nat → Int32} : decode (am_cd (am_me (tb_P L xs) 45)) 9 = .ok (.iastore, 1) := show decode (am_cd (tb_me 45)) 9 = .ok (.iastore, 1) from by decide +kernel
theorem k45_10 {L : Nat} {xs : Nat → Int32} : decode (am_cd (am_me (tb_P L xs) 45)) 10 = .ok (.aload_n 0, 1) := show decode (am_cd (tb_me 45)) 10 = .ok (.aload_n 0, 1) from by decide +kernel
theorem k45_11 {L : Nat} {xs : Nat → Int32} : decode (am_cd (am_me (tb_P L xs) 45)) 11 = .ok (.dup, 1) := show decode (am_cd (tb_me 45)) 11 = .ok (.dup, 1) from by decide +kernel
theorem k45_12 {L : Nat} {xs : Nat → Int32} : decode (am_cd (am_me (tb_P L xs) 45)) 12 = .ok (.getfield 21, 3) := show decode (am_cd (tb_me 45)) 12 = .ok (.getfield 21, 3) from by decide +kernel
theorem f45_12 {L : Nat} {xs : Nat → Int32} : am_fd (tb_P L xs) 45 21 = some (1, 3, (.int : FieldType), true) := show tb_fdF 45 21 = some (1, 3, (.int : FieldType), true) from by decide +kernel
theorem k45_15 {L : Nat} {xs : Nat → Int32} : decode (am_cd (am_me (tb_P L xs) 45)) 15 = .ok (.iconst 1, 1) := show decode (am_cd (tb_me 45)) 15 = .ok (.iconst 1, 1) from by decide +kernel
theorem k45_16 {L : Nat} {xs : Nat → Int32} : decode (am_cd (am_me (tb_P L xs) 45)) 16 = .ok (.iadd, 1) := show decode (am_cd (tb_me 45)) 16 = .ok (.iadd, 1) from by decide +kernel
theorem k45_17 {L : Nat} {xs : Nat → Int32} : decode (am_cd (am_me (tb_P L xs) 45)) 17 = .ok (.putfield 21, 3) := show decode (am_cd (tb_me 45)) 17 = .ok (.putfield 21, 3) from by decide +kernel
theorem f45_17 {L : Nat} {xs : Nat → Int32} : am_fd (tb_P L xs) 45 21 = some (1, 3, (.int : FieldType), true) := show tb_fdF 45 21 = some (1, 3, (.int : FieldType), true) from by decide +kernel
theorem k45_20 {L : Nat} {xs : Nat → Int32} : decode (am_cd (am_me (tb_P L xs) 45)) 20 = .ok (.aload_n 0, 1) := show decode (am_cd (tb_me 45)) 20 = .ok (.aload_n 0, 1) from by decide +kernel
theorem k45_21 {L : Nat} {xs : Nat → Int32} : decode (am_cd (am_me (tb_P L xs) 45)) 21 = .ok (.getfield 21, 3) := show decode (am_cd (tb_me 45)) 21 = .ok (.getfield 21, 3) from by decide +kernel
theorem f45_21 {L : Nat} {xs : Nat → Int32} : am_fd (tb_P L xs) 45 21 = some (1, 3, (.int : FieldType), true) := show tb_fdF 45 21 = some (1, 3, (.int : FieldType), true) from by decide +kernel
theorem k45_24 {L : Nat} {xs : Nat → Int32} : decode (am_cd (am_me (tb_P L xs) 45)) 24 = .ok (.ireturn, 1) := show decode (am_cd (tb_me 45)) 24 = .ok (.ireturn, 1) from by decide +kernel
theorem t45 {L : Nat} {xs : Nat → Int32} : am_rt (am_me (tb_P L xs) 45) = some (.int : FieldType) := show am_rt (tb_me 45) = some (.int : FieldType) from by decide +kernel
theorem l45 {L : Nat} {xs : Nat → Int32} : am_ml (am_me (tb_P L xs) 45) = 2 := show am_ml (tb_me 45) = 2 from by decide +kernel
theorem o45 {L : Nat} {xs : Nat → Int32} (pc : Nat) : am_no (tb_P L xs) 45 pc = true := show (am_hd (tb_me 45)).all (fun q => !(decide (q.1 ≤ pc) && decide (pc < q.2.1))) = true from by rw [show am_hd (tb_me 45) = [] by decide +kernel]; rfl
theorem k46_0 {L : Nat} {xs : Nat → Int32} : decode (am_cd (am_me (tb_P L xs) 46)) 0 = .ok (.aload_n 1, 1) := show decode (am_cd (tb_me 46)) 0 = .ok (.aload_n 1, 1) from by decide +kernel
theorem k46_1 {L : Nat} {xs : Nat → Int32} : decode (am_cd (am_me (tb_P L xs) 46)) 1 = .ok (.iconst 0, 1) := show decode (am_cd (tb_me 46)) 1 = .ok (.iconst 0, 1) from by decide +kernel
theorem k46_2 {L : Nat} {xs : Nat → Int32} : decode (am_cd (am_me (tb_P L xs) 46)) 2 = .ok (.aload_n 0, 1) := show decode (am_cd (tb_me 46)) 2 = .ok (.aload_n 0, 1) from by decide +kernel
theorem k46_3 {L : Nat} {xs : Nat → Int32} : decode (am_cd (am_me (tb_P L xs) 46)) 3 = .ok (.invokevirtual 21, 3) := show decode (am_cd (tb_me 46)) 3 = .ok (.invokevirtual 21, 3) from by decide +kernel
theorem s46_3 {L : Nat} {xs : Nat → Int32} : am_sp (tb_P L xs) 46 21 = none := show tb_spF 46 21 = none from by decide +kernel
theorem c46_3 {L : Nat} {xs : Nat → Int32} : am_ca (tb_P L xs) 46 21 = some (47, 0, 1) := show tb_caF 46 21 = some (47, 0, 1) from by decide +kernel
theorem r46_3 {L : Nat} {xs : Nat → Int32} : am_rf (am_me (tb_P L xs) 47) + 1 ≤ am_rf (am_me (tb_P L xs) 46) ∧ 2 + (am_ml (am_me (tb_P L xs) 47) + 11) + am_rl (am_me (tb_P L xs) 47) ≤ am_rl (am_me (tb_P L xs) 46) := show am_rf (tb_me 47) + 1 ≤ am_rf (tb_me 46) ∧ 2 + (am_ml (tb_me 47) + 11) + am_rl (tb_me 47) ≤ am_rl (tb_me 46) from by decide +kernel
theorem k46_6 {L : Nat} {xs : Nat → Int32} : decode (am_cd (am_me (tb_P L xs) 46)) 6 = .ok (.i2l, 1) := show decode (am_cd (tb_me 46)) 6 = .ok (.i2l, 1) from by decide +kernel
theorem k46_7 {L : Nat} {xs : Nat → Int32} : decode (am_cd (am_me (tb_P L xs) 46)) 7 = .ok (.lastore, 1) := show decode (am_cd (tb_me 46)) 7 = .ok (.lastore, 1) from by decide +kernel
theorem k46_8 {L : Nat} {xs : Nat → Int32} : decode (am_cd (am_me (tb_P L xs) 46)) 8 = .ok (.goto 9, 3) := show decode (am_cd (tb_me 46)) 8 = .ok (.goto 9, 3) from by decide +kernel
theorem k46_11 {L : Nat} {xs : Nat → Int32} : decode (am_cd (am_me (tb_P L xs) 46)) 11 = .ok (.astore_n 2, 1) := show decode (am_cd (tb_me 46)) 11 = .ok (.astore_n 2, 1) from by decide +kernel
theorem k46_12 {L : Nat} {xs : Nat → Int32} : decode (am_cd (am_me (tb_P L xs) 46)) 12 = .ok (.iconst 1, 1) := show decode (am_cd (tb_me 46)) 12 = .ok (.iconst 1, 1) from by decide +kernel
theorem k46_13 {L : Nat} {xs : Nat → Int32} : decode (am_cd (am_me (tb_P L xs) 46)) 13 = .ok (.ireturn, 1) := show decode (am_cd (tb_me 46)) 13 = .ok (.ireturn, 1) from by decide +kernel
theorem k46_14 {L : Nat} {xs : Nat → Int32} : decode (am_cd (am_me (tb_P L xs) 46)) 14 = .ok (.astore_n 2, 1) := show decode (am_cd (tb_me 46)) 14 = .ok (.astore_n 2, 1) from by decide +kernel
theorem k46_15 {L : Nat} {xs : Nat → Int32} : decode (am_cd (am_me (tb_P L xs) 46)) 15 = .ok (.iconst 2, 1) := show decode (am_cd (tb_me 46)) 15 = .ok (.iconst 2, 1) from by decide +kernel
theorem k46_16 {L : Nat} {xs : Nat → Int32} : decode (am_cd (am_me (tb_P L xs) 46)) 16 = .ok (.ireturn, 1) := show decode (am_cd (tb_me 46)) 16 = .ok (.ireturn, 1) from by decide +kernel
theorem k46_17 {L : Nat} {xs : Nat → Int32} : decode (am_cd (am_me (tb_P L xs) 46)) 17 = .ok (.iconst 0, 1) := show decode (am_cd (tb_me 46)) 17 = .ok (.iconst 0, 1) from by decide +kernel
theorem k46_18 {L : Nat} {xs : Nat → Int32} : decode (am_cd (am_me (tb_P L xs) 46)) 18 = .ok (.ireturn, 1) := show decode (am_cd (tb_me 46)) 18 = .ok (.ireturn, 1) from by decide +kernel
theorem t46 {L : Nat} {xs : Nat → Int32} : am_rt (am_me (tb_P L xs) 46) = some (.int : FieldType) := show am_rt (tb_me 46) = some (.int : FieldType) from by decide +kernel
theorem l46 {L : Nat} {xs : Nat → Int32} : am_ml (am_me (tb_P L xs) 46) = 3 := show am_ml (tb_me 46) = 3 from by decide +kernel
theorem k47_0 {L : Nat} {xs : Nat → Int32} : decode (am_cd (am_me (tb_P L xs) 47)) 0 = .ok (.aload_n 0, 1) := show decode (am_cd (tb_me 47)) 0 = .ok (.aload_n 0, 1) from by decide +kernel
theorem k47_1 {L : Nat} {xs : Nat → Int32} : decode (am_cd (am_me (tb_P L xs) 47)) 1 = .ok (.getfield 10, 3) := show decode (am_cd (tb_me 47)) 1 = .ok (.getfield 10, 3) from by decide +kernel
theorem f47_1 {L : Nat} {xs : Nat → Int32} : am_fd (tb_P L xs) 47 10 = some (0, 0, (.object "GluedMachines$Writing" : FieldType), false) := show tb_fdF 47 10 = some (0, 0, (.object "GluedMachines$Writing" : FieldType), false) from by decide +kernel
theorem k47_4 {L : Nat} {xs : Nat → Int32} : decode (am_cd (am_me (tb_P L xs) 47)) 4 = .ok (.invokevirtual 92, 3) := show decode (am_cd (tb_me 47)) 4 = .ok (.invokevirtual 92, 3) from by decide +kernel
theorem s47_4 {L : Nat} {xs : Nat → Int32} : am_sp (tb_P L xs) 47 92 = none := show tb_spF 47 92 = none from by decide +kernel
theorem c47_4 {L : Nat} {xs : Nat → Int32} : am_ca (tb_P L xs) 47 92 = some (48, 0, 1) := show tb_caF 47 92 = some (48, 0, 1) from by decide +kernel
theorem r47_4 {L : Nat} {xs : Nat → Int32} : am_rf (am_me (tb_P L xs) 48) + 1 ≤ am_rf (am_me (tb_P L xs) 47) ∧ 0 + (am_ml (am_me (tb_P L xs) 48) + 11) + am_rl (am_me (tb_P L xs) 48) ≤ am_rl (am_me (tb_P L xs) 47) := show am_rf (tb_me 48) + 1 ≤ am_rf (tb_me 47) ∧ 0 + (am_ml (tb_me 48) + 11) + am_rl (tb_me 48) ≤ am_rl (tb_me 47) from by decide +kernel
theorem k47_7 {L : Nat} {xs : Nat → Int32} : decode (am_cd (am_me (tb_P L xs) 47)) 7 = .ok (.ifCond .ne 18, 3) := show decode (am_cd (tb_me 47)) 7 = .ok (.ifCond .ne 18, 3) from by decide +kernel
theorem k47_10 {L : Nat} {xs : Nat → Int32} : decode (am_cd (am_me (tb_P L xs) 47)) 10 = .ok (.aload_n 0, 1) := show decode (am_cd (tb_me 47)) 10 = .ok (.aload_n 0, 1) from by decide +kernel
theorem k47_11 {L : Nat} {xs : Nat → Int32} : decode (am_cd (am_me (tb_P L xs) 47)) 11 = .ok (.getfield 10, 3) := show decode (am_cd (tb_me 47)) 11 = .ok (.getfield 10, 3) from by decide +kernel
theorem f47_11 {L : Nat} {xs : Nat → Int32} : am_fd (tb_P L xs) 47 10 = some (0, 0, (.object "GluedMachines$Writing" : FieldType), false) := show tb_fdF 47 10 = some (0, 0, (.object "GluedMachines$Writing" : FieldType), false) from by decide +kernel
theorem k47_14 {L : Nat} {xs : Nat → Int32} : decode (am_cd (am_me (tb_P L xs) 47)) 14 = .ok (.invokevirtual 96, 3) := show decode (am_cd (tb_me 47)) 14 = .ok (.invokevirtual 96, 3) from by decide +kernel
theorem s47_14 {L : Nat} {xs : Nat → Int32} : am_sp (tb_P L xs) 47 96 = none := show tb_spF 47 96 = none from by decide +kernel
theorem c47_14 {L : Nat} {xs : Nat → Int32} : am_ca (tb_P L xs) 47 96 = some (54, 0, 1) := show tb_caF 47 96 = some (54, 0, 1) from by decide +kernel
theorem r47_14 {L : Nat} {xs : Nat → Int32} : am_rf (am_me (tb_P L xs) 54) + 1 ≤ am_rf (am_me (tb_P L xs) 47) ∧ 0 + (am_ml (am_me (tb_P L xs) 54) + 11) + am_rl (am_me (tb_P L xs) 54) ≤ am_rl (am_me (tb_P L xs) 47) := show am_rf (tb_me 54) + 1 ≤ am_rf (tb_me 47) ∧ 0 + (am_ml (tb_me 54) + 11) + am_rl (tb_me 54) ≤ am_rl (tb_me 47) from by decide +kernel
theorem k47_17 {L : Nat} {xs : Nat → Int32} : decode (am_cd (am_me (tb_P L xs) 47)) 17 = .ok (.new 65, 3) := show decode (am_cd (tb_me 47)) 17 = .ok (.new 65, 3) from by decide +kernel
theorem n47_17 {L : Nat} {xs : Nat → Int32} : am_nw (tb_P L xs) 47 65 = none := show tb_nwF 47 65 = none from by decide +kernel
theorem x47_17 {L : Nat} {xs : Nat → Int32} : am_xn (tb_P L xs) 47 65 67 = some 9 := show tb_xnF 47 65 67 = some 9 from by decide +kernel
theorem r47_17 {L : Nat} {xs : Nat → Int32} : 5 < am_rf (am_me (tb_P L xs) 47) ∧ 0 + 82 ≤ am_rl (am_me (tb_P L xs) 47) := show 5 < am_rf (tb_me 47) ∧ 0 + 82 ≤ am_rl (tb_me 47) from by decide +kernel
theorem k47_20 {L : Nat} {xs : Nat → Int32} : decode (am_cd (am_me (tb_P L xs) 47)) 20 = .ok (.dup, 1) := show decode (am_cd (tb_me 47)) 20 = .ok (.dup, 1) from by decide +kernel
theorem k47_21 {L : Nat} {xs : Nat → Int32} : decode (am_cd (am_me (tb_P L xs) 47)) 21 = .ok (.invokespecial 67, 3) := show decode (am_cd (tb_me 47)) 21 = .ok (.invokespecial 67, 3) from by decide +kernel
theorem k47_24 {L : Nat} {xs : Nat → Int32} : decode (am_cd (am_me (tb_P L xs) 47)) 24 = .ok (.athrow, 1) := show decode (am_cd (tb_me 47)) 24 = .ok (.athrow, 1) from by decide +kernel
theorem k47_25 {L : Nat} {xs : Nat → Int32} : decode (am_cd (am_me (tb_P L xs) 47)) 25 = .ok (.aload_n 0, 1) := show decode (am_cd (tb_me 47)) 25 = .ok (.aload_n 0, 1) from by decide +kernel
theorem k47_26 {L : Nat} {xs : Nat → Int32} : decode (am_cd (am_me (tb_P L xs) 47)) 26 = .ok (.getfield 22, 3) := show decode (am_cd (tb_me 47)) 26 = .ok (.getfield 22, 3) from by decide +kernel
theorem f47_26 {L : Nat} {xs : Nat → Int32} : am_fd (tb_P L xs) 47 22 = some (0, 2, (.int : FieldType), true) := show tb_fdF 47 22 = some (0, 2, (.int : FieldType), true) from by decide +kernel
theorem k47_29 {L : Nat} {xs : Nat → Int32} : decode (am_cd (am_me (tb_P L xs) 47)) 29 = .ok (.bipush 30, 2) := show decode (am_cd (tb_me 47)) 29 = .ok (.bipush 30, 2) from by decide +kernel
theorem k47_31 {L : Nat} {xs : Nat → Int32} : decode (am_cd (am_me (tb_P L xs) 47)) 31 = .ok (.if_icmp .ne 11, 3) := show decode (am_cd (tb_me 47)) 31 = .ok (.if_icmp .ne 11, 3) from by decide +kernel
theorem k47_34 {L : Nat} {xs : Nat → Int32} : decode (am_cd (am_me (tb_P L xs) 47)) 34 = .ok (.new 85, 3) := show decode (am_cd (tb_me 47)) 34 = .ok (.new 85, 3) from by decide +kernel
theorem n47_34 {L : Nat} {xs : Nat → Int32} : am_nw (tb_P L xs) 47 85 = none := show tb_nwF 47 85 = none from by decide +kernel
theorem x47_34 {L : Nat} {xs : Nat → Int32} : am_xn (tb_P L xs) 47 85 87 = some 10 := show tb_xnF 47 85 87 = some 10 from by decide +kernel
theorem r47_34 {L : Nat} {xs : Nat → Int32} : 5 < am_rf (am_me (tb_P L xs) 47) ∧ 0 + 82 ≤ am_rl (am_me (tb_P L xs) 47) := show 5 < am_rf (tb_me 47) ∧ 0 + 82 ≤ am_rl (tb_me 47) from by decide +kernel
theorem k47_37 {L : Nat} {xs : Nat → Int32} : decode (am_cd (am_me (tb_P L xs) 47)) 37 = .ok (.dup, 1) := show decode (am_cd (tb_me 47)) 37 = .ok (.dup, 1) from by decide +kernel
theorem k47_38 {L : Nat} {xs : Nat → Int32} : decode (am_cd (am_me (tb_P L xs) 47)) 38 = .ok (.invokespecial 87, 3) := show decode (am_cd (tb_me 47)) 38 = .ok (.invokespecial 87, 3) from by decide +kernel
theorem k47_41 {L : Nat} {xs : Nat → Int32} : decode (am_cd (am_me (tb_P L xs) 47)) 41 = .ok (.athrow, 1) := show decode (am_cd (tb_me 47)) 41 = .ok (.athrow, 1) from by decide +kernel
theorem k47_42 {L : Nat} {xs : Nat → Int32} : decode (am_cd (am_me (tb_P L xs) 47)) 42 = .ok (.aload_n 0, 1) := show decode (am_cd (tb_me 47)) 42 = .ok (.aload_n 0, 1) from by decide +kernel
theorem k47_43 {L : Nat} {xs : Nat → Int32} : decode (am_cd (am_me (tb_P L xs) 47)) 43 = .ok (.getfield 18, 3) := show decode (am_cd (tb_me 47)) 43 = .ok (.getfield 18, 3) from by decide +kernel
theorem f47_43 {L : Nat} {xs : Nat → Int32} : am_fd (tb_P L xs) 47 18 = some (0, 1, (.array (.object "GluedMachines$Formula") : FieldType), false) := show tb_fdF 47 18 = some (0, 1, (.array (.object "GluedMachines$Formula") : FieldType), false) from by decide +kernel
theorem k47_46 {L : Nat} {xs : Nat → Int32} : decode (am_cd (am_me (tb_P L xs) 47)) 46 = .ok (.aload_n 0, 1) := show decode (am_cd (tb_me 47)) 46 = .ok (.aload_n 0, 1) from by decide +kernel
theorem k47_47 {L : Nat} {xs : Nat → Int32} : decode (am_cd (am_me (tb_P L xs) 47)) 47 = .ok (.getfield 22, 3) := show decode (am_cd (tb_me 47)) 47 = .ok (.getfield 22, 3) from by decide +kernel
theorem f47_47 {L : Nat} {xs : Nat → Int32} : am_fd (tb_P L xs) 47 22 = some (0, 2, (.int : FieldType), true) := show tb_fdF 47 22 = some (0, 2, (.int : FieldType), true) from by decide +kernel
theorem k47_50 {L : Nat} {xs : Nat → Int32} : decode (am_cd (am_me (tb_P L xs) 47)) 50 = .ok (.new 16, 3) := show decode (am_cd (tb_me 47)) 50 = .ok (.new 16, 3) from by decide +kernel
theorem n47_50 {L : Nat} {xs : Nat → Int32} : am_nw (tb_P L xs) 47 16 = some 2 := show tb_nwF 47 16 = some 2 from by decide +kernel
theorem k47_53 {L : Nat} {xs : Nat → Int32} : decode (am_cd (am_me (tb_P L xs) 47)) 53 = .ok (.dup, 1) := show decode (am_cd (tb_me 47)) 53 = .ok (.dup, 1) from by decide +kernel
theorem k47_54 {L : Nat} {xs : Nat → Int32} : decode (am_cd (am_me (tb_P L xs) 47)) 54 = .ok (.aload_n 0, 1) := show decode (am_cd (tb_me 47)) 54 = .ok (.aload_n 0, 1) from by decide +kernel
theorem k47_55 {L : Nat} {xs : Nat → Int32} : decode (am_cd (am_me (tb_P L xs) 47)) 55 = .ok (.getfield 10, 3) := show decode (am_cd (tb_me 47)) 55 = .ok (.getfield 10, 3) from by decide +kernel
theorem f47_55 {L : Nat} {xs : Nat → Int32} : am_fd (tb_P L xs) 47 10 = some (0, 0, (.object "GluedMachines$Writing" : FieldType), false) := show tb_fdF 47 10 = some (0, 0, (.object "GluedMachines$Writing" : FieldType), false) from by decide +kernel
theorem k47_58 {L : Nat} {xs : Nat → Int32} : decode (am_cd (am_me (tb_P L xs) 47)) 58 = .ok (.invokespecial 99, 3) := show decode (am_cd (tb_me 47)) 58 = .ok (.invokespecial 99, 3) from by decide +kernel
theorem s47_58 {L : Nat} {xs : Nat → Int32} : am_sp (tb_P L xs) 47 99 = none := show tb_spF 47 99 = none from by decide +kernel
theorem c47_58 {L : Nat} {xs : Nat → Int32} : am_ca (tb_P L xs) 47 99 = some (55, 1, 2) := show tb_caF 47 99 = some (55, 1, 2) from by decide +kernel
theorem r47_58 {L : Nat} {xs : Nat → Int32} : am_rf (am_me (tb_P L xs) 55) + 1 ≤ am_rf (am_me (tb_P L xs) 47) ∧ 3 + (am_ml (am_me (tb_P L xs) 55) + 11) + am_rl (am_me (tb_P L xs) 55) ≤ am_rl (am_me (tb_P L xs) 47) := show am_rf (tb_me 55) + 1 ≤ am_rf (tb_me 47) ∧ 3 + (am_ml (tb_me 55) + 11) + am_rl (tb_me 55) ≤ am_rl (tb_me 47) from by decide +kernel
theorem k47_61 {L : Nat} {xs : Nat → Int32} : decode (am_cd (am_me (tb_P L xs) 47)) 61 = .ok (.aastore, 1) := show decode (am_cd (tb_me 47)) 61 = .ok (.aastore, 1) from by decide +kernel
theorem k47_62 {L : Nat} {xs : Nat → Int32} : decode (am_cd (am_me (tb_P L xs) 47)) 62 = .ok (.aload_n 0, 1) := show decode (am_cd (tb_me 47)) 62 = .ok (.aload_n 0, 1) from by decide +kernel
theorem k47_63 {L : Nat} {xs : Nat → Int32} : decode (am_cd (am_me (tb_P L xs) 47)) 63 = .ok (.getfield 10, 3) := show decode (am_cd (tb_me 47)) 63 = .ok (.getfield 10, 3) from by decide +kernel
theorem f47_63 {L : Nat} {xs : Nat → Int32} : am_fd (tb_P L xs) 47 10 = some (0, 0, (.object "GluedMachines$Writing" : FieldType), false) := show tb_fdF 47 10 = some (0, 0, (.object "GluedMachines$Writing" : FieldType), false) from by decide +kernel
theorem k47_66 {L : Nat} {xs : Nat → Int32} : decode (am_cd (am_me (tb_P L xs) 47)) 66 = .ok (.invokevirtual 96, 3) := show decode (am_cd (tb_me 47)) 66 = .ok (.invokevirtual 96, 3) from by decide +kernel
theorem s47_66 {L : Nat} {xs : Nat → Int32} : am_sp (tb_P L xs) 47 96 = none := show tb_spF 47 96 = none from by decide +kernel
theorem c47_66 {L : Nat} {xs : Nat → Int32} : am_ca (tb_P L xs) 47 96 = some (54, 0, 1) := show tb_caF 47 96 = some (54, 0, 1) from by decide +kernel
theorem r47_66 {L : Nat} {xs : Nat → Int32} : am_rf (am_me (tb_P L xs) 54) + 1 ≤ am_rf (am_me (tb_P L xs) 47) ∧ 0 + (am_ml (am_me (tb_P L xs) 54) + 11) + am_rl (am_me (tb_P L xs) 54) ≤ am_rl (am_me (tb_P L xs) 47) := show am_rf (tb_me 54) + 1 ≤ am_rf (tb_me 47) ∧ 0 + (am_ml (tb_me 54) + 11) + am_rl (tb_me 54) ≤ am_rl (tb_me 47) from by decide +kernel
theorem k47_69 {L : Nat} {xs : Nat → Int32} : decode (am_cd (am_me (tb_P L xs) 47)) 69 = .ok (.aload_n 0, 1) := show decode (am_cd (tb_me 47)) 69 = .ok (.aload_n 0, 1) from by decide +kernel
theorem k47_70 {L : Nat} {xs : Nat → Int32} : decode (am_cd (am_me (tb_P L xs) 47)) 70 = .ok (.dup, 1) := show decode (am_cd (tb_me 47)) 70 = .ok (.dup, 1) from by decide +kernel
theorem k47_71 {L : Nat} {xs : Nat → Int32} : decode (am_cd (am_me (tb_P L xs) 47)) 71 = .ok (.getfield 22, 3) := show decode (am_cd (tb_me 47)) 71 = .ok (.getfield 22, 3) from by decide +kernel
theorem f47_71 {L : Nat} {xs : Nat → Int32} : am_fd (tb_P L xs) 47 22 = some (0, 2, (.int : FieldType), true) := show tb_fdF 47 22 = some (0, 2, (.int : FieldType), true) from by decide +kernel
theorem k47_74 {L : Nat} {xs : Nat → Int32} : decode (am_cd (am_me (tb_P L xs) 47)) 74 = .ok (.iconst 1, 1) := show decode (am_cd (tb_me 47)) 74 = .ok (.iconst 1, 1) from by decide +kernel
theorem k47_75 {L : Nat} {xs : Nat → Int32} : decode (am_cd (am_me (tb_P L xs) 47)) 75 = .ok (.iadd, 1) := show decode (am_cd (tb_me 47)) 75 = .ok (.iadd, 1) from by decide +kernel
theorem k47_76 {L : Nat} {xs : Nat → Int32} : decode (am_cd (am_me (tb_P L xs) 47)) 76 = .ok (.putfield 22, 3) := show decode (am_cd (tb_me 47)) 76 = .ok (.putfield 22, 3) from by decide +kernel
theorem f47_76 {L : Nat} {xs : Nat → Int32} : am_fd (tb_P L xs) 47 22 = some (0, 2, (.int : FieldType), true) := show tb_fdF 47 22 = some (0, 2, (.int : FieldType), true) from by decide +kernel
theorem k47_79 {L : Nat} {xs : Nat → Int32} : decode (am_cd (am_me (tb_P L xs) 47)) 79 = .ok (.aload_n 0, 1) := show decode (am_cd (tb_me 47)) 79 = .ok (.aload_n 0, 1) from by decide +kernel
theorem k47_80 {L : Nat} {xs : Nat → Int32} : decode (am_cd (am_me (tb_P L xs) 47)) 80 = .ok (.getfield 22, 3) := show decode (am_cd (tb_me 47)) 80 = .ok (.getfield 22, 3) from by decide +kernel
theorem f47_80 {L : Nat} {xs : Nat → Int32} : am_fd (tb_P L xs) 47 22 = some (0, 2, (.int : FieldType), true) := show tb_fdF 47 22 = some (0, 2, (.int : FieldType), true) from by decide +kernel
theorem k47_83 {L : Nat} {xs : Nat → Int32} : decode (am_cd (am_me (tb_P L xs) 47)) 83 = .ok (.iconst 1, 1) := show decode (am_cd (tb_me 47)) 83 = .ok (.iconst 1, 1) from by decide +kernel
theorem k47_84 {L : Nat} {xs : Nat → Int32} : decode (am_cd (am_me (tb_P L xs) 47)) 84 = .ok (.isub, 1) := show decode (am_cd (tb_me 47)) 84 = .ok (.isub, 1) from by decide +kernel
theorem k47_85 {L : Nat} {xs : Nat → Int32} : decode (am_cd (am_me (tb_P L xs) 47)) 85 = .ok (.ireturn, 1) := show decode (am_cd (tb_me 47)) 85 = .ok (.ireturn, 1) from by decide +kernel
theorem t47 {L : Nat} {xs : Nat → Int32} : am_rt (am_me (tb_P L xs) 47) = some (.int : FieldType) := show am_rt (tb_me 47) = some (.int : FieldType) from by decide +kernel
theorem l47 {L : Nat} {xs : Nat → Int32} : am_ml (am_me (tb_P L xs) 47) = 1 := show am_ml (tb_me 47) = 1 from by decide +kernel
theorem o47 {L : Nat} {xs : Nat → Int32} (pc : Nat) : am_no (tb_P L xs) 47 pc = true := show (am_hd (tb_me 47)).all (fun q => !(decide (q.1 ≤ pc) && decide (pc < q.2.1))) = true from by rw [show am_hd (tb_me 47) = [] by decide +kernel]; rfl
theorem k48_0 {L : Nat} {xs : Nat → Int32} : decode (am_cd (am_me (tb_P L xs) 48)) 0 = .ok (.aload_n 0, 1) := show decode (am_cd (tb_me 48)) 0 = .ok (.aload_n 0, 1) from by decide +kernel
theorem k48_1 {L : Nat} {xs : Nat → Int32} : decode (am_cd (am_me (tb_P L xs) 48)) 1 = .ok (.getfield 15, 3) := show decode (am_cd (tb_me 48)) 1 = .ok (.getfield 15, 3) from by decide +kernel
theorem f48_1 {L : Nat} {xs : Nat → Int32} : am_fd (tb_P L xs) 48 15 = some (1, 1, (.array .int : FieldType), false) := show tb_fdF 48 15 = some (1, 1, (.array .int : FieldType), false) from by decide +kernel
theorem k48_4 {L : Nat} {xs : Nat → Int32} : decode (am_cd (am_me (tb_P L xs) 48)) 4 = .ok (.aload_n 0, 1) := show decode (am_cd (tb_me 48)) 4 = .ok (.aload_n 0, 1) from by decide +kernel
theorem k48_5 {L : Nat} {xs : Nat → Int32} : decode (am_cd (am_me (tb_P L xs) 48)) 5 = .ok (.getfield 21, 3) := show decode (am_cd (tb_me 48)) 5 = .ok (.getfield 21, 3) from by decide +kernel
theorem f48_5 {L : Nat} {xs : Nat → Int32} : am_fd (tb_P L xs) 48 21 = some (1, 3, (.int : FieldType), true) := show tb_fdF 48 21 = some (1, 3, (.int : FieldType), true) from by decide +kernel
theorem k48_8 {L : Nat} {xs : Nat → Int32} : decode (am_cd (am_me (tb_P L xs) 48)) 8 = .ok (.iconst 0, 1) := show decode (am_cd (tb_me 48)) 8 = .ok (.iconst 0, 1) from by decide +kernel
theorem k48_9 {L : Nat} {xs : Nat → Int32} : decode (am_cd (am_me (tb_P L xs) 48)) 9 = .ok (.iastore, 1) := show decode (am_cd (tb_me 48)) 9 = .ok (.iastore, 1) from by decide +kernel
theorem k48_10 {L : Nat} {xs : Nat → Int32} : decode (am_cd (am_me (tb_P L xs) 48)) 10 = .ok (.aload_n 0, 1) := show decode (am_cd (tb_me 48)) 10 = .ok (.aload_n 0, 1) from by decide +kernel
theorem k48_11 {L : Nat} {xs : Nat → Int32} : decode (am_cd (am_me (tb_P L xs) 48)) 11 = .ok (.getfield 18, 3) := show decode (am_cd (tb_me 48)) 11 = .ok (.getfield 18, 3) from by decide +kernel
theorem f48_11 {L : Nat} {xs : Nat → Int32} : am_fd (tb_P L xs) 48 18 = some (1, 2, (.array .int : FieldType), false) := show tb_fdF 48 18 = some (1, 2, (.array .int : FieldType), false) from by decide +kernel
theorem k48_14 {L : Nat} {xs : Nat → Int32} : decode (am_cd (am_me (tb_P L xs) 48)) 14 = .ok (.aload_n 0, 1) := show decode (am_cd (tb_me 48)) 14 = .ok (.aload_n 0, 1) from by decide +kernel
theorem k48_15 {L : Nat} {xs : Nat → Int32} : decode (am_cd (am_me (tb_P L xs) 48)) 15 = .ok (.getfield 21, 3) := show decode (am_cd (tb_me 48)) 15 = .ok (.getfield 21, 3) from by decide +kernel
theorem f48_15 {L : Nat} {xs : Nat → Int32} : am_fd (tb_P L xs) 48 21 = some (1, 3, (.int : FieldType), true) := show tb_fdF 48 21 = some (1, 3, (.int : FieldType), true) from by decide +kernel
theorem k48_18 {L : Nat} {xs : Nat → Int32} : decode (am_cd (am_me (tb_P L xs) 48)) 18 = .ok (.aload_n 0, 1) := show decode (am_cd (tb_me 48)) 18 = .ok (.aload_n 0, 1) from by decide +kernel
theorem k48_19 {L : Nat} {xs : Nat → Int32} : decode (am_cd (am_me (tb_P L xs) 48)) 19 = .ok (.getfield 21, 3) := show decode (am_cd (tb_me 48)) 19 = .ok (.getfield 21, 3) from by decide +kernel
theorem f48_19 {L : Nat} {xs : Nat → Int32} : am_fd (tb_P L xs) 48 21 = some (1, 3, (.int : FieldType), true) := show tb_fdF 48 21 = some (1, 3, (.int : FieldType), true) from by decide +kernel
theorem k48_22 {L : Nat} {xs : Nat → Int32} : decode (am_cd (am_me (tb_P L xs) 48)) 22 = .ok (.iastore, 1) := show decode (am_cd (tb_me 48)) 22 = .ok (.iastore, 1) from by decide +kernel
theorem k48_23 {L : Nat} {xs : Nat → Int32} : decode (am_cd (am_me (tb_P L xs) 48)) 23 = .ok (.aload_n 0, 1) := show decode (am_cd (tb_me 48)) 23 = .ok (.aload_n 0, 1) from by decide +kernel
theorem k48_24 {L : Nat} {xs : Nat → Int32} : decode (am_cd (am_me (tb_P L xs) 48)) 24 = .ok (.getfield 21, 3) := show decode (am_cd (tb_me 48)) 24 = .ok (.getfield 21, 3) from by decide +kernel
theorem f48_24 {L : Nat} {xs : Nat → Int32} : am_fd (tb_P L xs) 48 21 = some (1, 3, (.int : FieldType), true) := show tb_fdF 48 21 = some (1, 3, (.int : FieldType), true) from by decide +kernel
theorem k48_27 {L : Nat} {xs : Nat → Int32} : decode (am_cd (am_me (tb_P L xs) 48)) 27 = .ok (.iconst 1, 1) := show decode (am_cd (tb_me 48)) 27 = .ok (.iconst 1, 1) from by decide +kernel
theorem k48_28 {L : Nat} {xs : Nat → Int32} : decode (am_cd (am_me (tb_P L xs) 48)) 28 = .ok (.isub, 1) := show decode (am_cd (tb_me 48)) 28 = .ok (.isub, 1) from by decide +kernel
theorem k48_29 {L : Nat} {xs : Nat → Int32} : decode (am_cd (am_me (tb_P L xs) 48)) 29 = .ok (.istore_n 1, 1) := show decode (am_cd (tb_me 48)) 29 = .ok (.istore_n 1, 1) from by decide +kernel
theorem k48_30 {L : Nat} {xs : Nat → Int32} : decode (am_cd (am_me (tb_P L xs) 48)) 30 = .ok (.iload_n 1, 1) := show decode (am_cd (tb_me 48)) 30 = .ok (.iload_n 1, 1) from by decide +kernel
theorem k48_31 {L : Nat} {xs : Nat → Int32} : decode (am_cd (am_me (tb_P L xs) 48)) 31 = .ok (.ifCond .lt 82, 3) := show decode (am_cd (tb_me 48)) 31 = .ok (.ifCond .lt 82, 3) from by decide +kernel
theorem k48_34 {L : Nat} {xs : Nat → Int32} : decode (am_cd (am_me (tb_P L xs) 48)) 34 = .ok (.aload_n 0, 1) := show decode (am_cd (tb_me 48)) 34 = .ok (.aload_n 0, 1) from by decide +kernel
theorem k48_35 {L : Nat} {xs : Nat → Int32} : decode (am_cd (am_me (tb_P L xs) 48)) 35 = .ok (.getfield 18, 3) := show decode (am_cd (tb_me 48)) 35 = .ok (.getfield 18, 3) from by decide +kernel
theorem f48_35 {L : Nat} {xs : Nat → Int32} : am_fd (tb_P L xs) 48 18 = some (1, 2, (.array .int : FieldType), false) := show tb_fdF 48 18 = some (1, 2, (.array .int : FieldType), false) from by decide +kernel
theorem k48_38 {L : Nat} {xs : Nat → Int32} : decode (am_cd (am_me (tb_P L xs) 48)) 38 = .ok (.iload_n 1, 1) := show decode (am_cd (tb_me 48)) 38 = .ok (.iload_n 1, 1) from by decide +kernel
theorem k48_39 {L : Nat} {xs : Nat → Int32} : decode (am_cd (am_me (tb_P L xs) 48)) 39 = .ok (.aload_n 0, 1) := show decode (am_cd (tb_me 48)) 39 = .ok (.aload_n 0, 1) from by decide +kernel
theorem k48_40 {L : Nat} {xs : Nat → Int32} : decode (am_cd (am_me (tb_P L xs) 48)) 40 = .ok (.iload_n 1, 1) := show decode (am_cd (tb_me 48)) 40 = .ok (.iload_n 1, 1) from by decide +kernel
theorem k48_41 {L : Nat} {xs : Nat → Int32} : decode (am_cd (am_me (tb_P L xs) 48)) 41 = .ok (.invokevirtual 27, 3) := show decode (am_cd (tb_me 48)) 41 = .ok (.invokevirtual 27, 3) from by decide +kernel
theorem s48_41 {L : Nat} {xs : Nat → Int32} : am_sp (tb_P L xs) 48 27 = none := show tb_spF 48 27 = none from by decide +kernel
theorem c48_41 {L : Nat} {xs : Nat → Int32} : am_ca (tb_P L xs) 48 27 = some (49, 1, 1) := show tb_caF 48 27 = some (49, 1, 1) from by decide +kernel
theorem r48_41 {L : Nat} {xs : Nat → Int32} : am_rf (am_me (tb_P L xs) 49) + 1 ≤ am_rf (am_me (tb_P L xs) 48) ∧ 2 + (am_ml (am_me (tb_P L xs) 49) + 11) + am_rl (am_me (tb_P L xs) 49) ≤ am_rl (am_me (tb_P L xs) 48) := show am_rf (tb_me 49) + 1 ≤ am_rf (tb_me 48) ∧ 2 + (am_ml (tb_me 49) + 11) + am_rl (tb_me 49) ≤ am_rl (tb_me 48) from by decide +kernel
theorem k48_44 {L : Nat} {xs : Nat → Int32} : decode (am_cd (am_me (tb_P L xs) 48)) 44 = .ok (.iastore, 1) := show decode (am_cd (tb_me 48)) 44 = .ok (.iastore, 1) from by decide +kernel
theorem k48_45 {L : Nat} {xs : Nat → Int32} : decode (am_cd (am_me (tb_P L xs) 48)) 45 = .ok (.aload_n 0, 1) := show decode (am_cd (tb_me 48)) 45 = .ok (.aload_n 0, 1) from by decide +kernel
theorem k48_46 {L : Nat} {xs : Nat → Int32} : decode (am_cd (am_me (tb_P L xs) 48)) 46 = .ok (.getfield 18, 3) := show decode (am_cd (tb_me 48)) 46 = .ok (.getfield 18, 3) from by decide +kernel
theorem f48_46 {L : Nat} {xs : Nat → Int32} : am_fd (tb_P L xs) 48 18 = some (1, 2, (.array .int : FieldType), false) := show tb_fdF 48 18 = some (1, 2, (.array .int : FieldType), false) from by decide +kernel
theorem k48_49 {L : Nat} {xs : Nat → Int32} : decode (am_cd (am_me (tb_P L xs) 48)) 49 = .ok (.iload_n 1, 1) := show decode (am_cd (tb_me 48)) 49 = .ok (.iload_n 1, 1) from by decide +kernel
theorem k48_50 {L : Nat} {xs : Nat → Int32} : decode (am_cd (am_me (tb_P L xs) 48)) 50 = .ok (.iaload, 1) := show decode (am_cd (tb_me 48)) 50 = .ok (.iaload, 1) from by decide +kernel
theorem k48_51 {L : Nat} {xs : Nat → Int32} : decode (am_cd (am_me (tb_P L xs) 48)) 51 = .ok (.iload_n 1, 1) := show decode (am_cd (tb_me 48)) 51 = .ok (.iload_n 1, 1) from by decide +kernel
theorem k48_52 {L : Nat} {xs : Nat → Int32} : decode (am_cd (am_me (tb_P L xs) 48)) 52 = .ok (.if_icmp .le 7, 3) := show decode (am_cd (tb_me 48)) 52 = .ok (.if_icmp .le 7, 3) from by decide +kernel
theorem k48_55 {L : Nat} {xs : Nat → Int32} : decode (am_cd (am_me (tb_P L xs) 48)) 55 = .ok (.iconst 1, 1) := show decode (am_cd (tb_me 48)) 55 = .ok (.iconst 1, 1) from by decide +kernel
theorem k48_56 {L : Nat} {xs : Nat → Int32} : decode (am_cd (am_me (tb_P L xs) 48)) 56 = .ok (.goto 4, 3) := show decode (am_cd (tb_me 48)) 56 = .ok (.goto 4, 3) from by decide +kernel
theorem k48_59 {L : Nat} {xs : Nat → Int32} : decode (am_cd (am_me (tb_P L xs) 48)) 59 = .ok (.iconst 0, 1) := show decode (am_cd (tb_me 48)) 59 = .ok (.iconst 0, 1) from by decide +kernel
theorem k48_60 {L : Nat} {xs : Nat → Int32} : decode (am_cd (am_me (tb_P L xs) 48)) 60 = .ok (.istore_n 2, 1) := show decode (am_cd (tb_me 48)) 60 = .ok (.istore_n 2, 1) from by decide +kernel
theorem k48_61 {L : Nat} {xs : Nat → Int32} : decode (am_cd (am_me (tb_P L xs) 48)) 61 = .ok (.aload_n 0, 1) := show decode (am_cd (tb_me 48)) 61 = .ok (.aload_n 0, 1) from by decide +kernel
theorem k48_62 {L : Nat} {xs : Nat → Int32} : decode (am_cd (am_me (tb_P L xs) 48)) 62 = .ok (.getfield 15, 3) := show decode (am_cd (tb_me 48)) 62 = .ok (.getfield 15, 3) from by decide +kernel
theorem f48_62 {L : Nat} {xs : Nat → Int32} : am_fd (tb_P L xs) 48 15 = some (1, 1, (.array .int : FieldType), false) := show tb_fdF 48 15 = some (1, 1, (.array .int : FieldType), false) from by decide +kernel
theorem k48_65 {L : Nat} {xs : Nat → Int32} : decode (am_cd (am_me (tb_P L xs) 48)) 65 = .ok (.iload_n 1, 1) := show decode (am_cd (tb_me 48)) 65 = .ok (.iload_n 1, 1) from by decide +kernel
theorem k48_66 {L : Nat} {xs : Nat → Int32} : decode (am_cd (am_me (tb_P L xs) 48)) 66 = .ok (.iload_n 2, 1) := show decode (am_cd (tb_me 48)) 66 = .ok (.iload_n 2, 1) from by decide +kernel
theorem k48_67 {L : Nat} {xs : Nat → Int32} : decode (am_cd (am_me (tb_P L xs) 48)) 67 = .ok (.ifCond .eq 15, 3) := show decode (am_cd (tb_me 48)) 67 = .ok (.ifCond .eq 15, 3) from by decide +kernel
theorem k48_70 {L : Nat} {xs : Nat → Int32} : decode (am_cd (am_me (tb_P L xs) 48)) 70 = .ok (.aload_n 0, 1) := show decode (am_cd (tb_me 48)) 70 = .ok (.aload_n 0, 1) from by decide +kernel
theorem k48_71 {L : Nat} {xs : Nat → Int32} : decode (am_cd (am_me (tb_P L xs) 48)) 71 = .ok (.getfield 9, 3) := show decode (am_cd (tb_me 48)) 71 = .ok (.getfield 9, 3) from by decide +kernel
theorem f48_71 {L : Nat} {xs : Nat → Int32} : am_fd (tb_P L xs) 48 9 = some (1, 0, (.array .int : FieldType), false) := show tb_fdF 48 9 = some (1, 0, (.array .int : FieldType), false) from by decide +kernel
theorem k48_74 {L : Nat} {xs : Nat → Int32} : decode (am_cd (am_me (tb_P L xs) 48)) 74 = .ok (.iload_n 1, 1) := show decode (am_cd (tb_me 48)) 74 = .ok (.iload_n 1, 1) from by decide +kernel
theorem k48_75 {L : Nat} {xs : Nat → Int32} : decode (am_cd (am_me (tb_P L xs) 48)) 75 = .ok (.iaload, 1) := show decode (am_cd (tb_me 48)) 75 = .ok (.iaload, 1) from by decide +kernel
theorem k48_76 {L : Nat} {xs : Nat → Int32} : decode (am_cd (am_me (tb_P L xs) 48)) 76 = .ok (.invokestatic 31, 3) := show decode (am_cd (tb_me 48)) 76 = .ok (.invokestatic 31, 3) from by decide +kernel
theorem s48_76 {L : Nat} {xs : Nat → Int32} : am_sp (tb_P L xs) 48 31 = none := show tb_spF 48 31 = none from by decide +kernel
theorem c48_76 {L : Nat} {xs : Nat → Int32} : am_ca (tb_P L xs) 48 31 = some (53, 1, 0) := show tb_caF 48 31 = some (53, 1, 0) from by decide +kernel
theorem r48_76 {L : Nat} {xs : Nat → Int32} : am_rf (am_me (tb_P L xs) 53) + 1 ≤ am_rf (am_me (tb_P L xs) 48) ∧ 2 + (am_ml (am_me (tb_P L xs) 53) + 11) + am_rl (am_me (tb_P L xs) 53) ≤ am_rl (am_me (tb_P L xs) 48) := show am_rf (tb_me 53) + 1 ≤ am_rf (tb_me 48) ∧ 2 + (am_ml (tb_me 53) + 11) + am_rl (tb_me 53) ≤ am_rl (tb_me 48) from by decide +kernel
theorem k48_79 {L : Nat} {xs : Nat → Int32} : decode (am_cd (am_me (tb_P L xs) 48)) 79 = .ok (.goto 4, 3) := show decode (am_cd (tb_me 48)) 79 = .ok (.goto 4, 3) from by decide +kernel
theorem k48_82 {L : Nat} {xs : Nat → Int32} : decode (am_cd (am_me (tb_P L xs) 48)) 82 = .ok (.iconst 0, 1) := show decode (am_cd (tb_me 48)) 82 = .ok (.iconst 0, 1) from by decide +kernel
theorem k48_83 {L : Nat} {xs : Nat → Int32} : decode (am_cd (am_me (tb_P L xs) 48)) 83 = .ok (.iastore, 1) := show decode (am_cd (tb_me 48)) 83 = .ok (.iastore, 1) from by decide +kernel
theorem k48_84 {L : Nat} {xs : Nat → Int32} : decode (am_cd (am_me (tb_P L xs) 48)) 84 = .ok (.aload_n 0, 1) := show decode (am_cd (tb_me 48)) 84 = .ok (.aload_n 0, 1) from by decide +kernel
theorem k48_85 {L : Nat} {xs : Nat → Int32} : decode (am_cd (am_me (tb_P L xs) 48)) 85 = .ok (.getfield 18, 3) := show decode (am_cd (tb_me 48)) 85 = .ok (.getfield 18, 3) from by decide +kernel
theorem f48_85 {L : Nat} {xs : Nat → Int32} : am_fd (tb_P L xs) 48 18 = some (1, 2, (.array .int : FieldType), false) := show tb_fdF 48 18 = some (1, 2, (.array .int : FieldType), false) from by decide +kernel
theorem k48_88 {L : Nat} {xs : Nat → Int32} : decode (am_cd (am_me (tb_P L xs) 48)) 88 = .ok (.iload_n 1, 1) := show decode (am_cd (tb_me 48)) 88 = .ok (.iload_n 1, 1) from by decide +kernel
theorem k48_89 {L : Nat} {xs : Nat → Int32} : decode (am_cd (am_me (tb_P L xs) 48)) 89 = .ok (.iload_n 2, 1) := show decode (am_cd (tb_me 48)) 89 = .ok (.iload_n 2, 1) from by decide +kernel
theorem k48_90 {L : Nat} {xs : Nat → Int32} : decode (am_cd (am_me (tb_P L xs) 48)) 90 = .ok (.ifCond .eq 12, 3) := show decode (am_cd (tb_me 48)) 90 = .ok (.ifCond .eq 12, 3) from by decide +kernel
theorem k48_93 {L : Nat} {xs : Nat → Int32} : decode (am_cd (am_me (tb_P L xs) 48)) 93 = .ok (.aload_n 0, 1) := show decode (am_cd (tb_me 48)) 93 = .ok (.aload_n 0, 1) from by decide +kernel
theorem k48_94 {L : Nat} {xs : Nat → Int32} : decode (am_cd (am_me (tb_P L xs) 48)) 94 = .ok (.getfield 18, 3) := show decode (am_cd (tb_me 48)) 94 = .ok (.getfield 18, 3) from by decide +kernel
theorem f48_94 {L : Nat} {xs : Nat → Int32} : am_fd (tb_P L xs) 48 18 = some (1, 2, (.array .int : FieldType), false) := show tb_fdF 48 18 = some (1, 2, (.array .int : FieldType), false) from by decide +kernel
theorem k48_97 {L : Nat} {xs : Nat → Int32} : decode (am_cd (am_me (tb_P L xs) 48)) 97 = .ok (.iload_n 1, 1) := show decode (am_cd (tb_me 48)) 97 = .ok (.iload_n 1, 1) from by decide +kernel
theorem k48_98 {L : Nat} {xs : Nat → Int32} : decode (am_cd (am_me (tb_P L xs) 48)) 98 = .ok (.iaload, 1) := show decode (am_cd (tb_me 48)) 98 = .ok (.iaload, 1) from by decide +kernel
theorem k48_99 {L : Nat} {xs : Nat → Int32} : decode (am_cd (am_me (tb_P L xs) 48)) 99 = .ok (.goto 7, 3) := show decode (am_cd (tb_me 48)) 99 = .ok (.goto 7, 3) from by decide +kernel
theorem k48_102 {L : Nat} {xs : Nat → Int32} : decode (am_cd (am_me (tb_P L xs) 48)) 102 = .ok (.aload_n 0, 1) := show decode (am_cd (tb_me 48)) 102 = .ok (.aload_n 0, 1) from by decide +kernel
theorem k48_103 {L : Nat} {xs : Nat → Int32} : decode (am_cd (am_me (tb_P L xs) 48)) 103 = .ok (.getfield 21, 3) := show decode (am_cd (tb_me 48)) 103 = .ok (.getfield 21, 3) from by decide +kernel
theorem f48_103 {L : Nat} {xs : Nat → Int32} : am_fd (tb_P L xs) 48 21 = some (1, 3, (.int : FieldType), true) := show tb_fdF 48 21 = some (1, 3, (.int : FieldType), true) from by decide +kernel
theorem k48_106 {L : Nat} {xs : Nat → Int32} : decode (am_cd (am_me (tb_P L xs) 48)) 106 = .ok (.iastore, 1) := show decode (am_cd (tb_me 48)) 106 = .ok (.iastore, 1) from by decide +kernel
theorem k48_107 {L : Nat} {xs : Nat → Int32} : decode (am_cd (am_me (tb_P L xs) 48)) 107 = .ok (.iinc 1 (-1), 3) := show decode (am_cd (tb_me 48)) 107 = .ok (.iinc 1 (-1), 3) from by decide +kernel
theorem k48_110 {L : Nat} {xs : Nat → Int32} : decode (am_cd (am_me (tb_P L xs) 48)) 110 = .ok (.goto (-80), 3) := show decode (am_cd (tb_me 48)) 110 = .ok (.goto (-80), 3) from by decide +kernel
theorem k48_113 {L : Nat} {xs : Nat → Int32} : decode (am_cd (am_me (tb_P L xs) 48)) 113 = .ok (.aload_n 0, 1) := show decode (am_cd (tb_me 48)) 113 = .ok (.aload_n 0, 1) from by decide +kernel
theorem k48_114 {L : Nat} {xs : Nat → Int32} : decode (am_cd (am_me (tb_P L xs) 48)) 114 = .ok (.getfield 15, 3) := show decode (am_cd (tb_me 48)) 114 = .ok (.getfield 15, 3) from by decide +kernel
theorem f48_114 {L : Nat} {xs : Nat → Int32} : am_fd (tb_P L xs) 48 15 = some (1, 1, (.array .int : FieldType), false) := show tb_fdF 48 15 = some (1, 1, (.array .int : FieldType), false) from by decide +kernel
theorem k48_117 {L : Nat} {xs : Nat → Int32} : decode (am_cd (am_me (tb_P L xs) 48)) 117 = .ok (.iconst 0, 1) := show decode (am_cd (tb_me 48)) 117 = .ok (.iconst 0, 1) from by decide +kernel
theorem k48_118 {L : Nat} {xs : Nat → Int32} : decode (am_cd (am_me (tb_P L xs) 48)) 118 = .ok (.iaload, 1) := show decode (am_cd (tb_me 48)) 118 = .ok (.iaload, 1) from by decide +kernel
theorem k48_119 {L : Nat} {xs : Nat → Int32} : decode (am_cd (am_me (tb_P L xs) 48)) 119 = .ok (.ifCond .eq 20, 3) := show decode (am_cd (tb_me 48)) 119 = .ok (.ifCond .eq 20, 3) from by decide +kernel
theorem k48_122 {L : Nat} {xs : Nat → Int32} : decode (am_cd (am_me (tb_P L xs) 48)) 122 = .ok (.aload_n 0, 1) := show decode (am_cd (tb_me 48)) 122 = .ok (.aload_n 0, 1) from by decide +kernel
theorem k48_123 {L : Nat} {xs : Nat → Int32} : decode (am_cd (am_me (tb_P L xs) 48)) 123 = .ok (.getfield 18, 3) := show decode (am_cd (tb_me 48)) 123 = .ok (.getfield 18, 3) from by decide +kernel
theorem f48_123 {L : Nat} {xs : Nat → Int32} : am_fd (tb_P L xs) 48 18 = some (1, 2, (.array .int : FieldType), false) := show tb_fdF 48 18 = some (1, 2, (.array .int : FieldType), false) from by decide +kernel
theorem k48_126 {L : Nat} {xs : Nat → Int32} : decode (am_cd (am_me (tb_P L xs) 48)) 126 = .ok (.iconst 0, 1) := show decode (am_cd (tb_me 48)) 126 = .ok (.iconst 0, 1) from by decide +kernel
theorem k48_127 {L : Nat} {xs : Nat → Int32} : decode (am_cd (am_me (tb_P L xs) 48)) 127 = .ok (.iaload, 1) := show decode (am_cd (tb_me 48)) 127 = .ok (.iaload, 1) from by decide +kernel
theorem k48_128 {L : Nat} {xs : Nat → Int32} : decode (am_cd (am_me (tb_P L xs) 48)) 128 = .ok (.aload_n 0, 1) := show decode (am_cd (tb_me 48)) 128 = .ok (.aload_n 0, 1) from by decide +kernel
theorem k48_129 {L : Nat} {xs : Nat → Int32} : decode (am_cd (am_me (tb_P L xs) 48)) 129 = .ok (.getfield 21, 3) := show decode (am_cd (tb_me 48)) 129 = .ok (.getfield 21, 3) from by decide +kernel
theorem f48_129 {L : Nat} {xs : Nat → Int32} : am_fd (tb_P L xs) 48 21 = some (1, 3, (.int : FieldType), true) := show tb_fdF 48 21 = some (1, 3, (.int : FieldType), true) from by decide +kernel
theorem k48_132 {L : Nat} {xs : Nat → Int32} : decode (am_cd (am_me (tb_P L xs) 48)) 132 = .ok (.if_icmp .ne 7, 3) := show decode (am_cd (tb_me 48)) 132 = .ok (.if_icmp .ne 7, 3) from by decide +kernel
theorem k48_135 {L : Nat} {xs : Nat → Int32} : decode (am_cd (am_me (tb_P L xs) 48)) 135 = .ok (.iconst 1, 1) := show decode (am_cd (tb_me 48)) 135 = .ok (.iconst 1, 1) from by decide +kernel
theorem k48_136 {L : Nat} {xs : Nat → Int32} : decode (am_cd (am_me (tb_P L xs) 48)) 136 = .ok (.goto 4, 3) := show decode (am_cd (tb_me 48)) 136 = .ok (.goto 4, 3) from by decide +kernel
theorem k48_139 {L : Nat} {xs : Nat → Int32} : decode (am_cd (am_me (tb_P L xs) 48)) 139 = .ok (.iconst 0, 1) := show decode (am_cd (tb_me 48)) 139 = .ok (.iconst 0, 1) from by decide +kernel
theorem k48_140 {L : Nat} {xs : Nat → Int32} : decode (am_cd (am_me (tb_P L xs) 48)) 140 = .ok (.ireturn, 1) := show decode (am_cd (tb_me 48)) 140 = .ok (.ireturn, 1) from by decide +kernel
theorem t48 {L : Nat} {xs : Nat → Int32} : am_rt (am_me (tb_P L xs) 48) = some (.boolean : FieldType) := show am_rt (tb_me 48) = some (.boolean : FieldType) from by decide +kernel
theorem l48 {L : Nat} {xs : Nat → Int32} : am_ml (am_me (tb_P L xs) 48) = 3 := show am_ml (tb_me 48) = 3 from by decide +kernel
theorem o48 {L : Nat} {xs : Nat → Int32} (pc : Nat) : am_no (tb_P L xs) 48 pc = true := show (am_hd (tb_me 48)).all (fun q => !(decide (q.1 ≤ pc) && decide (pc < q.2.1))) = true from by rw [show am_hd (tb_me 48) = [] by decide +kernel]; rfl
theorem k49_0 {L : Nat} {xs : Nat → Int32} : decode (am_cd (am_me (tb_P L xs) 49)) 0 = .ok (.aload_n 0, 1) := show decode (am_cd (tb_me 49)) 0 = .ok (.aload_n 0, 1) from by decide +kernel
theorem k49_1 {L : Nat} {xs : Nat → Int32} : decode (am_cd (am_me (tb_P L xs) 49)) 1 = .ok (.getfield 9, 3) := show decode (am_cd (tb_me 49)) 1 = .ok (.getfield 9, 3) from by decide +kernel
theorem f49_1 {L : Nat} {xs : Nat → Int32} : am_fd (tb_P L xs) 49 9 = some (1, 0, (.array .int : FieldType), false) := show tb_fdF 49 9 = some (1, 0, (.array .int : FieldType), false) from by decide +kernel
theorem k49_4 {L : Nat} {xs : Nat → Int32} : decode (am_cd (am_me (tb_P L xs) 49)) 4 = .ok (.iload_n 1, 1) := show decode (am_cd (tb_me 49)) 4 = .ok (.iload_n 1, 1) from by decide +kernel
theorem k49_5 {L : Nat} {xs : Nat → Int32} : decode (am_cd (am_me (tb_P L xs) 49)) 5 = .ok (.iaload, 1) := show decode (am_cd (tb_me 49)) 5 = .ok (.iaload, 1) from by decide +kernel
theorem k49_6 {L : Nat} {xs : Nat → Int32} : decode (am_cd (am_me (tb_P L xs) 49)) 6 = .ok (.istore_n 2, 1) := show decode (am_cd (tb_me 49)) 6 = .ok (.istore_n 2, 1) from by decide +kernel
theorem k49_7 {L : Nat} {xs : Nat → Int32} : decode (am_cd (am_me (tb_P L xs) 49)) 7 = .ok (.iload_n 1, 1) := show decode (am_cd (tb_me 49)) 7 = .ok (.iload_n 1, 1) from by decide +kernel
theorem k49_8 {L : Nat} {xs : Nat → Int32} : decode (am_cd (am_me (tb_P L xs) 49)) 8 = .ok (.iconst 1, 1) := show decode (am_cd (tb_me 49)) 8 = .ok (.iconst 1, 1) from by decide +kernel
theorem k49_9 {L : Nat} {xs : Nat → Int32} : decode (am_cd (am_me (tb_P L xs) 49)) 9 = .ok (.iadd, 1) := show decode (am_cd (tb_me 49)) 9 = .ok (.iadd, 1) from by decide +kernel
theorem k49_10 {L : Nat} {xs : Nat → Int32} : decode (am_cd (am_me (tb_P L xs) 49)) 10 = .ok (.istore_n 3, 1) := show decode (am_cd (tb_me 49)) 10 = .ok (.istore_n 3, 1) from by decide +kernel
theorem k49_11 {L : Nat} {xs : Nat → Int32} : decode (am_cd (am_me (tb_P L xs) 49)) 11 = .ok (.iload_n 2, 1) := show decode (am_cd (tb_me 49)) 11 = .ok (.iload_n 2, 1) from by decide +kernel
theorem k49_12 {L : Nat} {xs : Nat → Int32} : decode (am_cd (am_me (tb_P L xs) 49)) 12 = .ok (.invokestatic 34, 3) := show decode (am_cd (tb_me 49)) 12 = .ok (.invokestatic 34, 3) from by decide +kernel
theorem s49_12 {L : Nat} {xs : Nat → Int32} : am_sp (tb_P L xs) 49 34 = none := show tb_spF 49 34 = none from by decide +kernel
theorem c49_12 {L : Nat} {xs : Nat → Int32} : am_ca (tb_P L xs) 49 34 = some (44, 1, 0) := show tb_caF 49 34 = some (44, 1, 0) from by decide +kernel
theorem r49_12 {L : Nat} {xs : Nat → Int32} : am_rf (am_me (tb_P L xs) 44) + 1 ≤ am_rf (am_me (tb_P L xs) 49) ∧ 0 + (am_ml (am_me (tb_P L xs) 44) + 11) + am_rl (am_me (tb_P L xs) 44) ≤ am_rl (am_me (tb_P L xs) 49) := show am_rf (tb_me 44) + 1 ≤ am_rf (tb_me 49) ∧ 0 + (am_ml (tb_me 44) + 11) + am_rl (tb_me 44) ≤ am_rl (tb_me 49) from by decide +kernel
theorem k49_15 {L : Nat} {xs : Nat → Int32} : decode (am_cd (am_me (tb_P L xs) 49)) 15 = .ok (.ifCond .ne 5, 3) := show decode (am_cd (tb_me 49)) 15 = .ok (.ifCond .ne 5, 3) from by decide +kernel
theorem k49_18 {L : Nat} {xs : Nat → Int32} : decode (am_cd (am_me (tb_P L xs) 49)) 18 = .ok (.iload_n 3, 1) := show decode (am_cd (tb_me 49)) 18 = .ok (.iload_n 3, 1) from by decide +kernel
theorem k49_19 {L : Nat} {xs : Nat → Int32} : decode (am_cd (am_me (tb_P L xs) 49)) 19 = .ok (.ireturn, 1) := show decode (am_cd (tb_me 49)) 19 = .ok (.ireturn, 1) from by decide +kernel
theorem k49_20 {L : Nat} {xs : Nat → Int32} : decode (am_cd (am_me (tb_P L xs) 49)) 20 = .ok (.aload_n 0, 1) := show decode (am_cd (tb_me 49)) 20 = .ok (.aload_n 0, 1) from by decide +kernel
theorem k49_21 {L : Nat} {xs : Nat → Int32} : decode (am_cd (am_me (tb_P L xs) 49)) 21 = .ok (.getfield 18, 3) := show decode (am_cd (tb_me 49)) 21 = .ok (.getfield 18, 3) from by decide +kernel
theorem f49_21 {L : Nat} {xs : Nat → Int32} : am_fd (tb_P L xs) 49 18 = some (1, 2, (.array .int : FieldType), false) := show tb_fdF 49 18 = some (1, 2, (.array .int : FieldType), false) from by decide +kernel
theorem k49_24 {L : Nat} {xs : Nat → Int32} : decode (am_cd (am_me (tb_P L xs) 49)) 24 = .ok (.iload_n 3, 1) := show decode (am_cd (tb_me 49)) 24 = .ok (.iload_n 3, 1) from by decide +kernel
theorem k49_25 {L : Nat} {xs : Nat → Int32} : decode (am_cd (am_me (tb_P L xs) 49)) 25 = .ok (.iaload, 1) := show decode (am_cd (tb_me 49)) 25 = .ok (.iaload, 1) from by decide +kernel
theorem k49_26 {L : Nat} {xs : Nat → Int32} : decode (am_cd (am_me (tb_P L xs) 49)) 26 = .ok (.istore 4, 2) := show decode (am_cd (tb_me 49)) 26 = .ok (.istore 4, 2) from by decide +kernel
theorem k49_28 {L : Nat} {xs : Nat → Int32} : decode (am_cd (am_me (tb_P L xs) 49)) 28 = .ok (.aload_n 0, 1) := show decode (am_cd (tb_me 49)) 28 = .ok (.aload_n 0, 1) from by decide +kernel
theorem k49_29 {L : Nat} {xs : Nat → Int32} : decode (am_cd (am_me (tb_P L xs) 49)) 29 = .ok (.getfield 18, 3) := show decode (am_cd (tb_me 49)) 29 = .ok (.getfield 18, 3) from by decide +kernel
theorem f49_29 {L : Nat} {xs : Nat → Int32} : am_fd (tb_P L xs) 49 18 = some (1, 2, (.array .int : FieldType), false) := show tb_fdF 49 18 = some (1, 2, (.array .int : FieldType), false) from by decide +kernel
theorem k49_32 {L : Nat} {xs : Nat → Int32} : decode (am_cd (am_me (tb_P L xs) 49)) 32 = .ok (.iload 4, 2) := show decode (am_cd (tb_me 49)) 32 = .ok (.iload 4, 2) from by decide +kernel
theorem k49_34 {L : Nat} {xs : Nat → Int32} : decode (am_cd (am_me (tb_P L xs) 49)) 34 = .ok (.iaload, 1) := show decode (am_cd (tb_me 49)) 34 = .ok (.iaload, 1) from by decide +kernel
theorem k49_35 {L : Nat} {xs : Nat → Int32} : decode (am_cd (am_me (tb_P L xs) 49)) 35 = .ok (.istore 5, 2) := show decode (am_cd (tb_me 49)) 35 = .ok (.istore 5, 2) from by decide +kernel
theorem k49_37 {L : Nat} {xs : Nat → Int32} : decode (am_cd (am_me (tb_P L xs) 49)) 37 = .ok (.iload_n 2, 1) := show decode (am_cd (tb_me 49)) 37 = .ok (.iload_n 2, 1) from by decide +kernel
theorem k49_38 {L : Nat} {xs : Nat → Int32} : decode (am_cd (am_me (tb_P L xs) 49)) 38 = .ok (.invokestatic 38, 3) := show decode (am_cd (tb_me 49)) 38 = .ok (.invokestatic 38, 3) from by decide +kernel
theorem s49_38 {L : Nat} {xs : Nat → Int32} : am_sp (tb_P L xs) 49 38 = none := show tb_spF 49 38 = none from by decide +kernel
theorem c49_38 {L : Nat} {xs : Nat → Int32} : am_ca (tb_P L xs) 49 38 = some (50, 1, 0) := show tb_caF 49 38 = some (50, 1, 0) from by decide +kernel
theorem r49_38 {L : Nat} {xs : Nat → Int32} : am_rf (am_me (tb_P L xs) 50) + 1 ≤ am_rf (am_me (tb_P L xs) 49) ∧ 0 + (am_ml (am_me (tb_P L xs) 50) + 11) + am_rl (am_me (tb_P L xs) 50) ≤ am_rl (am_me (tb_P L xs) 49) := show am_rf (tb_me 50) + 1 ≤ am_rf (tb_me 49) ∧ 0 + (am_ml (tb_me 50) + 11) + am_rl (tb_me 50) ≤ am_rl (tb_me 49) from by decide +kernel
theorem k49_41 {L : Nat} {xs : Nat → Int32} : decode (am_cd (am_me (tb_P L xs) 49)) 41 = .ok (.istore 6, 2) := show decode (am_cd (tb_me 49)) 41 = .ok (.istore 6, 2) from by decide +kernel
theorem k49_43 {L : Nat} {xs : Nat → Int32} : decode (am_cd (am_me (tb_P L xs) 49)) 43 = .ok (.aload_n 0, 1) := show decode (am_cd (tb_me 49)) 43 = .ok (.aload_n 0, 1) from by decide +kernel
theorem k49_44 {L : Nat} {xs : Nat → Int32} : decode (am_cd (am_me (tb_P L xs) 49)) 44 = .ok (.getfield 15, 3) := show decode (am_cd (tb_me 49)) 44 = .ok (.getfield 15, 3) from by decide +kernel
theorem f49_44 {L : Nat} {xs : Nat → Int32} : am_fd (tb_P L xs) 49 15 = some (1, 1, (.array .int : FieldType), false) := show tb_fdF 49 15 = some (1, 1, (.array .int : FieldType), false) from by decide +kernel
theorem k49_47 {L : Nat} {xs : Nat → Int32} : decode (am_cd (am_me (tb_P L xs) 49)) 47 = .ok (.iload_n 3, 1) := show decode (am_cd (tb_me 49)) 47 = .ok (.iload_n 3, 1) from by decide +kernel
theorem k49_48 {L : Nat} {xs : Nat → Int32} : decode (am_cd (am_me (tb_P L xs) 49)) 48 = .ok (.iaload, 1) := show decode (am_cd (tb_me 49)) 48 = .ok (.iaload, 1) from by decide +kernel
theorem k49_49 {L : Nat} {xs : Nat → Int32} : decode (am_cd (am_me (tb_P L xs) 49)) 49 = .ok (.iload_n 2, 1) := show decode (am_cd (tb_me 49)) 49 = .ok (.iload_n 2, 1) from by decide +kernel
theorem k49_50 {L : Nat} {xs : Nat → Int32} : decode (am_cd (am_me (tb_P L xs) 49)) 50 = .ok (.invokestatic 41, 3) := show decode (am_cd (tb_me 49)) 50 = .ok (.invokestatic 41, 3) from by decide +kernel
theorem s49_50 {L : Nat} {xs : Nat → Int32} : am_sp (tb_P L xs) 49 41 = none := show tb_spF 49 41 = none from by decide +kernel
theorem c49_50 {L : Nat} {xs : Nat → Int32} : am_ca (tb_P L xs) 49 41 = some (51, 1, 0) := show tb_caF 49 41 = some (51, 1, 0) from by decide +kernel
theorem r49_50 {L : Nat} {xs : Nat → Int32} : am_rf (am_me (tb_P L xs) 51) + 1 ≤ am_rf (am_me (tb_P L xs) 49) ∧ 1 + (am_ml (am_me (tb_P L xs) 51) + 11) + am_rl (am_me (tb_P L xs) 51) ≤ am_rl (am_me (tb_P L xs) 49) := show am_rf (tb_me 51) + 1 ≤ am_rf (tb_me 49) ∧ 1 + (am_ml (tb_me 51) + 11) + am_rl (tb_me 51) ≤ am_rl (tb_me 49) from by decide +kernel
theorem k49_53 {L : Nat} {xs : Nat → Int32} : decode (am_cd (am_me (tb_P L xs) 49)) 53 = .ok (.if_icmp .ne 40, 3) := show decode (am_cd (tb_me 49)) 53 = .ok (.if_icmp .ne 40, 3) from by decide +kernel
theorem k49_56 {L : Nat} {xs : Nat → Int32} : decode (am_cd (am_me (tb_P L xs) 49)) 56 = .ok (.iload 6, 2) := show decode (am_cd (tb_me 49)) 56 = .ok (.iload 6, 2) from by decide +kernel
theorem k49_58 {L : Nat} {xs : Nat → Int32} : decode (am_cd (am_me (tb_P L xs) 49)) 58 = .ok (.iconst 1, 1) := show decode (am_cd (tb_me 49)) 58 = .ok (.iconst 1, 1) from by decide +kernel
theorem k49_59 {L : Nat} {xs : Nat → Int32} : decode (am_cd (am_me (tb_P L xs) 49)) 59 = .ok (.if_icmp .le 17, 3) := show decode (am_cd (tb_me 49)) 59 = .ok (.if_icmp .le 17, 3) from by decide +kernel
theorem k49_62 {L : Nat} {xs : Nat → Int32} : decode (am_cd (am_me (tb_P L xs) 49)) 62 = .ok (.aload_n 0, 1) := show decode (am_cd (tb_me 49)) 62 = .ok (.aload_n 0, 1) from by decide +kernel
theorem k49_63 {L : Nat} {xs : Nat → Int32} : decode (am_cd (am_me (tb_P L xs) 49)) 63 = .ok (.getfield 15, 3) := show decode (am_cd (tb_me 49)) 63 = .ok (.getfield 15, 3) from by decide +kernel
theorem f49_63 {L : Nat} {xs : Nat → Int32} : am_fd (tb_P L xs) 49 15 = some (1, 1, (.array .int : FieldType), false) := show tb_fdF 49 15 = some (1, 1, (.array .int : FieldType), false) from by decide +kernel
theorem k49_66 {L : Nat} {xs : Nat → Int32} : decode (am_cd (am_me (tb_P L xs) 49)) 66 = .ok (.iload 4, 2) := show decode (am_cd (tb_me 49)) 66 = .ok (.iload 4, 2) from by decide +kernel
theorem k49_68 {L : Nat} {xs : Nat → Int32} : decode (am_cd (am_me (tb_P L xs) 49)) 68 = .ok (.iaload, 1) := show decode (am_cd (tb_me 49)) 68 = .ok (.iaload, 1) from by decide +kernel
theorem k49_69 {L : Nat} {xs : Nat → Int32} : decode (am_cd (am_me (tb_P L xs) 49)) 69 = .ok (.iload_n 2, 1) := show decode (am_cd (tb_me 49)) 69 = .ok (.iload_n 2, 1) from by decide +kernel
theorem k49_70 {L : Nat} {xs : Nat → Int32} : decode (am_cd (am_me (tb_P L xs) 49)) 70 = .ok (.invokestatic 44, 3) := show decode (am_cd (tb_me 49)) 70 = .ok (.invokestatic 44, 3) from by decide +kernel
theorem s49_70 {L : Nat} {xs : Nat → Int32} : am_sp (tb_P L xs) 49 44 = none := show tb_spF 49 44 = none from by decide +kernel
theorem c49_70 {L : Nat} {xs : Nat → Int32} : am_ca (tb_P L xs) 49 44 = some (52, 1, 0) := show tb_caF 49 44 = some (52, 1, 0) from by decide +kernel
theorem r49_70 {L : Nat} {xs : Nat → Int32} : am_rf (am_me (tb_P L xs) 52) + 1 ≤ am_rf (am_me (tb_P L xs) 49) ∧ 1 + (am_ml (am_me (tb_P L xs) 52) + 11) + am_rl (am_me (tb_P L xs) 52) ≤ am_rl (am_me (tb_P L xs) 49) := show am_rf (tb_me 52) + 1 ≤ am_rf (tb_me 49) ∧ 1 + (am_ml (tb_me 52) + 11) + am_rl (tb_me 52) ≤ am_rl (tb_me 49) from by decide +kernel
theorem k49_73 {L : Nat} {xs : Nat → Int32} : decode (am_cd (am_me (tb_P L xs) 49)) 73 = .ok (.if_icmp .ne 20, 3) := show decode (am_cd (tb_me 49)) 73 = .ok (.if_icmp .ne 20, 3) from by decide +kernel
theorem k49_76 {L : Nat} {xs : Nat → Int32} : decode (am_cd (am_me (tb_P L xs) 49)) 76 = .ok (.iload 6, 2) := show decode (am_cd (tb_me 49)) 76 = .ok (.iload 6, 2) from by decide +kernel
theorem k49_78 {L : Nat} {xs : Nat → Int32} : decode (am_cd (am_me (tb_P L xs) 49)) 78 = .ok (.iconst 2, 1) := show decode (am_cd (tb_me 49)) 78 = .ok (.iconst 2, 1) from by decide +kernel
theorem k49_79 {L : Nat} {xs : Nat → Int32} : decode (am_cd (am_me (tb_P L xs) 49)) 79 = .ok (.if_icmp .le 16, 3) := show decode (am_cd (tb_me 49)) 79 = .ok (.if_icmp .le 16, 3) from by decide +kernel
theorem k49_82 {L : Nat} {xs : Nat → Int32} : decode (am_cd (am_me (tb_P L xs) 49)) 82 = .ok (.aload_n 0, 1) := show decode (am_cd (tb_me 49)) 82 = .ok (.aload_n 0, 1) from by decide +kernel
theorem k49_83 {L : Nat} {xs : Nat → Int32} : decode (am_cd (am_me (tb_P L xs) 49)) 83 = .ok (.getfield 15, 3) := show decode (am_cd (tb_me 49)) 83 = .ok (.getfield 15, 3) from by decide +kernel
theorem f49_83 {L : Nat} {xs : Nat → Int32} : am_fd (tb_P L xs) 49 15 = some (1, 1, (.array .int : FieldType), false) := show tb_fdF 49 15 = some (1, 1, (.array .int : FieldType), false) from by decide +kernel
theorem k49_86 {L : Nat} {xs : Nat → Int32} : decode (am_cd (am_me (tb_P L xs) 49)) 86 = .ok (.iload 5, 2) := show decode (am_cd (tb_me 49)) 86 = .ok (.iload 5, 2) from by decide +kernel
theorem k49_88 {L : Nat} {xs : Nat → Int32} : decode (am_cd (am_me (tb_P L xs) 49)) 88 = .ok (.iaload, 1) := show decode (am_cd (tb_me 49)) 88 = .ok (.iaload, 1) from by decide +kernel
theorem k49_89 {L : Nat} {xs : Nat → Int32} : decode (am_cd (am_me (tb_P L xs) 49)) 89 = .ok (.iconst 1, 1) := show decode (am_cd (tb_me 49)) 89 = .ok (.iconst 1, 1) from by decide +kernel
theorem k49_90 {L : Nat} {xs : Nat → Int32} : decode (am_cd (am_me (tb_P L xs) 49)) 90 = .ok (.if_icmp .eq 5, 3) := show decode (am_cd (tb_me 49)) 90 = .ok (.if_icmp .eq 5, 3) from by decide +kernel
theorem k49_93 {L : Nat} {xs : Nat → Int32} : decode (am_cd (am_me (tb_P L xs) 49)) 93 = .ok (.iload_n 1, 1) := show decode (am_cd (tb_me 49)) 93 = .ok (.iload_n 1, 1) from by decide +kernel
theorem k49_94 {L : Nat} {xs : Nat → Int32} : decode (am_cd (am_me (tb_P L xs) 49)) 94 = .ok (.ireturn, 1) := show decode (am_cd (tb_me 49)) 94 = .ok (.ireturn, 1) from by decide +kernel
theorem k49_95 {L : Nat} {xs : Nat → Int32} : decode (am_cd (am_me (tb_P L xs) 49)) 95 = .ok (.iload 6, 2) := show decode (am_cd (tb_me 49)) 95 = .ok (.iload 6, 2) from by decide +kernel
theorem k49_97 {L : Nat} {xs : Nat → Int32} : decode (am_cd (am_me (tb_P L xs) 49)) 97 = .ok (.iconst 1, 1) := show decode (am_cd (tb_me 49)) 97 = .ok (.iconst 1, 1) from by decide +kernel
theorem k49_98 {L : Nat} {xs : Nat → Int32} : decode (am_cd (am_me (tb_P L xs) 49)) 98 = .ok (.if_icmp .ne 6, 3) := show decode (am_cd (tb_me 49)) 98 = .ok (.if_icmp .ne 6, 3) from by decide +kernel
theorem k49_101 {L : Nat} {xs : Nat → Int32} : decode (am_cd (am_me (tb_P L xs) 49)) 101 = .ok (.iload 4, 2) := show decode (am_cd (tb_me 49)) 101 = .ok (.iload 4, 2) from by decide +kernel
theorem k49_103 {L : Nat} {xs : Nat → Int32} : decode (am_cd (am_me (tb_P L xs) 49)) 103 = .ok (.ireturn, 1) := show decode (am_cd (tb_me 49)) 103 = .ok (.ireturn, 1) from by decide +kernel
theorem k49_104 {L : Nat} {xs : Nat → Int32} : decode (am_cd (am_me (tb_P L xs) 49)) 104 = .ok (.iload 6, 2) := show decode (am_cd (tb_me 49)) 104 = .ok (.iload 6, 2) from by decide +kernel
theorem k49_106 {L : Nat} {xs : Nat → Int32} : decode (am_cd (am_me (tb_P L xs) 49)) 106 = .ok (.iconst 2, 1) := show decode (am_cd (tb_me 49)) 106 = .ok (.iconst 2, 1) from by decide +kernel
theorem k49_107 {L : Nat} {xs : Nat → Int32} : decode (am_cd (am_me (tb_P L xs) 49)) 107 = .ok (.if_icmp .ne 8, 3) := show decode (am_cd (tb_me 49)) 107 = .ok (.if_icmp .ne 8, 3) from by decide +kernel
theorem k49_110 {L : Nat} {xs : Nat → Int32} : decode (am_cd (am_me (tb_P L xs) 49)) 110 = .ok (.iload 5, 2) := show decode (am_cd (tb_me 49)) 110 = .ok (.iload 5, 2) from by decide +kernel
theorem k49_112 {L : Nat} {xs : Nat → Int32} : decode (am_cd (am_me (tb_P L xs) 49)) 112 = .ok (.goto 10, 3) := show decode (am_cd (tb_me 49)) 112 = .ok (.goto 10, 3) from by decide +kernel
theorem k49_115 {L : Nat} {xs : Nat → Int32} : decode (am_cd (am_me (tb_P L xs) 49)) 115 = .ok (.aload_n 0, 1) := show decode (am_cd (tb_me 49)) 115 = .ok (.aload_n 0, 1) from by decide +kernel
theorem k49_116 {L : Nat} {xs : Nat → Int32} : decode (am_cd (am_me (tb_P L xs) 49)) 116 = .ok (.getfield 18, 3) := show decode (am_cd (tb_me 49)) 116 = .ok (.getfield 18, 3) from by decide +kernel
theorem f49_116 {L : Nat} {xs : Nat → Int32} : am_fd (tb_P L xs) 49 18 = some (1, 2, (.array .int : FieldType), false) := show tb_fdF 49 18 = some (1, 2, (.array .int : FieldType), false) from by decide +kernel
theorem k49_119 {L : Nat} {xs : Nat → Int32} : decode (am_cd (am_me (tb_P L xs) 49)) 119 = .ok (.iload 5, 2) := show decode (am_cd (tb_me 49)) 119 = .ok (.iload 5, 2) from by decide +kernel
theorem k49_121 {L : Nat} {xs : Nat → Int32} : decode (am_cd (am_me (tb_P L xs) 49)) 121 = .ok (.iaload, 1) := show decode (am_cd (tb_me 49)) 121 = .ok (.iaload, 1) from by decide +kernel
theorem k49_122 {L : Nat} {xs : Nat → Int32} : decode (am_cd (am_me (tb_P L xs) 49)) 122 = .ok (.ireturn, 1) := show decode (am_cd (tb_me 49)) 122 = .ok (.ireturn, 1) from by decide +kernel
theorem t49 {L : Nat} {xs : Nat → Int32} : am_rt (am_me (tb_P L xs) 49) = some (.int : FieldType) := show am_rt (tb_me 49) = some (.int : FieldType) from by decide +kernel
theorem l49 {L : Nat} {xs : Nat → Int32} : am_ml (am_me (tb_P L xs) 49) = 7 := show am_ml (tb_me 49) = 7 from by decide +kernel
theorem o49 {L : Nat} {xs : Nat → Int32} (pc : Nat) : am_no (tb_P L xs) 49 pc = true := show (am_hd (tb_me 49)).all (fun q => !(decide (q.1 ≤ pc) && decide (pc < q.2.1))) = true from by rw [show am_hd (tb_me 49) = [] by decide +kernel]; rfl
theorem k50_0 {L : Nat} {xs : Nat → Int32} : decode (am_cd (am_me (tb_P L xs) 50)) 0 = .ok (.iload_n 0, 1) := show decode (am_cd (tb_me 50)) 0 = .ok (.iload_n 0, 1) from by decide +kernel
theorem k50_1 {L : Nat} {xs : Nat → Int32} : decode (am_cd (am_me (tb_P L xs) 50)) 1 = .ok (.bipush 58, 2) := show decode (am_cd (tb_me 50)) 1 = .ok (.bipush 58, 2) from by decide +kernel
theorem k50_3 {L : Nat} {xs : Nat → Int32} : decode (am_cd (am_me (tb_P L xs) 50)) 3 = .ok (.if_icmp .ne 5, 3) := show decode (am_cd (tb_me 50)) 3 = .ok (.if_icmp .ne 5, 3) from by decide +kernel
theorem k50_6 {L : Nat} {xs : Nat → Int32} : decode (am_cd (am_me (tb_P L xs) 50)) 6 = .ok (.iconst 3, 1) := show decode (am_cd (tb_me 50)) 6 = .ok (.iconst 3, 1) from by decide +kernel
theorem k50_7 {L : Nat} {xs : Nat → Int32} : decode (am_cd (am_me (tb_P L xs) 50)) 7 = .ok (.ireturn, 1) := show decode (am_cd (tb_me 50)) 7 = .ok (.ireturn, 1) from by decide +kernel
theorem k50_8 {L : Nat} {xs : Nat → Int32} : decode (am_cd (am_me (tb_P L xs) 50)) 8 = .ok (.iload_n 0, 1) := show decode (am_cd (tb_me 50)) 8 = .ok (.iload_n 0, 1) from by decide +kernel
theorem k50_9 {L : Nat} {xs : Nat → Int32} : decode (am_cd (am_me (tb_P L xs) 50)) 9 = .ok (.bipush 57, 2) := show decode (am_cd (tb_me 50)) 9 = .ok (.bipush 57, 2) from by decide +kernel
theorem k50_11 {L : Nat} {xs : Nat → Int32} : decode (am_cd (am_me (tb_P L xs) 50)) 11 = .ok (.if_icmp .ne 7, 3) := show decode (am_cd (tb_me 50)) 11 = .ok (.if_icmp .ne 7, 3) from by decide +kernel
theorem k50_14 {L : Nat} {xs : Nat → Int32} : decode (am_cd (am_me (tb_P L xs) 50)) 14 = .ok (.iconst 1, 1) := show decode (am_cd (tb_me 50)) 14 = .ok (.iconst 1, 1) from by decide +kernel
theorem k50_15 {L : Nat} {xs : Nat → Int32} : decode (am_cd (am_me (tb_P L xs) 50)) 15 = .ok (.goto 4, 3) := show decode (am_cd (tb_me 50)) 15 = .ok (.goto 4, 3) from by decide +kernel
theorem k50_18 {L : Nat} {xs : Nat → Int32} : decode (am_cd (am_me (tb_P L xs) 50)) 18 = .ok (.iconst 2, 1) := show decode (am_cd (tb_me 50)) 18 = .ok (.iconst 2, 1) from by decide +kernel
theorem k50_19 {L : Nat} {xs : Nat → Int32} : decode (am_cd (am_me (tb_P L xs) 50)) 19 = .ok (.ireturn, 1) := show decode (am_cd (tb_me 50)) 19 = .ok (.ireturn, 1) from by decide +kernel
theorem t50 {L : Nat} {xs : Nat → Int32} : am_rt (am_me (tb_P L xs) 50) = some (.int : FieldType) := show am_rt (tb_me 50) = some (.int : FieldType) from by decide +kernel
theorem l50 {L : Nat} {xs : Nat → Int32} : am_ml (am_me (tb_P L xs) 50) = 1 := show am_ml (tb_me 50) = 1 from by decide +kernel
theorem o50 {L : Nat} {xs : Nat → Int32} (pc : Nat) : am_no (tb_P L xs) 50 pc = true := show (am_hd (tb_me 50)).all (fun q => !(decide (q.1 ≤ pc) && decide (pc < q.2.1))) = true from by rw [show am_hd (tb_me 50) = [] by decide +kernel]; rfl
theorem k51_0 {L : Nat} {xs : Nat → Int32} : decode (am_cd (am_me (tb_P L xs) 51)) 0 = .ok (.iload_n 0, 1) := show decode (am_cd (tb_me 51)) 0 = .ok (.iload_n 0, 1) from by decide +kernel
theorem k51_1 {L : Nat} {xs : Nat → Int32} : decode (am_cd (am_me (tb_P L xs) 51)) 1 = .ok (.bipush 55, 2) := show decode (am_cd (tb_me 51)) 1 = .ok (.bipush 55, 2) from by decide +kernel
theorem k51_3 {L : Nat} {xs : Nat → Int32} : decode (am_cd (am_me (tb_P L xs) 51)) 3 = .ok (.if_icmp .lt 7, 3) := show decode (am_cd (tb_me 51)) 3 = .ok (.if_icmp .lt 7, 3) from by decide +kernel
theorem k51_6 {L : Nat} {xs : Nat → Int32} : decode (am_cd (am_me (tb_P L xs) 51)) 6 = .ok (.iconst 2, 1) := show decode (am_cd (tb_me 51)) 6 = .ok (.iconst 2, 1) from by decide +kernel
theorem k51_7 {L : Nat} {xs : Nat → Int32} : decode (am_cd (am_me (tb_P L xs) 51)) 7 = .ok (.goto 4, 3) := show decode (am_cd (tb_me 51)) 7 = .ok (.goto 4, 3) from by decide +kernel
theorem k51_10 {L : Nat} {xs : Nat → Int32} : decode (am_cd (am_me (tb_P L xs) 51)) 10 = .ok (.iconst 1, 1) := show decode (am_cd (tb_me 51)) 10 = .ok (.iconst 1, 1) from by decide +kernel
theorem k51_11 {L : Nat} {xs : Nat → Int32} : decode (am_cd (am_me (tb_P L xs) 51)) 11 = .ok (.ireturn, 1) := show decode (am_cd (tb_me 51)) 11 = .ok (.ireturn, 1) from by decide +kernel
theorem t51 {L : Nat} {xs : Nat → Int32} : am_rt (am_me (tb_P L xs) 51) = some (.int : FieldType) := show am_rt (tb_me 51) = some (.int : FieldType) from by decide +kernel
theorem l51 {L : Nat} {xs : Nat → Int32} : am_ml (am_me (tb_P L xs) 51) = 1 := show am_ml (tb_me 51) = 1 from by decide +kernel
theorem o51 {L : Nat} {xs : Nat → Int32} (pc : Nat) : am_no (tb_P L xs) 51 pc = true := show (am_hd (tb_me 51)).all (fun q => !(decide (q.1 ≤ pc) && decide (pc < q.2.1))) = true from by rw [show am_hd (tb_me 51) = [] by decide +kernel]; rfl
theorem k52_0 {L : Nat} {xs : Nat → Int32} : decode (am_cd (am_me (tb_P L xs) 52)) 0 = .ok (.iload_n 0, 1) := show decode (am_cd (tb_me 52)) 0 = .ok (.iload_n 0, 1) from by decide +kernel
theorem k52_1 {L : Nat} {xs : Nat → Int32} : decode (am_cd (am_me (tb_P L xs) 52)) 1 = .ok (.bipush 55, 2) := show decode (am_cd (tb_me 52)) 1 = .ok (.bipush 55, 2) from by decide +kernel
theorem k52_3 {L : Nat} {xs : Nat → Int32} : decode (am_cd (am_me (tb_P L xs) 52)) 3 = .ok (.if_icmp .eq 9, 3) := show decode (am_cd (tb_me 52)) 3 = .ok (.if_icmp .eq 9, 3) from by decide +kernel
theorem k52_6 {L : Nat} {xs : Nat → Int32} : decode (am_cd (am_me (tb_P L xs) 52)) 6 = .ok (.iload_n 0, 1) := show decode (am_cd (tb_me 52)) 6 = .ok (.iload_n 0, 1) from by decide +kernel
theorem k52_7 {L : Nat} {xs : Nat → Int32} : decode (am_cd (am_me (tb_P L xs) 52)) 7 = .ok (.bipush 56, 2) := show decode (am_cd (tb_me 52)) 7 = .ok (.bipush 56, 2) from by decide +kernel
theorem k52_9 {L : Nat} {xs : Nat → Int32} : decode (am_cd (am_me (tb_P L xs) 52)) 9 = .ok (.if_icmp .ne 7, 3) := show decode (am_cd (tb_me 52)) 9 = .ok (.if_icmp .ne 7, 3) from by decide +kernel
theorem k52_12 {L : Nat} {xs : Nat → Int32} : decode (am_cd (am_me (tb_P L xs) 52)) 12 = .ok (.iconst 2, 1) := show decode (am_cd (tb_me 52)) 12 = .ok (.iconst 2, 1) from by decide +kernel
theorem k52_13 {L : Nat} {xs : Nat → Int32} : decode (am_cd (am_me (tb_P L xs) 52)) 13 = .ok (.goto 4, 3) := show decode (am_cd (tb_me 52)) 13 = .ok (.goto 4, 3) from by decide +kernel
theorem k52_16 {L : Nat} {xs : Nat → Int32} : decode (am_cd (am_me (tb_P L xs) 52)) 16 = .ok (.iconst 1, 1) := show decode (am_cd (tb_me 52)) 16 = .ok (.iconst 1, 1) from by decide +kernel
theorem k52_17 {L : Nat} {xs : Nat → Int32} : decode (am_cd (am_me (tb_P L xs) 52)) 17 = .ok (.ireturn, 1) := show decode (am_cd (tb_me 52)) 17 = .ok (.ireturn, 1) from by decide +kernel
theorem t52 {L : Nat} {xs : Nat → Int32} : am_rt (am_me (tb_P L xs) 52) = some (.int : FieldType) := show am_rt (tb_me 52) = some (.int : FieldType) from by decide +kernel
theorem l52 {L : Nat} {xs : Nat → Int32} : am_ml (am_me (tb_P L xs) 52) = 1 := show am_ml (tb_me 52) = 1 from by decide +kernel
theorem o52 {L : Nat} {xs : Nat → Int32} (pc : Nat) : am_no (tb_P L xs) 52 pc = true := show (am_hd (tb_me 52)).all (fun q => !(decide (q.1 ≤ pc) && decide (pc < q.2.1))) = true from by rw [show am_hd (tb_me 52) = [] by decide +kernel]; rfl
theorem k53_0 {L : Nat} {xs : Nat → Int32} : decode (am_cd (am_me (tb_P L xs) 53)) 0 = .ok (.iload_n 0, 1) := show decode (am_cd (tb_me 53)) 0 = .ok (.iload_n 0, 1) from by decide +kernel
theorem k53_1 {L : Nat} {xs : Nat → Int32} : decode (am_cd (am_me (tb_P L xs) 53)) 1 = .ok (.bipush 53, 2) := show decode (am_cd (tb_me 53)) 1 = .ok (.bipush 53, 2) from by decide +kernel
theorem k53_3 {L : Nat} {xs : Nat → Int32} : decode (am_cd (am_me (tb_P L xs) 53)) 3 = .ok (.if_icmp .lt 13, 3) := show decode (am_cd (tb_me 53)) 3 = .ok (.if_icmp .lt 13, 3) from by decide +kernel
theorem k53_6 {L : Nat} {xs : Nat → Int32} : decode (am_cd (am_me (tb_P L xs) 53)) 6 = .ok (.iload_n 0, 1) := show decode (am_cd (tb_me 53)) 6 = .ok (.iload_n 0, 1) from by decide +kernel
theorem k53_7 {L : Nat} {xs : Nat → Int32} : decode (am_cd (am_me (tb_P L xs) 53)) 7 = .ok (.bipush 57, 2) := show decode (am_cd (tb_me 53)) 7 = .ok (.bipush 57, 2) from by decide +kernel
theorem k53_9 {L : Nat} {xs : Nat → Int32} : decode (am_cd (am_me (tb_P L xs) 53)) 9 = .ok (.if_icmp .gt 7, 3) := show decode (am_cd (tb_me 53)) 9 = .ok (.if_icmp .gt 7, 3) from by decide +kernel
theorem k53_12 {L : Nat} {xs : Nat → Int32} : decode (am_cd (am_me (tb_P L xs) 53)) 12 = .ok (.iconst 2, 1) := show decode (am_cd (tb_me 53)) 12 = .ok (.iconst 2, 1) from by decide +kernel
theorem k53_13 {L : Nat} {xs : Nat → Int32} : decode (am_cd (am_me (tb_P L xs) 53)) 13 = .ok (.goto 4, 3) := show decode (am_cd (tb_me 53)) 13 = .ok (.goto 4, 3) from by decide +kernel
theorem k53_16 {L : Nat} {xs : Nat → Int32} : decode (am_cd (am_me (tb_P L xs) 53)) 16 = .ok (.iconst 1, 1) := show decode (am_cd (tb_me 53)) 16 = .ok (.iconst 1, 1) from by decide +kernel
theorem k53_17 {L : Nat} {xs : Nat → Int32} : decode (am_cd (am_me (tb_P L xs) 53)) 17 = .ok (.ireturn, 1) := show decode (am_cd (tb_me 53)) 17 = .ok (.ireturn, 1) from by decide +kernel
theorem t53 {L : Nat} {xs : Nat → Int32} : am_rt (am_me (tb_P L xs) 53) = some (.int : FieldType) := show am_rt (tb_me 53) = some (.int : FieldType) from by decide +kernel
theorem l53 {L : Nat} {xs : Nat → Int32} : am_ml (am_me (tb_P L xs) 53) = 1 := show am_ml (tb_me 53) = 1 from by decide +kernel
theorem o53 {L : Nat} {xs : Nat → Int32} (pc : Nat) : am_no (tb_P L xs) 53 pc = true := show (am_hd (tb_me 53)).all (fun q => !(decide (q.1 ≤ pc) && decide (pc < q.2.1))) = true from by rw [show am_hd (tb_me 53) = [] by decide +kernel]; rfl
theorem k54_0 {L : Nat} {xs : Nat → Int32} : decode (am_cd (am_me (tb_P L xs) 54)) 0 = .ok (.aload_n 0, 1) := show decode (am_cd (tb_me 54)) 0 = .ok (.aload_n 0, 1) from by decide +kernel
theorem k54_1 {L : Nat} {xs : Nat → Int32} : decode (am_cd (am_me (tb_P L xs) 54)) 1 = .ok (.iconst 0, 1) := show decode (am_cd (tb_me 54)) 1 = .ok (.iconst 0, 1) from by decide +kernel
theorem k54_2 {L : Nat} {xs : Nat → Int32} : decode (am_cd (am_me (tb_P L xs) 54)) 2 = .ok (.putfield 21, 3) := show decode (am_cd (tb_me 54)) 2 = .ok (.putfield 21, 3) from by decide +kernel
theorem f54_2 {L : Nat} {xs : Nat → Int32} : am_fd (tb_P L xs) 54 21 = some (1, 3, (.int : FieldType), true) := show tb_fdF 54 21 = some (1, 3, (.int : FieldType), true) from by decide +kernel
theorem k54_5 {L : Nat} {xs : Nat → Int32} : decode (am_cd (am_me (tb_P L xs) 54)) 5 = .ok (.return_, 1) := show decode (am_cd (tb_me 54)) 5 = .ok (.return_, 1) from by decide +kernel
theorem t54 {L : Nat} {xs : Nat → Int32} : am_rt (am_me (tb_P L xs) 54) = none := show am_rt (tb_me 54) = none from by decide +kernel
theorem l54 {L : Nat} {xs : Nat → Int32} : am_ml (am_me (tb_P L xs) 54) = 1 := show am_ml (tb_me 54) = 1 from by decide +kernel
theorem o54 {L : Nat} {xs : Nat → Int32} (pc : Nat) : am_no (tb_P L xs) 54 pc = true := show (am_hd (tb_me 54)).all (fun q => !(decide (q.1 ≤ pc) && decide (pc < q.2.1))) = true from by rw [show am_hd (tb_me 54) = [] by decide +kernel]; rfl
theorem k55_0 {L : Nat} {xs : Nat → Int32} : decode (am_cd (am_me (tb_P L xs) 55)) 0 = .ok (.aload_n 0, 1) := show decode (am_cd (tb_me 55)) 0 = .ok (.aload_n 0, 1) from by decide +kernel
theorem k55_1 {L : Nat} {xs : Nat → Int32} : decode (am_cd (am_me (tb_P L xs) 55)) 1 = .ok (.invokespecial 3, 3) := show decode (am_cd (tb_me 55)) 1 = .ok (.invokespecial 3, 3) from by decide +kernel
theorem s55_1 {L : Nat} {xs : Nat → Int32} : am_sp (tb_P L xs) 55 3 = some 0 := show tb_spF 55 3 = some 0 from by decide +kernel
theorem r55_1 {L : Nat} {xs : Nat → Int32} : 1 ≤ am_rf (am_me (tb_P L xs) 55) ∧ 0 + 12 ≤ am_rl (am_me (tb_P L xs) 55) := show 1 ≤ am_rf (tb_me 55) ∧ 0 + 12 ≤ am_rl (tb_me 55) from by decide +kernel
theorem k55_4 {L : Nat} {xs : Nat → Int32} : decode (am_cd (am_me (tb_P L xs) 55)) 4 = .ok (.aload_n 0, 1) := show decode (am_cd (tb_me 55)) 4 = .ok (.aload_n 0, 1) from by decide +kernel
theorem k55_5 {L : Nat} {xs : Nat → Int32} : decode (am_cd (am_me (tb_P L xs) 55)) 5 = .ok (.bipush 25, 2) := show decode (am_cd (tb_me 55)) 5 = .ok (.bipush 25, 2) from by decide +kernel
theorem k55_7 {L : Nat} {xs : Nat → Int32} : decode (am_cd (am_me (tb_P L xs) 55)) 7 = .ok (.newarray .int, 2) := show decode (am_cd (tb_me 55)) 7 = .ok (.newarray .int, 2) from by decide +kernel
theorem k55_9 {L : Nat} {xs : Nat → Int32} : decode (am_cd (am_me (tb_P L xs) 55)) 9 = .ok (.putfield 9, 3) := show decode (am_cd (tb_me 55)) 9 = .ok (.putfield 9, 3) from by decide +kernel
theorem f55_9 {L : Nat} {xs : Nat → Int32} : am_fd (tb_P L xs) 55 9 = some (2, 3, (.array .int : FieldType), true) := show tb_fdF 55 9 = some (2, 3, (.array .int : FieldType), true) from by decide +kernel
theorem k55_12 {L : Nat} {xs : Nat → Int32} : decode (am_cd (am_me (tb_P L xs) 55)) 12 = .ok (.aload_n 0, 1) := show decode (am_cd (tb_me 55)) 12 = .ok (.aload_n 0, 1) from by decide +kernel
theorem k55_13 {L : Nat} {xs : Nat → Int32} : decode (am_cd (am_me (tb_P L xs) 55)) 13 = .ok (.aload_n 1, 1) := show decode (am_cd (tb_me 55)) 13 = .ok (.aload_n 1, 1) from by decide +kernel
theorem k55_14 {L : Nat} {xs : Nat → Int32} : decode (am_cd (am_me (tb_P L xs) 55)) 14 = .ok (.getfield 15, 3) := show decode (am_cd (tb_me 55)) 14 = .ok (.getfield 15, 3) from by decide +kernel
theorem f55_14 {L : Nat} {xs : Nat → Int32} : am_fd (tb_P L xs) 55 15 = some (1, 0, (.array .int : FieldType), false) := show tb_fdF 55 15 = some (1, 0, (.array .int : FieldType), false) from by decide +kernel
theorem k55_17 {L : Nat} {xs : Nat → Int32} : decode (am_cd (am_me (tb_P L xs) 55)) 17 = .ok (.aload_n 1, 1) := show decode (am_cd (tb_me 55)) 17 = .ok (.aload_n 1, 1) from by decide +kernel
theorem k55_18 {L : Nat} {xs : Nat → Int32} : decode (am_cd (am_me (tb_P L xs) 55)) 18 = .ok (.getfield 20, 3) := show decode (am_cd (tb_me 55)) 18 = .ok (.getfield 20, 3) from by decide +kernel
theorem f55_18 {L : Nat} {xs : Nat → Int32} : am_fd (tb_P L xs) 55 20 = some (1, 3, (.int : FieldType), true) := show tb_fdF 55 20 = some (1, 3, (.int : FieldType), true) from by decide +kernel
theorem k55_21 {L : Nat} {xs : Nat → Int32} : decode (am_cd (am_me (tb_P L xs) 55)) 21 = .ok (.invokestatic 24, 3) := show decode (am_cd (tb_me 55)) 21 = .ok (.invokestatic 24, 3) from by decide +kernel
theorem s55_21 {L : Nat} {xs : Nat → Int32} : am_sp (tb_P L xs) 55 24 = none := show tb_spF 55 24 = none from by decide +kernel
theorem c55_21 {L : Nat} {xs : Nat → Int32} : am_ca (tb_P L xs) 55 24 = some (56, 2, 0) := show tb_caF 55 24 = some (56, 2, 0) from by decide +kernel
theorem r55_21 {L : Nat} {xs : Nat → Int32} : am_rf (am_me (tb_P L xs) 56) + 1 ≤ am_rf (am_me (tb_P L xs) 55) ∧ 1 + (am_ml (am_me (tb_P L xs) 56) + 11) + am_rl (am_me (tb_P L xs) 56) ≤ am_rl (am_me (tb_P L xs) 55) := show am_rf (tb_me 56) + 1 ≤ am_rf (tb_me 55) ∧ 1 + (am_ml (tb_me 56) + 11) + am_rl (tb_me 56) ≤ am_rl (tb_me 55) from by decide +kernel
theorem k55_24 {L : Nat} {xs : Nat → Int32} : decode (am_cd (am_me (tb_P L xs) 55)) 24 = .ok (.putfield 30, 3) := show decode (am_cd (tb_me 55)) 24 = .ok (.putfield 30, 3) from by decide +kernel
theorem f55_24 {L : Nat} {xs : Nat → Int32} : am_fd (tb_P L xs) 55 30 = some (2, 0, (.array .int : FieldType), true) := show tb_fdF 55 30 = some (2, 0, (.array .int : FieldType), true) from by decide +kernel
theorem k55_27 {L : Nat} {xs : Nat → Int32} : decode (am_cd (am_me (tb_P L xs) 55)) 27 = .ok (.aload_n 0, 1) := show decode (am_cd (tb_me 55)) 27 = .ok (.aload_n 0, 1) from by decide +kernel
theorem k55_28 {L : Nat} {xs : Nat → Int32} : decode (am_cd (am_me (tb_P L xs) 55)) 28 = .ok (.aload_n 1, 1) := show decode (am_cd (tb_me 55)) 28 = .ok (.aload_n 1, 1) from by decide +kernel
theorem k55_29 {L : Nat} {xs : Nat → Int32} : decode (am_cd (am_me (tb_P L xs) 55)) 29 = .ok (.getfield 20, 3) := show decode (am_cd (tb_me 55)) 29 = .ok (.getfield 20, 3) from by decide +kernel
theorem f55_29 {L : Nat} {xs : Nat → Int32} : am_fd (tb_P L xs) 55 20 = some (1, 3, (.int : FieldType), true) := show tb_fdF 55 20 = some (1, 3, (.int : FieldType), true) from by decide +kernel
theorem k55_32 {L : Nat} {xs : Nat → Int32} : decode (am_cd (am_me (tb_P L xs) 55)) 32 = .ok (.newarray .int, 2) := show decode (am_cd (tb_me 55)) 32 = .ok (.newarray .int, 2) from by decide +kernel
theorem k55_34 {L : Nat} {xs : Nat → Int32} : decode (am_cd (am_me (tb_P L xs) 55)) 34 = .ok (.putfield 31, 3) := show decode (am_cd (tb_me 55)) 34 = .ok (.putfield 31, 3) from by decide +kernel
theorem f55_34 {L : Nat} {xs : Nat → Int32} : am_fd (tb_P L xs) 55 31 = some (2, 1, (.array .int : FieldType), true) := show tb_fdF 55 31 = some (2, 1, (.array .int : FieldType), true) from by decide +kernel
theorem k55_37 {L : Nat} {xs : Nat → Int32} : decode (am_cd (am_me (tb_P L xs) 55)) 37 = .ok (.aload_n 0, 1) := show decode (am_cd (tb_me 55)) 37 = .ok (.aload_n 0, 1) from by decide +kernel
theorem k55_38 {L : Nat} {xs : Nat → Int32} : decode (am_cd (am_me (tb_P L xs) 55)) 38 = .ok (.aload_n 1, 1) := show decode (am_cd (tb_me 55)) 38 = .ok (.aload_n 1, 1) from by decide +kernel
theorem k55_39 {L : Nat} {xs : Nat → Int32} : decode (am_cd (am_me (tb_P L xs) 55)) 39 = .ok (.getfield 20, 3) := show decode (am_cd (tb_me 55)) 39 = .ok (.getfield 20, 3) from by decide +kernel
theorem f55_39 {L : Nat} {xs : Nat → Int32} : am_fd (tb_P L xs) 55 20 = some (1, 3, (.int : FieldType), true) := show tb_fdF 55 20 = some (1, 3, (.int : FieldType), true) from by decide +kernel
theorem k55_42 {L : Nat} {xs : Nat → Int32} : decode (am_cd (am_me (tb_P L xs) 55)) 42 = .ok (.newarray .int, 2) := show decode (am_cd (tb_me 55)) 42 = .ok (.newarray .int, 2) from by decide +kernel
theorem k55_44 {L : Nat} {xs : Nat → Int32} : decode (am_cd (am_me (tb_P L xs) 55)) 44 = .ok (.putfield 34, 3) := show decode (am_cd (tb_me 55)) 44 = .ok (.putfield 34, 3) from by decide +kernel
theorem f55_44 {L : Nat} {xs : Nat → Int32} : am_fd (tb_P L xs) 55 34 = some (2, 2, (.array .int : FieldType), true) := show tb_fdF 55 34 = some (2, 2, (.array .int : FieldType), true) from by decide +kernel
theorem k55_47 {L : Nat} {xs : Nat → Int32} : decode (am_cd (am_me (tb_P L xs) 55)) 47 = .ok (.iconst 0, 1) := show decode (am_cd (tb_me 55)) 47 = .ok (.iconst 0, 1) from by decide +kernel
theorem k55_48 {L : Nat} {xs : Nat → Int32} : decode (am_cd (am_me (tb_P L xs) 55)) 48 = .ok (.istore_n 2, 1) := show decode (am_cd (tb_me 55)) 48 = .ok (.istore_n 2, 1) from by decide +kernel
theorem k55_49 {L : Nat} {xs : Nat → Int32} : decode (am_cd (am_me (tb_P L xs) 55)) 49 = .ok (.iconst 0, 1) := show decode (am_cd (tb_me 55)) 49 = .ok (.iconst 0, 1) from by decide +kernel
theorem k55_50 {L : Nat} {xs : Nat → Int32} : decode (am_cd (am_me (tb_P L xs) 55)) 50 = .ok (.istore_n 3, 1) := show decode (am_cd (tb_me 55)) 50 = .ok (.istore_n 3, 1) from by decide +kernel
theorem k55_51 {L : Nat} {xs : Nat → Int32} : decode (am_cd (am_me (tb_P L xs) 55)) 51 = .ok (.iload_n 3, 1) := show decode (am_cd (tb_me 55)) 51 = .ok (.iload_n 3, 1) from by decide +kernel
theorem k55_52 {L : Nat} {xs : Nat → Int32} : decode (am_cd (am_me (tb_P L xs) 55)) 52 = .ok (.aload_n 1, 1) := show decode (am_cd (tb_me 55)) 52 = .ok (.aload_n 1, 1) from by decide +kernel
theorem k55_53 {L : Nat} {xs : Nat → Int32} : decode (am_cd (am_me (tb_P L xs) 55)) 53 = .ok (.getfield 20, 3) := show decode (am_cd (tb_me 55)) 53 = .ok (.getfield 20, 3) from by decide +kernel
theorem f55_53 {L : Nat} {xs : Nat → Int32} : am_fd (tb_P L xs) 55 20 = some (1, 3, (.int : FieldType), true) := show tb_fdF 55 20 = some (1, 3, (.int : FieldType), true) from by decide +kernel
theorem k55_56 {L : Nat} {xs : Nat → Int32} : decode (am_cd (am_me (tb_P L xs) 55)) 56 = .ok (.if_icmp .ge 52, 3) := show decode (am_cd (tb_me 55)) 56 = .ok (.if_icmp .ge 52, 3) from by decide +kernel
theorem k55_59 {L : Nat} {xs : Nat → Int32} : decode (am_cd (am_me (tb_P L xs) 55)) 59 = .ok (.aload_n 0, 1) := show decode (am_cd (tb_me 55)) 59 = .ok (.aload_n 0, 1) from by decide +kernel
theorem k55_60 {L : Nat} {xs : Nat → Int32} : decode (am_cd (am_me (tb_P L xs) 55)) 60 = .ok (.getfield 31, 3) := show decode (am_cd (tb_me 55)) 60 = .ok (.getfield 31, 3) from by decide +kernel
theorem f55_60 {L : Nat} {xs : Nat → Int32} : am_fd (tb_P L xs) 55 31 = some (2, 1, (.array .int : FieldType), true) := show tb_fdF 55 31 = some (2, 1, (.array .int : FieldType), true) from by decide +kernel
theorem k55_63 {L : Nat} {xs : Nat → Int32} : decode (am_cd (am_me (tb_P L xs) 55)) 63 = .ok (.iload_n 3, 1) := show decode (am_cd (tb_me 55)) 63 = .ok (.iload_n 3, 1) from by decide +kernel
theorem k55_64 {L : Nat} {xs : Nat → Int32} : decode (am_cd (am_me (tb_P L xs) 55)) 64 = .ok (.aload_n 1, 1) := show decode (am_cd (tb_me 55)) 64 = .ok (.aload_n 1, 1) from by decide +kernel
theorem k55_65 {L : Nat} {xs : Nat → Int32} : decode (am_cd (am_me (tb_P L xs) 55)) 65 = .ok (.getfield 37, 3) := show decode (am_cd (tb_me 55)) 65 = .ok (.getfield 37, 3) from by decide +kernel
theorem f55_65 {L : Nat} {xs : Nat → Int32} : am_fd (tb_P L xs) 55 37 = some (1, 2, (.array .int : FieldType), false) := show tb_fdF 55 37 = some (1, 2, (.array .int : FieldType), false) from by decide +kernel
theorem k55_68 {L : Nat} {xs : Nat → Int32} : decode (am_cd (am_me (tb_P L xs) 55)) 68 = .ok (.iload_n 3, 1) := show decode (am_cd (tb_me 55)) 68 = .ok (.iload_n 3, 1) from by decide +kernel
theorem k55_69 {L : Nat} {xs : Nat → Int32} : decode (am_cd (am_me (tb_P L xs) 55)) 69 = .ok (.iconst 1, 1) := show decode (am_cd (tb_me 55)) 69 = .ok (.iconst 1, 1) from by decide +kernel
theorem k55_70 {L : Nat} {xs : Nat → Int32} : decode (am_cd (am_me (tb_P L xs) 55)) 70 = .ok (.iadd, 1) := show decode (am_cd (tb_me 55)) 70 = .ok (.iadd, 1) from by decide +kernel
theorem k55_71 {L : Nat} {xs : Nat → Int32} : decode (am_cd (am_me (tb_P L xs) 55)) 71 = .ok (.iaload, 1) := show decode (am_cd (tb_me 55)) 71 = .ok (.iaload, 1) from by decide +kernel
theorem k55_72 {L : Nat} {xs : Nat → Int32} : decode (am_cd (am_me (tb_P L xs) 55)) 72 = .ok (.iastore, 1) := show decode (am_cd (tb_me 55)) 72 = .ok (.iastore, 1) from by decide +kernel
theorem k55_73 {L : Nat} {xs : Nat → Int32} : decode (am_cd (am_me (tb_P L xs) 55)) 73 = .ok (.aload_n 0, 1) := show decode (am_cd (tb_me 55)) 73 = .ok (.aload_n 0, 1) from by decide +kernel
theorem k55_74 {L : Nat} {xs : Nat → Int32} : decode (am_cd (am_me (tb_P L xs) 55)) 74 = .ok (.getfield 34, 3) := show decode (am_cd (tb_me 55)) 74 = .ok (.getfield 34, 3) from by decide +kernel
theorem f55_74 {L : Nat} {xs : Nat → Int32} : am_fd (tb_P L xs) 55 34 = some (2, 2, (.array .int : FieldType), true) := show tb_fdF 55 34 = some (2, 2, (.array .int : FieldType), true) from by decide +kernel
theorem k55_77 {L : Nat} {xs : Nat → Int32} : decode (am_cd (am_me (tb_P L xs) 55)) 77 = .ok (.iload_n 3, 1) := show decode (am_cd (tb_me 55)) 77 = .ok (.iload_n 3, 1) from by decide +kernel
theorem k55_78 {L : Nat} {xs : Nat → Int32} : decode (am_cd (am_me (tb_P L xs) 55)) 78 = .ok (.aload_n 1, 1) := show decode (am_cd (tb_me 55)) 78 = .ok (.aload_n 1, 1) from by decide +kernel
theorem k55_79 {L : Nat} {xs : Nat → Int32} : decode (am_cd (am_me (tb_P L xs) 55)) 79 = .ok (.getfield 37, 3) := show decode (am_cd (tb_me 55)) 79 = .ok (.getfield 37, 3) from by decide +kernel
theorem f55_79 {L : Nat} {xs : Nat → Int32} : am_fd (tb_P L xs) 55 37 = some (1, 2, (.array .int : FieldType), false) := show tb_fdF 55 37 = some (1, 2, (.array .int : FieldType), false) from by decide +kernel
theorem k55_82 {L : Nat} {xs : Nat → Int32} : decode (am_cd (am_me (tb_P L xs) 55)) 82 = .ok (.aload_n 0, 1) := show decode (am_cd (tb_me 55)) 82 = .ok (.aload_n 0, 1) from by decide +kernel
theorem k55_83 {L : Nat} {xs : Nat → Int32} : decode (am_cd (am_me (tb_P L xs) 55)) 83 = .ok (.getfield 31, 3) := show decode (am_cd (tb_me 55)) 83 = .ok (.getfield 31, 3) from by decide +kernel
theorem f55_83 {L : Nat} {xs : Nat → Int32} : am_fd (tb_P L xs) 55 31 = some (2, 1, (.array .int : FieldType), true) := show tb_fdF 55 31 = some (2, 1, (.array .int : FieldType), true) from by decide +kernel
theorem k55_86 {L : Nat} {xs : Nat → Int32} : decode (am_cd (am_me (tb_P L xs) 55)) 86 = .ok (.iload_n 3, 1) := show decode (am_cd (tb_me 55)) 86 = .ok (.iload_n 3, 1) from by decide +kernel
theorem k55_87 {L : Nat} {xs : Nat → Int32} : decode (am_cd (am_me (tb_P L xs) 55)) 87 = .ok (.iaload, 1) := show decode (am_cd (tb_me 55)) 87 = .ok (.iaload, 1) from by decide +kernel
theorem k55_88 {L : Nat} {xs : Nat → Int32} : decode (am_cd (am_me (tb_P L xs) 55)) 88 = .ok (.iaload, 1) := show decode (am_cd (tb_me 55)) 88 = .ok (.iaload, 1) from by decide +kernel
theorem k55_89 {L : Nat} {xs : Nat → Int32} : decode (am_cd (am_me (tb_P L xs) 55)) 89 = .ok (.iastore, 1) := show decode (am_cd (tb_me 55)) 89 = .ok (.iastore, 1) from by decide +kernel
theorem k55_90 {L : Nat} {xs : Nat → Int32} : decode (am_cd (am_me (tb_P L xs) 55)) 90 = .ok (.iload_n 2, 1) := show decode (am_cd (tb_me 55)) 90 = .ok (.iload_n 2, 1) from by decide +kernel
theorem k55_91 {L : Nat} {xs : Nat → Int32} : decode (am_cd (am_me (tb_P L xs) 55)) 91 = .ok (.aload_n 0, 1) := show decode (am_cd (tb_me 55)) 91 = .ok (.aload_n 0, 1) from by decide +kernel
theorem k55_92 {L : Nat} {xs : Nat → Int32} : decode (am_cd (am_me (tb_P L xs) 55)) 92 = .ok (.getfield 30, 3) := show decode (am_cd (tb_me 55)) 92 = .ok (.getfield 30, 3) from by decide +kernel
theorem f55_92 {L : Nat} {xs : Nat → Int32} : am_fd (tb_P L xs) 55 30 = some (2, 0, (.array .int : FieldType), true) := show tb_fdF 55 30 = some (2, 0, (.array .int : FieldType), true) from by decide +kernel
theorem k55_95 {L : Nat} {xs : Nat → Int32} : decode (am_cd (am_me (tb_P L xs) 55)) 95 = .ok (.iload_n 3, 1) := show decode (am_cd (tb_me 55)) 95 = .ok (.iload_n 3, 1) from by decide +kernel
theorem k55_96 {L : Nat} {xs : Nat → Int32} : decode (am_cd (am_me (tb_P L xs) 55)) 96 = .ok (.iaload, 1) := show decode (am_cd (tb_me 55)) 96 = .ok (.iaload, 1) from by decide +kernel
theorem k55_97 {L : Nat} {xs : Nat → Int32} : decode (am_cd (am_me (tb_P L xs) 55)) 97 = .ok (.invokestatic 40, 3) := show decode (am_cd (tb_me 55)) 97 = .ok (.invokestatic 40, 3) from by decide +kernel
theorem s55_97 {L : Nat} {xs : Nat → Int32} : am_sp (tb_P L xs) 55 40 = none := show tb_spF 55 40 = none from by decide +kernel
theorem c55_97 {L : Nat} {xs : Nat → Int32} : am_ca (tb_P L xs) 55 40 = some (57, 1, 0) := show tb_caF 55 40 = some (57, 1, 0) from by decide +kernel
theorem r55_97 {L : Nat} {xs : Nat → Int32} : am_rf (am_me (tb_P L xs) 57) + 1 ≤ am_rf (am_me (tb_P L xs) 55) ∧ 1 + (am_ml (am_me (tb_P L xs) 57) + 11) + am_rl (am_me (tb_P L xs) 57) ≤ am_rl (am_me (tb_P L xs) 55) := show am_rf (tb_me 57) + 1 ≤ am_rf (tb_me 55) ∧ 1 + (am_ml (tb_me 57) + 11) + am_rl (tb_me 57) ≤ am_rl (tb_me 55) from by decide +kernel
theorem k55_100 {L : Nat} {xs : Nat → Int32} : decode (am_cd (am_me (tb_P L xs) 55)) 100 = .ok (.ior, 1) := show decode (am_cd (tb_me 55)) 100 = .ok (.ior, 1) from by decide +kernel
theorem k55_101 {L : Nat} {xs : Nat → Int32} : decode (am_cd (am_me (tb_P L xs) 55)) 101 = .ok (.istore_n 2, 1) := show decode (am_cd (tb_me 55)) 101 = .ok (.istore_n 2, 1) from by decide +kernel
theorem k55_102 {L : Nat} {xs : Nat → Int32} : decode (am_cd (am_me (tb_P L xs) 55)) 102 = .ok (.iinc 3 1, 3) := show decode (am_cd (tb_me 55)) 102 = .ok (.iinc 3 1, 3) from by decide +kernel
theorem k55_105 {L : Nat} {xs : Nat → Int32} : decode (am_cd (am_me (tb_P L xs) 55)) 105 = .ok (.goto (-54), 3) := show decode (am_cd (tb_me 55)) 105 = .ok (.goto (-54), 3) from by decide +kernel
theorem k55_108 {L : Nat} {xs : Nat → Int32} : decode (am_cd (am_me (tb_P L xs) 55)) 108 = .ok (.aload_n 0, 1) := show decode (am_cd (tb_me 55)) 108 = .ok (.aload_n 0, 1) from by decide +kernel
theorem k55_109 {L : Nat} {xs : Nat → Int32} : decode (am_cd (am_me (tb_P L xs) 55)) 109 = .ok (.aload_n 1, 1) := show decode (am_cd (tb_me 55)) 109 = .ok (.aload_n 1, 1) from by decide +kernel
theorem k55_110 {L : Nat} {xs : Nat → Int32} : decode (am_cd (am_me (tb_P L xs) 55)) 110 = .ok (.getfield 44, 3) := show decode (am_cd (tb_me 55)) 110 = .ok (.getfield 44, 3) from by decide +kernel
theorem f55_110 {L : Nat} {xs : Nat → Int32} : am_fd (tb_P L xs) 55 44 = some (1, 1, (.array .int : FieldType), false) := show tb_fdF 55 44 = some (1, 1, (.array .int : FieldType), false) from by decide +kernel
theorem k55_113 {L : Nat} {xs : Nat → Int32} : decode (am_cd (am_me (tb_P L xs) 55)) 113 = .ok (.iconst 0, 1) := show decode (am_cd (tb_me 55)) 113 = .ok (.iconst 0, 1) from by decide +kernel
theorem k55_114 {L : Nat} {xs : Nat → Int32} : decode (am_cd (am_me (tb_P L xs) 55)) 114 = .ok (.iaload, 1) := show decode (am_cd (tb_me 55)) 114 = .ok (.iaload, 1) from by decide +kernel
theorem k55_115 {L : Nat} {xs : Nat → Int32} : decode (am_cd (am_me (tb_P L xs) 55)) 115 = .ok (.iconst 2, 1) := show decode (am_cd (tb_me 55)) 115 = .ok (.iconst 2, 1) from by decide +kernel
theorem k55_116 {L : Nat} {xs : Nat → Int32} : decode (am_cd (am_me (tb_P L xs) 55)) 116 = .ok (.if_icmp .ne 7, 3) := show decode (am_cd (tb_me 55)) 116 = .ok (.if_icmp .ne 7, 3) from by decide +kernel
theorem k55_119 {L : Nat} {xs : Nat → Int32} : decode (am_cd (am_me (tb_P L xs) 55)) 119 = .ok (.iconst 1, 1) := show decode (am_cd (tb_me 55)) 119 = .ok (.iconst 1, 1) from by decide +kernel
theorem k55_120 {L : Nat} {xs : Nat → Int32} : decode (am_cd (am_me (tb_P L xs) 55)) 120 = .ok (.goto 4, 3) := show decode (am_cd (tb_me 55)) 120 = .ok (.goto 4, 3) from by decide +kernel
theorem k55_123 {L : Nat} {xs : Nat → Int32} : decode (am_cd (am_me (tb_P L xs) 55)) 123 = .ok (.iconst 0, 1) := show decode (am_cd (tb_me 55)) 123 = .ok (.iconst 0, 1) from by decide +kernel
theorem k55_124 {L : Nat} {xs : Nat → Int32} : decode (am_cd (am_me (tb_P L xs) 55)) 124 = .ok (.putfield 49, 3) := show decode (am_cd (tb_me 55)) 124 = .ok (.putfield 49, 3) from by decide +kernel
theorem f55_124 {L : Nat} {xs : Nat → Int32} : am_fd (tb_P L xs) 55 49 = some (2, 4, (.boolean : FieldType), true) := show tb_fdF 55 49 = some (2, 4, (.boolean : FieldType), true) from by decide +kernel
theorem k55_127 {L : Nat} {xs : Nat → Int32} : decode (am_cd (am_me (tb_P L xs) 55)) 127 = .ok (.aload_n 0, 1) := show decode (am_cd (tb_me 55)) 127 = .ok (.aload_n 0, 1) from by decide +kernel
theorem k55_128 {L : Nat} {xs : Nat → Int32} : decode (am_cd (am_me (tb_P L xs) 55)) 128 = .ok (.iload_n 2, 1) := show decode (am_cd (tb_me 55)) 128 = .ok (.iload_n 2, 1) from by decide +kernel
theorem k55_129 {L : Nat} {xs : Nat → Int32} : decode (am_cd (am_me (tb_P L xs) 55)) 129 = .ok (.putfield 53, 3) := show decode (am_cd (tb_me 55)) 129 = .ok (.putfield 53, 3) from by decide +kernel
theorem f55_129 {L : Nat} {xs : Nat → Int32} : am_fd (tb_P L xs) 55 53 = some (2, 5, (.int : FieldType), true) := show tb_fdF 55 53 = some (2, 5, (.int : FieldType), true) from by decide +kernel
theorem k55_132 {L : Nat} {xs : Nat → Int32} : decode (am_cd (am_me (tb_P L xs) 55)) 132 = .ok (.return_, 1) := show decode (am_cd (tb_me 55)) 132 = .ok (.return_, 1) from by decide +kernel
theorem t55 {L : Nat} {xs : Nat → Int32} : am_rt (am_me (tb_P L xs) 55) = none := show am_rt (tb_me 55) = none from by decide +kernel
theorem l55 {L : Nat} {xs : Nat → Int32} : am_ml (am_me (tb_P L xs) 55) = 4 := show am_ml (tb_me 55) = 4 from by decide +kernel
theorem o55 {L : Nat} {xs : Nat → Int32} (pc : Nat) : am_no (tb_P L xs) 55 pc = true := show (am_hd (tb_me 55)).all (fun q => !(decide (q.1 ≤ pc) && decide (pc < q.2.1))) = true from by rw [show am_hd (tb_me 55) = [] by decide +kernel]; rfl
theorem k56_0 {L : Nat} {xs : Nat → Int32} : decode (am_cd (am_me (tb_P L xs) 56)) 0 = .ok (.iload_n 1, 1) := show decode (am_cd (tb_me 56)) 0 = .ok (.iload_n 1, 1) from by decide +kernel
theorem k56_1 {L : Nat} {xs : Nat → Int32} : decode (am_cd (am_me (tb_P L xs) 56)) 1 = .ok (.aload_n 0, 1) := show decode (am_cd (tb_me 56)) 1 = .ok (.aload_n 0, 1) from by decide +kernel
theorem k56_2 {L : Nat} {xs : Nat → Int32} : decode (am_cd (am_me (tb_P L xs) 56)) 2 = .ok (.arraylength, 1) := show decode (am_cd (tb_me 56)) 2 = .ok (.arraylength, 1) from by decide +kernel
theorem k56_3 {L : Nat} {xs : Nat → Int32} : decode (am_cd (am_me (tb_P L xs) 56)) 3 = .ok (.if_icmp .ne 11, 3) := show decode (am_cd (tb_me 56)) 3 = .ok (.if_icmp .ne 11, 3) from by decide +kernel
theorem k56_6 {L : Nat} {xs : Nat → Int32} : decode (am_cd (am_me (tb_P L xs) 56)) 6 = .ok (.aload_n 0, 1) := show decode (am_cd (tb_me 56)) 6 = .ok (.aload_n 0, 1) from by decide +kernel
theorem k56_7 {L : Nat} {xs : Nat → Int32} : decode (am_cd (am_me (tb_P L xs) 56)) 7 = .ok (.invokevirtual 316, 3) := show decode (am_cd (tb_me 56)) 7 = .ok (.invokevirtual 316, 3) from by decide +kernel
theorem s56_7 {L : Nat} {xs : Nat → Int32} : am_sp (tb_P L xs) 56 316 = some 4 := show tb_spF 56 316 = some 4 from by decide +kernel
theorem r56_7 {L : Nat} {xs : Nat → Int32} : 1 ≤ am_rf (am_me (tb_P L xs) 56) ∧ 0 + 14 ≤ am_rl (am_me (tb_P L xs) 56) := show 1 ≤ am_rf (tb_me 56) ∧ 0 + 14 ≤ am_rl (tb_me 56) from by decide +kernel
theorem k56_10 {L : Nat} {xs : Nat → Int32} : decode (am_cd (am_me (tb_P L xs) 56)) 10 = .ok (.checkcast 317, 3) := show decode (am_cd (tb_me 56)) 10 = .ok (.checkcast 317, 3) from by decide +kernel
theorem s56_10 {L : Nat} {xs : Nat → Int32} : am_sp (tb_P L xs) 56 317 = some 5 := show tb_spF 56 317 = some 5 from by decide +kernel
theorem k56_13 {L : Nat} {xs : Nat → Int32} : decode (am_cd (am_me (tb_P L xs) 56)) 13 = .ok (.areturn, 1) := show decode (am_cd (tb_me 56)) 13 = .ok (.areturn, 1) from by decide +kernel
theorem k56_14 {L : Nat} {xs : Nat → Int32} : decode (am_cd (am_me (tb_P L xs) 56)) 14 = .ok (.iload_n 1, 1) := show decode (am_cd (tb_me 56)) 14 = .ok (.iload_n 1, 1) from by decide +kernel
theorem k56_15 {L : Nat} {xs : Nat → Int32} : decode (am_cd (am_me (tb_P L xs) 56)) 15 = .ok (.newarray .int, 2) := show decode (am_cd (tb_me 56)) 15 = .ok (.newarray .int, 2) from by decide +kernel
theorem k56_17 {L : Nat} {xs : Nat → Int32} : decode (am_cd (am_me (tb_P L xs) 56)) 17 = .ok (.astore_n 2, 1) := show decode (am_cd (tb_me 56)) 17 = .ok (.astore_n 2, 1) from by decide +kernel
theorem k56_18 {L : Nat} {xs : Nat → Int32} : decode (am_cd (am_me (tb_P L xs) 56)) 18 = .ok (.aload_n 0, 1) := show decode (am_cd (tb_me 56)) 18 = .ok (.aload_n 0, 1) from by decide +kernel
theorem k56_19 {L : Nat} {xs : Nat → Int32} : decode (am_cd (am_me (tb_P L xs) 56)) 19 = .ok (.iconst 0, 1) := show decode (am_cd (tb_me 56)) 19 = .ok (.iconst 0, 1) from by decide +kernel
theorem k56_20 {L : Nat} {xs : Nat → Int32} : decode (am_cd (am_me (tb_P L xs) 56)) 20 = .ok (.aload_n 2, 1) := show decode (am_cd (tb_me 56)) 20 = .ok (.aload_n 2, 1) from by decide +kernel
theorem k56_21 {L : Nat} {xs : Nat → Int32} : decode (am_cd (am_me (tb_P L xs) 56)) 21 = .ok (.iconst 0, 1) := show decode (am_cd (tb_me 56)) 21 = .ok (.iconst 0, 1) from by decide +kernel
theorem k56_22 {L : Nat} {xs : Nat → Int32} : decode (am_cd (am_me (tb_P L xs) 56)) 22 = .ok (.aload_n 0, 1) := show decode (am_cd (tb_me 56)) 22 = .ok (.aload_n 0, 1) from by decide +kernel
theorem k56_23 {L : Nat} {xs : Nat → Int32} : decode (am_cd (am_me (tb_P L xs) 56)) 23 = .ok (.arraylength, 1) := show decode (am_cd (tb_me 56)) 23 = .ok (.arraylength, 1) from by decide +kernel
theorem k56_24 {L : Nat} {xs : Nat → Int32} : decode (am_cd (am_me (tb_P L xs) 56)) 24 = .ok (.iload_n 1, 1) := show decode (am_cd (tb_me 56)) 24 = .ok (.iload_n 1, 1) from by decide +kernel
theorem k56_25 {L : Nat} {xs : Nat → Int32} : decode (am_cd (am_me (tb_P L xs) 56)) 25 = .ok (.invokestatic 304, 3) := show decode (am_cd (tb_me 56)) 25 = .ok (.invokestatic 304, 3) from by decide +kernel
theorem s56_25 {L : Nat} {xs : Nat → Int32} : am_sp (tb_P L xs) 56 304 = some 2 := show tb_spF 56 304 = some 2 from by decide +kernel
theorem r56_25 {L : Nat} {xs : Nat → Int32} : 1 ≤ am_rf (am_me (tb_P L xs) 56) ∧ 4 + 13 ≤ am_rl (am_me (tb_P L xs) 56) := show 1 ≤ am_rf (tb_me 56) ∧ 4 + 13 ≤ am_rl (tb_me 56) from by decide +kernel
theorem k56_28 {L : Nat} {xs : Nat → Int32} : decode (am_cd (am_me (tb_P L xs) 56)) 28 = .ok (.invokestatic 150, 3) := show decode (am_cd (tb_me 56)) 28 = .ok (.invokestatic 150, 3) from by decide +kernel
theorem s56_28 {L : Nat} {xs : Nat → Int32} : am_sp (tb_P L xs) 56 150 = some 3 := show tb_spF 56 150 = some 3 from by decide +kernel
theorem r56_28 {L : Nat} {xs : Nat → Int32} : 1 ≤ am_rf (am_me (tb_P L xs) 56) ∧ 0 + (nativeFrameWords "java/lang/System" "arraycopy" 5 + 11) ≤ am_rl (am_me (tb_P L xs) 56) := show 1 ≤ am_rf (tb_me 56) ∧ 0 + (nativeFrameWords "java/lang/System" "arraycopy" 5 + 11) ≤ am_rl (tb_me 56) from by decide +kernel
theorem k56_31 {L : Nat} {xs : Nat → Int32} : decode (am_cd (am_me (tb_P L xs) 56)) 31 = .ok (.aload_n 2, 1) := show decode (am_cd (tb_me 56)) 31 = .ok (.aload_n 2, 1) from by decide +kernel
theorem k56_32 {L : Nat} {xs : Nat → Int32} : decode (am_cd (am_me (tb_P L xs) 56)) 32 = .ok (.areturn, 1) := show decode (am_cd (tb_me 56)) 32 = .ok (.areturn, 1) from by decide +kernel
theorem t56 {L : Nat} {xs : Nat → Int32} : am_rt (am_me (tb_P L xs) 56) = some (.array .int : FieldType) := show am_rt (tb_me 56) = some (.array .int : FieldType) from by decide +kernel
theorem l56 {L : Nat} {xs : Nat → Int32} : am_ml (am_me (tb_P L xs) 56) = 3 := show am_ml (tb_me 56) = 3 from by decide +kernel
theorem o56 {L : Nat} {xs : Nat → Int32} (pc : Nat) : am_no (tb_P L xs) 56 pc = true := show (am_hd (tb_me 56)).all (fun q => !(decide (q.1 ≤ pc) && decide (pc < q.2.1))) = true from by rw [show am_hd (tb_me 56) = [] by decide +kernel]; rfl
theorem k57_0 {L : Nat} {xs : Nat → Int32} : decode (am_cd (am_me (tb_P L xs) 57)) 0 = .ok (.iload_n 0, 1) := show decode (am_cd (tb_me 57)) 0 = .ok (.iload_n 0, 1) from by decide +kernel
theorem k57_1 {L : Nat} {xs : Nat → Int32} : decode (am_cd (am_me (tb_P L xs) 57)) 1 = .ok (.bipush 20, 2) := show decode (am_cd (tb_me 57)) 1 = .ok (.bipush 20, 2) from by decide +kernel
theorem k57_3 {L : Nat} {xs : Nat → Int32} : decode (am_cd (am_me (tb_P L xs) 57)) 3 = .ok (.if_icmp .lt 13, 3) := show decode (am_cd (tb_me 57)) 3 = .ok (.if_icmp .lt 13, 3) from by decide +kernel
theorem k57_6 {L : Nat} {xs : Nat → Int32} : decode (am_cd (am_me (tb_P L xs) 57)) 6 = .ok (.iload_n 0, 1) := show decode (am_cd (tb_me 57)) 6 = .ok (.iload_n 0, 1) from by decide +kernel
theorem k57_7 {L : Nat} {xs : Nat → Int32} : decode (am_cd (am_me (tb_P L xs) 57)) 7 = .ok (.bipush 40, 2) := show decode (am_cd (tb_me 57)) 7 = .ok (.bipush 40, 2) from by decide +kernel
theorem k57_9 {L : Nat} {xs : Nat → Int32} : decode (am_cd (am_me (tb_P L xs) 57)) 9 = .ok (.if_icmp .gt 7, 3) := show decode (am_cd (tb_me 57)) 9 = .ok (.if_icmp .gt 7, 3) from by decide +kernel
theorem k57_12 {L : Nat} {xs : Nat → Int32} : decode (am_cd (am_me (tb_P L xs) 57)) 12 = .ok (.iconst 1, 1) := show decode (am_cd (tb_me 57)) 12 = .ok (.iconst 1, 1) from by decide +kernel
theorem k57_13 {L : Nat} {xs : Nat → Int32} : decode (am_cd (am_me (tb_P L xs) 57)) 13 = .ok (.goto 4, 3) := show decode (am_cd (tb_me 57)) 13 = .ok (.goto 4, 3) from by decide +kernel
theorem k57_16 {L : Nat} {xs : Nat → Int32} : decode (am_cd (am_me (tb_P L xs) 57)) 16 = .ok (.iconst 0, 1) := show decode (am_cd (tb_me 57)) 16 = .ok (.iconst 0, 1) from by decide +kernel
theorem k57_17 {L : Nat} {xs : Nat → Int32} : decode (am_cd (am_me (tb_P L xs) 57)) 17 = .ok (.istore_n 1, 1) := show decode (am_cd (tb_me 57)) 17 = .ok (.istore_n 1, 1) from by decide +kernel
theorem k57_18 {L : Nat} {xs : Nat → Int32} : decode (am_cd (am_me (tb_P L xs) 57)) 18 = .ok (.iload_n 1, 1) := show decode (am_cd (tb_me 57)) 18 = .ok (.iload_n 1, 1) from by decide +kernel
theorem k57_19 {L : Nat} {xs : Nat → Int32} : decode (am_cd (am_me (tb_P L xs) 57)) 19 = .ok (.ifCond .eq 12, 3) := show decode (am_cd (tb_me 57)) 19 = .ok (.ifCond .eq 12, 3) from by decide +kernel
theorem k57_22 {L : Nat} {xs : Nat → Int32} : decode (am_cd (am_me (tb_P L xs) 57)) 22 = .ok (.iconst 1, 1) := show decode (am_cd (tb_me 57)) 22 = .ok (.iconst 1, 1) from by decide +kernel
theorem k57_23 {L : Nat} {xs : Nat → Int32} : decode (am_cd (am_me (tb_P L xs) 57)) 23 = .ok (.iload_n 0, 1) := show decode (am_cd (tb_me 57)) 23 = .ok (.iload_n 0, 1) from by decide +kernel
theorem k57_24 {L : Nat} {xs : Nat → Int32} : decode (am_cd (am_me (tb_P L xs) 57)) 24 = .ok (.invokestatic 56, 3) := show decode (am_cd (tb_me 57)) 24 = .ok (.invokestatic 56, 3) from by decide +kernel
theorem s57_24 {L : Nat} {xs : Nat → Int32} : am_sp (tb_P L xs) 57 56 = none := show tb_spF 57 56 = none from by decide +kernel
theorem c57_24 {L : Nat} {xs : Nat → Int32} : am_ca (tb_P L xs) 57 56 = some (14, 1, 0) := show tb_caF 57 56 = some (14, 1, 0) from by decide +kernel
theorem r57_24 {L : Nat} {xs : Nat → Int32} : am_rf (am_me (tb_P L xs) 14) + 1 ≤ am_rf (am_me (tb_P L xs) 57) ∧ 1 + (am_ml (am_me (tb_P L xs) 14) + 11) + am_rl (am_me (tb_P L xs) 14) ≤ am_rl (am_me (tb_P L xs) 57) := show am_rf (tb_me 14) + 1 ≤ am_rf (tb_me 57) ∧ 1 + (am_ml (tb_me 14) + 11) + am_rl (tb_me 14) ≤ am_rl (tb_me 57) from by decide +kernel
theorem k57_27 {L : Nat} {xs : Nat → Int32} : decode (am_cd (am_me (tb_P L xs) 57)) 27 = .ok (.ishl, 1) := show decode (am_cd (tb_me 57)) 27 = .ok (.ishl, 1) from by decide +kernel
theorem k57_28 {L : Nat} {xs : Nat → Int32} : decode (am_cd (am_me (tb_P L xs) 57)) 28 = .ok (.goto 4, 3) := show decode (am_cd (tb_me 57)) 28 = .ok (.goto 4, 3) from by decide +kernel
theorem k57_31 {L : Nat} {xs : Nat → Int32} : decode (am_cd (am_me (tb_P L xs) 57)) 31 = .ok (.iconst 0, 1) := show decode (am_cd (tb_me 57)) 31 = .ok (.iconst 0, 1) from by decide +kernel
theorem k57_32 {L : Nat} {xs : Nat → Int32} : decode (am_cd (am_me (tb_P L xs) 57)) 32 = .ok (.ireturn, 1) := show decode (am_cd (tb_me 57)) 32 = .ok (.ireturn, 1) from by decide +kernel
theorem t57 {L : Nat} {xs : Nat → Int32} : am_rt (am_me (tb_P L xs) 57) = some (.int : FieldType) := show am_rt (tb_me 57) = some (.int : FieldType) from by decide +kernel
theorem l57 {L : Nat} {xs : Nat → Int32} : am_ml (am_me (tb_P L xs) 57) = 2 := show am_ml (tb_me 57) = 2 from by decide +kernel
theorem o57 {L : Nat} {xs : Nat → Int32} (pc : Nat) : am_no (tb_P L xs) 57 pc = true := show (am_hd (tb_me 57)).all (fun q => !(decide (q.1 ≤ pc) && decide (pc < q.2.1))) = true from by rw [show am_hd (tb_me 57) = [] by decide +kernel]; rfl
theorem k58_0 {L : Nat} {xs : Nat → Int32} : decode (am_cd (am_me (tb_P L xs) 58)) 0 = .ok (.aload 4, 2) := show decode (am_cd (tb_me 58)) 0 = .ok (.aload 4, 2) from by decide +kernel
theorem k58_2 {L : Nat} {xs : Nat → Int32} : decode (am_cd (am_me (tb_P L xs) 58)) 2 = .ok (.iconst 0, 1) := show decode (am_cd (tb_me 58)) 2 = .ok (.iconst 0, 1) from by decide +kernel
theorem k58_3 {L : Nat} {xs : Nat → Int32} : decode (am_cd (am_me (tb_P L xs) 58)) 3 = .ok (.aload_n 0, 1) := show decode (am_cd (tb_me 58)) 3 = .ok (.aload_n 0, 1) from by decide +kernel
theorem k58_4 {L : Nat} {xs : Nat → Int32} : decode (am_cd (am_me (tb_P L xs) 58)) 4 = .ok (.iload_n 1, 1) := show decode (am_cd (tb_me 58)) 4 = .ok (.iload_n 1, 1) from by decide +kernel
theorem k58_5 {L : Nat} {xs : Nat → Int32} : decode (am_cd (am_me (tb_P L xs) 58)) 5 = .ok (.iload_n 2, 1) := show decode (am_cd (tb_me 58)) 5 = .ok (.iload_n 2, 1) from by decide +kernel
theorem k58_6 {L : Nat} {xs : Nat → Int32} : decode (am_cd (am_me (tb_P L xs) 58)) 6 = .ok (.iload_n 3, 1) := show decode (am_cd (tb_me 58)) 6 = .ok (.iload_n 3, 1) from by decide +kernel
theorem k58_7 {L : Nat} {xs : Nat → Int32} : decode (am_cd (am_me (tb_P L xs) 58)) 7 = .ok (.invokevirtual 25, 3) := show decode (am_cd (tb_me 58)) 7 = .ok (.invokevirtual 25, 3) from by decide +kernel
theorem s58_7 {L : Nat} {xs : Nat → Int32} : am_sp (tb_P L xs) 58 25 = none := show tb_spF 58 25 = none from by decide +kernel
theorem c58_7 {L : Nat} {xs : Nat → Int32} : am_ca (tb_P L xs) 58 25 = some (59, 3, 1) := show tb_caF 58 25 = some (59, 3, 1) from by decide +kernel
theorem r58_7 {L : Nat} {xs : Nat → Int32} : am_rf (am_me (tb_P L xs) 59) + 1 ≤ am_rf (am_me (tb_P L xs) 58) ∧ 2 + (am_ml (am_me (tb_P L xs) 59) + 11) + am_rl (am_me (tb_P L xs) 59) ≤ am_rl (am_me (tb_P L xs) 58) := show am_rf (tb_me 59) + 1 ≤ am_rf (tb_me 58) ∧ 2 + (am_ml (tb_me 59) + 11) + am_rl (tb_me 59) ≤ am_rl (tb_me 58) from by decide +kernel
theorem k58_10 {L : Nat} {xs : Nat → Int32} : decode (am_cd (am_me (tb_P L xs) 58)) 10 = .ok (.i2l, 1) := show decode (am_cd (tb_me 58)) 10 = .ok (.i2l, 1) from by decide +kernel
theorem k58_11 {L : Nat} {xs : Nat → Int32} : decode (am_cd (am_me (tb_P L xs) 58)) 11 = .ok (.lastore, 1) := show decode (am_cd (tb_me 58)) 11 = .ok (.lastore, 1) from by decide +kernel
theorem k58_12 {L : Nat} {xs : Nat → Int32} : decode (am_cd (am_me (tb_P L xs) 58)) 12 = .ok (.goto 11, 3) := show decode (am_cd (tb_me 58)) 12 = .ok (.goto 11, 3) from by decide +kernel
theorem k58_15 {L : Nat} {xs : Nat → Int32} : decode (am_cd (am_me (tb_P L xs) 58)) 15 = .ok (.astore 5, 2) := show decode (am_cd (tb_me 58)) 15 = .ok (.astore 5, 2) from by decide +kernel
theorem k58_17 {L : Nat} {xs : Nat → Int32} : decode (am_cd (am_me (tb_P L xs) 58)) 17 = .ok (.iconst 1, 1) := show decode (am_cd (tb_me 58)) 17 = .ok (.iconst 1, 1) from by decide +kernel
theorem k58_18 {L : Nat} {xs : Nat → Int32} : decode (am_cd (am_me (tb_P L xs) 58)) 18 = .ok (.ireturn, 1) := show decode (am_cd (tb_me 58)) 18 = .ok (.ireturn, 1) from by decide +kernel
theorem k58_19 {L : Nat} {xs : Nat → Int32} : decode (am_cd (am_me (tb_P L xs) 58)) 19 = .ok (.astore 5, 2) := show decode (am_cd (tb_me 58)) 19 = .ok (.astore 5, 2) from by decide +kernel
theorem k58_21 {L : Nat} {xs : Nat → Int32} : decode (am_cd (am_me (tb_P L xs) 58)) 21 = .ok (.iconst 2, 1) := show decode (am_cd (tb_me 58)) 21 = .ok (.iconst 2, 1) from by decide +kernel
theorem k58_22 {L : Nat} {xs : Nat → Int32} : decode (am_cd (am_me (tb_P L xs) 58)) 22 = .ok (.ireturn, 1) := show decode (am_cd (tb_me 58)) 22 = .ok (.ireturn, 1) from by decide +kernel
theorem k58_23 {L : Nat} {xs : Nat → Int32} : decode (am_cd (am_me (tb_P L xs) 58)) 23 = .ok (.iconst 0, 1) := show decode (am_cd (tb_me 58)) 23 = .ok (.iconst 0, 1) from by decide +kernel
theorem k58_24 {L : Nat} {xs : Nat → Int32} : decode (am_cd (am_me (tb_P L xs) 58)) 24 = .ok (.ireturn, 1) := show decode (am_cd (tb_me 58)) 24 = .ok (.ireturn, 1) from by decide +kernel
theorem t58 {L : Nat} {xs : Nat → Int32} : am_rt (am_me (tb_P L xs) 58) = some (.int : FieldType) := show am_rt (tb_me 58) = some (.int : FieldType) from by decide +kernel
theorem l58 {L : Nat} {xs : Nat → Int32} : am_ml (am_me (tb_P L xs) 58) = 6 := show am_ml (tb_me 58) = 6 from by decide +kernel
theorem k59_0 {L : Nat} {xs : Nat → Int32} : decode (am_cd (am_me (tb_P L xs) 59)) 0 = .ok (.iload_n 1, 1) := show decode (am_cd (tb_me 59)) 0 = .ok (.iload_n 1, 1) from by decide +kernel
theorem k59_1 {L : Nat} {xs : Nat → Int32} : decode (am_cd (am_me (tb_P L xs) 59)) 1 = .ok (.invokestatic 102, 3) := show decode (am_cd (tb_me 59)) 1 = .ok (.invokestatic 102, 3) from by decide +kernel
theorem s59_1 {L : Nat} {xs : Nat → Int32} : am_sp (tb_P L xs) 59 102 = none := show tb_spF 59 102 = none from by decide +kernel
theorem c59_1 {L : Nat} {xs : Nat → Int32} : am_ca (tb_P L xs) 59 102 = some (60, 1, 0) := show tb_caF 59 102 = some (60, 1, 0) from by decide +kernel
theorem r59_1 {L : Nat} {xs : Nat → Int32} : am_rf (am_me (tb_P L xs) 60) + 1 ≤ am_rf (am_me (tb_P L xs) 59) ∧ 0 + (am_ml (am_me (tb_P L xs) 60) + 11) + am_rl (am_me (tb_P L xs) 60) ≤ am_rl (am_me (tb_P L xs) 59) := show am_rf (tb_me 60) + 1 ≤ am_rf (tb_me 59) ∧ 0 + (am_ml (tb_me 60) + 11) + am_rl (tb_me 60) ≤ am_rl (tb_me 59) from by decide +kernel
theorem k59_4 {L : Nat} {xs : Nat → Int32} : decode (am_cd (am_me (tb_P L xs) 59)) 4 = .ok (.ifCond .eq 22, 3) := show decode (am_cd (tb_me 59)) 4 = .ok (.ifCond .eq 22, 3) from by decide +kernel
theorem k59_7 {L : Nat} {xs : Nat → Int32} : decode (am_cd (am_me (tb_P L xs) 59)) 7 = .ok (.iload_n 2, 1) := show decode (am_cd (tb_me 59)) 7 = .ok (.iload_n 2, 1) from by decide +kernel
theorem k59_8 {L : Nat} {xs : Nat → Int32} : decode (am_cd (am_me (tb_P L xs) 59)) 8 = .ok (.iconst 1, 1) := show decode (am_cd (tb_me 59)) 8 = .ok (.iconst 1, 1) from by decide +kernel
theorem k59_9 {L : Nat} {xs : Nat → Int32} : decode (am_cd (am_me (tb_P L xs) 59)) 9 = .ok (.isub, 1) := show decode (am_cd (tb_me 59)) 9 = .ok (.isub, 1) from by decide +kernel
theorem k59_10 {L : Nat} {xs : Nat → Int32} : decode (am_cd (am_me (tb_P L xs) 59)) 10 = .ok (.iconst 4, 1) := show decode (am_cd (tb_me 59)) 10 = .ok (.iconst 4, 1) from by decide +kernel
theorem k59_11 {L : Nat} {xs : Nat → Int32} : decode (am_cd (am_me (tb_P L xs) 59)) 11 = .ok (.invokestatic 61, 3) := show decode (am_cd (tb_me 59)) 11 = .ok (.invokestatic 61, 3) from by decide +kernel
theorem s59_11 {L : Nat} {xs : Nat → Int32} : am_sp (tb_P L xs) 59 61 = none := show tb_spF 59 61 = none from by decide +kernel
theorem c59_11 {L : Nat} {xs : Nat → Int32} : am_ca (tb_P L xs) 59 61 = some (26, 2, 0) := show tb_caF 59 61 = some (26, 2, 0) from by decide +kernel
theorem r59_11 {L : Nat} {xs : Nat → Int32} : am_rf (am_me (tb_P L xs) 26) + 1 ≤ am_rf (am_me (tb_P L xs) 59) ∧ 0 + (am_ml (am_me (tb_P L xs) 26) + 11) + am_rl (am_me (tb_P L xs) 26) ≤ am_rl (am_me (tb_P L xs) 59) := show am_rf (tb_me 26) + 1 ≤ am_rf (tb_me 59) ∧ 0 + (am_ml (tb_me 26) + 11) + am_rl (tb_me 26) ≤ am_rl (tb_me 59) from by decide +kernel
theorem k59_14 {L : Nat} {xs : Nat → Int32} : decode (am_cd (am_me (tb_P L xs) 59)) 14 = .ok (.ifCond .eq 12, 3) := show decode (am_cd (tb_me 59)) 14 = .ok (.ifCond .eq 12, 3) from by decide +kernel
theorem k59_17 {L : Nat} {xs : Nat → Int32} : decode (am_cd (am_me (tb_P L xs) 59)) 17 = .ok (.aload_n 0, 1) := show decode (am_cd (tb_me 59)) 17 = .ok (.aload_n 0, 1) from by decide +kernel
theorem k59_18 {L : Nat} {xs : Nat → Int32} : decode (am_cd (am_me (tb_P L xs) 59)) 18 = .ok (.iload_n 1, 1) := show decode (am_cd (tb_me 59)) 18 = .ok (.iload_n 1, 1) from by decide +kernel
theorem k59_19 {L : Nat} {xs : Nat → Int32} : decode (am_cd (am_me (tb_P L xs) 59)) 19 = .ok (.iload_n 3, 1) := show decode (am_cd (tb_me 59)) 19 = .ok (.iload_n 3, 1) from by decide +kernel
theorem k59_20 {L : Nat} {xs : Nat → Int32} : decode (am_cd (am_me (tb_P L xs) 59)) 20 = .ok (.invokevirtual 105, 3) := show decode (am_cd (tb_me 59)) 20 = .ok (.invokevirtual 105, 3) from by decide +kernel
theorem s59_20 {L : Nat} {xs : Nat → Int32} : am_sp (tb_P L xs) 59 105 = none := show tb_spF 59 105 = none from by decide +kernel
theorem c59_20 {L : Nat} {xs : Nat → Int32} : am_ca (tb_P L xs) 59 105 = some (61, 2, 1) := show tb_caF 59 105 = some (61, 2, 1) from by decide +kernel
theorem r59_20 {L : Nat} {xs : Nat → Int32} : am_rf (am_me (tb_P L xs) 61) + 1 ≤ am_rf (am_me (tb_P L xs) 59) ∧ 0 + (am_ml (am_me (tb_P L xs) 61) + 11) + am_rl (am_me (tb_P L xs) 61) ≤ am_rl (am_me (tb_P L xs) 59) := show am_rf (tb_me 61) + 1 ≤ am_rf (tb_me 59) ∧ 0 + (am_ml (tb_me 61) + 11) + am_rl (tb_me 61) ≤ am_rl (tb_me 59) from by decide +kernel
theorem k59_23 {L : Nat} {xs : Nat → Int32} : decode (am_cd (am_me (tb_P L xs) 59)) 23 = .ok (.ifCond .ne 11, 3) := show decode (am_cd (tb_me 59)) 23 = .ok (.ifCond .ne 11, 3) from by decide +kernel
theorem k59_26 {L : Nat} {xs : Nat → Int32} : decode (am_cd (am_me (tb_P L xs) 59)) 26 = .ok (.new 65, 3) := show decode (am_cd (tb_me 59)) 26 = .ok (.new 65, 3) from by decide +kernel
theorem n59_26 {L : Nat} {xs : Nat → Int32} : am_nw (tb_P L xs) 59 65 = none := show tb_nwF 59 65 = none from by decide +kernel
theorem x59_26 {L : Nat} {xs : Nat → Int32} : am_xn (tb_P L xs) 59 65 67 = some 9 := show tb_xnF 59 65 67 = some 9 from by decide +kernel
theorem r59_26 {L : Nat} {xs : Nat → Int32} : 5 < am_rf (am_me (tb_P L xs) 59) ∧ 0 + 82 ≤ am_rl (am_me (tb_P L xs) 59) := show 5 < am_rf (tb_me 59) ∧ 0 + 82 ≤ am_rl (tb_me 59) from by decide +kernel
theorem k59_29 {L : Nat} {xs : Nat → Int32} : decode (am_cd (am_me (tb_P L xs) 59)) 29 = .ok (.dup, 1) := show decode (am_cd (tb_me 59)) 29 = .ok (.dup, 1) from by decide +kernel
theorem k59_30 {L : Nat} {xs : Nat → Int32} : decode (am_cd (am_me (tb_P L xs) 59)) 30 = .ok (.invokespecial 67, 3) := show decode (am_cd (tb_me 59)) 30 = .ok (.invokespecial 67, 3) from by decide +kernel
theorem k59_33 {L : Nat} {xs : Nat → Int32} : decode (am_cd (am_me (tb_P L xs) 59)) 33 = .ok (.athrow, 1) := show decode (am_cd (tb_me 59)) 33 = .ok (.athrow, 1) from by decide +kernel
theorem k59_34 {L : Nat} {xs : Nat → Int32} : decode (am_cd (am_me (tb_P L xs) 59)) 34 = .ok (.aload_n 0, 1) := show decode (am_cd (tb_me 59)) 34 = .ok (.aload_n 0, 1) from by decide +kernel
theorem k59_35 {L : Nat} {xs : Nat → Int32} : decode (am_cd (am_me (tb_P L xs) 59)) 35 = .ok (.getfield 37, 3) := show decode (am_cd (tb_me 59)) 35 = .ok (.getfield 37, 3) from by decide +kernel
theorem f59_35 {L : Nat} {xs : Nat → Int32} : am_fd (tb_P L xs) 59 37 = some (0, 3, (.object "GluedMachines$Model" : FieldType), false) := show tb_fdF 59 37 = some (0, 3, (.object "GluedMachines$Model" : FieldType), false) from by decide +kernel
theorem k59_38 {L : Nat} {xs : Nat → Int32} : decode (am_cd (am_me (tb_P L xs) 59)) 38 = .ok (.getfield 108, 3) := show decode (am_cd (tb_me 59)) 38 = .ok (.getfield 108, 3) from by decide +kernel
theorem f59_38 {L : Nat} {xs : Nat → Int32} : am_fd (tb_P L xs) 59 108 = some (5, 3, (.int : FieldType), true) := show tb_fdF 59 108 = some (5, 3, (.int : FieldType), true) from by decide +kernel
theorem k59_41 {L : Nat} {xs : Nat → Int32} : decode (am_cd (am_me (tb_P L xs) 59)) 41 = .ok (.bipush 12, 2) := show decode (am_cd (tb_me 59)) 41 = .ok (.bipush 12, 2) from by decide +kernel
theorem k59_43 {L : Nat} {xs : Nat → Int32} : decode (am_cd (am_me (tb_P L xs) 59)) 43 = .ok (.if_icmp .ne 11, 3) := show decode (am_cd (tb_me 59)) 43 = .ok (.if_icmp .ne 11, 3) from by decide +kernel
theorem k59_46 {L : Nat} {xs : Nat → Int32} : decode (am_cd (am_me (tb_P L xs) 59)) 46 = .ok (.new 85, 3) := show decode (am_cd (tb_me 59)) 46 = .ok (.new 85, 3) from by decide +kernel
theorem n59_46 {L : Nat} {xs : Nat → Int32} : am_nw (tb_P L xs) 59 85 = none := show tb_nwF 59 85 = none from by decide +kernel
theorem x59_46 {L : Nat} {xs : Nat → Int32} : am_xn (tb_P L xs) 59 85 87 = some 10 := show tb_xnF 59 85 87 = some 10 from by decide +kernel
theorem r59_46 {L : Nat} {xs : Nat → Int32} : 5 < am_rf (am_me (tb_P L xs) 59) ∧ 0 + 82 ≤ am_rl (am_me (tb_P L xs) 59) := show 5 < am_rf (tb_me 59) ∧ 0 + 82 ≤ am_rl (tb_me 59) from by decide +kernel
theorem k59_49 {L : Nat} {xs : Nat → Int32} : decode (am_cd (am_me (tb_P L xs) 59)) 49 = .ok (.dup, 1) := show decode (am_cd (tb_me 59)) 49 = .ok (.dup, 1) from by decide +kernel
theorem k59_50 {L : Nat} {xs : Nat → Int32} : decode (am_cd (am_me (tb_P L xs) 59)) 50 = .ok (.invokespecial 87, 3) := show decode (am_cd (tb_me 59)) 50 = .ok (.invokespecial 87, 3) from by decide +kernel
theorem k59_53 {L : Nat} {xs : Nat → Int32} : decode (am_cd (am_me (tb_P L xs) 59)) 53 = .ok (.athrow, 1) := show decode (am_cd (tb_me 59)) 53 = .ok (.athrow, 1) from by decide +kernel
theorem k59_54 {L : Nat} {xs : Nat → Int32} : decode (am_cd (am_me (tb_P L xs) 59)) 54 = .ok (.aload_n 0, 1) := show decode (am_cd (tb_me 59)) 54 = .ok (.aload_n 0, 1) from by decide +kernel
theorem k59_55 {L : Nat} {xs : Nat → Int32} : decode (am_cd (am_me (tb_P L xs) 59)) 55 = .ok (.getfield 37, 3) := show decode (am_cd (tb_me 59)) 55 = .ok (.getfield 37, 3) from by decide +kernel
theorem f59_55 {L : Nat} {xs : Nat → Int32} : am_fd (tb_P L xs) 59 37 = some (0, 3, (.object "GluedMachines$Model" : FieldType), false) := show tb_fdF 59 37 = some (0, 3, (.object "GluedMachines$Model" : FieldType), false) from by decide +kernel
theorem k59_58 {L : Nat} {xs : Nat → Int32} : decode (am_cd (am_me (tb_P L xs) 59)) 58 = .ok (.new 111, 3) := show decode (am_cd (tb_me 59)) 58 = .ok (.new 111, 3) from by decide +kernel
theorem n59_58 {L : Nat} {xs : Nat → Int32} : am_nw (tb_P L xs) 59 111 = some 3 := show tb_nwF 59 111 = some 3 from by decide +kernel
theorem k59_61 {L : Nat} {xs : Nat → Int32} : decode (am_cd (am_me (tb_P L xs) 59)) 61 = .ok (.dup, 1) := show decode (am_cd (tb_me 59)) 61 = .ok (.dup, 1) from by decide +kernel
theorem k59_62 {L : Nat} {xs : Nat → Int32} : decode (am_cd (am_me (tb_P L xs) 59)) 62 = .ok (.iload_n 1, 1) := show decode (am_cd (tb_me 59)) 62 = .ok (.iload_n 1, 1) from by decide +kernel
theorem k59_63 {L : Nat} {xs : Nat → Int32} : decode (am_cd (am_me (tb_P L xs) 59)) 63 = .ok (.iload_n 2, 1) := show decode (am_cd (tb_me 59)) 63 = .ok (.iload_n 2, 1) from by decide +kernel
theorem k59_64 {L : Nat} {xs : Nat → Int32} : decode (am_cd (am_me (tb_P L xs) 59)) 64 = .ok (.aload_n 0, 1) := show decode (am_cd (tb_me 59)) 64 = .ok (.aload_n 0, 1) from by decide +kernel
theorem k59_65 {L : Nat} {xs : Nat → Int32} : decode (am_cd (am_me (tb_P L xs) 59)) 65 = .ok (.getfield 37, 3) := show decode (am_cd (tb_me 59)) 65 = .ok (.getfield 37, 3) from by decide +kernel
theorem f59_65 {L : Nat} {xs : Nat → Int32} : am_fd (tb_P L xs) 59 37 = some (0, 3, (.object "GluedMachines$Model" : FieldType), false) := show tb_fdF 59 37 = some (0, 3, (.object "GluedMachines$Model" : FieldType), false) from by decide +kernel
theorem k59_68 {L : Nat} {xs : Nat → Int32} : decode (am_cd (am_me (tb_P L xs) 59)) 68 = .ok (.iload_n 3, 1) := show decode (am_cd (tb_me 59)) 68 = .ok (.iload_n 3, 1) from by decide +kernel
theorem k59_69 {L : Nat} {xs : Nat → Int32} : decode (am_cd (am_me (tb_P L xs) 59)) 69 = .ok (.invokevirtual 113, 3) := show decode (am_cd (tb_me 59)) 69 = .ok (.invokevirtual 113, 3) from by decide +kernel
theorem s59_69 {L : Nat} {xs : Nat → Int32} : am_sp (tb_P L xs) 59 113 = none := show tb_spF 59 113 = none from by decide +kernel
theorem c59_69 {L : Nat} {xs : Nat → Int32} : am_ca (tb_P L xs) 59 113 = some (62, 1, 1) := show tb_caF 59 113 = some (62, 1, 1) from by decide +kernel
theorem r59_69 {L : Nat} {xs : Nat → Int32} : am_rf (am_me (tb_P L xs) 62) + 1 ≤ am_rf (am_me (tb_P L xs) 59) ∧ 5 + (am_ml (am_me (tb_P L xs) 62) + 11) + am_rl (am_me (tb_P L xs) 62) ≤ am_rl (am_me (tb_P L xs) 59) := show am_rf (tb_me 62) + 1 ≤ am_rf (tb_me 59) ∧ 5 + (am_ml (tb_me 62) + 11) + am_rl (tb_me 62) ≤ am_rl (tb_me 59) from by decide +kernel
theorem k59_72 {L : Nat} {xs : Nat → Int32} : decode (am_cd (am_me (tb_P L xs) 59)) 72 = .ok (.invokespecial 117, 3) := show decode (am_cd (tb_me 59)) 72 = .ok (.invokespecial 117, 3) from by decide +kernel
theorem s59_72 {L : Nat} {xs : Nat → Int32} : am_sp (tb_P L xs) 59 117 = none := show tb_spF 59 117 = none from by decide +kernel
theorem c59_72 {L : Nat} {xs : Nat → Int32} : am_ca (tb_P L xs) 59 117 = some (63, 3, 2) := show tb_caF 59 117 = some (63, 3, 2) from by decide +kernel
theorem r59_72 {L : Nat} {xs : Nat → Int32} : am_rf (am_me (tb_P L xs) 63) + 1 ≤ am_rf (am_me (tb_P L xs) 59) ∧ 2 + (am_ml (am_me (tb_P L xs) 63) + 11) + am_rl (am_me (tb_P L xs) 63) ≤ am_rl (am_me (tb_P L xs) 59) := show am_rf (tb_me 63) + 1 ≤ am_rf (tb_me 59) ∧ 2 + (am_ml (tb_me 63) + 11) + am_rl (tb_me 63) ≤ am_rl (tb_me 59) from by decide +kernel
theorem k59_75 {L : Nat} {xs : Nat → Int32} : decode (am_cd (am_me (tb_P L xs) 59)) 75 = .ok (.invokevirtual 120, 3) := show decode (am_cd (tb_me 59)) 75 = .ok (.invokevirtual 120, 3) from by decide +kernel
theorem s59_75 {L : Nat} {xs : Nat → Int32} : am_sp (tb_P L xs) 59 120 = none := show tb_spF 59 120 = none from by decide +kernel
theorem c59_75 {L : Nat} {xs : Nat → Int32} : am_ca (tb_P L xs) 59 120 = some (64, 1, 1) := show tb_caF 59 120 = some (64, 1, 1) from by decide +kernel
theorem r59_75 {L : Nat} {xs : Nat → Int32} : am_rf (am_me (tb_P L xs) 64) + 1 ≤ am_rf (am_me (tb_P L xs) 59) ∧ 0 + (am_ml (am_me (tb_P L xs) 64) + 11) + am_rl (am_me (tb_P L xs) 64) ≤ am_rl (am_me (tb_P L xs) 59) := show am_rf (tb_me 64) + 1 ≤ am_rf (tb_me 59) ∧ 0 + (am_ml (tb_me 64) + 11) + am_rl (tb_me 64) ≤ am_rl (tb_me 59) from by decide +kernel
theorem k59_78 {L : Nat} {xs : Nat → Int32} : decode (am_cd (am_me (tb_P L xs) 59)) 78 = .ok (.ireturn, 1) := show decode (am_cd (tb_me 59)) 78 = .ok (.ireturn, 1) from by decide +kernel
theorem t59 {L : Nat} {xs : Nat → Int32} : am_rt (am_me (tb_P L xs) 59) = some (.int : FieldType) := show am_rt (tb_me 59) = some (.int : FieldType) from by decide +kernel
theorem l59 {L : Nat} {xs : Nat → Int32} : am_ml (am_me (tb_P L xs) 59) = 4 := show am_ml (tb_me 59) = 4 from by decide +kernel
theorem o59 {L : Nat} {xs : Nat → Int32} (pc : Nat) : am_no (tb_P L xs) 59 pc = true := show (am_hd (tb_me 59)).all (fun q => !(decide (q.1 ≤ pc) && decide (pc < q.2.1))) = true from by rw [show am_hd (tb_me 59) = [] by decide +kernel]; rfl
theorem k60_0 {L : Nat} {xs : Nat → Int32} : decode (am_cd (am_me (tb_P L xs) 60)) 0 = .ok (.iload_n 0, 1) := show decode (am_cd (tb_me 60)) 0 = .ok (.iload_n 0, 1) from by decide +kernel
theorem k60_1 {L : Nat} {xs : Nat → Int32} : decode (am_cd (am_me (tb_P L xs) 60)) 1 = .ok (.ifCond .eq 8, 3) := show decode (am_cd (tb_me 60)) 1 = .ok (.ifCond .eq 8, 3) from by decide +kernel
theorem k60_4 {L : Nat} {xs : Nat → Int32} : decode (am_cd (am_me (tb_P L xs) 60)) 4 = .ok (.iload_n 0, 1) := show decode (am_cd (tb_me 60)) 4 = .ok (.iload_n 0, 1) from by decide +kernel
theorem k60_5 {L : Nat} {xs : Nat → Int32} : decode (am_cd (am_me (tb_P L xs) 60)) 5 = .ok (.iconst 1, 1) := show decode (am_cd (tb_me 60)) 5 = .ok (.iconst 1, 1) from by decide +kernel
theorem k60_6 {L : Nat} {xs : Nat → Int32} : decode (am_cd (am_me (tb_P L xs) 60)) 6 = .ok (.if_icmp .ne 7, 3) := show decode (am_cd (tb_me 60)) 6 = .ok (.if_icmp .ne 7, 3) from by decide +kernel
theorem k60_9 {L : Nat} {xs : Nat → Int32} : decode (am_cd (am_me (tb_P L xs) 60)) 9 = .ok (.iconst 1, 1) := show decode (am_cd (tb_me 60)) 9 = .ok (.iconst 1, 1) from by decide +kernel
theorem k60_10 {L : Nat} {xs : Nat → Int32} : decode (am_cd (am_me (tb_P L xs) 60)) 10 = .ok (.goto 4, 3) := show decode (am_cd (tb_me 60)) 10 = .ok (.goto 4, 3) from by decide +kernel
theorem k60_13 {L : Nat} {xs : Nat → Int32} : decode (am_cd (am_me (tb_P L xs) 60)) 13 = .ok (.iconst 0, 1) := show decode (am_cd (tb_me 60)) 13 = .ok (.iconst 0, 1) from by decide +kernel
theorem k60_14 {L : Nat} {xs : Nat → Int32} : decode (am_cd (am_me (tb_P L xs) 60)) 14 = .ok (.ireturn, 1) := show decode (am_cd (tb_me 60)) 14 = .ok (.ireturn, 1) from by decide +kernel
theorem t60 {L : Nat} {xs : Nat → Int32} : am_rt (am_me (tb_P L xs) 60) = some (.boolean : FieldType) := show am_rt (tb_me 60) = some (.boolean : FieldType) from by decide +kernel
theorem l60 {L : Nat} {xs : Nat → Int32} : am_ml (am_me (tb_P L xs) 60) = 1 := show am_ml (tb_me 60) = 1 from by decide +kernel
theorem o60 {L : Nat} {xs : Nat → Int32} (pc : Nat) : am_no (tb_P L xs) 60 pc = true := show (am_hd (tb_me 60)).all (fun q => !(decide (q.1 ≤ pc) && decide (pc < q.2.1))) = true from by rw [show am_hd (tb_me 60) = [] by decide +kernel]; rfl
theorem k61_0 {L : Nat} {xs : Nat → Int32} : decode (am_cd (am_me (tb_P L xs) 61)) 0 = .ok (.iload_n 2, 1) := show decode (am_cd (tb_me 61)) 0 = .ok (.iload_n 2, 1) from by decide +kernel
theorem k61_1 {L : Nat} {xs : Nat → Int32} : decode (am_cd (am_me (tb_P L xs) 61)) 1 = .ok (.iconst (-1), 1) := show decode (am_cd (tb_me 61)) 1 = .ok (.iconst (-1), 1) from by decide +kernel
theorem k61_2 {L : Nat} {xs : Nat → Int32} : decode (am_cd (am_me (tb_P L xs) 61)) 2 = .ok (.if_icmp .ne 5, 3) := show decode (am_cd (tb_me 61)) 2 = .ok (.if_icmp .ne 5, 3) from by decide +kernel
theorem k61_5 {L : Nat} {xs : Nat → Int32} : decode (am_cd (am_me (tb_P L xs) 61)) 5 = .ok (.iconst 1, 1) := show decode (am_cd (tb_me 61)) 5 = .ok (.iconst 1, 1) from by decide +kernel
theorem k61_6 {L : Nat} {xs : Nat → Int32} : decode (am_cd (am_me (tb_P L xs) 61)) 6 = .ok (.ireturn, 1) := show decode (am_cd (tb_me 61)) 6 = .ok (.ireturn, 1) from by decide +kernel
theorem k61_7 {L : Nat} {xs : Nat → Int32} : decode (am_cd (am_me (tb_P L xs) 61)) 7 = .ok (.aload_n 0, 1) := show decode (am_cd (tb_me 61)) 7 = .ok (.aload_n 0, 1) from by decide +kernel
theorem k61_8 {L : Nat} {xs : Nat → Int32} : decode (am_cd (am_me (tb_P L xs) 61)) 8 = .ok (.getfield 37, 3) := show decode (am_cd (tb_me 61)) 8 = .ok (.getfield 37, 3) from by decide +kernel
theorem f61_8 {L : Nat} {xs : Nat → Int32} : am_fd (tb_P L xs) 61 37 = some (0, 3, (.object "GluedMachines$Model" : FieldType), false) := show tb_fdF 61 37 = some (0, 3, (.object "GluedMachines$Model" : FieldType), false) from by decide +kernel
theorem k61_11 {L : Nat} {xs : Nat → Int32} : decode (am_cd (am_me (tb_P L xs) 61)) 11 = .ok (.iload_n 2, 1) := show decode (am_cd (tb_me 61)) 11 = .ok (.iload_n 2, 1) from by decide +kernel
theorem k61_12 {L : Nat} {xs : Nat → Int32} : decode (am_cd (am_me (tb_P L xs) 61)) 12 = .ok (.invokevirtual 113, 3) := show decode (am_cd (tb_me 61)) 12 = .ok (.invokevirtual 113, 3) from by decide +kernel
theorem s61_12 {L : Nat} {xs : Nat → Int32} : am_sp (tb_P L xs) 61 113 = none := show tb_spF 61 113 = none from by decide +kernel
theorem c61_12 {L : Nat} {xs : Nat → Int32} : am_ca (tb_P L xs) 61 113 = some (62, 1, 1) := show tb_caF 61 113 = some (62, 1, 1) from by decide +kernel
theorem r61_12 {L : Nat} {xs : Nat → Int32} : am_rf (am_me (tb_P L xs) 62) + 1 ≤ am_rf (am_me (tb_P L xs) 61) ∧ 0 + (am_ml (am_me (tb_P L xs) 62) + 11) + am_rl (am_me (tb_P L xs) 62) ≤ am_rl (am_me (tb_P L xs) 61) := show am_rf (tb_me 62) + 1 ≤ am_rf (tb_me 61) ∧ 0 + (am_ml (tb_me 62) + 11) + am_rl (tb_me 62) ≤ am_rl (tb_me 61) from by decide +kernel
theorem k61_15 {L : Nat} {xs : Nat → Int32} : decode (am_cd (am_me (tb_P L xs) 61)) 15 = .ok (.astore_n 3, 1) := show decode (am_cd (tb_me 61)) 15 = .ok (.astore_n 3, 1) from by decide +kernel
theorem k61_16 {L : Nat} {xs : Nat → Int32} : decode (am_cd (am_me (tb_P L xs) 61)) 16 = .ok (.iload_n 1, 1) := show decode (am_cd (tb_me 61)) 16 = .ok (.iload_n 1, 1) from by decide +kernel
theorem k61_17 {L : Nat} {xs : Nat → Int32} : decode (am_cd (am_me (tb_P L xs) 61)) 17 = .ok (.iconst 1, 1) := show decode (am_cd (tb_me 61)) 17 = .ok (.iconst 1, 1) from by decide +kernel
theorem k61_18 {L : Nat} {xs : Nat → Int32} : decode (am_cd (am_me (tb_P L xs) 61)) 18 = .ok (.if_icmp .ne 18, 3) := show decode (am_cd (tb_me 61)) 18 = .ok (.if_icmp .ne 18, 3) from by decide +kernel
theorem k61_21 {L : Nat} {xs : Nat → Int32} : decode (am_cd (am_me (tb_P L xs) 61)) 21 = .ok (.aload_n 3, 1) := show decode (am_cd (tb_me 61)) 21 = .ok (.aload_n 3, 1) from by decide +kernel
theorem k61_22 {L : Nat} {xs : Nat → Int32} : decode (am_cd (am_me (tb_P L xs) 61)) 22 = .ok (.ifnull 14, 3) := show decode (am_cd (tb_me 61)) 22 = .ok (.ifnull 14, 3) from by decide +kernel
theorem k61_25 {L : Nat} {xs : Nat → Int32} : decode (am_cd (am_me (tb_P L xs) 61)) 25 = .ok (.aload_n 3, 1) := show decode (am_cd (tb_me 61)) 25 = .ok (.aload_n 3, 1) from by decide +kernel
theorem k61_26 {L : Nat} {xs : Nat → Int32} : decode (am_cd (am_me (tb_P L xs) 61)) 26 = .ok (.getfield 148, 3) := show decode (am_cd (tb_me 61)) 26 = .ok (.getfield 148, 3) from by decide +kernel
theorem f61_26 {L : Nat} {xs : Nat → Int32} : am_fd (tb_P L xs) 61 148 = some (3, 0, (.int : FieldType), false) := show tb_fdF 61 148 = some (3, 0, (.int : FieldType), false) from by decide +kernel
theorem k61_29 {L : Nat} {xs : Nat → Int32} : decode (am_cd (am_me (tb_P L xs) 61)) 29 = .ok (.ifCond .ne 7, 3) := show decode (am_cd (tb_me 61)) 29 = .ok (.ifCond .ne 7, 3) from by decide +kernel
theorem k61_32 {L : Nat} {xs : Nat → Int32} : decode (am_cd (am_me (tb_P L xs) 61)) 32 = .ok (.iconst 1, 1) := show decode (am_cd (tb_me 61)) 32 = .ok (.iconst 1, 1) from by decide +kernel
theorem k61_33 {L : Nat} {xs : Nat → Int32} : decode (am_cd (am_me (tb_P L xs) 61)) 33 = .ok (.goto 4, 3) := show decode (am_cd (tb_me 61)) 33 = .ok (.goto 4, 3) from by decide +kernel
theorem k61_36 {L : Nat} {xs : Nat → Int32} : decode (am_cd (am_me (tb_P L xs) 61)) 36 = .ok (.iconst 0, 1) := show decode (am_cd (tb_me 61)) 36 = .ok (.iconst 0, 1) from by decide +kernel
theorem k61_37 {L : Nat} {xs : Nat → Int32} : decode (am_cd (am_me (tb_P L xs) 61)) 37 = .ok (.ireturn, 1) := show decode (am_cd (tb_me 61)) 37 = .ok (.ireturn, 1) from by decide +kernel
theorem t61 {L : Nat} {xs : Nat → Int32} : am_rt (am_me (tb_P L xs) 61) = some (.boolean : FieldType) := show am_rt (tb_me 61) = some (.boolean : FieldType) from by decide +kernel
theorem l61 {L : Nat} {xs : Nat → Int32} : am_ml (am_me (tb_P L xs) 61) = 4 := show am_ml (tb_me 61) = 4 from by decide +kernel
theorem o61 {L : Nat} {xs : Nat → Int32} (pc : Nat) : am_no (tb_P L xs) 61 pc = true := show (am_hd (tb_me 61)).all (fun q => !(decide (q.1 ≤ pc) && decide (pc < q.2.1))) = true from by rw [show am_hd (tb_me 61) = [] by decide +kernel]; rfl
theorem k62_0 {L : Nat} {xs : Nat → Int32} : decode (am_cd (am_me (tb_P L xs) 62)) 0 = .ok (.iload_n 1, 1) := show decode (am_cd (tb_me 62)) 0 = .ok (.iload_n 1, 1) from by decide +kernel
theorem k62_1 {L : Nat} {xs : Nat → Int32} : decode (am_cd (am_me (tb_P L xs) 62)) 1 = .ok (.aload_n 0, 1) := show decode (am_cd (tb_me 62)) 1 = .ok (.aload_n 0, 1) from by decide +kernel
theorem k62_2 {L : Nat} {xs : Nat → Int32} : decode (am_cd (am_me (tb_P L xs) 62)) 2 = .ok (.getfield 24, 3) := show decode (am_cd (tb_me 62)) 2 = .ok (.getfield 24, 3) from by decide +kernel
theorem f62_2 {L : Nat} {xs : Nat → Int32} : am_fd (tb_P L xs) 62 24 = some (5, 3, (.int : FieldType), true) := show tb_fdF 62 24 = some (5, 3, (.int : FieldType), true) from by decide +kernel
theorem k62_5 {L : Nat} {xs : Nat → Int32} : decode (am_cd (am_me (tb_P L xs) 62)) 5 = .ok (.invokestatic 51, 3) := show decode (am_cd (tb_me 62)) 5 = .ok (.invokestatic 51, 3) from by decide +kernel
theorem s62_5 {L : Nat} {xs : Nat → Int32} : am_sp (tb_P L xs) 62 51 = none := show tb_spF 62 51 = none from by decide +kernel
theorem c62_5 {L : Nat} {xs : Nat → Int32} : am_ca (tb_P L xs) 62 51 = some (26, 2, 0) := show tb_caF 62 51 = some (26, 2, 0) from by decide +kernel
theorem r62_5 {L : Nat} {xs : Nat → Int32} : am_rf (am_me (tb_P L xs) 26) + 1 ≤ am_rf (am_me (tb_P L xs) 62) ∧ 0 + (am_ml (am_me (tb_P L xs) 26) + 11) + am_rl (am_me (tb_P L xs) 26) ≤ am_rl (am_me (tb_P L xs) 62) := show am_rf (tb_me 26) + 1 ≤ am_rf (tb_me 62) ∧ 0 + (am_ml (tb_me 26) + 11) + am_rl (tb_me 26) ≤ am_rl (tb_me 62) from by decide +kernel
theorem k62_8 {L : Nat} {xs : Nat → Int32} : decode (am_cd (am_me (tb_P L xs) 62)) 8 = .ok (.ifCond .eq 12, 3) := show decode (am_cd (tb_me 62)) 8 = .ok (.ifCond .eq 12, 3) from by decide +kernel
theorem k62_11 {L : Nat} {xs : Nat → Int32} : decode (am_cd (am_me (tb_P L xs) 62)) 11 = .ok (.aload_n 0, 1) := show decode (am_cd (tb_me 62)) 11 = .ok (.aload_n 0, 1) from by decide +kernel
theorem k62_12 {L : Nat} {xs : Nat → Int32} : decode (am_cd (am_me (tb_P L xs) 62)) 12 = .ok (.getfield 20, 3) := show decode (am_cd (tb_me 62)) 12 = .ok (.getfield 20, 3) from by decide +kernel
theorem f62_12 {L : Nat} {xs : Nat → Int32} : am_fd (tb_P L xs) 62 20 = some (5, 2, (.array (.object "GluedMachines$Event") : FieldType), false) := show tb_fdF 62 20 = some (5, 2, (.array (.object "GluedMachines$Event") : FieldType), false) from by decide +kernel
theorem k62_15 {L : Nat} {xs : Nat → Int32} : decode (am_cd (am_me (tb_P L xs) 62)) 15 = .ok (.iload_n 1, 1) := show decode (am_cd (tb_me 62)) 15 = .ok (.iload_n 1, 1) from by decide +kernel
theorem k62_16 {L : Nat} {xs : Nat → Int32} : decode (am_cd (am_me (tb_P L xs) 62)) 16 = .ok (.aaload, 1) := show decode (am_cd (tb_me 62)) 16 = .ok (.aaload, 1) from by decide +kernel
theorem k62_17 {L : Nat} {xs : Nat → Int32} : decode (am_cd (am_me (tb_P L xs) 62)) 17 = .ok (.goto 4, 3) := show decode (am_cd (tb_me 62)) 17 = .ok (.goto 4, 3) from by decide +kernel
theorem k62_20 {L : Nat} {xs : Nat → Int32} : decode (am_cd (am_me (tb_P L xs) 62)) 20 = .ok (.aconst_null, 1) := show decode (am_cd (tb_me 62)) 20 = .ok (.aconst_null, 1) from by decide +kernel
theorem k62_21 {L : Nat} {xs : Nat → Int32} : decode (am_cd (am_me (tb_P L xs) 62)) 21 = .ok (.areturn, 1) := show decode (am_cd (tb_me 62)) 21 = .ok (.areturn, 1) from by decide +kernel
theorem t62 {L : Nat} {xs : Nat → Int32} : am_rt (am_me (tb_P L xs) 62) = some (.object "GluedMachines$Event" : FieldType) := show am_rt (tb_me 62) = some (.object "GluedMachines$Event" : FieldType) from by decide +kernel
theorem l62 {L : Nat} {xs : Nat → Int32} : am_ml (am_me (tb_P L xs) 62) = 2 := show am_ml (tb_me 62) = 2 from by decide +kernel
theorem o62 {L : Nat} {xs : Nat → Int32} (pc : Nat) : am_no (tb_P L xs) 62 pc = true := show (am_hd (tb_me 62)).all (fun q => !(decide (q.1 ≤ pc) && decide (pc < q.2.1))) = true from by rw [show am_hd (tb_me 62) = [] by decide +kernel]; rfl
theorem k63_0 {L : Nat} {xs : Nat → Int32} : decode (am_cd (am_me (tb_P L xs) 63)) 0 = .ok (.aload_n 0, 1) := show decode (am_cd (tb_me 63)) 0 = .ok (.aload_n 0, 1) from by decide +kernel
theorem k63_1 {L : Nat} {xs : Nat → Int32} : decode (am_cd (am_me (tb_P L xs) 63)) 1 = .ok (.invokespecial 3, 3) := show decode (am_cd (tb_me 63)) 1 = .ok (.invokespecial 3, 3) from by decide +kernel
theorem s63_1 {L : Nat} {xs : Nat → Int32} : am_sp (tb_P L xs) 63 3 = some 0 := show tb_spF 63 3 = some 0 from by decide +kernel
theorem r63_1 {L : Nat} {xs : Nat → Int32} : 1 ≤ am_rf (am_me (tb_P L xs) 63) ∧ 0 + 12 ≤ am_rl (am_me (tb_P L xs) 63) := show 1 ≤ am_rf (tb_me 63) ∧ 0 + 12 ≤ am_rl (tb_me 63) from by decide +kernel
theorem k63_4 {L : Nat} {xs : Nat → Int32} : decode (am_cd (am_me (tb_P L xs) 63)) 4 = .ok (.aload_n 0, 1) := show decode (am_cd (tb_me 63)) 4 = .ok (.aload_n 0, 1) from by decide +kernel
theorem k63_5 {L : Nat} {xs : Nat → Int32} : decode (am_cd (am_me (tb_P L xs) 63)) 5 = .ok (.aconst_null, 1) := show decode (am_cd (tb_me 63)) 5 = .ok (.aconst_null, 1) from by decide +kernel
theorem k63_6 {L : Nat} {xs : Nat → Int32} : decode (am_cd (am_me (tb_P L xs) 63)) 6 = .ok (.putfield 9, 3) := show decode (am_cd (tb_me 63)) 6 = .ok (.putfield 9, 3) from by decide +kernel
theorem f63_6 {L : Nat} {xs : Nat → Int32} : am_fd (tb_P L xs) 63 9 = some (3, 3, (.object "GluedMachines$Formula" : FieldType), true) := show tb_fdF 63 9 = some (3, 3, (.object "GluedMachines$Formula" : FieldType), true) from by decide +kernel
theorem k63_9 {L : Nat} {xs : Nat → Int32} : decode (am_cd (am_me (tb_P L xs) 63)) 9 = .ok (.aload_n 0, 1) := show decode (am_cd (tb_me 63)) 9 = .ok (.aload_n 0, 1) from by decide +kernel
theorem k63_10 {L : Nat} {xs : Nat → Int32} : decode (am_cd (am_me (tb_P L xs) 63)) 10 = .ok (.aconst_null, 1) := show decode (am_cd (tb_me 63)) 10 = .ok (.aconst_null, 1) from by decide +kernel
theorem k63_11 {L : Nat} {xs : Nat → Int32} : decode (am_cd (am_me (tb_P L xs) 63)) 11 = .ok (.putfield 15, 3) := show decode (am_cd (tb_me 63)) 11 = .ok (.putfield 15, 3) from by decide +kernel
theorem f63_11 {L : Nat} {xs : Nat → Int32} : am_fd (tb_P L xs) 63 15 = some (3, 4, (.object "GluedMachines$Formula" : FieldType), true) := show tb_fdF 63 15 = some (3, 4, (.object "GluedMachines$Formula" : FieldType), true) from by decide +kernel
theorem k63_14 {L : Nat} {xs : Nat → Int32} : decode (am_cd (am_me (tb_P L xs) 63)) 14 = .ok (.aload_n 0, 1) := show decode (am_cd (tb_me 63)) 14 = .ok (.aload_n 0, 1) from by decide +kernel
theorem k63_15 {L : Nat} {xs : Nat → Int32} : decode (am_cd (am_me (tb_P L xs) 63)) 15 = .ok (.bipush 6, 2) := show decode (am_cd (tb_me 63)) 15 = .ok (.bipush 6, 2) from by decide +kernel
theorem k63_17 {L : Nat} {xs : Nat → Int32} : decode (am_cd (am_me (tb_P L xs) 63)) 17 = .ok (.anewarray 18, 3) := show decode (am_cd (tb_me 63)) 17 = .ok (.anewarray 18, 3) from by decide +kernel
theorem n63_17 {L : Nat} {xs : Nat → Int32} : am_an (tb_P L xs) 63 18 = some 3 := show tb_anF 63 18 = some 3 from by decide +kernel
theorem k63_20 {L : Nat} {xs : Nat → Int32} : decode (am_cd (am_me (tb_P L xs) 63)) 20 = .ok (.putfield 20, 3) := show decode (am_cd (tb_me 63)) 20 = .ok (.putfield 20, 3) from by decide +kernel
theorem f63_20 {L : Nat} {xs : Nat → Int32} : am_fd (tb_P L xs) 63 20 = some (3, 5, (.array (.object "GluedMachines$Formula") : FieldType), true) := show tb_fdF 63 20 = some (3, 5, (.array (.object "GluedMachines$Formula") : FieldType), true) from by decide +kernel
theorem k63_23 {L : Nat} {xs : Nat → Int32} : decode (am_cd (am_me (tb_P L xs) 63)) 23 = .ok (.aload_n 0, 1) := show decode (am_cd (tb_me 63)) 23 = .ok (.aload_n 0, 1) from by decide +kernel
theorem k63_24 {L : Nat} {xs : Nat → Int32} : decode (am_cd (am_me (tb_P L xs) 63)) 24 = .ok (.iload_n 1, 1) := show decode (am_cd (tb_me 63)) 24 = .ok (.iload_n 1, 1) from by decide +kernel
theorem k63_25 {L : Nat} {xs : Nat → Int32} : decode (am_cd (am_me (tb_P L xs) 63)) 25 = .ok (.putfield 24, 3) := show decode (am_cd (tb_me 63)) 25 = .ok (.putfield 24, 3) from by decide +kernel
theorem f63_25 {L : Nat} {xs : Nat → Int32} : am_fd (tb_P L xs) 63 24 = some (3, 0, (.int : FieldType), true) := show tb_fdF 63 24 = some (3, 0, (.int : FieldType), true) from by decide +kernel
theorem k63_28 {L : Nat} {xs : Nat → Int32} : decode (am_cd (am_me (tb_P L xs) 63)) 28 = .ok (.aload_n 0, 1) := show decode (am_cd (tb_me 63)) 28 = .ok (.aload_n 0, 1) from by decide +kernel
theorem k63_29 {L : Nat} {xs : Nat → Int32} : decode (am_cd (am_me (tb_P L xs) 63)) 29 = .ok (.iload_n 2, 1) := show decode (am_cd (tb_me 63)) 29 = .ok (.iload_n 2, 1) from by decide +kernel
theorem k63_30 {L : Nat} {xs : Nat → Int32} : decode (am_cd (am_me (tb_P L xs) 63)) 30 = .ok (.putfield 28, 3) := show decode (am_cd (tb_me 63)) 30 = .ok (.putfield 28, 3) from by decide +kernel
theorem f63_30 {L : Nat} {xs : Nat → Int32} : am_fd (tb_P L xs) 63 28 = some (3, 1, (.int : FieldType), true) := show tb_fdF 63 28 = some (3, 1, (.int : FieldType), true) from by decide +kernel
theorem k63_33 {L : Nat} {xs : Nat → Int32} : decode (am_cd (am_me (tb_P L xs) 63)) 33 = .ok (.aload_n 0, 1) := show decode (am_cd (tb_me 63)) 33 = .ok (.aload_n 0, 1) from by decide +kernel
theorem k63_34 {L : Nat} {xs : Nat → Int32} : decode (am_cd (am_me (tb_P L xs) 63)) 34 = .ok (.aload_n 3, 1) := show decode (am_cd (tb_me 63)) 34 = .ok (.aload_n 3, 1) from by decide +kernel
theorem k63_35 {L : Nat} {xs : Nat → Int32} : decode (am_cd (am_me (tb_P L xs) 63)) 35 = .ok (.putfield 31, 3) := show decode (am_cd (tb_me 63)) 35 = .ok (.putfield 31, 3) from by decide +kernel
theorem f63_35 {L : Nat} {xs : Nat → Int32} : am_fd (tb_P L xs) 63 31 = some (3, 2, (.object "GluedMachines$Event" : FieldType), true) := show tb_fdF 63 31 = some (3, 2, (.object "GluedMachines$Event" : FieldType), true) from by decide +kernel
theorem k63_38 {L : Nat} {xs : Nat → Int32} : decode (am_cd (am_me (tb_P L xs) 63)) 38 = .ok (.return_, 1) := show decode (am_cd (tb_me 63)) 38 = .ok (.return_, 1) from by decide +kernel
theorem t63 {L : Nat} {xs : Nat → Int32} : am_rt (am_me (tb_P L xs) 63) = none := show am_rt (tb_me 63) = none from by decide +kernel
theorem l63 {L : Nat} {xs : Nat → Int32} : am_ml (am_me (tb_P L xs) 63) = 4 := show am_ml (tb_me 63) = 4 from by decide +kernel
theorem o63 {L : Nat} {xs : Nat → Int32} (pc : Nat) : am_no (tb_P L xs) 63 pc = true := show (am_hd (tb_me 63)).all (fun q => !(decide (q.1 ≤ pc) && decide (pc < q.2.1))) = true from by rw [show am_hd (tb_me 63) = [] by decide +kernel]; rfl
theorem k64_0 {L : Nat} {xs : Nat → Int32} : decode (am_cd (am_me (tb_P L xs) 64)) 0 = .ok (.aload_n 0, 1) := show decode (am_cd (tb_me 64)) 0 = .ok (.aload_n 0, 1) from by decide +kernel
theorem k64_1 {L : Nat} {xs : Nat → Int32} : decode (am_cd (am_me (tb_P L xs) 64)) 1 = .ok (.getfield 20, 3) := show decode (am_cd (tb_me 64)) 1 = .ok (.getfield 20, 3) from by decide +kernel
theorem f64_1 {L : Nat} {xs : Nat → Int32} : am_fd (tb_P L xs) 64 20 = some (5, 2, (.array (.object "GluedMachines$Event") : FieldType), false) := show tb_fdF 64 20 = some (5, 2, (.array (.object "GluedMachines$Event") : FieldType), false) from by decide +kernel
theorem k64_4 {L : Nat} {xs : Nat → Int32} : decode (am_cd (am_me (tb_P L xs) 64)) 4 = .ok (.aload_n 0, 1) := show decode (am_cd (tb_me 64)) 4 = .ok (.aload_n 0, 1) from by decide +kernel
theorem k64_5 {L : Nat} {xs : Nat → Int32} : decode (am_cd (am_me (tb_P L xs) 64)) 5 = .ok (.getfield 24, 3) := show decode (am_cd (tb_me 64)) 5 = .ok (.getfield 24, 3) from by decide +kernel
theorem f64_5 {L : Nat} {xs : Nat → Int32} : am_fd (tb_P L xs) 64 24 = some (5, 3, (.int : FieldType), true) := show tb_fdF 64 24 = some (5, 3, (.int : FieldType), true) from by decide +kernel
theorem k64_8 {L : Nat} {xs : Nat → Int32} : decode (am_cd (am_me (tb_P L xs) 64)) 8 = .ok (.aload_n 1, 1) := show decode (am_cd (tb_me 64)) 8 = .ok (.aload_n 1, 1) from by decide +kernel
theorem k64_9 {L : Nat} {xs : Nat → Int32} : decode (am_cd (am_me (tb_P L xs) 64)) 9 = .ok (.aastore, 1) := show decode (am_cd (tb_me 64)) 9 = .ok (.aastore, 1) from by decide +kernel
theorem k64_10 {L : Nat} {xs : Nat → Int32} : decode (am_cd (am_me (tb_P L xs) 64)) 10 = .ok (.aload_n 0, 1) := show decode (am_cd (tb_me 64)) 10 = .ok (.aload_n 0, 1) from by decide +kernel
theorem k64_11 {L : Nat} {xs : Nat → Int32} : decode (am_cd (am_me (tb_P L xs) 64)) 11 = .ok (.dup, 1) := show decode (am_cd (tb_me 64)) 11 = .ok (.dup, 1) from by decide +kernel
theorem k64_12 {L : Nat} {xs : Nat → Int32} : decode (am_cd (am_me (tb_P L xs) 64)) 12 = .ok (.getfield 24, 3) := show decode (am_cd (tb_me 64)) 12 = .ok (.getfield 24, 3) from by decide +kernel
theorem f64_12 {L : Nat} {xs : Nat → Int32} : am_fd (tb_P L xs) 64 24 = some (5, 3, (.int : FieldType), true) := show tb_fdF 64 24 = some (5, 3, (.int : FieldType), true) from by decide +kernel
theorem k64_15 {L : Nat} {xs : Nat → Int32} : decode (am_cd (am_me (tb_P L xs) 64)) 15 = .ok (.iconst 1, 1) := show decode (am_cd (tb_me 64)) 15 = .ok (.iconst 1, 1) from by decide +kernel
theorem k64_16 {L : Nat} {xs : Nat → Int32} : decode (am_cd (am_me (tb_P L xs) 64)) 16 = .ok (.iadd, 1) := show decode (am_cd (tb_me 64)) 16 = .ok (.iadd, 1) from by decide +kernel
theorem k64_17 {L : Nat} {xs : Nat → Int32} : decode (am_cd (am_me (tb_P L xs) 64)) 17 = .ok (.putfield 24, 3) := show decode (am_cd (tb_me 64)) 17 = .ok (.putfield 24, 3) from by decide +kernel
theorem f64_17 {L : Nat} {xs : Nat → Int32} : am_fd (tb_P L xs) 64 24 = some (5, 3, (.int : FieldType), true) := show tb_fdF 64 24 = some (5, 3, (.int : FieldType), true) from by decide +kernel
theorem k64_20 {L : Nat} {xs : Nat → Int32} : decode (am_cd (am_me (tb_P L xs) 64)) 20 = .ok (.aload_n 0, 1) := show decode (am_cd (tb_me 64)) 20 = .ok (.aload_n 0, 1) from by decide +kernel
theorem k64_21 {L : Nat} {xs : Nat → Int32} : decode (am_cd (am_me (tb_P L xs) 64)) 21 = .ok (.getfield 24, 3) := show decode (am_cd (tb_me 64)) 21 = .ok (.getfield 24, 3) from by decide +kernel
theorem f64_21 {L : Nat} {xs : Nat → Int32} : am_fd (tb_P L xs) 64 24 = some (5, 3, (.int : FieldType), true) := show tb_fdF 64 24 = some (5, 3, (.int : FieldType), true) from by decide +kernel
theorem k64_24 {L : Nat} {xs : Nat → Int32} : decode (am_cd (am_me (tb_P L xs) 64)) 24 = .ok (.iconst 1, 1) := show decode (am_cd (tb_me 64)) 24 = .ok (.iconst 1, 1) from by decide +kernel
theorem k64_25 {L : Nat} {xs : Nat → Int32} : decode (am_cd (am_me (tb_P L xs) 64)) 25 = .ok (.isub, 1) := show decode (am_cd (tb_me 64)) 25 = .ok (.isub, 1) from by decide +kernel
theorem k64_26 {L : Nat} {xs : Nat → Int32} : decode (am_cd (am_me (tb_P L xs) 64)) 26 = .ok (.ireturn, 1) := show decode (am_cd (tb_me 64)) 26 = .ok (.ireturn, 1) from by decide +kernel
theorem t64 {L : Nat} {xs : Nat → Int32} : am_rt (am_me (tb_P L xs) 64) = some (.int : FieldType) := show am_rt (tb_me 64) = some (.int : FieldType) from by decide +kernel
theorem l64 {L : Nat} {xs : Nat → Int32} : am_ml (am_me (tb_P L xs) 64) = 2 := show am_ml (tb_me 64) = 2 from by decide +kernel
theorem o64 {L : Nat} {xs : Nat → Int32} (pc : Nat) : am_no (tb_P L xs) 64 pc = true := show (am_hd (tb_me 64)).all (fun q => !(decide (q.1 ≤ pc) && decide (pc < q.2.1))) = true from by rw [show am_hd (tb_me 64) = [] by decide +kernel]; rfl
theorem k65_0 {L : Nat} {xs : Nat → Int32} : decode (am_cd (am_me (tb_P L xs) 65)) 0 = .ok (.aload_n 0, 1) := show decode (am_cd (tb_me 65)) 0 = .ok (.aload_n 0, 1) from by decide +kernel
theorem k65_1 {L : Nat} {xs : Nat → Int32} : decode (am_cd (am_me (tb_P L xs) 65)) 1 = .ok (.iload_n 1, 1) := show decode (am_cd (tb_me 65)) 1 = .ok (.iload_n 1, 1) from by decide +kernel
theorem k65_2 {L : Nat} {xs : Nat → Int32} : decode (am_cd (am_me (tb_P L xs) 65)) 2 = .ok (.iload_n 2, 1) := show decode (am_cd (tb_me 65)) 2 = .ok (.iload_n 2, 1) from by decide +kernel
theorem k65_3 {L : Nat} {xs : Nat → Int32} : decode (am_cd (am_me (tb_P L xs) 65)) 3 = .ok (.invokevirtual 29, 3) := show decode (am_cd (tb_me 65)) 3 = .ok (.invokevirtual 29, 3) from by decide +kernel
theorem s65_3 {L : Nat} {xs : Nat → Int32} : am_sp (tb_P L xs) 65 29 = none := show tb_spF 65 29 = none from by decide +kernel
theorem c65_3 {L : Nat} {xs : Nat → Int32} : am_ca (tb_P L xs) 65 29 = some (66, 2, 1) := show tb_caF 65 29 = some (66, 2, 1) from by decide +kernel
theorem r65_3 {L : Nat} {xs : Nat → Int32} : am_rf (am_me (tb_P L xs) 66) + 1 ≤ am_rf (am_me (tb_P L xs) 65) ∧ 0 + (am_ml (am_me (tb_P L xs) 66) + 11) + am_rl (am_me (tb_P L xs) 66) ≤ am_rl (am_me (tb_P L xs) 65) := show am_rf (tb_me 66) + 1 ≤ am_rf (tb_me 65) ∧ 0 + (am_ml (tb_me 66) + 11) + am_rl (tb_me 66) ≤ am_rl (tb_me 65) from by decide +kernel
theorem k65_6 {L : Nat} {xs : Nat → Int32} : decode (am_cd (am_me (tb_P L xs) 65)) 6 = .ok (.goto 6, 3) := show decode (am_cd (tb_me 65)) 6 = .ok (.goto 6, 3) from by decide +kernel
theorem k65_9 {L : Nat} {xs : Nat → Int32} : decode (am_cd (am_me (tb_P L xs) 65)) 9 = .ok (.astore_n 3, 1) := show decode (am_cd (tb_me 65)) 9 = .ok (.astore_n 3, 1) from by decide +kernel
theorem k65_10 {L : Nat} {xs : Nat → Int32} : decode (am_cd (am_me (tb_P L xs) 65)) 10 = .ok (.iconst 1, 1) := show decode (am_cd (tb_me 65)) 10 = .ok (.iconst 1, 1) from by decide +kernel
theorem k65_11 {L : Nat} {xs : Nat → Int32} : decode (am_cd (am_me (tb_P L xs) 65)) 11 = .ok (.ireturn, 1) := show decode (am_cd (tb_me 65)) 11 = .ok (.ireturn, 1) from by decide +kernel
theorem k65_12 {L : Nat} {xs : Nat → Int32} : decode (am_cd (am_me (tb_P L xs) 65)) 12 = .ok (.iconst 0, 1) := show decode (am_cd (tb_me 65)) 12 = .ok (.iconst 0, 1) from by decide +kernel
theorem k65_13 {L : Nat} {xs : Nat → Int32} : decode (am_cd (am_me (tb_P L xs) 65)) 13 = .ok (.ireturn, 1) := show decode (am_cd (tb_me 65)) 13 = .ok (.ireturn, 1) from by decide +kernel
theorem t65 {L : Nat} {xs : Nat → Int32} : am_rt (am_me (tb_P L xs) 65) = some (.int : FieldType) := show am_rt (tb_me 65) = some (.int : FieldType) from by decide +kernel
theorem l65 {L : Nat} {xs : Nat → Int32} : am_ml (am_me (tb_P L xs) 65) = 4 := show am_ml (tb_me 65) = 4 from by decide +kernel
theorem k66_0 {L : Nat} {xs : Nat → Int32} : decode (am_cd (am_me (tb_P L xs) 66)) 0 = .ok (.aload_n 0, 1) := show decode (am_cd (tb_me 66)) 0 = .ok (.aload_n 0, 1) from by decide +kernel
theorem k66_1 {L : Nat} {xs : Nat → Int32} : decode (am_cd (am_me (tb_P L xs) 66)) 1 = .ok (.iload_n 1, 1) := show decode (am_cd (tb_me 66)) 1 = .ok (.iload_n 1, 1) from by decide +kernel
theorem k66_2 {L : Nat} {xs : Nat → Int32} : decode (am_cd (am_me (tb_P L xs) 66)) 2 = .ok (.invokevirtual 123, 3) := show decode (am_cd (tb_me 66)) 2 = .ok (.invokevirtual 123, 3) from by decide +kernel
theorem s66_2 {L : Nat} {xs : Nat → Int32} : am_sp (tb_P L xs) 66 123 = none := show tb_spF 66 123 = none from by decide +kernel
theorem c66_2 {L : Nat} {xs : Nat → Int32} : am_ca (tb_P L xs) 66 123 = some (67, 1, 1) := show tb_caF 66 123 = some (67, 1, 1) from by decide +kernel
theorem r66_2 {L : Nat} {xs : Nat → Int32} : am_rf (am_me (tb_P L xs) 67) + 1 ≤ am_rf (am_me (tb_P L xs) 66) ∧ 0 + (am_ml (am_me (tb_P L xs) 67) + 11) + am_rl (am_me (tb_P L xs) 67) ≤ am_rl (am_me (tb_P L xs) 66) := show am_rf (tb_me 67) + 1 ≤ am_rf (tb_me 66) ∧ 0 + (am_ml (tb_me 67) + 11) + am_rl (tb_me 67) ≤ am_rl (tb_me 66) from by decide +kernel
theorem k66_5 {L : Nat} {xs : Nat → Int32} : decode (am_cd (am_me (tb_P L xs) 66)) 5 = .ok (.astore_n 3, 1) := show decode (am_cd (tb_me 66)) 5 = .ok (.astore_n 3, 1) from by decide +kernel
theorem k66_6 {L : Nat} {xs : Nat → Int32} : decode (am_cd (am_me (tb_P L xs) 66)) 6 = .ok (.aload_n 0, 1) := show decode (am_cd (tb_me 66)) 6 = .ok (.aload_n 0, 1) from by decide +kernel
theorem k66_7 {L : Nat} {xs : Nat → Int32} : decode (am_cd (am_me (tb_P L xs) 66)) 7 = .ok (.iload_n 2, 1) := show decode (am_cd (tb_me 66)) 7 = .ok (.iload_n 2, 1) from by decide +kernel
theorem k66_8 {L : Nat} {xs : Nat → Int32} : decode (am_cd (am_me (tb_P L xs) 66)) 8 = .ok (.invokevirtual 126, 3) := show decode (am_cd (tb_me 66)) 8 = .ok (.invokevirtual 126, 3) from by decide +kernel
theorem s66_8 {L : Nat} {xs : Nat → Int32} : am_sp (tb_P L xs) 66 126 = none := show tb_spF 66 126 = none from by decide +kernel
theorem c66_8 {L : Nat} {xs : Nat → Int32} : am_ca (tb_P L xs) 66 126 = some (68, 1, 1) := show tb_caF 66 126 = some (68, 1, 1) from by decide +kernel
theorem r66_8 {L : Nat} {xs : Nat → Int32} : am_rf (am_me (tb_P L xs) 68) + 1 ≤ am_rf (am_me (tb_P L xs) 66) ∧ 0 + (am_ml (am_me (tb_P L xs) 68) + 11) + am_rl (am_me (tb_P L xs) 68) ≤ am_rl (am_me (tb_P L xs) 66) := show am_rf (tb_me 68) + 1 ≤ am_rf (tb_me 66) ∧ 0 + (am_ml (tb_me 68) + 11) + am_rl (tb_me 68) ≤ am_rl (tb_me 66) from by decide +kernel
theorem k66_11 {L : Nat} {xs : Nat → Int32} : decode (am_cd (am_me (tb_P L xs) 66)) 11 = .ok (.astore 4, 2) := show decode (am_cd (tb_me 66)) 11 = .ok (.astore 4, 2) from by decide +kernel
theorem k66_13 {L : Nat} {xs : Nat → Int32} : decode (am_cd (am_me (tb_P L xs) 66)) 13 = .ok (.aload_n 3, 1) := show decode (am_cd (tb_me 66)) 13 = .ok (.aload_n 3, 1) from by decide +kernel
theorem k66_14 {L : Nat} {xs : Nat → Int32} : decode (am_cd (am_me (tb_P L xs) 66)) 14 = .ok (.aload 4, 2) := show decode (am_cd (tb_me 66)) 14 = .ok (.aload 4, 2) from by decide +kernel
theorem k66_16 {L : Nat} {xs : Nat → Int32} : decode (am_cd (am_me (tb_P L xs) 66)) 16 = .ok (.invokevirtual 130, 3) := show decode (am_cd (tb_me 66)) 16 = .ok (.invokevirtual 130, 3) from by decide +kernel
theorem s66_16 {L : Nat} {xs : Nat → Int32} : am_sp (tb_P L xs) 66 130 = none := show tb_spF 66 130 = none from by decide +kernel
theorem c66_16 {L : Nat} {xs : Nat → Int32} : am_ca (tb_P L xs) 66 130 = some (70, 1, 1) := show tb_caF 66 130 = some (70, 1, 1) from by decide +kernel
theorem r66_16 {L : Nat} {xs : Nat → Int32} : am_rf (am_me (tb_P L xs) 70) + 1 ≤ am_rf (am_me (tb_P L xs) 66) ∧ 0 + (am_ml (am_me (tb_P L xs) 70) + 11) + am_rl (am_me (tb_P L xs) 70) ≤ am_rl (am_me (tb_P L xs) 66) := show am_rf (tb_me 70) + 1 ≤ am_rf (tb_me 66) ∧ 0 + (am_ml (tb_me 70) + 11) + am_rl (tb_me 70) ≤ am_rl (tb_me 66) from by decide +kernel
theorem k66_19 {L : Nat} {xs : Nat → Int32} : decode (am_cd (am_me (tb_P L xs) 66)) 19 = .ok (.invokestatic 134, 3) := show decode (am_cd (tb_me 66)) 19 = .ok (.invokestatic 134, 3) from by decide +kernel
theorem s66_19 {L : Nat} {xs : Nat → Int32} : am_sp (tb_P L xs) 66 134 = none := show tb_spF 66 134 = none from by decide +kernel
theorem c66_19 {L : Nat} {xs : Nat → Int32} : am_ca (tb_P L xs) 66 134 = some (69, 1, 0) := show tb_caF 66 134 = some (69, 1, 0) from by decide +kernel
theorem r66_19 {L : Nat} {xs : Nat → Int32} : am_rf (am_me (tb_P L xs) 69) + 1 ≤ am_rf (am_me (tb_P L xs) 66) ∧ 0 + (am_ml (am_me (tb_P L xs) 69) + 11) + am_rl (am_me (tb_P L xs) 69) ≤ am_rl (am_me (tb_P L xs) 66) := show am_rf (tb_me 69) + 1 ≤ am_rf (tb_me 66) ∧ 0 + (am_ml (tb_me 69) + 11) + am_rl (tb_me 69) ≤ am_rl (tb_me 66) from by decide +kernel
theorem k66_22 {L : Nat} {xs : Nat → Int32} : decode (am_cd (am_me (tb_P L xs) 66)) 22 = .ok (.aload_n 3, 1) := show decode (am_cd (tb_me 66)) 22 = .ok (.aload_n 3, 1) from by decide +kernel
theorem k66_23 {L : Nat} {xs : Nat → Int32} : decode (am_cd (am_me (tb_P L xs) 66)) 23 = .ok (.aload 4, 2) := show decode (am_cd (tb_me 66)) 23 = .ok (.aload 4, 2) from by decide +kernel
theorem k66_25 {L : Nat} {xs : Nat → Int32} : decode (am_cd (am_me (tb_P L xs) 66)) 25 = .ok (.putfield 138, 3) := show decode (am_cd (tb_me 66)) 25 = .ok (.putfield 138, 3) from by decide +kernel
theorem f66_25 {L : Nat} {xs : Nat → Int32} : am_fd (tb_P L xs) 66 138 = some (3, 3, (.object "GluedMachines$Formula" : FieldType), true) := show tb_fdF 66 138 = some (3, 3, (.object "GluedMachines$Formula" : FieldType), true) from by decide +kernel
theorem k66_28 {L : Nat} {xs : Nat → Int32} : decode (am_cd (am_me (tb_P L xs) 66)) 28 = .ok (.return_, 1) := show decode (am_cd (tb_me 66)) 28 = .ok (.return_, 1) from by decide +kernel
theorem t66 {L : Nat} {xs : Nat → Int32} : am_rt (am_me (tb_P L xs) 66) = none := show am_rt (tb_me 66) = none from by decide +kernel
theorem l66 {L : Nat} {xs : Nat → Int32} : am_ml (am_me (tb_P L xs) 66) = 5 := show am_ml (tb_me 66) = 5 from by decide +kernel
theorem o66 {L : Nat} {xs : Nat → Int32} (pc : Nat) : am_no (tb_P L xs) 66 pc = true := show (am_hd (tb_me 66)).all (fun q => !(decide (q.1 ≤ pc) && decide (pc < q.2.1))) = true from by rw [show am_hd (tb_me 66) = [] by decide +kernel]; rfl
theorem k67_0 {L : Nat} {xs : Nat → Int32} : decode (am_cd (am_me (tb_P L xs) 67)) 0 = .ok (.aload_n 0, 1) := show decode (am_cd (tb_me 67)) 0 = .ok (.aload_n 0, 1) from by decide +kernel
theorem k67_1 {L : Nat} {xs : Nat → Int32} : decode (am_cd (am_me (tb_P L xs) 67)) 1 = .ok (.getfield 37, 3) := show decode (am_cd (tb_me 67)) 1 = .ok (.getfield 37, 3) from by decide +kernel
theorem f67_1 {L : Nat} {xs : Nat → Int32} : am_fd (tb_P L xs) 67 37 = some (0, 3, (.object "GluedMachines$Model" : FieldType), false) := show tb_fdF 67 37 = some (0, 3, (.object "GluedMachines$Model" : FieldType), false) from by decide +kernel
theorem k67_4 {L : Nat} {xs : Nat → Int32} : decode (am_cd (am_me (tb_P L xs) 67)) 4 = .ok (.iload_n 1, 1) := show decode (am_cd (tb_me 67)) 4 = .ok (.iload_n 1, 1) from by decide +kernel
theorem k67_5 {L : Nat} {xs : Nat → Int32} : decode (am_cd (am_me (tb_P L xs) 67)) 5 = .ok (.invokevirtual 113, 3) := show decode (am_cd (tb_me 67)) 5 = .ok (.invokevirtual 113, 3) from by decide +kernel
theorem s67_5 {L : Nat} {xs : Nat → Int32} : am_sp (tb_P L xs) 67 113 = none := show tb_spF 67 113 = none from by decide +kernel
theorem c67_5 {L : Nat} {xs : Nat → Int32} : am_ca (tb_P L xs) 67 113 = some (62, 1, 1) := show tb_caF 67 113 = some (62, 1, 1) from by decide +kernel
theorem r67_5 {L : Nat} {xs : Nat → Int32} : am_rf (am_me (tb_P L xs) 62) + 1 ≤ am_rf (am_me (tb_P L xs) 67) ∧ 0 + (am_ml (am_me (tb_P L xs) 62) + 11) + am_rl (am_me (tb_P L xs) 62) ≤ am_rl (am_me (tb_P L xs) 67) := show am_rf (tb_me 62) + 1 ≤ am_rf (tb_me 67) ∧ 0 + (am_ml (tb_me 62) + 11) + am_rl (tb_me 62) ≤ am_rl (tb_me 67) from by decide +kernel
theorem k67_8 {L : Nat} {xs : Nat → Int32} : decode (am_cd (am_me (tb_P L xs) 67)) 8 = .ok (.astore_n 2, 1) := show decode (am_cd (tb_me 67)) 8 = .ok (.astore_n 2, 1) from by decide +kernel
theorem k67_9 {L : Nat} {xs : Nat → Int32} : decode (am_cd (am_me (tb_P L xs) 67)) 9 = .ok (.aload_n 2, 1) := show decode (am_cd (tb_me 67)) 9 = .ok (.aload_n 2, 1) from by decide +kernel
theorem k67_10 {L : Nat} {xs : Nat → Int32} : decode (am_cd (am_me (tb_P L xs) 67)) 10 = .ok (.ifnonnull 11, 3) := show decode (am_cd (tb_me 67)) 10 = .ok (.ifnonnull 11, 3) from by decide +kernel
theorem k67_13 {L : Nat} {xs : Nat → Int32} : decode (am_cd (am_me (tb_P L xs) 67)) 13 = .ok (.new 65, 3) := show decode (am_cd (tb_me 67)) 13 = .ok (.new 65, 3) from by decide +kernel
theorem n67_13 {L : Nat} {xs : Nat → Int32} : am_nw (tb_P L xs) 67 65 = none := show tb_nwF 67 65 = none from by decide +kernel
theorem x67_13 {L : Nat} {xs : Nat → Int32} : am_xn (tb_P L xs) 67 65 67 = some 9 := show tb_xnF 67 65 67 = some 9 from by decide +kernel
theorem r67_13 {L : Nat} {xs : Nat → Int32} : 5 < am_rf (am_me (tb_P L xs) 67) ∧ 0 + 82 ≤ am_rl (am_me (tb_P L xs) 67) := show 5 < am_rf (tb_me 67) ∧ 0 + 82 ≤ am_rl (tb_me 67) from by decide +kernel
theorem k67_16 {L : Nat} {xs : Nat → Int32} : decode (am_cd (am_me (tb_P L xs) 67)) 16 = .ok (.dup, 1) := show decode (am_cd (tb_me 67)) 16 = .ok (.dup, 1) from by decide +kernel
theorem k67_17 {L : Nat} {xs : Nat → Int32} : decode (am_cd (am_me (tb_P L xs) 67)) 17 = .ok (.invokespecial 67, 3) := show decode (am_cd (tb_me 67)) 17 = .ok (.invokespecial 67, 3) from by decide +kernel
theorem k67_20 {L : Nat} {xs : Nat → Int32} : decode (am_cd (am_me (tb_P L xs) 67)) 20 = .ok (.athrow, 1) := show decode (am_cd (tb_me 67)) 20 = .ok (.athrow, 1) from by decide +kernel
theorem k67_21 {L : Nat} {xs : Nat → Int32} : decode (am_cd (am_me (tb_P L xs) 67)) 21 = .ok (.aload_n 2, 1) := show decode (am_cd (tb_me 67)) 21 = .ok (.aload_n 2, 1) from by decide +kernel
theorem k67_22 {L : Nat} {xs : Nat → Int32} : decode (am_cd (am_me (tb_P L xs) 67)) 22 = .ok (.areturn, 1) := show decode (am_cd (tb_me 67)) 22 = .ok (.areturn, 1) from by decide +kernel
theorem t67 {L : Nat} {xs : Nat → Int32} : am_rt (am_me (tb_P L xs) 67) = some (.object "GluedMachines$Event" : FieldType) := show am_rt (tb_me 67) = some (.object "GluedMachines$Event" : FieldType) from by decide +kernel
theorem l67 {L : Nat} {xs : Nat → Int32} : am_ml (am_me (tb_P L xs) 67) = 3 := show am_ml (tb_me 67) = 3 from by decide +kernel
theorem o67 {L : Nat} {xs : Nat → Int32} (pc : Nat) : am_no (tb_P L xs) 67 pc = true := show (am_hd (tb_me 67)).all (fun q => !(decide (q.1 ≤ pc) && decide (pc < q.2.1))) = true from by rw [show am_hd (tb_me 67) = [] by decide +kernel]; rfl
theorem k68_0 {L : Nat} {xs : Nat → Int32} : decode (am_cd (am_me (tb_P L xs) 68)) 0 = .ok (.iload_n 1, 1) := show decode (am_cd (tb_me 68)) 0 = .ok (.iload_n 1, 1) from by decide +kernel
theorem k68_1 {L : Nat} {xs : Nat → Int32} : decode (am_cd (am_me (tb_P L xs) 68)) 1 = .ok (.aload_n 0, 1) := show decode (am_cd (tb_me 68)) 1 = .ok (.aload_n 0, 1) from by decide +kernel
theorem k68_2 {L : Nat} {xs : Nat → Int32} : decode (am_cd (am_me (tb_P L xs) 68)) 2 = .ok (.getfield 22, 3) := show decode (am_cd (tb_me 68)) 2 = .ok (.getfield 22, 3) from by decide +kernel
theorem f68_2 {L : Nat} {xs : Nat → Int32} : am_fd (tb_P L xs) 68 22 = some (0, 2, (.int : FieldType), true) := show tb_fdF 68 22 = some (0, 2, (.int : FieldType), true) from by decide +kernel
theorem k68_5 {L : Nat} {xs : Nat → Int32} : decode (am_cd (am_me (tb_P L xs) 68)) 5 = .ok (.invokestatic 61, 3) := show decode (am_cd (tb_me 68)) 5 = .ok (.invokestatic 61, 3) from by decide +kernel
theorem s68_5 {L : Nat} {xs : Nat → Int32} : am_sp (tb_P L xs) 68 61 = none := show tb_spF 68 61 = none from by decide +kernel
theorem c68_5 {L : Nat} {xs : Nat → Int32} : am_ca (tb_P L xs) 68 61 = some (26, 2, 0) := show tb_caF 68 61 = some (26, 2, 0) from by decide +kernel
theorem r68_5 {L : Nat} {xs : Nat → Int32} : am_rf (am_me (tb_P L xs) 26) + 1 ≤ am_rf (am_me (tb_P L xs) 68) ∧ 0 + (am_ml (am_me (tb_P L xs) 26) + 11) + am_rl (am_me (tb_P L xs) 26) ≤ am_rl (am_me (tb_P L xs) 68) := show am_rf (tb_me 26) + 1 ≤ am_rf (tb_me 68) ∧ 0 + (am_ml (tb_me 26) + 11) + am_rl (tb_me 26) ≤ am_rl (tb_me 68) from by decide +kernel
theorem k68_8 {L : Nat} {xs : Nat → Int32} : decode (am_cd (am_me (tb_P L xs) 68)) 8 = .ok (.ifCond .eq 19, 3) := show decode (am_cd (tb_me 68)) 8 = .ok (.ifCond .eq 19, 3) from by decide +kernel
theorem k68_11 {L : Nat} {xs : Nat → Int32} : decode (am_cd (am_me (tb_P L xs) 68)) 11 = .ok (.aload_n 0, 1) := show decode (am_cd (tb_me 68)) 11 = .ok (.aload_n 0, 1) from by decide +kernel
theorem k68_12 {L : Nat} {xs : Nat → Int32} : decode (am_cd (am_me (tb_P L xs) 68)) 12 = .ok (.getfield 18, 3) := show decode (am_cd (tb_me 68)) 12 = .ok (.getfield 18, 3) from by decide +kernel
theorem f68_12 {L : Nat} {xs : Nat → Int32} : am_fd (tb_P L xs) 68 18 = some (0, 1, (.array (.object "GluedMachines$Formula") : FieldType), false) := show tb_fdF 68 18 = some (0, 1, (.array (.object "GluedMachines$Formula") : FieldType), false) from by decide +kernel
theorem k68_15 {L : Nat} {xs : Nat → Int32} : decode (am_cd (am_me (tb_P L xs) 68)) 15 = .ok (.iload_n 1, 1) := show decode (am_cd (tb_me 68)) 15 = .ok (.iload_n 1, 1) from by decide +kernel
theorem k68_16 {L : Nat} {xs : Nat → Int32} : decode (am_cd (am_me (tb_P L xs) 68)) 16 = .ok (.aaload, 1) := show decode (am_cd (tb_me 68)) 16 = .ok (.aaload, 1) from by decide +kernel
theorem k68_17 {L : Nat} {xs : Nat → Int32} : decode (am_cd (am_me (tb_P L xs) 68)) 17 = .ok (.getfield 253, 3) := show decode (am_cd (tb_me 68)) 17 = .ok (.getfield 253, 3) from by decide +kernel
theorem f68_17 {L : Nat} {xs : Nat → Int32} : am_fd (tb_P L xs) 68 253 = some (2, 4, (.boolean : FieldType), false) := show tb_fdF 68 253 = some (2, 4, (.boolean : FieldType), false) from by decide +kernel
theorem k68_20 {L : Nat} {xs : Nat → Int32} : decode (am_cd (am_me (tb_P L xs) 68)) 20 = .ok (.ifCond .eq 7, 3) := show decode (am_cd (tb_me 68)) 20 = .ok (.ifCond .eq 7, 3) from by decide +kernel
theorem k68_23 {L : Nat} {xs : Nat → Int32} : decode (am_cd (am_me (tb_P L xs) 68)) 23 = .ok (.iconst 1, 1) := show decode (am_cd (tb_me 68)) 23 = .ok (.iconst 1, 1) from by decide +kernel
theorem k68_24 {L : Nat} {xs : Nat → Int32} : decode (am_cd (am_me (tb_P L xs) 68)) 24 = .ok (.goto 4, 3) := show decode (am_cd (tb_me 68)) 24 = .ok (.goto 4, 3) from by decide +kernel
theorem k68_27 {L : Nat} {xs : Nat → Int32} : decode (am_cd (am_me (tb_P L xs) 68)) 27 = .ok (.iconst 0, 1) := show decode (am_cd (tb_me 68)) 27 = .ok (.iconst 0, 1) from by decide +kernel
theorem k68_28 {L : Nat} {xs : Nat → Int32} : decode (am_cd (am_me (tb_P L xs) 68)) 28 = .ok (.invokestatic 134, 3) := show decode (am_cd (tb_me 68)) 28 = .ok (.invokestatic 134, 3) from by decide +kernel
theorem s68_28 {L : Nat} {xs : Nat → Int32} : am_sp (tb_P L xs) 68 134 = none := show tb_spF 68 134 = none from by decide +kernel
theorem c68_28 {L : Nat} {xs : Nat → Int32} : am_ca (tb_P L xs) 68 134 = some (69, 1, 0) := show tb_caF 68 134 = some (69, 1, 0) from by decide +kernel
theorem r68_28 {L : Nat} {xs : Nat → Int32} : am_rf (am_me (tb_P L xs) 69) + 1 ≤ am_rf (am_me (tb_P L xs) 68) ∧ 0 + (am_ml (am_me (tb_P L xs) 69) + 11) + am_rl (am_me (tb_P L xs) 69) ≤ am_rl (am_me (tb_P L xs) 68) := show am_rf (tb_me 69) + 1 ≤ am_rf (tb_me 68) ∧ 0 + (am_ml (tb_me 69) + 11) + am_rl (tb_me 69) ≤ am_rl (tb_me 68) from by decide +kernel
theorem k68_31 {L : Nat} {xs : Nat → Int32} : decode (am_cd (am_me (tb_P L xs) 68)) 31 = .ok (.aload_n 0, 1) := show decode (am_cd (tb_me 68)) 31 = .ok (.aload_n 0, 1) from by decide +kernel
theorem k68_32 {L : Nat} {xs : Nat → Int32} : decode (am_cd (am_me (tb_P L xs) 68)) 32 = .ok (.getfield 18, 3) := show decode (am_cd (tb_me 68)) 32 = .ok (.getfield 18, 3) from by decide +kernel
theorem f68_32 {L : Nat} {xs : Nat → Int32} : am_fd (tb_P L xs) 68 18 = some (0, 1, (.array (.object "GluedMachines$Formula") : FieldType), false) := show tb_fdF 68 18 = some (0, 1, (.array (.object "GluedMachines$Formula") : FieldType), false) from by decide +kernel
theorem k68_35 {L : Nat} {xs : Nat → Int32} : decode (am_cd (am_me (tb_P L xs) 68)) 35 = .ok (.iload_n 1, 1) := show decode (am_cd (tb_me 68)) 35 = .ok (.iload_n 1, 1) from by decide +kernel
theorem k68_36 {L : Nat} {xs : Nat → Int32} : decode (am_cd (am_me (tb_P L xs) 68)) 36 = .ok (.aaload, 1) := show decode (am_cd (tb_me 68)) 36 = .ok (.aaload, 1) from by decide +kernel
theorem k68_37 {L : Nat} {xs : Nat → Int32} : decode (am_cd (am_me (tb_P L xs) 68)) 37 = .ok (.areturn, 1) := show decode (am_cd (tb_me 68)) 37 = .ok (.areturn, 1) from by decide +kernel
theorem t68 {L : Nat} {xs : Nat → Int32} : am_rt (am_me (tb_P L xs) 68) = some (.object "GluedMachines$Formula" : FieldType) := show am_rt (tb_me 68) = some (.object "GluedMachines$Formula" : FieldType) from by decide +kernel
theorem l68 {L : Nat} {xs : Nat → Int32} : am_ml (am_me (tb_P L xs) 68) = 2 := show am_ml (tb_me 68) = 2 from by decide +kernel
theorem o68 {L : Nat} {xs : Nat → Int32} (pc : Nat) : am_no (tb_P L xs) 68 pc = true := show (am_hd (tb_me 68)).all (fun q => !(decide (q.1 ≤ pc) && decide (pc < q.2.1))) = true from by rw [show am_hd (tb_me 68) = [] by decide +kernel]; rfl
theorem k69_0 {L : Nat} {xs : Nat → Int32} : decode (am_cd (am_me (tb_P L xs) 69)) 0 = .ok (.iload_n 0, 1) := show decode (am_cd (tb_me 69)) 0 = .ok (.iload_n 0, 1) from by decide +kernel
theorem k69_1 {L : Nat} {xs : Nat → Int32} : decode (am_cd (am_me (tb_P L xs) 69)) 1 = .ok (.ifCond .ne 11, 3) := show decode (am_cd (tb_me 69)) 1 = .ok (.ifCond .ne 11, 3) from by decide +kernel
theorem k69_4 {L : Nat} {xs : Nat → Int32} : decode (am_cd (am_me (tb_P L xs) 69)) 4 = .ok (.new 65, 3) := show decode (am_cd (tb_me 69)) 4 = .ok (.new 65, 3) from by decide +kernel
theorem n69_4 {L : Nat} {xs : Nat → Int32} : am_nw (tb_P L xs) 69 65 = none := show tb_nwF 69 65 = none from by decide +kernel
theorem x69_4 {L : Nat} {xs : Nat → Int32} : am_xn (tb_P L xs) 69 65 67 = some 9 := show tb_xnF 69 65 67 = some 9 from by decide +kernel
theorem r69_4 {L : Nat} {xs : Nat → Int32} : 5 < am_rf (am_me (tb_P L xs) 69) ∧ 0 + 82 ≤ am_rl (am_me (tb_P L xs) 69) := show 5 < am_rf (tb_me 69) ∧ 0 + 82 ≤ am_rl (tb_me 69) from by decide +kernel
theorem k69_7 {L : Nat} {xs : Nat → Int32} : decode (am_cd (am_me (tb_P L xs) 69)) 7 = .ok (.dup, 1) := show decode (am_cd (tb_me 69)) 7 = .ok (.dup, 1) from by decide +kernel
theorem k69_8 {L : Nat} {xs : Nat → Int32} : decode (am_cd (am_me (tb_P L xs) 69)) 8 = .ok (.invokespecial 67, 3) := show decode (am_cd (tb_me 69)) 8 = .ok (.invokespecial 67, 3) from by decide +kernel
theorem k69_11 {L : Nat} {xs : Nat → Int32} : decode (am_cd (am_me (tb_P L xs) 69)) 11 = .ok (.athrow, 1) := show decode (am_cd (tb_me 69)) 11 = .ok (.athrow, 1) from by decide +kernel
theorem k69_12 {L : Nat} {xs : Nat → Int32} : decode (am_cd (am_me (tb_P L xs) 69)) 12 = .ok (.return_, 1) := show decode (am_cd (tb_me 69)) 12 = .ok (.return_, 1) from by decide +kernel
theorem t69 {L : Nat} {xs : Nat → Int32} : am_rt (am_me (tb_P L xs) 69) = none := show am_rt (tb_me 69) = none from by decide +kernel
theorem l69 {L : Nat} {xs : Nat → Int32} : am_ml (am_me (tb_P L xs) 69) = 1 := show am_ml (tb_me 69) = 1 from by decide +kernel
theorem o69 {L : Nat} {xs : Nat → Int32} (pc : Nat) : am_no (tb_P L xs) 69 pc = true := show (am_hd (tb_me 69)).all (fun q => !(decide (q.1 ≤ pc) && decide (pc < q.2.1))) = true from by rw [show am_hd (tb_me 69) = [] by decide +kernel]; rfl
