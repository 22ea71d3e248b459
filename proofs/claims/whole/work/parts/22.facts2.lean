/-! Facts of the instructions, printed by a program of our own. -/
theorem k70_0 {L : Nat} {xs : Nat → Int32} : decode (am_cd (am_me (tb_P L xs) 70)) 0 = .ok (.aload_n 0, 1) := show decode (am_cd (tb_me 70)) 0 = .ok (.aload_n 0, 1) from by decide +kernel
theorem k70_1 {L : Nat} {xs : Nat → Int32} : decode (am_cd (am_me (tb_P L xs) 70)) 1 = .ok (.getfield 24, 3) := show decode (am_cd (tb_me 70)) 1 = .ok (.getfield 24, 3) from by decide +kernel
theorem f70_1 {L : Nat} {xs : Nat → Int32} : am_fd (tb_P L xs) 70 24 = some (3, 0, (.int : FieldType), false) := show tb_fdF 70 24 = some (3, 0, (.int : FieldType), false) from by decide +kernel
theorem k70_4 {L : Nat} {xs : Nat → Int32} : decode (am_cd (am_me (tb_P L xs) 70)) 4 = .ok (.iconst 1, 1) := show decode (am_cd (tb_me 70)) 4 = .ok (.iconst 1, 1) from by decide +kernel
theorem k70_5 {L : Nat} {xs : Nat → Int32} : decode (am_cd (am_me (tb_P L xs) 70)) 5 = .ok (.if_icmp .eq 10, 3) := show decode (am_cd (tb_me 70)) 5 = .ok (.if_icmp .eq 10, 3) from by decide +kernel
theorem k70_8 {L : Nat} {xs : Nat → Int32} : decode (am_cd (am_me (tb_P L xs) 70)) 8 = .ok (.aload_n 1, 1) := show decode (am_cd (tb_me 70)) 8 = .ok (.aload_n 1, 1) from by decide +kernel
theorem k70_9 {L : Nat} {xs : Nat → Int32} : decode (am_cd (am_me (tb_P L xs) 70)) 9 = .ok (.invokevirtual 35, 3) := show decode (am_cd (tb_me 70)) 9 = .ok (.invokevirtual 35, 3) from by decide +kernel
theorem s70_9 {L : Nat} {xs : Nat → Int32} : am_sp (tb_P L xs) 70 35 = none := show tb_spF 70 35 = none from by decide +kernel
theorem c70_9 {L : Nat} {xs : Nat → Int32} : am_ca (tb_P L xs) 70 35 = some (71, 0, 1) := show tb_caF 70 35 = some (71, 0, 1) from by decide +kernel
theorem r70_9 {L : Nat} {xs : Nat → Int32} : am_rf (am_me (tb_P L xs) 71) + 1 ≤ am_rf (am_me (tb_P L xs) 70) ∧ 0 + (am_ml (am_me (tb_P L xs) 71) + 11) + am_rl (am_me (tb_P L xs) 71) ≤ am_rl (am_me (tb_P L xs) 70) := show am_rf (tb_me 71) + 1 ≤ am_rf (tb_me 70) ∧ 0 + (am_ml (tb_me 71) + 11) + am_rl (tb_me 71) ≤ am_rl (tb_me 70) from by decide +kernel
theorem k70_12 {L : Nat} {xs : Nat → Int32} : decode (am_cd (am_me (tb_P L xs) 70)) 12 = .ok (.ifCond .ne 7, 3) := show decode (am_cd (tb_me 70)) 12 = .ok (.ifCond .ne 7, 3) from by decide +kernel
theorem k70_15 {L : Nat} {xs : Nat → Int32} : decode (am_cd (am_me (tb_P L xs) 70)) 15 = .ok (.iconst 1, 1) := show decode (am_cd (tb_me 70)) 15 = .ok (.iconst 1, 1) from by decide +kernel
theorem k70_16 {L : Nat} {xs : Nat → Int32} : decode (am_cd (am_me (tb_P L xs) 70)) 16 = .ok (.goto 4, 3) := show decode (am_cd (tb_me 70)) 16 = .ok (.goto 4, 3) from by decide +kernel
theorem k70_19 {L : Nat} {xs : Nat → Int32} : decode (am_cd (am_me (tb_P L xs) 70)) 19 = .ok (.iconst 0, 1) := show decode (am_cd (tb_me 70)) 19 = .ok (.iconst 0, 1) from by decide +kernel
theorem k70_20 {L : Nat} {xs : Nat → Int32} : decode (am_cd (am_me (tb_P L xs) 70)) 20 = .ok (.ireturn, 1) := show decode (am_cd (tb_me 70)) 20 = .ok (.ireturn, 1) from by decide +kernel
theorem t70 {L : Nat} {xs : Nat → Int32} : am_rt (am_me (tb_P L xs) 70) = some (.boolean : FieldType) := show am_rt (tb_me 70) = some (.boolean : FieldType) from by decide +kernel
theorem l70 {L : Nat} {xs : Nat → Int32} : am_ml (am_me (tb_P L xs) 70) = 2 := show am_ml (tb_me 70) = 2 from by decide +kernel
theorem o70 {L : Nat} {xs : Nat → Int32} (pc : Nat) : am_no (tb_P L xs) 70 pc = true := show (am_hd (tb_me 70)).all (fun q => !(decide (q.1 ≤ pc) && decide (pc < q.2.1))) = true from by rw [show am_hd (tb_me 70) = [] by decide +kernel]; rfl
theorem k71_0 {L : Nat} {xs : Nat → Int32} : decode (am_cd (am_me (tb_P L xs) 71)) 0 = .ok (.aload_n 0, 1) := show decode (am_cd (tb_me 71)) 0 = .ok (.aload_n 0, 1) from by decide +kernel
theorem k71_1 {L : Nat} {xs : Nat → Int32} : decode (am_cd (am_me (tb_P L xs) 71)) 1 = .ok (.getfield 53, 3) := show decode (am_cd (tb_me 71)) 1 = .ok (.getfield 53, 3) from by decide +kernel
theorem f71_1 {L : Nat} {xs : Nat → Int32} : am_fd (tb_P L xs) 71 53 = some (2, 5, (.int : FieldType), false) := show tb_fdF 71 53 = some (2, 5, (.int : FieldType), false) from by decide +kernel
theorem k71_4 {L : Nat} {xs : Nat → Int32} : decode (am_cd (am_me (tb_P L xs) 71)) 4 = .ok (.bipush 56, 2) := show decode (am_cd (tb_me 71)) 4 = .ok (.bipush 56, 2) from by decide +kernel
theorem k71_6 {L : Nat} {xs : Nat → Int32} : decode (am_cd (am_me (tb_P L xs) 71)) 6 = .ok (.iand, 1) := show decode (am_cd (tb_me 71)) 6 = .ok (.iand, 1) from by decide +kernel
theorem k71_7 {L : Nat} {xs : Nat → Int32} : decode (am_cd (am_me (tb_P L xs) 71)) 7 = .ok (.ifCond .eq 7, 3) := show decode (am_cd (tb_me 71)) 7 = .ok (.ifCond .eq 7, 3) from by decide +kernel
theorem k71_10 {L : Nat} {xs : Nat → Int32} : decode (am_cd (am_me (tb_P L xs) 71)) 10 = .ok (.iconst 1, 1) := show decode (am_cd (tb_me 71)) 10 = .ok (.iconst 1, 1) from by decide +kernel
theorem k71_11 {L : Nat} {xs : Nat → Int32} : decode (am_cd (am_me (tb_P L xs) 71)) 11 = .ok (.goto 4, 3) := show decode (am_cd (tb_me 71)) 11 = .ok (.goto 4, 3) from by decide +kernel
theorem k71_14 {L : Nat} {xs : Nat → Int32} : decode (am_cd (am_me (tb_P L xs) 71)) 14 = .ok (.iconst 0, 1) := show decode (am_cd (tb_me 71)) 14 = .ok (.iconst 0, 1) from by decide +kernel
theorem k71_15 {L : Nat} {xs : Nat → Int32} : decode (am_cd (am_me (tb_P L xs) 71)) 15 = .ok (.ireturn, 1) := show decode (am_cd (tb_me 71)) 15 = .ok (.ireturn, 1) from by decide +kernel
theorem t71 {L : Nat} {xs : Nat → Int32} : am_rt (am_me (tb_P L xs) 71) = some (.boolean : FieldType) := show am_rt (tb_me 71) = some (.boolean : FieldType) from by decide +kernel
theorem l71 {L : Nat} {xs : Nat → Int32} : am_ml (am_me (tb_P L xs) 71) = 1 := show am_ml (tb_me 71) = 1 from by decide +kernel
theorem o71 {L : Nat} {xs : Nat → Int32} (pc : Nat) : am_no (tb_P L xs) 71 pc = true := show (am_hd (tb_me 71)).all (fun q => !(decide (q.1 ≤ pc) && decide (pc < q.2.1))) = true from by rw [show am_hd (tb_me 71) = [] by decide +kernel]; rfl
theorem k72_0 {L : Nat} {xs : Nat → Int32} : decode (am_cd (am_me (tb_P L xs) 72)) 0 = .ok (.aload_n 0, 1) := show decode (am_cd (tb_me 72)) 0 = .ok (.aload_n 0, 1) from by decide +kernel
theorem k72_1 {L : Nat} {xs : Nat → Int32} : decode (am_cd (am_me (tb_P L xs) 72)) 1 = .ok (.iload_n 1, 1) := show decode (am_cd (tb_me 72)) 1 = .ok (.iload_n 1, 1) from by decide +kernel
theorem k72_2 {L : Nat} {xs : Nat → Int32} : decode (am_cd (am_me (tb_P L xs) 72)) 2 = .ok (.iload_n 2, 1) := show decode (am_cd (tb_me 72)) 2 = .ok (.iload_n 2, 1) from by decide +kernel
theorem k72_3 {L : Nat} {xs : Nat → Int32} : decode (am_cd (am_me (tb_P L xs) 72)) 3 = .ok (.iload_n 3, 1) := show decode (am_cd (tb_me 72)) 3 = .ok (.iload_n 3, 1) from by decide +kernel
theorem k72_4 {L : Nat} {xs : Nat → Int32} : decode (am_cd (am_me (tb_P L xs) 72)) 4 = .ok (.invokevirtual 33, 3) := show decode (am_cd (tb_me 72)) 4 = .ok (.invokevirtual 33, 3) from by decide +kernel
theorem s72_4 {L : Nat} {xs : Nat → Int32} : am_sp (tb_P L xs) 72 33 = none := show tb_spF 72 33 = none from by decide +kernel
theorem c72_4 {L : Nat} {xs : Nat → Int32} : am_ca (tb_P L xs) 72 33 = some (73, 3, 1) := show tb_caF 72 33 = some (73, 3, 1) from by decide +kernel
theorem r72_4 {L : Nat} {xs : Nat → Int32} : am_rf (am_me (tb_P L xs) 73) + 1 ≤ am_rf (am_me (tb_P L xs) 72) ∧ 0 + (am_ml (am_me (tb_P L xs) 73) + 11) + am_rl (am_me (tb_P L xs) 73) ≤ am_rl (am_me (tb_P L xs) 72) := show am_rf (tb_me 73) + 1 ≤ am_rf (tb_me 72) ∧ 0 + (am_ml (tb_me 73) + 11) + am_rl (tb_me 73) ≤ am_rl (tb_me 72) from by decide +kernel
theorem k72_7 {L : Nat} {xs : Nat → Int32} : decode (am_cd (am_me (tb_P L xs) 72)) 7 = .ok (.goto 7, 3) := show decode (am_cd (tb_me 72)) 7 = .ok (.goto 7, 3) from by decide +kernel
theorem k72_10 {L : Nat} {xs : Nat → Int32} : decode (am_cd (am_me (tb_P L xs) 72)) 10 = .ok (.astore 4, 2) := show decode (am_cd (tb_me 72)) 10 = .ok (.astore 4, 2) from by decide +kernel
theorem k72_12 {L : Nat} {xs : Nat → Int32} : decode (am_cd (am_me (tb_P L xs) 72)) 12 = .ok (.iconst 1, 1) := show decode (am_cd (tb_me 72)) 12 = .ok (.iconst 1, 1) from by decide +kernel
theorem k72_13 {L : Nat} {xs : Nat → Int32} : decode (am_cd (am_me (tb_P L xs) 72)) 13 = .ok (.ireturn, 1) := show decode (am_cd (tb_me 72)) 13 = .ok (.ireturn, 1) from by decide +kernel
theorem k72_14 {L : Nat} {xs : Nat → Int32} : decode (am_cd (am_me (tb_P L xs) 72)) 14 = .ok (.iconst 0, 1) := show decode (am_cd (tb_me 72)) 14 = .ok (.iconst 0, 1) from by decide +kernel
theorem k72_15 {L : Nat} {xs : Nat → Int32} : decode (am_cd (am_me (tb_P L xs) 72)) 15 = .ok (.ireturn, 1) := show decode (am_cd (tb_me 72)) 15 = .ok (.ireturn, 1) from by decide +kernel
theorem t72 {L : Nat} {xs : Nat → Int32} : am_rt (am_me (tb_P L xs) 72) = some (.int : FieldType) := show am_rt (tb_me 72) = some (.int : FieldType) from by decide +kernel
theorem l72 {L : Nat} {xs : Nat → Int32} : am_ml (am_me (tb_P L xs) 72) = 5 := show am_ml (tb_me 72) = 5 from by decide +kernel
theorem k73_0 {L : Nat} {xs : Nat → Int32} : decode (am_cd (am_me (tb_P L xs) 73)) 0 = .ok (.aload_n 0, 1) := show decode (am_cd (tb_me 73)) 0 = .ok (.aload_n 0, 1) from by decide +kernel
theorem k73_1 {L : Nat} {xs : Nat → Int32} : decode (am_cd (am_me (tb_P L xs) 73)) 1 = .ok (.iload_n 1, 1) := show decode (am_cd (tb_me 73)) 1 = .ok (.iload_n 1, 1) from by decide +kernel
theorem k73_2 {L : Nat} {xs : Nat → Int32} : decode (am_cd (am_me (tb_P L xs) 73)) 2 = .ok (.invokevirtual 123, 3) := show decode (am_cd (tb_me 73)) 2 = .ok (.invokevirtual 123, 3) from by decide +kernel
theorem s73_2 {L : Nat} {xs : Nat → Int32} : am_sp (tb_P L xs) 73 123 = none := show tb_spF 73 123 = none from by decide +kernel
theorem c73_2 {L : Nat} {xs : Nat → Int32} : am_ca (tb_P L xs) 73 123 = some (67, 1, 1) := show tb_caF 73 123 = some (67, 1, 1) from by decide +kernel
theorem r73_2 {L : Nat} {xs : Nat → Int32} : am_rf (am_me (tb_P L xs) 67) + 1 ≤ am_rf (am_me (tb_P L xs) 73) ∧ 0 + (am_ml (am_me (tb_P L xs) 67) + 11) + am_rl (am_me (tb_P L xs) 67) ≤ am_rl (am_me (tb_P L xs) 73) := show am_rf (tb_me 67) + 1 ≤ am_rf (tb_me 73) ∧ 0 + (am_ml (tb_me 67) + 11) + am_rl (tb_me 67) ≤ am_rl (tb_me 73) from by decide +kernel
theorem k73_5 {L : Nat} {xs : Nat → Int32} : decode (am_cd (am_me (tb_P L xs) 73)) 5 = .ok (.astore 4, 2) := show decode (am_cd (tb_me 73)) 5 = .ok (.astore 4, 2) from by decide +kernel
theorem k73_7 {L : Nat} {xs : Nat → Int32} : decode (am_cd (am_me (tb_P L xs) 73)) 7 = .ok (.aload_n 0, 1) := show decode (am_cd (tb_me 73)) 7 = .ok (.aload_n 0, 1) from by decide +kernel
theorem k73_8 {L : Nat} {xs : Nat → Int32} : decode (am_cd (am_me (tb_P L xs) 73)) 8 = .ok (.iload_n 3, 1) := show decode (am_cd (tb_me 73)) 8 = .ok (.iload_n 3, 1) from by decide +kernel
theorem k73_9 {L : Nat} {xs : Nat → Int32} : decode (am_cd (am_me (tb_P L xs) 73)) 9 = .ok (.invokevirtual 142, 3) := show decode (am_cd (tb_me 73)) 9 = .ok (.invokevirtual 142, 3) from by decide +kernel
theorem s73_9 {L : Nat} {xs : Nat → Int32} : am_sp (tb_P L xs) 73 142 = none := show tb_spF 73 142 = none from by decide +kernel
theorem c73_9 {L : Nat} {xs : Nat → Int32} : am_ca (tb_P L xs) 73 142 = some (74, 1, 1) := show tb_caF 73 142 = some (74, 1, 1) from by decide +kernel
theorem r73_9 {L : Nat} {xs : Nat → Int32} : am_rf (am_me (tb_P L xs) 74) + 1 ≤ am_rf (am_me (tb_P L xs) 73) ∧ 0 + (am_ml (am_me (tb_P L xs) 74) + 11) + am_rl (am_me (tb_P L xs) 74) ≤ am_rl (am_me (tb_P L xs) 73) := show am_rf (tb_me 74) + 1 ≤ am_rf (tb_me 73) ∧ 0 + (am_ml (tb_me 74) + 11) + am_rl (tb_me 74) ≤ am_rl (tb_me 73) from by decide +kernel
theorem k73_12 {L : Nat} {xs : Nat → Int32} : decode (am_cd (am_me (tb_P L xs) 73)) 12 = .ok (.astore 5, 2) := show decode (am_cd (tb_me 73)) 12 = .ok (.astore 5, 2) from by decide +kernel
theorem k73_14 {L : Nat} {xs : Nat → Int32} : decode (am_cd (am_me (tb_P L xs) 73)) 14 = .ok (.iload_n 2, 1) := show decode (am_cd (tb_me 73)) 14 = .ok (.iload_n 2, 1) from by decide +kernel
theorem k73_15 {L : Nat} {xs : Nat → Int32} : decode (am_cd (am_me (tb_P L xs) 73)) 15 = .ok (.invokestatic 57, 3) := show decode (am_cd (tb_me 73)) 15 = .ok (.invokestatic 57, 3) from by decide +kernel
theorem s73_15 {L : Nat} {xs : Nat → Int32} : am_sp (tb_P L xs) 73 57 = none := show tb_spF 73 57 = none from by decide +kernel
theorem c73_15 {L : Nat} {xs : Nat → Int32} : am_ca (tb_P L xs) 73 57 = some (40, 1, 0) := show tb_caF 73 57 = some (40, 1, 0) from by decide +kernel
theorem r73_15 {L : Nat} {xs : Nat → Int32} : am_rf (am_me (tb_P L xs) 40) + 1 ≤ am_rf (am_me (tb_P L xs) 73) ∧ 0 + (am_ml (am_me (tb_P L xs) 40) + 11) + am_rl (am_me (tb_P L xs) 40) ≤ am_rl (am_me (tb_P L xs) 73) := show am_rf (tb_me 40) + 1 ≤ am_rf (tb_me 73) ∧ 0 + (am_ml (tb_me 40) + 11) + am_rl (tb_me 40) ≤ am_rl (tb_me 73) from by decide +kernel
theorem k73_18 {L : Nat} {xs : Nat → Int32} : decode (am_cd (am_me (tb_P L xs) 73)) 18 = .ok (.ifCond .eq 29, 3) := show decode (am_cd (tb_me 73)) 18 = .ok (.ifCond .eq 29, 3) from by decide +kernel
theorem k73_21 {L : Nat} {xs : Nat → Int32} : decode (am_cd (am_me (tb_P L xs) 73)) 21 = .ok (.iload_n 2, 1) := show decode (am_cd (tb_me 73)) 21 = .ok (.iload_n 2, 1) from by decide +kernel
theorem k73_22 {L : Nat} {xs : Nat → Int32} : decode (am_cd (am_me (tb_P L xs) 73)) 22 = .ok (.invokestatic 145, 3) := show decode (am_cd (tb_me 73)) 22 = .ok (.invokestatic 145, 3) from by decide +kernel
theorem s73_22 {L : Nat} {xs : Nat → Int32} : am_sp (tb_P L xs) 73 145 = none := show tb_spF 73 145 = none from by decide +kernel
theorem c73_22 {L : Nat} {xs : Nat → Int32} : am_ca (tb_P L xs) 73 145 = some (75, 1, 0) := show tb_caF 73 145 = some (75, 1, 0) from by decide +kernel
theorem r73_22 {L : Nat} {xs : Nat → Int32} : am_rf (am_me (tb_P L xs) 75) + 1 ≤ am_rf (am_me (tb_P L xs) 73) ∧ 0 + (am_ml (am_me (tb_P L xs) 75) + 11) + am_rl (am_me (tb_P L xs) 75) ≤ am_rl (am_me (tb_P L xs) 73) := show am_rf (tb_me 75) + 1 ≤ am_rf (tb_me 73) ∧ 0 + (am_ml (tb_me 75) + 11) + am_rl (tb_me 75) ≤ am_rl (tb_me 73) from by decide +kernel
theorem k73_25 {L : Nat} {xs : Nat → Int32} : decode (am_cd (am_me (tb_P L xs) 73)) 25 = .ok (.aload 4, 2) := show decode (am_cd (tb_me 73)) 25 = .ok (.aload 4, 2) from by decide +kernel
theorem k73_27 {L : Nat} {xs : Nat → Int32} : decode (am_cd (am_me (tb_P L xs) 73)) 27 = .ok (.getfield 148, 3) := show decode (am_cd (tb_me 73)) 27 = .ok (.getfield 148, 3) from by decide +kernel
theorem f73_27 {L : Nat} {xs : Nat → Int32} : am_fd (tb_P L xs) 73 148 = some (3, 0, (.int : FieldType), false) := show tb_fdF 73 148 = some (3, 0, (.int : FieldType), false) from by decide +kernel
theorem k73_30 {L : Nat} {xs : Nat → Int32} : decode (am_cd (am_me (tb_P L xs) 73)) 30 = .ok (.if_icmp .ne 17, 3) := show decode (am_cd (tb_me 73)) 30 = .ok (.if_icmp .ne 17, 3) from by decide +kernel
theorem k73_33 {L : Nat} {xs : Nat → Int32} : decode (am_cd (am_me (tb_P L xs) 73)) 33 = .ok (.aload 4, 2) := show decode (am_cd (tb_me 73)) 33 = .ok (.aload 4, 2) from by decide +kernel
theorem k73_35 {L : Nat} {xs : Nat → Int32} : decode (am_cd (am_me (tb_P L xs) 73)) 35 = .ok (.aload 5, 2) := show decode (am_cd (tb_me 73)) 35 = .ok (.aload 5, 2) from by decide +kernel
theorem k73_37 {L : Nat} {xs : Nat → Int32} : decode (am_cd (am_me (tb_P L xs) 73)) 37 = .ok (.invokevirtual 130, 3) := show decode (am_cd (tb_me 73)) 37 = .ok (.invokevirtual 130, 3) from by decide +kernel
theorem s73_37 {L : Nat} {xs : Nat → Int32} : am_sp (tb_P L xs) 73 130 = none := show tb_spF 73 130 = none from by decide +kernel
theorem c73_37 {L : Nat} {xs : Nat → Int32} : am_ca (tb_P L xs) 73 130 = some (70, 1, 1) := show tb_caF 73 130 = some (70, 1, 1) from by decide +kernel
theorem r73_37 {L : Nat} {xs : Nat → Int32} : am_rf (am_me (tb_P L xs) 70) + 1 ≤ am_rf (am_me (tb_P L xs) 73) ∧ 0 + (am_ml (am_me (tb_P L xs) 70) + 11) + am_rl (am_me (tb_P L xs) 70) ≤ am_rl (am_me (tb_P L xs) 73) := show am_rf (tb_me 70) + 1 ≤ am_rf (tb_me 73) ∧ 0 + (am_ml (tb_me 70) + 11) + am_rl (tb_me 70) ≤ am_rl (tb_me 73) from by decide +kernel
theorem k73_40 {L : Nat} {xs : Nat → Int32} : decode (am_cd (am_me (tb_P L xs) 73)) 40 = .ok (.ifCond .eq 7, 3) := show decode (am_cd (tb_me 73)) 40 = .ok (.ifCond .eq 7, 3) from by decide +kernel
theorem k73_43 {L : Nat} {xs : Nat → Int32} : decode (am_cd (am_me (tb_P L xs) 73)) 43 = .ok (.iconst 1, 1) := show decode (am_cd (tb_me 73)) 43 = .ok (.iconst 1, 1) from by decide +kernel
theorem k73_44 {L : Nat} {xs : Nat → Int32} : decode (am_cd (am_me (tb_P L xs) 73)) 44 = .ok (.goto 4, 3) := show decode (am_cd (tb_me 73)) 44 = .ok (.goto 4, 3) from by decide +kernel
theorem k73_47 {L : Nat} {xs : Nat → Int32} : decode (am_cd (am_me (tb_P L xs) 73)) 47 = .ok (.iconst 0, 1) := show decode (am_cd (tb_me 73)) 47 = .ok (.iconst 0, 1) from by decide +kernel
theorem k73_48 {L : Nat} {xs : Nat → Int32} : decode (am_cd (am_me (tb_P L xs) 73)) 48 = .ok (.invokestatic 134, 3) := show decode (am_cd (tb_me 73)) 48 = .ok (.invokestatic 134, 3) from by decide +kernel
theorem s73_48 {L : Nat} {xs : Nat → Int32} : am_sp (tb_P L xs) 73 134 = none := show tb_spF 73 134 = none from by decide +kernel
theorem c73_48 {L : Nat} {xs : Nat → Int32} : am_ca (tb_P L xs) 73 134 = some (69, 1, 0) := show tb_caF 73 134 = some (69, 1, 0) from by decide +kernel
theorem r73_48 {L : Nat} {xs : Nat → Int32} : am_rf (am_me (tb_P L xs) 69) + 1 ≤ am_rf (am_me (tb_P L xs) 73) ∧ 0 + (am_ml (am_me (tb_P L xs) 69) + 11) + am_rl (am_me (tb_P L xs) 69) ≤ am_rl (am_me (tb_P L xs) 73) := show am_rf (tb_me 69) + 1 ≤ am_rf (tb_me 73) ∧ 0 + (am_ml (tb_me 69) + 11) + am_rl (tb_me 69) ≤ am_rl (tb_me 73) from by decide +kernel
theorem k73_51 {L : Nat} {xs : Nat → Int32} : decode (am_cd (am_me (tb_P L xs) 73)) 51 = .ok (.aload 4, 2) := show decode (am_cd (tb_me 73)) 51 = .ok (.aload 4, 2) from by decide +kernel
theorem k73_53 {L : Nat} {xs : Nat → Int32} : decode (am_cd (am_me (tb_P L xs) 73)) 53 = .ok (.getfield 151, 3) := show decode (am_cd (tb_me 73)) 53 = .ok (.getfield 151, 3) from by decide +kernel
theorem f73_53 {L : Nat} {xs : Nat → Int32} : am_fd (tb_P L xs) 73 151 = some (3, 5, (.array (.object "GluedMachines$Formula") : FieldType), false) := show tb_fdF 73 151 = some (3, 5, (.array (.object "GluedMachines$Formula") : FieldType), false) from by decide +kernel
theorem k73_56 {L : Nat} {xs : Nat → Int32} : decode (am_cd (am_me (tb_P L xs) 73)) 56 = .ok (.iload_n 2, 1) := show decode (am_cd (tb_me 73)) 56 = .ok (.iload_n 2, 1) from by decide +kernel
theorem k73_57 {L : Nat} {xs : Nat → Int32} : decode (am_cd (am_me (tb_P L xs) 73)) 57 = .ok (.aload 5, 2) := show decode (am_cd (tb_me 73)) 57 = .ok (.aload 5, 2) from by decide +kernel
theorem k73_59 {L : Nat} {xs : Nat → Int32} : decode (am_cd (am_me (tb_P L xs) 73)) 59 = .ok (.aastore, 1) := show decode (am_cd (tb_me 73)) 59 = .ok (.aastore, 1) from by decide +kernel
theorem k73_60 {L : Nat} {xs : Nat → Int32} : decode (am_cd (am_me (tb_P L xs) 73)) 60 = .ok (.return_, 1) := show decode (am_cd (tb_me 73)) 60 = .ok (.return_, 1) from by decide +kernel
theorem t73 {L : Nat} {xs : Nat → Int32} : am_rt (am_me (tb_P L xs) 73) = none := show am_rt (tb_me 73) = none from by decide +kernel
theorem l73 {L : Nat} {xs : Nat → Int32} : am_ml (am_me (tb_P L xs) 73) = 6 := show am_ml (tb_me 73) = 6 from by decide +kernel
theorem o73 {L : Nat} {xs : Nat → Int32} (pc : Nat) : am_no (tb_P L xs) 73 pc = true := show (am_hd (tb_me 73)).all (fun q => !(decide (q.1 ≤ pc) && decide (pc < q.2.1))) = true from by rw [show am_hd (tb_me 73) = [] by decide +kernel]; rfl
theorem k74_0 {L : Nat} {xs : Nat → Int32} : decode (am_cd (am_me (tb_P L xs) 74)) 0 = .ok (.iload_n 1, 1) := show decode (am_cd (tb_me 74)) 0 = .ok (.iload_n 1, 1) from by decide +kernel
theorem k74_1 {L : Nat} {xs : Nat → Int32} : decode (am_cd (am_me (tb_P L xs) 74)) 1 = .ok (.aload_n 0, 1) := show decode (am_cd (tb_me 74)) 1 = .ok (.aload_n 0, 1) from by decide +kernel
theorem k74_2 {L : Nat} {xs : Nat → Int32} : decode (am_cd (am_me (tb_P L xs) 74)) 2 = .ok (.getfield 22, 3) := show decode (am_cd (tb_me 74)) 2 = .ok (.getfield 22, 3) from by decide +kernel
theorem f74_2 {L : Nat} {xs : Nat → Int32} : am_fd (tb_P L xs) 74 22 = some (0, 2, (.int : FieldType), true) := show tb_fdF 74 22 = some (0, 2, (.int : FieldType), true) from by decide +kernel
theorem k74_5 {L : Nat} {xs : Nat → Int32} : decode (am_cd (am_me (tb_P L xs) 74)) 5 = .ok (.invokestatic 61, 3) := show decode (am_cd (tb_me 74)) 5 = .ok (.invokestatic 61, 3) from by decide +kernel
theorem s74_5 {L : Nat} {xs : Nat → Int32} : am_sp (tb_P L xs) 74 61 = none := show tb_spF 74 61 = none from by decide +kernel
theorem c74_5 {L : Nat} {xs : Nat → Int32} : am_ca (tb_P L xs) 74 61 = some (26, 2, 0) := show tb_caF 74 61 = some (26, 2, 0) from by decide +kernel
theorem r74_5 {L : Nat} {xs : Nat → Int32} : am_rf (am_me (tb_P L xs) 26) + 1 ≤ am_rf (am_me (tb_P L xs) 74) ∧ 0 + (am_ml (am_me (tb_P L xs) 26) + 11) + am_rl (am_me (tb_P L xs) 26) ≤ am_rl (am_me (tb_P L xs) 74) := show am_rf (tb_me 26) + 1 ≤ am_rf (tb_me 74) ∧ 0 + (am_ml (tb_me 26) + 11) + am_rl (tb_me 26) ≤ am_rl (tb_me 74) from by decide +kernel
theorem k74_8 {L : Nat} {xs : Nat → Int32} : decode (am_cd (am_me (tb_P L xs) 74)) 8 = .ok (.ifCond .eq 19, 3) := show decode (am_cd (tb_me 74)) 8 = .ok (.ifCond .eq 19, 3) from by decide +kernel
theorem k74_11 {L : Nat} {xs : Nat → Int32} : decode (am_cd (am_me (tb_P L xs) 74)) 11 = .ok (.aload_n 0, 1) := show decode (am_cd (tb_me 74)) 11 = .ok (.aload_n 0, 1) from by decide +kernel
theorem k74_12 {L : Nat} {xs : Nat → Int32} : decode (am_cd (am_me (tb_P L xs) 74)) 12 = .ok (.getfield 18, 3) := show decode (am_cd (tb_me 74)) 12 = .ok (.getfield 18, 3) from by decide +kernel
theorem f74_12 {L : Nat} {xs : Nat → Int32} : am_fd (tb_P L xs) 74 18 = some (0, 1, (.array (.object "GluedMachines$Formula") : FieldType), false) := show tb_fdF 74 18 = some (0, 1, (.array (.object "GluedMachines$Formula") : FieldType), false) from by decide +kernel
theorem k74_15 {L : Nat} {xs : Nat → Int32} : decode (am_cd (am_me (tb_P L xs) 74)) 15 = .ok (.iload_n 1, 1) := show decode (am_cd (tb_me 74)) 15 = .ok (.iload_n 1, 1) from by decide +kernel
theorem k74_16 {L : Nat} {xs : Nat → Int32} : decode (am_cd (am_me (tb_P L xs) 74)) 16 = .ok (.aaload, 1) := show decode (am_cd (tb_me 74)) 16 = .ok (.aaload, 1) from by decide +kernel
theorem k74_17 {L : Nat} {xs : Nat → Int32} : decode (am_cd (am_me (tb_P L xs) 74)) 17 = .ok (.getfield 253, 3) := show decode (am_cd (tb_me 74)) 17 = .ok (.getfield 253, 3) from by decide +kernel
theorem f74_17 {L : Nat} {xs : Nat → Int32} : am_fd (tb_P L xs) 74 253 = some (2, 4, (.boolean : FieldType), false) := show tb_fdF 74 253 = some (2, 4, (.boolean : FieldType), false) from by decide +kernel
theorem k74_20 {L : Nat} {xs : Nat → Int32} : decode (am_cd (am_me (tb_P L xs) 74)) 20 = .ok (.ifCond .ne 7, 3) := show decode (am_cd (tb_me 74)) 20 = .ok (.ifCond .ne 7, 3) from by decide +kernel
theorem k74_23 {L : Nat} {xs : Nat → Int32} : decode (am_cd (am_me (tb_P L xs) 74)) 23 = .ok (.iconst 1, 1) := show decode (am_cd (tb_me 74)) 23 = .ok (.iconst 1, 1) from by decide +kernel
theorem k74_24 {L : Nat} {xs : Nat → Int32} : decode (am_cd (am_me (tb_P L xs) 74)) 24 = .ok (.goto 4, 3) := show decode (am_cd (tb_me 74)) 24 = .ok (.goto 4, 3) from by decide +kernel
theorem k74_27 {L : Nat} {xs : Nat → Int32} : decode (am_cd (am_me (tb_P L xs) 74)) 27 = .ok (.iconst 0, 1) := show decode (am_cd (tb_me 74)) 27 = .ok (.iconst 0, 1) from by decide +kernel
theorem k74_28 {L : Nat} {xs : Nat → Int32} : decode (am_cd (am_me (tb_P L xs) 74)) 28 = .ok (.invokestatic 134, 3) := show decode (am_cd (tb_me 74)) 28 = .ok (.invokestatic 134, 3) from by decide +kernel
theorem s74_28 {L : Nat} {xs : Nat → Int32} : am_sp (tb_P L xs) 74 134 = none := show tb_spF 74 134 = none from by decide +kernel
theorem c74_28 {L : Nat} {xs : Nat → Int32} : am_ca (tb_P L xs) 74 134 = some (69, 1, 0) := show tb_caF 74 134 = some (69, 1, 0) from by decide +kernel
theorem r74_28 {L : Nat} {xs : Nat → Int32} : am_rf (am_me (tb_P L xs) 69) + 1 ≤ am_rf (am_me (tb_P L xs) 74) ∧ 0 + (am_ml (am_me (tb_P L xs) 69) + 11) + am_rl (am_me (tb_P L xs) 69) ≤ am_rl (am_me (tb_P L xs) 74) := show am_rf (tb_me 69) + 1 ≤ am_rf (tb_me 74) ∧ 0 + (am_ml (tb_me 69) + 11) + am_rl (tb_me 69) ≤ am_rl (tb_me 74) from by decide +kernel
theorem k74_31 {L : Nat} {xs : Nat → Int32} : decode (am_cd (am_me (tb_P L xs) 74)) 31 = .ok (.aload_n 0, 1) := show decode (am_cd (tb_me 74)) 31 = .ok (.aload_n 0, 1) from by decide +kernel
theorem k74_32 {L : Nat} {xs : Nat → Int32} : decode (am_cd (am_me (tb_P L xs) 74)) 32 = .ok (.getfield 18, 3) := show decode (am_cd (tb_me 74)) 32 = .ok (.getfield 18, 3) from by decide +kernel
theorem f74_32 {L : Nat} {xs : Nat → Int32} : am_fd (tb_P L xs) 74 18 = some (0, 1, (.array (.object "GluedMachines$Formula") : FieldType), false) := show tb_fdF 74 18 = some (0, 1, (.array (.object "GluedMachines$Formula") : FieldType), false) from by decide +kernel
theorem k74_35 {L : Nat} {xs : Nat → Int32} : decode (am_cd (am_me (tb_P L xs) 74)) 35 = .ok (.iload_n 1, 1) := show decode (am_cd (tb_me 74)) 35 = .ok (.iload_n 1, 1) from by decide +kernel
theorem k74_36 {L : Nat} {xs : Nat → Int32} : decode (am_cd (am_me (tb_P L xs) 74)) 36 = .ok (.aaload, 1) := show decode (am_cd (tb_me 74)) 36 = .ok (.aaload, 1) from by decide +kernel
theorem k74_37 {L : Nat} {xs : Nat → Int32} : decode (am_cd (am_me (tb_P L xs) 74)) 37 = .ok (.areturn, 1) := show decode (am_cd (tb_me 74)) 37 = .ok (.areturn, 1) from by decide +kernel
theorem t74 {L : Nat} {xs : Nat → Int32} : am_rt (am_me (tb_P L xs) 74) = some (.object "GluedMachines$Formula" : FieldType) := show am_rt (tb_me 74) = some (.object "GluedMachines$Formula" : FieldType) from by decide +kernel
theorem l74 {L : Nat} {xs : Nat → Int32} : am_ml (am_me (tb_P L xs) 74) = 2 := show am_ml (tb_me 74) = 2 from by decide +kernel
theorem o74 {L : Nat} {xs : Nat → Int32} (pc : Nat) : am_no (tb_P L xs) 74 pc = true := show (am_hd (tb_me 74)).all (fun q => !(decide (q.1 ≤ pc) && decide (pc < q.2.1))) = true from by rw [show am_hd (tb_me 74) = [] by decide +kernel]; rfl
theorem k75_0 {L : Nat} {xs : Nat → Int32} : decode (am_cd (am_me (tb_P L xs) 75)) 0 = .ok (.iload_n 0, 1) := show decode (am_cd (tb_me 75)) 0 = .ok (.iload_n 0, 1) from by decide +kernel
theorem k75_1 {L : Nat} {xs : Nat → Int32} : decode (am_cd (am_me (tb_P L xs) 75)) 1 = .ok (.iconst 3, 1) := show decode (am_cd (tb_me 75)) 1 = .ok (.iconst 3, 1) from by decide +kernel
theorem k75_2 {L : Nat} {xs : Nat → Int32} : decode (am_cd (am_me (tb_P L xs) 75)) 2 = .ok (.if_icmp .ge 7, 3) := show decode (am_cd (tb_me 75)) 2 = .ok (.if_icmp .ge 7, 3) from by decide +kernel
theorem k75_5 {L : Nat} {xs : Nat → Int32} : decode (am_cd (am_me (tb_P L xs) 75)) 5 = .ok (.iconst 0, 1) := show decode (am_cd (tb_me 75)) 5 = .ok (.iconst 0, 1) from by decide +kernel
theorem k75_6 {L : Nat} {xs : Nat → Int32} : decode (am_cd (am_me (tb_P L xs) 75)) 6 = .ok (.goto 4, 3) := show decode (am_cd (tb_me 75)) 6 = .ok (.goto 4, 3) from by decide +kernel
theorem k75_9 {L : Nat} {xs : Nat → Int32} : decode (am_cd (am_me (tb_P L xs) 75)) 9 = .ok (.iconst 1, 1) := show decode (am_cd (tb_me 75)) 9 = .ok (.iconst 1, 1) from by decide +kernel
theorem k75_10 {L : Nat} {xs : Nat → Int32} : decode (am_cd (am_me (tb_P L xs) 75)) 10 = .ok (.ireturn, 1) := show decode (am_cd (tb_me 75)) 10 = .ok (.ireturn, 1) from by decide +kernel
theorem t75 {L : Nat} {xs : Nat → Int32} : am_rt (am_me (tb_P L xs) 75) = some (.int : FieldType) := show am_rt (tb_me 75) = some (.int : FieldType) from by decide +kernel
theorem l75 {L : Nat} {xs : Nat → Int32} : am_ml (am_me (tb_P L xs) 75) = 1 := show am_ml (tb_me 75) = 1 from by decide +kernel
theorem o75 {L : Nat} {xs : Nat → Int32} (pc : Nat) : am_no (tb_P L xs) 75 pc = true := show (am_hd (tb_me 75)).all (fun q => !(decide (q.1 ≤ pc) && decide (pc < q.2.1))) = true from by rw [show am_hd (tb_me 75) = [] by decide +kernel]; rfl
theorem k76_0 {L : Nat} {xs : Nat → Int32} : decode (am_cd (am_me (tb_P L xs) 76)) 0 = .ok (.aload_n 0, 1) := show decode (am_cd (tb_me 76)) 0 = .ok (.aload_n 0, 1) from by decide +kernel
theorem k76_1 {L : Nat} {xs : Nat → Int32} : decode (am_cd (am_me (tb_P L xs) 76)) 1 = .ok (.iload_n 1, 1) := show decode (am_cd (tb_me 76)) 1 = .ok (.iload_n 1, 1) from by decide +kernel
theorem k76_2 {L : Nat} {xs : Nat → Int32} : decode (am_cd (am_me (tb_P L xs) 76)) 2 = .ok (.iload_n 2, 1) := show decode (am_cd (tb_me 76)) 2 = .ok (.iload_n 2, 1) from by decide +kernel
theorem k76_3 {L : Nat} {xs : Nat → Int32} : decode (am_cd (am_me (tb_P L xs) 76)) 3 = .ok (.invokevirtual 36, 3) := show decode (am_cd (tb_me 76)) 3 = .ok (.invokevirtual 36, 3) from by decide +kernel
theorem s76_3 {L : Nat} {xs : Nat → Int32} : am_sp (tb_P L xs) 76 36 = none := show tb_spF 76 36 = none from by decide +kernel
theorem c76_3 {L : Nat} {xs : Nat → Int32} : am_ca (tb_P L xs) 76 36 = some (77, 2, 1) := show tb_caF 76 36 = some (77, 2, 1) from by decide +kernel
theorem r76_3 {L : Nat} {xs : Nat → Int32} : am_rf (am_me (tb_P L xs) 77) + 1 ≤ am_rf (am_me (tb_P L xs) 76) ∧ 0 + (am_ml (am_me (tb_P L xs) 77) + 11) + am_rl (am_me (tb_P L xs) 77) ≤ am_rl (am_me (tb_P L xs) 76) := show am_rf (tb_me 77) + 1 ≤ am_rf (tb_me 76) ∧ 0 + (am_ml (tb_me 77) + 11) + am_rl (tb_me 77) ≤ am_rl (tb_me 76) from by decide +kernel
theorem k76_6 {L : Nat} {xs : Nat → Int32} : decode (am_cd (am_me (tb_P L xs) 76)) 6 = .ok (.goto 6, 3) := show decode (am_cd (tb_me 76)) 6 = .ok (.goto 6, 3) from by decide +kernel
theorem k76_9 {L : Nat} {xs : Nat → Int32} : decode (am_cd (am_me (tb_P L xs) 76)) 9 = .ok (.astore_n 3, 1) := show decode (am_cd (tb_me 76)) 9 = .ok (.astore_n 3, 1) from by decide +kernel
theorem k76_10 {L : Nat} {xs : Nat → Int32} : decode (am_cd (am_me (tb_P L xs) 76)) 10 = .ok (.iconst 1, 1) := show decode (am_cd (tb_me 76)) 10 = .ok (.iconst 1, 1) from by decide +kernel
theorem k76_11 {L : Nat} {xs : Nat → Int32} : decode (am_cd (am_me (tb_P L xs) 76)) 11 = .ok (.ireturn, 1) := show decode (am_cd (tb_me 76)) 11 = .ok (.ireturn, 1) from by decide +kernel
theorem k76_12 {L : Nat} {xs : Nat → Int32} : decode (am_cd (am_me (tb_P L xs) 76)) 12 = .ok (.iconst 0, 1) := show decode (am_cd (tb_me 76)) 12 = .ok (.iconst 0, 1) from by decide +kernel
theorem k76_13 {L : Nat} {xs : Nat → Int32} : decode (am_cd (am_me (tb_P L xs) 76)) 13 = .ok (.ireturn, 1) := show decode (am_cd (tb_me 76)) 13 = .ok (.ireturn, 1) from by decide +kernel
theorem t76 {L : Nat} {xs : Nat → Int32} : am_rt (am_me (tb_P L xs) 76) = some (.int : FieldType) := show am_rt (tb_me 76) = some (.int : FieldType) from by decide +kernel
theorem l76 {L : Nat} {xs : Nat → Int32} : am_ml (am_me (tb_P L xs) 76) = 4 := show am_ml (tb_me 76) = 4 from by decide +kernel
theorem k77_0 {L : Nat} {xs : Nat → Int32} : decode (am_cd (am_me (tb_P L xs) 77)) 0 = .ok (.aload_n 0, 1) := show decode (am_cd (tb_me 77)) 0 = .ok (.aload_n 0, 1) from by decide +kernel
theorem k77_1 {L : Nat} {xs : Nat → Int32} : decode (am_cd (am_me (tb_P L xs) 77)) 1 = .ok (.iload_n 1, 1) := show decode (am_cd (tb_me 77)) 1 = .ok (.iload_n 1, 1) from by decide +kernel
theorem k77_2 {L : Nat} {xs : Nat → Int32} : decode (am_cd (am_me (tb_P L xs) 77)) 2 = .ok (.invokevirtual 123, 3) := show decode (am_cd (tb_me 77)) 2 = .ok (.invokevirtual 123, 3) from by decide +kernel
theorem s77_2 {L : Nat} {xs : Nat → Int32} : am_sp (tb_P L xs) 77 123 = none := show tb_spF 77 123 = none from by decide +kernel
theorem c77_2 {L : Nat} {xs : Nat → Int32} : am_ca (tb_P L xs) 77 123 = some (67, 1, 1) := show tb_caF 77 123 = some (67, 1, 1) from by decide +kernel
theorem r77_2 {L : Nat} {xs : Nat → Int32} : am_rf (am_me (tb_P L xs) 67) + 1 ≤ am_rf (am_me (tb_P L xs) 77) ∧ 0 + (am_ml (am_me (tb_P L xs) 67) + 11) + am_rl (am_me (tb_P L xs) 67) ≤ am_rl (am_me (tb_P L xs) 77) := show am_rf (tb_me 67) + 1 ≤ am_rf (tb_me 77) ∧ 0 + (am_ml (tb_me 67) + 11) + am_rl (tb_me 67) ≤ am_rl (tb_me 77) from by decide +kernel
theorem k77_5 {L : Nat} {xs : Nat → Int32} : decode (am_cd (am_me (tb_P L xs) 77)) 5 = .ok (.astore_n 3, 1) := show decode (am_cd (tb_me 77)) 5 = .ok (.astore_n 3, 1) from by decide +kernel
theorem k77_6 {L : Nat} {xs : Nat → Int32} : decode (am_cd (am_me (tb_P L xs) 77)) 6 = .ok (.aload_n 0, 1) := show decode (am_cd (tb_me 77)) 6 = .ok (.aload_n 0, 1) from by decide +kernel
theorem k77_7 {L : Nat} {xs : Nat → Int32} : decode (am_cd (am_me (tb_P L xs) 77)) 7 = .ok (.iload_n 2, 1) := show decode (am_cd (tb_me 77)) 7 = .ok (.iload_n 2, 1) from by decide +kernel
theorem k77_8 {L : Nat} {xs : Nat → Int32} : decode (am_cd (am_me (tb_P L xs) 77)) 8 = .ok (.invokevirtual 142, 3) := show decode (am_cd (tb_me 77)) 8 = .ok (.invokevirtual 142, 3) from by decide +kernel
theorem s77_8 {L : Nat} {xs : Nat → Int32} : am_sp (tb_P L xs) 77 142 = none := show tb_spF 77 142 = none from by decide +kernel
theorem c77_8 {L : Nat} {xs : Nat → Int32} : am_ca (tb_P L xs) 77 142 = some (74, 1, 1) := show tb_caF 77 142 = some (74, 1, 1) from by decide +kernel
theorem r77_8 {L : Nat} {xs : Nat → Int32} : am_rf (am_me (tb_P L xs) 74) + 1 ≤ am_rf (am_me (tb_P L xs) 77) ∧ 0 + (am_ml (am_me (tb_P L xs) 74) + 11) + am_rl (am_me (tb_P L xs) 74) ≤ am_rl (am_me (tb_P L xs) 77) := show am_rf (tb_me 74) + 1 ≤ am_rf (tb_me 77) ∧ 0 + (am_ml (tb_me 74) + 11) + am_rl (tb_me 74) ≤ am_rl (tb_me 77) from by decide +kernel
theorem k77_11 {L : Nat} {xs : Nat → Int32} : decode (am_cd (am_me (tb_P L xs) 77)) 11 = .ok (.astore 4, 2) := show decode (am_cd (tb_me 77)) 11 = .ok (.astore 4, 2) from by decide +kernel
theorem k77_13 {L : Nat} {xs : Nat → Int32} : decode (am_cd (am_me (tb_P L xs) 77)) 13 = .ok (.aload_n 3, 1) := show decode (am_cd (tb_me 77)) 13 = .ok (.aload_n 3, 1) from by decide +kernel
theorem k77_14 {L : Nat} {xs : Nat → Int32} : decode (am_cd (am_me (tb_P L xs) 77)) 14 = .ok (.getfield 154, 3) := show decode (am_cd (tb_me 77)) 14 = .ok (.getfield 154, 3) from by decide +kernel
theorem f77_14 {L : Nat} {xs : Nat → Int32} : am_fd (tb_P L xs) 77 154 = some (3, 2, (.object "GluedMachines$Event" : FieldType), false) := show tb_fdF 77 154 = some (3, 2, (.object "GluedMachines$Event" : FieldType), false) from by decide +kernel
theorem k77_17 {L : Nat} {xs : Nat → Int32} : decode (am_cd (am_me (tb_P L xs) 77)) 17 = .ok (.ifnull 7, 3) := show decode (am_cd (tb_me 77)) 17 = .ok (.ifnull 7, 3) from by decide +kernel
theorem k77_20 {L : Nat} {xs : Nat → Int32} : decode (am_cd (am_me (tb_P L xs) 77)) 20 = .ok (.iconst 1, 1) := show decode (am_cd (tb_me 77)) 20 = .ok (.iconst 1, 1) from by decide +kernel
theorem k77_21 {L : Nat} {xs : Nat → Int32} : decode (am_cd (am_me (tb_P L xs) 77)) 21 = .ok (.goto 4, 3) := show decode (am_cd (tb_me 77)) 21 = .ok (.goto 4, 3) from by decide +kernel
theorem k77_24 {L : Nat} {xs : Nat → Int32} : decode (am_cd (am_me (tb_P L xs) 77)) 24 = .ok (.iconst 0, 1) := show decode (am_cd (tb_me 77)) 24 = .ok (.iconst 0, 1) from by decide +kernel
theorem k77_25 {L : Nat} {xs : Nat → Int32} : decode (am_cd (am_me (tb_P L xs) 77)) 25 = .ok (.invokestatic 134, 3) := show decode (am_cd (tb_me 77)) 25 = .ok (.invokestatic 134, 3) from by decide +kernel
theorem s77_25 {L : Nat} {xs : Nat → Int32} : am_sp (tb_P L xs) 77 134 = none := show tb_spF 77 134 = none from by decide +kernel
theorem c77_25 {L : Nat} {xs : Nat → Int32} : am_ca (tb_P L xs) 77 134 = some (69, 1, 0) := show tb_caF 77 134 = some (69, 1, 0) from by decide +kernel
theorem r77_25 {L : Nat} {xs : Nat → Int32} : am_rf (am_me (tb_P L xs) 69) + 1 ≤ am_rf (am_me (tb_P L xs) 77) ∧ 0 + (am_ml (am_me (tb_P L xs) 69) + 11) + am_rl (am_me (tb_P L xs) 69) ≤ am_rl (am_me (tb_P L xs) 77) := show am_rf (tb_me 69) + 1 ≤ am_rf (tb_me 77) ∧ 0 + (am_ml (tb_me 69) + 11) + am_rl (tb_me 69) ≤ am_rl (tb_me 77) from by decide +kernel
theorem k77_28 {L : Nat} {xs : Nat → Int32} : decode (am_cd (am_me (tb_P L xs) 77)) 28 = .ok (.aload_n 3, 1) := show decode (am_cd (tb_me 77)) 28 = .ok (.aload_n 3, 1) from by decide +kernel
theorem k77_29 {L : Nat} {xs : Nat → Int32} : decode (am_cd (am_me (tb_P L xs) 77)) 29 = .ok (.aload 4, 2) := show decode (am_cd (tb_me 77)) 29 = .ok (.aload 4, 2) from by decide +kernel
theorem k77_31 {L : Nat} {xs : Nat → Int32} : decode (am_cd (am_me (tb_P L xs) 77)) 31 = .ok (.putfield 158, 3) := show decode (am_cd (tb_me 77)) 31 = .ok (.putfield 158, 3) from by decide +kernel
theorem f77_31 {L : Nat} {xs : Nat → Int32} : am_fd (tb_P L xs) 77 158 = some (3, 4, (.object "GluedMachines$Formula" : FieldType), true) := show tb_fdF 77 158 = some (3, 4, (.object "GluedMachines$Formula" : FieldType), true) from by decide +kernel
theorem k77_34 {L : Nat} {xs : Nat → Int32} : decode (am_cd (am_me (tb_P L xs) 77)) 34 = .ok (.return_, 1) := show decode (am_cd (tb_me 77)) 34 = .ok (.return_, 1) from by decide +kernel
theorem t77 {L : Nat} {xs : Nat → Int32} : am_rt (am_me (tb_P L xs) 77) = none := show am_rt (tb_me 77) = none from by decide +kernel
theorem l77 {L : Nat} {xs : Nat → Int32} : am_ml (am_me (tb_P L xs) 77) = 5 := show am_ml (tb_me 77) = 5 from by decide +kernel
theorem o77 {L : Nat} {xs : Nat → Int32} (pc : Nat) : am_no (tb_P L xs) 77 pc = true := show (am_hd (tb_me 77)).all (fun q => !(decide (q.1 ≤ pc) && decide (pc < q.2.1))) = true from by rw [show am_hd (tb_me 77) = [] by decide +kernel]; rfl
theorem k78_0 {L : Nat} {xs : Nat → Int32} : decode (am_cd (am_me (tb_P L xs) 78)) 0 = .ok (.aload_n 3, 1) := show decode (am_cd (tb_me 78)) 0 = .ok (.aload_n 3, 1) from by decide +kernel
theorem k78_1 {L : Nat} {xs : Nat → Int32} : decode (am_cd (am_me (tb_P L xs) 78)) 1 = .ok (.iconst 0, 1) := show decode (am_cd (tb_me 78)) 1 = .ok (.iconst 0, 1) from by decide +kernel
theorem k78_2 {L : Nat} {xs : Nat → Int32} : decode (am_cd (am_me (tb_P L xs) 78)) 2 = .ok (.aload_n 0, 1) := show decode (am_cd (tb_me 78)) 2 = .ok (.aload_n 0, 1) from by decide +kernel
theorem k78_3 {L : Nat} {xs : Nat → Int32} : decode (am_cd (am_me (tb_P L xs) 78)) 3 = .ok (.iload_n 1, 1) := show decode (am_cd (tb_me 78)) 3 = .ok (.iload_n 1, 1) from by decide +kernel
theorem k78_4 {L : Nat} {xs : Nat → Int32} : decode (am_cd (am_me (tb_P L xs) 78)) 4 = .ok (.iload_n 2, 1) := show decode (am_cd (tb_me 78)) 4 = .ok (.iload_n 2, 1) from by decide +kernel
theorem k78_5 {L : Nat} {xs : Nat → Int32} : decode (am_cd (am_me (tb_P L xs) 78)) 5 = .ok (.invokevirtual 39, 3) := show decode (am_cd (tb_me 78)) 5 = .ok (.invokevirtual 39, 3) from by decide +kernel
theorem s78_5 {L : Nat} {xs : Nat → Int32} : am_sp (tb_P L xs) 78 39 = none := show tb_spF 78 39 = none from by decide +kernel
theorem c78_5 {L : Nat} {xs : Nat → Int32} : am_ca (tb_P L xs) 78 39 = some (79, 2, 1) := show tb_caF 78 39 = some (79, 2, 1) from by decide +kernel
theorem r78_5 {L : Nat} {xs : Nat → Int32} : am_rf (am_me (tb_P L xs) 79) + 1 ≤ am_rf (am_me (tb_P L xs) 78) ∧ 2 + (am_ml (am_me (tb_P L xs) 79) + 11) + am_rl (am_me (tb_P L xs) 79) ≤ am_rl (am_me (tb_P L xs) 78) := show am_rf (tb_me 79) + 1 ≤ am_rf (tb_me 78) ∧ 2 + (am_ml (tb_me 79) + 11) + am_rl (tb_me 79) ≤ am_rl (tb_me 78) from by decide +kernel
theorem k78_8 {L : Nat} {xs : Nat → Int32} : decode (am_cd (am_me (tb_P L xs) 78)) 8 = .ok (.i2l, 1) := show decode (am_cd (tb_me 78)) 8 = .ok (.i2l, 1) from by decide +kernel
theorem k78_9 {L : Nat} {xs : Nat → Int32} : decode (am_cd (am_me (tb_P L xs) 78)) 9 = .ok (.lastore, 1) := show decode (am_cd (tb_me 78)) 9 = .ok (.lastore, 1) from by decide +kernel
theorem k78_10 {L : Nat} {xs : Nat → Int32} : decode (am_cd (am_me (tb_P L xs) 78)) 10 = .ok (.goto 11, 3) := show decode (am_cd (tb_me 78)) 10 = .ok (.goto 11, 3) from by decide +kernel
theorem k78_13 {L : Nat} {xs : Nat → Int32} : decode (am_cd (am_me (tb_P L xs) 78)) 13 = .ok (.astore 4, 2) := show decode (am_cd (tb_me 78)) 13 = .ok (.astore 4, 2) from by decide +kernel
theorem k78_15 {L : Nat} {xs : Nat → Int32} : decode (am_cd (am_me (tb_P L xs) 78)) 15 = .ok (.iconst 1, 1) := show decode (am_cd (tb_me 78)) 15 = .ok (.iconst 1, 1) from by decide +kernel
theorem k78_16 {L : Nat} {xs : Nat → Int32} : decode (am_cd (am_me (tb_P L xs) 78)) 16 = .ok (.ireturn, 1) := show decode (am_cd (tb_me 78)) 16 = .ok (.ireturn, 1) from by decide +kernel
theorem k78_17 {L : Nat} {xs : Nat → Int32} : decode (am_cd (am_me (tb_P L xs) 78)) 17 = .ok (.astore 4, 2) := show decode (am_cd (tb_me 78)) 17 = .ok (.astore 4, 2) from by decide +kernel
theorem k78_19 {L : Nat} {xs : Nat → Int32} : decode (am_cd (am_me (tb_P L xs) 78)) 19 = .ok (.iconst 2, 1) := show decode (am_cd (tb_me 78)) 19 = .ok (.iconst 2, 1) from by decide +kernel
theorem k78_20 {L : Nat} {xs : Nat → Int32} : decode (am_cd (am_me (tb_P L xs) 78)) 20 = .ok (.ireturn, 1) := show decode (am_cd (tb_me 78)) 20 = .ok (.ireturn, 1) from by decide +kernel
theorem k78_21 {L : Nat} {xs : Nat → Int32} : decode (am_cd (am_me (tb_P L xs) 78)) 21 = .ok (.iconst 0, 1) := show decode (am_cd (tb_me 78)) 21 = .ok (.iconst 0, 1) from by decide +kernel
theorem k78_22 {L : Nat} {xs : Nat → Int32} : decode (am_cd (am_me (tb_P L xs) 78)) 22 = .ok (.ireturn, 1) := show decode (am_cd (tb_me 78)) 22 = .ok (.ireturn, 1) from by decide +kernel
theorem t78 {L : Nat} {xs : Nat → Int32} : am_rt (am_me (tb_P L xs) 78) = some (.int : FieldType) := show am_rt (tb_me 78) = some (.int : FieldType) from by decide +kernel
theorem l78 {L : Nat} {xs : Nat → Int32} : am_ml (am_me (tb_P L xs) 78) = 5 := show am_ml (tb_me 78) = 5 from by decide +kernel
theorem k79_0 {L : Nat} {xs : Nat → Int32} : decode (am_cd (am_me (tb_P L xs) 79)) 0 = .ok (.aload_n 0, 1) := show decode (am_cd (tb_me 79)) 0 = .ok (.aload_n 0, 1) from by decide +kernel
theorem k79_1 {L : Nat} {xs : Nat → Int32} : decode (am_cd (am_me (tb_P L xs) 79)) 1 = .ok (.iload_n 2, 1) := show decode (am_cd (tb_me 79)) 1 = .ok (.iload_n 2, 1) from by decide +kernel
theorem k79_2 {L : Nat} {xs : Nat → Int32} : decode (am_cd (am_me (tb_P L xs) 79)) 2 = .ok (.invokevirtual 126, 3) := show decode (am_cd (tb_me 79)) 2 = .ok (.invokevirtual 126, 3) from by decide +kernel
theorem s79_2 {L : Nat} {xs : Nat → Int32} : am_sp (tb_P L xs) 79 126 = none := show tb_spF 79 126 = none from by decide +kernel
theorem c79_2 {L : Nat} {xs : Nat → Int32} : am_ca (tb_P L xs) 79 126 = some (68, 1, 1) := show tb_caF 79 126 = some (68, 1, 1) from by decide +kernel
theorem r79_2 {L : Nat} {xs : Nat → Int32} : am_rf (am_me (tb_P L xs) 68) + 1 ≤ am_rf (am_me (tb_P L xs) 79) ∧ 0 + (am_ml (am_me (tb_P L xs) 68) + 11) + am_rl (am_me (tb_P L xs) 68) ≤ am_rl (am_me (tb_P L xs) 79) := show am_rf (tb_me 68) + 1 ≤ am_rf (tb_me 79) ∧ 0 + (am_ml (tb_me 68) + 11) + am_rl (tb_me 68) ≤ am_rl (tb_me 79) from by decide +kernel
theorem k79_5 {L : Nat} {xs : Nat → Int32} : decode (am_cd (am_me (tb_P L xs) 79)) 5 = .ok (.astore_n 3, 1) := show decode (am_cd (tb_me 79)) 5 = .ok (.astore_n 3, 1) from by decide +kernel
theorem k79_6 {L : Nat} {xs : Nat → Int32} : decode (am_cd (am_me (tb_P L xs) 79)) 6 = .ok (.iload_n 1, 1) := show decode (am_cd (tb_me 79)) 6 = .ok (.iload_n 1, 1) from by decide +kernel
theorem k79_7 {L : Nat} {xs : Nat → Int32} : decode (am_cd (am_me (tb_P L xs) 79)) 7 = .ok (.invokestatic 102, 3) := show decode (am_cd (tb_me 79)) 7 = .ok (.invokestatic 102, 3) from by decide +kernel
theorem s79_7 {L : Nat} {xs : Nat → Int32} : am_sp (tb_P L xs) 79 102 = none := show tb_spF 79 102 = none from by decide +kernel
theorem c79_7 {L : Nat} {xs : Nat → Int32} : am_ca (tb_P L xs) 79 102 = some (60, 1, 0) := show tb_caF 79 102 = some (60, 1, 0) from by decide +kernel
theorem r79_7 {L : Nat} {xs : Nat → Int32} : am_rf (am_me (tb_P L xs) 60) + 1 ≤ am_rf (am_me (tb_P L xs) 79) ∧ 0 + (am_ml (am_me (tb_P L xs) 60) + 11) + am_rl (am_me (tb_P L xs) 60) ≤ am_rl (am_me (tb_P L xs) 79) := show am_rf (tb_me 60) + 1 ≤ am_rf (tb_me 79) ∧ 0 + (am_ml (tb_me 60) + 11) + am_rl (tb_me 60) ≤ am_rl (tb_me 79) from by decide +kernel
theorem k79_10 {L : Nat} {xs : Nat → Int32} : decode (am_cd (am_me (tb_P L xs) 79)) 10 = .ok (.ifCond .eq 26, 3) := show decode (am_cd (tb_me 79)) 10 = .ok (.ifCond .eq 26, 3) from by decide +kernel
theorem k79_13 {L : Nat} {xs : Nat → Int32} : decode (am_cd (am_me (tb_P L xs) 79)) 13 = .ok (.aload_n 3, 1) := show decode (am_cd (tb_me 79)) 13 = .ok (.aload_n 3, 1) from by decide +kernel
theorem k79_14 {L : Nat} {xs : Nat → Int32} : decode (am_cd (am_me (tb_P L xs) 79)) 14 = .ok (.invokevirtual 161, 3) := show decode (am_cd (tb_me 79)) 14 = .ok (.invokevirtual 161, 3) from by decide +kernel
theorem s79_14 {L : Nat} {xs : Nat → Int32} : am_sp (tb_P L xs) 79 161 = none := show tb_spF 79 161 = none from by decide +kernel
theorem c79_14 {L : Nat} {xs : Nat → Int32} : am_ca (tb_P L xs) 79 161 = some (80, 0, 1) := show tb_caF 79 161 = some (80, 0, 1) from by decide +kernel
theorem r79_14 {L : Nat} {xs : Nat → Int32} : am_rf (am_me (tb_P L xs) 80) + 1 ≤ am_rf (am_me (tb_P L xs) 79) ∧ 0 + (am_ml (am_me (tb_P L xs) 80) + 11) + am_rl (am_me (tb_P L xs) 80) ≤ am_rl (am_me (tb_P L xs) 79) := show am_rf (tb_me 80) + 1 ≤ am_rf (tb_me 79) ∧ 0 + (am_ml (tb_me 80) + 11) + am_rl (tb_me 80) ≤ am_rl (tb_me 79) from by decide +kernel
theorem k79_17 {L : Nat} {xs : Nat → Int32} : decode (am_cd (am_me (tb_P L xs) 79)) 17 = .ok (.ifCond .ne 19, 3) := show decode (am_cd (tb_me 79)) 17 = .ok (.ifCond .ne 19, 3) from by decide +kernel
theorem k79_20 {L : Nat} {xs : Nat → Int32} : decode (am_cd (am_me (tb_P L xs) 79)) 20 = .ok (.iload_n 1, 1) := show decode (am_cd (tb_me 79)) 20 = .ok (.iload_n 1, 1) from by decide +kernel
theorem k79_21 {L : Nat} {xs : Nat → Int32} : decode (am_cd (am_me (tb_P L xs) 79)) 21 = .ok (.iconst 1, 1) := show decode (am_cd (tb_me 79)) 21 = .ok (.iconst 1, 1) from by decide +kernel
theorem k79_22 {L : Nat} {xs : Nat → Int32} : decode (am_cd (am_me (tb_P L xs) 79)) 22 = .ok (.if_icmp .eq 10, 3) := show decode (am_cd (tb_me 79)) 22 = .ok (.if_icmp .eq 10, 3) from by decide +kernel
theorem k79_25 {L : Nat} {xs : Nat → Int32} : decode (am_cd (am_me (tb_P L xs) 79)) 25 = .ok (.aload_n 3, 1) := show decode (am_cd (tb_me 79)) 25 = .ok (.aload_n 3, 1) from by decide +kernel
theorem k79_26 {L : Nat} {xs : Nat → Int32} : decode (am_cd (am_me (tb_P L xs) 79)) 26 = .ok (.invokevirtual 164, 3) := show decode (am_cd (tb_me 79)) 26 = .ok (.invokevirtual 164, 3) from by decide +kernel
theorem s79_26 {L : Nat} {xs : Nat → Int32} : am_sp (tb_P L xs) 79 164 = none := show tb_spF 79 164 = none from by decide +kernel
theorem c79_26 {L : Nat} {xs : Nat → Int32} : am_ca (tb_P L xs) 79 164 = some (71, 0, 1) := show tb_caF 79 164 = some (71, 0, 1) from by decide +kernel
theorem r79_26 {L : Nat} {xs : Nat → Int32} : am_rf (am_me (tb_P L xs) 71) + 1 ≤ am_rf (am_me (tb_P L xs) 79) ∧ 0 + (am_ml (am_me (tb_P L xs) 71) + 11) + am_rl (am_me (tb_P L xs) 71) ≤ am_rl (am_me (tb_P L xs) 79) := show am_rf (tb_me 71) + 1 ≤ am_rf (tb_me 79) ∧ 0 + (am_ml (tb_me 71) + 11) + am_rl (tb_me 71) ≤ am_rl (tb_me 79) from by decide +kernel
theorem k79_29 {L : Nat} {xs : Nat → Int32} : decode (am_cd (am_me (tb_P L xs) 79)) 29 = .ok (.ifCond .ne 7, 3) := show decode (am_cd (tb_me 79)) 29 = .ok (.ifCond .ne 7, 3) from by decide +kernel
theorem k79_32 {L : Nat} {xs : Nat → Int32} : decode (am_cd (am_me (tb_P L xs) 79)) 32 = .ok (.iconst 1, 1) := show decode (am_cd (tb_me 79)) 32 = .ok (.iconst 1, 1) from by decide +kernel
theorem k79_33 {L : Nat} {xs : Nat → Int32} : decode (am_cd (am_me (tb_P L xs) 79)) 33 = .ok (.goto 4, 3) := show decode (am_cd (tb_me 79)) 33 = .ok (.goto 4, 3) from by decide +kernel
theorem k79_36 {L : Nat} {xs : Nat → Int32} : decode (am_cd (am_me (tb_P L xs) 79)) 36 = .ok (.iconst 0, 1) := show decode (am_cd (tb_me 79)) 36 = .ok (.iconst 0, 1) from by decide +kernel
theorem k79_37 {L : Nat} {xs : Nat → Int32} : decode (am_cd (am_me (tb_P L xs) 79)) 37 = .ok (.invokestatic 134, 3) := show decode (am_cd (tb_me 79)) 37 = .ok (.invokestatic 134, 3) from by decide +kernel
theorem s79_37 {L : Nat} {xs : Nat → Int32} : am_sp (tb_P L xs) 79 134 = none := show tb_spF 79 134 = none from by decide +kernel
theorem c79_37 {L : Nat} {xs : Nat → Int32} : am_ca (tb_P L xs) 79 134 = some (69, 1, 0) := show tb_caF 79 134 = some (69, 1, 0) from by decide +kernel
theorem r79_37 {L : Nat} {xs : Nat → Int32} : am_rf (am_me (tb_P L xs) 69) + 1 ≤ am_rf (am_me (tb_P L xs) 79) ∧ 0 + (am_ml (am_me (tb_P L xs) 69) + 11) + am_rl (am_me (tb_P L xs) 69) ≤ am_rl (am_me (tb_P L xs) 79) := show am_rf (tb_me 69) + 1 ≤ am_rf (tb_me 79) ∧ 0 + (am_ml (tb_me 69) + 11) + am_rl (tb_me 69) ≤ am_rl (tb_me 79) from by decide +kernel
theorem k79_40 {L : Nat} {xs : Nat → Int32} : decode (am_cd (am_me (tb_P L xs) 79)) 40 = .ok (.aload_n 0, 1) := show decode (am_cd (tb_me 79)) 40 = .ok (.aload_n 0, 1) from by decide +kernel
theorem k79_41 {L : Nat} {xs : Nat → Int32} : decode (am_cd (am_me (tb_P L xs) 79)) 41 = .ok (.getfield 37, 3) := show decode (am_cd (tb_me 79)) 41 = .ok (.getfield 37, 3) from by decide +kernel
theorem f79_41 {L : Nat} {xs : Nat → Int32} : am_fd (tb_P L xs) 79 37 = some (0, 3, (.object "GluedMachines$Model" : FieldType), false) := show tb_fdF 79 37 = some (0, 3, (.object "GluedMachines$Model" : FieldType), false) from by decide +kernel
theorem k79_44 {L : Nat} {xs : Nat → Int32} : decode (am_cd (am_me (tb_P L xs) 79)) 44 = .ok (.getfield 167, 3) := show decode (am_cd (tb_me 79)) 44 = .ok (.getfield 167, 3) from by decide +kernel
theorem f79_44 {L : Nat} {xs : Nat → Int32} : am_fd (tb_P L xs) 79 167 = some (5, 4, (.object "GluedMachines$Invariants" : FieldType), false) := show tb_fdF 79 167 = some (5, 4, (.object "GluedMachines$Invariants" : FieldType), false) from by decide +kernel
theorem k79_47 {L : Nat} {xs : Nat → Int32} : decode (am_cd (am_me (tb_P L xs) 79)) 47 = .ok (.iload_n 1, 1) := show decode (am_cd (tb_me 79)) 47 = .ok (.iload_n 1, 1) from by decide +kernel
theorem k79_48 {L : Nat} {xs : Nat → Int32} : decode (am_cd (am_me (tb_P L xs) 79)) 48 = .ok (.invokevirtual 171, 3) := show decode (am_cd (tb_me 79)) 48 = .ok (.invokevirtual 171, 3) from by decide +kernel
theorem s79_48 {L : Nat} {xs : Nat → Int32} : am_sp (tb_P L xs) 79 171 = none := show tb_spF 79 171 = none from by decide +kernel
theorem c79_48 {L : Nat} {xs : Nat → Int32} : am_ca (tb_P L xs) 79 171 = some (12, 1, 1) := show tb_caF 79 171 = some (12, 1, 1) from by decide +kernel
theorem r79_48 {L : Nat} {xs : Nat → Int32} : am_rf (am_me (tb_P L xs) 12) + 1 ≤ am_rf (am_me (tb_P L xs) 79) ∧ 0 + (am_ml (am_me (tb_P L xs) 12) + 11) + am_rl (am_me (tb_P L xs) 12) ≤ am_rl (am_me (tb_P L xs) 79) := show am_rf (tb_me 12) + 1 ≤ am_rf (tb_me 79) ∧ 0 + (am_ml (tb_me 12) + 11) + am_rl (tb_me 12) ≤ am_rl (tb_me 79) from by decide +kernel
theorem k79_51 {L : Nat} {xs : Nat → Int32} : decode (am_cd (am_me (tb_P L xs) 79)) 51 = .ok (.bipush 6, 2) := show decode (am_cd (tb_me 79)) 51 = .ok (.bipush 6, 2) from by decide +kernel
theorem k79_53 {L : Nat} {xs : Nat → Int32} : decode (am_cd (am_me (tb_P L xs) 79)) 53 = .ok (.if_icmp .ne 11, 3) := show decode (am_cd (tb_me 79)) 53 = .ok (.if_icmp .ne 11, 3) from by decide +kernel
theorem k79_56 {L : Nat} {xs : Nat → Int32} : decode (am_cd (am_me (tb_P L xs) 79)) 56 = .ok (.new 85, 3) := show decode (am_cd (tb_me 79)) 56 = .ok (.new 85, 3) from by decide +kernel
theorem n79_56 {L : Nat} {xs : Nat → Int32} : am_nw (tb_P L xs) 79 85 = none := show tb_nwF 79 85 = none from by decide +kernel
theorem x79_56 {L : Nat} {xs : Nat → Int32} : am_xn (tb_P L xs) 79 85 87 = some 10 := show tb_xnF 79 85 87 = some 10 from by decide +kernel
theorem r79_56 {L : Nat} {xs : Nat → Int32} : 5 < am_rf (am_me (tb_P L xs) 79) ∧ 0 + 82 ≤ am_rl (am_me (tb_P L xs) 79) := show 5 < am_rf (tb_me 79) ∧ 0 + 82 ≤ am_rl (tb_me 79) from by decide +kernel
theorem k79_59 {L : Nat} {xs : Nat → Int32} : decode (am_cd (am_me (tb_P L xs) 79)) 59 = .ok (.dup, 1) := show decode (am_cd (tb_me 79)) 59 = .ok (.dup, 1) from by decide +kernel
theorem k79_60 {L : Nat} {xs : Nat → Int32} : decode (am_cd (am_me (tb_P L xs) 79)) 60 = .ok (.invokespecial 87, 3) := show decode (am_cd (tb_me 79)) 60 = .ok (.invokespecial 87, 3) from by decide +kernel
theorem k79_63 {L : Nat} {xs : Nat → Int32} : decode (am_cd (am_me (tb_P L xs) 79)) 63 = .ok (.athrow, 1) := show decode (am_cd (tb_me 79)) 63 = .ok (.athrow, 1) from by decide +kernel
theorem k79_64 {L : Nat} {xs : Nat → Int32} : decode (am_cd (am_me (tb_P L xs) 79)) 64 = .ok (.aload_n 0, 1) := show decode (am_cd (tb_me 79)) 64 = .ok (.aload_n 0, 1) from by decide +kernel
theorem k79_65 {L : Nat} {xs : Nat → Int32} : decode (am_cd (am_me (tb_P L xs) 79)) 65 = .ok (.getfield 37, 3) := show decode (am_cd (tb_me 79)) 65 = .ok (.getfield 37, 3) from by decide +kernel
theorem f79_65 {L : Nat} {xs : Nat → Int32} : am_fd (tb_P L xs) 79 37 = some (0, 3, (.object "GluedMachines$Model" : FieldType), false) := show tb_fdF 79 37 = some (0, 3, (.object "GluedMachines$Model" : FieldType), false) from by decide +kernel
theorem k79_68 {L : Nat} {xs : Nat → Int32} : decode (am_cd (am_me (tb_P L xs) 79)) 68 = .ok (.getfield 167, 3) := show decode (am_cd (tb_me 79)) 68 = .ok (.getfield 167, 3) from by decide +kernel
theorem f79_68 {L : Nat} {xs : Nat → Int32} : am_fd (tb_P L xs) 79 167 = some (5, 4, (.object "GluedMachines$Invariants" : FieldType), false) := show tb_fdF 79 167 = some (5, 4, (.object "GluedMachines$Invariants" : FieldType), false) from by decide +kernel
theorem k79_71 {L : Nat} {xs : Nat → Int32} : decode (am_cd (am_me (tb_P L xs) 79)) 71 = .ok (.iload_n 1, 1) := show decode (am_cd (tb_me 79)) 71 = .ok (.iload_n 1, 1) from by decide +kernel
theorem k79_72 {L : Nat} {xs : Nat → Int32} : decode (am_cd (am_me (tb_P L xs) 79)) 72 = .ok (.aload_n 3, 1) := show decode (am_cd (tb_me 79)) 72 = .ok (.aload_n 3, 1) from by decide +kernel
theorem k79_73 {L : Nat} {xs : Nat → Int32} : decode (am_cd (am_me (tb_P L xs) 79)) 73 = .ok (.invokevirtual 175, 3) := show decode (am_cd (tb_me 79)) 73 = .ok (.invokevirtual 175, 3) from by decide +kernel
theorem s79_73 {L : Nat} {xs : Nat → Int32} : am_sp (tb_P L xs) 79 175 = none := show tb_spF 79 175 = none from by decide +kernel
theorem c79_73 {L : Nat} {xs : Nat → Int32} : am_ca (tb_P L xs) 79 175 = some (81, 2, 1) := show tb_caF 79 175 = some (81, 2, 1) from by decide +kernel
theorem r79_73 {L : Nat} {xs : Nat → Int32} : am_rf (am_me (tb_P L xs) 81) + 1 ≤ am_rf (am_me (tb_P L xs) 79) ∧ 0 + (am_ml (am_me (tb_P L xs) 81) + 11) + am_rl (am_me (tb_P L xs) 81) ≤ am_rl (am_me (tb_P L xs) 79) := show am_rf (tb_me 81) + 1 ≤ am_rf (tb_me 79) ∧ 0 + (am_ml (tb_me 81) + 11) + am_rl (tb_me 81) ≤ am_rl (tb_me 79) from by decide +kernel
theorem k79_76 {L : Nat} {xs : Nat → Int32} : decode (am_cd (am_me (tb_P L xs) 79)) 76 = .ok (.ireturn, 1) := show decode (am_cd (tb_me 79)) 76 = .ok (.ireturn, 1) from by decide +kernel
theorem t79 {L : Nat} {xs : Nat → Int32} : am_rt (am_me (tb_P L xs) 79) = some (.int : FieldType) := show am_rt (tb_me 79) = some (.int : FieldType) from by decide +kernel
theorem l79 {L : Nat} {xs : Nat → Int32} : am_ml (am_me (tb_P L xs) 79) = 4 := show am_ml (tb_me 79) = 4 from by decide +kernel
theorem o79 {L : Nat} {xs : Nat → Int32} (pc : Nat) : am_no (tb_P L xs) 79 pc = true := show (am_hd (tb_me 79)).all (fun q => !(decide (q.1 ≤ pc) && decide (pc < q.2.1))) = true from by rw [show am_hd (tb_me 79) = [] by decide +kernel]; rfl
theorem k80_0 {L : Nat} {xs : Nat → Int32} : decode (am_cd (am_me (tb_P L xs) 80)) 0 = .ok (.aload_n 0, 1) := show decode (am_cd (tb_me 80)) 0 = .ok (.aload_n 0, 1) from by decide +kernel
theorem k80_1 {L : Nat} {xs : Nat → Int32} : decode (am_cd (am_me (tb_P L xs) 80)) 1 = .ok (.getfield 53, 3) := show decode (am_cd (tb_me 80)) 1 = .ok (.getfield 53, 3) from by decide +kernel
theorem f80_1 {L : Nat} {xs : Nat → Int32} : am_fd (tb_P L xs) 80 53 = some (2, 5, (.int : FieldType), false) := show tb_fdF 80 53 = some (2, 5, (.int : FieldType), false) from by decide +kernel
theorem k80_4 {L : Nat} {xs : Nat → Int32} : decode (am_cd (am_me (tb_P L xs) 80)) 4 = .ok (.bipush 64, 2) := show decode (am_cd (tb_me 80)) 4 = .ok (.bipush 64, 2) from by decide +kernel
theorem k80_6 {L : Nat} {xs : Nat → Int32} : decode (am_cd (am_me (tb_P L xs) 80)) 6 = .ok (.iand, 1) := show decode (am_cd (tb_me 80)) 6 = .ok (.iand, 1) from by decide +kernel
theorem k80_7 {L : Nat} {xs : Nat → Int32} : decode (am_cd (am_me (tb_P L xs) 80)) 7 = .ok (.ifCond .eq 7, 3) := show decode (am_cd (tb_me 80)) 7 = .ok (.ifCond .eq 7, 3) from by decide +kernel
theorem k80_10 {L : Nat} {xs : Nat → Int32} : decode (am_cd (am_me (tb_P L xs) 80)) 10 = .ok (.iconst 1, 1) := show decode (am_cd (tb_me 80)) 10 = .ok (.iconst 1, 1) from by decide +kernel
theorem k80_11 {L : Nat} {xs : Nat → Int32} : decode (am_cd (am_me (tb_P L xs) 80)) 11 = .ok (.goto 4, 3) := show decode (am_cd (tb_me 80)) 11 = .ok (.goto 4, 3) from by decide +kernel
theorem k80_14 {L : Nat} {xs : Nat → Int32} : decode (am_cd (am_me (tb_P L xs) 80)) 14 = .ok (.iconst 0, 1) := show decode (am_cd (tb_me 80)) 14 = .ok (.iconst 0, 1) from by decide +kernel
theorem k80_15 {L : Nat} {xs : Nat → Int32} : decode (am_cd (am_me (tb_P L xs) 80)) 15 = .ok (.ireturn, 1) := show decode (am_cd (tb_me 80)) 15 = .ok (.ireturn, 1) from by decide +kernel
theorem t80 {L : Nat} {xs : Nat → Int32} : am_rt (am_me (tb_P L xs) 80) = some (.boolean : FieldType) := show am_rt (tb_me 80) = some (.boolean : FieldType) from by decide +kernel
theorem l80 {L : Nat} {xs : Nat → Int32} : am_ml (am_me (tb_P L xs) 80) = 1 := show am_ml (tb_me 80) = 1 from by decide +kernel
theorem o80 {L : Nat} {xs : Nat → Int32} (pc : Nat) : am_no (tb_P L xs) 80 pc = true := show (am_hd (tb_me 80)).all (fun q => !(decide (q.1 ≤ pc) && decide (pc < q.2.1))) = true from by rw [show am_hd (tb_me 80) = [] by decide +kernel]; rfl
theorem k81_0 {L : Nat} {xs : Nat → Int32} : decode (am_cd (am_me (tb_P L xs) 81)) 0 = .ok (.aload_n 0, 1) := show decode (am_cd (tb_me 81)) 0 = .ok (.aload_n 0, 1) from by decide +kernel
theorem k81_1 {L : Nat} {xs : Nat → Int32} : decode (am_cd (am_me (tb_P L xs) 81)) 1 = .ok (.getfield 27, 3) := show decode (am_cd (tb_me 81)) 1 = .ok (.getfield 27, 3) from by decide +kernel
theorem f81_1 {L : Nat} {xs : Nat → Int32} : am_fd (tb_P L xs) 81 27 = some (4, 4, (.array .long : FieldType), false) := show tb_fdF 81 27 = some (4, 4, (.array .long : FieldType), false) from by decide +kernel
theorem k81_4 {L : Nat} {xs : Nat → Int32} : decode (am_cd (am_me (tb_P L xs) 81)) 4 = .ok (.lconst 0, 1) := show decode (am_cd (tb_me 81)) 4 = .ok (.lconst 0, 1) from by decide +kernel
theorem k81_5 {L : Nat} {xs : Nat → Int32} : decode (am_cd (am_me (tb_P L xs) 81)) 5 = .ok (.invokestatic 34, 3) := show decode (am_cd (tb_me 81)) 5 = .ok (.invokestatic 34, 3) from by decide +kernel
theorem s81_5 {L : Nat} {xs : Nat → Int32} : am_sp (tb_P L xs) 81 34 = none := show tb_spF 81 34 = none from by decide +kernel
theorem c81_5 {L : Nat} {xs : Nat → Int32} : am_ca (tb_P L xs) 81 34 = some (82, 2, 0) := show tb_caF 81 34 = some (82, 2, 0) from by decide +kernel
theorem r81_5 {L : Nat} {xs : Nat → Int32} : am_rf (am_me (tb_P L xs) 82) + 1 ≤ am_rf (am_me (tb_P L xs) 81) ∧ 0 + (am_ml (am_me (tb_P L xs) 82) + 11) + am_rl (am_me (tb_P L xs) 82) ≤ am_rl (am_me (tb_P L xs) 81) := show am_rf (tb_me 82) + 1 ≤ am_rf (tb_me 81) ∧ 0 + (am_ml (tb_me 82) + 11) + am_rl (tb_me 82) ≤ am_rl (tb_me 81) from by decide +kernel
theorem k81_8 {L : Nat} {xs : Nat → Int32} : decode (am_cd (am_me (tb_P L xs) 81)) 8 = .ok (.aload_n 0, 1) := show decode (am_cd (tb_me 81)) 8 = .ok (.aload_n 0, 1) from by decide +kernel
theorem k81_9 {L : Nat} {xs : Nat → Int32} : decode (am_cd (am_me (tb_P L xs) 81)) 9 = .ok (.getfield 31, 3) := show decode (am_cd (tb_me 81)) 9 = .ok (.getfield 31, 3) from by decide +kernel
theorem f81_9 {L : Nat} {xs : Nat → Int32} : am_fd (tb_P L xs) 81 31 = some (4, 5, (.array .long : FieldType), false) := show tb_fdF 81 31 = some (4, 5, (.array .long : FieldType), false) from by decide +kernel
theorem k81_12 {L : Nat} {xs : Nat → Int32} : decode (am_cd (am_me (tb_P L xs) 81)) 12 = .ok (.lconst 0, 1) := show decode (am_cd (tb_me 81)) 12 = .ok (.lconst 0, 1) from by decide +kernel
theorem k81_13 {L : Nat} {xs : Nat → Int32} : decode (am_cd (am_me (tb_P L xs) 81)) 13 = .ok (.invokestatic 34, 3) := show decode (am_cd (tb_me 81)) 13 = .ok (.invokestatic 34, 3) from by decide +kernel
theorem s81_13 {L : Nat} {xs : Nat → Int32} : am_sp (tb_P L xs) 81 34 = none := show tb_spF 81 34 = none from by decide +kernel
theorem c81_13 {L : Nat} {xs : Nat → Int32} : am_ca (tb_P L xs) 81 34 = some (82, 2, 0) := show tb_caF 81 34 = some (82, 2, 0) from by decide +kernel
theorem r81_13 {L : Nat} {xs : Nat → Int32} : am_rf (am_me (tb_P L xs) 82) + 1 ≤ am_rf (am_me (tb_P L xs) 81) ∧ 0 + (am_ml (am_me (tb_P L xs) 82) + 11) + am_rl (am_me (tb_P L xs) 82) ≤ am_rl (am_me (tb_P L xs) 81) := show am_rf (tb_me 82) + 1 ≤ am_rf (tb_me 81) ∧ 0 + (am_ml (tb_me 82) + 11) + am_rl (tb_me 82) ≤ am_rl (tb_me 81) from by decide +kernel
theorem k81_16 {L : Nat} {xs : Nat → Int32} : decode (am_cd (am_me (tb_P L xs) 81)) 16 = .ok (.iload_n 1, 1) := show decode (am_cd (tb_me 81)) 16 = .ok (.iload_n 1, 1) from by decide +kernel
theorem k81_17 {L : Nat} {xs : Nat → Int32} : decode (am_cd (am_me (tb_P L xs) 81)) 17 = .ok (.ifCond .ne 26, 3) := show decode (am_cd (tb_me 81)) 17 = .ok (.ifCond .ne 26, 3) from by decide +kernel
theorem k81_20 {L : Nat} {xs : Nat → Int32} : decode (am_cd (am_me (tb_P L xs) 81)) 20 = .ok (.aload_n 0, 1) := show decode (am_cd (tb_me 81)) 20 = .ok (.aload_n 0, 1) from by decide +kernel
theorem k81_21 {L : Nat} {xs : Nat → Int32} : decode (am_cd (am_me (tb_P L xs) 81)) 21 = .ok (.getfield 11, 3) := show decode (am_cd (tb_me 81)) 21 = .ok (.getfield 11, 3) from by decide +kernel
theorem f81_21 {L : Nat} {xs : Nat → Int32} : am_fd (tb_P L xs) 81 11 = some (4, 0, (.array (.object "GluedMachines$Formula") : FieldType), false) := show tb_fdF 81 11 = some (4, 0, (.array (.object "GluedMachines$Formula") : FieldType), false) from by decide +kernel
theorem k81_24 {L : Nat} {xs : Nat → Int32} : decode (am_cd (am_me (tb_P L xs) 81)) 24 = .ok (.aload_n 0, 1) := show decode (am_cd (tb_me 81)) 24 = .ok (.aload_n 0, 1) from by decide +kernel
theorem k81_25 {L : Nat} {xs : Nat → Int32} : decode (am_cd (am_me (tb_P L xs) 81)) 25 = .ok (.getfield 20, 3) := show decode (am_cd (tb_me 81)) 25 = .ok (.getfield 20, 3) from by decide +kernel
theorem f81_25 {L : Nat} {xs : Nat → Int32} : am_fd (tb_P L xs) 81 20 = some (4, 2, (.int : FieldType), true) := show tb_fdF 81 20 = some (4, 2, (.int : FieldType), true) from by decide +kernel
theorem k81_28 {L : Nat} {xs : Nat → Int32} : decode (am_cd (am_me (tb_P L xs) 81)) 28 = .ok (.aload_n 2, 1) := show decode (am_cd (tb_me 81)) 28 = .ok (.aload_n 2, 1) from by decide +kernel
theorem k81_29 {L : Nat} {xs : Nat → Int32} : decode (am_cd (am_me (tb_P L xs) 81)) 29 = .ok (.aastore, 1) := show decode (am_cd (tb_me 81)) 29 = .ok (.aastore, 1) from by decide +kernel
theorem k81_30 {L : Nat} {xs : Nat → Int32} : decode (am_cd (am_me (tb_P L xs) 81)) 30 = .ok (.aload_n 0, 1) := show decode (am_cd (tb_me 81)) 30 = .ok (.aload_n 0, 1) from by decide +kernel
theorem k81_31 {L : Nat} {xs : Nat → Int32} : decode (am_cd (am_me (tb_P L xs) 81)) 31 = .ok (.dup, 1) := show decode (am_cd (tb_me 81)) 31 = .ok (.dup, 1) from by decide +kernel
theorem k81_32 {L : Nat} {xs : Nat → Int32} : decode (am_cd (am_me (tb_P L xs) 81)) 32 = .ok (.getfield 20, 3) := show decode (am_cd (tb_me 81)) 32 = .ok (.getfield 20, 3) from by decide +kernel
theorem f81_32 {L : Nat} {xs : Nat → Int32} : am_fd (tb_P L xs) 81 20 = some (4, 2, (.int : FieldType), true) := show tb_fdF 81 20 = some (4, 2, (.int : FieldType), true) from by decide +kernel
theorem k81_35 {L : Nat} {xs : Nat → Int32} : decode (am_cd (am_me (tb_P L xs) 81)) 35 = .ok (.iconst 1, 1) := show decode (am_cd (tb_me 81)) 35 = .ok (.iconst 1, 1) from by decide +kernel
theorem k81_36 {L : Nat} {xs : Nat → Int32} : decode (am_cd (am_me (tb_P L xs) 81)) 36 = .ok (.iadd, 1) := show decode (am_cd (tb_me 81)) 36 = .ok (.iadd, 1) from by decide +kernel
theorem k81_37 {L : Nat} {xs : Nat → Int32} : decode (am_cd (am_me (tb_P L xs) 81)) 37 = .ok (.putfield 20, 3) := show decode (am_cd (tb_me 81)) 37 = .ok (.putfield 20, 3) from by decide +kernel
theorem f81_37 {L : Nat} {xs : Nat → Int32} : am_fd (tb_P L xs) 81 20 = some (4, 2, (.int : FieldType), true) := show tb_fdF 81 20 = some (4, 2, (.int : FieldType), true) from by decide +kernel
theorem k81_40 {L : Nat} {xs : Nat → Int32} : decode (am_cd (am_me (tb_P L xs) 81)) 40 = .ok (.goto 23, 3) := show decode (am_cd (tb_me 81)) 40 = .ok (.goto 23, 3) from by decide +kernel
theorem k81_43 {L : Nat} {xs : Nat → Int32} : decode (am_cd (am_me (tb_P L xs) 81)) 43 = .ok (.aload_n 0, 1) := show decode (am_cd (tb_me 81)) 43 = .ok (.aload_n 0, 1) from by decide +kernel
theorem k81_44 {L : Nat} {xs : Nat → Int32} : decode (am_cd (am_me (tb_P L xs) 81)) 44 = .ok (.getfield 17, 3) := show decode (am_cd (tb_me 81)) 44 = .ok (.getfield 17, 3) from by decide +kernel
theorem f81_44 {L : Nat} {xs : Nat → Int32} : am_fd (tb_P L xs) 81 17 = some (4, 1, (.array (.object "GluedMachines$Formula") : FieldType), false) := show tb_fdF 81 17 = some (4, 1, (.array (.object "GluedMachines$Formula") : FieldType), false) from by decide +kernel
theorem k81_47 {L : Nat} {xs : Nat → Int32} : decode (am_cd (am_me (tb_P L xs) 81)) 47 = .ok (.aload_n 0, 1) := show decode (am_cd (tb_me 81)) 47 = .ok (.aload_n 0, 1) from by decide +kernel
theorem k81_48 {L : Nat} {xs : Nat → Int32} : decode (am_cd (am_me (tb_P L xs) 81)) 48 = .ok (.getfield 24, 3) := show decode (am_cd (tb_me 81)) 48 = .ok (.getfield 24, 3) from by decide +kernel
theorem f81_48 {L : Nat} {xs : Nat → Int32} : am_fd (tb_P L xs) 81 24 = some (4, 3, (.int : FieldType), true) := show tb_fdF 81 24 = some (4, 3, (.int : FieldType), true) from by decide +kernel
theorem k81_51 {L : Nat} {xs : Nat → Int32} : decode (am_cd (am_me (tb_P L xs) 81)) 51 = .ok (.aload_n 2, 1) := show decode (am_cd (tb_me 81)) 51 = .ok (.aload_n 2, 1) from by decide +kernel
theorem k81_52 {L : Nat} {xs : Nat → Int32} : decode (am_cd (am_me (tb_P L xs) 81)) 52 = .ok (.aastore, 1) := show decode (am_cd (tb_me 81)) 52 = .ok (.aastore, 1) from by decide +kernel
theorem k81_53 {L : Nat} {xs : Nat → Int32} : decode (am_cd (am_me (tb_P L xs) 81)) 53 = .ok (.aload_n 0, 1) := show decode (am_cd (tb_me 81)) 53 = .ok (.aload_n 0, 1) from by decide +kernel
theorem k81_54 {L : Nat} {xs : Nat → Int32} : decode (am_cd (am_me (tb_P L xs) 81)) 54 = .ok (.dup, 1) := show decode (am_cd (tb_me 81)) 54 = .ok (.dup, 1) from by decide +kernel
theorem k81_55 {L : Nat} {xs : Nat → Int32} : decode (am_cd (am_me (tb_P L xs) 81)) 55 = .ok (.getfield 24, 3) := show decode (am_cd (tb_me 81)) 55 = .ok (.getfield 24, 3) from by decide +kernel
theorem f81_55 {L : Nat} {xs : Nat → Int32} : am_fd (tb_P L xs) 81 24 = some (4, 3, (.int : FieldType), true) := show tb_fdF 81 24 = some (4, 3, (.int : FieldType), true) from by decide +kernel
theorem k81_58 {L : Nat} {xs : Nat → Int32} : decode (am_cd (am_me (tb_P L xs) 81)) 58 = .ok (.iconst 1, 1) := show decode (am_cd (tb_me 81)) 58 = .ok (.iconst 1, 1) from by decide +kernel
theorem k81_59 {L : Nat} {xs : Nat → Int32} : decode (am_cd (am_me (tb_P L xs) 81)) 59 = .ok (.iadd, 1) := show decode (am_cd (tb_me 81)) 59 = .ok (.iadd, 1) from by decide +kernel
theorem k81_60 {L : Nat} {xs : Nat → Int32} : decode (am_cd (am_me (tb_P L xs) 81)) 60 = .ok (.putfield 24, 3) := show decode (am_cd (tb_me 81)) 60 = .ok (.putfield 24, 3) from by decide +kernel
theorem f81_60 {L : Nat} {xs : Nat → Int32} : am_fd (tb_P L xs) 81 24 = some (4, 3, (.int : FieldType), true) := show tb_fdF 81 24 = some (4, 3, (.int : FieldType), true) from by decide +kernel
theorem k81_63 {L : Nat} {xs : Nat → Int32} : decode (am_cd (am_me (tb_P L xs) 81)) 63 = .ok (.aload_n 0, 1) := show decode (am_cd (tb_me 81)) 63 = .ok (.aload_n 0, 1) from by decide +kernel
theorem k81_64 {L : Nat} {xs : Nat → Int32} : decode (am_cd (am_me (tb_P L xs) 81)) 64 = .ok (.iload_n 1, 1) := show decode (am_cd (tb_me 81)) 64 = .ok (.iload_n 1, 1) from by decide +kernel
theorem k81_65 {L : Nat} {xs : Nat → Int32} : decode (am_cd (am_me (tb_P L xs) 81)) 65 = .ok (.invokevirtual 40, 3) := show decode (am_cd (tb_me 81)) 65 = .ok (.invokevirtual 40, 3) from by decide +kernel
theorem s81_65 {L : Nat} {xs : Nat → Int32} : am_sp (tb_P L xs) 81 40 = none := show tb_spF 81 40 = none from by decide +kernel
theorem c81_65 {L : Nat} {xs : Nat → Int32} : am_ca (tb_P L xs) 81 40 = some (12, 1, 1) := show tb_caF 81 40 = some (12, 1, 1) from by decide +kernel
theorem r81_65 {L : Nat} {xs : Nat → Int32} : am_rf (am_me (tb_P L xs) 12) + 1 ≤ am_rf (am_me (tb_P L xs) 81) ∧ 0 + (am_ml (am_me (tb_P L xs) 12) + 11) + am_rl (am_me (tb_P L xs) 12) ≤ am_rl (am_me (tb_P L xs) 81) := show am_rf (tb_me 12) + 1 ≤ am_rf (tb_me 81) ∧ 0 + (am_ml (tb_me 12) + 11) + am_rl (tb_me 12) ≤ am_rl (tb_me 81) from by decide +kernel
theorem k81_68 {L : Nat} {xs : Nat → Int32} : decode (am_cd (am_me (tb_P L xs) 81)) 68 = .ok (.ireturn, 1) := show decode (am_cd (tb_me 81)) 68 = .ok (.ireturn, 1) from by decide +kernel
theorem t81 {L : Nat} {xs : Nat → Int32} : am_rt (am_me (tb_P L xs) 81) = some (.int : FieldType) := show am_rt (tb_me 81) = some (.int : FieldType) from by decide +kernel
theorem l81 {L : Nat} {xs : Nat → Int32} : am_ml (am_me (tb_P L xs) 81) = 3 := show am_ml (tb_me 81) = 3 from by decide +kernel
theorem o81 {L : Nat} {xs : Nat → Int32} (pc : Nat) : am_no (tb_P L xs) 81 pc = true := show (am_hd (tb_me 81)).all (fun q => !(decide (q.1 ≤ pc) && decide (pc < q.2.1))) = true from by rw [show am_hd (tb_me 81) = [] by decide +kernel]; rfl
theorem k82_0 {L : Nat} {xs : Nat → Int32} : decode (am_cd (am_me (tb_P L xs) 82)) 0 = .ok (.iconst 0, 1) := show decode (am_cd (tb_me 82)) 0 = .ok (.iconst 0, 1) from by decide +kernel
theorem k82_1 {L : Nat} {xs : Nat → Int32} : decode (am_cd (am_me (tb_P L xs) 82)) 1 = .ok (.istore_n 3, 1) := show decode (am_cd (tb_me 82)) 1 = .ok (.istore_n 3, 1) from by decide +kernel
theorem k82_2 {L : Nat} {xs : Nat → Int32} : decode (am_cd (am_me (tb_P L xs) 82)) 2 = .ok (.aload_n 0, 1) := show decode (am_cd (tb_me 82)) 2 = .ok (.aload_n 0, 1) from by decide +kernel
theorem k82_3 {L : Nat} {xs : Nat → Int32} : decode (am_cd (am_me (tb_P L xs) 82)) 3 = .ok (.arraylength, 1) := show decode (am_cd (tb_me 82)) 3 = .ok (.arraylength, 1) from by decide +kernel
theorem k82_4 {L : Nat} {xs : Nat → Int32} : decode (am_cd (am_me (tb_P L xs) 82)) 4 = .ok (.istore 4, 2) := show decode (am_cd (tb_me 82)) 4 = .ok (.istore 4, 2) from by decide +kernel
theorem k82_6 {L : Nat} {xs : Nat → Int32} : decode (am_cd (am_me (tb_P L xs) 82)) 6 = .ok (.iload_n 3, 1) := show decode (am_cd (tb_me 82)) 6 = .ok (.iload_n 3, 1) from by decide +kernel
theorem k82_7 {L : Nat} {xs : Nat → Int32} : decode (am_cd (am_me (tb_P L xs) 82)) 7 = .ok (.iload 4, 2) := show decode (am_cd (tb_me 82)) 7 = .ok (.iload 4, 2) from by decide +kernel
theorem k82_9 {L : Nat} {xs : Nat → Int32} : decode (am_cd (am_me (tb_P L xs) 82)) 9 = .ok (.if_icmp .ge 13, 3) := show decode (am_cd (tb_me 82)) 9 = .ok (.if_icmp .ge 13, 3) from by decide +kernel
theorem k82_12 {L : Nat} {xs : Nat → Int32} : decode (am_cd (am_me (tb_P L xs) 82)) 12 = .ok (.aload_n 0, 1) := show decode (am_cd (tb_me 82)) 12 = .ok (.aload_n 0, 1) from by decide +kernel
theorem k82_13 {L : Nat} {xs : Nat → Int32} : decode (am_cd (am_me (tb_P L xs) 82)) 13 = .ok (.iload_n 3, 1) := show decode (am_cd (tb_me 82)) 13 = .ok (.iload_n 3, 1) from by decide +kernel
theorem k82_14 {L : Nat} {xs : Nat → Int32} : decode (am_cd (am_me (tb_P L xs) 82)) 14 = .ok (.lload_n 1, 1) := show decode (am_cd (tb_me 82)) 14 = .ok (.lload_n 1, 1) from by decide +kernel
theorem k82_15 {L : Nat} {xs : Nat → Int32} : decode (am_cd (am_me (tb_P L xs) 82)) 15 = .ok (.lastore, 1) := show decode (am_cd (tb_me 82)) 15 = .ok (.lastore, 1) from by decide +kernel
theorem k82_16 {L : Nat} {xs : Nat → Int32} : decode (am_cd (am_me (tb_P L xs) 82)) 16 = .ok (.iinc 3 1, 3) := show decode (am_cd (tb_me 82)) 16 = .ok (.iinc 3 1, 3) from by decide +kernel
theorem k82_19 {L : Nat} {xs : Nat → Int32} : decode (am_cd (am_me (tb_P L xs) 82)) 19 = .ok (.goto (-13), 3) := show decode (am_cd (tb_me 82)) 19 = .ok (.goto (-13), 3) from by decide +kernel
theorem k82_22 {L : Nat} {xs : Nat → Int32} : decode (am_cd (am_me (tb_P L xs) 82)) 22 = .ok (.return_, 1) := show decode (am_cd (tb_me 82)) 22 = .ok (.return_, 1) from by decide +kernel
theorem t82 {L : Nat} {xs : Nat → Int32} : am_rt (am_me (tb_P L xs) 82) = none := show am_rt (tb_me 82) = none from by decide +kernel
theorem l82 {L : Nat} {xs : Nat → Int32} : am_ml (am_me (tb_P L xs) 82) = 5 := show am_ml (tb_me 82) = 5 from by decide +kernel
theorem o82 {L : Nat} {xs : Nat → Int32} (pc : Nat) : am_no (tb_P L xs) 82 pc = true := show (am_hd (tb_me 82)).all (fun q => !(decide (q.1 ≤ pc) && decide (pc < q.2.1))) = true from by rw [show am_hd (tb_me 82) = [] by decide +kernel]; rfl
theorem k83_0 {L : Nat} {xs : Nat → Int32} : decode (am_cd (am_me (tb_P L xs) 83)) 0 = .ok (.aload_n 0, 1) := show decode (am_cd (tb_me 83)) 0 = .ok (.aload_n 0, 1) from by decide +kernel
theorem k83_1 {L : Nat} {xs : Nat → Int32} : decode (am_cd (am_me (tb_P L xs) 83)) 1 = .ok (.iload_n 1, 1) := show decode (am_cd (tb_me 83)) 1 = .ok (.iload_n 1, 1) from by decide +kernel
theorem k83_2 {L : Nat} {xs : Nat → Int32} : decode (am_cd (am_me (tb_P L xs) 83)) 2 = .ok (.invokevirtual 43, 3) := show decode (am_cd (tb_me 83)) 2 = .ok (.invokevirtual 43, 3) from by decide +kernel
theorem s83_2 {L : Nat} {xs : Nat → Int32} : am_sp (tb_P L xs) 83 43 = none := show tb_spF 83 43 = none from by decide +kernel
theorem c83_2 {L : Nat} {xs : Nat → Int32} : am_ca (tb_P L xs) 83 43 = some (84, 1, 1) := show tb_caF 83 43 = some (84, 1, 1) from by decide +kernel
theorem r83_2 {L : Nat} {xs : Nat → Int32} : am_rf (am_me (tb_P L xs) 84) + 1 ≤ am_rf (am_me (tb_P L xs) 83) ∧ 0 + (am_ml (am_me (tb_P L xs) 84) + 11) + am_rl (am_me (tb_P L xs) 84) ≤ am_rl (am_me (tb_P L xs) 83) := show am_rf (tb_me 84) + 1 ≤ am_rf (tb_me 83) ∧ 0 + (am_ml (tb_me 84) + 11) + am_rl (tb_me 84) ≤ am_rl (tb_me 83) from by decide +kernel
theorem k83_5 {L : Nat} {xs : Nat → Int32} : decode (am_cd (am_me (tb_P L xs) 83)) 5 = .ok (.goto 6, 3) := show decode (am_cd (tb_me 83)) 5 = .ok (.goto 6, 3) from by decide +kernel
theorem k83_8 {L : Nat} {xs : Nat → Int32} : decode (am_cd (am_me (tb_P L xs) 83)) 8 = .ok (.astore_n 2, 1) := show decode (am_cd (tb_me 83)) 8 = .ok (.astore_n 2, 1) from by decide +kernel
theorem k83_9 {L : Nat} {xs : Nat → Int32} : decode (am_cd (am_me (tb_P L xs) 83)) 9 = .ok (.iconst 1, 1) := show decode (am_cd (tb_me 83)) 9 = .ok (.iconst 1, 1) from by decide +kernel
theorem k83_10 {L : Nat} {xs : Nat → Int32} : decode (am_cd (am_me (tb_P L xs) 83)) 10 = .ok (.ireturn, 1) := show decode (am_cd (tb_me 83)) 10 = .ok (.ireturn, 1) from by decide +kernel
theorem k83_11 {L : Nat} {xs : Nat → Int32} : decode (am_cd (am_me (tb_P L xs) 83)) 11 = .ok (.iconst 0, 1) := show decode (am_cd (tb_me 83)) 11 = .ok (.iconst 0, 1) from by decide +kernel
theorem k83_12 {L : Nat} {xs : Nat → Int32} : decode (am_cd (am_me (tb_P L xs) 83)) 12 = .ok (.ireturn, 1) := show decode (am_cd (tb_me 83)) 12 = .ok (.ireturn, 1) from by decide +kernel
theorem t83 {L : Nat} {xs : Nat → Int32} : am_rt (am_me (tb_P L xs) 83) = some (.int : FieldType) := show am_rt (tb_me 83) = some (.int : FieldType) from by decide +kernel
theorem l83 {L : Nat} {xs : Nat → Int32} : am_ml (am_me (tb_P L xs) 83) = 3 := show am_ml (tb_me 83) = 3 from by decide +kernel
theorem k84_0 {L : Nat} {xs : Nat → Int32} : decode (am_cd (am_me (tb_P L xs) 84)) 0 = .ok (.aload_n 0, 1) := show decode (am_cd (tb_me 84)) 0 = .ok (.aload_n 0, 1) from by decide +kernel
theorem k84_1 {L : Nat} {xs : Nat → Int32} : decode (am_cd (am_me (tb_P L xs) 84)) 1 = .ok (.iload_n 1, 1) := show decode (am_cd (tb_me 84)) 1 = .ok (.iload_n 1, 1) from by decide +kernel
theorem k84_2 {L : Nat} {xs : Nat → Int32} : decode (am_cd (am_me (tb_P L xs) 84)) 2 = .ok (.invokevirtual 142, 3) := show decode (am_cd (tb_me 84)) 2 = .ok (.invokevirtual 142, 3) from by decide +kernel
theorem s84_2 {L : Nat} {xs : Nat → Int32} : am_sp (tb_P L xs) 84 142 = none := show tb_spF 84 142 = none from by decide +kernel
theorem c84_2 {L : Nat} {xs : Nat → Int32} : am_ca (tb_P L xs) 84 142 = some (74, 1, 1) := show tb_caF 84 142 = some (74, 1, 1) from by decide +kernel
theorem r84_2 {L : Nat} {xs : Nat → Int32} : am_rf (am_me (tb_P L xs) 74) + 1 ≤ am_rf (am_me (tb_P L xs) 84) ∧ 0 + (am_ml (am_me (tb_P L xs) 74) + 11) + am_rl (am_me (tb_P L xs) 74) ≤ am_rl (am_me (tb_P L xs) 84) := show am_rf (tb_me 74) + 1 ≤ am_rf (tb_me 84) ∧ 0 + (am_ml (tb_me 74) + 11) + am_rl (tb_me 74) ≤ am_rl (tb_me 84) from by decide +kernel
theorem k84_5 {L : Nat} {xs : Nat → Int32} : decode (am_cd (am_me (tb_P L xs) 84)) 5 = .ok (.astore_n 2, 1) := show decode (am_cd (tb_me 84)) 5 = .ok (.astore_n 2, 1) from by decide +kernel
theorem k84_6 {L : Nat} {xs : Nat → Int32} : decode (am_cd (am_me (tb_P L xs) 84)) 6 = .ok (.aload_n 2, 1) := show decode (am_cd (tb_me 84)) 6 = .ok (.aload_n 2, 1) from by decide +kernel
theorem k84_7 {L : Nat} {xs : Nat → Int32} : decode (am_cd (am_me (tb_P L xs) 84)) 7 = .ok (.invokevirtual 161, 3) := show decode (am_cd (tb_me 84)) 7 = .ok (.invokevirtual 161, 3) from by decide +kernel
theorem s84_7 {L : Nat} {xs : Nat → Int32} : am_sp (tb_P L xs) 84 161 = none := show tb_spF 84 161 = none from by decide +kernel
theorem c84_7 {L : Nat} {xs : Nat → Int32} : am_ca (tb_P L xs) 84 161 = some (80, 0, 1) := show tb_caF 84 161 = some (80, 0, 1) from by decide +kernel
theorem r84_7 {L : Nat} {xs : Nat → Int32} : am_rf (am_me (tb_P L xs) 80) + 1 ≤ am_rf (am_me (tb_P L xs) 84) ∧ 0 + (am_ml (am_me (tb_P L xs) 80) + 11) + am_rl (am_me (tb_P L xs) 80) ≤ am_rl (am_me (tb_P L xs) 84) := show am_rf (tb_me 80) + 1 ≤ am_rf (tb_me 84) ∧ 0 + (am_ml (tb_me 80) + 11) + am_rl (tb_me 80) ≤ am_rl (tb_me 84) from by decide +kernel
theorem k84_10 {L : Nat} {xs : Nat → Int32} : decode (am_cd (am_me (tb_P L xs) 84)) 10 = .ok (.ifCond .ne 7, 3) := show decode (am_cd (tb_me 84)) 10 = .ok (.ifCond .ne 7, 3) from by decide +kernel
theorem k84_13 {L : Nat} {xs : Nat → Int32} : decode (am_cd (am_me (tb_P L xs) 84)) 13 = .ok (.iconst 1, 1) := show decode (am_cd (tb_me 84)) 13 = .ok (.iconst 1, 1) from by decide +kernel
theorem k84_14 {L : Nat} {xs : Nat → Int32} : decode (am_cd (am_me (tb_P L xs) 84)) 14 = .ok (.goto 4, 3) := show decode (am_cd (tb_me 84)) 14 = .ok (.goto 4, 3) from by decide +kernel
theorem k84_17 {L : Nat} {xs : Nat → Int32} : decode (am_cd (am_me (tb_P L xs) 84)) 17 = .ok (.iconst 0, 1) := show decode (am_cd (tb_me 84)) 17 = .ok (.iconst 0, 1) from by decide +kernel
theorem k84_18 {L : Nat} {xs : Nat → Int32} : decode (am_cd (am_me (tb_P L xs) 84)) 18 = .ok (.invokestatic 134, 3) := show decode (am_cd (tb_me 84)) 18 = .ok (.invokestatic 134, 3) from by decide +kernel
theorem s84_18 {L : Nat} {xs : Nat → Int32} : am_sp (tb_P L xs) 84 134 = none := show tb_spF 84 134 = none from by decide +kernel
theorem c84_18 {L : Nat} {xs : Nat → Int32} : am_ca (tb_P L xs) 84 134 = some (69, 1, 0) := show tb_caF 84 134 = some (69, 1, 0) from by decide +kernel
theorem r84_18 {L : Nat} {xs : Nat → Int32} : am_rf (am_me (tb_P L xs) 69) + 1 ≤ am_rf (am_me (tb_P L xs) 84) ∧ 0 + (am_ml (am_me (tb_P L xs) 69) + 11) + am_rl (am_me (tb_P L xs) 69) ≤ am_rl (am_me (tb_P L xs) 84) := show am_rf (tb_me 69) + 1 ≤ am_rf (tb_me 84) ∧ 0 + (am_ml (tb_me 69) + 11) + am_rl (tb_me 69) ≤ am_rl (tb_me 84) from by decide +kernel
theorem k84_21 {L : Nat} {xs : Nat → Int32} : decode (am_cd (am_me (tb_P L xs) 84)) 21 = .ok (.aload_n 0, 1) := show decode (am_cd (tb_me 84)) 21 = .ok (.aload_n 0, 1) from by decide +kernel
theorem k84_22 {L : Nat} {xs : Nat → Int32} : decode (am_cd (am_me (tb_P L xs) 84)) 22 = .ok (.getfield 37, 3) := show decode (am_cd (tb_me 84)) 22 = .ok (.getfield 37, 3) from by decide +kernel
theorem f84_22 {L : Nat} {xs : Nat → Int32} : am_fd (tb_P L xs) 84 37 = some (0, 3, (.object "GluedMachines$Model" : FieldType), false) := show tb_fdF 84 37 = some (0, 3, (.object "GluedMachines$Model" : FieldType), false) from by decide +kernel
theorem k84_25 {L : Nat} {xs : Nat → Int32} : decode (am_cd (am_me (tb_P L xs) 84)) 25 = .ok (.aload_n 2, 1) := show decode (am_cd (tb_me 84)) 25 = .ok (.aload_n 2, 1) from by decide +kernel
theorem k84_26 {L : Nat} {xs : Nat → Int32} : decode (am_cd (am_me (tb_P L xs) 84)) 26 = .ok (.putfield 178, 3) := show decode (am_cd (tb_me 84)) 26 = .ok (.putfield 178, 3) from by decide +kernel
theorem f84_26 {L : Nat} {xs : Nat → Int32} : am_fd (tb_P L xs) 84 178 = some (5, 5, (.object "GluedMachines$Formula" : FieldType), true) := show tb_fdF 84 178 = some (5, 5, (.object "GluedMachines$Formula" : FieldType), true) from by decide +kernel
theorem k84_29 {L : Nat} {xs : Nat → Int32} : decode (am_cd (am_me (tb_P L xs) 84)) 29 = .ok (.return_, 1) := show decode (am_cd (tb_me 84)) 29 = .ok (.return_, 1) from by decide +kernel
theorem t84 {L : Nat} {xs : Nat → Int32} : am_rt (am_me (tb_P L xs) 84) = none := show am_rt (tb_me 84) = none from by decide +kernel
theorem l84 {L : Nat} {xs : Nat → Int32} : am_ml (am_me (tb_P L xs) 84) = 3 := show am_ml (tb_me 84) = 3 from by decide +kernel
theorem o84 {L : Nat} {xs : Nat → Int32} (pc : Nat) : am_no (tb_P L xs) 84 pc = true := show (am_hd (tb_me 84)).all (fun q => !(decide (q.1 ≤ pc) && decide (pc < q.2.1))) = true from by rw [show am_hd (tb_me 84) = [] by decide +kernel]; rfl
theorem k85_0 {L : Nat} {xs : Nat → Int32} : decode (am_cd (am_me (tb_P L xs) 85)) 0 = .ok (.aload_n 3, 1) := show decode (am_cd (tb_me 85)) 0 = .ok (.aload_n 3, 1) from by decide +kernel
theorem k85_1 {L : Nat} {xs : Nat → Int32} : decode (am_cd (am_me (tb_P L xs) 85)) 1 = .ok (.iconst 0, 1) := show decode (am_cd (tb_me 85)) 1 = .ok (.iconst 0, 1) from by decide +kernel
theorem k85_2 {L : Nat} {xs : Nat → Int32} : decode (am_cd (am_me (tb_P L xs) 85)) 2 = .ok (.aload_n 0, 1) := show decode (am_cd (tb_me 85)) 2 = .ok (.aload_n 0, 1) from by decide +kernel
theorem k85_3 {L : Nat} {xs : Nat → Int32} : decode (am_cd (am_me (tb_P L xs) 85)) 3 = .ok (.iload_n 1, 1) := show decode (am_cd (tb_me 85)) 3 = .ok (.iload_n 1, 1) from by decide +kernel
theorem k85_4 {L : Nat} {xs : Nat → Int32} : decode (am_cd (am_me (tb_P L xs) 85)) 4 = .ok (.iload_n 2, 1) := show decode (am_cd (tb_me 85)) 4 = .ok (.iload_n 2, 1) from by decide +kernel
theorem k85_5 {L : Nat} {xs : Nat → Int32} : decode (am_cd (am_me (tb_P L xs) 85)) 5 = .ok (.invokevirtual 47, 3) := show decode (am_cd (tb_me 85)) 5 = .ok (.invokevirtual 47, 3) from by decide +kernel
theorem s85_5 {L : Nat} {xs : Nat → Int32} : am_sp (tb_P L xs) 85 47 = none := show tb_spF 85 47 = none from by decide +kernel
theorem c85_5 {L : Nat} {xs : Nat → Int32} : am_ca (tb_P L xs) 85 47 = some (86, 2, 1) := show tb_caF 85 47 = some (86, 2, 1) from by decide +kernel
theorem r85_5 {L : Nat} {xs : Nat → Int32} : am_rf (am_me (tb_P L xs) 86) + 1 ≤ am_rf (am_me (tb_P L xs) 85) ∧ 2 + (am_ml (am_me (tb_P L xs) 86) + 11) + am_rl (am_me (tb_P L xs) 86) ≤ am_rl (am_me (tb_P L xs) 85) := show am_rf (tb_me 86) + 1 ≤ am_rf (tb_me 85) ∧ 2 + (am_ml (tb_me 86) + 11) + am_rl (tb_me 86) ≤ am_rl (tb_me 85) from by decide +kernel
theorem k85_8 {L : Nat} {xs : Nat → Int32} : decode (am_cd (am_me (tb_P L xs) 85)) 8 = .ok (.ifCond .eq 7, 3) := show decode (am_cd (tb_me 85)) 8 = .ok (.ifCond .eq 7, 3) from by decide +kernel
theorem k85_11 {L : Nat} {xs : Nat → Int32} : decode (am_cd (am_me (tb_P L xs) 85)) 11 = .ok (.lconst 1, 1) := show decode (am_cd (tb_me 85)) 11 = .ok (.lconst 1, 1) from by decide +kernel
theorem k85_12 {L : Nat} {xs : Nat → Int32} : decode (am_cd (am_me (tb_P L xs) 85)) 12 = .ok (.goto 4, 3) := show decode (am_cd (tb_me 85)) 12 = .ok (.goto 4, 3) from by decide +kernel
theorem k85_15 {L : Nat} {xs : Nat → Int32} : decode (am_cd (am_me (tb_P L xs) 85)) 15 = .ok (.lconst 0, 1) := show decode (am_cd (tb_me 85)) 15 = .ok (.lconst 0, 1) from by decide +kernel
theorem k85_16 {L : Nat} {xs : Nat → Int32} : decode (am_cd (am_me (tb_P L xs) 85)) 16 = .ok (.lastore, 1) := show decode (am_cd (tb_me 85)) 16 = .ok (.lastore, 1) from by decide +kernel
theorem k85_17 {L : Nat} {xs : Nat → Int32} : decode (am_cd (am_me (tb_P L xs) 85)) 17 = .ok (.goto 7, 3) := show decode (am_cd (tb_me 85)) 17 = .ok (.goto 7, 3) from by decide +kernel
theorem k85_20 {L : Nat} {xs : Nat → Int32} : decode (am_cd (am_me (tb_P L xs) 85)) 20 = .ok (.astore 4, 2) := show decode (am_cd (tb_me 85)) 20 = .ok (.astore 4, 2) from by decide +kernel
theorem k85_22 {L : Nat} {xs : Nat → Int32} : decode (am_cd (am_me (tb_P L xs) 85)) 22 = .ok (.iconst 1, 1) := show decode (am_cd (tb_me 85)) 22 = .ok (.iconst 1, 1) from by decide +kernel
theorem k85_23 {L : Nat} {xs : Nat → Int32} : decode (am_cd (am_me (tb_P L xs) 85)) 23 = .ok (.ireturn, 1) := show decode (am_cd (tb_me 85)) 23 = .ok (.ireturn, 1) from by decide +kernel
theorem k85_24 {L : Nat} {xs : Nat → Int32} : decode (am_cd (am_me (tb_P L xs) 85)) 24 = .ok (.iconst 0, 1) := show decode (am_cd (tb_me 85)) 24 = .ok (.iconst 0, 1) from by decide +kernel
theorem k85_25 {L : Nat} {xs : Nat → Int32} : decode (am_cd (am_me (tb_P L xs) 85)) 25 = .ok (.ireturn, 1) := show decode (am_cd (tb_me 85)) 25 = .ok (.ireturn, 1) from by decide +kernel
theorem t85 {L : Nat} {xs : Nat → Int32} : am_rt (am_me (tb_P L xs) 85) = some (.int : FieldType) := show am_rt (tb_me 85) = some (.int : FieldType) from by decide +kernel
theorem l85 {L : Nat} {xs : Nat → Int32} : am_ml (am_me (tb_P L xs) 85) = 5 := show am_ml (tb_me 85) = 5 from by decide +kernel
theorem k86_0 {L : Nat} {xs : Nat → Int32} : decode (am_cd (am_me (tb_P L xs) 86)) 0 = .ok (.aload_n 0, 1) := show decode (am_cd (tb_me 86)) 0 = .ok (.aload_n 0, 1) from by decide +kernel
theorem k86_1 {L : Nat} {xs : Nat → Int32} : decode (am_cd (am_me (tb_P L xs) 86)) 1 = .ok (.iload_n 1, 1) := show decode (am_cd (tb_me 86)) 1 = .ok (.iload_n 1, 1) from by decide +kernel
theorem k86_2 {L : Nat} {xs : Nat → Int32} : decode (am_cd (am_me (tb_P L xs) 86)) 2 = .ok (.iload_n 2, 1) := show decode (am_cd (tb_me 86)) 2 = .ok (.iload_n 2, 1) from by decide +kernel
theorem k86_3 {L : Nat} {xs : Nat → Int32} : decode (am_cd (am_me (tb_P L xs) 86)) 3 = .ok (.invokevirtual 181, 3) := show decode (am_cd (tb_me 86)) 3 = .ok (.invokevirtual 181, 3) from by decide +kernel
theorem s86_3 {L : Nat} {xs : Nat → Int32} : am_sp (tb_P L xs) 86 181 = none := show tb_spF 86 181 = none from by decide +kernel
theorem c86_3 {L : Nat} {xs : Nat → Int32} : am_ca (tb_P L xs) 86 181 = some (87, 2, 1) := show tb_caF 86 181 = some (87, 2, 1) from by decide +kernel
theorem r86_3 {L : Nat} {xs : Nat → Int32} : am_rf (am_me (tb_P L xs) 87) + 1 ≤ am_rf (am_me (tb_P L xs) 86) ∧ 0 + (am_ml (am_me (tb_P L xs) 87) + 11) + am_rl (am_me (tb_P L xs) 87) ≤ am_rl (am_me (tb_P L xs) 86) := show am_rf (tb_me 87) + 1 ≤ am_rf (tb_me 86) ∧ 0 + (am_ml (tb_me 87) + 11) + am_rl (tb_me 87) ≤ am_rl (tb_me 86) from by decide +kernel
theorem k86_6 {L : Nat} {xs : Nat → Int32} : decode (am_cd (am_me (tb_P L xs) 86)) 6 = .ok (.invokestatic 134, 3) := show decode (am_cd (tb_me 86)) 6 = .ok (.invokestatic 134, 3) from by decide +kernel
theorem s86_6 {L : Nat} {xs : Nat → Int32} : am_sp (tb_P L xs) 86 134 = none := show tb_spF 86 134 = none from by decide +kernel
theorem c86_6 {L : Nat} {xs : Nat → Int32} : am_ca (tb_P L xs) 86 134 = some (69, 1, 0) := show tb_caF 86 134 = some (69, 1, 0) from by decide +kernel
theorem r86_6 {L : Nat} {xs : Nat → Int32} : am_rf (am_me (tb_P L xs) 69) + 1 ≤ am_rf (am_me (tb_P L xs) 86) ∧ 0 + (am_ml (am_me (tb_P L xs) 69) + 11) + am_rl (am_me (tb_P L xs) 69) ≤ am_rl (am_me (tb_P L xs) 86) := show am_rf (tb_me 69) + 1 ≤ am_rf (tb_me 86) ∧ 0 + (am_ml (tb_me 69) + 11) + am_rl (tb_me 69) ≤ am_rl (tb_me 86) from by decide +kernel
theorem k86_9 {L : Nat} {xs : Nat → Int32} : decode (am_cd (am_me (tb_P L xs) 86)) 9 = .ok (.iload_n 1, 1) := show decode (am_cd (tb_me 86)) 9 = .ok (.iload_n 1, 1) from by decide +kernel
theorem k86_10 {L : Nat} {xs : Nat → Int32} : decode (am_cd (am_me (tb_P L xs) 86)) 10 = .ok (.ifCond .ne 14, 3) := show decode (am_cd (tb_me 86)) 10 = .ok (.ifCond .ne 14, 3) from by decide +kernel
theorem k86_13 {L : Nat} {xs : Nat → Int32} : decode (am_cd (am_me (tb_P L xs) 86)) 13 = .ok (.aload_n 0, 1) := show decode (am_cd (tb_me 86)) 13 = .ok (.aload_n 0, 1) from by decide +kernel
theorem k86_14 {L : Nat} {xs : Nat → Int32} : decode (am_cd (am_me (tb_P L xs) 86)) 14 = .ok (.getfield 46, 3) := show decode (am_cd (tb_me 86)) 14 = .ok (.getfield 46, 3) from by decide +kernel
theorem f86_14 {L : Nat} {xs : Nat → Int32} : am_fd (tb_P L xs) 86 46 = some (0, 4, (.object "GluedMachines$Duties" : FieldType), false) := show tb_fdF 86 46 = some (0, 4, (.object "GluedMachines$Duties" : FieldType), false) from by decide +kernel
theorem k86_17 {L : Nat} {xs : Nat → Int32} : decode (am_cd (am_me (tb_P L xs) 86)) 17 = .ok (.invokevirtual 184, 3) := show decode (am_cd (tb_me 86)) 17 = .ok (.invokevirtual 184, 3) from by decide +kernel
theorem s86_17 {L : Nat} {xs : Nat → Int32} : am_sp (tb_P L xs) 86 184 = none := show tb_spF 86 184 = none from by decide +kernel
theorem c86_17 {L : Nat} {xs : Nat → Int32} : am_ca (tb_P L xs) 86 184 = some (8, 0, 1) := show tb_caF 86 184 = some (8, 0, 1) from by decide +kernel
theorem r86_17 {L : Nat} {xs : Nat → Int32} : am_rf (am_me (tb_P L xs) 8) + 1 ≤ am_rf (am_me (tb_P L xs) 86) ∧ 0 + (am_ml (am_me (tb_P L xs) 8) + 11) + am_rl (am_me (tb_P L xs) 8) ≤ am_rl (am_me (tb_P L xs) 86) := show am_rf (tb_me 8) + 1 ≤ am_rf (tb_me 86) ∧ 0 + (am_ml (tb_me 8) + 11) + am_rl (tb_me 8) ≤ am_rl (tb_me 86) from by decide +kernel
theorem k86_20 {L : Nat} {xs : Nat → Int32} : decode (am_cd (am_me (tb_P L xs) 86)) 20 = .ok (.istore_n 3, 1) := show decode (am_cd (tb_me 86)) 20 = .ok (.istore_n 3, 1) from by decide +kernel
theorem k86_21 {L : Nat} {xs : Nat → Int32} : decode (am_cd (am_me (tb_P L xs) 86)) 21 = .ok (.goto 44, 3) := show decode (am_cd (tb_me 86)) 21 = .ok (.goto 44, 3) from by decide +kernel
theorem k86_24 {L : Nat} {xs : Nat → Int32} : decode (am_cd (am_me (tb_P L xs) 86)) 24 = .ok (.iload_n 1, 1) := show decode (am_cd (tb_me 86)) 24 = .ok (.iload_n 1, 1) from by decide +kernel
theorem k86_25 {L : Nat} {xs : Nat → Int32} : decode (am_cd (am_me (tb_P L xs) 86)) 25 = .ok (.bipush 6, 2) := show decode (am_cd (tb_me 86)) 25 = .ok (.bipush 6, 2) from by decide +kernel
theorem k86_27 {L : Nat} {xs : Nat → Int32} : decode (am_cd (am_me (tb_P L xs) 86)) 27 = .ok (.if_icmp .ne 14, 3) := show decode (am_cd (tb_me 86)) 27 = .ok (.if_icmp .ne 14, 3) from by decide +kernel
theorem k86_30 {L : Nat} {xs : Nat → Int32} : decode (am_cd (am_me (tb_P L xs) 86)) 30 = .ok (.aload_n 0, 1) := show decode (am_cd (tb_me 86)) 30 = .ok (.aload_n 0, 1) from by decide +kernel
theorem k86_31 {L : Nat} {xs : Nat → Int32} : decode (am_cd (am_me (tb_P L xs) 86)) 31 = .ok (.getfield 46, 3) := show decode (am_cd (tb_me 86)) 31 = .ok (.getfield 46, 3) from by decide +kernel
theorem f86_31 {L : Nat} {xs : Nat → Int32} : am_fd (tb_P L xs) 86 46 = some (0, 4, (.object "GluedMachines$Duties" : FieldType), false) := show tb_fdF 86 46 = some (0, 4, (.object "GluedMachines$Duties" : FieldType), false) from by decide +kernel
theorem k86_34 {L : Nat} {xs : Nat → Int32} : decode (am_cd (am_me (tb_P L xs) 86)) 34 = .ok (.invokevirtual 187, 3) := show decode (am_cd (tb_me 86)) 34 = .ok (.invokevirtual 187, 3) from by decide +kernel
theorem s86_34 {L : Nat} {xs : Nat → Int32} : am_sp (tb_P L xs) 86 187 = none := show tb_spF 86 187 = none from by decide +kernel
theorem c86_34 {L : Nat} {xs : Nat → Int32} : am_ca (tb_P L xs) 86 187 = some (88, 0, 1) := show tb_caF 86 187 = some (88, 0, 1) from by decide +kernel
theorem r86_34 {L : Nat} {xs : Nat → Int32} : am_rf (am_me (tb_P L xs) 88) + 1 ≤ am_rf (am_me (tb_P L xs) 86) ∧ 0 + (am_ml (am_me (tb_P L xs) 88) + 11) + am_rl (am_me (tb_P L xs) 88) ≤ am_rl (am_me (tb_P L xs) 86) := show am_rf (tb_me 88) + 1 ≤ am_rf (tb_me 86) ∧ 0 + (am_ml (tb_me 88) + 11) + am_rl (tb_me 88) ≤ am_rl (tb_me 86) from by decide +kernel
theorem k86_37 {L : Nat} {xs : Nat → Int32} : decode (am_cd (am_me (tb_P L xs) 86)) 37 = .ok (.istore_n 3, 1) := show decode (am_cd (tb_me 86)) 37 = .ok (.istore_n 3, 1) from by decide +kernel
theorem k86_38 {L : Nat} {xs : Nat → Int32} : decode (am_cd (am_me (tb_P L xs) 86)) 38 = .ok (.goto 27, 3) := show decode (am_cd (tb_me 86)) 38 = .ok (.goto 27, 3) from by decide +kernel
theorem k86_41 {L : Nat} {xs : Nat → Int32} : decode (am_cd (am_me (tb_P L xs) 86)) 41 = .ok (.aload_n 0, 1) := show decode (am_cd (tb_me 86)) 41 = .ok (.aload_n 0, 1) from by decide +kernel
theorem k86_42 {L : Nat} {xs : Nat → Int32} : decode (am_cd (am_me (tb_P L xs) 86)) 42 = .ok (.getfield 46, 3) := show decode (am_cd (tb_me 86)) 42 = .ok (.getfield 46, 3) from by decide +kernel
theorem f86_42 {L : Nat} {xs : Nat → Int32} : am_fd (tb_P L xs) 86 46 = some (0, 4, (.object "GluedMachines$Duties" : FieldType), false) := show tb_fdF 86 46 = some (0, 4, (.object "GluedMachines$Duties" : FieldType), false) from by decide +kernel
theorem k86_45 {L : Nat} {xs : Nat → Int32} : decode (am_cd (am_me (tb_P L xs) 86)) 45 = .ok (.aload_n 0, 1) := show decode (am_cd (tb_me 86)) 45 = .ok (.aload_n 0, 1) from by decide +kernel
theorem k86_46 {L : Nat} {xs : Nat → Int32} : decode (am_cd (am_me (tb_P L xs) 86)) 46 = .ok (.iload_n 2, 1) := show decode (am_cd (tb_me 86)) 46 = .ok (.iload_n 2, 1) from by decide +kernel
theorem k86_47 {L : Nat} {xs : Nat → Int32} : decode (am_cd (am_me (tb_P L xs) 86)) 47 = .ok (.invokevirtual 123, 3) := show decode (am_cd (tb_me 86)) 47 = .ok (.invokevirtual 123, 3) from by decide +kernel
theorem s86_47 {L : Nat} {xs : Nat → Int32} : am_sp (tb_P L xs) 86 123 = none := show tb_spF 86 123 = none from by decide +kernel
theorem c86_47 {L : Nat} {xs : Nat → Int32} : am_ca (tb_P L xs) 86 123 = some (67, 1, 1) := show tb_caF 86 123 = some (67, 1, 1) from by decide +kernel
theorem r86_47 {L : Nat} {xs : Nat → Int32} : am_rf (am_me (tb_P L xs) 67) + 1 ≤ am_rf (am_me (tb_P L xs) 86) ∧ 1 + (am_ml (am_me (tb_P L xs) 67) + 11) + am_rl (am_me (tb_P L xs) 67) ≤ am_rl (am_me (tb_P L xs) 86) := show am_rf (tb_me 67) + 1 ≤ am_rf (tb_me 86) ∧ 1 + (am_ml (tb_me 67) + 11) + am_rl (tb_me 67) ≤ am_rl (tb_me 86) from by decide +kernel
theorem k86_50 {L : Nat} {xs : Nat → Int32} : decode (am_cd (am_me (tb_P L xs) 86)) 50 = .ok (.iconst 1, 1) := show decode (am_cd (tb_me 86)) 50 = .ok (.iconst 1, 1) from by decide +kernel
theorem k86_51 {L : Nat} {xs : Nat → Int32} : decode (am_cd (am_me (tb_P L xs) 86)) 51 = .ok (.iload_n 1, 1) := show decode (am_cd (tb_me 86)) 51 = .ok (.iload_n 1, 1) from by decide +kernel
theorem k86_52 {L : Nat} {xs : Nat → Int32} : decode (am_cd (am_me (tb_P L xs) 86)) 52 = .ok (.ishl, 1) := show decode (am_cd (tb_me 86)) 52 = .ok (.ishl, 1) from by decide +kernel
theorem k86_53 {L : Nat} {xs : Nat → Int32} : decode (am_cd (am_me (tb_P L xs) 86)) 53 = .ok (.invokevirtual 190, 3) := show decode (am_cd (tb_me 86)) 53 = .ok (.invokevirtual 190, 3) from by decide +kernel
theorem s86_53 {L : Nat} {xs : Nat → Int32} : am_sp (tb_P L xs) 86 190 = none := show tb_spF 86 190 = none from by decide +kernel
theorem c86_53 {L : Nat} {xs : Nat → Int32} : am_ca (tb_P L xs) 86 190 = some (17, 2, 1) := show tb_caF 86 190 = some (17, 2, 1) from by decide +kernel
theorem r86_53 {L : Nat} {xs : Nat → Int32} : am_rf (am_me (tb_P L xs) 17) + 1 ≤ am_rf (am_me (tb_P L xs) 86) ∧ 0 + (am_ml (am_me (tb_P L xs) 17) + 11) + am_rl (am_me (tb_P L xs) 17) ≤ am_rl (am_me (tb_P L xs) 86) := show am_rf (tb_me 17) + 1 ≤ am_rf (tb_me 86) ∧ 0 + (am_ml (tb_me 17) + 11) + am_rl (tb_me 17) ≤ am_rl (tb_me 86) from by decide +kernel
theorem k86_56 {L : Nat} {xs : Nat → Int32} : decode (am_cd (am_me (tb_P L xs) 86)) 56 = .ok (.ifCond .eq 7, 3) := show decode (am_cd (tb_me 86)) 56 = .ok (.ifCond .eq 7, 3) from by decide +kernel
theorem k86_59 {L : Nat} {xs : Nat → Int32} : decode (am_cd (am_me (tb_P L xs) 86)) 59 = .ok (.iconst 1, 1) := show decode (am_cd (tb_me 86)) 59 = .ok (.iconst 1, 1) from by decide +kernel
theorem k86_60 {L : Nat} {xs : Nat → Int32} : decode (am_cd (am_me (tb_P L xs) 86)) 60 = .ok (.goto 4, 3) := show decode (am_cd (tb_me 86)) 60 = .ok (.goto 4, 3) from by decide +kernel
theorem k86_63 {L : Nat} {xs : Nat → Int32} : decode (am_cd (am_me (tb_P L xs) 86)) 63 = .ok (.iconst 0, 1) := show decode (am_cd (tb_me 86)) 63 = .ok (.iconst 0, 1) from by decide +kernel
theorem k86_64 {L : Nat} {xs : Nat → Int32} : decode (am_cd (am_me (tb_P L xs) 86)) 64 = .ok (.istore_n 3, 1) := show decode (am_cd (tb_me 86)) 64 = .ok (.istore_n 3, 1) from by decide +kernel
theorem k86_65 {L : Nat} {xs : Nat → Int32} : decode (am_cd (am_me (tb_P L xs) 86)) 65 = .ok (.aload_n 0, 1) := show decode (am_cd (tb_me 86)) 65 = .ok (.aload_n 0, 1) from by decide +kernel
theorem k86_66 {L : Nat} {xs : Nat → Int32} : decode (am_cd (am_me (tb_P L xs) 86)) 66 = .ok (.iload_n 3, 1) := show decode (am_cd (tb_me 86)) 66 = .ok (.iload_n 3, 1) from by decide +kernel
theorem k86_67 {L : Nat} {xs : Nat → Int32} : decode (am_cd (am_me (tb_P L xs) 86)) 67 = .ok (.ifCond .ne 7, 3) := show decode (am_cd (tb_me 86)) 67 = .ok (.ifCond .ne 7, 3) from by decide +kernel
theorem k86_70 {L : Nat} {xs : Nat → Int32} : decode (am_cd (am_me (tb_P L xs) 86)) 70 = .ok (.iconst 1, 1) := show decode (am_cd (tb_me 86)) 70 = .ok (.iconst 1, 1) from by decide +kernel
theorem k86_71 {L : Nat} {xs : Nat → Int32} : decode (am_cd (am_me (tb_P L xs) 86)) 71 = .ok (.goto 4, 3) := show decode (am_cd (tb_me 86)) 71 = .ok (.goto 4, 3) from by decide +kernel
theorem k86_74 {L : Nat} {xs : Nat → Int32} : decode (am_cd (am_me (tb_P L xs) 86)) 74 = .ok (.iconst 0, 1) := show decode (am_cd (tb_me 86)) 74 = .ok (.iconst 0, 1) from by decide +kernel
theorem k86_75 {L : Nat} {xs : Nat → Int32} : decode (am_cd (am_me (tb_P L xs) 86)) 75 = .ok (.putfield 30, 3) := show decode (am_cd (tb_me 86)) 75 = .ok (.putfield 30, 3) from by decide +kernel
theorem f86_75 {L : Nat} {xs : Nat → Int32} : am_fd (tb_P L xs) 86 30 = some (0, 7, (.boolean : FieldType), true) := show tb_fdF 86 30 = some (0, 7, (.boolean : FieldType), true) from by decide +kernel
theorem k86_78 {L : Nat} {xs : Nat → Int32} : decode (am_cd (am_me (tb_P L xs) 86)) 78 = .ok (.aload_n 0, 1) := show decode (am_cd (tb_me 86)) 78 = .ok (.aload_n 0, 1) from by decide +kernel
theorem k86_79 {L : Nat} {xs : Nat → Int32} : decode (am_cd (am_me (tb_P L xs) 86)) 79 = .ok (.getfield 30, 3) := show decode (am_cd (tb_me 86)) 79 = .ok (.getfield 30, 3) from by decide +kernel
theorem f86_79 {L : Nat} {xs : Nat → Int32} : am_fd (tb_P L xs) 86 30 = some (0, 7, (.boolean : FieldType), true) := show tb_fdF 86 30 = some (0, 7, (.boolean : FieldType), true) from by decide +kernel
theorem k86_82 {L : Nat} {xs : Nat → Int32} : decode (am_cd (am_me (tb_P L xs) 86)) 82 = .ok (.ifCond .eq 21, 3) := show decode (am_cd (tb_me 86)) 82 = .ok (.ifCond .eq 21, 3) from by decide +kernel
theorem k86_85 {L : Nat} {xs : Nat → Int32} : decode (am_cd (am_me (tb_P L xs) 86)) 85 = .ok (.aload_n 0, 1) := show decode (am_cd (tb_me 86)) 85 = .ok (.aload_n 0, 1) from by decide +kernel
theorem k86_86 {L : Nat} {xs : Nat → Int32} : decode (am_cd (am_me (tb_P L xs) 86)) 86 = .ok (.getfield 46, 3) := show decode (am_cd (tb_me 86)) 86 = .ok (.getfield 46, 3) from by decide +kernel
theorem f86_86 {L : Nat} {xs : Nat → Int32} : am_fd (tb_P L xs) 86 46 = some (0, 4, (.object "GluedMachines$Duties" : FieldType), false) := show tb_fdF 86 46 = some (0, 4, (.object "GluedMachines$Duties" : FieldType), false) from by decide +kernel
theorem k86_89 {L : Nat} {xs : Nat → Int32} : decode (am_cd (am_me (tb_P L xs) 86)) 89 = .ok (.getfield 194, 3) := show decode (am_cd (tb_me 86)) 89 = .ok (.getfield 194, 3) from by decide +kernel
theorem f86_89 {L : Nat} {xs : Nat → Int32} : am_fd (tb_P L xs) 86 194 = some (6, 1, (.array .int : FieldType), false) := show tb_fdF 86 194 = some (6, 1, (.array .int : FieldType), false) from by decide +kernel
theorem k86_92 {L : Nat} {xs : Nat → Int32} : decode (am_cd (am_me (tb_P L xs) 86)) 92 = .ok (.iconst 0, 1) := show decode (am_cd (tb_me 86)) 92 = .ok (.iconst 0, 1) from by decide +kernel
theorem k86_93 {L : Nat} {xs : Nat → Int32} : decode (am_cd (am_me (tb_P L xs) 86)) 93 = .ok (.aload_n 0, 1) := show decode (am_cd (tb_me 86)) 93 = .ok (.aload_n 0, 1) from by decide +kernel
theorem k86_94 {L : Nat} {xs : Nat → Int32} : decode (am_cd (am_me (tb_P L xs) 86)) 94 = .ok (.getfield 26, 3) := show decode (am_cd (tb_me 86)) 94 = .ok (.getfield 26, 3) from by decide +kernel
theorem f86_94 {L : Nat} {xs : Nat → Int32} : am_fd (tb_P L xs) 86 26 = some (0, 6, (.array .int : FieldType), false) := show tb_fdF 86 26 = some (0, 6, (.array .int : FieldType), false) from by decide +kernel
theorem k86_97 {L : Nat} {xs : Nat → Int32} : decode (am_cd (am_me (tb_P L xs) 86)) 97 = .ok (.iconst 0, 1) := show decode (am_cd (tb_me 86)) 97 = .ok (.iconst 0, 1) from by decide +kernel
theorem k86_98 {L : Nat} {xs : Nat → Int32} : decode (am_cd (am_me (tb_P L xs) 86)) 98 = .ok (.bipush 7, 2) := show decode (am_cd (tb_me 86)) 98 = .ok (.bipush 7, 2) from by decide +kernel
theorem k86_100 {L : Nat} {xs : Nat → Int32} : decode (am_cd (am_me (tb_P L xs) 86)) 100 = .ok (.invokestatic 197, 3) := show decode (am_cd (tb_me 86)) 100 = .ok (.invokestatic 197, 3) from by decide +kernel
theorem s86_100 {L : Nat} {xs : Nat → Int32} : am_sp (tb_P L xs) 86 197 = some 3 := show tb_spF 86 197 = some 3 from by decide +kernel
theorem r86_100 {L : Nat} {xs : Nat → Int32} : 1 ≤ am_rf (am_me (tb_P L xs) 86) ∧ 0 + (nativeFrameWords "java/lang/System" "arraycopy" 5 + 11) ≤ am_rl (am_me (tb_P L xs) 86) := show 1 ≤ am_rf (tb_me 86) ∧ 0 + (nativeFrameWords "java/lang/System" "arraycopy" 5 + 11) ≤ am_rl (tb_me 86) from by decide +kernel
theorem k86_103 {L : Nat} {xs : Nat → Int32} : decode (am_cd (am_me (tb_P L xs) 86)) 103 = .ok (.iload_n 3, 1) := show decode (am_cd (tb_me 86)) 103 = .ok (.iload_n 3, 1) from by decide +kernel
theorem k86_104 {L : Nat} {xs : Nat → Int32} : decode (am_cd (am_me (tb_P L xs) 86)) 104 = .ok (.ireturn, 1) := show decode (am_cd (tb_me 86)) 104 = .ok (.ireturn, 1) from by decide +kernel
theorem t86 {L : Nat} {xs : Nat → Int32} : am_rt (am_me (tb_P L xs) 86) = some (.boolean : FieldType) := show am_rt (tb_me 86) = some (.boolean : FieldType) from by decide +kernel
theorem l86 {L : Nat} {xs : Nat → Int32} : am_ml (am_me (tb_P L xs) 86) = 4 := show am_ml (tb_me 86) = 4 from by decide +kernel
theorem o86 {L : Nat} {xs : Nat → Int32} (pc : Nat) : am_no (tb_P L xs) 86 pc = true := show (am_hd (tb_me 86)).all (fun q => !(decide (q.1 ≤ pc) && decide (pc < q.2.1))) = true from by rw [show am_hd (tb_me 86) = [] by decide +kernel]; rfl
theorem k87_0 {L : Nat} {xs : Nat → Int32} : decode (am_cd (am_me (tb_P L xs) 87)) 0 = .ok (.iload_n 1, 1) := show decode (am_cd (tb_me 87)) 0 = .ok (.iload_n 1, 1) from by decide +kernel
theorem k87_1 {L : Nat} {xs : Nat → Int32} : decode (am_cd (am_me (tb_P L xs) 87)) 1 = .ok (.ifCond .eq 9, 3) := show decode (am_cd (tb_me 87)) 1 = .ok (.ifCond .eq 9, 3) from by decide +kernel
theorem k87_4 {L : Nat} {xs : Nat → Int32} : decode (am_cd (am_me (tb_P L xs) 87)) 4 = .ok (.iload_n 1, 1) := show decode (am_cd (tb_me 87)) 4 = .ok (.iload_n 1, 1) from by decide +kernel
theorem k87_5 {L : Nat} {xs : Nat → Int32} : decode (am_cd (am_me (tb_P L xs) 87)) 5 = .ok (.bipush 6, 2) := show decode (am_cd (tb_me 87)) 5 = .ok (.bipush 6, 2) from by decide +kernel
theorem k87_7 {L : Nat} {xs : Nat → Int32} : decode (am_cd (am_me (tb_P L xs) 87)) 7 = .ok (.if_icmp .ne 13, 3) := show decode (am_cd (tb_me 87)) 7 = .ok (.if_icmp .ne 13, 3) from by decide +kernel
theorem k87_10 {L : Nat} {xs : Nat → Int32} : decode (am_cd (am_me (tb_P L xs) 87)) 10 = .ok (.iload_n 2, 1) := show decode (am_cd (tb_me 87)) 10 = .ok (.iload_n 2, 1) from by decide +kernel
theorem k87_11 {L : Nat} {xs : Nat → Int32} : decode (am_cd (am_me (tb_P L xs) 87)) 11 = .ok (.ifCond .ne 7, 3) := show decode (am_cd (tb_me 87)) 11 = .ok (.ifCond .ne 7, 3) from by decide +kernel
theorem k87_14 {L : Nat} {xs : Nat → Int32} : decode (am_cd (am_me (tb_P L xs) 87)) 14 = .ok (.iconst 1, 1) := show decode (am_cd (tb_me 87)) 14 = .ok (.iconst 1, 1) from by decide +kernel
theorem k87_15 {L : Nat} {xs : Nat → Int32} : decode (am_cd (am_me (tb_P L xs) 87)) 15 = .ok (.goto 4, 3) := show decode (am_cd (tb_me 87)) 15 = .ok (.goto 4, 3) from by decide +kernel
theorem k87_18 {L : Nat} {xs : Nat → Int32} : decode (am_cd (am_me (tb_P L xs) 87)) 18 = .ok (.iconst 0, 1) := show decode (am_cd (tb_me 87)) 18 = .ok (.iconst 0, 1) from by decide +kernel
theorem k87_19 {L : Nat} {xs : Nat → Int32} : decode (am_cd (am_me (tb_P L xs) 87)) 19 = .ok (.ireturn, 1) := show decode (am_cd (tb_me 87)) 19 = .ok (.ireturn, 1) from by decide +kernel
theorem k87_20 {L : Nat} {xs : Nat → Int32} : decode (am_cd (am_me (tb_P L xs) 87)) 20 = .ok (.aload_n 0, 1) := show decode (am_cd (tb_me 87)) 20 = .ok (.aload_n 0, 1) from by decide +kernel
theorem k87_21 {L : Nat} {xs : Nat → Int32} : decode (am_cd (am_me (tb_P L xs) 87)) 21 = .ok (.getfield 37, 3) := show decode (am_cd (tb_me 87)) 21 = .ok (.getfield 37, 3) from by decide +kernel
theorem f87_21 {L : Nat} {xs : Nat → Int32} : am_fd (tb_P L xs) 87 37 = some (0, 3, (.object "GluedMachines$Model" : FieldType), false) := show tb_fdF 87 37 = some (0, 3, (.object "GluedMachines$Model" : FieldType), false) from by decide +kernel
theorem k87_24 {L : Nat} {xs : Nat → Int32} : decode (am_cd (am_me (tb_P L xs) 87)) 24 = .ok (.iload_n 2, 1) := show decode (am_cd (tb_me 87)) 24 = .ok (.iload_n 2, 1) from by decide +kernel
theorem k87_25 {L : Nat} {xs : Nat → Int32} : decode (am_cd (am_me (tb_P L xs) 87)) 25 = .ok (.invokevirtual 113, 3) := show decode (am_cd (tb_me 87)) 25 = .ok (.invokevirtual 113, 3) from by decide +kernel
theorem s87_25 {L : Nat} {xs : Nat → Int32} : am_sp (tb_P L xs) 87 113 = none := show tb_spF 87 113 = none from by decide +kernel
theorem c87_25 {L : Nat} {xs : Nat → Int32} : am_ca (tb_P L xs) 87 113 = some (62, 1, 1) := show tb_caF 87 113 = some (62, 1, 1) from by decide +kernel
theorem r87_25 {L : Nat} {xs : Nat → Int32} : am_rf (am_me (tb_P L xs) 62) + 1 ≤ am_rf (am_me (tb_P L xs) 87) ∧ 0 + (am_ml (am_me (tb_P L xs) 62) + 11) + am_rl (am_me (tb_P L xs) 62) ≤ am_rl (am_me (tb_P L xs) 87) := show am_rf (tb_me 62) + 1 ≤ am_rf (tb_me 87) ∧ 0 + (am_ml (tb_me 62) + 11) + am_rl (tb_me 62) ≤ am_rl (tb_me 87) from by decide +kernel
theorem k87_28 {L : Nat} {xs : Nat → Int32} : decode (am_cd (am_me (tb_P L xs) 87)) 28 = .ok (.astore_n 3, 1) := show decode (am_cd (tb_me 87)) 28 = .ok (.astore_n 3, 1) from by decide +kernel
theorem k87_29 {L : Nat} {xs : Nat → Int32} : decode (am_cd (am_me (tb_P L xs) 87)) 29 = .ok (.aload_n 3, 1) := show decode (am_cd (tb_me 87)) 29 = .ok (.aload_n 3, 1) from by decide +kernel
theorem k87_30 {L : Nat} {xs : Nat → Int32} : decode (am_cd (am_me (tb_P L xs) 87)) 30 = .ok (.ifnull 25, 3) := show decode (am_cd (tb_me 87)) 30 = .ok (.ifnull 25, 3) from by decide +kernel
theorem k87_33 {L : Nat} {xs : Nat → Int32} : decode (am_cd (am_me (tb_P L xs) 87)) 33 = .ok (.iload_n 1, 1) := show decode (am_cd (tb_me 87)) 33 = .ok (.iload_n 1, 1) from by decide +kernel
theorem k87_34 {L : Nat} {xs : Nat → Int32} : decode (am_cd (am_me (tb_P L xs) 87)) 34 = .ok (.ifCond .le 21, 3) := show decode (am_cd (tb_me 87)) 34 = .ok (.ifCond .le 21, 3) from by decide +kernel
theorem k87_37 {L : Nat} {xs : Nat → Int32} : decode (am_cd (am_me (tb_P L xs) 87)) 37 = .ok (.iload_n 1, 1) := show decode (am_cd (tb_me 87)) 37 = .ok (.iload_n 1, 1) from by decide +kernel
theorem k87_38 {L : Nat} {xs : Nat → Int32} : decode (am_cd (am_me (tb_P L xs) 87)) 38 = .ok (.bipush 6, 2) := show decode (am_cd (tb_me 87)) 38 = .ok (.bipush 6, 2) from by decide +kernel
theorem k87_40 {L : Nat} {xs : Nat → Int32} : decode (am_cd (am_me (tb_P L xs) 87)) 40 = .ok (.if_icmp .ge 15, 3) := show decode (am_cd (tb_me 87)) 40 = .ok (.if_icmp .ge 15, 3) from by decide +kernel
theorem k87_43 {L : Nat} {xs : Nat → Int32} : decode (am_cd (am_me (tb_P L xs) 87)) 43 = .ok (.aload_n 3, 1) := show decode (am_cd (tb_me 87)) 43 = .ok (.aload_n 3, 1) from by decide +kernel
theorem k87_44 {L : Nat} {xs : Nat → Int32} : decode (am_cd (am_me (tb_P L xs) 87)) 44 = .ok (.iload_n 1, 1) := show decode (am_cd (tb_me 87)) 44 = .ok (.iload_n 1, 1) from by decide +kernel
theorem k87_45 {L : Nat} {xs : Nat → Int32} : decode (am_cd (am_me (tb_P L xs) 87)) 45 = .ok (.invokevirtual 256, 3) := show decode (am_cd (tb_me 87)) 45 = .ok (.invokevirtual 256, 3) from by decide +kernel
theorem s87_45 {L : Nat} {xs : Nat → Int32} : am_sp (tb_P L xs) 87 256 = none := show tb_spF 87 256 = none from by decide +kernel
theorem c87_45 {L : Nat} {xs : Nat → Int32} : am_ca (tb_P L xs) 87 256 = some (21, 1, 1) := show tb_caF 87 256 = some (21, 1, 1) from by decide +kernel
theorem r87_45 {L : Nat} {xs : Nat → Int32} : am_rf (am_me (tb_P L xs) 21) + 1 ≤ am_rf (am_me (tb_P L xs) 87) ∧ 0 + (am_ml (am_me (tb_P L xs) 21) + 11) + am_rl (am_me (tb_P L xs) 21) ≤ am_rl (am_me (tb_P L xs) 87) := show am_rf (tb_me 21) + 1 ≤ am_rf (tb_me 87) ∧ 0 + (am_ml (tb_me 21) + 11) + am_rl (tb_me 21) ≤ am_rl (tb_me 87) from by decide +kernel
theorem k87_48 {L : Nat} {xs : Nat → Int32} : decode (am_cd (am_me (tb_P L xs) 87)) 48 = .ok (.ifCond .eq 7, 3) := show decode (am_cd (tb_me 87)) 48 = .ok (.ifCond .eq 7, 3) from by decide +kernel
theorem k87_51 {L : Nat} {xs : Nat → Int32} : decode (am_cd (am_me (tb_P L xs) 87)) 51 = .ok (.iconst 1, 1) := show decode (am_cd (tb_me 87)) 51 = .ok (.iconst 1, 1) from by decide +kernel
theorem k87_52 {L : Nat} {xs : Nat → Int32} : decode (am_cd (am_me (tb_P L xs) 87)) 52 = .ok (.goto 4, 3) := show decode (am_cd (tb_me 87)) 52 = .ok (.goto 4, 3) from by decide +kernel
theorem k87_55 {L : Nat} {xs : Nat → Int32} : decode (am_cd (am_me (tb_P L xs) 87)) 55 = .ok (.iconst 0, 1) := show decode (am_cd (tb_me 87)) 55 = .ok (.iconst 0, 1) from by decide +kernel
theorem k87_56 {L : Nat} {xs : Nat → Int32} : decode (am_cd (am_me (tb_P L xs) 87)) 56 = .ok (.ireturn, 1) := show decode (am_cd (tb_me 87)) 56 = .ok (.ireturn, 1) from by decide +kernel
theorem t87 {L : Nat} {xs : Nat → Int32} : am_rt (am_me (tb_P L xs) 87) = some (.boolean : FieldType) := show am_rt (tb_me 87) = some (.boolean : FieldType) from by decide +kernel
theorem l87 {L : Nat} {xs : Nat → Int32} : am_ml (am_me (tb_P L xs) 87) = 4 := show am_ml (tb_me 87) = 4 from by decide +kernel
theorem o87 {L : Nat} {xs : Nat → Int32} (pc : Nat) : am_no (tb_P L xs) 87 pc = true := show (am_hd (tb_me 87)).all (fun q => !(decide (q.1 ≤ pc) && decide (pc < q.2.1))) = true from by rw [show am_hd (tb_me 87) = [] by decide +kernel]; rfl
theorem k88_0 {L : Nat} {xs : Nat → Int32} : decode (am_cd (am_me (tb_P L xs) 88)) 0 = .ok (.aload_n 0, 1) := show decode (am_cd (tb_me 88)) 0 = .ok (.aload_n 0, 1) from by decide +kernel
theorem k88_1 {L : Nat} {xs : Nat → Int32} : decode (am_cd (am_me (tb_P L xs) 88)) 1 = .ok (.getfield 22, 3) := show decode (am_cd (tb_me 88)) 1 = .ok (.getfield 22, 3) from by decide +kernel
theorem f88_1 {L : Nat} {xs : Nat → Int32} : am_fd (tb_P L xs) 88 22 = some (6, 0, (.object "GluedMachines$Model" : FieldType), false) := show tb_fdF 88 22 = some (6, 0, (.object "GluedMachines$Model" : FieldType), false) from by decide +kernel
theorem k88_4 {L : Nat} {xs : Nat → Int32} : decode (am_cd (am_me (tb_P L xs) 88)) 4 = .ok (.getfield 37, 3) := show decode (am_cd (tb_me 88)) 4 = .ok (.getfield 37, 3) from by decide +kernel
theorem f88_4 {L : Nat} {xs : Nat → Int32} : am_fd (tb_P L xs) 88 37 = some (5, 4, (.object "GluedMachines$Invariants" : FieldType), false) := show tb_fdF 88 37 = some (5, 4, (.object "GluedMachines$Invariants" : FieldType), false) from by decide +kernel
theorem k88_7 {L : Nat} {xs : Nat → Int32} : decode (am_cd (am_me (tb_P L xs) 88)) 7 = .ok (.iconst 1, 1) := show decode (am_cd (tb_me 88)) 7 = .ok (.iconst 1, 1) from by decide +kernel
theorem k88_8 {L : Nat} {xs : Nat → Int32} : decode (am_cd (am_me (tb_P L xs) 88)) 8 = .ok (.invokevirtual 47, 3) := show decode (am_cd (tb_me 88)) 8 = .ok (.invokevirtual 47, 3) from by decide +kernel
theorem s88_8 {L : Nat} {xs : Nat → Int32} : am_sp (tb_P L xs) 88 47 = none := show tb_spF 88 47 = none from by decide +kernel
theorem c88_8 {L : Nat} {xs : Nat → Int32} : am_ca (tb_P L xs) 88 47 = some (20, 1, 1) := show tb_caF 88 47 = some (20, 1, 1) from by decide +kernel
theorem r88_8 {L : Nat} {xs : Nat → Int32} : am_rf (am_me (tb_P L xs) 20) + 1 ≤ am_rf (am_me (tb_P L xs) 88) ∧ 0 + (am_ml (am_me (tb_P L xs) 20) + 11) + am_rl (am_me (tb_P L xs) 20) ≤ am_rl (am_me (tb_P L xs) 88) := show am_rf (tb_me 20) + 1 ≤ am_rf (tb_me 88) ∧ 0 + (am_ml (tb_me 20) + 11) + am_rl (tb_me 20) ≤ am_rl (tb_me 88) from by decide +kernel
theorem k88_11 {L : Nat} {xs : Nat → Int32} : decode (am_cd (am_me (tb_P L xs) 88)) 11 = .ok (.istore_n 1, 1) := show decode (am_cd (tb_me 88)) 11 = .ok (.istore_n 1, 1) from by decide +kernel
theorem k88_12 {L : Nat} {xs : Nat → Int32} : decode (am_cd (am_me (tb_P L xs) 88)) 12 = .ok (.iconst 0, 1) := show decode (am_cd (tb_me 88)) 12 = .ok (.iconst 0, 1) from by decide +kernel
theorem k88_13 {L : Nat} {xs : Nat → Int32} : decode (am_cd (am_me (tb_P L xs) 88)) 13 = .ok (.istore_n 2, 1) := show decode (am_cd (tb_me 88)) 13 = .ok (.istore_n 2, 1) from by decide +kernel
theorem k88_14 {L : Nat} {xs : Nat → Int32} : decode (am_cd (am_me (tb_P L xs) 88)) 14 = .ok (.iload_n 2, 1) := show decode (am_cd (tb_me 88)) 14 = .ok (.iload_n 2, 1) from by decide +kernel
theorem k88_15 {L : Nat} {xs : Nat → Int32} : decode (am_cd (am_me (tb_P L xs) 88)) 15 = .ok (.aload_n 0, 1) := show decode (am_cd (tb_me 88)) 15 = .ok (.aload_n 0, 1) from by decide +kernel
theorem k88_16 {L : Nat} {xs : Nat → Int32} : decode (am_cd (am_me (tb_P L xs) 88)) 16 = .ok (.getfield 22, 3) := show decode (am_cd (tb_me 88)) 16 = .ok (.getfield 22, 3) from by decide +kernel
theorem f88_16 {L : Nat} {xs : Nat → Int32} : am_fd (tb_P L xs) 88 22 = some (6, 0, (.object "GluedMachines$Model" : FieldType), false) := show tb_fdF 88 22 = some (6, 0, (.object "GluedMachines$Model" : FieldType), false) from by decide +kernel
theorem k88_19 {L : Nat} {xs : Nat → Int32} : decode (am_cd (am_me (tb_P L xs) 88)) 19 = .ok (.getfield 51, 3) := show decode (am_cd (tb_me 88)) 19 = .ok (.getfield 51, 3) from by decide +kernel
theorem f88_19 {L : Nat} {xs : Nat → Int32} : am_fd (tb_P L xs) 88 51 = some (5, 3, (.int : FieldType), true) := show tb_fdF 88 51 = some (5, 3, (.int : FieldType), true) from by decide +kernel
theorem k88_22 {L : Nat} {xs : Nat → Int32} : decode (am_cd (am_me (tb_P L xs) 88)) 22 = .ok (.if_icmp .ge 44, 3) := show decode (am_cd (tb_me 88)) 22 = .ok (.if_icmp .ge 44, 3) from by decide +kernel
theorem k88_25 {L : Nat} {xs : Nat → Int32} : decode (am_cd (am_me (tb_P L xs) 88)) 25 = .ok (.iload_n 1, 1) := show decode (am_cd (tb_me 88)) 25 = .ok (.iload_n 1, 1) from by decide +kernel
theorem k88_26 {L : Nat} {xs : Nat → Int32} : decode (am_cd (am_me (tb_P L xs) 88)) 26 = .ok (.aload_n 0, 1) := show decode (am_cd (tb_me 88)) 26 = .ok (.aload_n 0, 1) from by decide +kernel
theorem k88_27 {L : Nat} {xs : Nat → Int32} : decode (am_cd (am_me (tb_P L xs) 88)) 27 = .ok (.getfield 22, 3) := show decode (am_cd (tb_me 88)) 27 = .ok (.getfield 22, 3) from by decide +kernel
theorem f88_27 {L : Nat} {xs : Nat → Int32} : am_fd (tb_P L xs) 88 22 = some (6, 0, (.object "GluedMachines$Model" : FieldType), false) := show tb_fdF 88 22 = some (6, 0, (.object "GluedMachines$Model" : FieldType), false) from by decide +kernel
theorem k88_30 {L : Nat} {xs : Nat → Int32} : decode (am_cd (am_me (tb_P L xs) 88)) 30 = .ok (.getfield 54, 3) := show decode (am_cd (tb_me 88)) 30 = .ok (.getfield 54, 3) from by decide +kernel
theorem f88_30 {L : Nat} {xs : Nat → Int32} : am_fd (tb_P L xs) 88 54 = some (5, 2, (.array (.object "GluedMachines$Event") : FieldType), false) := show tb_fdF 88 54 = some (5, 2, (.array (.object "GluedMachines$Event") : FieldType), false) from by decide +kernel
theorem k88_33 {L : Nat} {xs : Nat → Int32} : decode (am_cd (am_me (tb_P L xs) 88)) 33 = .ok (.iload_n 2, 1) := show decode (am_cd (tb_me 88)) 33 = .ok (.iload_n 2, 1) from by decide +kernel
theorem k88_34 {L : Nat} {xs : Nat → Int32} : decode (am_cd (am_me (tb_P L xs) 88)) 34 = .ok (.aaload, 1) := show decode (am_cd (tb_me 88)) 34 = .ok (.aaload, 1) from by decide +kernel
theorem k88_35 {L : Nat} {xs : Nat → Int32} : decode (am_cd (am_me (tb_P L xs) 88)) 35 = .ok (.getfield 58, 3) := show decode (am_cd (tb_me 88)) 35 = .ok (.getfield 58, 3) from by decide +kernel
theorem f88_35 {L : Nat} {xs : Nat → Int32} : am_fd (tb_P L xs) 88 58 = some (3, 0, (.int : FieldType), false) := show tb_fdF 88 58 = some (3, 0, (.int : FieldType), false) from by decide +kernel
theorem k88_38 {L : Nat} {xs : Nat → Int32} : decode (am_cd (am_me (tb_P L xs) 88)) 38 = .ok (.iconst 1, 1) := show decode (am_cd (tb_me 88)) 38 = .ok (.iconst 1, 1) from by decide +kernel
theorem k88_39 {L : Nat} {xs : Nat → Int32} : decode (am_cd (am_me (tb_P L xs) 88)) 39 = .ok (.if_icmp .ne 18, 3) := show decode (am_cd (tb_me 88)) 39 = .ok (.if_icmp .ne 18, 3) from by decide +kernel
theorem k88_42 {L : Nat} {xs : Nat → Int32} : decode (am_cd (am_me (tb_P L xs) 88)) 42 = .ok (.aload_n 0, 1) := show decode (am_cd (tb_me 88)) 42 = .ok (.aload_n 0, 1) from by decide +kernel
theorem k88_43 {L : Nat} {xs : Nat → Int32} : decode (am_cd (am_me (tb_P L xs) 88)) 43 = .ok (.getfield 22, 3) := show decode (am_cd (tb_me 88)) 43 = .ok (.getfield 22, 3) from by decide +kernel
theorem f88_43 {L : Nat} {xs : Nat → Int32} : am_fd (tb_P L xs) 88 22 = some (6, 0, (.object "GluedMachines$Model" : FieldType), false) := show tb_fdF 88 22 = some (6, 0, (.object "GluedMachines$Model" : FieldType), false) from by decide +kernel
theorem k88_46 {L : Nat} {xs : Nat → Int32} : decode (am_cd (am_me (tb_P L xs) 88)) 46 = .ok (.getfield 54, 3) := show decode (am_cd (tb_me 88)) 46 = .ok (.getfield 54, 3) from by decide +kernel
theorem f88_46 {L : Nat} {xs : Nat → Int32} : am_fd (tb_P L xs) 88 54 = some (5, 2, (.array (.object "GluedMachines$Event") : FieldType), false) := show tb_fdF 88 54 = some (5, 2, (.array (.object "GluedMachines$Event") : FieldType), false) from by decide +kernel
theorem k88_49 {L : Nat} {xs : Nat → Int32} : decode (am_cd (am_me (tb_P L xs) 88)) 49 = .ok (.iload_n 2, 1) := show decode (am_cd (tb_me 88)) 49 = .ok (.iload_n 2, 1) from by decide +kernel
theorem k88_50 {L : Nat} {xs : Nat → Int32} : decode (am_cd (am_me (tb_P L xs) 88)) 50 = .ok (.aaload, 1) := show decode (am_cd (tb_me 88)) 50 = .ok (.aaload, 1) from by decide +kernel
theorem k88_51 {L : Nat} {xs : Nat → Int32} : decode (am_cd (am_me (tb_P L xs) 88)) 51 = .ok (.invokevirtual 63, 3) := show decode (am_cd (tb_me 88)) 51 = .ok (.invokevirtual 63, 3) from by decide +kernel
theorem s88_51 {L : Nat} {xs : Nat → Int32} : am_sp (tb_P L xs) 88 63 = none := show tb_spF 88 63 = none from by decide +kernel
theorem c88_51 {L : Nat} {xs : Nat → Int32} : am_ca (tb_P L xs) 88 63 = some (19, 0, 1) := show tb_caF 88 63 = some (19, 0, 1) from by decide +kernel
theorem r88_51 {L : Nat} {xs : Nat → Int32} : am_rf (am_me (tb_P L xs) 19) + 1 ≤ am_rf (am_me (tb_P L xs) 88) ∧ 1 + (am_ml (am_me (tb_P L xs) 19) + 11) + am_rl (am_me (tb_P L xs) 19) ≤ am_rl (am_me (tb_P L xs) 88) := show am_rf (tb_me 19) + 1 ≤ am_rf (tb_me 88) ∧ 1 + (am_ml (tb_me 19) + 11) + am_rl (tb_me 19) ≤ am_rl (tb_me 88) from by decide +kernel
theorem k88_54 {L : Nat} {xs : Nat → Int32} : decode (am_cd (am_me (tb_P L xs) 88)) 54 = .ok (.goto 4, 3) := show decode (am_cd (tb_me 88)) 54 = .ok (.goto 4, 3) from by decide +kernel
theorem k88_57 {L : Nat} {xs : Nat → Int32} : decode (am_cd (am_me (tb_P L xs) 88)) 57 = .ok (.iconst 0, 1) := show decode (am_cd (tb_me 88)) 57 = .ok (.iconst 0, 1) from by decide +kernel
theorem k88_58 {L : Nat} {xs : Nat → Int32} : decode (am_cd (am_me (tb_P L xs) 88)) 58 = .ok (.ior, 1) := show decode (am_cd (tb_me 88)) 58 = .ok (.ior, 1) from by decide +kernel
theorem k88_59 {L : Nat} {xs : Nat → Int32} : decode (am_cd (am_me (tb_P L xs) 88)) 59 = .ok (.istore_n 1, 1) := show decode (am_cd (tb_me 88)) 59 = .ok (.istore_n 1, 1) from by decide +kernel
theorem k88_60 {L : Nat} {xs : Nat → Int32} : decode (am_cd (am_me (tb_P L xs) 88)) 60 = .ok (.iinc 2 1, 3) := show decode (am_cd (tb_me 88)) 60 = .ok (.iinc 2 1, 3) from by decide +kernel
theorem k88_63 {L : Nat} {xs : Nat → Int32} : decode (am_cd (am_me (tb_P L xs) 88)) 63 = .ok (.goto (-49), 3) := show decode (am_cd (tb_me 88)) 63 = .ok (.goto (-49), 3) from by decide +kernel
theorem k88_66 {L : Nat} {xs : Nat → Int32} : decode (am_cd (am_me (tb_P L xs) 88)) 66 = .ok (.aload_n 0, 1) := show decode (am_cd (tb_me 88)) 66 = .ok (.aload_n 0, 1) from by decide +kernel
theorem k88_67 {L : Nat} {xs : Nat → Int32} : decode (am_cd (am_me (tb_P L xs) 88)) 67 = .ok (.iload_n 1, 1) := show decode (am_cd (tb_me 88)) 67 = .ok (.iload_n 1, 1) from by decide +kernel
theorem k88_68 {L : Nat} {xs : Nat → Int32} : decode (am_cd (am_me (tb_P L xs) 88)) 68 = .ok (.iconst 1, 1) := show decode (am_cd (tb_me 88)) 68 = .ok (.iconst 1, 1) from by decide +kernel
theorem k88_69 {L : Nat} {xs : Nat → Int32} : decode (am_cd (am_me (tb_P L xs) 88)) 69 = .ok (.invokevirtual 66, 3) := show decode (am_cd (tb_me 88)) 69 = .ok (.invokevirtual 66, 3) from by decide +kernel
theorem s88_69 {L : Nat} {xs : Nat → Int32} : am_sp (tb_P L xs) 88 66 = none := show tb_spF 88 66 = none from by decide +kernel
theorem c88_69 {L : Nat} {xs : Nat → Int32} : am_ca (tb_P L xs) 88 66 = some (22, 2, 1) := show tb_caF 88 66 = some (22, 2, 1) from by decide +kernel
theorem r88_69 {L : Nat} {xs : Nat → Int32} : am_rf (am_me (tb_P L xs) 22) + 1 ≤ am_rf (am_me (tb_P L xs) 88) ∧ 0 + (am_ml (am_me (tb_P L xs) 22) + 11) + am_rl (am_me (tb_P L xs) 22) ≤ am_rl (am_me (tb_P L xs) 88) := show am_rf (tb_me 22) + 1 ≤ am_rf (tb_me 88) ∧ 0 + (am_ml (tb_me 22) + 11) + am_rl (tb_me 22) ≤ am_rl (tb_me 88) from by decide +kernel
theorem k88_72 {L : Nat} {xs : Nat → Int32} : decode (am_cd (am_me (tb_P L xs) 88)) 72 = .ok (.iconst 0, 1) := show decode (am_cd (tb_me 88)) 72 = .ok (.iconst 0, 1) from by decide +kernel
theorem k88_73 {L : Nat} {xs : Nat → Int32} : decode (am_cd (am_me (tb_P L xs) 88)) 73 = .ok (.istore_n 2, 1) := show decode (am_cd (tb_me 88)) 73 = .ok (.istore_n 2, 1) from by decide +kernel
theorem k88_74 {L : Nat} {xs : Nat → Int32} : decode (am_cd (am_me (tb_P L xs) 88)) 74 = .ok (.iload_n 2, 1) := show decode (am_cd (tb_me 88)) 74 = .ok (.iload_n 2, 1) from by decide +kernel
theorem k88_75 {L : Nat} {xs : Nat → Int32} : decode (am_cd (am_me (tb_P L xs) 88)) 75 = .ok (.aload_n 0, 1) := show decode (am_cd (tb_me 88)) 75 = .ok (.aload_n 0, 1) from by decide +kernel
theorem k88_76 {L : Nat} {xs : Nat → Int32} : decode (am_cd (am_me (tb_P L xs) 88)) 76 = .ok (.getfield 18, 3) := show decode (am_cd (tb_me 88)) 76 = .ok (.getfield 18, 3) from by decide +kernel
theorem f88_76 {L : Nat} {xs : Nat → Int32} : am_fd (tb_P L xs) 88 18 = some (6, 3, (.int : FieldType), true) := show tb_fdF 88 18 = some (6, 3, (.int : FieldType), true) from by decide +kernel
theorem k88_79 {L : Nat} {xs : Nat → Int32} : decode (am_cd (am_me (tb_P L xs) 88)) 79 = .ok (.if_icmp .ge 40, 3) := show decode (am_cd (tb_me 88)) 79 = .ok (.if_icmp .ge 40, 3) from by decide +kernel
theorem k88_82 {L : Nat} {xs : Nat → Int32} : decode (am_cd (am_me (tb_P L xs) 88)) 82 = .ok (.aload_n 0, 1) := show decode (am_cd (tb_me 88)) 82 = .ok (.aload_n 0, 1) from by decide +kernel
theorem k88_83 {L : Nat} {xs : Nat → Int32} : decode (am_cd (am_me (tb_P L xs) 88)) 83 = .ok (.getfield 22, 3) := show decode (am_cd (tb_me 88)) 83 = .ok (.getfield 22, 3) from by decide +kernel
theorem f88_83 {L : Nat} {xs : Nat → Int32} : am_fd (tb_P L xs) 88 22 = some (6, 0, (.object "GluedMachines$Model" : FieldType), false) := show tb_fdF 88 22 = some (6, 0, (.object "GluedMachines$Model" : FieldType), false) from by decide +kernel
theorem k88_86 {L : Nat} {xs : Nat → Int32} : decode (am_cd (am_me (tb_P L xs) 88)) 86 = .ok (.getfield 37, 3) := show decode (am_cd (tb_me 88)) 86 = .ok (.getfield 37, 3) from by decide +kernel
theorem f88_86 {L : Nat} {xs : Nat → Int32} : am_fd (tb_P L xs) 88 37 = some (5, 4, (.object "GluedMachines$Invariants" : FieldType), false) := show tb_fdF 88 37 = some (5, 4, (.object "GluedMachines$Invariants" : FieldType), false) from by decide +kernel
theorem k88_89 {L : Nat} {xs : Nat → Int32} : decode (am_cd (am_me (tb_P L xs) 88)) 89 = .ok (.iconst 1, 1) := show decode (am_cd (tb_me 88)) 89 = .ok (.iconst 1, 1) from by decide +kernel
theorem k88_90 {L : Nat} {xs : Nat → Int32} : decode (am_cd (am_me (tb_P L xs) 88)) 90 = .ok (.aload_n 0, 1) := show decode (am_cd (tb_me 88)) 90 = .ok (.aload_n 0, 1) from by decide +kernel
theorem k88_91 {L : Nat} {xs : Nat → Int32} : decode (am_cd (am_me (tb_P L xs) 88)) 91 = .ok (.getfield 9, 3) := show decode (am_cd (tb_me 88)) 91 = .ok (.getfield 9, 3) from by decide +kernel
theorem f88_91 {L : Nat} {xs : Nat → Int32} : am_fd (tb_P L xs) 88 9 = some (6, 1, (.array .int : FieldType), false) := show tb_fdF 88 9 = some (6, 1, (.array .int : FieldType), false) from by decide +kernel
theorem k88_94 {L : Nat} {xs : Nat → Int32} : decode (am_cd (am_me (tb_P L xs) 88)) 94 = .ok (.invokevirtual 41, 3) := show decode (am_cd (tb_me 88)) 94 = .ok (.invokevirtual 41, 3) from by decide +kernel
theorem s88_94 {L : Nat} {xs : Nat → Int32} : am_sp (tb_P L xs) 88 41 = none := show tb_spF 88 41 = none from by decide +kernel
theorem c88_94 {L : Nat} {xs : Nat → Int32} : am_ca (tb_P L xs) 88 41 = some (9, 2, 1) := show tb_caF 88 41 = some (9, 2, 1) from by decide +kernel
theorem r88_94 {L : Nat} {xs : Nat → Int32} : am_rf (am_me (tb_P L xs) 9) + 1 ≤ am_rf (am_me (tb_P L xs) 88) ∧ 0 + (am_ml (am_me (tb_P L xs) 9) + 11) + am_rl (am_me (tb_P L xs) 9) ≤ am_rl (am_me (tb_P L xs) 88) := show am_rf (tb_me 9) + 1 ≤ am_rf (tb_me 88) ∧ 0 + (am_ml (tb_me 9) + 11) + am_rl (tb_me 9) ≤ am_rl (tb_me 88) from by decide +kernel
theorem k88_97 {L : Nat} {xs : Nat → Int32} : decode (am_cd (am_me (tb_P L xs) 88)) 97 = .ok (.ifCond .eq 12, 3) := show decode (am_cd (tb_me 88)) 97 = .ok (.ifCond .eq 12, 3) from by decide +kernel
theorem k88_100 {L : Nat} {xs : Nat → Int32} : decode (am_cd (am_me (tb_P L xs) 88)) 100 = .ok (.aload_n 0, 1) := show decode (am_cd (tb_me 88)) 100 = .ok (.aload_n 0, 1) from by decide +kernel
theorem k88_101 {L : Nat} {xs : Nat → Int32} : decode (am_cd (am_me (tb_P L xs) 88)) 101 = .ok (.invokevirtual 70, 3) := show decode (am_cd (tb_me 88)) 101 = .ok (.invokevirtual 70, 3) from by decide +kernel
theorem s88_101 {L : Nat} {xs : Nat → Int32} : am_sp (tb_P L xs) 88 70 = none := show tb_spF 88 70 = none from by decide +kernel
theorem c88_101 {L : Nat} {xs : Nat → Int32} : am_ca (tb_P L xs) 88 70 = some (89, 0, 1) := show tb_caF 88 70 = some (89, 0, 1) from by decide +kernel
theorem r88_101 {L : Nat} {xs : Nat → Int32} : am_rf (am_me (tb_P L xs) 89) + 1 ≤ am_rf (am_me (tb_P L xs) 88) ∧ 0 + (am_ml (am_me (tb_P L xs) 89) + 11) + am_rl (am_me (tb_P L xs) 89) ≤ am_rl (am_me (tb_P L xs) 88) := show am_rf (tb_me 89) + 1 ≤ am_rf (tb_me 88) ∧ 0 + (am_ml (tb_me 89) + 11) + am_rl (tb_me 89) ≤ am_rl (tb_me 88) from by decide +kernel
theorem k88_104 {L : Nat} {xs : Nat → Int32} : decode (am_cd (am_me (tb_P L xs) 88)) 104 = .ok (.ifCond .ne 5, 3) := show decode (am_cd (tb_me 88)) 104 = .ok (.ifCond .ne 5, 3) from by decide +kernel
theorem k88_107 {L : Nat} {xs : Nat → Int32} : decode (am_cd (am_me (tb_P L xs) 88)) 107 = .ok (.iconst 0, 1) := show decode (am_cd (tb_me 88)) 107 = .ok (.iconst 0, 1) from by decide +kernel
theorem k88_108 {L : Nat} {xs : Nat → Int32} : decode (am_cd (am_me (tb_P L xs) 88)) 108 = .ok (.ireturn, 1) := show decode (am_cd (tb_me 88)) 108 = .ok (.ireturn, 1) from by decide +kernel
theorem k88_109 {L : Nat} {xs : Nat → Int32} : decode (am_cd (am_me (tb_P L xs) 88)) 109 = .ok (.aload_n 0, 1) := show decode (am_cd (tb_me 88)) 109 = .ok (.aload_n 0, 1) from by decide +kernel
theorem k88_110 {L : Nat} {xs : Nat → Int32} : decode (am_cd (am_me (tb_P L xs) 88)) 110 = .ok (.invokevirtual 74, 3) := show decode (am_cd (tb_me 88)) 110 = .ok (.invokevirtual 74, 3) from by decide +kernel
theorem s88_110 {L : Nat} {xs : Nat → Int32} : am_sp (tb_P L xs) 88 74 = none := show tb_spF 88 74 = none from by decide +kernel
theorem c88_110 {L : Nat} {xs : Nat → Int32} : am_ca (tb_P L xs) 88 74 = some (31, 0, 1) := show tb_caF 88 74 = some (31, 0, 1) from by decide +kernel
theorem r88_110 {L : Nat} {xs : Nat → Int32} : am_rf (am_me (tb_P L xs) 31) + 1 ≤ am_rf (am_me (tb_P L xs) 88) ∧ 0 + (am_ml (am_me (tb_P L xs) 31) + 11) + am_rl (am_me (tb_P L xs) 31) ≤ am_rl (am_me (tb_P L xs) 88) := show am_rf (tb_me 31) + 1 ≤ am_rf (tb_me 88) ∧ 0 + (am_ml (tb_me 31) + 11) + am_rl (tb_me 31) ≤ am_rl (tb_me 88) from by decide +kernel
theorem k88_113 {L : Nat} {xs : Nat → Int32} : decode (am_cd (am_me (tb_P L xs) 88)) 113 = .ok (.iinc 2 1, 3) := show decode (am_cd (tb_me 88)) 113 = .ok (.iinc 2 1, 3) from by decide +kernel
theorem k88_116 {L : Nat} {xs : Nat → Int32} : decode (am_cd (am_me (tb_P L xs) 88)) 116 = .ok (.goto (-42), 3) := show decode (am_cd (tb_me 88)) 116 = .ok (.goto (-42), 3) from by decide +kernel
theorem k88_119 {L : Nat} {xs : Nat → Int32} : decode (am_cd (am_me (tb_P L xs) 88)) 119 = .ok (.iconst 1, 1) := show decode (am_cd (tb_me 88)) 119 = .ok (.iconst 1, 1) from by decide +kernel
theorem k88_120 {L : Nat} {xs : Nat → Int32} : decode (am_cd (am_me (tb_P L xs) 88)) 120 = .ok (.ireturn, 1) := show decode (am_cd (tb_me 88)) 120 = .ok (.ireturn, 1) from by decide +kernel
theorem t88 {L : Nat} {xs : Nat → Int32} : am_rt (am_me (tb_P L xs) 88) = some (.boolean : FieldType) := show am_rt (tb_me 88) = some (.boolean : FieldType) from by decide +kernel
theorem l88 {L : Nat} {xs : Nat → Int32} : am_ml (am_me (tb_P L xs) 88) = 3 := show am_ml (tb_me 88) = 3 from by decide +kernel
theorem o88 {L : Nat} {xs : Nat → Int32} (pc : Nat) : am_no (tb_P L xs) 88 pc = true := show (am_hd (tb_me 88)).all (fun q => !(decide (q.1 ≤ pc) && decide (pc < q.2.1))) = true from by rw [show am_hd (tb_me 88) = [] by decide +kernel]; rfl
theorem k89_0 {L : Nat} {xs : Nat → Int32} : decode (am_cd (am_me (tb_P L xs) 89)) 0 = .ok (.iconst 0, 1) := show decode (am_cd (tb_me 89)) 0 = .ok (.iconst 0, 1) from by decide +kernel
theorem k89_1 {L : Nat} {xs : Nat → Int32} : decode (am_cd (am_me (tb_P L xs) 89)) 1 = .ok (.istore_n 1, 1) := show decode (am_cd (tb_me 89)) 1 = .ok (.istore_n 1, 1) from by decide +kernel
theorem k89_2 {L : Nat} {xs : Nat → Int32} : decode (am_cd (am_me (tb_P L xs) 89)) 2 = .ok (.iconst 0, 1) := show decode (am_cd (tb_me 89)) 2 = .ok (.iconst 0, 1) from by decide +kernel
theorem k89_3 {L : Nat} {xs : Nat → Int32} : decode (am_cd (am_me (tb_P L xs) 89)) 3 = .ok (.istore_n 2, 1) := show decode (am_cd (tb_me 89)) 3 = .ok (.istore_n 2, 1) from by decide +kernel
theorem k89_4 {L : Nat} {xs : Nat → Int32} : decode (am_cd (am_me (tb_P L xs) 89)) 4 = .ok (.iload_n 2, 1) := show decode (am_cd (tb_me 89)) 4 = .ok (.iload_n 2, 1) from by decide +kernel
theorem k89_5 {L : Nat} {xs : Nat → Int32} : decode (am_cd (am_me (tb_P L xs) 89)) 5 = .ok (.aload_n 0, 1) := show decode (am_cd (tb_me 89)) 5 = .ok (.aload_n 0, 1) from by decide +kernel
theorem k89_6 {L : Nat} {xs : Nat → Int32} : decode (am_cd (am_me (tb_P L xs) 89)) 6 = .ok (.getfield 22, 3) := show decode (am_cd (tb_me 89)) 6 = .ok (.getfield 22, 3) from by decide +kernel
theorem f89_6 {L : Nat} {xs : Nat → Int32} : am_fd (tb_P L xs) 89 22 = some (6, 0, (.object "GluedMachines$Model" : FieldType), false) := show tb_fdF 89 22 = some (6, 0, (.object "GluedMachines$Model" : FieldType), false) from by decide +kernel
theorem k89_9 {L : Nat} {xs : Nat → Int32} : decode (am_cd (am_me (tb_P L xs) 89)) 9 = .ok (.getfield 51, 3) := show decode (am_cd (tb_me 89)) 9 = .ok (.getfield 51, 3) from by decide +kernel
theorem f89_9 {L : Nat} {xs : Nat → Int32} : am_fd (tb_P L xs) 89 51 = some (5, 3, (.int : FieldType), true) := show tb_fdF 89 51 = some (5, 3, (.int : FieldType), true) from by decide +kernel
theorem k89_12 {L : Nat} {xs : Nat → Int32} : decode (am_cd (am_me (tb_P L xs) 89)) 12 = .ok (.if_icmp .ge 71, 3) := show decode (am_cd (tb_me 89)) 12 = .ok (.if_icmp .ge 71, 3) from by decide +kernel
theorem k89_15 {L : Nat} {xs : Nat → Int32} : decode (am_cd (am_me (tb_P L xs) 89)) 15 = .ok (.iload_n 1, 1) := show decode (am_cd (tb_me 89)) 15 = .ok (.iload_n 1, 1) from by decide +kernel
theorem k89_16 {L : Nat} {xs : Nat → Int32} : decode (am_cd (am_me (tb_P L xs) 89)) 16 = .ok (.ifCond .ne 67, 3) := show decode (am_cd (tb_me 89)) 16 = .ok (.ifCond .ne 67, 3) from by decide +kernel
theorem k89_19 {L : Nat} {xs : Nat → Int32} : decode (am_cd (am_me (tb_P L xs) 89)) 19 = .ok (.aload_n 0, 1) := show decode (am_cd (tb_me 89)) 19 = .ok (.aload_n 0, 1) from by decide +kernel
theorem k89_20 {L : Nat} {xs : Nat → Int32} : decode (am_cd (am_me (tb_P L xs) 89)) 20 = .ok (.getfield 22, 3) := show decode (am_cd (tb_me 89)) 20 = .ok (.getfield 22, 3) from by decide +kernel
theorem f89_20 {L : Nat} {xs : Nat → Int32} : am_fd (tb_P L xs) 89 22 = some (6, 0, (.object "GluedMachines$Model" : FieldType), false) := show tb_fdF 89 22 = some (6, 0, (.object "GluedMachines$Model" : FieldType), false) from by decide +kernel
theorem k89_23 {L : Nat} {xs : Nat → Int32} : decode (am_cd (am_me (tb_P L xs) 89)) 23 = .ok (.getfield 54, 3) := show decode (am_cd (tb_me 89)) 23 = .ok (.getfield 54, 3) from by decide +kernel
theorem f89_23 {L : Nat} {xs : Nat → Int32} : am_fd (tb_P L xs) 89 54 = some (5, 2, (.array (.object "GluedMachines$Event") : FieldType), false) := show tb_fdF 89 54 = some (5, 2, (.array (.object "GluedMachines$Event") : FieldType), false) from by decide +kernel
theorem k89_26 {L : Nat} {xs : Nat → Int32} : decode (am_cd (am_me (tb_P L xs) 89)) 26 = .ok (.iload_n 2, 1) := show decode (am_cd (tb_me 89)) 26 = .ok (.iload_n 2, 1) from by decide +kernel
theorem k89_27 {L : Nat} {xs : Nat → Int32} : decode (am_cd (am_me (tb_P L xs) 89)) 27 = .ok (.aaload, 1) := show decode (am_cd (tb_me 89)) 27 = .ok (.aaload, 1) from by decide +kernel
theorem k89_28 {L : Nat} {xs : Nat → Int32} : decode (am_cd (am_me (tb_P L xs) 89)) 28 = .ok (.astore_n 3, 1) := show decode (am_cd (tb_me 89)) 28 = .ok (.astore_n 3, 1) from by decide +kernel
theorem k89_29 {L : Nat} {xs : Nat → Int32} : decode (am_cd (am_me (tb_P L xs) 89)) 29 = .ok (.iconst 0, 1) := show decode (am_cd (tb_me 89)) 29 = .ok (.iconst 0, 1) from by decide +kernel
theorem k89_30 {L : Nat} {xs : Nat → Int32} : decode (am_cd (am_me (tb_P L xs) 89)) 30 = .ok (.istore 4, 2) := show decode (am_cd (tb_me 89)) 30 = .ok (.istore 4, 2) from by decide +kernel
theorem k89_32 {L : Nat} {xs : Nat → Int32} : decode (am_cd (am_me (tb_P L xs) 89)) 32 = .ok (.aload_n 3, 1) := show decode (am_cd (tb_me 89)) 32 = .ok (.aload_n 3, 1) from by decide +kernel
theorem k89_33 {L : Nat} {xs : Nat → Int32} : decode (am_cd (am_me (tb_P L xs) 89)) 33 = .ok (.getfield 58, 3) := show decode (am_cd (tb_me 89)) 33 = .ok (.getfield 58, 3) from by decide +kernel
theorem f89_33 {L : Nat} {xs : Nat → Int32} : am_fd (tb_P L xs) 89 58 = some (3, 0, (.int : FieldType), false) := show tb_fdF 89 58 = some (3, 0, (.int : FieldType), false) from by decide +kernel
theorem k89_36 {L : Nat} {xs : Nat → Int32} : decode (am_cd (am_me (tb_P L xs) 89)) 36 = .ok (.iconst 1, 1) := show decode (am_cd (tb_me 89)) 36 = .ok (.iconst 1, 1) from by decide +kernel
theorem k89_37 {L : Nat} {xs : Nat → Int32} : decode (am_cd (am_me (tb_P L xs) 89)) 37 = .ok (.if_icmp .ne 40, 3) := show decode (am_cd (tb_me 89)) 37 = .ok (.if_icmp .ne 40, 3) from by decide +kernel
theorem k89_40 {L : Nat} {xs : Nat → Int32} : decode (am_cd (am_me (tb_P L xs) 89)) 40 = .ok (.iload 4, 2) := show decode (am_cd (tb_me 89)) 40 = .ok (.iload 4, 2) from by decide +kernel
theorem k89_42 {L : Nat} {xs : Nat → Int32} : decode (am_cd (am_me (tb_P L xs) 89)) 42 = .ok (.aload_n 3, 1) := show decode (am_cd (tb_me 89)) 42 = .ok (.aload_n 3, 1) from by decide +kernel
theorem k89_43 {L : Nat} {xs : Nat → Int32} : decode (am_cd (am_me (tb_P L xs) 89)) 43 = .ok (.getfield 77, 3) := show decode (am_cd (tb_me 89)) 43 = .ok (.getfield 77, 3) from by decide +kernel
theorem f89_43 {L : Nat} {xs : Nat → Int32} : am_fd (tb_P L xs) 89 77 = some (3, 1, (.int : FieldType), false) := show tb_fdF 89 77 = some (3, 1, (.int : FieldType), false) from by decide +kernel
theorem k89_46 {L : Nat} {xs : Nat → Int32} : decode (am_cd (am_me (tb_P L xs) 89)) 46 = .ok (.if_icmp .ge 31, 3) := show decode (am_cd (tb_me 89)) 46 = .ok (.if_icmp .ge 31, 3) from by decide +kernel
theorem k89_49 {L : Nat} {xs : Nat → Int32} : decode (am_cd (am_me (tb_P L xs) 89)) 49 = .ok (.iload_n 1, 1) := show decode (am_cd (tb_me 89)) 49 = .ok (.iload_n 1, 1) from by decide +kernel
theorem k89_50 {L : Nat} {xs : Nat → Int32} : decode (am_cd (am_me (tb_P L xs) 89)) 50 = .ok (.ifCond .ne 27, 3) := show decode (am_cd (tb_me 89)) 50 = .ok (.ifCond .ne 27, 3) from by decide +kernel
theorem k89_53 {L : Nat} {xs : Nat → Int32} : decode (am_cd (am_me (tb_P L xs) 89)) 53 = .ok (.aload_n 0, 1) := show decode (am_cd (tb_me 89)) 53 = .ok (.aload_n 0, 1) from by decide +kernel
theorem k89_54 {L : Nat} {xs : Nat → Int32} : decode (am_cd (am_me (tb_P L xs) 89)) 54 = .ok (.getfield 9, 3) := show decode (am_cd (tb_me 89)) 54 = .ok (.getfield 9, 3) from by decide +kernel
theorem f89_54 {L : Nat} {xs : Nat → Int32} : am_fd (tb_P L xs) 89 9 = some (6, 1, (.array .int : FieldType), false) := show tb_fdF 89 9 = some (6, 1, (.array .int : FieldType), false) from by decide +kernel
theorem k89_57 {L : Nat} {xs : Nat → Int32} : decode (am_cd (am_me (tb_P L xs) 89)) 57 = .ok (.bipush 6, 2) := show decode (am_cd (tb_me 89)) 57 = .ok (.bipush 6, 2) from by decide +kernel
theorem k89_59 {L : Nat} {xs : Nat → Int32} : decode (am_cd (am_me (tb_P L xs) 89)) 59 = .ok (.iload 4, 2) := show decode (am_cd (tb_me 89)) 59 = .ok (.iload 4, 2) from by decide +kernel
theorem k89_61 {L : Nat} {xs : Nat → Int32} : decode (am_cd (am_me (tb_P L xs) 89)) 61 = .ok (.iastore, 1) := show decode (am_cd (tb_me 89)) 61 = .ok (.iastore, 1) from by decide +kernel
theorem k89_62 {L : Nat} {xs : Nat → Int32} : decode (am_cd (am_me (tb_P L xs) 89)) 62 = .ok (.aload_n 3, 1) := show decode (am_cd (tb_me 89)) 62 = .ok (.aload_n 3, 1) from by decide +kernel
theorem k89_63 {L : Nat} {xs : Nat → Int32} : decode (am_cd (am_me (tb_P L xs) 89)) 63 = .ok (.aload_n 0, 1) := show decode (am_cd (tb_me 89)) 63 = .ok (.aload_n 0, 1) from by decide +kernel
theorem k89_64 {L : Nat} {xs : Nat → Int32} : decode (am_cd (am_me (tb_P L xs) 89)) 64 = .ok (.getfield 9, 3) := show decode (am_cd (tb_me 89)) 64 = .ok (.getfield 9, 3) from by decide +kernel
theorem f89_64 {L : Nat} {xs : Nat → Int32} : am_fd (tb_P L xs) 89 9 = some (6, 1, (.array .int : FieldType), false) := show tb_fdF 89 9 = some (6, 1, (.array .int : FieldType), false) from by decide +kernel
theorem k89_67 {L : Nat} {xs : Nat → Int32} : decode (am_cd (am_me (tb_P L xs) 89)) 67 = .ok (.invokevirtual 80, 3) := show decode (am_cd (tb_me 89)) 67 = .ok (.invokevirtual 80, 3) from by decide +kernel
theorem s89_67 {L : Nat} {xs : Nat → Int32} : am_sp (tb_P L xs) 89 80 = none := show tb_spF 89 80 = none from by decide +kernel
theorem c89_67 {L : Nat} {xs : Nat → Int32} : am_ca (tb_P L xs) 89 80 = some (23, 1, 1) := show tb_caF 89 80 = some (23, 1, 1) from by decide +kernel
theorem r89_67 {L : Nat} {xs : Nat → Int32} : am_rf (am_me (tb_P L xs) 23) + 1 ≤ am_rf (am_me (tb_P L xs) 89) ∧ 0 + (am_ml (am_me (tb_P L xs) 23) + 11) + am_rl (am_me (tb_P L xs) 23) ≤ am_rl (am_me (tb_P L xs) 89) := show am_rf (tb_me 23) + 1 ≤ am_rf (tb_me 89) ∧ 0 + (am_ml (tb_me 23) + 11) + am_rl (tb_me 23) ≤ am_rl (tb_me 89) from by decide +kernel
theorem k89_70 {L : Nat} {xs : Nat → Int32} : decode (am_cd (am_me (tb_P L xs) 89)) 70 = .ok (.istore_n 1, 1) := show decode (am_cd (tb_me 89)) 70 = .ok (.istore_n 1, 1) from by decide +kernel
theorem k89_71 {L : Nat} {xs : Nat → Int32} : decode (am_cd (am_me (tb_P L xs) 89)) 71 = .ok (.iinc 4 1, 3) := show decode (am_cd (tb_me 89)) 71 = .ok (.iinc 4 1, 3) from by decide +kernel
theorem k89_74 {L : Nat} {xs : Nat → Int32} : decode (am_cd (am_me (tb_P L xs) 89)) 74 = .ok (.goto (-42), 3) := show decode (am_cd (tb_me 89)) 74 = .ok (.goto (-42), 3) from by decide +kernel
theorem k89_77 {L : Nat} {xs : Nat → Int32} : decode (am_cd (am_me (tb_P L xs) 89)) 77 = .ok (.iinc 2 1, 3) := show decode (am_cd (tb_me 89)) 77 = .ok (.iinc 2 1, 3) from by decide +kernel
theorem k89_80 {L : Nat} {xs : Nat → Int32} : decode (am_cd (am_me (tb_P L xs) 89)) 80 = .ok (.goto (-76), 3) := show decode (am_cd (tb_me 89)) 80 = .ok (.goto (-76), 3) from by decide +kernel
theorem k89_83 {L : Nat} {xs : Nat → Int32} : decode (am_cd (am_me (tb_P L xs) 89)) 83 = .ok (.aload_n 0, 1) := show decode (am_cd (tb_me 89)) 83 = .ok (.aload_n 0, 1) from by decide +kernel
theorem k89_84 {L : Nat} {xs : Nat → Int32} : decode (am_cd (am_me (tb_P L xs) 89)) 84 = .ok (.getfield 9, 3) := show decode (am_cd (tb_me 89)) 84 = .ok (.getfield 9, 3) from by decide +kernel
theorem f89_84 {L : Nat} {xs : Nat → Int32} : am_fd (tb_P L xs) 89 9 = some (6, 1, (.array .int : FieldType), false) := show tb_fdF 89 9 = some (6, 1, (.array .int : FieldType), false) from by decide +kernel
theorem k89_87 {L : Nat} {xs : Nat → Int32} : decode (am_cd (am_me (tb_P L xs) 89)) 87 = .ok (.bipush 6, 2) := show decode (am_cd (tb_me 89)) 87 = .ok (.bipush 6, 2) from by decide +kernel
theorem k89_89 {L : Nat} {xs : Nat → Int32} : decode (am_cd (am_me (tb_P L xs) 89)) 89 = .ok (.iconst 0, 1) := show decode (am_cd (tb_me 89)) 89 = .ok (.iconst 0, 1) from by decide +kernel
theorem k89_90 {L : Nat} {xs : Nat → Int32} : decode (am_cd (am_me (tb_P L xs) 89)) 90 = .ok (.iastore, 1) := show decode (am_cd (tb_me 89)) 90 = .ok (.iastore, 1) from by decide +kernel
theorem k89_91 {L : Nat} {xs : Nat → Int32} : decode (am_cd (am_me (tb_P L xs) 89)) 91 = .ok (.iload_n 1, 1) := show decode (am_cd (tb_me 89)) 91 = .ok (.iload_n 1, 1) from by decide +kernel
theorem k89_92 {L : Nat} {xs : Nat → Int32} : decode (am_cd (am_me (tb_P L xs) 89)) 92 = .ok (.ireturn, 1) := show decode (am_cd (tb_me 89)) 92 = .ok (.ireturn, 1) from by decide +kernel
theorem t89 {L : Nat} {xs : Nat → Int32} : am_rt (am_me (tb_P L xs) 89) = some (.boolean : FieldType) := show am_rt (tb_me 89) = some (.boolean : FieldType) from by decide +kernel
theorem l89 {L : Nat} {xs : Nat → Int32} : am_ml (am_me (tb_P L xs) 89) = 5 := show am_ml (tb_me 89) = 5 from by decide +kernel
theorem o89 {L : Nat} {xs : Nat → Int32} (pc : Nat) : am_no (tb_P L xs) 89 pc = true := show (am_hd (tb_me 89)).all (fun q => !(decide (q.1 ≤ pc) && decide (pc < q.2.1))) = true from by rw [show am_hd (tb_me 89) = [] by decide +kernel]; rfl
theorem k90_0 {L : Nat} {xs : Nat → Int32} : decode (am_cd (am_me (tb_P L xs) 90)) 0 = .ok (.aload_n 2, 1) := show decode (am_cd (tb_me 90)) 0 = .ok (.aload_n 2, 1) from by decide +kernel
theorem k90_1 {L : Nat} {xs : Nat → Int32} : decode (am_cd (am_me (tb_P L xs) 90)) 1 = .ok (.iconst 0, 1) := show decode (am_cd (tb_me 90)) 1 = .ok (.iconst 0, 1) from by decide +kernel
theorem k90_2 {L : Nat} {xs : Nat → Int32} : decode (am_cd (am_me (tb_P L xs) 90)) 2 = .ok (.aload_n 0, 1) := show decode (am_cd (tb_me 90)) 2 = .ok (.aload_n 0, 1) from by decide +kernel
theorem k90_3 {L : Nat} {xs : Nat → Int32} : decode (am_cd (am_me (tb_P L xs) 90)) 3 = .ok (.iload_n 1, 1) := show decode (am_cd (tb_me 90)) 3 = .ok (.iload_n 1, 1) from by decide +kernel
theorem k90_4 {L : Nat} {xs : Nat → Int32} : decode (am_cd (am_me (tb_P L xs) 90)) 4 = .ok (.invokevirtual 51, 3) := show decode (am_cd (tb_me 90)) 4 = .ok (.invokevirtual 51, 3) from by decide +kernel
theorem s90_4 {L : Nat} {xs : Nat → Int32} : am_sp (tb_P L xs) 90 51 = none := show tb_spF 90 51 = none from by decide +kernel
theorem c90_4 {L : Nat} {xs : Nat → Int32} : am_ca (tb_P L xs) 90 51 = some (91, 1, 1) := show tb_caF 90 51 = some (91, 1, 1) from by decide +kernel
theorem r90_4 {L : Nat} {xs : Nat → Int32} : am_rf (am_me (tb_P L xs) 91) + 1 ≤ am_rf (am_me (tb_P L xs) 90) ∧ 2 + (am_ml (am_me (tb_P L xs) 91) + 11) + am_rl (am_me (tb_P L xs) 91) ≤ am_rl (am_me (tb_P L xs) 90) := show am_rf (tb_me 91) + 1 ≤ am_rf (tb_me 90) ∧ 2 + (am_ml (tb_me 91) + 11) + am_rl (tb_me 91) ≤ am_rl (tb_me 90) from by decide +kernel
theorem k90_7 {L : Nat} {xs : Nat → Int32} : decode (am_cd (am_me (tb_P L xs) 90)) 7 = .ok (.i2l, 1) := show decode (am_cd (tb_me 90)) 7 = .ok (.i2l, 1) from by decide +kernel
theorem k90_8 {L : Nat} {xs : Nat → Int32} : decode (am_cd (am_me (tb_P L xs) 90)) 8 = .ok (.lastore, 1) := show decode (am_cd (tb_me 90)) 8 = .ok (.lastore, 1) from by decide +kernel
theorem k90_9 {L : Nat} {xs : Nat → Int32} : decode (am_cd (am_me (tb_P L xs) 90)) 9 = .ok (.goto 6, 3) := show decode (am_cd (tb_me 90)) 9 = .ok (.goto 6, 3) from by decide +kernel
theorem k90_12 {L : Nat} {xs : Nat → Int32} : decode (am_cd (am_me (tb_P L xs) 90)) 12 = .ok (.astore_n 3, 1) := show decode (am_cd (tb_me 90)) 12 = .ok (.astore_n 3, 1) from by decide +kernel
theorem k90_13 {L : Nat} {xs : Nat → Int32} : decode (am_cd (am_me (tb_P L xs) 90)) 13 = .ok (.iconst 1, 1) := show decode (am_cd (tb_me 90)) 13 = .ok (.iconst 1, 1) from by decide +kernel
theorem k90_14 {L : Nat} {xs : Nat → Int32} : decode (am_cd (am_me (tb_P L xs) 90)) 14 = .ok (.ireturn, 1) := show decode (am_cd (tb_me 90)) 14 = .ok (.ireturn, 1) from by decide +kernel
theorem k90_15 {L : Nat} {xs : Nat → Int32} : decode (am_cd (am_me (tb_P L xs) 90)) 15 = .ok (.iconst 0, 1) := show decode (am_cd (tb_me 90)) 15 = .ok (.iconst 0, 1) from by decide +kernel
theorem k90_16 {L : Nat} {xs : Nat → Int32} : decode (am_cd (am_me (tb_P L xs) 90)) 16 = .ok (.ireturn, 1) := show decode (am_cd (tb_me 90)) 16 = .ok (.ireturn, 1) from by decide +kernel
theorem t90 {L : Nat} {xs : Nat → Int32} : am_rt (am_me (tb_P L xs) 90) = some (.int : FieldType) := show am_rt (tb_me 90) = some (.int : FieldType) from by decide +kernel
theorem l90 {L : Nat} {xs : Nat → Int32} : am_ml (am_me (tb_P L xs) 90) = 4 := show am_ml (tb_me 90) = 4 from by decide +kernel
theorem k91_0 {L : Nat} {xs : Nat → Int32} : decode (am_cd (am_me (tb_P L xs) 91)) 0 = .ok (.iload_n 1, 1) := show decode (am_cd (tb_me 91)) 0 = .ok (.iload_n 1, 1) from by decide +kernel
theorem k91_1 {L : Nat} {xs : Nat → Int32} : decode (am_cd (am_me (tb_P L xs) 91)) 1 = .ok (.bipush 7, 2) := show decode (am_cd (tb_me 91)) 1 = .ok (.bipush 7, 2) from by decide +kernel
theorem k91_3 {L : Nat} {xs : Nat → Int32} : decode (am_cd (am_me (tb_P L xs) 91)) 3 = .ok (.invokestatic 61, 3) := show decode (am_cd (tb_me 91)) 3 = .ok (.invokestatic 61, 3) from by decide +kernel
theorem s91_3 {L : Nat} {xs : Nat → Int32} : am_sp (tb_P L xs) 91 61 = none := show tb_spF 91 61 = none from by decide +kernel
theorem c91_3 {L : Nat} {xs : Nat → Int32} : am_ca (tb_P L xs) 91 61 = some (26, 2, 0) := show tb_caF 91 61 = some (26, 2, 0) from by decide +kernel
theorem r91_3 {L : Nat} {xs : Nat → Int32} : am_rf (am_me (tb_P L xs) 26) + 1 ≤ am_rf (am_me (tb_P L xs) 91) ∧ 0 + (am_ml (am_me (tb_P L xs) 26) + 11) + am_rl (am_me (tb_P L xs) 26) ≤ am_rl (am_me (tb_P L xs) 91) := show am_rf (tb_me 26) + 1 ≤ am_rf (tb_me 91) ∧ 0 + (am_ml (tb_me 26) + 11) + am_rl (tb_me 26) ≤ am_rl (tb_me 91) from by decide +kernel
theorem k91_6 {L : Nat} {xs : Nat → Int32} : decode (am_cd (am_me (tb_P L xs) 91)) 6 = .ok (.invokestatic 134, 3) := show decode (am_cd (tb_me 91)) 6 = .ok (.invokestatic 134, 3) from by decide +kernel
theorem s91_6 {L : Nat} {xs : Nat → Int32} : am_sp (tb_P L xs) 91 134 = none := show tb_spF 91 134 = none from by decide +kernel
theorem c91_6 {L : Nat} {xs : Nat → Int32} : am_ca (tb_P L xs) 91 134 = some (69, 1, 0) := show tb_caF 91 134 = some (69, 1, 0) from by decide +kernel
theorem r91_6 {L : Nat} {xs : Nat → Int32} : am_rf (am_me (tb_P L xs) 69) + 1 ≤ am_rf (am_me (tb_P L xs) 91) ∧ 0 + (am_ml (am_me (tb_P L xs) 69) + 11) + am_rl (am_me (tb_P L xs) 69) ≤ am_rl (am_me (tb_P L xs) 91) := show am_rf (tb_me 69) + 1 ≤ am_rf (tb_me 91) ∧ 0 + (am_ml (tb_me 69) + 11) + am_rl (tb_me 69) ≤ am_rl (tb_me 91) from by decide +kernel
theorem k91_9 {L : Nat} {xs : Nat → Int32} : decode (am_cd (am_me (tb_P L xs) 91)) 9 = .ok (.aload_n 0, 1) := show decode (am_cd (tb_me 91)) 9 = .ok (.aload_n 0, 1) from by decide +kernel
theorem k91_10 {L : Nat} {xs : Nat → Int32} : decode (am_cd (am_me (tb_P L xs) 91)) 10 = .ok (.getfield 30, 3) := show decode (am_cd (tb_me 91)) 10 = .ok (.getfield 30, 3) from by decide +kernel
theorem f91_10 {L : Nat} {xs : Nat → Int32} : am_fd (tb_P L xs) 91 30 = some (0, 7, (.boolean : FieldType), true) := show tb_fdF 91 30 = some (0, 7, (.boolean : FieldType), true) from by decide +kernel
theorem k91_13 {L : Nat} {xs : Nat → Int32} : decode (am_cd (am_me (tb_P L xs) 91)) 13 = .ok (.ifCond .eq 12, 3) := show decode (am_cd (tb_me 91)) 13 = .ok (.ifCond .eq 12, 3) from by decide +kernel
theorem k91_16 {L : Nat} {xs : Nat → Int32} : decode (am_cd (am_me (tb_P L xs) 91)) 16 = .ok (.aload_n 0, 1) := show decode (am_cd (tb_me 91)) 16 = .ok (.aload_n 0, 1) from by decide +kernel
theorem k91_17 {L : Nat} {xs : Nat → Int32} : decode (am_cd (am_me (tb_P L xs) 91)) 17 = .ok (.getfield 26, 3) := show decode (am_cd (tb_me 91)) 17 = .ok (.getfield 26, 3) from by decide +kernel
theorem f91_17 {L : Nat} {xs : Nat → Int32} : am_fd (tb_P L xs) 91 26 = some (0, 6, (.array .int : FieldType), false) := show tb_fdF 91 26 = some (0, 6, (.array .int : FieldType), false) from by decide +kernel
theorem k91_20 {L : Nat} {xs : Nat → Int32} : decode (am_cd (am_me (tb_P L xs) 91)) 20 = .ok (.iload_n 1, 1) := show decode (am_cd (tb_me 91)) 20 = .ok (.iload_n 1, 1) from by decide +kernel
theorem k91_21 {L : Nat} {xs : Nat → Int32} : decode (am_cd (am_me (tb_P L xs) 91)) 21 = .ok (.iaload, 1) := show decode (am_cd (tb_me 91)) 21 = .ok (.iaload, 1) from by decide +kernel
theorem k91_22 {L : Nat} {xs : Nat → Int32} : decode (am_cd (am_me (tb_P L xs) 91)) 22 = .ok (.goto 4, 3) := show decode (am_cd (tb_me 91)) 22 = .ok (.goto 4, 3) from by decide +kernel
theorem k91_25 {L : Nat} {xs : Nat → Int32} : decode (am_cd (am_me (tb_P L xs) 91)) 25 = .ok (.iconst (-1), 1) := show decode (am_cd (tb_me 91)) 25 = .ok (.iconst (-1), 1) from by decide +kernel
theorem k91_26 {L : Nat} {xs : Nat → Int32} : decode (am_cd (am_me (tb_P L xs) 91)) 26 = .ok (.ireturn, 1) := show decode (am_cd (tb_me 91)) 26 = .ok (.ireturn, 1) from by decide +kernel
theorem t91 {L : Nat} {xs : Nat → Int32} : am_rt (am_me (tb_P L xs) 91) = some (.int : FieldType) := show am_rt (tb_me 91) = some (.int : FieldType) from by decide +kernel
theorem l91 {L : Nat} {xs : Nat → Int32} : am_ml (am_me (tb_P L xs) 91) = 2 := show am_ml (tb_me 91) = 2 from by decide +kernel
theorem o91 {L : Nat} {xs : Nat → Int32} (pc : Nat) : am_no (tb_P L xs) 91 pc = true := show (am_hd (tb_me 91)).all (fun q => !(decide (q.1 ≤ pc) && decide (pc < q.2.1))) = true from by rw [show am_hd (tb_me 91) = [] by decide +kernel]; rfl
theorem k92_0 {L : Nat} {xs : Nat → Int32} : decode (am_cd (am_me (tb_P L xs) 92)) 0 = .ok (.aload_n 3, 1) := show decode (am_cd (tb_me 92)) 0 = .ok (.aload_n 3, 1) from by decide +kernel
theorem k92_1 {L : Nat} {xs : Nat → Int32} : decode (am_cd (am_me (tb_P L xs) 92)) 1 = .ok (.iconst 0, 1) := show decode (am_cd (tb_me 92)) 1 = .ok (.iconst 0, 1) from by decide +kernel
theorem k92_2 {L : Nat} {xs : Nat → Int32} : decode (am_cd (am_me (tb_P L xs) 92)) 2 = .ok (.aload_n 0, 1) := show decode (am_cd (tb_me 92)) 2 = .ok (.aload_n 0, 1) from by decide +kernel
theorem k92_3 {L : Nat} {xs : Nat → Int32} : decode (am_cd (am_me (tb_P L xs) 92)) 3 = .ok (.iload_n 1, 1) := show decode (am_cd (tb_me 92)) 3 = .ok (.iload_n 1, 1) from by decide +kernel
theorem k92_4 {L : Nat} {xs : Nat → Int32} : decode (am_cd (am_me (tb_P L xs) 92)) 4 = .ok (.iload_n 2, 1) := show decode (am_cd (tb_me 92)) 4 = .ok (.iload_n 2, 1) from by decide +kernel
theorem k92_5 {L : Nat} {xs : Nat → Int32} : decode (am_cd (am_me (tb_P L xs) 92)) 5 = .ok (.invokevirtual 54, 3) := show decode (am_cd (tb_me 92)) 5 = .ok (.invokevirtual 54, 3) from by decide +kernel
theorem s92_5 {L : Nat} {xs : Nat → Int32} : am_sp (tb_P L xs) 92 54 = none := show tb_spF 92 54 = none from by decide +kernel
theorem c92_5 {L : Nat} {xs : Nat → Int32} : am_ca (tb_P L xs) 92 54 = some (93, 2, 1) := show tb_caF 92 54 = some (93, 2, 1) from by decide +kernel
theorem r92_5 {L : Nat} {xs : Nat → Int32} : am_rf (am_me (tb_P L xs) 93) + 1 ≤ am_rf (am_me (tb_P L xs) 92) ∧ 2 + (am_ml (am_me (tb_P L xs) 93) + 11) + am_rl (am_me (tb_P L xs) 93) ≤ am_rl (am_me (tb_P L xs) 92) := show am_rf (tb_me 93) + 1 ≤ am_rf (tb_me 92) ∧ 2 + (am_ml (tb_me 93) + 11) + am_rl (tb_me 93) ≤ am_rl (tb_me 92) from by decide +kernel
theorem k92_8 {L : Nat} {xs : Nat → Int32} : decode (am_cd (am_me (tb_P L xs) 92)) 8 = .ok (.ifCond .eq 7, 3) := show decode (am_cd (tb_me 92)) 8 = .ok (.ifCond .eq 7, 3) from by decide +kernel
theorem k92_11 {L : Nat} {xs : Nat → Int32} : decode (am_cd (am_me (tb_P L xs) 92)) 11 = .ok (.lconst 1, 1) := show decode (am_cd (tb_me 92)) 11 = .ok (.lconst 1, 1) from by decide +kernel
theorem k92_12 {L : Nat} {xs : Nat → Int32} : decode (am_cd (am_me (tb_P L xs) 92)) 12 = .ok (.goto 4, 3) := show decode (am_cd (tb_me 92)) 12 = .ok (.goto 4, 3) from by decide +kernel
theorem k92_15 {L : Nat} {xs : Nat → Int32} : decode (am_cd (am_me (tb_P L xs) 92)) 15 = .ok (.lconst 0, 1) := show decode (am_cd (tb_me 92)) 15 = .ok (.lconst 0, 1) from by decide +kernel
theorem k92_16 {L : Nat} {xs : Nat → Int32} : decode (am_cd (am_me (tb_P L xs) 92)) 16 = .ok (.lastore, 1) := show decode (am_cd (tb_me 92)) 16 = .ok (.lastore, 1) from by decide +kernel
theorem k92_17 {L : Nat} {xs : Nat → Int32} : decode (am_cd (am_me (tb_P L xs) 92)) 17 = .ok (.goto 11, 3) := show decode (am_cd (tb_me 92)) 17 = .ok (.goto 11, 3) from by decide +kernel
theorem k92_20 {L : Nat} {xs : Nat → Int32} : decode (am_cd (am_me (tb_P L xs) 92)) 20 = .ok (.astore 4, 2) := show decode (am_cd (tb_me 92)) 20 = .ok (.astore 4, 2) from by decide +kernel
theorem k92_22 {L : Nat} {xs : Nat → Int32} : decode (am_cd (am_me (tb_P L xs) 92)) 22 = .ok (.iconst 1, 1) := show decode (am_cd (tb_me 92)) 22 = .ok (.iconst 1, 1) from by decide +kernel
theorem k92_23 {L : Nat} {xs : Nat → Int32} : decode (am_cd (am_me (tb_P L xs) 92)) 23 = .ok (.ireturn, 1) := show decode (am_cd (tb_me 92)) 23 = .ok (.ireturn, 1) from by decide +kernel
theorem k92_24 {L : Nat} {xs : Nat → Int32} : decode (am_cd (am_me (tb_P L xs) 92)) 24 = .ok (.astore 4, 2) := show decode (am_cd (tb_me 92)) 24 = .ok (.astore 4, 2) from by decide +kernel
theorem k92_26 {L : Nat} {xs : Nat → Int32} : decode (am_cd (am_me (tb_P L xs) 92)) 26 = .ok (.iconst 2, 1) := show decode (am_cd (tb_me 92)) 26 = .ok (.iconst 2, 1) from by decide +kernel
theorem k92_27 {L : Nat} {xs : Nat → Int32} : decode (am_cd (am_me (tb_P L xs) 92)) 27 = .ok (.ireturn, 1) := show decode (am_cd (tb_me 92)) 27 = .ok (.ireturn, 1) from by decide +kernel
theorem k92_28 {L : Nat} {xs : Nat → Int32} : decode (am_cd (am_me (tb_P L xs) 92)) 28 = .ok (.iconst 0, 1) := show decode (am_cd (tb_me 92)) 28 = .ok (.iconst 0, 1) from by decide +kernel
theorem k92_29 {L : Nat} {xs : Nat → Int32} : decode (am_cd (am_me (tb_P L xs) 92)) 29 = .ok (.ireturn, 1) := show decode (am_cd (tb_me 92)) 29 = .ok (.ireturn, 1) from by decide +kernel
theorem t92 {L : Nat} {xs : Nat → Int32} : am_rt (am_me (tb_P L xs) 92) = some (.int : FieldType) := show am_rt (tb_me 92) = some (.int : FieldType) from by decide +kernel
theorem l92 {L : Nat} {xs : Nat → Int32} : am_ml (am_me (tb_P L xs) 92) = 5 := show am_ml (tb_me 92) = 5 from by decide +kernel
theorem k93_0 {L : Nat} {xs : Nat → Int32} : decode (am_cd (am_me (tb_P L xs) 93)) 0 = .ok (.aload_n 0, 1) := show decode (am_cd (tb_me 93)) 0 = .ok (.aload_n 0, 1) from by decide +kernel
theorem k93_1 {L : Nat} {xs : Nat → Int32} : decode (am_cd (am_me (tb_P L xs) 93)) 1 = .ok (.iload_n 1, 1) := show decode (am_cd (tb_me 93)) 1 = .ok (.iload_n 1, 1) from by decide +kernel
theorem k93_2 {L : Nat} {xs : Nat → Int32} : decode (am_cd (am_me (tb_P L xs) 93)) 2 = .ok (.iload_n 2, 1) := show decode (am_cd (tb_me 93)) 2 = .ok (.iload_n 2, 1) from by decide +kernel
theorem k93_3 {L : Nat} {xs : Nat → Int32} : decode (am_cd (am_me (tb_P L xs) 93)) 3 = .ok (.invokevirtual 219, 3) := show decode (am_cd (tb_me 93)) 3 = .ok (.invokevirtual 219, 3) from by decide +kernel
theorem s93_3 {L : Nat} {xs : Nat → Int32} : am_sp (tb_P L xs) 93 219 = none := show tb_spF 93 219 = none from by decide +kernel
theorem c93_3 {L : Nat} {xs : Nat → Int32} : am_ca (tb_P L xs) 93 219 = some (94, 2, 1) := show tb_caF 93 219 = some (94, 2, 1) from by decide +kernel
theorem r93_3 {L : Nat} {xs : Nat → Int32} : am_rf (am_me (tb_P L xs) 94) + 1 ≤ am_rf (am_me (tb_P L xs) 93) ∧ 0 + (am_ml (am_me (tb_P L xs) 94) + 11) + am_rl (am_me (tb_P L xs) 94) ≤ am_rl (am_me (tb_P L xs) 93) := show am_rf (tb_me 94) + 1 ≤ am_rf (tb_me 93) ∧ 0 + (am_ml (tb_me 94) + 11) + am_rl (tb_me 94) ≤ am_rl (tb_me 93) from by decide +kernel
theorem k93_6 {L : Nat} {xs : Nat → Int32} : decode (am_cd (am_me (tb_P L xs) 93)) 6 = .ok (.astore_n 3, 1) := show decode (am_cd (tb_me 93)) 6 = .ok (.astore_n 3, 1) from by decide +kernel
theorem k93_7 {L : Nat} {xs : Nat → Int32} : decode (am_cd (am_me (tb_P L xs) 93)) 7 = .ok (.aload_n 0, 1) := show decode (am_cd (tb_me 93)) 7 = .ok (.aload_n 0, 1) from by decide +kernel
theorem k93_8 {L : Nat} {xs : Nat → Int32} : decode (am_cd (am_me (tb_P L xs) 93)) 8 = .ok (.getfield 53, 3) := show decode (am_cd (tb_me 93)) 8 = .ok (.getfield 53, 3) from by decide +kernel
theorem f93_8 {L : Nat} {xs : Nat → Int32} : am_fd (tb_P L xs) 93 53 = some (0, 5, (.object "GluedMachines$Run" : FieldType), false) := show tb_fdF 93 53 = some (0, 5, (.object "GluedMachines$Run" : FieldType), false) from by decide +kernel
theorem k93_11 {L : Nat} {xs : Nat → Int32} : decode (am_cd (am_me (tb_P L xs) 93)) 11 = .ok (.getfield 223, 3) := show decode (am_cd (tb_me 93)) 11 = .ok (.getfield 223, 3) from by decide +kernel
theorem f93_11 {L : Nat} {xs : Nat → Int32} : am_fd (tb_P L xs) 93 223 = some (7, 4, (.boolean : FieldType), true) := show tb_fdF 93 223 = some (7, 4, (.boolean : FieldType), true) from by decide +kernel
theorem k93_14 {L : Nat} {xs : Nat → Int32} : decode (am_cd (am_me (tb_P L xs) 93)) 14 = .ok (.ifCond .ne 11, 3) := show decode (am_cd (tb_me 93)) 14 = .ok (.ifCond .ne 11, 3) from by decide +kernel
theorem k93_17 {L : Nat} {xs : Nat → Int32} : decode (am_cd (am_me (tb_P L xs) 93)) 17 = .ok (.new 85, 3) := show decode (am_cd (tb_me 93)) 17 = .ok (.new 85, 3) from by decide +kernel
theorem n93_17 {L : Nat} {xs : Nat → Int32} : am_nw (tb_P L xs) 93 85 = none := show tb_nwF 93 85 = none from by decide +kernel
theorem x93_17 {L : Nat} {xs : Nat → Int32} : am_xn (tb_P L xs) 93 85 87 = some 10 := show tb_xnF 93 85 87 = some 10 from by decide +kernel
theorem r93_17 {L : Nat} {xs : Nat → Int32} : 5 < am_rf (am_me (tb_P L xs) 93) ∧ 0 + 82 ≤ am_rl (am_me (tb_P L xs) 93) := show 5 < am_rf (tb_me 93) ∧ 0 + 82 ≤ am_rl (tb_me 93) from by decide +kernel
theorem k93_20 {L : Nat} {xs : Nat → Int32} : decode (am_cd (am_me (tb_P L xs) 93)) 20 = .ok (.dup, 1) := show decode (am_cd (tb_me 93)) 20 = .ok (.dup, 1) from by decide +kernel
theorem k93_21 {L : Nat} {xs : Nat → Int32} : decode (am_cd (am_me (tb_P L xs) 93)) 21 = .ok (.invokespecial 87, 3) := show decode (am_cd (tb_me 93)) 21 = .ok (.invokespecial 87, 3) from by decide +kernel
theorem k93_24 {L : Nat} {xs : Nat → Int32} : decode (am_cd (am_me (tb_P L xs) 93)) 24 = .ok (.athrow, 1) := show decode (am_cd (tb_me 93)) 24 = .ok (.athrow, 1) from by decide +kernel
theorem k93_25 {L : Nat} {xs : Nat → Int32} : decode (am_cd (am_me (tb_P L xs) 93)) 25 = .ok (.aload_n 0, 1) := show decode (am_cd (tb_me 93)) 25 = .ok (.aload_n 0, 1) from by decide +kernel
theorem k93_26 {L : Nat} {xs : Nat → Int32} : decode (am_cd (am_me (tb_P L xs) 93)) 26 = .ok (.getfield 53, 3) := show decode (am_cd (tb_me 93)) 26 = .ok (.getfield 53, 3) from by decide +kernel
theorem f93_26 {L : Nat} {xs : Nat → Int32} : am_fd (tb_P L xs) 93 53 = some (0, 5, (.object "GluedMachines$Run" : FieldType), false) := show tb_fdF 93 53 = some (0, 5, (.object "GluedMachines$Run" : FieldType), false) from by decide +kernel
theorem k93_29 {L : Nat} {xs : Nat → Int32} : decode (am_cd (am_me (tb_P L xs) 93)) 29 = .ok (.aload_n 3, 1) := show decode (am_cd (tb_me 93)) 29 = .ok (.aload_n 3, 1) from by decide +kernel
theorem k93_30 {L : Nat} {xs : Nat → Int32} : decode (am_cd (am_me (tb_P L xs) 93)) 30 = .ok (.iload_n 2, 1) := show decode (am_cd (tb_me 93)) 30 = .ok (.iload_n 2, 1) from by decide +kernel
theorem k93_31 {L : Nat} {xs : Nat → Int32} : decode (am_cd (am_me (tb_P L xs) 93)) 31 = .ok (.invokevirtual 226, 3) := show decode (am_cd (tb_me 93)) 31 = .ok (.invokevirtual 226, 3) from by decide +kernel
theorem s93_31 {L : Nat} {xs : Nat → Int32} : am_sp (tb_P L xs) 93 226 = none := show tb_spF 93 226 = none from by decide +kernel
theorem c93_31 {L : Nat} {xs : Nat → Int32} : am_ca (tb_P L xs) 93 226 = some (95, 2, 1) := show tb_caF 93 226 = some (95, 2, 1) from by decide +kernel
theorem r93_31 {L : Nat} {xs : Nat → Int32} : am_rf (am_me (tb_P L xs) 95) + 1 ≤ am_rf (am_me (tb_P L xs) 93) ∧ 0 + (am_ml (am_me (tb_P L xs) 95) + 11) + am_rl (am_me (tb_P L xs) 95) ≤ am_rl (am_me (tb_P L xs) 93) := show am_rf (tb_me 95) + 1 ≤ am_rf (tb_me 93) ∧ 0 + (am_ml (tb_me 95) + 11) + am_rl (tb_me 95) ≤ am_rl (tb_me 93) from by decide +kernel
theorem k93_34 {L : Nat} {xs : Nat → Int32} : decode (am_cd (am_me (tb_P L xs) 93)) 34 = .ok (.ireturn, 1) := show decode (am_cd (tb_me 93)) 34 = .ok (.ireturn, 1) from by decide +kernel
theorem t93 {L : Nat} {xs : Nat → Int32} : am_rt (am_me (tb_P L xs) 93) = some (.boolean : FieldType) := show am_rt (tb_me 93) = some (.boolean : FieldType) from by decide +kernel
theorem l93 {L : Nat} {xs : Nat → Int32} : am_ml (am_me (tb_P L xs) 93) = 4 := show am_ml (tb_me 93) = 4 from by decide +kernel
theorem o93 {L : Nat} {xs : Nat → Int32} (pc : Nat) : am_no (tb_P L xs) 93 pc = true := show (am_hd (tb_me 93)).all (fun q => !(decide (q.1 ≤ pc) && decide (pc < q.2.1))) = true from by rw [show am_hd (tb_me 93) = [] by decide +kernel]; rfl
theorem k94_0 {L : Nat} {xs : Nat → Int32} : decode (am_cd (am_me (tb_P L xs) 94)) 0 = .ok (.aload_n 0, 1) := show decode (am_cd (tb_me 94)) 0 = .ok (.aload_n 0, 1) from by decide +kernel
theorem k94_1 {L : Nat} {xs : Nat → Int32} : decode (am_cd (am_me (tb_P L xs) 94)) 1 = .ok (.iload_n 1, 1) := show decode (am_cd (tb_me 94)) 1 = .ok (.iload_n 1, 1) from by decide +kernel
theorem k94_2 {L : Nat} {xs : Nat → Int32} : decode (am_cd (am_me (tb_P L xs) 94)) 2 = .ok (.invokevirtual 123, 3) := show decode (am_cd (tb_me 94)) 2 = .ok (.invokevirtual 123, 3) from by decide +kernel
theorem s94_2 {L : Nat} {xs : Nat → Int32} : am_sp (tb_P L xs) 94 123 = none := show tb_spF 94 123 = none from by decide +kernel
theorem c94_2 {L : Nat} {xs : Nat → Int32} : am_ca (tb_P L xs) 94 123 = some (67, 1, 1) := show tb_caF 94 123 = some (67, 1, 1) from by decide +kernel
theorem r94_2 {L : Nat} {xs : Nat → Int32} : am_rf (am_me (tb_P L xs) 67) + 1 ≤ am_rf (am_me (tb_P L xs) 94) ∧ 0 + (am_ml (am_me (tb_P L xs) 67) + 11) + am_rl (am_me (tb_P L xs) 67) ≤ am_rl (am_me (tb_P L xs) 94) := show am_rf (tb_me 67) + 1 ≤ am_rf (tb_me 94) ∧ 0 + (am_ml (tb_me 67) + 11) + am_rl (tb_me 67) ≤ am_rl (tb_me 94) from by decide +kernel
theorem k94_5 {L : Nat} {xs : Nat → Int32} : decode (am_cd (am_me (tb_P L xs) 94)) 5 = .ok (.astore_n 3, 1) := show decode (am_cd (tb_me 94)) 5 = .ok (.astore_n 3, 1) from by decide +kernel
theorem k94_6 {L : Nat} {xs : Nat → Int32} : decode (am_cd (am_me (tb_P L xs) 94)) 6 = .ok (.aload_n 3, 1) := show decode (am_cd (tb_me 94)) 6 = .ok (.aload_n 3, 1) from by decide +kernel
theorem k94_7 {L : Nat} {xs : Nat → Int32} : decode (am_cd (am_me (tb_P L xs) 94)) 7 = .ok (.getfield 148, 3) := show decode (am_cd (tb_me 94)) 7 = .ok (.getfield 148, 3) from by decide +kernel
theorem f94_7 {L : Nat} {xs : Nat → Int32} : am_fd (tb_P L xs) 94 148 = some (3, 0, (.int : FieldType), false) := show tb_fdF 94 148 = some (3, 0, (.int : FieldType), false) from by decide +kernel
theorem k94_10 {L : Nat} {xs : Nat → Int32} : decode (am_cd (am_me (tb_P L xs) 94)) 10 = .ok (.iconst 1, 1) := show decode (am_cd (tb_me 94)) 10 = .ok (.iconst 1, 1) from by decide +kernel
theorem k94_11 {L : Nat} {xs : Nat → Int32} : decode (am_cd (am_me (tb_P L xs) 94)) 11 = .ok (.if_icmp .ne 18, 3) := show decode (am_cd (tb_me 94)) 11 = .ok (.if_icmp .ne 18, 3) from by decide +kernel
theorem k94_14 {L : Nat} {xs : Nat → Int32} : decode (am_cd (am_me (tb_P L xs) 94)) 14 = .ok (.iload_n 2, 1) := show decode (am_cd (tb_me 94)) 14 = .ok (.iload_n 2, 1) from by decide +kernel
theorem k94_15 {L : Nat} {xs : Nat → Int32} : decode (am_cd (am_me (tb_P L xs) 94)) 15 = .ok (.aload_n 3, 1) := show decode (am_cd (tb_me 94)) 15 = .ok (.aload_n 3, 1) from by decide +kernel
theorem k94_16 {L : Nat} {xs : Nat → Int32} : decode (am_cd (am_me (tb_P L xs) 94)) 16 = .ok (.getfield 250, 3) := show decode (am_cd (tb_me 94)) 16 = .ok (.getfield 250, 3) from by decide +kernel
theorem f94_16 {L : Nat} {xs : Nat → Int32} : am_fd (tb_P L xs) 94 250 = some (3, 1, (.int : FieldType), false) := show tb_fdF 94 250 = some (3, 1, (.int : FieldType), false) from by decide +kernel
theorem k94_19 {L : Nat} {xs : Nat → Int32} : decode (am_cd (am_me (tb_P L xs) 94)) 19 = .ok (.invokestatic 61, 3) := show decode (am_cd (tb_me 94)) 19 = .ok (.invokestatic 61, 3) from by decide +kernel
theorem s94_19 {L : Nat} {xs : Nat → Int32} : am_sp (tb_P L xs) 94 61 = none := show tb_spF 94 61 = none from by decide +kernel
theorem c94_19 {L : Nat} {xs : Nat → Int32} : am_ca (tb_P L xs) 94 61 = some (26, 2, 0) := show tb_caF 94 61 = some (26, 2, 0) from by decide +kernel
theorem r94_19 {L : Nat} {xs : Nat → Int32} : am_rf (am_me (tb_P L xs) 26) + 1 ≤ am_rf (am_me (tb_P L xs) 94) ∧ 0 + (am_ml (am_me (tb_P L xs) 26) + 11) + am_rl (am_me (tb_P L xs) 26) ≤ am_rl (am_me (tb_P L xs) 94) := show am_rf (tb_me 26) + 1 ≤ am_rf (tb_me 94) ∧ 0 + (am_ml (tb_me 26) + 11) + am_rl (tb_me 26) ≤ am_rl (tb_me 94) from by decide +kernel
theorem k94_22 {L : Nat} {xs : Nat → Int32} : decode (am_cd (am_me (tb_P L xs) 94)) 22 = .ok (.ifCond .eq 7, 3) := show decode (am_cd (tb_me 94)) 22 = .ok (.ifCond .eq 7, 3) from by decide +kernel
theorem k94_25 {L : Nat} {xs : Nat → Int32} : decode (am_cd (am_me (tb_P L xs) 94)) 25 = .ok (.iconst 1, 1) := show decode (am_cd (tb_me 94)) 25 = .ok (.iconst 1, 1) from by decide +kernel
theorem k94_26 {L : Nat} {xs : Nat → Int32} : decode (am_cd (am_me (tb_P L xs) 94)) 26 = .ok (.goto 4, 3) := show decode (am_cd (tb_me 94)) 26 = .ok (.goto 4, 3) from by decide +kernel
theorem k94_29 {L : Nat} {xs : Nat → Int32} : decode (am_cd (am_me (tb_P L xs) 94)) 29 = .ok (.iconst 0, 1) := show decode (am_cd (tb_me 94)) 29 = .ok (.iconst 0, 1) from by decide +kernel
theorem k94_30 {L : Nat} {xs : Nat → Int32} : decode (am_cd (am_me (tb_P L xs) 94)) 30 = .ok (.invokestatic 134, 3) := show decode (am_cd (tb_me 94)) 30 = .ok (.invokestatic 134, 3) from by decide +kernel
theorem s94_30 {L : Nat} {xs : Nat → Int32} : am_sp (tb_P L xs) 94 134 = none := show tb_spF 94 134 = none from by decide +kernel
theorem c94_30 {L : Nat} {xs : Nat → Int32} : am_ca (tb_P L xs) 94 134 = some (69, 1, 0) := show tb_caF 94 134 = some (69, 1, 0) from by decide +kernel
theorem r94_30 {L : Nat} {xs : Nat → Int32} : am_rf (am_me (tb_P L xs) 69) + 1 ≤ am_rf (am_me (tb_P L xs) 94) ∧ 0 + (am_ml (am_me (tb_P L xs) 69) + 11) + am_rl (am_me (tb_P L xs) 69) ≤ am_rl (am_me (tb_P L xs) 94) := show am_rf (tb_me 69) + 1 ≤ am_rf (tb_me 94) ∧ 0 + (am_ml (tb_me 69) + 11) + am_rl (tb_me 69) ≤ am_rl (tb_me 94) from by decide +kernel
theorem k94_33 {L : Nat} {xs : Nat → Int32} : decode (am_cd (am_me (tb_P L xs) 94)) 33 = .ok (.aload_n 3, 1) := show decode (am_cd (tb_me 94)) 33 = .ok (.aload_n 3, 1) from by decide +kernel
theorem k94_34 {L : Nat} {xs : Nat → Int32} : decode (am_cd (am_me (tb_P L xs) 94)) 34 = .ok (.areturn, 1) := show decode (am_cd (tb_me 94)) 34 = .ok (.areturn, 1) from by decide +kernel
theorem t94 {L : Nat} {xs : Nat → Int32} : am_rt (am_me (tb_P L xs) 94) = some (.object "GluedMachines$Event" : FieldType) := show am_rt (tb_me 94) = some (.object "GluedMachines$Event" : FieldType) from by decide +kernel
theorem l94 {L : Nat} {xs : Nat → Int32} : am_ml (am_me (tb_P L xs) 94) = 4 := show am_ml (tb_me 94) = 4 from by decide +kernel
theorem o94 {L : Nat} {xs : Nat → Int32} (pc : Nat) : am_no (tb_P L xs) 94 pc = true := show (am_hd (tb_me 94)).all (fun q => !(decide (q.1 ≤ pc) && decide (pc < q.2.1))) = true from by rw [show am_hd (tb_me 94) = [] by decide +kernel]; rfl
theorem k95_0 {L : Nat} {xs : Nat → Int32} : decode (am_cd (am_me (tb_P L xs) 95)) 0 = .ok (.aload_n 0, 1) := show decode (am_cd (tb_me 95)) 0 = .ok (.aload_n 0, 1) from by decide +kernel
theorem k95_1 {L : Nat} {xs : Nat → Int32} : decode (am_cd (am_me (tb_P L xs) 95)) 1 = .ok (.getfield 9, 3) := show decode (am_cd (tb_me 95)) 1 = .ok (.getfield 9, 3) from by decide +kernel
theorem f95_1 {L : Nat} {xs : Nat → Int32} : am_fd (tb_P L xs) 95 9 = some (7, 1, (.array .int : FieldType), false) := show tb_fdF 95 9 = some (7, 1, (.array .int : FieldType), false) from by decide +kernel
theorem k95_4 {L : Nat} {xs : Nat → Int32} : decode (am_cd (am_me (tb_P L xs) 95)) 4 = .ok (.bipush 6, 2) := show decode (am_cd (tb_me 95)) 4 = .ok (.bipush 6, 2) from by decide +kernel
theorem k95_6 {L : Nat} {xs : Nat → Int32} : decode (am_cd (am_me (tb_P L xs) 95)) 6 = .ok (.iload_n 2, 1) := show decode (am_cd (tb_me 95)) 6 = .ok (.iload_n 2, 1) from by decide +kernel
theorem k95_7 {L : Nat} {xs : Nat → Int32} : decode (am_cd (am_me (tb_P L xs) 95)) 7 = .ok (.iastore, 1) := show decode (am_cd (tb_me 95)) 7 = .ok (.iastore, 1) from by decide +kernel
theorem k95_8 {L : Nat} {xs : Nat → Int32} : decode (am_cd (am_me (tb_P L xs) 95)) 8 = .ok (.aload_n 1, 1) := show decode (am_cd (tb_me 95)) 8 = .ok (.aload_n 1, 1) from by decide +kernel
theorem k95_9 {L : Nat} {xs : Nat → Int32} : decode (am_cd (am_me (tb_P L xs) 95)) 9 = .ok (.aload_n 0, 1) := show decode (am_cd (tb_me 95)) 9 = .ok (.aload_n 0, 1) from by decide +kernel
theorem k95_10 {L : Nat} {xs : Nat → Int32} : decode (am_cd (am_me (tb_P L xs) 95)) 10 = .ok (.getfield 9, 3) := show decode (am_cd (tb_me 95)) 10 = .ok (.getfield 9, 3) from by decide +kernel
theorem f95_10 {L : Nat} {xs : Nat → Int32} : am_fd (tb_P L xs) 95 9 = some (7, 1, (.array .int : FieldType), false) := show tb_fdF 95 9 = some (7, 1, (.array .int : FieldType), false) from by decide +kernel
theorem k95_13 {L : Nat} {xs : Nat → Int32} : decode (am_cd (am_me (tb_P L xs) 95)) 13 = .ok (.invokevirtual 47, 3) := show decode (am_cd (tb_me 95)) 13 = .ok (.invokevirtual 47, 3) from by decide +kernel
theorem s95_13 {L : Nat} {xs : Nat → Int32} : am_sp (tb_P L xs) 95 47 = none := show tb_spF 95 47 = none from by decide +kernel
theorem c95_13 {L : Nat} {xs : Nat → Int32} : am_ca (tb_P L xs) 95 47 = some (23, 1, 1) := show tb_caF 95 47 = some (23, 1, 1) from by decide +kernel
theorem r95_13 {L : Nat} {xs : Nat → Int32} : am_rf (am_me (tb_P L xs) 23) + 1 ≤ am_rf (am_me (tb_P L xs) 95) ∧ 0 + (am_ml (am_me (tb_P L xs) 23) + 11) + am_rl (am_me (tb_P L xs) 23) ≤ am_rl (am_me (tb_P L xs) 95) := show am_rf (tb_me 23) + 1 ≤ am_rf (tb_me 95) ∧ 0 + (am_ml (tb_me 23) + 11) + am_rl (tb_me 23) ≤ am_rl (tb_me 95) from by decide +kernel
theorem k95_16 {L : Nat} {xs : Nat → Int32} : decode (am_cd (am_me (tb_P L xs) 95)) 16 = .ok (.ifCond .eq 22, 3) := show decode (am_cd (tb_me 95)) 16 = .ok (.ifCond .eq 22, 3) from by decide +kernel
theorem k95_19 {L : Nat} {xs : Nat → Int32} : decode (am_cd (am_me (tb_P L xs) 95)) 19 = .ok (.aload_n 0, 1) := show decode (am_cd (tb_me 95)) 19 = .ok (.aload_n 0, 1) from by decide +kernel
theorem k95_20 {L : Nat} {xs : Nat → Int32} : decode (am_cd (am_me (tb_P L xs) 95)) 20 = .ok (.getfield 29, 3) := show decode (am_cd (tb_me 95)) 20 = .ok (.getfield 29, 3) from by decide +kernel
theorem f95_20 {L : Nat} {xs : Nat → Int32} : am_fd (tb_P L xs) 95 29 = some (7, 0, (.object "GluedMachines$Model" : FieldType), false) := show tb_fdF 95 29 = some (7, 0, (.object "GluedMachines$Model" : FieldType), false) from by decide +kernel
theorem k95_23 {L : Nat} {xs : Nat → Int32} : decode (am_cd (am_me (tb_P L xs) 95)) 23 = .ok (.aload_n 1, 1) := show decode (am_cd (tb_me 95)) 23 = .ok (.aload_n 1, 1) from by decide +kernel
theorem k95_24 {L : Nat} {xs : Nat → Int32} : decode (am_cd (am_me (tb_P L xs) 95)) 24 = .ok (.aload_n 0, 1) := show decode (am_cd (tb_me 95)) 24 = .ok (.aload_n 0, 1) from by decide +kernel
theorem k95_25 {L : Nat} {xs : Nat → Int32} : decode (am_cd (am_me (tb_P L xs) 95)) 25 = .ok (.getfield 9, 3) := show decode (am_cd (tb_me 95)) 25 = .ok (.getfield 9, 3) from by decide +kernel
theorem f95_25 {L : Nat} {xs : Nat → Int32} : am_fd (tb_P L xs) 95 9 = some (7, 1, (.array .int : FieldType), false) := show tb_fdF 95 9 = some (7, 1, (.array .int : FieldType), false) from by decide +kernel
theorem k95_28 {L : Nat} {xs : Nat → Int32} : decode (am_cd (am_me (tb_P L xs) 95)) 28 = .ok (.invokevirtual 53, 3) := show decode (am_cd (tb_me 95)) 28 = .ok (.invokevirtual 53, 3) from by decide +kernel
theorem s95_28 {L : Nat} {xs : Nat → Int32} : am_sp (tb_P L xs) 95 53 = none := show tb_spF 95 53 = none from by decide +kernel
theorem c95_28 {L : Nat} {xs : Nat → Int32} : am_ca (tb_P L xs) 95 53 = some (30, 2, 1) := show tb_caF 95 53 = some (30, 2, 1) from by decide +kernel
theorem r95_28 {L : Nat} {xs : Nat → Int32} : am_rf (am_me (tb_P L xs) 30) + 1 ≤ am_rf (am_me (tb_P L xs) 95) ∧ 0 + (am_ml (am_me (tb_P L xs) 30) + 11) + am_rl (am_me (tb_P L xs) 30) ≤ am_rl (am_me (tb_P L xs) 95) := show am_rf (tb_me 30) + 1 ≤ am_rf (tb_me 95) ∧ 0 + (am_ml (tb_me 30) + 11) + am_rl (tb_me 30) ≤ am_rl (tb_me 95) from by decide +kernel
theorem k95_31 {L : Nat} {xs : Nat → Int32} : decode (am_cd (am_me (tb_P L xs) 95)) 31 = .ok (.ifCond .eq 7, 3) := show decode (am_cd (tb_me 95)) 31 = .ok (.ifCond .eq 7, 3) from by decide +kernel
theorem k95_34 {L : Nat} {xs : Nat → Int32} : decode (am_cd (am_me (tb_P L xs) 95)) 34 = .ok (.iconst 1, 1) := show decode (am_cd (tb_me 95)) 34 = .ok (.iconst 1, 1) from by decide +kernel
theorem k95_35 {L : Nat} {xs : Nat → Int32} : decode (am_cd (am_me (tb_P L xs) 95)) 35 = .ok (.goto 4, 3) := show decode (am_cd (tb_me 95)) 35 = .ok (.goto 4, 3) from by decide +kernel
theorem k95_38 {L : Nat} {xs : Nat → Int32} : decode (am_cd (am_me (tb_P L xs) 95)) 38 = .ok (.iconst 0, 1) := show decode (am_cd (tb_me 95)) 38 = .ok (.iconst 0, 1) from by decide +kernel
theorem k95_39 {L : Nat} {xs : Nat → Int32} : decode (am_cd (am_me (tb_P L xs) 95)) 39 = .ok (.ireturn, 1) := show decode (am_cd (tb_me 95)) 39 = .ok (.ireturn, 1) from by decide +kernel
theorem t95 {L : Nat} {xs : Nat → Int32} : am_rt (am_me (tb_P L xs) 95) = some (.boolean : FieldType) := show am_rt (tb_me 95) = some (.boolean : FieldType) from by decide +kernel
theorem l95 {L : Nat} {xs : Nat → Int32} : am_ml (am_me (tb_P L xs) 95) = 3 := show am_ml (tb_me 95) = 3 from by decide +kernel
theorem o95 {L : Nat} {xs : Nat → Int32} (pc : Nat) : am_no (tb_P L xs) 95 pc = true := show (am_hd (tb_me 95)).all (fun q => !(decide (q.1 ≤ pc) && decide (pc < q.2.1))) = true from by rw [show am_hd (tb_me 95) = [] by decide +kernel]; rfl
theorem k96_0 {L : Nat} {xs : Nat → Int32} : decode (am_cd (am_me (tb_P L xs) 96)) 0 = .ok (.aload_n 3, 1) := show decode (am_cd (tb_me 96)) 0 = .ok (.aload_n 3, 1) from by decide +kernel
theorem k96_1 {L : Nat} {xs : Nat → Int32} : decode (am_cd (am_me (tb_P L xs) 96)) 1 = .ok (.iconst 0, 1) := show decode (am_cd (tb_me 96)) 1 = .ok (.iconst 0, 1) from by decide +kernel
theorem k96_2 {L : Nat} {xs : Nat → Int32} : decode (am_cd (am_me (tb_P L xs) 96)) 2 = .ok (.aload_n 0, 1) := show decode (am_cd (tb_me 96)) 2 = .ok (.aload_n 0, 1) from by decide +kernel
theorem k96_3 {L : Nat} {xs : Nat → Int32} : decode (am_cd (am_me (tb_P L xs) 96)) 3 = .ok (.iload_n 1, 1) := show decode (am_cd (tb_me 96)) 3 = .ok (.iload_n 1, 1) from by decide +kernel
theorem k96_4 {L : Nat} {xs : Nat → Int32} : decode (am_cd (am_me (tb_P L xs) 96)) 4 = .ok (.iload_n 2, 1) := show decode (am_cd (tb_me 96)) 4 = .ok (.iload_n 2, 1) from by decide +kernel
theorem k96_5 {L : Nat} {xs : Nat → Int32} : decode (am_cd (am_me (tb_P L xs) 96)) 5 = .ok (.invokevirtual 57, 3) := show decode (am_cd (tb_me 96)) 5 = .ok (.invokevirtual 57, 3) from by decide +kernel
theorem s96_5 {L : Nat} {xs : Nat → Int32} : am_sp (tb_P L xs) 96 57 = none := show tb_spF 96 57 = none from by decide +kernel
theorem c96_5 {L : Nat} {xs : Nat → Int32} : am_ca (tb_P L xs) 96 57 = some (97, 2, 1) := show tb_caF 96 57 = some (97, 2, 1) from by decide +kernel
theorem r96_5 {L : Nat} {xs : Nat → Int32} : am_rf (am_me (tb_P L xs) 97) + 1 ≤ am_rf (am_me (tb_P L xs) 96) ∧ 2 + (am_ml (am_me (tb_P L xs) 97) + 11) + am_rl (am_me (tb_P L xs) 97) ≤ am_rl (am_me (tb_P L xs) 96) := show am_rf (tb_me 97) + 1 ≤ am_rf (tb_me 96) ∧ 2 + (am_ml (tb_me 97) + 11) + am_rl (tb_me 97) ≤ am_rl (tb_me 96) from by decide +kernel
theorem k96_8 {L : Nat} {xs : Nat → Int32} : decode (am_cd (am_me (tb_P L xs) 96)) 8 = .ok (.i2l, 1) := show decode (am_cd (tb_me 96)) 8 = .ok (.i2l, 1) from by decide +kernel
theorem k96_9 {L : Nat} {xs : Nat → Int32} : decode (am_cd (am_me (tb_P L xs) 96)) 9 = .ok (.lastore, 1) := show decode (am_cd (tb_me 96)) 9 = .ok (.lastore, 1) from by decide +kernel
theorem k96_10 {L : Nat} {xs : Nat → Int32} : decode (am_cd (am_me (tb_P L xs) 96)) 10 = .ok (.goto 15, 3) := show decode (am_cd (tb_me 96)) 10 = .ok (.goto 15, 3) from by decide +kernel
theorem k96_13 {L : Nat} {xs : Nat → Int32} : decode (am_cd (am_me (tb_P L xs) 96)) 13 = .ok (.astore 4, 2) := show decode (am_cd (tb_me 96)) 13 = .ok (.astore 4, 2) from by decide +kernel
theorem k96_15 {L : Nat} {xs : Nat → Int32} : decode (am_cd (am_me (tb_P L xs) 96)) 15 = .ok (.iconst 1, 1) := show decode (am_cd (tb_me 96)) 15 = .ok (.iconst 1, 1) from by decide +kernel
theorem k96_16 {L : Nat} {xs : Nat → Int32} : decode (am_cd (am_me (tb_P L xs) 96)) 16 = .ok (.ireturn, 1) := show decode (am_cd (tb_me 96)) 16 = .ok (.ireturn, 1) from by decide +kernel
theorem k96_17 {L : Nat} {xs : Nat → Int32} : decode (am_cd (am_me (tb_P L xs) 96)) 17 = .ok (.astore 4, 2) := show decode (am_cd (tb_me 96)) 17 = .ok (.astore 4, 2) from by decide +kernel
theorem k96_19 {L : Nat} {xs : Nat → Int32} : decode (am_cd (am_me (tb_P L xs) 96)) 19 = .ok (.iconst 2, 1) := show decode (am_cd (tb_me 96)) 19 = .ok (.iconst 2, 1) from by decide +kernel
theorem k96_20 {L : Nat} {xs : Nat → Int32} : decode (am_cd (am_me (tb_P L xs) 96)) 20 = .ok (.ireturn, 1) := show decode (am_cd (tb_me 96)) 20 = .ok (.ireturn, 1) from by decide +kernel
theorem k96_21 {L : Nat} {xs : Nat → Int32} : decode (am_cd (am_me (tb_P L xs) 96)) 21 = .ok (.astore 4, 2) := show decode (am_cd (tb_me 96)) 21 = .ok (.astore 4, 2) from by decide +kernel
theorem k96_23 {L : Nat} {xs : Nat → Int32} : decode (am_cd (am_me (tb_P L xs) 96)) 23 = .ok (.iconst 3, 1) := show decode (am_cd (tb_me 96)) 23 = .ok (.iconst 3, 1) from by decide +kernel
theorem k96_24 {L : Nat} {xs : Nat → Int32} : decode (am_cd (am_me (tb_P L xs) 96)) 24 = .ok (.ireturn, 1) := show decode (am_cd (tb_me 96)) 24 = .ok (.ireturn, 1) from by decide +kernel
theorem k96_25 {L : Nat} {xs : Nat → Int32} : decode (am_cd (am_me (tb_P L xs) 96)) 25 = .ok (.iconst 0, 1) := show decode (am_cd (tb_me 96)) 25 = .ok (.iconst 0, 1) from by decide +kernel
theorem k96_26 {L : Nat} {xs : Nat → Int32} : decode (am_cd (am_me (tb_P L xs) 96)) 26 = .ok (.ireturn, 1) := show decode (am_cd (tb_me 96)) 26 = .ok (.ireturn, 1) from by decide +kernel
theorem t96 {L : Nat} {xs : Nat → Int32} : am_rt (am_me (tb_P L xs) 96) = some (.int : FieldType) := show am_rt (tb_me 96) = some (.int : FieldType) from by decide +kernel
theorem l96 {L : Nat} {xs : Nat → Int32} : am_ml (am_me (tb_P L xs) 96) = 5 := show am_ml (tb_me 96) = 5 from by decide +kernel
theorem k97_0 {L : Nat} {xs : Nat → Int32} : decode (am_cd (am_me (tb_P L xs) 97)) 0 = .ok (.aload_n 0, 1) := show decode (am_cd (tb_me 97)) 0 = .ok (.aload_n 0, 1) from by decide +kernel
theorem k97_1 {L : Nat} {xs : Nat → Int32} : decode (am_cd (am_me (tb_P L xs) 97)) 1 = .ok (.iload_n 1, 1) := show decode (am_cd (tb_me 97)) 1 = .ok (.iload_n 1, 1) from by decide +kernel
theorem k97_2 {L : Nat} {xs : Nat → Int32} : decode (am_cd (am_me (tb_P L xs) 97)) 2 = .ok (.iload_n 2, 1) := show decode (am_cd (tb_me 97)) 2 = .ok (.iload_n 2, 1) from by decide +kernel
theorem k97_3 {L : Nat} {xs : Nat → Int32} : decode (am_cd (am_me (tb_P L xs) 97)) 3 = .ok (.invokevirtual 219, 3) := show decode (am_cd (tb_me 97)) 3 = .ok (.invokevirtual 219, 3) from by decide +kernel
theorem s97_3 {L : Nat} {xs : Nat → Int32} : am_sp (tb_P L xs) 97 219 = none := show tb_spF 97 219 = none from by decide +kernel
theorem c97_3 {L : Nat} {xs : Nat → Int32} : am_ca (tb_P L xs) 97 219 = some (94, 2, 1) := show tb_caF 97 219 = some (94, 2, 1) from by decide +kernel
theorem r97_3 {L : Nat} {xs : Nat → Int32} : am_rf (am_me (tb_P L xs) 94) + 1 ≤ am_rf (am_me (tb_P L xs) 97) ∧ 0 + (am_ml (am_me (tb_P L xs) 94) + 11) + am_rl (am_me (tb_P L xs) 94) ≤ am_rl (am_me (tb_P L xs) 97) := show am_rf (tb_me 94) + 1 ≤ am_rf (tb_me 97) ∧ 0 + (am_ml (tb_me 94) + 11) + am_rl (tb_me 94) ≤ am_rl (tb_me 97) from by decide +kernel
theorem k97_6 {L : Nat} {xs : Nat → Int32} : decode (am_cd (am_me (tb_P L xs) 97)) 6 = .ok (.astore_n 3, 1) := show decode (am_cd (tb_me 97)) 6 = .ok (.astore_n 3, 1) from by decide +kernel
theorem k97_7 {L : Nat} {xs : Nat → Int32} : decode (am_cd (am_me (tb_P L xs) 97)) 7 = .ok (.aload_n 0, 1) := show decode (am_cd (tb_me 97)) 7 = .ok (.aload_n 0, 1) from by decide +kernel
theorem k97_8 {L : Nat} {xs : Nat → Int32} : decode (am_cd (am_me (tb_P L xs) 97)) 8 = .ok (.getfield 53, 3) := show decode (am_cd (tb_me 97)) 8 = .ok (.getfield 53, 3) from by decide +kernel
theorem f97_8 {L : Nat} {xs : Nat → Int32} : am_fd (tb_P L xs) 97 53 = some (0, 5, (.object "GluedMachines$Run" : FieldType), false) := show tb_fdF 97 53 = some (0, 5, (.object "GluedMachines$Run" : FieldType), false) from by decide +kernel
theorem k97_11 {L : Nat} {xs : Nat → Int32} : decode (am_cd (am_me (tb_P L xs) 97)) 11 = .ok (.getfield 223, 3) := show decode (am_cd (tb_me 97)) 11 = .ok (.getfield 223, 3) from by decide +kernel
theorem f97_11 {L : Nat} {xs : Nat → Int32} : am_fd (tb_P L xs) 97 223 = some (7, 4, (.boolean : FieldType), true) := show tb_fdF 97 223 = some (7, 4, (.boolean : FieldType), true) from by decide +kernel
theorem k97_14 {L : Nat} {xs : Nat → Int32} : decode (am_cd (am_me (tb_P L xs) 97)) 14 = .ok (.ifCond .ne 11, 3) := show decode (am_cd (tb_me 97)) 14 = .ok (.ifCond .ne 11, 3) from by decide +kernel
theorem k97_17 {L : Nat} {xs : Nat → Int32} : decode (am_cd (am_me (tb_P L xs) 97)) 17 = .ok (.new 85, 3) := show decode (am_cd (tb_me 97)) 17 = .ok (.new 85, 3) from by decide +kernel
theorem n97_17 {L : Nat} {xs : Nat → Int32} : am_nw (tb_P L xs) 97 85 = none := show tb_nwF 97 85 = none from by decide +kernel
theorem x97_17 {L : Nat} {xs : Nat → Int32} : am_xn (tb_P L xs) 97 85 87 = some 10 := show tb_xnF 97 85 87 = some 10 from by decide +kernel
theorem r97_17 {L : Nat} {xs : Nat → Int32} : 5 < am_rf (am_me (tb_P L xs) 97) ∧ 0 + 82 ≤ am_rl (am_me (tb_P L xs) 97) := show 5 < am_rf (tb_me 97) ∧ 0 + 82 ≤ am_rl (tb_me 97) from by decide +kernel
theorem k97_20 {L : Nat} {xs : Nat → Int32} : decode (am_cd (am_me (tb_P L xs) 97)) 20 = .ok (.dup, 1) := show decode (am_cd (tb_me 97)) 20 = .ok (.dup, 1) from by decide +kernel
theorem k97_21 {L : Nat} {xs : Nat → Int32} : decode (am_cd (am_me (tb_P L xs) 97)) 21 = .ok (.invokespecial 87, 3) := show decode (am_cd (tb_me 97)) 21 = .ok (.invokespecial 87, 3) from by decide +kernel
theorem k97_24 {L : Nat} {xs : Nat → Int32} : decode (am_cd (am_me (tb_P L xs) 97)) 24 = .ok (.athrow, 1) := show decode (am_cd (tb_me 97)) 24 = .ok (.athrow, 1) from by decide +kernel
theorem k97_25 {L : Nat} {xs : Nat → Int32} : decode (am_cd (am_me (tb_P L xs) 97)) 25 = .ok (.aload_n 0, 1) := show decode (am_cd (tb_me 97)) 25 = .ok (.aload_n 0, 1) from by decide +kernel
theorem k97_26 {L : Nat} {xs : Nat → Int32} : decode (am_cd (am_me (tb_P L xs) 97)) 26 = .ok (.getfield 53, 3) := show decode (am_cd (tb_me 97)) 26 = .ok (.getfield 53, 3) from by decide +kernel
theorem f97_26 {L : Nat} {xs : Nat → Int32} : am_fd (tb_P L xs) 97 53 = some (0, 5, (.object "GluedMachines$Run" : FieldType), false) := show tb_fdF 97 53 = some (0, 5, (.object "GluedMachines$Run" : FieldType), false) from by decide +kernel
theorem k97_29 {L : Nat} {xs : Nat → Int32} : decode (am_cd (am_me (tb_P L xs) 97)) 29 = .ok (.getfield 230, 3) := show decode (am_cd (tb_me 97)) 29 = .ok (.getfield 230, 3) from by decide +kernel
theorem f97_29 {L : Nat} {xs : Nat → Int32} : am_fd (tb_P L xs) 97 230 = some (7, 5, (.boolean : FieldType), true) := show tb_fdF 97 230 = some (7, 5, (.boolean : FieldType), true) from by decide +kernel
theorem k97_32 {L : Nat} {xs : Nat → Int32} : decode (am_cd (am_me (tb_P L xs) 97)) 32 = .ok (.ifCond .ne 27, 3) := show decode (am_cd (tb_me 97)) 32 = .ok (.ifCond .ne 27, 3) from by decide +kernel
theorem k97_35 {L : Nat} {xs : Nat → Int32} : decode (am_cd (am_me (tb_P L xs) 97)) 35 = .ok (.aload_n 0, 1) := show decode (am_cd (tb_me 97)) 35 = .ok (.aload_n 0, 1) from by decide +kernel
theorem k97_36 {L : Nat} {xs : Nat → Int32} : decode (am_cd (am_me (tb_P L xs) 97)) 36 = .ok (.getfield 53, 3) := show decode (am_cd (tb_me 97)) 36 = .ok (.getfield 53, 3) from by decide +kernel
theorem f97_36 {L : Nat} {xs : Nat → Int32} : am_fd (tb_P L xs) 97 53 = some (0, 5, (.object "GluedMachines$Run" : FieldType), false) := show tb_fdF 97 53 = some (0, 5, (.object "GluedMachines$Run" : FieldType), false) from by decide +kernel
theorem k97_39 {L : Nat} {xs : Nat → Int32} : decode (am_cd (am_me (tb_P L xs) 97)) 39 = .ok (.getfield 233, 3) := show decode (am_cd (tb_me 97)) 39 = .ok (.getfield 233, 3) from by decide +kernel
theorem f97_39 {L : Nat} {xs : Nat → Int32} : am_fd (tb_P L xs) 97 233 = some (7, 3, (.int : FieldType), true) := show tb_fdF 97 233 = some (7, 3, (.int : FieldType), true) from by decide +kernel
theorem k97_42 {L : Nat} {xs : Nat → Int32} : decode (am_cd (am_me (tb_P L xs) 97)) 42 = .ok (.bipush 60, 2) := show decode (am_cd (tb_me 97)) 42 = .ok (.bipush 60, 2) from by decide +kernel
theorem k97_44 {L : Nat} {xs : Nat → Int32} : decode (am_cd (am_me (tb_P L xs) 97)) 44 = .ok (.if_icmp .eq 15, 3) := show decode (am_cd (tb_me 97)) 44 = .ok (.if_icmp .eq 15, 3) from by decide +kernel
theorem k97_47 {L : Nat} {xs : Nat → Int32} : decode (am_cd (am_me (tb_P L xs) 97)) 47 = .ok (.aload_n 0, 1) := show decode (am_cd (tb_me 97)) 47 = .ok (.aload_n 0, 1) from by decide +kernel
theorem k97_48 {L : Nat} {xs : Nat → Int32} : decode (am_cd (am_me (tb_P L xs) 97)) 48 = .ok (.getfield 53, 3) := show decode (am_cd (tb_me 97)) 48 = .ok (.getfield 53, 3) from by decide +kernel
theorem f97_48 {L : Nat} {xs : Nat → Int32} : am_fd (tb_P L xs) 97 53 = some (0, 5, (.object "GluedMachines$Run" : FieldType), false) := show tb_fdF 97 53 = some (0, 5, (.object "GluedMachines$Run" : FieldType), false) from by decide +kernel
theorem k97_51 {L : Nat} {xs : Nat → Int32} : decode (am_cd (am_me (tb_P L xs) 97)) 51 = .ok (.aload_n 3, 1) := show decode (am_cd (tb_me 97)) 51 = .ok (.aload_n 3, 1) from by decide +kernel
theorem k97_52 {L : Nat} {xs : Nat → Int32} : decode (am_cd (am_me (tb_P L xs) 97)) 52 = .ok (.iload_n 2, 1) := show decode (am_cd (tb_me 97)) 52 = .ok (.iload_n 2, 1) from by decide +kernel
theorem k97_53 {L : Nat} {xs : Nat → Int32} : decode (am_cd (am_me (tb_P L xs) 97)) 53 = .ok (.invokevirtual 226, 3) := show decode (am_cd (tb_me 97)) 53 = .ok (.invokevirtual 226, 3) from by decide +kernel
theorem s97_53 {L : Nat} {xs : Nat → Int32} : am_sp (tb_P L xs) 97 226 = none := show tb_spF 97 226 = none from by decide +kernel
theorem c97_53 {L : Nat} {xs : Nat → Int32} : am_ca (tb_P L xs) 97 226 = some (95, 2, 1) := show tb_caF 97 226 = some (95, 2, 1) from by decide +kernel
theorem r97_53 {L : Nat} {xs : Nat → Int32} : am_rf (am_me (tb_P L xs) 95) + 1 ≤ am_rf (am_me (tb_P L xs) 97) ∧ 0 + (am_ml (am_me (tb_P L xs) 95) + 11) + am_rl (am_me (tb_P L xs) 95) ≤ am_rl (am_me (tb_P L xs) 97) := show am_rf (tb_me 95) + 1 ≤ am_rf (tb_me 97) ∧ 0 + (am_ml (tb_me 95) + 11) + am_rl (tb_me 95) ≤ am_rl (tb_me 97) from by decide +kernel
theorem k97_56 {L : Nat} {xs : Nat → Int32} : decode (am_cd (am_me (tb_P L xs) 97)) 56 = .ok (.ifCond .ne 11, 3) := show decode (am_cd (tb_me 97)) 56 = .ok (.ifCond .ne 11, 3) from by decide +kernel
theorem k97_59 {L : Nat} {xs : Nat → Int32} : decode (am_cd (am_me (tb_P L xs) 97)) 59 = .ok (.new 236, 3) := show decode (am_cd (tb_me 97)) 59 = .ok (.new 236, 3) from by decide +kernel
theorem n97_59 {L : Nat} {xs : Nat → Int32} : am_nw (tb_P L xs) 97 236 = none := show tb_nwF 97 236 = none from by decide +kernel
theorem x97_59 {L : Nat} {xs : Nat → Int32} : am_xn (tb_P L xs) 97 236 238 = some 11 := show tb_xnF 97 236 238 = some 11 from by decide +kernel
theorem r97_59 {L : Nat} {xs : Nat → Int32} : 5 < am_rf (am_me (tb_P L xs) 97) ∧ 0 + 82 ≤ am_rl (am_me (tb_P L xs) 97) := show 5 < am_rf (tb_me 97) ∧ 0 + 82 ≤ am_rl (tb_me 97) from by decide +kernel
theorem k97_62 {L : Nat} {xs : Nat → Int32} : decode (am_cd (am_me (tb_P L xs) 97)) 62 = .ok (.dup, 1) := show decode (am_cd (tb_me 97)) 62 = .ok (.dup, 1) from by decide +kernel
theorem k97_63 {L : Nat} {xs : Nat → Int32} : decode (am_cd (am_me (tb_P L xs) 97)) 63 = .ok (.invokespecial 238, 3) := show decode (am_cd (tb_me 97)) 63 = .ok (.invokespecial 238, 3) from by decide +kernel
theorem k97_66 {L : Nat} {xs : Nat → Int32} : decode (am_cd (am_me (tb_P L xs) 97)) 66 = .ok (.athrow, 1) := show decode (am_cd (tb_me 97)) 66 = .ok (.athrow, 1) from by decide +kernel
theorem k97_67 {L : Nat} {xs : Nat → Int32} : decode (am_cd (am_me (tb_P L xs) 97)) 67 = .ok (.aload_n 0, 1) := show decode (am_cd (tb_me 97)) 67 = .ok (.aload_n 0, 1) from by decide +kernel
theorem k97_68 {L : Nat} {xs : Nat → Int32} : decode (am_cd (am_me (tb_P L xs) 97)) 68 = .ok (.getfield 53, 3) := show decode (am_cd (tb_me 97)) 68 = .ok (.getfield 53, 3) from by decide +kernel
theorem f97_68 {L : Nat} {xs : Nat → Int32} : am_fd (tb_P L xs) 97 53 = some (0, 5, (.object "GluedMachines$Run" : FieldType), false) := show tb_fdF 97 53 = some (0, 5, (.object "GluedMachines$Run" : FieldType), false) from by decide +kernel
theorem k97_71 {L : Nat} {xs : Nat → Int32} : decode (am_cd (am_me (tb_P L xs) 97)) 71 = .ok (.aload_n 3, 1) := show decode (am_cd (tb_me 97)) 71 = .ok (.aload_n 3, 1) from by decide +kernel
theorem k97_72 {L : Nat} {xs : Nat → Int32} : decode (am_cd (am_me (tb_P L xs) 97)) 72 = .ok (.iload_n 2, 1) := show decode (am_cd (tb_me 97)) 72 = .ok (.iload_n 2, 1) from by decide +kernel
theorem k97_73 {L : Nat} {xs : Nat → Int32} : decode (am_cd (am_me (tb_P L xs) 97)) 73 = .ok (.invokevirtual 239, 3) := show decode (am_cd (tb_me 97)) 73 = .ok (.invokevirtual 239, 3) from by decide +kernel
theorem s97_73 {L : Nat} {xs : Nat → Int32} : am_sp (tb_P L xs) 97 239 = none := show tb_spF 97 239 = none from by decide +kernel
theorem c97_73 {L : Nat} {xs : Nat → Int32} : am_ca (tb_P L xs) 97 239 = some (98, 2, 1) := show tb_caF 97 239 = some (98, 2, 1) from by decide +kernel
theorem r97_73 {L : Nat} {xs : Nat → Int32} : am_rf (am_me (tb_P L xs) 98) + 1 ≤ am_rf (am_me (tb_P L xs) 97) ∧ 0 + (am_ml (am_me (tb_P L xs) 98) + 11) + am_rl (am_me (tb_P L xs) 98) ≤ am_rl (am_me (tb_P L xs) 97) := show am_rf (tb_me 98) + 1 ≤ am_rf (tb_me 97) ∧ 0 + (am_ml (tb_me 98) + 11) + am_rl (tb_me 98) ≤ am_rl (tb_me 97) from by decide +kernel
theorem k97_76 {L : Nat} {xs : Nat → Int32} : decode (am_cd (am_me (tb_P L xs) 97)) 76 = .ok (.ireturn, 1) := show decode (am_cd (tb_me 97)) 76 = .ok (.ireturn, 1) from by decide +kernel
theorem t97 {L : Nat} {xs : Nat → Int32} : am_rt (am_me (tb_P L xs) 97) = some (.int : FieldType) := show am_rt (tb_me 97) = some (.int : FieldType) from by decide +kernel
theorem l97 {L : Nat} {xs : Nat → Int32} : am_ml (am_me (tb_P L xs) 97) = 4 := show am_ml (tb_me 97) = 4 from by decide +kernel
theorem o97 {L : Nat} {xs : Nat → Int32} (pc : Nat) : am_no (tb_P L xs) 97 pc = true := show (am_hd (tb_me 97)).all (fun q => !(decide (q.1 ≤ pc) && decide (pc < q.2.1))) = true from by rw [show am_hd (tb_me 97) = [] by decide +kernel]; rfl
theorem k98_0 {L : Nat} {xs : Nat → Int32} : decode (am_cd (am_me (tb_P L xs) 98)) 0 = .ok (.aload_n 0, 1) := show decode (am_cd (tb_me 98)) 0 = .ok (.aload_n 0, 1) from by decide +kernel
theorem k98_1 {L : Nat} {xs : Nat → Int32} : decode (am_cd (am_me (tb_P L xs) 98)) 1 = .ok (.getfield 9, 3) := show decode (am_cd (tb_me 98)) 1 = .ok (.getfield 9, 3) from by decide +kernel
theorem f98_1 {L : Nat} {xs : Nat → Int32} : am_fd (tb_P L xs) 98 9 = some (7, 1, (.array .int : FieldType), false) := show tb_fdF 98 9 = some (7, 1, (.array .int : FieldType), false) from by decide +kernel
theorem k98_4 {L : Nat} {xs : Nat → Int32} : decode (am_cd (am_me (tb_P L xs) 98)) 4 = .ok (.bipush 6, 2) := show decode (am_cd (tb_me 98)) 4 = .ok (.bipush 6, 2) from by decide +kernel
theorem k98_6 {L : Nat} {xs : Nat → Int32} : decode (am_cd (am_me (tb_P L xs) 98)) 6 = .ok (.iload_n 2, 1) := show decode (am_cd (tb_me 98)) 6 = .ok (.iload_n 2, 1) from by decide +kernel
theorem k98_7 {L : Nat} {xs : Nat → Int32} : decode (am_cd (am_me (tb_P L xs) 98)) 7 = .ok (.iastore, 1) := show decode (am_cd (tb_me 98)) 7 = .ok (.iastore, 1) from by decide +kernel
theorem k98_8 {L : Nat} {xs : Nat → Int32} : decode (am_cd (am_me (tb_P L xs) 98)) 8 = .ok (.aload_n 0, 1) := show decode (am_cd (tb_me 98)) 8 = .ok (.aload_n 0, 1) from by decide +kernel
theorem k98_9 {L : Nat} {xs : Nat → Int32} : decode (am_cd (am_me (tb_P L xs) 98)) 9 = .ok (.aload_n 0, 1) := show decode (am_cd (tb_me 98)) 9 = .ok (.aload_n 0, 1) from by decide +kernel
theorem k98_10 {L : Nat} {xs : Nat → Int32} : decode (am_cd (am_me (tb_P L xs) 98)) 10 = .ok (.getfield 29, 3) := show decode (am_cd (tb_me 98)) 10 = .ok (.getfield 29, 3) from by decide +kernel
theorem f98_10 {L : Nat} {xs : Nat → Int32} : am_fd (tb_P L xs) 98 29 = some (7, 0, (.object "GluedMachines$Model" : FieldType), false) := show tb_fdF 98 29 = some (7, 0, (.object "GluedMachines$Model" : FieldType), false) from by decide +kernel
theorem k98_13 {L : Nat} {xs : Nat → Int32} : decode (am_cd (am_me (tb_P L xs) 98)) 13 = .ok (.aload_n 1, 1) := show decode (am_cd (tb_me 98)) 13 = .ok (.aload_n 1, 1) from by decide +kernel
theorem k98_14 {L : Nat} {xs : Nat → Int32} : decode (am_cd (am_me (tb_P L xs) 98)) 14 = .ok (.aload_n 0, 1) := show decode (am_cd (tb_me 98)) 14 = .ok (.aload_n 0, 1) from by decide +kernel
theorem k98_15 {L : Nat} {xs : Nat → Int32} : decode (am_cd (am_me (tb_P L xs) 98)) 15 = .ok (.getfield 9, 3) := show decode (am_cd (tb_me 98)) 15 = .ok (.getfield 9, 3) from by decide +kernel
theorem f98_15 {L : Nat} {xs : Nat → Int32} : am_fd (tb_P L xs) 98 9 = some (7, 1, (.array .int : FieldType), false) := show tb_fdF 98 9 = some (7, 1, (.array .int : FieldType), false) from by decide +kernel
theorem k98_18 {L : Nat} {xs : Nat → Int32} : decode (am_cd (am_me (tb_P L xs) 98)) 18 = .ok (.invokevirtual 57, 3) := show decode (am_cd (tb_me 98)) 18 = .ok (.invokevirtual 57, 3) from by decide +kernel
theorem s98_18 {L : Nat} {xs : Nat → Int32} : am_sp (tb_P L xs) 98 57 = none := show tb_spF 98 57 = none from by decide +kernel
theorem c98_18 {L : Nat} {xs : Nat → Int32} : am_ca (tb_P L xs) 98 57 = some (27, 2, 1) := show tb_caF 98 57 = some (27, 2, 1) from by decide +kernel
theorem r98_18 {L : Nat} {xs : Nat → Int32} : am_rf (am_me (tb_P L xs) 27) + 1 ≤ am_rf (am_me (tb_P L xs) 98) ∧ 1 + (am_ml (am_me (tb_P L xs) 27) + 11) + am_rl (am_me (tb_P L xs) 27) ≤ am_rl (am_me (tb_P L xs) 98) := show am_rf (tb_me 27) + 1 ≤ am_rf (tb_me 98) ∧ 1 + (am_ml (tb_me 27) + 11) + am_rl (tb_me 27) ≤ am_rl (tb_me 98) from by decide +kernel
theorem k98_21 {L : Nat} {xs : Nat → Int32} : decode (am_cd (am_me (tb_P L xs) 98)) 21 = .ok (.ifCond .ne 7, 3) := show decode (am_cd (tb_me 98)) 21 = .ok (.ifCond .ne 7, 3) from by decide +kernel
theorem k98_24 {L : Nat} {xs : Nat → Int32} : decode (am_cd (am_me (tb_P L xs) 98)) 24 = .ok (.iconst 1, 1) := show decode (am_cd (tb_me 98)) 24 = .ok (.iconst 1, 1) from by decide +kernel
theorem k98_25 {L : Nat} {xs : Nat → Int32} : decode (am_cd (am_me (tb_P L xs) 98)) 25 = .ok (.goto 4, 3) := show decode (am_cd (tb_me 98)) 25 = .ok (.goto 4, 3) from by decide +kernel
theorem k98_28 {L : Nat} {xs : Nat → Int32} : decode (am_cd (am_me (tb_P L xs) 98)) 28 = .ok (.iconst 0, 1) := show decode (am_cd (tb_me 98)) 28 = .ok (.iconst 0, 1) from by decide +kernel
theorem k98_29 {L : Nat} {xs : Nat → Int32} : decode (am_cd (am_me (tb_P L xs) 98)) 29 = .ok (.putfield 26, 3) := show decode (am_cd (tb_me 98)) 29 = .ok (.putfield 26, 3) from by decide +kernel
theorem f98_29 {L : Nat} {xs : Nat → Int32} : am_fd (tb_P L xs) 98 26 = some (7, 5, (.boolean : FieldType), true) := show tb_fdF 98 26 = some (7, 5, (.boolean : FieldType), true) from by decide +kernel
theorem k98_32 {L : Nat} {xs : Nat → Int32} : decode (am_cd (am_me (tb_P L xs) 98)) 32 = .ok (.aload_n 0, 1) := show decode (am_cd (tb_me 98)) 32 = .ok (.aload_n 0, 1) from by decide +kernel
theorem k98_33 {L : Nat} {xs : Nat → Int32} : decode (am_cd (am_me (tb_P L xs) 98)) 33 = .ok (.getfield 29, 3) := show decode (am_cd (tb_me 98)) 33 = .ok (.getfield 29, 3) from by decide +kernel
theorem f98_33 {L : Nat} {xs : Nat → Int32} : am_fd (tb_P L xs) 98 29 = some (7, 0, (.object "GluedMachines$Model" : FieldType), false) := show tb_fdF 98 29 = some (7, 0, (.object "GluedMachines$Model" : FieldType), false) from by decide +kernel
theorem k98_36 {L : Nat} {xs : Nat → Int32} : decode (am_cd (am_me (tb_P L xs) 98)) 36 = .ok (.aload_n 1, 1) := show decode (am_cd (tb_me 98)) 36 = .ok (.aload_n 1, 1) from by decide +kernel
theorem k98_37 {L : Nat} {xs : Nat → Int32} : decode (am_cd (am_me (tb_P L xs) 98)) 37 = .ok (.aload_n 0, 1) := show decode (am_cd (tb_me 98)) 37 = .ok (.aload_n 0, 1) from by decide +kernel
theorem k98_38 {L : Nat} {xs : Nat → Int32} : decode (am_cd (am_me (tb_P L xs) 98)) 38 = .ok (.getfield 9, 3) := show decode (am_cd (tb_me 98)) 38 = .ok (.getfield 9, 3) from by decide +kernel
theorem f98_38 {L : Nat} {xs : Nat → Int32} : am_fd (tb_P L xs) 98 9 = some (7, 1, (.array .int : FieldType), false) := show tb_fdF 98 9 = some (7, 1, (.array .int : FieldType), false) from by decide +kernel
theorem k98_41 {L : Nat} {xs : Nat → Int32} : decode (am_cd (am_me (tb_P L xs) 98)) 41 = .ok (.invokevirtual 53, 3) := show decode (am_cd (tb_me 98)) 41 = .ok (.invokevirtual 53, 3) from by decide +kernel
theorem s98_41 {L : Nat} {xs : Nat → Int32} : am_sp (tb_P L xs) 98 53 = none := show tb_spF 98 53 = none from by decide +kernel
theorem c98_41 {L : Nat} {xs : Nat → Int32} : am_ca (tb_P L xs) 98 53 = some (30, 2, 1) := show tb_caF 98 53 = some (30, 2, 1) from by decide +kernel
theorem r98_41 {L : Nat} {xs : Nat → Int32} : am_rf (am_me (tb_P L xs) 30) + 1 ≤ am_rf (am_me (tb_P L xs) 98) ∧ 0 + (am_ml (am_me (tb_P L xs) 30) + 11) + am_rl (am_me (tb_P L xs) 30) ≤ am_rl (am_me (tb_P L xs) 98) := show am_rf (tb_me 30) + 1 ≤ am_rf (tb_me 98) ∧ 0 + (am_ml (tb_me 30) + 11) + am_rl (tb_me 30) ≤ am_rl (tb_me 98) from by decide +kernel
theorem k98_44 {L : Nat} {xs : Nat → Int32} : decode (am_cd (am_me (tb_P L xs) 98)) 44 = .ok (.pop, 1) := show decode (am_cd (tb_me 98)) 44 = .ok (.pop, 1) from by decide +kernel
theorem k98_45 {L : Nat} {xs : Nat → Int32} : decode (am_cd (am_me (tb_P L xs) 98)) 45 = .ok (.aload_n 0, 1) := show decode (am_cd (tb_me 98)) 45 = .ok (.aload_n 0, 1) from by decide +kernel
theorem k98_46 {L : Nat} {xs : Nat → Int32} : decode (am_cd (am_me (tb_P L xs) 98)) 46 = .ok (.getfield 9, 3) := show decode (am_cd (tb_me 98)) 46 = .ok (.getfield 9, 3) from by decide +kernel
theorem f98_46 {L : Nat} {xs : Nat → Int32} : am_fd (tb_P L xs) 98 9 = some (7, 1, (.array .int : FieldType), false) := show tb_fdF 98 9 = some (7, 1, (.array .int : FieldType), false) from by decide +kernel
theorem k98_49 {L : Nat} {xs : Nat → Int32} : decode (am_cd (am_me (tb_P L xs) 98)) 49 = .ok (.iconst 0, 1) := show decode (am_cd (tb_me 98)) 49 = .ok (.iconst 0, 1) from by decide +kernel
theorem k98_50 {L : Nat} {xs : Nat → Int32} : decode (am_cd (am_me (tb_P L xs) 98)) 50 = .ok (.aload_n 0, 1) := show decode (am_cd (tb_me 98)) 50 = .ok (.aload_n 0, 1) from by decide +kernel
theorem k98_51 {L : Nat} {xs : Nat → Int32} : decode (am_cd (am_me (tb_P L xs) 98)) 51 = .ok (.getfield 15, 3) := show decode (am_cd (tb_me 98)) 51 = .ok (.getfield 15, 3) from by decide +kernel
theorem f98_51 {L : Nat} {xs : Nat → Int32} : am_fd (tb_P L xs) 98 15 = some (7, 2, (.array .int : FieldType), false) := show tb_fdF 98 15 = some (7, 2, (.array .int : FieldType), false) from by decide +kernel
theorem k98_54 {L : Nat} {xs : Nat → Int32} : decode (am_cd (am_me (tb_P L xs) 98)) 54 = .ok (.aload_n 0, 1) := show decode (am_cd (tb_me 98)) 54 = .ok (.aload_n 0, 1) from by decide +kernel
theorem k98_55 {L : Nat} {xs : Nat → Int32} : decode (am_cd (am_me (tb_P L xs) 98)) 55 = .ok (.getfield 18, 3) := show decode (am_cd (tb_me 98)) 55 = .ok (.getfield 18, 3) from by decide +kernel
theorem f98_55 {L : Nat} {xs : Nat → Int32} : am_fd (tb_P L xs) 98 18 = some (7, 3, (.int : FieldType), true) := show tb_fdF 98 18 = some (7, 3, (.int : FieldType), true) from by decide +kernel
theorem k98_58 {L : Nat} {xs : Nat → Int32} : decode (am_cd (am_me (tb_P L xs) 98)) 58 = .ok (.bipush 6, 2) := show decode (am_cd (tb_me 98)) 58 = .ok (.bipush 6, 2) from by decide +kernel
theorem k98_60 {L : Nat} {xs : Nat → Int32} : decode (am_cd (am_me (tb_P L xs) 98)) 60 = .ok (.imul, 1) := show decode (am_cd (tb_me 98)) 60 = .ok (.imul, 1) from by decide +kernel
theorem k98_61 {L : Nat} {xs : Nat → Int32} : decode (am_cd (am_me (tb_P L xs) 98)) 61 = .ok (.bipush 6, 2) := show decode (am_cd (tb_me 98)) 61 = .ok (.bipush 6, 2) from by decide +kernel
theorem k98_63 {L : Nat} {xs : Nat → Int32} : decode (am_cd (am_me (tb_P L xs) 98)) 63 = .ok (.invokestatic 41, 3) := show decode (am_cd (tb_me 98)) 63 = .ok (.invokestatic 41, 3) from by decide +kernel
theorem s98_63 {L : Nat} {xs : Nat → Int32} : am_sp (tb_P L xs) 98 41 = some 3 := show tb_spF 98 41 = some 3 from by decide +kernel
theorem r98_63 {L : Nat} {xs : Nat → Int32} : 1 ≤ am_rf (am_me (tb_P L xs) 98) ∧ 0 + (nativeFrameWords "java/lang/System" "arraycopy" 5 + 11) ≤ am_rl (am_me (tb_P L xs) 98) := show 1 ≤ am_rf (tb_me 98) ∧ 0 + (nativeFrameWords "java/lang/System" "arraycopy" 5 + 11) ≤ am_rl (tb_me 98) from by decide +kernel
theorem k98_66 {L : Nat} {xs : Nat → Int32} : decode (am_cd (am_me (tb_P L xs) 98)) 66 = .ok (.aload_n 0, 1) := show decode (am_cd (tb_me 98)) 66 = .ok (.aload_n 0, 1) from by decide +kernel
theorem k98_67 {L : Nat} {xs : Nat → Int32} : decode (am_cd (am_me (tb_P L xs) 98)) 67 = .ok (.getfield 29, 3) := show decode (am_cd (tb_me 98)) 67 = .ok (.getfield 29, 3) from by decide +kernel
theorem f98_67 {L : Nat} {xs : Nat → Int32} : am_fd (tb_P L xs) 98 29 = some (7, 0, (.object "GluedMachines$Model" : FieldType), false) := show tb_fdF 98 29 = some (7, 0, (.object "GluedMachines$Model" : FieldType), false) from by decide +kernel
theorem k98_70 {L : Nat} {xs : Nat → Int32} : decode (am_cd (am_me (tb_P L xs) 98)) 70 = .ok (.getfield 60, 3) := show decode (am_cd (tb_me 98)) 70 = .ok (.getfield 60, 3) from by decide +kernel
theorem f98_70 {L : Nat} {xs : Nat → Int32} : am_fd (tb_P L xs) 98 60 = some (5, 6, (.array .int : FieldType), false) := show tb_fdF 98 60 = some (5, 6, (.array .int : FieldType), false) from by decide +kernel
theorem k98_73 {L : Nat} {xs : Nat → Int32} : decode (am_cd (am_me (tb_P L xs) 98)) 73 = .ok (.iconst 0, 1) := show decode (am_cd (tb_me 98)) 73 = .ok (.iconst 0, 1) from by decide +kernel
theorem k98_74 {L : Nat} {xs : Nat → Int32} : decode (am_cd (am_me (tb_P L xs) 98)) 74 = .ok (.aload_n 0, 1) := show decode (am_cd (tb_me 98)) 74 = .ok (.aload_n 0, 1) from by decide +kernel
theorem k98_75 {L : Nat} {xs : Nat → Int32} : decode (am_cd (am_me (tb_P L xs) 98)) 75 = .ok (.getfield 9, 3) := show decode (am_cd (tb_me 98)) 75 = .ok (.getfield 9, 3) from by decide +kernel
theorem f98_75 {L : Nat} {xs : Nat → Int32} : am_fd (tb_P L xs) 98 9 = some (7, 1, (.array .int : FieldType), false) := show tb_fdF 98 9 = some (7, 1, (.array .int : FieldType), false) from by decide +kernel
theorem k98_78 {L : Nat} {xs : Nat → Int32} : decode (am_cd (am_me (tb_P L xs) 98)) 78 = .ok (.iconst 0, 1) := show decode (am_cd (tb_me 98)) 78 = .ok (.iconst 0, 1) from by decide +kernel
theorem k98_79 {L : Nat} {xs : Nat → Int32} : decode (am_cd (am_me (tb_P L xs) 98)) 79 = .ok (.bipush 6, 2) := show decode (am_cd (tb_me 98)) 79 = .ok (.bipush 6, 2) from by decide +kernel
theorem k98_81 {L : Nat} {xs : Nat → Int32} : decode (am_cd (am_me (tb_P L xs) 98)) 81 = .ok (.invokestatic 41, 3) := show decode (am_cd (tb_me 98)) 81 = .ok (.invokestatic 41, 3) from by decide +kernel
theorem s98_81 {L : Nat} {xs : Nat → Int32} : am_sp (tb_P L xs) 98 41 = some 3 := show tb_spF 98 41 = some 3 from by decide +kernel
theorem r98_81 {L : Nat} {xs : Nat → Int32} : 1 ≤ am_rf (am_me (tb_P L xs) 98) ∧ 0 + (nativeFrameWords "java/lang/System" "arraycopy" 5 + 11) ≤ am_rl (am_me (tb_P L xs) 98) := show 1 ≤ am_rf (tb_me 98) ∧ 0 + (nativeFrameWords "java/lang/System" "arraycopy" 5 + 11) ≤ am_rl (tb_me 98) from by decide +kernel
theorem k98_84 {L : Nat} {xs : Nat → Int32} : decode (am_cd (am_me (tb_P L xs) 98)) 84 = .ok (.aload_n 0, 1) := show decode (am_cd (tb_me 98)) 84 = .ok (.aload_n 0, 1) from by decide +kernel
theorem k98_85 {L : Nat} {xs : Nat → Int32} : decode (am_cd (am_me (tb_P L xs) 98)) 85 = .ok (.dup, 1) := show decode (am_cd (tb_me 98)) 85 = .ok (.dup, 1) from by decide +kernel
theorem k98_86 {L : Nat} {xs : Nat → Int32} : decode (am_cd (am_me (tb_P L xs) 98)) 86 = .ok (.getfield 18, 3) := show decode (am_cd (tb_me 98)) 86 = .ok (.getfield 18, 3) from by decide +kernel
theorem f98_86 {L : Nat} {xs : Nat → Int32} : am_fd (tb_P L xs) 98 18 = some (7, 3, (.int : FieldType), true) := show tb_fdF 98 18 = some (7, 3, (.int : FieldType), true) from by decide +kernel
theorem k98_89 {L : Nat} {xs : Nat → Int32} : decode (am_cd (am_me (tb_P L xs) 98)) 89 = .ok (.iconst 1, 1) := show decode (am_cd (tb_me 98)) 89 = .ok (.iconst 1, 1) from by decide +kernel
theorem k98_90 {L : Nat} {xs : Nat → Int32} : decode (am_cd (am_me (tb_P L xs) 98)) 90 = .ok (.iadd, 1) := show decode (am_cd (tb_me 98)) 90 = .ok (.iadd, 1) from by decide +kernel
theorem k98_91 {L : Nat} {xs : Nat → Int32} : decode (am_cd (am_me (tb_P L xs) 98)) 91 = .ok (.putfield 18, 3) := show decode (am_cd (tb_me 98)) 91 = .ok (.putfield 18, 3) from by decide +kernel
theorem f98_91 {L : Nat} {xs : Nat → Int32} : am_fd (tb_P L xs) 98 18 = some (7, 3, (.int : FieldType), true) := show tb_fdF 98 18 = some (7, 3, (.int : FieldType), true) from by decide +kernel
theorem k98_94 {L : Nat} {xs : Nat → Int32} : decode (am_cd (am_me (tb_P L xs) 98)) 94 = .ok (.aload_n 0, 1) := show decode (am_cd (tb_me 98)) 94 = .ok (.aload_n 0, 1) from by decide +kernel
theorem k98_95 {L : Nat} {xs : Nat → Int32} : decode (am_cd (am_me (tb_P L xs) 98)) 95 = .ok (.getfield 18, 3) := show decode (am_cd (tb_me 98)) 95 = .ok (.getfield 18, 3) from by decide +kernel
theorem f98_95 {L : Nat} {xs : Nat → Int32} : am_fd (tb_P L xs) 98 18 = some (7, 3, (.int : FieldType), true) := show tb_fdF 98 18 = some (7, 3, (.int : FieldType), true) from by decide +kernel
theorem k98_98 {L : Nat} {xs : Nat → Int32} : decode (am_cd (am_me (tb_P L xs) 98)) 98 = .ok (.ireturn, 1) := show decode (am_cd (tb_me 98)) 98 = .ok (.ireturn, 1) from by decide +kernel
theorem t98 {L : Nat} {xs : Nat → Int32} : am_rt (am_me (tb_P L xs) 98) = some (.int : FieldType) := show am_rt (tb_me 98) = some (.int : FieldType) from by decide +kernel
theorem l98 {L : Nat} {xs : Nat → Int32} : am_ml (am_me (tb_P L xs) 98) = 3 := show am_ml (tb_me 98) = 3 from by decide +kernel
theorem o98 {L : Nat} {xs : Nat → Int32} (pc : Nat) : am_no (tb_P L xs) 98 pc = true := show (am_hd (tb_me 98)).all (fun q => !(decide (q.1 ≤ pc) && decide (pc < q.2.1))) = true from by rw [show am_hd (tb_me 98) = [] by decide +kernel]; rfl
theorem k99_0 {L : Nat} {xs : Nat → Int32} : decode (am_cd (am_me (tb_P L xs) 99)) 0 = .ok (.aload_n 1, 1) := show decode (am_cd (tb_me 99)) 0 = .ok (.aload_n 1, 1) from by decide +kernel
theorem k99_1 {L : Nat} {xs : Nat → Int32} : decode (am_cd (am_me (tb_P L xs) 99)) 1 = .ok (.iconst 0, 1) := show decode (am_cd (tb_me 99)) 1 = .ok (.iconst 0, 1) from by decide +kernel
theorem k99_2 {L : Nat} {xs : Nat → Int32} : decode (am_cd (am_me (tb_P L xs) 99)) 2 = .ok (.aload_n 0, 1) := show decode (am_cd (tb_me 99)) 2 = .ok (.aload_n 0, 1) from by decide +kernel
theorem k99_3 {L : Nat} {xs : Nat → Int32} : decode (am_cd (am_me (tb_P L xs) 99)) 3 = .ok (.invokevirtual 62, 3) := show decode (am_cd (tb_me 99)) 3 = .ok (.invokevirtual 62, 3) from by decide +kernel
theorem s99_3 {L : Nat} {xs : Nat → Int32} : am_sp (tb_P L xs) 99 62 = none := show tb_spF 99 62 = none from by decide +kernel
theorem c99_3 {L : Nat} {xs : Nat → Int32} : am_ca (tb_P L xs) 99 62 = some (100, 0, 1) := show tb_caF 99 62 = some (100, 0, 1) from by decide +kernel
theorem r99_3 {L : Nat} {xs : Nat → Int32} : am_rf (am_me (tb_P L xs) 100) + 1 ≤ am_rf (am_me (tb_P L xs) 99) ∧ 2 + (am_ml (am_me (tb_P L xs) 100) + 11) + am_rl (am_me (tb_P L xs) 100) ≤ am_rl (am_me (tb_P L xs) 99) := show am_rf (tb_me 100) + 1 ≤ am_rf (tb_me 99) ∧ 2 + (am_ml (tb_me 100) + 11) + am_rl (tb_me 100) ≤ am_rl (tb_me 99) from by decide +kernel
theorem k99_6 {L : Nat} {xs : Nat → Int32} : decode (am_cd (am_me (tb_P L xs) 99)) 6 = .ok (.i2l, 1) := show decode (am_cd (tb_me 99)) 6 = .ok (.i2l, 1) from by decide +kernel
theorem k99_7 {L : Nat} {xs : Nat → Int32} : decode (am_cd (am_me (tb_P L xs) 99)) 7 = .ok (.lastore, 1) := show decode (am_cd (tb_me 99)) 7 = .ok (.lastore, 1) from by decide +kernel
theorem k99_8 {L : Nat} {xs : Nat → Int32} : decode (am_cd (am_me (tb_P L xs) 99)) 8 = .ok (.goto 6, 3) := show decode (am_cd (tb_me 99)) 8 = .ok (.goto 6, 3) from by decide +kernel
theorem k99_11 {L : Nat} {xs : Nat → Int32} : decode (am_cd (am_me (tb_P L xs) 99)) 11 = .ok (.astore_n 2, 1) := show decode (am_cd (tb_me 99)) 11 = .ok (.astore_n 2, 1) from by decide +kernel
theorem k99_12 {L : Nat} {xs : Nat → Int32} : decode (am_cd (am_me (tb_P L xs) 99)) 12 = .ok (.iconst 1, 1) := show decode (am_cd (tb_me 99)) 12 = .ok (.iconst 1, 1) from by decide +kernel
theorem k99_13 {L : Nat} {xs : Nat → Int32} : decode (am_cd (am_me (tb_P L xs) 99)) 13 = .ok (.ireturn, 1) := show decode (am_cd (tb_me 99)) 13 = .ok (.ireturn, 1) from by decide +kernel
theorem k99_14 {L : Nat} {xs : Nat → Int32} : decode (am_cd (am_me (tb_P L xs) 99)) 14 = .ok (.iconst 0, 1) := show decode (am_cd (tb_me 99)) 14 = .ok (.iconst 0, 1) from by decide +kernel
theorem k99_15 {L : Nat} {xs : Nat → Int32} : decode (am_cd (am_me (tb_P L xs) 99)) 15 = .ok (.ireturn, 1) := show decode (am_cd (tb_me 99)) 15 = .ok (.ireturn, 1) from by decide +kernel
theorem t99 {L : Nat} {xs : Nat → Int32} : am_rt (am_me (tb_P L xs) 99) = some (.int : FieldType) := show am_rt (tb_me 99) = some (.int : FieldType) from by decide +kernel
theorem l99 {L : Nat} {xs : Nat → Int32} : am_ml (am_me (tb_P L xs) 99) = 3 := show am_ml (tb_me 99) = 3 from by decide +kernel
theorem k100_0 {L : Nat} {xs : Nat → Int32} : decode (am_cd (am_me (tb_P L xs) 100)) 0 = .ok (.aload_n 0, 1) := show decode (am_cd (tb_me 100)) 0 = .ok (.aload_n 0, 1) from by decide +kernel
theorem k100_1 {L : Nat} {xs : Nat → Int32} : decode (am_cd (am_me (tb_P L xs) 100)) 1 = .ok (.getfield 53, 3) := show decode (am_cd (tb_me 100)) 1 = .ok (.getfield 53, 3) from by decide +kernel
theorem f100_1 {L : Nat} {xs : Nat → Int32} : am_fd (tb_P L xs) 100 53 = some (0, 5, (.object "GluedMachines$Run" : FieldType), false) := show tb_fdF 100 53 = some (0, 5, (.object "GluedMachines$Run" : FieldType), false) from by decide +kernel
theorem k100_4 {L : Nat} {xs : Nat → Int32} : decode (am_cd (am_me (tb_P L xs) 100)) 4 = .ok (.getfield 233, 3) := show decode (am_cd (tb_me 100)) 4 = .ok (.getfield 233, 3) from by decide +kernel
theorem f100_4 {L : Nat} {xs : Nat → Int32} : am_fd (tb_P L xs) 100 233 = some (7, 3, (.int : FieldType), true) := show tb_fdF 100 233 = some (7, 3, (.int : FieldType), true) from by decide +kernel
theorem k100_7 {L : Nat} {xs : Nat → Int32} : decode (am_cd (am_me (tb_P L xs) 100)) 7 = .ok (.ifCond .ne 11, 3) := show decode (am_cd (tb_me 100)) 7 = .ok (.ifCond .ne 11, 3) from by decide +kernel
theorem k100_10 {L : Nat} {xs : Nat → Int32} : decode (am_cd (am_me (tb_P L xs) 100)) 10 = .ok (.new 85, 3) := show decode (am_cd (tb_me 100)) 10 = .ok (.new 85, 3) from by decide +kernel
theorem n100_10 {L : Nat} {xs : Nat → Int32} : am_nw (tb_P L xs) 100 85 = none := show tb_nwF 100 85 = none from by decide +kernel
theorem x100_10 {L : Nat} {xs : Nat → Int32} : am_xn (tb_P L xs) 100 85 87 = some 10 := show tb_xnF 100 85 87 = some 10 from by decide +kernel
theorem r100_10 {L : Nat} {xs : Nat → Int32} : 5 < am_rf (am_me (tb_P L xs) 100) ∧ 0 + 82 ≤ am_rl (am_me (tb_P L xs) 100) := show 5 < am_rf (tb_me 100) ∧ 0 + 82 ≤ am_rl (tb_me 100) from by decide +kernel
theorem k100_13 {L : Nat} {xs : Nat → Int32} : decode (am_cd (am_me (tb_P L xs) 100)) 13 = .ok (.dup, 1) := show decode (am_cd (tb_me 100)) 13 = .ok (.dup, 1) from by decide +kernel
theorem k100_14 {L : Nat} {xs : Nat → Int32} : decode (am_cd (am_me (tb_P L xs) 100)) 14 = .ok (.invokespecial 87, 3) := show decode (am_cd (tb_me 100)) 14 = .ok (.invokespecial 87, 3) from by decide +kernel
theorem k100_17 {L : Nat} {xs : Nat → Int32} : decode (am_cd (am_me (tb_P L xs) 100)) 17 = .ok (.athrow, 1) := show decode (am_cd (tb_me 100)) 17 = .ok (.athrow, 1) from by decide +kernel
theorem k100_18 {L : Nat} {xs : Nat → Int32} : decode (am_cd (am_me (tb_P L xs) 100)) 18 = .ok (.aload_n 0, 1) := show decode (am_cd (tb_me 100)) 18 = .ok (.aload_n 0, 1) from by decide +kernel
theorem k100_19 {L : Nat} {xs : Nat → Int32} : decode (am_cd (am_me (tb_P L xs) 100)) 19 = .ok (.getfield 53, 3) := show decode (am_cd (tb_me 100)) 19 = .ok (.getfield 53, 3) from by decide +kernel
theorem f100_19 {L : Nat} {xs : Nat → Int32} : am_fd (tb_P L xs) 100 53 = some (0, 5, (.object "GluedMachines$Run" : FieldType), false) := show tb_fdF 100 53 = some (0, 5, (.object "GluedMachines$Run" : FieldType), false) from by decide +kernel
theorem k100_22 {L : Nat} {xs : Nat → Int32} : decode (am_cd (am_me (tb_P L xs) 100)) 22 = .ok (.invokevirtual 242, 3) := show decode (am_cd (tb_me 100)) 22 = .ok (.invokevirtual 242, 3) from by decide +kernel
theorem s100_22 {L : Nat} {xs : Nat → Int32} : am_sp (tb_P L xs) 100 242 = none := show tb_spF 100 242 = none from by decide +kernel
theorem c100_22 {L : Nat} {xs : Nat → Int32} : am_ca (tb_P L xs) 100 242 = some (101, 0, 1) := show tb_caF 100 242 = some (101, 0, 1) from by decide +kernel
theorem r100_22 {L : Nat} {xs : Nat → Int32} : am_rf (am_me (tb_P L xs) 101) + 1 ≤ am_rf (am_me (tb_P L xs) 100) ∧ 0 + (am_ml (am_me (tb_P L xs) 101) + 11) + am_rl (am_me (tb_P L xs) 101) ≤ am_rl (am_me (tb_P L xs) 100) := show am_rf (tb_me 101) + 1 ≤ am_rf (tb_me 100) ∧ 0 + (am_ml (tb_me 101) + 11) + am_rl (tb_me 101) ≤ am_rl (tb_me 100) from by decide +kernel
theorem k100_25 {L : Nat} {xs : Nat → Int32} : decode (am_cd (am_me (tb_P L xs) 100)) 25 = .ok (.ireturn, 1) := show decode (am_cd (tb_me 100)) 25 = .ok (.ireturn, 1) from by decide +kernel
theorem t100 {L : Nat} {xs : Nat → Int32} : am_rt (am_me (tb_P L xs) 100) = some (.int : FieldType) := show am_rt (tb_me 100) = some (.int : FieldType) from by decide +kernel
theorem l100 {L : Nat} {xs : Nat → Int32} : am_ml (am_me (tb_P L xs) 100) = 1 := show am_ml (tb_me 100) = 1 from by decide +kernel
theorem o100 {L : Nat} {xs : Nat → Int32} (pc : Nat) : am_no (tb_P L xs) 100 pc = true := show (am_hd (tb_me 100)).all (fun q => !(decide (q.1 ≤ pc) && decide (pc < q.2.1))) = true from by rw [show am_hd (tb_me 100) = [] by decide +kernel]; rfl
theorem k101_0 {L : Nat} {xs : Nat → Int32} : decode (am_cd (am_me (tb_P L xs) 101)) 0 = .ok (.aload_n 0, 1) := show decode (am_cd (tb_me 101)) 0 = .ok (.aload_n 0, 1) from by decide +kernel
theorem k101_1 {L : Nat} {xs : Nat → Int32} : decode (am_cd (am_me (tb_P L xs) 101)) 1 = .ok (.dup, 1) := show decode (am_cd (tb_me 101)) 1 = .ok (.dup, 1) from by decide +kernel
theorem k101_2 {L : Nat} {xs : Nat → Int32} : decode (am_cd (am_me (tb_P L xs) 101)) 2 = .ok (.getfield 18, 3) := show decode (am_cd (tb_me 101)) 2 = .ok (.getfield 18, 3) from by decide +kernel
theorem f101_2 {L : Nat} {xs : Nat → Int32} : am_fd (tb_P L xs) 101 18 = some (7, 3, (.int : FieldType), true) := show tb_fdF 101 18 = some (7, 3, (.int : FieldType), true) from by decide +kernel
theorem k101_5 {L : Nat} {xs : Nat → Int32} : decode (am_cd (am_me (tb_P L xs) 101)) 5 = .ok (.iconst 1, 1) := show decode (am_cd (tb_me 101)) 5 = .ok (.iconst 1, 1) from by decide +kernel
theorem k101_6 {L : Nat} {xs : Nat → Int32} : decode (am_cd (am_me (tb_P L xs) 101)) 6 = .ok (.isub, 1) := show decode (am_cd (tb_me 101)) 6 = .ok (.isub, 1) from by decide +kernel
theorem k101_7 {L : Nat} {xs : Nat → Int32} : decode (am_cd (am_me (tb_P L xs) 101)) 7 = .ok (.putfield 18, 3) := show decode (am_cd (tb_me 101)) 7 = .ok (.putfield 18, 3) from by decide +kernel
theorem f101_7 {L : Nat} {xs : Nat → Int32} : am_fd (tb_P L xs) 101 18 = some (7, 3, (.int : FieldType), true) := show tb_fdF 101 18 = some (7, 3, (.int : FieldType), true) from by decide +kernel
theorem k101_10 {L : Nat} {xs : Nat → Int32} : decode (am_cd (am_me (tb_P L xs) 101)) 10 = .ok (.aload_n 0, 1) := show decode (am_cd (tb_me 101)) 10 = .ok (.aload_n 0, 1) from by decide +kernel
theorem k101_11 {L : Nat} {xs : Nat → Int32} : decode (am_cd (am_me (tb_P L xs) 101)) 11 = .ok (.getfield 15, 3) := show decode (am_cd (tb_me 101)) 11 = .ok (.getfield 15, 3) from by decide +kernel
theorem f101_11 {L : Nat} {xs : Nat → Int32} : am_fd (tb_P L xs) 101 15 = some (7, 2, (.array .int : FieldType), false) := show tb_fdF 101 15 = some (7, 2, (.array .int : FieldType), false) from by decide +kernel
theorem k101_14 {L : Nat} {xs : Nat → Int32} : decode (am_cd (am_me (tb_P L xs) 101)) 14 = .ok (.aload_n 0, 1) := show decode (am_cd (tb_me 101)) 14 = .ok (.aload_n 0, 1) from by decide +kernel
theorem k101_15 {L : Nat} {xs : Nat → Int32} : decode (am_cd (am_me (tb_P L xs) 101)) 15 = .ok (.getfield 18, 3) := show decode (am_cd (tb_me 101)) 15 = .ok (.getfield 18, 3) from by decide +kernel
theorem f101_15 {L : Nat} {xs : Nat → Int32} : am_fd (tb_P L xs) 101 18 = some (7, 3, (.int : FieldType), true) := show tb_fdF 101 18 = some (7, 3, (.int : FieldType), true) from by decide +kernel
theorem k101_18 {L : Nat} {xs : Nat → Int32} : decode (am_cd (am_me (tb_P L xs) 101)) 18 = .ok (.bipush 6, 2) := show decode (am_cd (tb_me 101)) 18 = .ok (.bipush 6, 2) from by decide +kernel
theorem k101_20 {L : Nat} {xs : Nat → Int32} : decode (am_cd (am_me (tb_P L xs) 101)) 20 = .ok (.imul, 1) := show decode (am_cd (tb_me 101)) 20 = .ok (.imul, 1) from by decide +kernel
theorem k101_21 {L : Nat} {xs : Nat → Int32} : decode (am_cd (am_me (tb_P L xs) 101)) 21 = .ok (.aload_n 0, 1) := show decode (am_cd (tb_me 101)) 21 = .ok (.aload_n 0, 1) from by decide +kernel
theorem k101_22 {L : Nat} {xs : Nat → Int32} : decode (am_cd (am_me (tb_P L xs) 101)) 22 = .ok (.getfield 9, 3) := show decode (am_cd (tb_me 101)) 22 = .ok (.getfield 9, 3) from by decide +kernel
theorem f101_22 {L : Nat} {xs : Nat → Int32} : am_fd (tb_P L xs) 101 9 = some (7, 1, (.array .int : FieldType), false) := show tb_fdF 101 9 = some (7, 1, (.array .int : FieldType), false) from by decide +kernel
theorem k101_25 {L : Nat} {xs : Nat → Int32} : decode (am_cd (am_me (tb_P L xs) 101)) 25 = .ok (.iconst 0, 1) := show decode (am_cd (tb_me 101)) 25 = .ok (.iconst 0, 1) from by decide +kernel
theorem k101_26 {L : Nat} {xs : Nat → Int32} : decode (am_cd (am_me (tb_P L xs) 101)) 26 = .ok (.bipush 6, 2) := show decode (am_cd (tb_me 101)) 26 = .ok (.bipush 6, 2) from by decide +kernel
theorem k101_28 {L : Nat} {xs : Nat → Int32} : decode (am_cd (am_me (tb_P L xs) 101)) 28 = .ok (.invokestatic 41, 3) := show decode (am_cd (tb_me 101)) 28 = .ok (.invokestatic 41, 3) from by decide +kernel
theorem s101_28 {L : Nat} {xs : Nat → Int32} : am_sp (tb_P L xs) 101 41 = some 3 := show tb_spF 101 41 = some 3 from by decide +kernel
theorem r101_28 {L : Nat} {xs : Nat → Int32} : 1 ≤ am_rf (am_me (tb_P L xs) 101) ∧ 0 + (nativeFrameWords "java/lang/System" "arraycopy" 5 + 11) ≤ am_rl (am_me (tb_P L xs) 101) := show 1 ≤ am_rf (tb_me 101) ∧ 0 + (nativeFrameWords "java/lang/System" "arraycopy" 5 + 11) ≤ am_rl (tb_me 101) from by decide +kernel
theorem k101_31 {L : Nat} {xs : Nat → Int32} : decode (am_cd (am_me (tb_P L xs) 101)) 31 = .ok (.aload_n 0, 1) := show decode (am_cd (tb_me 101)) 31 = .ok (.aload_n 0, 1) from by decide +kernel
theorem k101_32 {L : Nat} {xs : Nat → Int32} : decode (am_cd (am_me (tb_P L xs) 101)) 32 = .ok (.iconst 0, 1) := show decode (am_cd (tb_me 101)) 32 = .ok (.iconst 0, 1) from by decide +kernel
theorem k101_33 {L : Nat} {xs : Nat → Int32} : decode (am_cd (am_me (tb_P L xs) 101)) 33 = .ok (.putfield 26, 3) := show decode (am_cd (tb_me 101)) 33 = .ok (.putfield 26, 3) from by decide +kernel
theorem f101_33 {L : Nat} {xs : Nat → Int32} : am_fd (tb_P L xs) 101 26 = some (7, 5, (.boolean : FieldType), true) := show tb_fdF 101 26 = some (7, 5, (.boolean : FieldType), true) from by decide +kernel
theorem k101_36 {L : Nat} {xs : Nat → Int32} : decode (am_cd (am_me (tb_P L xs) 101)) 36 = .ok (.aload_n 0, 1) := show decode (am_cd (tb_me 101)) 36 = .ok (.aload_n 0, 1) from by decide +kernel
theorem k101_37 {L : Nat} {xs : Nat → Int32} : decode (am_cd (am_me (tb_P L xs) 101)) 37 = .ok (.getfield 18, 3) := show decode (am_cd (tb_me 101)) 37 = .ok (.getfield 18, 3) from by decide +kernel
theorem f101_37 {L : Nat} {xs : Nat → Int32} : am_fd (tb_P L xs) 101 18 = some (7, 3, (.int : FieldType), true) := show tb_fdF 101 18 = some (7, 3, (.int : FieldType), true) from by decide +kernel
theorem k101_40 {L : Nat} {xs : Nat → Int32} : decode (am_cd (am_me (tb_P L xs) 101)) 40 = .ok (.ireturn, 1) := show decode (am_cd (tb_me 101)) 40 = .ok (.ireturn, 1) from by decide +kernel
theorem t101 {L : Nat} {xs : Nat → Int32} : am_rt (am_me (tb_P L xs) 101) = some (.int : FieldType) := show am_rt (tb_me 101) = some (.int : FieldType) from by decide +kernel
theorem l101 {L : Nat} {xs : Nat → Int32} : am_ml (am_me (tb_P L xs) 101) = 1 := show am_ml (tb_me 101) = 1 from by decide +kernel
theorem o101 {L : Nat} {xs : Nat → Int32} (pc : Nat) : am_no (tb_P L xs) 101 pc = true := show (am_hd (tb_me 101)).all (fun q => !(decide (q.1 ≤ pc) && decide (pc < q.2.1))) = true from by rw [show am_hd (tb_me 101) = [] by decide +kernel]; rfl
theorem k102_0 {L : Nat} {xs : Nat → Int32} : decode (am_cd (am_me (tb_P L xs) 102)) 0 = .ok (.aload_n 2, 1) := show decode (am_cd (tb_me 102)) 0 = .ok (.aload_n 2, 1) from by decide +kernel
theorem k102_1 {L : Nat} {xs : Nat → Int32} : decode (am_cd (am_me (tb_P L xs) 102)) 1 = .ok (.iconst 0, 1) := show decode (am_cd (tb_me 102)) 1 = .ok (.iconst 0, 1) from by decide +kernel
theorem k102_2 {L : Nat} {xs : Nat → Int32} : decode (am_cd (am_me (tb_P L xs) 102)) 2 = .ok (.aload_n 0, 1) := show decode (am_cd (tb_me 102)) 2 = .ok (.aload_n 0, 1) from by decide +kernel
theorem k102_3 {L : Nat} {xs : Nat → Int32} : decode (am_cd (am_me (tb_P L xs) 102)) 3 = .ok (.iload_n 1, 1) := show decode (am_cd (tb_me 102)) 3 = .ok (.iload_n 1, 1) from by decide +kernel
theorem k102_4 {L : Nat} {xs : Nat → Int32} : decode (am_cd (am_me (tb_P L xs) 102)) 4 = .ok (.invokevirtual 65, 3) := show decode (am_cd (tb_me 102)) 4 = .ok (.invokevirtual 65, 3) from by decide +kernel
theorem s102_4 {L : Nat} {xs : Nat → Int32} : am_sp (tb_P L xs) 102 65 = none := show tb_spF 102 65 = none from by decide +kernel
theorem c102_4 {L : Nat} {xs : Nat → Int32} : am_ca (tb_P L xs) 102 65 = some (103, 1, 1) := show tb_caF 102 65 = some (103, 1, 1) from by decide +kernel
theorem r102_4 {L : Nat} {xs : Nat → Int32} : am_rf (am_me (tb_P L xs) 103) + 1 ≤ am_rf (am_me (tb_P L xs) 102) ∧ 2 + (am_ml (am_me (tb_P L xs) 103) + 11) + am_rl (am_me (tb_P L xs) 103) ≤ am_rl (am_me (tb_P L xs) 102) := show am_rf (tb_me 103) + 1 ≤ am_rf (tb_me 102) ∧ 2 + (am_ml (tb_me 103) + 11) + am_rl (tb_me 103) ≤ am_rl (tb_me 102) from by decide +kernel
theorem k102_7 {L : Nat} {xs : Nat → Int32} : decode (am_cd (am_me (tb_P L xs) 102)) 7 = .ok (.i2l, 1) := show decode (am_cd (tb_me 102)) 7 = .ok (.i2l, 1) from by decide +kernel
theorem k102_8 {L : Nat} {xs : Nat → Int32} : decode (am_cd (am_me (tb_P L xs) 102)) 8 = .ok (.lastore, 1) := show decode (am_cd (tb_me 102)) 8 = .ok (.lastore, 1) from by decide +kernel
theorem k102_9 {L : Nat} {xs : Nat → Int32} : decode (am_cd (am_me (tb_P L xs) 102)) 9 = .ok (.goto 6, 3) := show decode (am_cd (tb_me 102)) 9 = .ok (.goto 6, 3) from by decide +kernel
theorem k102_12 {L : Nat} {xs : Nat → Int32} : decode (am_cd (am_me (tb_P L xs) 102)) 12 = .ok (.astore_n 3, 1) := show decode (am_cd (tb_me 102)) 12 = .ok (.astore_n 3, 1) from by decide +kernel
theorem k102_13 {L : Nat} {xs : Nat → Int32} : decode (am_cd (am_me (tb_P L xs) 102)) 13 = .ok (.iconst 1, 1) := show decode (am_cd (tb_me 102)) 13 = .ok (.iconst 1, 1) from by decide +kernel
theorem k102_14 {L : Nat} {xs : Nat → Int32} : decode (am_cd (am_me (tb_P L xs) 102)) 14 = .ok (.ireturn, 1) := show decode (am_cd (tb_me 102)) 14 = .ok (.ireturn, 1) from by decide +kernel
theorem k102_15 {L : Nat} {xs : Nat → Int32} : decode (am_cd (am_me (tb_P L xs) 102)) 15 = .ok (.iconst 0, 1) := show decode (am_cd (tb_me 102)) 15 = .ok (.iconst 0, 1) from by decide +kernel
theorem k102_16 {L : Nat} {xs : Nat → Int32} : decode (am_cd (am_me (tb_P L xs) 102)) 16 = .ok (.ireturn, 1) := show decode (am_cd (tb_me 102)) 16 = .ok (.ireturn, 1) from by decide +kernel
theorem t102 {L : Nat} {xs : Nat → Int32} : am_rt (am_me (tb_P L xs) 102) = some (.int : FieldType) := show am_rt (tb_me 102) = some (.int : FieldType) from by decide +kernel
theorem l102 {L : Nat} {xs : Nat → Int32} : am_ml (am_me (tb_P L xs) 102) = 4 := show am_ml (tb_me 102) = 4 from by decide +kernel
theorem k103_0 {L : Nat} {xs : Nat → Int32} : decode (am_cd (am_me (tb_P L xs) 103)) 0 = .ok (.iload_n 1, 1) := show decode (am_cd (tb_me 103)) 0 = .ok (.iload_n 1, 1) from by decide +kernel
theorem k103_1 {L : Nat} {xs : Nat → Int32} : decode (am_cd (am_me (tb_P L xs) 103)) 1 = .ok (.invokestatic 57, 3) := show decode (am_cd (tb_me 103)) 1 = .ok (.invokestatic 57, 3) from by decide +kernel
theorem s103_1 {L : Nat} {xs : Nat → Int32} : am_sp (tb_P L xs) 103 57 = none := show tb_spF 103 57 = none from by decide +kernel
theorem c103_1 {L : Nat} {xs : Nat → Int32} : am_ca (tb_P L xs) 103 57 = some (40, 1, 0) := show tb_caF 103 57 = some (40, 1, 0) from by decide +kernel
theorem r103_1 {L : Nat} {xs : Nat → Int32} : am_rf (am_me (tb_P L xs) 40) + 1 ≤ am_rf (am_me (tb_P L xs) 103) ∧ 0 + (am_ml (am_me (tb_P L xs) 40) + 11) + am_rl (am_me (tb_P L xs) 40) ≤ am_rl (am_me (tb_P L xs) 103) := show am_rf (tb_me 40) + 1 ≤ am_rf (tb_me 103) ∧ 0 + (am_ml (tb_me 40) + 11) + am_rl (tb_me 40) ≤ am_rl (tb_me 103) from by decide +kernel
theorem k103_4 {L : Nat} {xs : Nat → Int32} : decode (am_cd (am_me (tb_P L xs) 103)) 4 = .ok (.invokestatic 134, 3) := show decode (am_cd (tb_me 103)) 4 = .ok (.invokestatic 134, 3) from by decide +kernel
theorem s103_4 {L : Nat} {xs : Nat → Int32} : am_sp (tb_P L xs) 103 134 = none := show tb_spF 103 134 = none from by decide +kernel
theorem c103_4 {L : Nat} {xs : Nat → Int32} : am_ca (tb_P L xs) 103 134 = some (69, 1, 0) := show tb_caF 103 134 = some (69, 1, 0) from by decide +kernel
theorem r103_4 {L : Nat} {xs : Nat → Int32} : am_rf (am_me (tb_P L xs) 69) + 1 ≤ am_rf (am_me (tb_P L xs) 103) ∧ 0 + (am_ml (am_me (tb_P L xs) 69) + 11) + am_rl (am_me (tb_P L xs) 69) ≤ am_rl (am_me (tb_P L xs) 103) := show am_rf (tb_me 69) + 1 ≤ am_rf (tb_me 103) ∧ 0 + (am_ml (tb_me 69) + 11) + am_rl (tb_me 69) ≤ am_rl (tb_me 103) from by decide +kernel
theorem k103_7 {L : Nat} {xs : Nat → Int32} : decode (am_cd (am_me (tb_P L xs) 103)) 7 = .ok (.aload_n 0, 1) := show decode (am_cd (tb_me 103)) 7 = .ok (.aload_n 0, 1) from by decide +kernel
theorem k103_8 {L : Nat} {xs : Nat → Int32} : decode (am_cd (am_me (tb_P L xs) 103)) 8 = .ok (.getfield 53, 3) := show decode (am_cd (tb_me 103)) 8 = .ok (.getfield 53, 3) from by decide +kernel
theorem f103_8 {L : Nat} {xs : Nat → Int32} : am_fd (tb_P L xs) 103 53 = some (0, 5, (.object "GluedMachines$Run" : FieldType), false) := show tb_fdF 103 53 = some (0, 5, (.object "GluedMachines$Run" : FieldType), false) from by decide +kernel
theorem k103_11 {L : Nat} {xs : Nat → Int32} : decode (am_cd (am_me (tb_P L xs) 103)) 11 = .ok (.getfield 223, 3) := show decode (am_cd (tb_me 103)) 11 = .ok (.getfield 223, 3) from by decide +kernel
theorem f103_11 {L : Nat} {xs : Nat → Int32} : am_fd (tb_P L xs) 103 223 = some (7, 4, (.boolean : FieldType), true) := show tb_fdF 103 223 = some (7, 4, (.boolean : FieldType), true) from by decide +kernel
theorem k103_14 {L : Nat} {xs : Nat → Int32} : decode (am_cd (am_me (tb_P L xs) 103)) 14 = .ok (.ifCond .eq 15, 3) := show decode (am_cd (tb_me 103)) 14 = .ok (.ifCond .eq 15, 3) from by decide +kernel
theorem k103_17 {L : Nat} {xs : Nat → Int32} : decode (am_cd (am_me (tb_P L xs) 103)) 17 = .ok (.aload_n 0, 1) := show decode (am_cd (tb_me 103)) 17 = .ok (.aload_n 0, 1) from by decide +kernel
theorem k103_18 {L : Nat} {xs : Nat → Int32} : decode (am_cd (am_me (tb_P L xs) 103)) 18 = .ok (.getfield 53, 3) := show decode (am_cd (tb_me 103)) 18 = .ok (.getfield 53, 3) from by decide +kernel
theorem f103_18 {L : Nat} {xs : Nat → Int32} : am_fd (tb_P L xs) 103 53 = some (0, 5, (.object "GluedMachines$Run" : FieldType), false) := show tb_fdF 103 53 = some (0, 5, (.object "GluedMachines$Run" : FieldType), false) from by decide +kernel
theorem k103_21 {L : Nat} {xs : Nat → Int32} : decode (am_cd (am_me (tb_P L xs) 103)) 21 = .ok (.getfield 245, 3) := show decode (am_cd (tb_me 103)) 21 = .ok (.getfield 245, 3) from by decide +kernel
theorem f103_21 {L : Nat} {xs : Nat → Int32} : am_fd (tb_P L xs) 103 245 = some (7, 1, (.array .int : FieldType), false) := show tb_fdF 103 245 = some (7, 1, (.array .int : FieldType), false) from by decide +kernel
theorem k103_24 {L : Nat} {xs : Nat → Int32} : decode (am_cd (am_me (tb_P L xs) 103)) 24 = .ok (.iload_n 1, 1) := show decode (am_cd (tb_me 103)) 24 = .ok (.iload_n 1, 1) from by decide +kernel
theorem k103_25 {L : Nat} {xs : Nat → Int32} : decode (am_cd (am_me (tb_P L xs) 103)) 25 = .ok (.iaload, 1) := show decode (am_cd (tb_me 103)) 25 = .ok (.iaload, 1) from by decide +kernel
theorem k103_26 {L : Nat} {xs : Nat → Int32} : decode (am_cd (am_me (tb_P L xs) 103)) 26 = .ok (.goto 4, 3) := show decode (am_cd (tb_me 103)) 26 = .ok (.goto 4, 3) from by decide +kernel
theorem k103_29 {L : Nat} {xs : Nat → Int32} : decode (am_cd (am_me (tb_P L xs) 103)) 29 = .ok (.iconst 0, 1) := show decode (am_cd (tb_me 103)) 29 = .ok (.iconst 0, 1) from by decide +kernel
theorem k103_30 {L : Nat} {xs : Nat → Int32} : decode (am_cd (am_me (tb_P L xs) 103)) 30 = .ok (.ireturn, 1) := show decode (am_cd (tb_me 103)) 30 = .ok (.ireturn, 1) from by decide +kernel
theorem t103 {L : Nat} {xs : Nat → Int32} : am_rt (am_me (tb_P L xs) 103) = some (.int : FieldType) := show am_rt (tb_me 103) = some (.int : FieldType) from by decide +kernel
theorem l103 {L : Nat} {xs : Nat → Int32} : am_ml (am_me (tb_P L xs) 103) = 2 := show am_ml (tb_me 103) = 2 from by decide +kernel
theorem o103 {L : Nat} {xs : Nat → Int32} (pc : Nat) : am_no (tb_P L xs) 103 pc = true := show (am_hd (tb_me 103)).all (fun q => !(decide (q.1 ≤ pc) && decide (pc < q.2.1))) = true from by rw [show am_hd (tb_me 103) = [] by decide +kernel]; rfl
