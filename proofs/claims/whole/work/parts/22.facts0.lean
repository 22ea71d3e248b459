/-! Facts of the instructions, printed by a program of our own. -/
theorem k0_0 {L : Nat} {xs : Nat → Int32} : decode (am_cd (am_me (tb_P L xs) 0)) 0 = .ok (.aload_n 0, 1) := show decode (am_cd (tb_me 0)) 0 = .ok (.aload_n 0, 1) from by decide +kernel
theorem k0_1 {L : Nat} {xs : Nat → Int32} : decode (am_cd (am_me (tb_P L xs) 0)) 1 = .ok (.invokespecial 1, 3) := show decode (am_cd (tb_me 0)) 1 = .ok (.invokespecial 1, 3) from by decide +kernel
theorem s0_1 {L : Nat} {xs : Nat → Int32} : am_sp (tb_P L xs) 0 1 = some 0 := show tb_spF 0 1 = some 0 from by decide +kernel
theorem r0_1 {L : Nat} {xs : Nat → Int32} : 1 ≤ am_rf (am_me (tb_P L xs) 0) ∧ 0 + 12 ≤ am_rl (am_me (tb_P L xs) 0) := show 1 ≤ am_rf (tb_me 0) ∧ 0 + 12 ≤ am_rl (tb_me 0) from by decide +kernel
theorem k0_4 {L : Nat} {xs : Nat → Int32} : decode (am_cd (am_me (tb_P L xs) 0)) 4 = .ok (.aload_n 0, 1) := show decode (am_cd (tb_me 0)) 4 = .ok (.aload_n 0, 1) from by decide +kernel
theorem k0_5 {L : Nat} {xs : Nat → Int32} : decode (am_cd (am_me (tb_P L xs) 0)) 5 = .ok (.new 7, 3) := show decode (am_cd (tb_me 0)) 5 = .ok (.new 7, 3) from by decide +kernel
theorem n0_5 {L : Nat} {xs : Nat → Int32} : am_nw (tb_P L xs) 0 7 = some 1 := show tb_nwF 0 7 = some 1 from by decide +kernel
theorem k0_8 {L : Nat} {xs : Nat → Int32} : decode (am_cd (am_me (tb_P L xs) 0)) 8 = .ok (.dup, 1) := show decode (am_cd (tb_me 0)) 8 = .ok (.dup, 1) from by decide +kernel
theorem k0_9 {L : Nat} {xs : Nat → Int32} : decode (am_cd (am_me (tb_P L xs) 0)) 9 = .ok (.invokespecial 9, 3) := show decode (am_cd (tb_me 0)) 9 = .ok (.invokespecial 9, 3) from by decide +kernel
theorem s0_9 {L : Nat} {xs : Nat → Int32} : am_sp (tb_P L xs) 0 9 = none := show tb_spF 0 9 = none from by decide +kernel
theorem c0_9 {L : Nat} {xs : Nat → Int32} : am_ca (tb_P L xs) 0 9 = some (1, 0, 2) := show tb_caF 0 9 = some (1, 0, 2) from by decide +kernel
theorem r0_9 {L : Nat} {xs : Nat → Int32} : am_rf (am_me (tb_P L xs) 1) + 1 ≤ am_rf (am_me (tb_P L xs) 0) ∧ 2 + (am_ml (am_me (tb_P L xs) 1) + 11) + am_rl (am_me (tb_P L xs) 1) ≤ am_rl (am_me (tb_P L xs) 0) := show am_rf (tb_me 1) + 1 ≤ am_rf (tb_me 0) ∧ 2 + (am_ml (tb_me 1) + 11) + am_rl (tb_me 1) ≤ am_rl (tb_me 0) from by decide +kernel
theorem k0_12 {L : Nat} {xs : Nat → Int32} : decode (am_cd (am_me (tb_P L xs) 0)) 12 = .ok (.putfield 10, 3) := show decode (am_cd (tb_me 0)) 12 = .ok (.putfield 10, 3) from by decide +kernel
theorem f0_12 {L : Nat} {xs : Nat → Int32} : am_fd (tb_P L xs) 0 10 = some (0, 0, (.object "GluedMachines$Writing" : FieldType), true) := show tb_fdF 0 10 = some (0, 0, (.object "GluedMachines$Writing" : FieldType), true) from by decide +kernel
theorem k0_15 {L : Nat} {xs : Nat → Int32} : decode (am_cd (am_me (tb_P L xs) 0)) 15 = .ok (.aload_n 0, 1) := show decode (am_cd (tb_me 0)) 15 = .ok (.aload_n 0, 1) from by decide +kernel
theorem k0_16 {L : Nat} {xs : Nat → Int32} : decode (am_cd (am_me (tb_P L xs) 0)) 16 = .ok (.bipush 30, 2) := show decode (am_cd (tb_me 0)) 16 = .ok (.bipush 30, 2) from by decide +kernel
theorem k0_18 {L : Nat} {xs : Nat → Int32} : decode (am_cd (am_me (tb_P L xs) 0)) 18 = .ok (.anewarray 16, 3) := show decode (am_cd (tb_me 0)) 18 = .ok (.anewarray 16, 3) from by decide +kernel
theorem n0_18 {L : Nat} {xs : Nat → Int32} : am_an (tb_P L xs) 0 16 = some 3 := show tb_anF 0 16 = some 3 from by decide +kernel
theorem k0_21 {L : Nat} {xs : Nat → Int32} : decode (am_cd (am_me (tb_P L xs) 0)) 21 = .ok (.putfield 18, 3) := show decode (am_cd (tb_me 0)) 21 = .ok (.putfield 18, 3) from by decide +kernel
theorem f0_21 {L : Nat} {xs : Nat → Int32} : am_fd (tb_P L xs) 0 18 = some (0, 1, (.array (.object "GluedMachines$Formula") : FieldType), true) := show tb_fdF 0 18 = some (0, 1, (.array (.object "GluedMachines$Formula") : FieldType), true) from by decide +kernel
theorem k0_24 {L : Nat} {xs : Nat → Int32} : decode (am_cd (am_me (tb_P L xs) 0)) 24 = .ok (.aload_n 0, 1) := show decode (am_cd (tb_me 0)) 24 = .ok (.aload_n 0, 1) from by decide +kernel
theorem k0_25 {L : Nat} {xs : Nat → Int32} : decode (am_cd (am_me (tb_P L xs) 0)) 25 = .ok (.iconst 0, 1) := show decode (am_cd (tb_me 0)) 25 = .ok (.iconst 0, 1) from by decide +kernel
theorem k0_26 {L : Nat} {xs : Nat → Int32} : decode (am_cd (am_me (tb_P L xs) 0)) 26 = .ok (.putfield 22, 3) := show decode (am_cd (tb_me 0)) 26 = .ok (.putfield 22, 3) from by decide +kernel
theorem f0_26 {L : Nat} {xs : Nat → Int32} : am_fd (tb_P L xs) 0 22 = some (0, 2, (.int : FieldType), true) := show tb_fdF 0 22 = some (0, 2, (.int : FieldType), true) from by decide +kernel
theorem k0_29 {L : Nat} {xs : Nat → Int32} : decode (am_cd (am_me (tb_P L xs) 0)) 29 = .ok (.aload_n 0, 1) := show decode (am_cd (tb_me 0)) 29 = .ok (.aload_n 0, 1) from by decide +kernel
theorem k0_30 {L : Nat} {xs : Nat → Int32} : decode (am_cd (am_me (tb_P L xs) 0)) 30 = .ok (.bipush 7, 2) := show decode (am_cd (tb_me 0)) 30 = .ok (.bipush 7, 2) from by decide +kernel
theorem k0_32 {L : Nat} {xs : Nat → Int32} : decode (am_cd (am_me (tb_P L xs) 0)) 32 = .ok (.newarray .int, 2) := show decode (am_cd (tb_me 0)) 32 = .ok (.newarray .int, 2) from by decide +kernel
theorem k0_34 {L : Nat} {xs : Nat → Int32} : decode (am_cd (am_me (tb_P L xs) 0)) 34 = .ok (.putfield 26, 3) := show decode (am_cd (tb_me 0)) 34 = .ok (.putfield 26, 3) from by decide +kernel
theorem f0_34 {L : Nat} {xs : Nat → Int32} : am_fd (tb_P L xs) 0 26 = some (0, 6, (.array .int : FieldType), true) := show tb_fdF 0 26 = some (0, 6, (.array .int : FieldType), true) from by decide +kernel
theorem k0_37 {L : Nat} {xs : Nat → Int32} : decode (am_cd (am_me (tb_P L xs) 0)) 37 = .ok (.aload_n 0, 1) := show decode (am_cd (tb_me 0)) 37 = .ok (.aload_n 0, 1) from by decide +kernel
theorem k0_38 {L : Nat} {xs : Nat → Int32} : decode (am_cd (am_me (tb_P L xs) 0)) 38 = .ok (.iconst 0, 1) := show decode (am_cd (tb_me 0)) 38 = .ok (.iconst 0, 1) from by decide +kernel
theorem k0_39 {L : Nat} {xs : Nat → Int32} : decode (am_cd (am_me (tb_P L xs) 0)) 39 = .ok (.putfield 30, 3) := show decode (am_cd (tb_me 0)) 39 = .ok (.putfield 30, 3) from by decide +kernel
theorem f0_39 {L : Nat} {xs : Nat → Int32} : am_fd (tb_P L xs) 0 30 = some (0, 7, (.boolean : FieldType), true) := show tb_fdF 0 30 = some (0, 7, (.boolean : FieldType), true) from by decide +kernel
theorem k0_42 {L : Nat} {xs : Nat → Int32} : decode (am_cd (am_me (tb_P L xs) 0)) 42 = .ok (.new 34, 3) := show decode (am_cd (tb_me 0)) 42 = .ok (.new 34, 3) from by decide +kernel
theorem n0_42 {L : Nat} {xs : Nat → Int32} : am_nw (tb_P L xs) 0 34 = some 5 := show tb_nwF 0 34 = some 5 from by decide +kernel
theorem k0_45 {L : Nat} {xs : Nat → Int32} : decode (am_cd (am_me (tb_P L xs) 0)) 45 = .ok (.dup, 1) := show decode (am_cd (tb_me 0)) 45 = .ok (.dup, 1) from by decide +kernel
theorem k0_46 {L : Nat} {xs : Nat → Int32} : decode (am_cd (am_me (tb_P L xs) 0)) 46 = .ok (.invokespecial 36, 3) := show decode (am_cd (tb_me 0)) 46 = .ok (.invokespecial 36, 3) from by decide +kernel
theorem s0_46 {L : Nat} {xs : Nat → Int32} : am_sp (tb_P L xs) 0 36 = none := show tb_spF 0 36 = none from by decide +kernel
theorem c0_46 {L : Nat} {xs : Nat → Int32} : am_ca (tb_P L xs) 0 36 = some (2, 0, 2) := show tb_caF 0 36 = some (2, 0, 2) from by decide +kernel
theorem r0_46 {L : Nat} {xs : Nat → Int32} : am_rf (am_me (tb_P L xs) 2) + 1 ≤ am_rf (am_me (tb_P L xs) 0) ∧ 1 + (am_ml (am_me (tb_P L xs) 2) + 11) + am_rl (am_me (tb_P L xs) 2) ≤ am_rl (am_me (tb_P L xs) 0) := show am_rf (tb_me 2) + 1 ≤ am_rf (tb_me 0) ∧ 1 + (am_ml (tb_me 2) + 11) + am_rl (tb_me 2) ≤ am_rl (tb_me 0) from by decide +kernel
theorem k0_49 {L : Nat} {xs : Nat → Int32} : decode (am_cd (am_me (tb_P L xs) 0)) 49 = .ok (.astore_n 1, 1) := show decode (am_cd (tb_me 0)) 49 = .ok (.astore_n 1, 1) from by decide +kernel
theorem k0_50 {L : Nat} {xs : Nat → Int32} : decode (am_cd (am_me (tb_P L xs) 0)) 50 = .ok (.aload_n 0, 1) := show decode (am_cd (tb_me 0)) 50 = .ok (.aload_n 0, 1) from by decide +kernel
theorem k0_51 {L : Nat} {xs : Nat → Int32} : decode (am_cd (am_me (tb_P L xs) 0)) 51 = .ok (.aload_n 1, 1) := show decode (am_cd (tb_me 0)) 51 = .ok (.aload_n 1, 1) from by decide +kernel
theorem k0_52 {L : Nat} {xs : Nat → Int32} : decode (am_cd (am_me (tb_P L xs) 0)) 52 = .ok (.putfield 37, 3) := show decode (am_cd (tb_me 0)) 52 = .ok (.putfield 37, 3) from by decide +kernel
theorem f0_52 {L : Nat} {xs : Nat → Int32} : am_fd (tb_P L xs) 0 37 = some (0, 3, (.object "GluedMachines$Model" : FieldType), true) := show tb_fdF 0 37 = some (0, 3, (.object "GluedMachines$Model" : FieldType), true) from by decide +kernel
theorem k0_55 {L : Nat} {xs : Nat → Int32} : decode (am_cd (am_me (tb_P L xs) 0)) 55 = .ok (.aload_n 0, 1) := show decode (am_cd (tb_me 0)) 55 = .ok (.aload_n 0, 1) from by decide +kernel
theorem k0_56 {L : Nat} {xs : Nat → Int32} : decode (am_cd (am_me (tb_P L xs) 0)) 56 = .ok (.new 41, 3) := show decode (am_cd (tb_me 0)) 56 = .ok (.new 41, 3) from by decide +kernel
theorem n0_56 {L : Nat} {xs : Nat → Int32} : am_nw (tb_P L xs) 0 41 = some 6 := show tb_nwF 0 41 = some 6 from by decide +kernel
theorem k0_59 {L : Nat} {xs : Nat → Int32} : decode (am_cd (am_me (tb_P L xs) 0)) 59 = .ok (.dup, 1) := show decode (am_cd (tb_me 0)) 59 = .ok (.dup, 1) from by decide +kernel
theorem k0_60 {L : Nat} {xs : Nat → Int32} : decode (am_cd (am_me (tb_P L xs) 0)) 60 = .ok (.aload_n 1, 1) := show decode (am_cd (tb_me 0)) 60 = .ok (.aload_n 1, 1) from by decide +kernel
theorem k0_61 {L : Nat} {xs : Nat → Int32} : decode (am_cd (am_me (tb_P L xs) 0)) 61 = .ok (.invokespecial 43, 3) := show decode (am_cd (tb_me 0)) 61 = .ok (.invokespecial 43, 3) from by decide +kernel
theorem s0_61 {L : Nat} {xs : Nat → Int32} : am_sp (tb_P L xs) 0 43 = none := show tb_spF 0 43 = none from by decide +kernel
theorem c0_61 {L : Nat} {xs : Nat → Int32} : am_ca (tb_P L xs) 0 43 = some (5, 1, 2) := show tb_caF 0 43 = some (5, 1, 2) from by decide +kernel
theorem r0_61 {L : Nat} {xs : Nat → Int32} : am_rf (am_me (tb_P L xs) 5) + 1 ≤ am_rf (am_me (tb_P L xs) 0) ∧ 2 + (am_ml (am_me (tb_P L xs) 5) + 11) + am_rl (am_me (tb_P L xs) 5) ≤ am_rl (am_me (tb_P L xs) 0) := show am_rf (tb_me 5) + 1 ≤ am_rf (tb_me 0) ∧ 2 + (am_ml (tb_me 5) + 11) + am_rl (tb_me 5) ≤ am_rl (tb_me 0) from by decide +kernel
theorem k0_64 {L : Nat} {xs : Nat → Int32} : decode (am_cd (am_me (tb_P L xs) 0)) 64 = .ok (.putfield 46, 3) := show decode (am_cd (tb_me 0)) 64 = .ok (.putfield 46, 3) from by decide +kernel
theorem f0_64 {L : Nat} {xs : Nat → Int32} : am_fd (tb_P L xs) 0 46 = some (0, 4, (.object "GluedMachines$Duties" : FieldType), true) := show tb_fdF 0 46 = some (0, 4, (.object "GluedMachines$Duties" : FieldType), true) from by decide +kernel
theorem k0_67 {L : Nat} {xs : Nat → Int32} : decode (am_cd (am_me (tb_P L xs) 0)) 67 = .ok (.aload_n 0, 1) := show decode (am_cd (tb_me 0)) 67 = .ok (.aload_n 0, 1) from by decide +kernel
theorem k0_68 {L : Nat} {xs : Nat → Int32} : decode (am_cd (am_me (tb_P L xs) 0)) 68 = .ok (.new 50, 3) := show decode (am_cd (tb_me 0)) 68 = .ok (.new 50, 3) from by decide +kernel
theorem n0_68 {L : Nat} {xs : Nat → Int32} : am_nw (tb_P L xs) 0 50 = some 7 := show tb_nwF 0 50 = some 7 from by decide +kernel
theorem k0_71 {L : Nat} {xs : Nat → Int32} : decode (am_cd (am_me (tb_P L xs) 0)) 71 = .ok (.dup, 1) := show decode (am_cd (tb_me 0)) 71 = .ok (.dup, 1) from by decide +kernel
theorem k0_72 {L : Nat} {xs : Nat → Int32} : decode (am_cd (am_me (tb_P L xs) 0)) 72 = .ok (.aload_n 1, 1) := show decode (am_cd (tb_me 0)) 72 = .ok (.aload_n 1, 1) from by decide +kernel
theorem k0_73 {L : Nat} {xs : Nat → Int32} : decode (am_cd (am_me (tb_P L xs) 0)) 73 = .ok (.invokespecial 52, 3) := show decode (am_cd (tb_me 0)) 73 = .ok (.invokespecial 52, 3) from by decide +kernel
theorem s0_73 {L : Nat} {xs : Nat → Int32} : am_sp (tb_P L xs) 0 52 = none := show tb_spF 0 52 = none from by decide +kernel
theorem c0_73 {L : Nat} {xs : Nat → Int32} : am_ca (tb_P L xs) 0 52 = some (6, 1, 2) := show tb_caF 0 52 = some (6, 1, 2) from by decide +kernel
theorem r0_73 {L : Nat} {xs : Nat → Int32} : am_rf (am_me (tb_P L xs) 6) + 1 ≤ am_rf (am_me (tb_P L xs) 0) ∧ 2 + (am_ml (am_me (tb_P L xs) 6) + 11) + am_rl (am_me (tb_P L xs) 6) ≤ am_rl (am_me (tb_P L xs) 0) := show am_rf (tb_me 6) + 1 ≤ am_rf (tb_me 0) ∧ 2 + (am_ml (tb_me 6) + 11) + am_rl (tb_me 6) ≤ am_rl (tb_me 0) from by decide +kernel
theorem k0_76 {L : Nat} {xs : Nat → Int32} : decode (am_cd (am_me (tb_P L xs) 0)) 76 = .ok (.putfield 53, 3) := show decode (am_cd (tb_me 0)) 76 = .ok (.putfield 53, 3) from by decide +kernel
theorem f0_76 {L : Nat} {xs : Nat → Int32} : am_fd (tb_P L xs) 0 53 = some (0, 5, (.object "GluedMachines$Run" : FieldType), true) := show tb_fdF 0 53 = some (0, 5, (.object "GluedMachines$Run" : FieldType), true) from by decide +kernel
theorem k0_79 {L : Nat} {xs : Nat → Int32} : decode (am_cd (am_me (tb_P L xs) 0)) 79 = .ok (.return_, 1) := show decode (am_cd (tb_me 0)) 79 = .ok (.return_, 1) from by decide +kernel
theorem t0 {L : Nat} {xs : Nat → Int32} : am_rt (am_me (tb_P L xs) 0) = none := show am_rt (tb_me 0) = none from by decide +kernel
theorem l0 {L : Nat} {xs : Nat → Int32} : am_ml (am_me (tb_P L xs) 0) = 2 := show am_ml (tb_me 0) = 2 from by decide +kernel
theorem o0 {L : Nat} {xs : Nat → Int32} (pc : Nat) : am_no (tb_P L xs) 0 pc = true := show (am_hd (tb_me 0)).all (fun q => !(decide (q.1 ≤ pc) && decide (pc < q.2.1))) = true from by rw [show am_hd (tb_me 0) = [] by decide +kernel]; rfl
theorem k1_0 {L : Nat} {xs : Nat → Int32} : decode (am_cd (am_me (tb_P L xs) 1)) 0 = .ok (.aload_n 0, 1) := show decode (am_cd (tb_me 1)) 0 = .ok (.aload_n 0, 1) from by decide +kernel
theorem k1_1 {L : Nat} {xs : Nat → Int32} : decode (am_cd (am_me (tb_P L xs) 1)) 1 = .ok (.invokespecial 3, 3) := show decode (am_cd (tb_me 1)) 1 = .ok (.invokespecial 3, 3) from by decide +kernel
theorem s1_1 {L : Nat} {xs : Nat → Int32} : am_sp (tb_P L xs) 1 3 = some 0 := show tb_spF 1 3 = some 0 from by decide +kernel
theorem r1_1 {L : Nat} {xs : Nat → Int32} : 1 ≤ am_rf (am_me (tb_P L xs) 1) ∧ 0 + 12 ≤ am_rl (am_me (tb_P L xs) 1) := show 1 ≤ am_rf (tb_me 1) ∧ 0 + 12 ≤ am_rl (tb_me 1) from by decide +kernel
theorem k1_4 {L : Nat} {xs : Nat → Int32} : decode (am_cd (am_me (tb_P L xs) 1)) 4 = .ok (.aload_n 0, 1) := show decode (am_cd (tb_me 1)) 4 = .ok (.aload_n 0, 1) from by decide +kernel
theorem k1_5 {L : Nat} {xs : Nat → Int32} : decode (am_cd (am_me (tb_P L xs) 1)) 5 = .ok (.bipush 24, 2) := show decode (am_cd (tb_me 1)) 5 = .ok (.bipush 24, 2) from by decide +kernel
theorem k1_7 {L : Nat} {xs : Nat → Int32} : decode (am_cd (am_me (tb_P L xs) 1)) 7 = .ok (.newarray .int, 2) := show decode (am_cd (tb_me 1)) 7 = .ok (.newarray .int, 2) from by decide +kernel
theorem k1_9 {L : Nat} {xs : Nat → Int32} : decode (am_cd (am_me (tb_P L xs) 1)) 9 = .ok (.putfield 9, 3) := show decode (am_cd (tb_me 1)) 9 = .ok (.putfield 9, 3) from by decide +kernel
theorem f1_9 {L : Nat} {xs : Nat → Int32} : am_fd (tb_P L xs) 1 9 = some (1, 0, (.array .int : FieldType), true) := show tb_fdF 1 9 = some (1, 0, (.array .int : FieldType), true) from by decide +kernel
theorem k1_12 {L : Nat} {xs : Nat → Int32} : decode (am_cd (am_me (tb_P L xs) 1)) 12 = .ok (.aload_n 0, 1) := show decode (am_cd (tb_me 1)) 12 = .ok (.aload_n 0, 1) from by decide +kernel
theorem k1_13 {L : Nat} {xs : Nat → Int32} : decode (am_cd (am_me (tb_P L xs) 1)) 13 = .ok (.bipush 25, 2) := show decode (am_cd (tb_me 1)) 13 = .ok (.bipush 25, 2) from by decide +kernel
theorem k1_15 {L : Nat} {xs : Nat → Int32} : decode (am_cd (am_me (tb_P L xs) 1)) 15 = .ok (.newarray .int, 2) := show decode (am_cd (tb_me 1)) 15 = .ok (.newarray .int, 2) from by decide +kernel
theorem k1_17 {L : Nat} {xs : Nat → Int32} : decode (am_cd (am_me (tb_P L xs) 1)) 17 = .ok (.putfield 15, 3) := show decode (am_cd (tb_me 1)) 17 = .ok (.putfield 15, 3) from by decide +kernel
theorem f1_17 {L : Nat} {xs : Nat → Int32} : am_fd (tb_P L xs) 1 15 = some (1, 1, (.array .int : FieldType), true) := show tb_fdF 1 15 = some (1, 1, (.array .int : FieldType), true) from by decide +kernel
theorem k1_20 {L : Nat} {xs : Nat → Int32} : decode (am_cd (am_me (tb_P L xs) 1)) 20 = .ok (.aload_n 0, 1) := show decode (am_cd (tb_me 1)) 20 = .ok (.aload_n 0, 1) from by decide +kernel
theorem k1_21 {L : Nat} {xs : Nat → Int32} : decode (am_cd (am_me (tb_P L xs) 1)) 21 = .ok (.bipush 25, 2) := show decode (am_cd (tb_me 1)) 21 = .ok (.bipush 25, 2) from by decide +kernel
theorem k1_23 {L : Nat} {xs : Nat → Int32} : decode (am_cd (am_me (tb_P L xs) 1)) 23 = .ok (.newarray .int, 2) := show decode (am_cd (tb_me 1)) 23 = .ok (.newarray .int, 2) from by decide +kernel
theorem k1_25 {L : Nat} {xs : Nat → Int32} : decode (am_cd (am_me (tb_P L xs) 1)) 25 = .ok (.putfield 18, 3) := show decode (am_cd (tb_me 1)) 25 = .ok (.putfield 18, 3) from by decide +kernel
theorem f1_25 {L : Nat} {xs : Nat → Int32} : am_fd (tb_P L xs) 1 18 = some (1, 2, (.array .int : FieldType), true) := show tb_fdF 1 18 = some (1, 2, (.array .int : FieldType), true) from by decide +kernel
theorem k1_28 {L : Nat} {xs : Nat → Int32} : decode (am_cd (am_me (tb_P L xs) 1)) 28 = .ok (.aload_n 0, 1) := show decode (am_cd (tb_me 1)) 28 = .ok (.aload_n 0, 1) from by decide +kernel
theorem k1_29 {L : Nat} {xs : Nat → Int32} : decode (am_cd (am_me (tb_P L xs) 1)) 29 = .ok (.iconst 0, 1) := show decode (am_cd (tb_me 1)) 29 = .ok (.iconst 0, 1) from by decide +kernel
theorem k1_30 {L : Nat} {xs : Nat → Int32} : decode (am_cd (am_me (tb_P L xs) 1)) 30 = .ok (.putfield 21, 3) := show decode (am_cd (tb_me 1)) 30 = .ok (.putfield 21, 3) from by decide +kernel
theorem f1_30 {L : Nat} {xs : Nat → Int32} : am_fd (tb_P L xs) 1 21 = some (1, 3, (.int : FieldType), true) := show tb_fdF 1 21 = some (1, 3, (.int : FieldType), true) from by decide +kernel
theorem k1_33 {L : Nat} {xs : Nat → Int32} : decode (am_cd (am_me (tb_P L xs) 1)) 33 = .ok (.return_, 1) := show decode (am_cd (tb_me 1)) 33 = .ok (.return_, 1) from by decide +kernel
theorem t1 {L : Nat} {xs : Nat → Int32} : am_rt (am_me (tb_P L xs) 1) = none := show am_rt (tb_me 1) = none from by decide +kernel
theorem l1 {L : Nat} {xs : Nat → Int32} : am_ml (am_me (tb_P L xs) 1) = 1 := show am_ml (tb_me 1) = 1 from by decide +kernel
theorem o1 {L : Nat} {xs : Nat → Int32} (pc : Nat) : am_no (tb_P L xs) 1 pc = true := show (am_hd (tb_me 1)).all (fun q => !(decide (q.1 ≤ pc) && decide (pc < q.2.1))) = true from by rw [show am_hd (tb_me 1) = [] by decide +kernel]; rfl
theorem k2_0 {L : Nat} {xs : Nat → Int32} : decode (am_cd (am_me (tb_P L xs) 2)) 0 = .ok (.aload_n 0, 1) := show decode (am_cd (tb_me 2)) 0 = .ok (.aload_n 0, 1) from by decide +kernel
theorem k2_1 {L : Nat} {xs : Nat → Int32} : decode (am_cd (am_me (tb_P L xs) 2)) 1 = .ok (.invokespecial 3, 3) := show decode (am_cd (tb_me 2)) 1 = .ok (.invokespecial 3, 3) from by decide +kernel
theorem s2_1 {L : Nat} {xs : Nat → Int32} : am_sp (tb_P L xs) 2 3 = some 0 := show tb_spF 2 3 = some 0 from by decide +kernel
theorem r2_1 {L : Nat} {xs : Nat → Int32} : 1 ≤ am_rf (am_me (tb_P L xs) 2) ∧ 0 + 12 ≤ am_rl (am_me (tb_P L xs) 2) := show 1 ≤ am_rf (tb_me 2) ∧ 0 + 12 ≤ am_rl (tb_me 2) from by decide +kernel
theorem k2_4 {L : Nat} {xs : Nat → Int32} : decode (am_cd (am_me (tb_P L xs) 2)) 4 = .ok (.aload_n 0, 1) := show decode (am_cd (tb_me 2)) 4 = .ok (.aload_n 0, 1) from by decide +kernel
theorem k2_5 {L : Nat} {xs : Nat → Int32} : decode (am_cd (am_me (tb_P L xs) 2)) 5 = .ok (.bipush 6, 2) := show decode (am_cd (tb_me 2)) 5 = .ok (.bipush 6, 2) from by decide +kernel
theorem k2_7 {L : Nat} {xs : Nat → Int32} : decode (am_cd (am_me (tb_P L xs) 2)) 7 = .ok (.newarray .int, 2) := show decode (am_cd (tb_me 2)) 7 = .ok (.newarray .int, 2) from by decide +kernel
theorem k2_9 {L : Nat} {xs : Nat → Int32} : decode (am_cd (am_me (tb_P L xs) 2)) 9 = .ok (.putfield 9, 3) := show decode (am_cd (tb_me 2)) 9 = .ok (.putfield 9, 3) from by decide +kernel
theorem f2_9 {L : Nat} {xs : Nat → Int32} : am_fd (tb_P L xs) 2 9 = some (5, 0, (.array .int : FieldType), true) := show tb_fdF 2 9 = some (5, 0, (.array .int : FieldType), true) from by decide +kernel
theorem k2_12 {L : Nat} {xs : Nat → Int32} : decode (am_cd (am_me (tb_P L xs) 2)) 12 = .ok (.aload_n 0, 1) := show decode (am_cd (tb_me 2)) 12 = .ok (.aload_n 0, 1) from by decide +kernel
theorem k2_13 {L : Nat} {xs : Nat → Int32} : decode (am_cd (am_me (tb_P L xs) 2)) 13 = .ok (.bipush 7, 2) := show decode (am_cd (tb_me 2)) 13 = .ok (.bipush 7, 2) from by decide +kernel
theorem k2_15 {L : Nat} {xs : Nat → Int32} : decode (am_cd (am_me (tb_P L xs) 2)) 15 = .ok (.newarray .int, 2) := show decode (am_cd (tb_me 2)) 15 = .ok (.newarray .int, 2) from by decide +kernel
theorem k2_17 {L : Nat} {xs : Nat → Int32} : decode (am_cd (am_me (tb_P L xs) 2)) 17 = .ok (.putfield 15, 3) := show decode (am_cd (tb_me 2)) 17 = .ok (.putfield 15, 3) from by decide +kernel
theorem f2_17 {L : Nat} {xs : Nat → Int32} : am_fd (tb_P L xs) 2 15 = some (5, 1, (.array .int : FieldType), true) := show tb_fdF 2 15 = some (5, 1, (.array .int : FieldType), true) from by decide +kernel
theorem k2_20 {L : Nat} {xs : Nat → Int32} : decode (am_cd (am_me (tb_P L xs) 2)) 20 = .ok (.aload_n 0, 1) := show decode (am_cd (tb_me 2)) 20 = .ok (.aload_n 0, 1) from by decide +kernel
theorem k2_21 {L : Nat} {xs : Nat → Int32} : decode (am_cd (am_me (tb_P L xs) 2)) 21 = .ok (.bipush 12, 2) := show decode (am_cd (tb_me 2)) 21 = .ok (.bipush 12, 2) from by decide +kernel
theorem k2_23 {L : Nat} {xs : Nat → Int32} : decode (am_cd (am_me (tb_P L xs) 2)) 23 = .ok (.anewarray 18, 3) := show decode (am_cd (tb_me 2)) 23 = .ok (.anewarray 18, 3) from by decide +kernel
theorem n2_23 {L : Nat} {xs : Nat → Int32} : am_an (tb_P L xs) 2 18 = some 4 := show tb_anF 2 18 = some 4 from by decide +kernel
theorem k2_26 {L : Nat} {xs : Nat → Int32} : decode (am_cd (am_me (tb_P L xs) 2)) 26 = .ok (.putfield 20, 3) := show decode (am_cd (tb_me 2)) 26 = .ok (.putfield 20, 3) from by decide +kernel
theorem f2_26 {L : Nat} {xs : Nat → Int32} : am_fd (tb_P L xs) 2 20 = some (5, 2, (.array (.object "GluedMachines$Event") : FieldType), true) := show tb_fdF 2 20 = some (5, 2, (.array (.object "GluedMachines$Event") : FieldType), true) from by decide +kernel
theorem k2_29 {L : Nat} {xs : Nat → Int32} : decode (am_cd (am_me (tb_P L xs) 2)) 29 = .ok (.aload_n 0, 1) := show decode (am_cd (tb_me 2)) 29 = .ok (.aload_n 0, 1) from by decide +kernel
theorem k2_30 {L : Nat} {xs : Nat → Int32} : decode (am_cd (am_me (tb_P L xs) 2)) 30 = .ok (.iconst 0, 1) := show decode (am_cd (tb_me 2)) 30 = .ok (.iconst 0, 1) from by decide +kernel
theorem k2_31 {L : Nat} {xs : Nat → Int32} : decode (am_cd (am_me (tb_P L xs) 2)) 31 = .ok (.putfield 24, 3) := show decode (am_cd (tb_me 2)) 31 = .ok (.putfield 24, 3) from by decide +kernel
theorem f2_31 {L : Nat} {xs : Nat → Int32} : am_fd (tb_P L xs) 2 24 = some (5, 3, (.int : FieldType), true) := show tb_fdF 2 24 = some (5, 3, (.int : FieldType), true) from by decide +kernel
theorem k2_34 {L : Nat} {xs : Nat → Int32} : decode (am_cd (am_me (tb_P L xs) 2)) 34 = .ok (.aload_n 0, 1) := show decode (am_cd (tb_me 2)) 34 = .ok (.aload_n 0, 1) from by decide +kernel
theorem k2_35 {L : Nat} {xs : Nat → Int32} : decode (am_cd (am_me (tb_P L xs) 2)) 35 = .ok (.new 28, 3) := show decode (am_cd (tb_me 2)) 35 = .ok (.new 28, 3) from by decide +kernel
theorem n2_35 {L : Nat} {xs : Nat → Int32} : am_nw (tb_P L xs) 2 28 = some 4 := show tb_nwF 2 28 = some 4 from by decide +kernel
theorem k2_38 {L : Nat} {xs : Nat → Int32} : decode (am_cd (am_me (tb_P L xs) 2)) 38 = .ok (.dup, 1) := show decode (am_cd (tb_me 2)) 38 = .ok (.dup, 1) from by decide +kernel
theorem k2_39 {L : Nat} {xs : Nat → Int32} : decode (am_cd (am_me (tb_P L xs) 2)) 39 = .ok (.invokespecial 30, 3) := show decode (am_cd (tb_me 2)) 39 = .ok (.invokespecial 30, 3) from by decide +kernel
theorem s2_39 {L : Nat} {xs : Nat → Int32} : am_sp (tb_P L xs) 2 30 = none := show tb_spF 2 30 = none from by decide +kernel
theorem c2_39 {L : Nat} {xs : Nat → Int32} : am_ca (tb_P L xs) 2 30 = some (3, 0, 2) := show tb_caF 2 30 = some (3, 0, 2) from by decide +kernel
theorem r2_39 {L : Nat} {xs : Nat → Int32} : am_rf (am_me (tb_P L xs) 3) + 1 ≤ am_rf (am_me (tb_P L xs) 2) ∧ 2 + (am_ml (am_me (tb_P L xs) 3) + 11) + am_rl (am_me (tb_P L xs) 3) ≤ am_rl (am_me (tb_P L xs) 2) := show am_rf (tb_me 3) + 1 ≤ am_rf (tb_me 2) ∧ 2 + (am_ml (tb_me 3) + 11) + am_rl (tb_me 3) ≤ am_rl (tb_me 2) from by decide +kernel
theorem k2_42 {L : Nat} {xs : Nat → Int32} : decode (am_cd (am_me (tb_P L xs) 2)) 42 = .ok (.putfield 31, 3) := show decode (am_cd (tb_me 2)) 42 = .ok (.putfield 31, 3) from by decide +kernel
theorem f2_42 {L : Nat} {xs : Nat → Int32} : am_fd (tb_P L xs) 2 31 = some (5, 4, (.object "GluedMachines$Invariants" : FieldType), true) := show tb_fdF 2 31 = some (5, 4, (.object "GluedMachines$Invariants" : FieldType), true) from by decide +kernel
theorem k2_45 {L : Nat} {xs : Nat → Int32} : decode (am_cd (am_me (tb_P L xs) 2)) 45 = .ok (.aload_n 0, 1) := show decode (am_cd (tb_me 2)) 45 = .ok (.aload_n 0, 1) from by decide +kernel
theorem k2_46 {L : Nat} {xs : Nat → Int32} : decode (am_cd (am_me (tb_P L xs) 2)) 46 = .ok (.aconst_null, 1) := show decode (am_cd (tb_me 2)) 46 = .ok (.aconst_null, 1) from by decide +kernel
theorem k2_47 {L : Nat} {xs : Nat → Int32} : decode (am_cd (am_me (tb_P L xs) 2)) 47 = .ok (.putfield 35, 3) := show decode (am_cd (tb_me 2)) 47 = .ok (.putfield 35, 3) from by decide +kernel
theorem f2_47 {L : Nat} {xs : Nat → Int32} : am_fd (tb_P L xs) 2 35 = some (5, 5, (.object "GluedMachines$Formula" : FieldType), true) := show tb_fdF 2 35 = some (5, 5, (.object "GluedMachines$Formula" : FieldType), true) from by decide +kernel
theorem k2_50 {L : Nat} {xs : Nat → Int32} : decode (am_cd (am_me (tb_P L xs) 2)) 50 = .ok (.aload_n 0, 1) := show decode (am_cd (tb_me 2)) 50 = .ok (.aload_n 0, 1) from by decide +kernel
theorem k2_51 {L : Nat} {xs : Nat → Int32} : decode (am_cd (am_me (tb_P L xs) 2)) 51 = .ok (.bipush 7, 2) := show decode (am_cd (tb_me 2)) 51 = .ok (.bipush 7, 2) from by decide +kernel
theorem k2_53 {L : Nat} {xs : Nat → Int32} : decode (am_cd (am_me (tb_P L xs) 2)) 53 = .ok (.newarray .int, 2) := show decode (am_cd (tb_me 2)) 53 = .ok (.newarray .int, 2) from by decide +kernel
theorem k2_55 {L : Nat} {xs : Nat → Int32} : decode (am_cd (am_me (tb_P L xs) 2)) 55 = .ok (.putfield 39, 3) := show decode (am_cd (tb_me 2)) 55 = .ok (.putfield 39, 3) from by decide +kernel
theorem f2_55 {L : Nat} {xs : Nat → Int32} : am_fd (tb_P L xs) 2 39 = some (5, 6, (.array .int : FieldType), true) := show tb_fdF 2 39 = some (5, 6, (.array .int : FieldType), true) from by decide +kernel
theorem k2_58 {L : Nat} {xs : Nat → Int32} : decode (am_cd (am_me (tb_P L xs) 2)) 58 = .ok (.aload_n 0, 1) := show decode (am_cd (tb_me 2)) 58 = .ok (.aload_n 0, 1) from by decide +kernel
theorem k2_59 {L : Nat} {xs : Nat → Int32} : decode (am_cd (am_me (tb_P L xs) 2)) 59 = .ok (.bipush 7, 2) := show decode (am_cd (tb_me 2)) 59 = .ok (.bipush 7, 2) from by decide +kernel
theorem k2_61 {L : Nat} {xs : Nat → Int32} : decode (am_cd (am_me (tb_P L xs) 2)) 61 = .ok (.newarray .int, 2) := show decode (am_cd (tb_me 2)) 61 = .ok (.newarray .int, 2) from by decide +kernel
theorem k2_63 {L : Nat} {xs : Nat → Int32} : decode (am_cd (am_me (tb_P L xs) 2)) 63 = .ok (.putfield 42, 3) := show decode (am_cd (tb_me 2)) 63 = .ok (.putfield 42, 3) from by decide +kernel
theorem f2_63 {L : Nat} {xs : Nat → Int32} : am_fd (tb_P L xs) 2 42 = some (5, 7, (.array .int : FieldType), true) := show tb_fdF 2 42 = some (5, 7, (.array .int : FieldType), true) from by decide +kernel
theorem k2_66 {L : Nat} {xs : Nat → Int32} : decode (am_cd (am_me (tb_P L xs) 2)) 66 = .ok (.aload_n 0, 1) := show decode (am_cd (tb_me 2)) 66 = .ok (.aload_n 0, 1) from by decide +kernel
theorem k2_67 {L : Nat} {xs : Nat → Int32} : decode (am_cd (am_me (tb_P L xs) 2)) 67 = .ok (.getfield 9, 3) := show decode (am_cd (tb_me 2)) 67 = .ok (.getfield 9, 3) from by decide +kernel
theorem f2_67 {L : Nat} {xs : Nat → Int32} : am_fd (tb_P L xs) 2 9 = some (5, 0, (.array .int : FieldType), true) := show tb_fdF 2 9 = some (5, 0, (.array .int : FieldType), true) from by decide +kernel
theorem k2_70 {L : Nat} {xs : Nat → Int32} : decode (am_cd (am_me (tb_P L xs) 2)) 70 = .ok (.iconst 1, 1) := show decode (am_cd (tb_me 2)) 70 = .ok (.iconst 1, 1) from by decide +kernel
theorem k2_71 {L : Nat} {xs : Nat → Int32} : decode (am_cd (am_me (tb_P L xs) 2)) 71 = .ok (.invokestatic 45, 3) := show decode (am_cd (tb_me 2)) 71 = .ok (.invokestatic 45, 3) from by decide +kernel
theorem s2_71 {L : Nat} {xs : Nat → Int32} : am_sp (tb_P L xs) 2 45 = none := show tb_spF 2 45 = none from by decide +kernel
theorem c2_71 {L : Nat} {xs : Nat → Int32} : am_ca (tb_P L xs) 2 45 = some (4, 2, 0) := show tb_caF 2 45 = some (4, 2, 0) from by decide +kernel
theorem r2_71 {L : Nat} {xs : Nat → Int32} : am_rf (am_me (tb_P L xs) 4) + 1 ≤ am_rf (am_me (tb_P L xs) 2) ∧ 0 + (am_ml (am_me (tb_P L xs) 4) + 11) + am_rl (am_me (tb_P L xs) 4) ≤ am_rl (am_me (tb_P L xs) 2) := show am_rf (tb_me 4) + 1 ≤ am_rf (tb_me 2) ∧ 0 + (am_ml (tb_me 4) + 11) + am_rl (tb_me 4) ≤ am_rl (tb_me 2) from by decide +kernel
theorem k2_74 {L : Nat} {xs : Nat → Int32} : decode (am_cd (am_me (tb_P L xs) 2)) 74 = .ok (.return_, 1) := show decode (am_cd (tb_me 2)) 74 = .ok (.return_, 1) from by decide +kernel
theorem t2 {L : Nat} {xs : Nat → Int32} : am_rt (am_me (tb_P L xs) 2) = none := show am_rt (tb_me 2) = none from by decide +kernel
theorem l2 {L : Nat} {xs : Nat → Int32} : am_ml (am_me (tb_P L xs) 2) = 1 := show am_ml (tb_me 2) = 1 from by decide +kernel
theorem o2 {L : Nat} {xs : Nat → Int32} (pc : Nat) : am_no (tb_P L xs) 2 pc = true := show (am_hd (tb_me 2)).all (fun q => !(decide (q.1 ≤ pc) && decide (pc < q.2.1))) = true from by rw [show am_hd (tb_me 2) = [] by decide +kernel]; rfl
theorem k3_0 {L : Nat} {xs : Nat → Int32} : decode (am_cd (am_me (tb_P L xs) 3)) 0 = .ok (.aload_n 0, 1) := show decode (am_cd (tb_me 3)) 0 = .ok (.aload_n 0, 1) from by decide +kernel
theorem k3_1 {L : Nat} {xs : Nat → Int32} : decode (am_cd (am_me (tb_P L xs) 3)) 1 = .ok (.invokespecial 3, 3) := show decode (am_cd (tb_me 3)) 1 = .ok (.invokespecial 3, 3) from by decide +kernel
theorem s3_1 {L : Nat} {xs : Nat → Int32} : am_sp (tb_P L xs) 3 3 = some 0 := show tb_spF 3 3 = some 0 from by decide +kernel
theorem r3_1 {L : Nat} {xs : Nat → Int32} : 1 ≤ am_rf (am_me (tb_P L xs) 3) ∧ 0 + 12 ≤ am_rl (am_me (tb_P L xs) 3) := show 1 ≤ am_rf (tb_me 3) ∧ 0 + 12 ≤ am_rl (tb_me 3) from by decide +kernel
theorem k3_4 {L : Nat} {xs : Nat → Int32} : decode (am_cd (am_me (tb_P L xs) 3)) 4 = .ok (.aload_n 0, 1) := show decode (am_cd (tb_me 3)) 4 = .ok (.aload_n 0, 1) from by decide +kernel
theorem k3_5 {L : Nat} {xs : Nat → Int32} : decode (am_cd (am_me (tb_P L xs) 3)) 5 = .ok (.bipush 6, 2) := show decode (am_cd (tb_me 3)) 5 = .ok (.bipush 6, 2) from by decide +kernel
theorem k3_7 {L : Nat} {xs : Nat → Int32} : decode (am_cd (am_me (tb_P L xs) 3)) 7 = .ok (.anewarray 9, 3) := show decode (am_cd (tb_me 3)) 7 = .ok (.anewarray 9, 3) from by decide +kernel
theorem n3_7 {L : Nat} {xs : Nat → Int32} : am_an (tb_P L xs) 3 9 = some 3 := show tb_anF 3 9 = some 3 from by decide +kernel
theorem k3_10 {L : Nat} {xs : Nat → Int32} : decode (am_cd (am_me (tb_P L xs) 3)) 10 = .ok (.putfield 11, 3) := show decode (am_cd (tb_me 3)) 10 = .ok (.putfield 11, 3) from by decide +kernel
theorem f3_10 {L : Nat} {xs : Nat → Int32} : am_fd (tb_P L xs) 3 11 = some (4, 0, (.array (.object "GluedMachines$Formula") : FieldType), true) := show tb_fdF 3 11 = some (4, 0, (.array (.object "GluedMachines$Formula") : FieldType), true) from by decide +kernel
theorem k3_13 {L : Nat} {xs : Nat → Int32} : decode (am_cd (am_me (tb_P L xs) 3)) 13 = .ok (.aload_n 0, 1) := show decode (am_cd (tb_me 3)) 13 = .ok (.aload_n 0, 1) from by decide +kernel
theorem k3_14 {L : Nat} {xs : Nat → Int32} : decode (am_cd (am_me (tb_P L xs) 3)) 14 = .ok (.bipush 6, 2) := show decode (am_cd (tb_me 3)) 14 = .ok (.bipush 6, 2) from by decide +kernel
theorem k3_16 {L : Nat} {xs : Nat → Int32} : decode (am_cd (am_me (tb_P L xs) 3)) 16 = .ok (.anewarray 9, 3) := show decode (am_cd (tb_me 3)) 16 = .ok (.anewarray 9, 3) from by decide +kernel
theorem n3_16 {L : Nat} {xs : Nat → Int32} : am_an (tb_P L xs) 3 9 = some 3 := show tb_anF 3 9 = some 3 from by decide +kernel
theorem k3_19 {L : Nat} {xs : Nat → Int32} : decode (am_cd (am_me (tb_P L xs) 3)) 19 = .ok (.putfield 17, 3) := show decode (am_cd (tb_me 3)) 19 = .ok (.putfield 17, 3) from by decide +kernel
theorem f3_19 {L : Nat} {xs : Nat → Int32} : am_fd (tb_P L xs) 3 17 = some (4, 1, (.array (.object "GluedMachines$Formula") : FieldType), true) := show tb_fdF 3 17 = some (4, 1, (.array (.object "GluedMachines$Formula") : FieldType), true) from by decide +kernel
theorem k3_22 {L : Nat} {xs : Nat → Int32} : decode (am_cd (am_me (tb_P L xs) 3)) 22 = .ok (.aload_n 0, 1) := show decode (am_cd (tb_me 3)) 22 = .ok (.aload_n 0, 1) from by decide +kernel
theorem k3_23 {L : Nat} {xs : Nat → Int32} : decode (am_cd (am_me (tb_P L xs) 3)) 23 = .ok (.iconst 0, 1) := show decode (am_cd (tb_me 3)) 23 = .ok (.iconst 0, 1) from by decide +kernel
theorem k3_24 {L : Nat} {xs : Nat → Int32} : decode (am_cd (am_me (tb_P L xs) 3)) 24 = .ok (.putfield 20, 3) := show decode (am_cd (tb_me 3)) 24 = .ok (.putfield 20, 3) from by decide +kernel
theorem f3_24 {L : Nat} {xs : Nat → Int32} : am_fd (tb_P L xs) 3 20 = some (4, 2, (.int : FieldType), true) := show tb_fdF 3 20 = some (4, 2, (.int : FieldType), true) from by decide +kernel
theorem k3_27 {L : Nat} {xs : Nat → Int32} : decode (am_cd (am_me (tb_P L xs) 3)) 27 = .ok (.aload_n 0, 1) := show decode (am_cd (tb_me 3)) 27 = .ok (.aload_n 0, 1) from by decide +kernel
theorem k3_28 {L : Nat} {xs : Nat → Int32} : decode (am_cd (am_me (tb_P L xs) 3)) 28 = .ok (.iconst 0, 1) := show decode (am_cd (tb_me 3)) 28 = .ok (.iconst 0, 1) from by decide +kernel
theorem k3_29 {L : Nat} {xs : Nat → Int32} : decode (am_cd (am_me (tb_P L xs) 3)) 29 = .ok (.putfield 24, 3) := show decode (am_cd (tb_me 3)) 29 = .ok (.putfield 24, 3) from by decide +kernel
theorem f3_29 {L : Nat} {xs : Nat → Int32} : am_fd (tb_P L xs) 3 24 = some (4, 3, (.int : FieldType), true) := show tb_fdF 3 24 = some (4, 3, (.int : FieldType), true) from by decide +kernel
theorem k3_32 {L : Nat} {xs : Nat → Int32} : decode (am_cd (am_me (tb_P L xs) 3)) 32 = .ok (.aload_n 0, 1) := show decode (am_cd (tb_me 3)) 32 = .ok (.aload_n 0, 1) from by decide +kernel
theorem k3_33 {L : Nat} {xs : Nat → Int32} : decode (am_cd (am_me (tb_P L xs) 3)) 33 = .ok (.bipush 65, 2) := show decode (am_cd (tb_me 3)) 33 = .ok (.bipush 65, 2) from by decide +kernel
theorem k3_35 {L : Nat} {xs : Nat → Int32} : decode (am_cd (am_me (tb_P L xs) 3)) 35 = .ok (.newarray .long, 2) := show decode (am_cd (tb_me 3)) 35 = .ok (.newarray .long, 2) from by decide +kernel
theorem k3_37 {L : Nat} {xs : Nat → Int32} : decode (am_cd (am_me (tb_P L xs) 3)) 37 = .ok (.putfield 27, 3) := show decode (am_cd (tb_me 3)) 37 = .ok (.putfield 27, 3) from by decide +kernel
theorem f3_37 {L : Nat} {xs : Nat → Int32} : am_fd (tb_P L xs) 3 27 = some (4, 4, (.array .long : FieldType), true) := show tb_fdF 3 27 = some (4, 4, (.array .long : FieldType), true) from by decide +kernel
theorem k3_40 {L : Nat} {xs : Nat → Int32} : decode (am_cd (am_me (tb_P L xs) 3)) 40 = .ok (.aload_n 0, 1) := show decode (am_cd (tb_me 3)) 40 = .ok (.aload_n 0, 1) from by decide +kernel
theorem k3_41 {L : Nat} {xs : Nat → Int32} : decode (am_cd (am_me (tb_P L xs) 3)) 41 = .ok (.bipush 65, 2) := show decode (am_cd (tb_me 3)) 41 = .ok (.bipush 65, 2) from by decide +kernel
theorem k3_43 {L : Nat} {xs : Nat → Int32} : decode (am_cd (am_me (tb_P L xs) 3)) 43 = .ok (.newarray .long, 2) := show decode (am_cd (tb_me 3)) 43 = .ok (.newarray .long, 2) from by decide +kernel
theorem k3_45 {L : Nat} {xs : Nat → Int32} : decode (am_cd (am_me (tb_P L xs) 3)) 45 = .ok (.putfield 31, 3) := show decode (am_cd (tb_me 3)) 45 = .ok (.putfield 31, 3) from by decide +kernel
theorem f3_45 {L : Nat} {xs : Nat → Int32} : am_fd (tb_P L xs) 3 31 = some (4, 5, (.array .long : FieldType), true) := show tb_fdF 3 31 = some (4, 5, (.array .long : FieldType), true) from by decide +kernel
theorem k3_48 {L : Nat} {xs : Nat → Int32} : decode (am_cd (am_me (tb_P L xs) 3)) 48 = .ok (.return_, 1) := show decode (am_cd (tb_me 3)) 48 = .ok (.return_, 1) from by decide +kernel
theorem t3 {L : Nat} {xs : Nat → Int32} : am_rt (am_me (tb_P L xs) 3) = none := show am_rt (tb_me 3) = none from by decide +kernel
theorem l3 {L : Nat} {xs : Nat → Int32} : am_ml (am_me (tb_P L xs) 3) = 1 := show am_ml (tb_me 3) = 1 from by decide +kernel
theorem o3 {L : Nat} {xs : Nat → Int32} (pc : Nat) : am_no (tb_P L xs) 3 pc = true := show (am_hd (tb_me 3)).all (fun q => !(decide (q.1 ≤ pc) && decide (pc < q.2.1))) = true from by rw [show am_hd (tb_me 3) = [] by decide +kernel]; rfl
theorem k4_0 {L : Nat} {xs : Nat → Int32} : decode (am_cd (am_me (tb_P L xs) 4)) 0 = .ok (.iconst 0, 1) := show decode (am_cd (tb_me 4)) 0 = .ok (.iconst 0, 1) from by decide +kernel
theorem k4_1 {L : Nat} {xs : Nat → Int32} : decode (am_cd (am_me (tb_P L xs) 4)) 1 = .ok (.istore_n 2, 1) := show decode (am_cd (tb_me 4)) 1 = .ok (.istore_n 2, 1) from by decide +kernel
theorem k4_2 {L : Nat} {xs : Nat → Int32} : decode (am_cd (am_me (tb_P L xs) 4)) 2 = .ok (.aload_n 0, 1) := show decode (am_cd (tb_me 4)) 2 = .ok (.aload_n 0, 1) from by decide +kernel
theorem k4_3 {L : Nat} {xs : Nat → Int32} : decode (am_cd (am_me (tb_P L xs) 4)) 3 = .ok (.arraylength, 1) := show decode (am_cd (tb_me 4)) 3 = .ok (.arraylength, 1) from by decide +kernel
theorem k4_4 {L : Nat} {xs : Nat → Int32} : decode (am_cd (am_me (tb_P L xs) 4)) 4 = .ok (.istore_n 3, 1) := show decode (am_cd (tb_me 4)) 4 = .ok (.istore_n 3, 1) from by decide +kernel
theorem k4_5 {L : Nat} {xs : Nat → Int32} : decode (am_cd (am_me (tb_P L xs) 4)) 5 = .ok (.iload_n 2, 1) := show decode (am_cd (tb_me 4)) 5 = .ok (.iload_n 2, 1) from by decide +kernel
theorem k4_6 {L : Nat} {xs : Nat → Int32} : decode (am_cd (am_me (tb_P L xs) 4)) 6 = .ok (.iload_n 3, 1) := show decode (am_cd (tb_me 4)) 6 = .ok (.iload_n 3, 1) from by decide +kernel
theorem k4_7 {L : Nat} {xs : Nat → Int32} : decode (am_cd (am_me (tb_P L xs) 4)) 7 = .ok (.if_icmp .ge 13, 3) := show decode (am_cd (tb_me 4)) 7 = .ok (.if_icmp .ge 13, 3) from by decide +kernel
theorem k4_10 {L : Nat} {xs : Nat → Int32} : decode (am_cd (am_me (tb_P L xs) 4)) 10 = .ok (.aload_n 0, 1) := show decode (am_cd (tb_me 4)) 10 = .ok (.aload_n 0, 1) from by decide +kernel
theorem k4_11 {L : Nat} {xs : Nat → Int32} : decode (am_cd (am_me (tb_P L xs) 4)) 11 = .ok (.iload_n 2, 1) := show decode (am_cd (tb_me 4)) 11 = .ok (.iload_n 2, 1) from by decide +kernel
theorem k4_12 {L : Nat} {xs : Nat → Int32} : decode (am_cd (am_me (tb_P L xs) 4)) 12 = .ok (.iload_n 1, 1) := show decode (am_cd (tb_me 4)) 12 = .ok (.iload_n 1, 1) from by decide +kernel
theorem k4_13 {L : Nat} {xs : Nat → Int32} : decode (am_cd (am_me (tb_P L xs) 4)) 13 = .ok (.iastore, 1) := show decode (am_cd (tb_me 4)) 13 = .ok (.iastore, 1) from by decide +kernel
theorem k4_14 {L : Nat} {xs : Nat → Int32} : decode (am_cd (am_me (tb_P L xs) 4)) 14 = .ok (.iinc 2 1, 3) := show decode (am_cd (tb_me 4)) 14 = .ok (.iinc 2 1, 3) from by decide +kernel
theorem k4_17 {L : Nat} {xs : Nat → Int32} : decode (am_cd (am_me (tb_P L xs) 4)) 17 = .ok (.goto (-12), 3) := show decode (am_cd (tb_me 4)) 17 = .ok (.goto (-12), 3) from by decide +kernel
theorem k4_20 {L : Nat} {xs : Nat → Int32} : decode (am_cd (am_me (tb_P L xs) 4)) 20 = .ok (.return_, 1) := show decode (am_cd (tb_me 4)) 20 = .ok (.return_, 1) from by decide +kernel
theorem t4 {L : Nat} {xs : Nat → Int32} : am_rt (am_me (tb_P L xs) 4) = none := show am_rt (tb_me 4) = none from by decide +kernel
theorem l4 {L : Nat} {xs : Nat → Int32} : am_ml (am_me (tb_P L xs) 4) = 4 := show am_ml (tb_me 4) = 4 from by decide +kernel
theorem o4 {L : Nat} {xs : Nat → Int32} (pc : Nat) : am_no (tb_P L xs) 4 pc = true := show (am_hd (tb_me 4)).all (fun q => !(decide (q.1 ≤ pc) && decide (pc < q.2.1))) = true from by rw [show am_hd (tb_me 4) = [] by decide +kernel]; rfl
theorem k5_0 {L : Nat} {xs : Nat → Int32} : decode (am_cd (am_me (tb_P L xs) 5)) 0 = .ok (.aload_n 0, 1) := show decode (am_cd (tb_me 5)) 0 = .ok (.aload_n 0, 1) from by decide +kernel
theorem k5_1 {L : Nat} {xs : Nat → Int32} : decode (am_cd (am_me (tb_P L xs) 5)) 1 = .ok (.invokespecial 3, 3) := show decode (am_cd (tb_me 5)) 1 = .ok (.invokespecial 3, 3) from by decide +kernel
theorem s5_1 {L : Nat} {xs : Nat → Int32} : am_sp (tb_P L xs) 5 3 = some 0 := show tb_spF 5 3 = some 0 from by decide +kernel
theorem r5_1 {L : Nat} {xs : Nat → Int32} : 1 ≤ am_rf (am_me (tb_P L xs) 5) ∧ 0 + 12 ≤ am_rl (am_me (tb_P L xs) 5) := show 1 ≤ am_rf (tb_me 5) ∧ 0 + 12 ≤ am_rl (tb_me 5) from by decide +kernel
theorem k5_4 {L : Nat} {xs : Nat → Int32} : decode (am_cd (am_me (tb_P L xs) 5)) 4 = .ok (.aload_n 0, 1) := show decode (am_cd (tb_me 5)) 4 = .ok (.aload_n 0, 1) from by decide +kernel
theorem k5_5 {L : Nat} {xs : Nat → Int32} : decode (am_cd (am_me (tb_P L xs) 5)) 5 = .ok (.bipush 7, 2) := show decode (am_cd (tb_me 5)) 5 = .ok (.bipush 7, 2) from by decide +kernel
theorem k5_7 {L : Nat} {xs : Nat → Int32} : decode (am_cd (am_me (tb_P L xs) 5)) 7 = .ok (.newarray .int, 2) := show decode (am_cd (tb_me 5)) 7 = .ok (.newarray .int, 2) from by decide +kernel
theorem k5_9 {L : Nat} {xs : Nat → Int32} : decode (am_cd (am_me (tb_P L xs) 5)) 9 = .ok (.putfield 9, 3) := show decode (am_cd (tb_me 5)) 9 = .ok (.putfield 9, 3) from by decide +kernel
theorem f5_9 {L : Nat} {xs : Nat → Int32} : am_fd (tb_P L xs) 5 9 = some (6, 1, (.array .int : FieldType), true) := show tb_fdF 5 9 = some (6, 1, (.array .int : FieldType), true) from by decide +kernel
theorem k5_12 {L : Nat} {xs : Nat → Int32} : decode (am_cd (am_me (tb_P L xs) 5)) 12 = .ok (.aload_n 0, 1) := show decode (am_cd (tb_me 5)) 12 = .ok (.aload_n 0, 1) from by decide +kernel
theorem k5_13 {L : Nat} {xs : Nat → Int32} : decode (am_cd (am_me (tb_P L xs) 5)) 13 = .ok (.bipush 7, 2) := show decode (am_cd (tb_me 5)) 13 = .ok (.bipush 7, 2) from by decide +kernel
theorem k5_15 {L : Nat} {xs : Nat → Int32} : decode (am_cd (am_me (tb_P L xs) 5)) 15 = .ok (.newarray .int, 2) := show decode (am_cd (tb_me 5)) 15 = .ok (.newarray .int, 2) from by decide +kernel
theorem k5_17 {L : Nat} {xs : Nat → Int32} : decode (am_cd (am_me (tb_P L xs) 5)) 17 = .ok (.putfield 15, 3) := show decode (am_cd (tb_me 5)) 17 = .ok (.putfield 15, 3) from by decide +kernel
theorem f5_17 {L : Nat} {xs : Nat → Int32} : am_fd (tb_P L xs) 5 15 = some (6, 2, (.array .int : FieldType), true) := show tb_fdF 5 15 = some (6, 2, (.array .int : FieldType), true) from by decide +kernel
theorem k5_20 {L : Nat} {xs : Nat → Int32} : decode (am_cd (am_me (tb_P L xs) 5)) 20 = .ok (.aload_n 0, 1) := show decode (am_cd (tb_me 5)) 20 = .ok (.aload_n 0, 1) from by decide +kernel
theorem k5_21 {L : Nat} {xs : Nat → Int32} : decode (am_cd (am_me (tb_P L xs) 5)) 21 = .ok (.iconst 0, 1) := show decode (am_cd (tb_me 5)) 21 = .ok (.iconst 0, 1) from by decide +kernel
theorem k5_22 {L : Nat} {xs : Nat → Int32} : decode (am_cd (am_me (tb_P L xs) 5)) 22 = .ok (.putfield 18, 3) := show decode (am_cd (tb_me 5)) 22 = .ok (.putfield 18, 3) from by decide +kernel
theorem f5_22 {L : Nat} {xs : Nat → Int32} : am_fd (tb_P L xs) 5 18 = some (6, 3, (.int : FieldType), true) := show tb_fdF 5 18 = some (6, 3, (.int : FieldType), true) from by decide +kernel
theorem k5_25 {L : Nat} {xs : Nat → Int32} : decode (am_cd (am_me (tb_P L xs) 5)) 25 = .ok (.aload_n 0, 1) := show decode (am_cd (tb_me 5)) 25 = .ok (.aload_n 0, 1) from by decide +kernel
theorem k5_26 {L : Nat} {xs : Nat → Int32} : decode (am_cd (am_me (tb_P L xs) 5)) 26 = .ok (.aload_n 1, 1) := show decode (am_cd (tb_me 5)) 26 = .ok (.aload_n 1, 1) from by decide +kernel
theorem k5_27 {L : Nat} {xs : Nat → Int32} : decode (am_cd (am_me (tb_P L xs) 5)) 27 = .ok (.putfield 22, 3) := show decode (am_cd (tb_me 5)) 27 = .ok (.putfield 22, 3) from by decide +kernel
theorem f5_27 {L : Nat} {xs : Nat → Int32} : am_fd (tb_P L xs) 5 22 = some (6, 0, (.object "GluedMachines$Model" : FieldType), true) := show tb_fdF 5 22 = some (6, 0, (.object "GluedMachines$Model" : FieldType), true) from by decide +kernel
theorem k5_30 {L : Nat} {xs : Nat → Int32} : decode (am_cd (am_me (tb_P L xs) 5)) 30 = .ok (.return_, 1) := show decode (am_cd (tb_me 5)) 30 = .ok (.return_, 1) from by decide +kernel
theorem t5 {L : Nat} {xs : Nat → Int32} : am_rt (am_me (tb_P L xs) 5) = none := show am_rt (tb_me 5) = none from by decide +kernel
theorem l5 {L : Nat} {xs : Nat → Int32} : am_ml (am_me (tb_P L xs) 5) = 2 := show am_ml (tb_me 5) = 2 from by decide +kernel
theorem o5 {L : Nat} {xs : Nat → Int32} (pc : Nat) : am_no (tb_P L xs) 5 pc = true := show (am_hd (tb_me 5)).all (fun q => !(decide (q.1 ≤ pc) && decide (pc < q.2.1))) = true from by rw [show am_hd (tb_me 5) = [] by decide +kernel]; rfl
theorem k6_0 {L : Nat} {xs : Nat → Int32} : decode (am_cd (am_me (tb_P L xs) 6)) 0 = .ok (.aload_n 0, 1) := show decode (am_cd (tb_me 6)) 0 = .ok (.aload_n 0, 1) from by decide +kernel
theorem k6_1 {L : Nat} {xs : Nat → Int32} : decode (am_cd (am_me (tb_P L xs) 6)) 1 = .ok (.invokespecial 3, 3) := show decode (am_cd (tb_me 6)) 1 = .ok (.invokespecial 3, 3) from by decide +kernel
theorem s6_1 {L : Nat} {xs : Nat → Int32} : am_sp (tb_P L xs) 6 3 = some 0 := show tb_spF 6 3 = some 0 from by decide +kernel
theorem r6_1 {L : Nat} {xs : Nat → Int32} : 1 ≤ am_rf (am_me (tb_P L xs) 6) ∧ 0 + 12 ≤ am_rl (am_me (tb_P L xs) 6) := show 1 ≤ am_rf (tb_me 6) ∧ 0 + 12 ≤ am_rl (tb_me 6) from by decide +kernel
theorem k6_4 {L : Nat} {xs : Nat → Int32} : decode (am_cd (am_me (tb_P L xs) 6)) 4 = .ok (.aload_n 0, 1) := show decode (am_cd (tb_me 6)) 4 = .ok (.aload_n 0, 1) from by decide +kernel
theorem k6_5 {L : Nat} {xs : Nat → Int32} : decode (am_cd (am_me (tb_P L xs) 6)) 5 = .ok (.bipush 7, 2) := show decode (am_cd (tb_me 6)) 5 = .ok (.bipush 7, 2) from by decide +kernel
theorem k6_7 {L : Nat} {xs : Nat → Int32} : decode (am_cd (am_me (tb_P L xs) 6)) 7 = .ok (.newarray .int, 2) := show decode (am_cd (tb_me 6)) 7 = .ok (.newarray .int, 2) from by decide +kernel
theorem k6_9 {L : Nat} {xs : Nat → Int32} : decode (am_cd (am_me (tb_P L xs) 6)) 9 = .ok (.putfield 9, 3) := show decode (am_cd (tb_me 6)) 9 = .ok (.putfield 9, 3) from by decide +kernel
theorem f6_9 {L : Nat} {xs : Nat → Int32} : am_fd (tb_P L xs) 6 9 = some (7, 1, (.array .int : FieldType), true) := show tb_fdF 6 9 = some (7, 1, (.array .int : FieldType), true) from by decide +kernel
theorem k6_12 {L : Nat} {xs : Nat → Int32} : decode (am_cd (am_me (tb_P L xs) 6)) 12 = .ok (.aload_n 0, 1) := show decode (am_cd (tb_me 6)) 12 = .ok (.aload_n 0, 1) from by decide +kernel
theorem k6_13 {L : Nat} {xs : Nat → Int32} : decode (am_cd (am_me (tb_P L xs) 6)) 13 = .ok (.sipush 360, 3) := show decode (am_cd (tb_me 6)) 13 = .ok (.sipush 360, 3) from by decide +kernel
theorem k6_16 {L : Nat} {xs : Nat → Int32} : decode (am_cd (am_me (tb_P L xs) 6)) 16 = .ok (.newarray .int, 2) := show decode (am_cd (tb_me 6)) 16 = .ok (.newarray .int, 2) from by decide +kernel
theorem k6_18 {L : Nat} {xs : Nat → Int32} : decode (am_cd (am_me (tb_P L xs) 6)) 18 = .ok (.putfield 15, 3) := show decode (am_cd (tb_me 6)) 18 = .ok (.putfield 15, 3) from by decide +kernel
theorem f6_18 {L : Nat} {xs : Nat → Int32} : am_fd (tb_P L xs) 6 15 = some (7, 2, (.array .int : FieldType), true) := show tb_fdF 6 15 = some (7, 2, (.array .int : FieldType), true) from by decide +kernel
theorem k6_21 {L : Nat} {xs : Nat → Int32} : decode (am_cd (am_me (tb_P L xs) 6)) 21 = .ok (.aload_n 0, 1) := show decode (am_cd (tb_me 6)) 21 = .ok (.aload_n 0, 1) from by decide +kernel
theorem k6_22 {L : Nat} {xs : Nat → Int32} : decode (am_cd (am_me (tb_P L xs) 6)) 22 = .ok (.iconst 0, 1) := show decode (am_cd (tb_me 6)) 22 = .ok (.iconst 0, 1) from by decide +kernel
theorem k6_23 {L : Nat} {xs : Nat → Int32} : decode (am_cd (am_me (tb_P L xs) 6)) 23 = .ok (.putfield 18, 3) := show decode (am_cd (tb_me 6)) 23 = .ok (.putfield 18, 3) from by decide +kernel
theorem f6_23 {L : Nat} {xs : Nat → Int32} : am_fd (tb_P L xs) 6 18 = some (7, 3, (.int : FieldType), true) := show tb_fdF 6 18 = some (7, 3, (.int : FieldType), true) from by decide +kernel
theorem k6_26 {L : Nat} {xs : Nat → Int32} : decode (am_cd (am_me (tb_P L xs) 6)) 26 = .ok (.aload_n 0, 1) := show decode (am_cd (tb_me 6)) 26 = .ok (.aload_n 0, 1) from by decide +kernel
theorem k6_27 {L : Nat} {xs : Nat → Int32} : decode (am_cd (am_me (tb_P L xs) 6)) 27 = .ok (.iconst 0, 1) := show decode (am_cd (tb_me 6)) 27 = .ok (.iconst 0, 1) from by decide +kernel
theorem k6_28 {L : Nat} {xs : Nat → Int32} : decode (am_cd (am_me (tb_P L xs) 6)) 28 = .ok (.putfield 22, 3) := show decode (am_cd (tb_me 6)) 28 = .ok (.putfield 22, 3) from by decide +kernel
theorem f6_28 {L : Nat} {xs : Nat → Int32} : am_fd (tb_P L xs) 6 22 = some (7, 4, (.boolean : FieldType), true) := show tb_fdF 6 22 = some (7, 4, (.boolean : FieldType), true) from by decide +kernel
theorem k6_31 {L : Nat} {xs : Nat → Int32} : decode (am_cd (am_me (tb_P L xs) 6)) 31 = .ok (.aload_n 0, 1) := show decode (am_cd (tb_me 6)) 31 = .ok (.aload_n 0, 1) from by decide +kernel
theorem k6_32 {L : Nat} {xs : Nat → Int32} : decode (am_cd (am_me (tb_P L xs) 6)) 32 = .ok (.iconst 0, 1) := show decode (am_cd (tb_me 6)) 32 = .ok (.iconst 0, 1) from by decide +kernel
theorem k6_33 {L : Nat} {xs : Nat → Int32} : decode (am_cd (am_me (tb_P L xs) 6)) 33 = .ok (.putfield 26, 3) := show decode (am_cd (tb_me 6)) 33 = .ok (.putfield 26, 3) from by decide +kernel
theorem f6_33 {L : Nat} {xs : Nat → Int32} : am_fd (tb_P L xs) 6 26 = some (7, 5, (.boolean : FieldType), true) := show tb_fdF 6 26 = some (7, 5, (.boolean : FieldType), true) from by decide +kernel
theorem k6_36 {L : Nat} {xs : Nat → Int32} : decode (am_cd (am_me (tb_P L xs) 6)) 36 = .ok (.aload_n 0, 1) := show decode (am_cd (tb_me 6)) 36 = .ok (.aload_n 0, 1) from by decide +kernel
theorem k6_37 {L : Nat} {xs : Nat → Int32} : decode (am_cd (am_me (tb_P L xs) 6)) 37 = .ok (.aload_n 1, 1) := show decode (am_cd (tb_me 6)) 37 = .ok (.aload_n 1, 1) from by decide +kernel
theorem k6_38 {L : Nat} {xs : Nat → Int32} : decode (am_cd (am_me (tb_P L xs) 6)) 38 = .ok (.putfield 29, 3) := show decode (am_cd (tb_me 6)) 38 = .ok (.putfield 29, 3) from by decide +kernel
theorem f6_38 {L : Nat} {xs : Nat → Int32} : am_fd (tb_P L xs) 6 29 = some (7, 0, (.object "GluedMachines$Model" : FieldType), true) := show tb_fdF 6 29 = some (7, 0, (.object "GluedMachines$Model" : FieldType), true) from by decide +kernel
theorem k6_41 {L : Nat} {xs : Nat → Int32} : decode (am_cd (am_me (tb_P L xs) 6)) 41 = .ok (.return_, 1) := show decode (am_cd (tb_me 6)) 41 = .ok (.return_, 1) from by decide +kernel
theorem t6 {L : Nat} {xs : Nat → Int32} : am_rt (am_me (tb_P L xs) 6) = none := show am_rt (tb_me 6) = none from by decide +kernel
theorem l6 {L : Nat} {xs : Nat → Int32} : am_ml (am_me (tb_P L xs) 6) = 2 := show am_ml (tb_me 6) = 2 from by decide +kernel
theorem o6 {L : Nat} {xs : Nat → Int32} (pc : Nat) : am_no (tb_P L xs) 6 pc = true := show (am_hd (tb_me 6)).all (fun q => !(decide (q.1 ≤ pc) && decide (pc < q.2.1))) = true from by rw [show am_hd (tb_me 6) = [] by decide +kernel]; rfl
theorem k7_0 {L : Nat} {xs : Nat → Int32} : decode (am_cd (am_me (tb_P L xs) 7)) 0 = .ok (.aload_n 0, 1) := show decode (am_cd (tb_me 7)) 0 = .ok (.aload_n 0, 1) from by decide +kernel
theorem k7_1 {L : Nat} {xs : Nat → Int32} : decode (am_cd (am_me (tb_P L xs) 7)) 1 = .ok (.getfield 46, 3) := show decode (am_cd (tb_me 7)) 1 = .ok (.getfield 46, 3) from by decide +kernel
theorem f7_1 {L : Nat} {xs : Nat → Int32} : am_fd (tb_P L xs) 7 46 = some (0, 4, (.object "GluedMachines$Duties" : FieldType), false) := show tb_fdF 7 46 = some (0, 4, (.object "GluedMachines$Duties" : FieldType), false) from by decide +kernel
theorem k7_4 {L : Nat} {xs : Nat → Int32} : decode (am_cd (am_me (tb_P L xs) 7)) 4 = .ok (.invokevirtual 184, 3) := show decode (am_cd (tb_me 7)) 4 = .ok (.invokevirtual 184, 3) from by decide +kernel
theorem s7_4 {L : Nat} {xs : Nat → Int32} : am_sp (tb_P L xs) 7 184 = none := show tb_spF 7 184 = none from by decide +kernel
theorem c7_4 {L : Nat} {xs : Nat → Int32} : am_ca (tb_P L xs) 7 184 = some (8, 0, 1) := show tb_caF 7 184 = some (8, 0, 1) from by decide +kernel
theorem r7_4 {L : Nat} {xs : Nat → Int32} : am_rf (am_me (tb_P L xs) 8) + 1 ≤ am_rf (am_me (tb_P L xs) 7) ∧ 0 + (am_ml (am_me (tb_P L xs) 8) + 11) + am_rl (am_me (tb_P L xs) 8) ≤ am_rl (am_me (tb_P L xs) 7) := show am_rf (tb_me 8) + 1 ≤ am_rf (tb_me 7) ∧ 0 + (am_ml (tb_me 8) + 11) + am_rl (tb_me 8) ≤ am_rl (tb_me 7) from by decide +kernel
theorem k7_7 {L : Nat} {xs : Nat → Int32} : decode (am_cd (am_me (tb_P L xs) 7)) 7 = .ok (.ifCond .eq 7, 3) := show decode (am_cd (tb_me 7)) 7 = .ok (.ifCond .eq 7, 3) from by decide +kernel
theorem k7_10 {L : Nat} {xs : Nat → Int32} : decode (am_cd (am_me (tb_P L xs) 7)) 10 = .ok (.iconst 0, 1) := show decode (am_cd (tb_me 7)) 10 = .ok (.iconst 0, 1) from by decide +kernel
theorem k7_11 {L : Nat} {xs : Nat → Int32} : decode (am_cd (am_me (tb_P L xs) 7)) 11 = .ok (.goto 4, 3) := show decode (am_cd (tb_me 7)) 11 = .ok (.goto 4, 3) from by decide +kernel
theorem k7_14 {L : Nat} {xs : Nat → Int32} : decode (am_cd (am_me (tb_P L xs) 7)) 14 = .ok (.iconst 1, 1) := show decode (am_cd (tb_me 7)) 14 = .ok (.iconst 1, 1) from by decide +kernel
theorem k7_15 {L : Nat} {xs : Nat → Int32} : decode (am_cd (am_me (tb_P L xs) 7)) 15 = .ok (.istore_n 1, 1) := show decode (am_cd (tb_me 7)) 15 = .ok (.istore_n 1, 1) from by decide +kernel
theorem k7_16 {L : Nat} {xs : Nat → Int32} : decode (am_cd (am_me (tb_P L xs) 7)) 16 = .ok (.iconst 0, 1) := show decode (am_cd (tb_me 7)) 16 = .ok (.iconst 0, 1) from by decide +kernel
theorem k7_17 {L : Nat} {xs : Nat → Int32} : decode (am_cd (am_me (tb_P L xs) 7)) 17 = .ok (.istore_n 2, 1) := show decode (am_cd (tb_me 7)) 17 = .ok (.istore_n 2, 1) from by decide +kernel
theorem k7_18 {L : Nat} {xs : Nat → Int32} : decode (am_cd (am_me (tb_P L xs) 7)) 18 = .ok (.iload_n 2, 1) := show decode (am_cd (tb_me 7)) 18 = .ok (.iload_n 2, 1) from by decide +kernel
theorem k7_19 {L : Nat} {xs : Nat → Int32} : decode (am_cd (am_me (tb_P L xs) 7)) 19 = .ok (.aload_n 0, 1) := show decode (am_cd (tb_me 7)) 19 = .ok (.aload_n 0, 1) from by decide +kernel
theorem k7_20 {L : Nat} {xs : Nat → Int32} : decode (am_cd (am_me (tb_P L xs) 7)) 20 = .ok (.getfield 37, 3) := show decode (am_cd (tb_me 7)) 20 = .ok (.getfield 37, 3) from by decide +kernel
theorem f7_20 {L : Nat} {xs : Nat → Int32} : am_fd (tb_P L xs) 7 37 = some (0, 3, (.object "GluedMachines$Model" : FieldType), false) := show tb_fdF 7 37 = some (0, 3, (.object "GluedMachines$Model" : FieldType), false) from by decide +kernel
theorem k7_23 {L : Nat} {xs : Nat → Int32} : decode (am_cd (am_me (tb_P L xs) 7)) 23 = .ok (.getfield 108, 3) := show decode (am_cd (tb_me 7)) 23 = .ok (.getfield 108, 3) from by decide +kernel
theorem f7_23 {L : Nat} {xs : Nat → Int32} : am_fd (tb_P L xs) 7 108 = some (5, 3, (.int : FieldType), true) := show tb_fdF 7 108 = some (5, 3, (.int : FieldType), true) from by decide +kernel
theorem k7_26 {L : Nat} {xs : Nat → Int32} : decode (am_cd (am_me (tb_P L xs) 7)) 26 = .ok (.if_icmp .ge 54, 3) := show decode (am_cd (tb_me 7)) 26 = .ok (.if_icmp .ge 54, 3) from by decide +kernel
theorem k7_29 {L : Nat} {xs : Nat → Int32} : decode (am_cd (am_me (tb_P L xs) 7)) 29 = .ok (.aload_n 0, 1) := show decode (am_cd (tb_me 7)) 29 = .ok (.aload_n 0, 1) from by decide +kernel
theorem k7_30 {L : Nat} {xs : Nat → Int32} : decode (am_cd (am_me (tb_P L xs) 7)) 30 = .ok (.getfield 37, 3) := show decode (am_cd (tb_me 7)) 30 = .ok (.getfield 37, 3) from by decide +kernel
theorem f7_30 {L : Nat} {xs : Nat → Int32} : am_fd (tb_P L xs) 7 37 = some (0, 3, (.object "GluedMachines$Model" : FieldType), false) := show tb_fdF 7 37 = some (0, 3, (.object "GluedMachines$Model" : FieldType), false) from by decide +kernel
theorem k7_33 {L : Nat} {xs : Nat → Int32} : decode (am_cd (am_me (tb_P L xs) 7)) 33 = .ok (.getfield 203, 3) := show decode (am_cd (tb_me 7)) 33 = .ok (.getfield 203, 3) from by decide +kernel
theorem f7_33 {L : Nat} {xs : Nat → Int32} : am_fd (tb_P L xs) 7 203 = some (5, 2, (.array (.object "GluedMachines$Event") : FieldType), false) := show tb_fdF 7 203 = some (5, 2, (.array (.object "GluedMachines$Event") : FieldType), false) from by decide +kernel
theorem k7_36 {L : Nat} {xs : Nat → Int32} : decode (am_cd (am_me (tb_P L xs) 7)) 36 = .ok (.iload_n 2, 1) := show decode (am_cd (tb_me 7)) 36 = .ok (.iload_n 2, 1) from by decide +kernel
theorem k7_37 {L : Nat} {xs : Nat → Int32} : decode (am_cd (am_me (tb_P L xs) 7)) 37 = .ok (.aaload, 1) := show decode (am_cd (tb_me 7)) 37 = .ok (.aaload, 1) from by decide +kernel
theorem k7_38 {L : Nat} {xs : Nat → Int32} : decode (am_cd (am_me (tb_P L xs) 7)) 38 = .ok (.invokevirtual 207, 3) := show decode (am_cd (tb_me 7)) 38 = .ok (.invokevirtual 207, 3) from by decide +kernel
theorem s7_38 {L : Nat} {xs : Nat → Int32} : am_sp (tb_P L xs) 7 207 = none := show tb_spF 7 207 = none from by decide +kernel
theorem c7_38 {L : Nat} {xs : Nat → Int32} : am_ca (tb_P L xs) 7 207 = some (16, 0, 1) := show tb_caF 7 207 = some (16, 0, 1) from by decide +kernel
theorem r7_38 {L : Nat} {xs : Nat → Int32} : am_rf (am_me (tb_P L xs) 16) + 1 ≤ am_rf (am_me (tb_P L xs) 7) ∧ 0 + (am_ml (am_me (tb_P L xs) 16) + 11) + am_rl (am_me (tb_P L xs) 16) ≤ am_rl (am_me (tb_P L xs) 7) := show am_rf (tb_me 16) + 1 ≤ am_rf (tb_me 7) ∧ 0 + (am_ml (tb_me 16) + 11) + am_rl (tb_me 16) ≤ am_rl (tb_me 7) from by decide +kernel
theorem k7_41 {L : Nat} {xs : Nat → Int32} : decode (am_cd (am_me (tb_P L xs) 7)) 41 = .ok (.istore_n 3, 1) := show decode (am_cd (tb_me 7)) 41 = .ok (.istore_n 3, 1) from by decide +kernel
theorem k7_42 {L : Nat} {xs : Nat → Int32} : decode (am_cd (am_me (tb_P L xs) 7)) 42 = .ok (.aload_n 0, 1) := show decode (am_cd (tb_me 7)) 42 = .ok (.aload_n 0, 1) from by decide +kernel
theorem k7_43 {L : Nat} {xs : Nat → Int32} : decode (am_cd (am_me (tb_P L xs) 7)) 43 = .ok (.getfield 46, 3) := show decode (am_cd (tb_me 7)) 43 = .ok (.getfield 46, 3) from by decide +kernel
theorem f7_43 {L : Nat} {xs : Nat → Int32} : am_fd (tb_P L xs) 7 46 = some (0, 4, (.object "GluedMachines$Duties" : FieldType), false) := show tb_fdF 7 46 = some (0, 4, (.object "GluedMachines$Duties" : FieldType), false) from by decide +kernel
theorem k7_46 {L : Nat} {xs : Nat → Int32} : decode (am_cd (am_me (tb_P L xs) 7)) 46 = .ok (.aload_n 0, 1) := show decode (am_cd (tb_me 7)) 46 = .ok (.aload_n 0, 1) from by decide +kernel
theorem k7_47 {L : Nat} {xs : Nat → Int32} : decode (am_cd (am_me (tb_P L xs) 7)) 47 = .ok (.getfield 37, 3) := show decode (am_cd (tb_me 7)) 47 = .ok (.getfield 37, 3) from by decide +kernel
theorem f7_47 {L : Nat} {xs : Nat → Int32} : am_fd (tb_P L xs) 7 37 = some (0, 3, (.object "GluedMachines$Model" : FieldType), false) := show tb_fdF 7 37 = some (0, 3, (.object "GluedMachines$Model" : FieldType), false) from by decide +kernel
theorem k7_50 {L : Nat} {xs : Nat → Int32} : decode (am_cd (am_me (tb_P L xs) 7)) 50 = .ok (.getfield 203, 3) := show decode (am_cd (tb_me 7)) 50 = .ok (.getfield 203, 3) from by decide +kernel
theorem f7_50 {L : Nat} {xs : Nat → Int32} : am_fd (tb_P L xs) 7 203 = some (5, 2, (.array (.object "GluedMachines$Event") : FieldType), false) := show tb_fdF 7 203 = some (5, 2, (.array (.object "GluedMachines$Event") : FieldType), false) from by decide +kernel
theorem k7_53 {L : Nat} {xs : Nat → Int32} : decode (am_cd (am_me (tb_P L xs) 7)) 53 = .ok (.iload_n 2, 1) := show decode (am_cd (tb_me 7)) 53 = .ok (.iload_n 2, 1) from by decide +kernel
theorem k7_54 {L : Nat} {xs : Nat → Int32} : decode (am_cd (am_me (tb_P L xs) 7)) 54 = .ok (.aaload, 1) := show decode (am_cd (tb_me 7)) 54 = .ok (.aaload, 1) from by decide +kernel
theorem k7_55 {L : Nat} {xs : Nat → Int32} : decode (am_cd (am_me (tb_P L xs) 7)) 55 = .ok (.iload_n 3, 1) := show decode (am_cd (tb_me 7)) 55 = .ok (.iload_n 3, 1) from by decide +kernel
theorem k7_56 {L : Nat} {xs : Nat → Int32} : decode (am_cd (am_me (tb_P L xs) 7)) 56 = .ok (.invokevirtual 190, 3) := show decode (am_cd (tb_me 7)) 56 = .ok (.invokevirtual 190, 3) from by decide +kernel
theorem s7_56 {L : Nat} {xs : Nat → Int32} : am_sp (tb_P L xs) 7 190 = none := show tb_spF 7 190 = none from by decide +kernel
theorem c7_56 {L : Nat} {xs : Nat → Int32} : am_ca (tb_P L xs) 7 190 = some (17, 2, 1) := show tb_caF 7 190 = some (17, 2, 1) from by decide +kernel
theorem r7_56 {L : Nat} {xs : Nat → Int32} : am_rf (am_me (tb_P L xs) 17) + 1 ≤ am_rf (am_me (tb_P L xs) 7) ∧ 0 + (am_ml (am_me (tb_P L xs) 17) + 11) + am_rl (am_me (tb_P L xs) 17) ≤ am_rl (am_me (tb_P L xs) 7) := show am_rf (tb_me 17) + 1 ≤ am_rf (tb_me 7) ∧ 0 + (am_ml (tb_me 17) + 11) + am_rl (tb_me 17) ≤ am_rl (tb_me 7) from by decide +kernel
theorem k7_59 {L : Nat} {xs : Nat → Int32} : decode (am_cd (am_me (tb_P L xs) 7)) 59 = .ok (.istore 4, 2) := show decode (am_cd (tb_me 7)) 59 = .ok (.istore 4, 2) from by decide +kernel
theorem k7_61 {L : Nat} {xs : Nat → Int32} : decode (am_cd (am_me (tb_P L xs) 7)) 61 = .ok (.iload_n 1, 1) := show decode (am_cd (tb_me 7)) 61 = .ok (.iload_n 1, 1) from by decide +kernel
theorem k7_62 {L : Nat} {xs : Nat → Int32} : decode (am_cd (am_me (tb_P L xs) 7)) 62 = .ok (.iload_n 3, 1) := show decode (am_cd (tb_me 7)) 62 = .ok (.iload_n 3, 1) from by decide +kernel
theorem k7_63 {L : Nat} {xs : Nat → Int32} : decode (am_cd (am_me (tb_P L xs) 7)) 63 = .ok (.invokestatic 211, 3) := show decode (am_cd (tb_me 7)) 63 = .ok (.invokestatic 211, 3) from by decide +kernel
theorem s7_63 {L : Nat} {xs : Nat → Int32} : am_sp (tb_P L xs) 7 211 = none := show tb_spF 7 211 = none from by decide +kernel
theorem c7_63 {L : Nat} {xs : Nat → Int32} : am_ca (tb_P L xs) 7 211 = some (32, 1, 0) := show tb_caF 7 211 = some (32, 1, 0) from by decide +kernel
theorem r7_63 {L : Nat} {xs : Nat → Int32} : am_rf (am_me (tb_P L xs) 32) + 1 ≤ am_rf (am_me (tb_P L xs) 7) ∧ 1 + (am_ml (am_me (tb_P L xs) 32) + 11) + am_rl (am_me (tb_P L xs) 32) ≤ am_rl (am_me (tb_P L xs) 7) := show am_rf (tb_me 32) + 1 ≤ am_rf (tb_me 7) ∧ 1 + (am_ml (tb_me 32) + 11) + am_rl (tb_me 32) ≤ am_rl (tb_me 7) from by decide +kernel
theorem k7_66 {L : Nat} {xs : Nat → Int32} : decode (am_cd (am_me (tb_P L xs) 7)) 66 = .ok (.iload 4, 2) := show decode (am_cd (tb_me 7)) 66 = .ok (.iload 4, 2) from by decide +kernel
theorem k7_68 {L : Nat} {xs : Nat → Int32} : decode (am_cd (am_me (tb_P L xs) 7)) 68 = .ok (.invokestatic 211, 3) := show decode (am_cd (tb_me 7)) 68 = .ok (.invokestatic 211, 3) from by decide +kernel
theorem s7_68 {L : Nat} {xs : Nat → Int32} : am_sp (tb_P L xs) 7 211 = none := show tb_spF 7 211 = none from by decide +kernel
theorem c7_68 {L : Nat} {xs : Nat → Int32} : am_ca (tb_P L xs) 7 211 = some (32, 1, 0) := show tb_caF 7 211 = some (32, 1, 0) from by decide +kernel
theorem r7_68 {L : Nat} {xs : Nat → Int32} : am_rf (am_me (tb_P L xs) 32) + 1 ≤ am_rf (am_me (tb_P L xs) 7) ∧ 2 + (am_ml (am_me (tb_P L xs) 32) + 11) + am_rl (am_me (tb_P L xs) 32) ≤ am_rl (am_me (tb_P L xs) 7) := show am_rf (tb_me 32) + 1 ≤ am_rf (tb_me 7) ∧ 2 + (am_ml (tb_me 32) + 11) + am_rl (tb_me 32) ≤ am_rl (tb_me 7) from by decide +kernel
theorem k7_71 {L : Nat} {xs : Nat → Int32} : decode (am_cd (am_me (tb_P L xs) 7)) 71 = .ok (.isub, 1) := show decode (am_cd (tb_me 7)) 71 = .ok (.isub, 1) from by decide +kernel
theorem k7_72 {L : Nat} {xs : Nat → Int32} : decode (am_cd (am_me (tb_P L xs) 7)) 72 = .ok (.iadd, 1) := show decode (am_cd (tb_me 7)) 72 = .ok (.iadd, 1) from by decide +kernel
theorem k7_73 {L : Nat} {xs : Nat → Int32} : decode (am_cd (am_me (tb_P L xs) 7)) 73 = .ok (.istore_n 1, 1) := show decode (am_cd (tb_me 7)) 73 = .ok (.istore_n 1, 1) from by decide +kernel
theorem k7_74 {L : Nat} {xs : Nat → Int32} : decode (am_cd (am_me (tb_P L xs) 7)) 74 = .ok (.iinc 2 1, 3) := show decode (am_cd (tb_me 7)) 74 = .ok (.iinc 2 1, 3) from by decide +kernel
theorem k7_77 {L : Nat} {xs : Nat → Int32} : decode (am_cd (am_me (tb_P L xs) 7)) 77 = .ok (.goto (-59), 3) := show decode (am_cd (tb_me 7)) 77 = .ok (.goto (-59), 3) from by decide +kernel
theorem k7_80 {L : Nat} {xs : Nat → Int32} : decode (am_cd (am_me (tb_P L xs) 7)) 80 = .ok (.iload_n 1, 1) := show decode (am_cd (tb_me 7)) 80 = .ok (.iload_n 1, 1) from by decide +kernel
theorem k7_81 {L : Nat} {xs : Nat → Int32} : decode (am_cd (am_me (tb_P L xs) 7)) 81 = .ok (.ireturn, 1) := show decode (am_cd (tb_me 7)) 81 = .ok (.ireturn, 1) from by decide +kernel
theorem t7 {L : Nat} {xs : Nat → Int32} : am_rt (am_me (tb_P L xs) 7) = some (.int : FieldType) := show am_rt (tb_me 7) = some (.int : FieldType) from by decide +kernel
theorem l7 {L : Nat} {xs : Nat → Int32} : am_ml (am_me (tb_P L xs) 7) = 5 := show am_ml (tb_me 7) = 5 from by decide +kernel
theorem o7 {L : Nat} {xs : Nat → Int32} (pc : Nat) : am_no (tb_P L xs) 7 pc = true := show (am_hd (tb_me 7)).all (fun q => !(decide (q.1 ≤ pc) && decide (pc < q.2.1))) = true from by rw [show am_hd (tb_me 7) = [] by decide +kernel]; rfl
theorem k8_0 {L : Nat} {xs : Nat → Int32} : decode (am_cd (am_me (tb_P L xs) 8)) 0 = .ok (.aload_n 0, 1) := show decode (am_cd (tb_me 8)) 0 = .ok (.aload_n 0, 1) from by decide +kernel
theorem k8_1 {L : Nat} {xs : Nat → Int32} : decode (am_cd (am_me (tb_P L xs) 8)) 1 = .ok (.getfield 22, 3) := show decode (am_cd (tb_me 8)) 1 = .ok (.getfield 22, 3) from by decide +kernel
theorem f8_1 {L : Nat} {xs : Nat → Int32} : am_fd (tb_P L xs) 8 22 = some (6, 0, (.object "GluedMachines$Model" : FieldType), false) := show tb_fdF 8 22 = some (6, 0, (.object "GluedMachines$Model" : FieldType), false) from by decide +kernel
theorem k8_4 {L : Nat} {xs : Nat → Int32} : decode (am_cd (am_me (tb_P L xs) 8)) 4 = .ok (.getfield 26, 3) := show decode (am_cd (tb_me 8)) 4 = .ok (.getfield 26, 3) from by decide +kernel
theorem f8_4 {L : Nat} {xs : Nat → Int32} : am_fd (tb_P L xs) 8 26 = some (5, 1, (.array .int : FieldType), false) := show tb_fdF 8 26 = some (5, 1, (.array .int : FieldType), false) from by decide +kernel
theorem k8_7 {L : Nat} {xs : Nat → Int32} : decode (am_cd (am_me (tb_P L xs) 8)) 7 = .ok (.iconst 0, 1) := show decode (am_cd (tb_me 8)) 7 = .ok (.iconst 0, 1) from by decide +kernel
theorem k8_8 {L : Nat} {xs : Nat → Int32} : decode (am_cd (am_me (tb_P L xs) 8)) 8 = .ok (.aload_n 0, 1) := show decode (am_cd (tb_me 8)) 8 = .ok (.aload_n 0, 1) from by decide +kernel
theorem k8_9 {L : Nat} {xs : Nat → Int32} : decode (am_cd (am_me (tb_P L xs) 8)) 9 = .ok (.getfield 9, 3) := show decode (am_cd (tb_me 8)) 9 = .ok (.getfield 9, 3) from by decide +kernel
theorem f8_9 {L : Nat} {xs : Nat → Int32} : am_fd (tb_P L xs) 8 9 = some (6, 1, (.array .int : FieldType), false) := show tb_fdF 8 9 = some (6, 1, (.array .int : FieldType), false) from by decide +kernel
theorem k8_12 {L : Nat} {xs : Nat → Int32} : decode (am_cd (am_me (tb_P L xs) 8)) 12 = .ok (.iconst 0, 1) := show decode (am_cd (tb_me 8)) 12 = .ok (.iconst 0, 1) from by decide +kernel
theorem k8_13 {L : Nat} {xs : Nat → Int32} : decode (am_cd (am_me (tb_P L xs) 8)) 13 = .ok (.bipush 7, 2) := show decode (am_cd (tb_me 8)) 13 = .ok (.bipush 7, 2) from by decide +kernel
theorem k8_15 {L : Nat} {xs : Nat → Int32} : decode (am_cd (am_me (tb_P L xs) 8)) 15 = .ok (.invokestatic 31, 3) := show decode (am_cd (tb_me 8)) 15 = .ok (.invokestatic 31, 3) from by decide +kernel
theorem s8_15 {L : Nat} {xs : Nat → Int32} : am_sp (tb_P L xs) 8 31 = some 3 := show tb_spF 8 31 = some 3 from by decide +kernel
theorem r8_15 {L : Nat} {xs : Nat → Int32} : 1 ≤ am_rf (am_me (tb_P L xs) 8) ∧ 0 + (nativeFrameWords "java/lang/System" "arraycopy" 5 + 11) ≤ am_rl (am_me (tb_P L xs) 8) := show 1 ≤ am_rf (tb_me 8) ∧ 0 + (nativeFrameWords "java/lang/System" "arraycopy" 5 + 11) ≤ am_rl (tb_me 8) from by decide +kernel
theorem k8_18 {L : Nat} {xs : Nat → Int32} : decode (am_cd (am_me (tb_P L xs) 8)) 18 = .ok (.aload_n 0, 1) := show decode (am_cd (tb_me 8)) 18 = .ok (.aload_n 0, 1) from by decide +kernel
theorem k8_19 {L : Nat} {xs : Nat → Int32} : decode (am_cd (am_me (tb_P L xs) 8)) 19 = .ok (.getfield 22, 3) := show decode (am_cd (tb_me 8)) 19 = .ok (.getfield 22, 3) from by decide +kernel
theorem f8_19 {L : Nat} {xs : Nat → Int32} : am_fd (tb_P L xs) 8 22 = some (6, 0, (.object "GluedMachines$Model" : FieldType), false) := show tb_fdF 8 22 = some (6, 0, (.object "GluedMachines$Model" : FieldType), false) from by decide +kernel
theorem k8_22 {L : Nat} {xs : Nat → Int32} : decode (am_cd (am_me (tb_P L xs) 8)) 22 = .ok (.getfield 37, 3) := show decode (am_cd (tb_me 8)) 22 = .ok (.getfield 37, 3) from by decide +kernel
theorem f8_22 {L : Nat} {xs : Nat → Int32} : am_fd (tb_P L xs) 8 37 = some (5, 4, (.object "GluedMachines$Invariants" : FieldType), false) := show tb_fdF 8 37 = some (5, 4, (.object "GluedMachines$Invariants" : FieldType), false) from by decide +kernel
theorem k8_25 {L : Nat} {xs : Nat → Int32} : decode (am_cd (am_me (tb_P L xs) 8)) 25 = .ok (.iconst 1, 1) := show decode (am_cd (tb_me 8)) 25 = .ok (.iconst 1, 1) from by decide +kernel
theorem k8_26 {L : Nat} {xs : Nat → Int32} : decode (am_cd (am_me (tb_P L xs) 8)) 26 = .ok (.aload_n 0, 1) := show decode (am_cd (tb_me 8)) 26 = .ok (.aload_n 0, 1) from by decide +kernel
theorem k8_27 {L : Nat} {xs : Nat → Int32} : decode (am_cd (am_me (tb_P L xs) 8)) 27 = .ok (.getfield 9, 3) := show decode (am_cd (tb_me 8)) 27 = .ok (.getfield 9, 3) from by decide +kernel
theorem f8_27 {L : Nat} {xs : Nat → Int32} : am_fd (tb_P L xs) 8 9 = some (6, 1, (.array .int : FieldType), false) := show tb_fdF 8 9 = some (6, 1, (.array .int : FieldType), false) from by decide +kernel
theorem k8_30 {L : Nat} {xs : Nat → Int32} : decode (am_cd (am_me (tb_P L xs) 8)) 30 = .ok (.invokevirtual 41, 3) := show decode (am_cd (tb_me 8)) 30 = .ok (.invokevirtual 41, 3) from by decide +kernel
theorem s8_30 {L : Nat} {xs : Nat → Int32} : am_sp (tb_P L xs) 8 41 = none := show tb_spF 8 41 = none from by decide +kernel
theorem c8_30 {L : Nat} {xs : Nat → Int32} : am_ca (tb_P L xs) 8 41 = some (9, 2, 1) := show tb_caF 8 41 = some (9, 2, 1) from by decide +kernel
theorem r8_30 {L : Nat} {xs : Nat → Int32} : am_rf (am_me (tb_P L xs) 9) + 1 ≤ am_rf (am_me (tb_P L xs) 8) ∧ 0 + (am_ml (am_me (tb_P L xs) 9) + 11) + am_rl (am_me (tb_P L xs) 9) ≤ am_rl (am_me (tb_P L xs) 8) := show am_rf (tb_me 9) + 1 ≤ am_rf (tb_me 8) ∧ 0 + (am_ml (tb_me 9) + 11) + am_rl (tb_me 9) ≤ am_rl (tb_me 8) from by decide +kernel
theorem k8_33 {L : Nat} {xs : Nat → Int32} : decode (am_cd (am_me (tb_P L xs) 8)) 33 = .ok (.ireturn, 1) := show decode (am_cd (tb_me 8)) 33 = .ok (.ireturn, 1) from by decide +kernel
theorem t8 {L : Nat} {xs : Nat → Int32} : am_rt (am_me (tb_P L xs) 8) = some (.boolean : FieldType) := show am_rt (tb_me 8) = some (.boolean : FieldType) from by decide +kernel
theorem l8 {L : Nat} {xs : Nat → Int32} : am_ml (am_me (tb_P L xs) 8) = 1 := show am_ml (tb_me 8) = 1 from by decide +kernel
theorem o8 {L : Nat} {xs : Nat → Int32} (pc : Nat) : am_no (tb_P L xs) 8 pc = true := show (am_hd (tb_me 8)).all (fun q => !(decide (q.1 ≤ pc) && decide (pc < q.2.1))) = true from by rw [show am_hd (tb_me 8) = [] by decide +kernel]; rfl
theorem k9_0 {L : Nat} {xs : Nat → Int32} : decode (am_cd (am_me (tb_P L xs) 9)) 0 = .ok (.aload_n 2, 1) := show decode (am_cd (tb_me 9)) 0 = .ok (.aload_n 2, 1) from by decide +kernel
theorem k9_1 {L : Nat} {xs : Nat → Int32} : decode (am_cd (am_me (tb_P L xs) 9)) 1 = .ok (.iconst 0, 1) := show decode (am_cd (tb_me 9)) 1 = .ok (.iconst 0, 1) from by decide +kernel
theorem k9_2 {L : Nat} {xs : Nat → Int32} : decode (am_cd (am_me (tb_P L xs) 9)) 2 = .ok (.invokestatic 47, 3) := show decode (am_cd (tb_me 9)) 2 = .ok (.invokestatic 47, 3) from by decide +kernel
theorem s9_2 {L : Nat} {xs : Nat → Int32} : am_sp (tb_P L xs) 9 47 = none := show tb_spF 9 47 = none from by decide +kernel
theorem c9_2 {L : Nat} {xs : Nat → Int32} : am_ca (tb_P L xs) 9 47 = some (10, 2, 0) := show tb_caF 9 47 = some (10, 2, 0) from by decide +kernel
theorem r9_2 {L : Nat} {xs : Nat → Int32} : am_rf (am_me (tb_P L xs) 10) + 1 ≤ am_rf (am_me (tb_P L xs) 9) ∧ 0 + (am_ml (am_me (tb_P L xs) 10) + 11) + am_rl (am_me (tb_P L xs) 10) ≤ am_rl (am_me (tb_P L xs) 9) := show am_rf (tb_me 10) + 1 ≤ am_rf (tb_me 9) ∧ 0 + (am_ml (tb_me 10) + 11) + am_rl (tb_me 10) ≤ am_rl (tb_me 9) from by decide +kernel
theorem k9_5 {L : Nat} {xs : Nat → Int32} : decode (am_cd (am_me (tb_P L xs) 9)) 5 = .ok (.istore_n 3, 1) := show decode (am_cd (tb_me 9)) 5 = .ok (.istore_n 3, 1) from by decide +kernel
theorem k9_6 {L : Nat} {xs : Nat → Int32} : decode (am_cd (am_me (tb_P L xs) 9)) 6 = .ok (.aload_n 0, 1) := show decode (am_cd (tb_me 9)) 6 = .ok (.aload_n 0, 1) from by decide +kernel
theorem k9_7 {L : Nat} {xs : Nat → Int32} : decode (am_cd (am_me (tb_P L xs) 9)) 7 = .ok (.iconst 0, 1) := show decode (am_cd (tb_me 9)) 7 = .ok (.iconst 0, 1) from by decide +kernel
theorem k9_8 {L : Nat} {xs : Nat → Int32} : decode (am_cd (am_me (tb_P L xs) 9)) 8 = .ok (.bipush 64, 2) := show decode (am_cd (tb_me 9)) 8 = .ok (.bipush 64, 2) from by decide +kernel
theorem k9_10 {L : Nat} {xs : Nat → Int32} : decode (am_cd (am_me (tb_P L xs) 9)) 10 = .ok (.iload_n 3, 1) := show decode (am_cd (tb_me 9)) 10 = .ok (.iload_n 3, 1) from by decide +kernel
theorem k9_11 {L : Nat} {xs : Nat → Int32} : decode (am_cd (am_me (tb_P L xs) 9)) 11 = .ok (.aload_n 2, 1) := show decode (am_cd (tb_me 9)) 11 = .ok (.aload_n 2, 1) from by decide +kernel
theorem k9_12 {L : Nat} {xs : Nat → Int32} : decode (am_cd (am_me (tb_P L xs) 9)) 12 = .ok (.invokevirtual 51, 3) := show decode (am_cd (tb_me 9)) 12 = .ok (.invokevirtual 51, 3) from by decide +kernel
theorem s9_12 {L : Nat} {xs : Nat → Int32} : am_sp (tb_P L xs) 9 51 = none := show tb_spF 9 51 = none from by decide +kernel
theorem c9_12 {L : Nat} {xs : Nat → Int32} : am_ca (tb_P L xs) 9 51 = some (11, 4, 1) := show tb_caF 9 51 = some (11, 4, 1) from by decide +kernel
theorem r9_12 {L : Nat} {xs : Nat → Int32} : am_rf (am_me (tb_P L xs) 11) + 1 ≤ am_rf (am_me (tb_P L xs) 9) ∧ 0 + (am_ml (am_me (tb_P L xs) 11) + 11) + am_rl (am_me (tb_P L xs) 11) ≤ am_rl (am_me (tb_P L xs) 9) := show am_rf (tb_me 11) + 1 ≤ am_rf (tb_me 9) ∧ 0 + (am_ml (tb_me 11) + 11) + am_rl (tb_me 11) ≤ am_rl (tb_me 9) from by decide +kernel
theorem k9_15 {L : Nat} {xs : Nat → Int32} : decode (am_cd (am_me (tb_P L xs) 9)) 15 = .ok (.ifCond .ne 5, 3) := show decode (am_cd (tb_me 9)) 15 = .ok (.ifCond .ne 5, 3) from by decide +kernel
theorem k9_18 {L : Nat} {xs : Nat → Int32} : decode (am_cd (am_me (tb_P L xs) 9)) 18 = .ok (.iconst 0, 1) := show decode (am_cd (tb_me 9)) 18 = .ok (.iconst 0, 1) from by decide +kernel
theorem k9_19 {L : Nat} {xs : Nat → Int32} : decode (am_cd (am_me (tb_P L xs) 9)) 19 = .ok (.ireturn, 1) := show decode (am_cd (tb_me 9)) 19 = .ok (.ireturn, 1) from by decide +kernel
theorem k9_20 {L : Nat} {xs : Nat → Int32} : decode (am_cd (am_me (tb_P L xs) 9)) 20 = .ok (.iload_n 1, 1) := show decode (am_cd (tb_me 9)) 20 = .ok (.iload_n 1, 1) from by decide +kernel
theorem k9_21 {L : Nat} {xs : Nat → Int32} : decode (am_cd (am_me (tb_P L xs) 9)) 21 = .ok (.ifCond .eq 18, 3) := show decode (am_cd (tb_me 9)) 21 = .ok (.ifCond .eq 18, 3) from by decide +kernel
theorem k9_24 {L : Nat} {xs : Nat → Int32} : decode (am_cd (am_me (tb_P L xs) 9)) 24 = .ok (.aload_n 0, 1) := show decode (am_cd (tb_me 9)) 24 = .ok (.aload_n 0, 1) from by decide +kernel
theorem k9_25 {L : Nat} {xs : Nat → Int32} : decode (am_cd (am_me (tb_P L xs) 9)) 25 = .ok (.iconst 1, 1) := show decode (am_cd (tb_me 9)) 25 = .ok (.iconst 1, 1) from by decide +kernel
theorem k9_26 {L : Nat} {xs : Nat → Int32} : decode (am_cd (am_me (tb_P L xs) 9)) 26 = .ok (.iload_n 3, 1) := show decode (am_cd (tb_me 9)) 26 = .ok (.iload_n 3, 1) from by decide +kernel
theorem k9_27 {L : Nat} {xs : Nat → Int32} : decode (am_cd (am_me (tb_P L xs) 9)) 27 = .ok (.aload_n 2, 1) := show decode (am_cd (tb_me 9)) 27 = .ok (.aload_n 2, 1) from by decide +kernel
theorem k9_28 {L : Nat} {xs : Nat → Int32} : decode (am_cd (am_me (tb_P L xs) 9)) 28 = .ok (.iconst 3, 1) := show decode (am_cd (tb_me 9)) 28 = .ok (.iconst 3, 1) from by decide +kernel
theorem k9_29 {L : Nat} {xs : Nat → Int32} : decode (am_cd (am_me (tb_P L xs) 9)) 29 = .ok (.invokestatic 47, 3) := show decode (am_cd (tb_me 9)) 29 = .ok (.invokestatic 47, 3) from by decide +kernel
theorem s9_29 {L : Nat} {xs : Nat → Int32} : am_sp (tb_P L xs) 9 47 = none := show tb_spF 9 47 = none from by decide +kernel
theorem c9_29 {L : Nat} {xs : Nat → Int32} : am_ca (tb_P L xs) 9 47 = some (10, 2, 0) := show tb_caF 9 47 = some (10, 2, 0) from by decide +kernel
theorem r9_29 {L : Nat} {xs : Nat → Int32} : am_rf (am_me (tb_P L xs) 10) + 1 ≤ am_rf (am_me (tb_P L xs) 9) ∧ 3 + (am_ml (am_me (tb_P L xs) 10) + 11) + am_rl (am_me (tb_P L xs) 10) ≤ am_rl (am_me (tb_P L xs) 9) := show am_rf (tb_me 10) + 1 ≤ am_rf (tb_me 9) ∧ 3 + (am_ml (tb_me 10) + 11) + am_rl (tb_me 10) ≤ am_rl (tb_me 9) from by decide +kernel
theorem k9_32 {L : Nat} {xs : Nat → Int32} : decode (am_cd (am_me (tb_P L xs) 9)) 32 = .ok (.aload_n 2, 1) := show decode (am_cd (tb_me 9)) 32 = .ok (.aload_n 2, 1) from by decide +kernel
theorem k9_33 {L : Nat} {xs : Nat → Int32} : decode (am_cd (am_me (tb_P L xs) 9)) 33 = .ok (.invokevirtual 51, 3) := show decode (am_cd (tb_me 9)) 33 = .ok (.invokevirtual 51, 3) from by decide +kernel
theorem s9_33 {L : Nat} {xs : Nat → Int32} : am_sp (tb_P L xs) 9 51 = none := show tb_spF 9 51 = none from by decide +kernel
theorem c9_33 {L : Nat} {xs : Nat → Int32} : am_ca (tb_P L xs) 9 51 = some (11, 4, 1) := show tb_caF 9 51 = some (11, 4, 1) from by decide +kernel
theorem r9_33 {L : Nat} {xs : Nat → Int32} : am_rf (am_me (tb_P L xs) 11) + 1 ≤ am_rf (am_me (tb_P L xs) 9) ∧ 0 + (am_ml (am_me (tb_P L xs) 11) + 11) + am_rl (am_me (tb_P L xs) 11) ≤ am_rl (am_me (tb_P L xs) 9) := show am_rf (tb_me 11) + 1 ≤ am_rf (tb_me 9) ∧ 0 + (am_ml (tb_me 11) + 11) + am_rl (tb_me 11) ≤ am_rl (tb_me 9) from by decide +kernel
theorem k9_36 {L : Nat} {xs : Nat → Int32} : decode (am_cd (am_me (tb_P L xs) 9)) 36 = .ok (.ifCond .eq 7, 3) := show decode (am_cd (tb_me 9)) 36 = .ok (.ifCond .eq 7, 3) from by decide +kernel
theorem k9_39 {L : Nat} {xs : Nat → Int32} : decode (am_cd (am_me (tb_P L xs) 9)) 39 = .ok (.iconst 1, 1) := show decode (am_cd (tb_me 9)) 39 = .ok (.iconst 1, 1) from by decide +kernel
theorem k9_40 {L : Nat} {xs : Nat → Int32} : decode (am_cd (am_me (tb_P L xs) 9)) 40 = .ok (.goto 4, 3) := show decode (am_cd (tb_me 9)) 40 = .ok (.goto 4, 3) from by decide +kernel
theorem k9_43 {L : Nat} {xs : Nat → Int32} : decode (am_cd (am_me (tb_P L xs) 9)) 43 = .ok (.iconst 0, 1) := show decode (am_cd (tb_me 9)) 43 = .ok (.iconst 0, 1) from by decide +kernel
theorem k9_44 {L : Nat} {xs : Nat → Int32} : decode (am_cd (am_me (tb_P L xs) 9)) 44 = .ok (.ireturn, 1) := show decode (am_cd (tb_me 9)) 44 = .ok (.ireturn, 1) from by decide +kernel
theorem t9 {L : Nat} {xs : Nat → Int32} : am_rt (am_me (tb_P L xs) 9) = some (.boolean : FieldType) := show am_rt (tb_me 9) = some (.boolean : FieldType) from by decide +kernel
theorem l9 {L : Nat} {xs : Nat → Int32} : am_ml (am_me (tb_P L xs) 9) = 4 := show am_ml (tb_me 9) = 4 from by decide +kernel
theorem o9 {L : Nat} {xs : Nat → Int32} (pc : Nat) : am_no (tb_P L xs) 9 pc = true := show (am_hd (tb_me 9)).all (fun q => !(decide (q.1 ≤ pc) && decide (pc < q.2.1))) = true from by rw [show am_hd (tb_me 9) = [] by decide +kernel]; rfl
theorem k10_0 {L : Nat} {xs : Nat → Int32} : decode (am_cd (am_me (tb_P L xs) 10)) 0 = .ok (.aload_n 0, 1) := show decode (am_cd (tb_me 10)) 0 = .ok (.aload_n 0, 1) from by decide +kernel
theorem k10_1 {L : Nat} {xs : Nat → Int32} : decode (am_cd (am_me (tb_P L xs) 10)) 1 = .ok (.iload_n 1, 1) := show decode (am_cd (tb_me 10)) 1 = .ok (.iload_n 1, 1) from by decide +kernel
theorem k10_2 {L : Nat} {xs : Nat → Int32} : decode (am_cd (am_me (tb_P L xs) 10)) 2 = .ok (.iaload, 1) := show decode (am_cd (tb_me 10)) 2 = .ok (.iaload, 1) from by decide +kernel
theorem k10_3 {L : Nat} {xs : Nat → Int32} : decode (am_cd (am_me (tb_P L xs) 10)) 3 = .ok (.iconst 3, 1) := show decode (am_cd (tb_me 10)) 3 = .ok (.iconst 3, 1) from by decide +kernel
theorem k10_4 {L : Nat} {xs : Nat → Int32} : decode (am_cd (am_me (tb_P L xs) 10)) 4 = .ok (.iand, 1) := show decode (am_cd (tb_me 10)) 4 = .ok (.iand, 1) from by decide +kernel
theorem k10_5 {L : Nat} {xs : Nat → Int32} : decode (am_cd (am_me (tb_P L xs) 10)) 5 = .ok (.iconst 2, 1) := show decode (am_cd (tb_me 10)) 5 = .ok (.iconst 2, 1) from by decide +kernel
theorem k10_6 {L : Nat} {xs : Nat → Int32} : decode (am_cd (am_me (tb_P L xs) 10)) 6 = .ok (.ishl, 1) := show decode (am_cd (tb_me 10)) 6 = .ok (.ishl, 1) from by decide +kernel
theorem k10_7 {L : Nat} {xs : Nat → Int32} : decode (am_cd (am_me (tb_P L xs) 10)) 7 = .ok (.aload_n 0, 1) := show decode (am_cd (tb_me 10)) 7 = .ok (.aload_n 0, 1) from by decide +kernel
theorem k10_8 {L : Nat} {xs : Nat → Int32} : decode (am_cd (am_me (tb_P L xs) 10)) 8 = .ok (.iload_n 1, 1) := show decode (am_cd (tb_me 10)) 8 = .ok (.iload_n 1, 1) from by decide +kernel
theorem k10_9 {L : Nat} {xs : Nat → Int32} : decode (am_cd (am_me (tb_P L xs) 10)) 9 = .ok (.iconst 1, 1) := show decode (am_cd (tb_me 10)) 9 = .ok (.iconst 1, 1) from by decide +kernel
theorem k10_10 {L : Nat} {xs : Nat → Int32} : decode (am_cd (am_me (tb_P L xs) 10)) 10 = .ok (.iadd, 1) := show decode (am_cd (tb_me 10)) 10 = .ok (.iadd, 1) from by decide +kernel
theorem k10_11 {L : Nat} {xs : Nat → Int32} : decode (am_cd (am_me (tb_P L xs) 10)) 11 = .ok (.iaload, 1) := show decode (am_cd (tb_me 10)) 11 = .ok (.iaload, 1) from by decide +kernel
theorem k10_12 {L : Nat} {xs : Nat → Int32} : decode (am_cd (am_me (tb_P L xs) 10)) 12 = .ok (.iconst 3, 1) := show decode (am_cd (tb_me 10)) 12 = .ok (.iconst 3, 1) from by decide +kernel
theorem k10_13 {L : Nat} {xs : Nat → Int32} : decode (am_cd (am_me (tb_P L xs) 10)) 13 = .ok (.iand, 1) := show decode (am_cd (tb_me 10)) 13 = .ok (.iand, 1) from by decide +kernel
theorem k10_14 {L : Nat} {xs : Nat → Int32} : decode (am_cd (am_me (tb_P L xs) 10)) 14 = .ok (.ior, 1) := show decode (am_cd (tb_me 10)) 14 = .ok (.ior, 1) from by decide +kernel
theorem k10_15 {L : Nat} {xs : Nat → Int32} : decode (am_cd (am_me (tb_P L xs) 10)) 15 = .ok (.istore_n 2, 1) := show decode (am_cd (tb_me 10)) 15 = .ok (.istore_n 2, 1) from by decide +kernel
theorem k10_16 {L : Nat} {xs : Nat → Int32} : decode (am_cd (am_me (tb_P L xs) 10)) 16 = .ok (.iload_n 2, 1) := show decode (am_cd (tb_me 10)) 16 = .ok (.iload_n 2, 1) from by decide +kernel
theorem k10_17 {L : Nat} {xs : Nat → Int32} : decode (am_cd (am_me (tb_P L xs) 10)) 17 = .ok (.iconst 2, 1) := show decode (am_cd (tb_me 10)) 17 = .ok (.iconst 2, 1) from by decide +kernel
theorem k10_18 {L : Nat} {xs : Nat → Int32} : decode (am_cd (am_me (tb_P L xs) 10)) 18 = .ok (.ishl, 1) := show decode (am_cd (tb_me 10)) 18 = .ok (.ishl, 1) from by decide +kernel
theorem k10_19 {L : Nat} {xs : Nat → Int32} : decode (am_cd (am_me (tb_P L xs) 10)) 19 = .ok (.aload_n 0, 1) := show decode (am_cd (tb_me 10)) 19 = .ok (.aload_n 0, 1) from by decide +kernel
theorem k10_20 {L : Nat} {xs : Nat → Int32} : decode (am_cd (am_me (tb_P L xs) 10)) 20 = .ok (.iload_n 1, 1) := show decode (am_cd (tb_me 10)) 20 = .ok (.iload_n 1, 1) from by decide +kernel
theorem k10_21 {L : Nat} {xs : Nat → Int32} : decode (am_cd (am_me (tb_P L xs) 10)) 21 = .ok (.iconst 2, 1) := show decode (am_cd (tb_me 10)) 21 = .ok (.iconst 2, 1) from by decide +kernel
theorem k10_22 {L : Nat} {xs : Nat → Int32} : decode (am_cd (am_me (tb_P L xs) 10)) 22 = .ok (.iadd, 1) := show decode (am_cd (tb_me 10)) 22 = .ok (.iadd, 1) from by decide +kernel
theorem k10_23 {L : Nat} {xs : Nat → Int32} : decode (am_cd (am_me (tb_P L xs) 10)) 23 = .ok (.iaload, 1) := show decode (am_cd (tb_me 10)) 23 = .ok (.iaload, 1) from by decide +kernel
theorem k10_24 {L : Nat} {xs : Nat → Int32} : decode (am_cd (am_me (tb_P L xs) 10)) 24 = .ok (.iconst 3, 1) := show decode (am_cd (tb_me 10)) 24 = .ok (.iconst 3, 1) from by decide +kernel
theorem k10_25 {L : Nat} {xs : Nat → Int32} : decode (am_cd (am_me (tb_P L xs) 10)) 25 = .ok (.iand, 1) := show decode (am_cd (tb_me 10)) 25 = .ok (.iand, 1) from by decide +kernel
theorem k10_26 {L : Nat} {xs : Nat → Int32} : decode (am_cd (am_me (tb_P L xs) 10)) 26 = .ok (.ior, 1) := show decode (am_cd (tb_me 10)) 26 = .ok (.ior, 1) from by decide +kernel
theorem k10_27 {L : Nat} {xs : Nat → Int32} : decode (am_cd (am_me (tb_P L xs) 10)) 27 = .ok (.ireturn, 1) := show decode (am_cd (tb_me 10)) 27 = .ok (.ireturn, 1) from by decide +kernel
theorem t10 {L : Nat} {xs : Nat → Int32} : am_rt (am_me (tb_P L xs) 10) = some (.int : FieldType) := show am_rt (tb_me 10) = some (.int : FieldType) from by decide +kernel
theorem l10 {L : Nat} {xs : Nat → Int32} : am_ml (am_me (tb_P L xs) 10) = 3 := show am_ml (tb_me 10) = 3 from by decide +kernel
theorem o10 {L : Nat} {xs : Nat → Int32} (pc : Nat) : am_no (tb_P L xs) 10 pc = true := show (am_hd (tb_me 10)).all (fun q => !(decide (q.1 ≤ pc) && decide (pc < q.2.1))) = true from by rw [show am_hd (tb_me 10) = [] by decide +kernel]; rfl
theorem k11_0 {L : Nat} {xs : Nat → Int32} : decode (am_cd (am_me (tb_P L xs) 11)) 0 = .ok (.lconst 1, 1) := show decode (am_cd (tb_me 11)) 0 = .ok (.lconst 1, 1) from by decide +kernel
theorem k11_1 {L : Nat} {xs : Nat → Int32} : decode (am_cd (am_me (tb_P L xs) 11)) 1 = .ok (.iload_n 3, 1) := show decode (am_cd (tb_me 11)) 1 = .ok (.iload_n 3, 1) from by decide +kernel
theorem k11_2 {L : Nat} {xs : Nat → Int32} : decode (am_cd (am_me (tb_P L xs) 11)) 2 = .ok (.lshl, 1) := show decode (am_cd (tb_me 11)) 2 = .ok (.lshl, 1) from by decide +kernel
theorem k11_3 {L : Nat} {xs : Nat → Int32} : decode (am_cd (am_me (tb_P L xs) 11)) 3 = .ok (.lstore 5, 2) := show decode (am_cd (tb_me 11)) 3 = .ok (.lstore 5, 2) from by decide +kernel
theorem k11_5 {L : Nat} {xs : Nat → Int32} : decode (am_cd (am_me (tb_P L xs) 11)) 5 = .ok (.aload_n 0, 1) := show decode (am_cd (tb_me 11)) 5 = .ok (.aload_n 0, 1) from by decide +kernel
theorem k11_6 {L : Nat} {xs : Nat → Int32} : decode (am_cd (am_me (tb_P L xs) 11)) 6 = .ok (.getfield 27, 3) := show decode (am_cd (tb_me 11)) 6 = .ok (.getfield 27, 3) from by decide +kernel
theorem f11_6 {L : Nat} {xs : Nat → Int32} : am_fd (tb_P L xs) 11 27 = some (4, 4, (.array .long : FieldType), false) := show tb_fdF 11 27 = some (4, 4, (.array .long : FieldType), false) from by decide +kernel
theorem k11_9 {L : Nat} {xs : Nat → Int32} : decode (am_cd (am_me (tb_P L xs) 11)) 9 = .ok (.iload_n 2, 1) := show decode (am_cd (tb_me 11)) 9 = .ok (.iload_n 2, 1) from by decide +kernel
theorem k11_10 {L : Nat} {xs : Nat → Int32} : decode (am_cd (am_me (tb_P L xs) 11)) 10 = .ok (.laload, 1) := show decode (am_cd (tb_me 11)) 10 = .ok (.laload, 1) from by decide +kernel
theorem k11_11 {L : Nat} {xs : Nat → Int32} : decode (am_cd (am_me (tb_P L xs) 11)) 11 = .ok (.lload 5, 2) := show decode (am_cd (tb_me 11)) 11 = .ok (.lload 5, 2) from by decide +kernel
theorem k11_13 {L : Nat} {xs : Nat → Int32} : decode (am_cd (am_me (tb_P L xs) 11)) 13 = .ok (.land, 1) := show decode (am_cd (tb_me 11)) 13 = .ok (.land, 1) from by decide +kernel
theorem k11_14 {L : Nat} {xs : Nat → Int32} : decode (am_cd (am_me (tb_P L xs) 11)) 14 = .ok (.lconst 0, 1) := show decode (am_cd (tb_me 11)) 14 = .ok (.lconst 0, 1) from by decide +kernel
theorem k11_15 {L : Nat} {xs : Nat → Int32} : decode (am_cd (am_me (tb_P L xs) 11)) 15 = .ok (.lcmp, 1) := show decode (am_cd (tb_me 11)) 15 = .ok (.lcmp, 1) from by decide +kernel
theorem k11_16 {L : Nat} {xs : Nat → Int32} : decode (am_cd (am_me (tb_P L xs) 11)) 16 = .ok (.ifCond .ne 98, 3) := show decode (am_cd (tb_me 11)) 16 = .ok (.ifCond .ne 98, 3) from by decide +kernel
theorem k11_19 {L : Nat} {xs : Nat → Int32} : decode (am_cd (am_me (tb_P L xs) 11)) 19 = .ok (.iload_n 1, 1) := show decode (am_cd (tb_me 11)) 19 = .ok (.iload_n 1, 1) from by decide +kernel
theorem k11_20 {L : Nat} {xs : Nat → Int32} : decode (am_cd (am_me (tb_P L xs) 11)) 20 = .ok (.ifCond .ne 10, 3) := show decode (am_cd (tb_me 11)) 20 = .ok (.ifCond .ne 10, 3) from by decide +kernel
theorem k11_23 {L : Nat} {xs : Nat → Int32} : decode (am_cd (am_me (tb_P L xs) 11)) 23 = .ok (.aload_n 0, 1) := show decode (am_cd (tb_me 11)) 23 = .ok (.aload_n 0, 1) from by decide +kernel
theorem k11_24 {L : Nat} {xs : Nat → Int32} : decode (am_cd (am_me (tb_P L xs) 11)) 24 = .ok (.getfield 11, 3) := show decode (am_cd (tb_me 11)) 24 = .ok (.getfield 11, 3) from by decide +kernel
theorem f11_24 {L : Nat} {xs : Nat → Int32} : am_fd (tb_P L xs) 11 11 = some (4, 0, (.array (.object "GluedMachines$Formula") : FieldType), false) := show tb_fdF 11 11 = some (4, 0, (.array (.object "GluedMachines$Formula") : FieldType), false) from by decide +kernel
theorem k11_27 {L : Nat} {xs : Nat → Int32} : decode (am_cd (am_me (tb_P L xs) 11)) 27 = .ok (.goto 7, 3) := show decode (am_cd (tb_me 11)) 27 = .ok (.goto 7, 3) from by decide +kernel
theorem k11_30 {L : Nat} {xs : Nat → Int32} : decode (am_cd (am_me (tb_P L xs) 11)) 30 = .ok (.aload_n 0, 1) := show decode (am_cd (tb_me 11)) 30 = .ok (.aload_n 0, 1) from by decide +kernel
theorem k11_31 {L : Nat} {xs : Nat → Int32} : decode (am_cd (am_me (tb_P L xs) 11)) 31 = .ok (.getfield 17, 3) := show decode (am_cd (tb_me 11)) 31 = .ok (.getfield 17, 3) from by decide +kernel
theorem f11_31 {L : Nat} {xs : Nat → Int32} : am_fd (tb_P L xs) 11 17 = some (4, 1, (.array (.object "GluedMachines$Formula") : FieldType), false) := show tb_fdF 11 17 = some (4, 1, (.array (.object "GluedMachines$Formula") : FieldType), false) from by decide +kernel
theorem k11_34 {L : Nat} {xs : Nat → Int32} : decode (am_cd (am_me (tb_P L xs) 11)) 34 = .ok (.astore 7, 2) := show decode (am_cd (tb_me 11)) 34 = .ok (.astore 7, 2) from by decide +kernel
theorem k11_36 {L : Nat} {xs : Nat → Int32} : decode (am_cd (am_me (tb_P L xs) 11)) 36 = .ok (.iconst 1, 1) := show decode (am_cd (tb_me 11)) 36 = .ok (.iconst 1, 1) from by decide +kernel
theorem k11_37 {L : Nat} {xs : Nat → Int32} : decode (am_cd (am_me (tb_P L xs) 11)) 37 = .ok (.istore 8, 2) := show decode (am_cd (tb_me 11)) 37 = .ok (.istore 8, 2) from by decide +kernel
theorem k11_39 {L : Nat} {xs : Nat → Int32} : decode (am_cd (am_me (tb_P L xs) 11)) 39 = .ok (.iconst 0, 1) := show decode (am_cd (tb_me 11)) 39 = .ok (.iconst 0, 1) from by decide +kernel
theorem k11_40 {L : Nat} {xs : Nat → Int32} : decode (am_cd (am_me (tb_P L xs) 11)) 40 = .ok (.istore 9, 2) := show decode (am_cd (tb_me 11)) 40 = .ok (.istore 9, 2) from by decide +kernel
theorem k11_42 {L : Nat} {xs : Nat → Int32} : decode (am_cd (am_me (tb_P L xs) 11)) 42 = .ok (.iload 9, 2) := show decode (am_cd (tb_me 11)) 42 = .ok (.iload 9, 2) from by decide +kernel
theorem k11_44 {L : Nat} {xs : Nat → Int32} : decode (am_cd (am_me (tb_P L xs) 11)) 44 = .ok (.aload_n 0, 1) := show decode (am_cd (tb_me 11)) 44 = .ok (.aload_n 0, 1) from by decide +kernel
theorem k11_45 {L : Nat} {xs : Nat → Int32} : decode (am_cd (am_me (tb_P L xs) 11)) 45 = .ok (.iload_n 1, 1) := show decode (am_cd (tb_me 11)) 45 = .ok (.iload_n 1, 1) from by decide +kernel
theorem k11_46 {L : Nat} {xs : Nat → Int32} : decode (am_cd (am_me (tb_P L xs) 11)) 46 = .ok (.invokevirtual 40, 3) := show decode (am_cd (tb_me 11)) 46 = .ok (.invokevirtual 40, 3) from by decide +kernel
theorem s11_46 {L : Nat} {xs : Nat → Int32} : am_sp (tb_P L xs) 11 40 = none := show tb_spF 11 40 = none from by decide +kernel
theorem c11_46 {L : Nat} {xs : Nat → Int32} : am_ca (tb_P L xs) 11 40 = some (12, 1, 1) := show tb_caF 11 40 = some (12, 1, 1) from by decide +kernel
theorem r11_46 {L : Nat} {xs : Nat → Int32} : am_rf (am_me (tb_P L xs) 12) + 1 ≤ am_rf (am_me (tb_P L xs) 11) ∧ 1 + (am_ml (am_me (tb_P L xs) 12) + 11) + am_rl (am_me (tb_P L xs) 12) ≤ am_rl (am_me (tb_P L xs) 11) := show am_rf (tb_me 12) + 1 ≤ am_rf (tb_me 11) ∧ 1 + (am_ml (tb_me 12) + 11) + am_rl (tb_me 12) ≤ am_rl (tb_me 11) from by decide +kernel
theorem k11_49 {L : Nat} {xs : Nat → Int32} : decode (am_cd (am_me (tb_P L xs) 11)) 49 = .ok (.if_icmp .ge 34, 3) := show decode (am_cd (tb_me 11)) 49 = .ok (.if_icmp .ge 34, 3) from by decide +kernel
theorem k11_52 {L : Nat} {xs : Nat → Int32} : decode (am_cd (am_me (tb_P L xs) 11)) 52 = .ok (.iload 8, 2) := show decode (am_cd (tb_me 11)) 52 = .ok (.iload 8, 2) from by decide +kernel
theorem k11_54 {L : Nat} {xs : Nat → Int32} : decode (am_cd (am_me (tb_P L xs) 11)) 54 = .ok (.ifCond .eq 29, 3) := show decode (am_cd (tb_me 11)) 54 = .ok (.ifCond .eq 29, 3) from by decide +kernel
theorem k11_57 {L : Nat} {xs : Nat → Int32} : decode (am_cd (am_me (tb_P L xs) 11)) 57 = .ok (.aload 7, 2) := show decode (am_cd (tb_me 11)) 57 = .ok (.aload 7, 2) from by decide +kernel
theorem k11_59 {L : Nat} {xs : Nat → Int32} : decode (am_cd (am_me (tb_P L xs) 11)) 59 = .ok (.iload 9, 2) := show decode (am_cd (tb_me 11)) 59 = .ok (.iload 9, 2) from by decide +kernel
theorem k11_61 {L : Nat} {xs : Nat → Int32} : decode (am_cd (am_me (tb_P L xs) 11)) 61 = .ok (.aaload, 1) := show decode (am_cd (tb_me 11)) 61 = .ok (.aaload, 1) from by decide +kernel
theorem k11_62 {L : Nat} {xs : Nat → Int32} : decode (am_cd (am_me (tb_P L xs) 11)) 62 = .ok (.aload 4, 2) := show decode (am_cd (tb_me 11)) 62 = .ok (.aload 4, 2) from by decide +kernel
theorem k11_64 {L : Nat} {xs : Nat → Int32} : decode (am_cd (am_me (tb_P L xs) 11)) 64 = .ok (.invokevirtual 55, 3) := show decode (am_cd (tb_me 11)) 64 = .ok (.invokevirtual 55, 3) from by decide +kernel
theorem s11_64 {L : Nat} {xs : Nat → Int32} : am_sp (tb_P L xs) 11 55 = none := show tb_spF 11 55 = none from by decide +kernel
theorem c11_64 {L : Nat} {xs : Nat → Int32} : am_ca (tb_P L xs) 11 55 = some (13, 1, 1) := show tb_caF 11 55 = some (13, 1, 1) from by decide +kernel
theorem r11_64 {L : Nat} {xs : Nat → Int32} : am_rf (am_me (tb_P L xs) 13) + 1 ≤ am_rf (am_me (tb_P L xs) 11) ∧ 0 + (am_ml (am_me (tb_P L xs) 13) + 11) + am_rl (am_me (tb_P L xs) 13) ≤ am_rl (am_me (tb_P L xs) 11) := show am_rf (tb_me 13) + 1 ≤ am_rf (tb_me 11) ∧ 0 + (am_ml (tb_me 13) + 11) + am_rl (tb_me 13) ≤ am_rl (tb_me 11) from by decide +kernel
theorem k11_67 {L : Nat} {xs : Nat → Int32} : decode (am_cd (am_me (tb_P L xs) 11)) 67 = .ok (.ifCond .eq 7, 3) := show decode (am_cd (tb_me 11)) 67 = .ok (.ifCond .eq 7, 3) from by decide +kernel
theorem k11_70 {L : Nat} {xs : Nat → Int32} : decode (am_cd (am_me (tb_P L xs) 11)) 70 = .ok (.iconst 1, 1) := show decode (am_cd (tb_me 11)) 70 = .ok (.iconst 1, 1) from by decide +kernel
theorem k11_71 {L : Nat} {xs : Nat → Int32} : decode (am_cd (am_me (tb_P L xs) 11)) 71 = .ok (.goto 4, 3) := show decode (am_cd (tb_me 11)) 71 = .ok (.goto 4, 3) from by decide +kernel
theorem k11_74 {L : Nat} {xs : Nat → Int32} : decode (am_cd (am_me (tb_P L xs) 11)) 74 = .ok (.iconst 0, 1) := show decode (am_cd (tb_me 11)) 74 = .ok (.iconst 0, 1) from by decide +kernel
theorem k11_75 {L : Nat} {xs : Nat → Int32} : decode (am_cd (am_me (tb_P L xs) 11)) 75 = .ok (.istore 8, 2) := show decode (am_cd (tb_me 11)) 75 = .ok (.istore 8, 2) from by decide +kernel
theorem k11_77 {L : Nat} {xs : Nat → Int32} : decode (am_cd (am_me (tb_P L xs) 11)) 77 = .ok (.iinc 9 1, 3) := show decode (am_cd (tb_me 11)) 77 = .ok (.iinc 9 1, 3) from by decide +kernel
theorem k11_80 {L : Nat} {xs : Nat → Int32} : decode (am_cd (am_me (tb_P L xs) 11)) 80 = .ok (.goto (-38), 3) := show decode (am_cd (tb_me 11)) 80 = .ok (.goto (-38), 3) from by decide +kernel
theorem k11_83 {L : Nat} {xs : Nat → Int32} : decode (am_cd (am_me (tb_P L xs) 11)) 83 = .ok (.aload_n 0, 1) := show decode (am_cd (tb_me 11)) 83 = .ok (.aload_n 0, 1) from by decide +kernel
theorem k11_84 {L : Nat} {xs : Nat → Int32} : decode (am_cd (am_me (tb_P L xs) 11)) 84 = .ok (.getfield 27, 3) := show decode (am_cd (tb_me 11)) 84 = .ok (.getfield 27, 3) from by decide +kernel
theorem f11_84 {L : Nat} {xs : Nat → Int32} : am_fd (tb_P L xs) 11 27 = some (4, 4, (.array .long : FieldType), false) := show tb_fdF 11 27 = some (4, 4, (.array .long : FieldType), false) from by decide +kernel
theorem k11_87 {L : Nat} {xs : Nat → Int32} : decode (am_cd (am_me (tb_P L xs) 11)) 87 = .ok (.iload_n 2, 1) := show decode (am_cd (tb_me 11)) 87 = .ok (.iload_n 2, 1) from by decide +kernel
theorem k11_88 {L : Nat} {xs : Nat → Int32} : decode (am_cd (am_me (tb_P L xs) 11)) 88 = .ok (.dup2, 1) := show decode (am_cd (tb_me 11)) 88 = .ok (.dup2, 1) from by decide +kernel
theorem k11_89 {L : Nat} {xs : Nat → Int32} : decode (am_cd (am_me (tb_P L xs) 11)) 89 = .ok (.laload, 1) := show decode (am_cd (tb_me 11)) 89 = .ok (.laload, 1) from by decide +kernel
theorem k11_90 {L : Nat} {xs : Nat → Int32} : decode (am_cd (am_me (tb_P L xs) 11)) 90 = .ok (.lload 5, 2) := show decode (am_cd (tb_me 11)) 90 = .ok (.lload 5, 2) from by decide +kernel
theorem k11_92 {L : Nat} {xs : Nat → Int32} : decode (am_cd (am_me (tb_P L xs) 11)) 92 = .ok (.lor, 1) := show decode (am_cd (tb_me 11)) 92 = .ok (.lor, 1) from by decide +kernel
theorem k11_93 {L : Nat} {xs : Nat → Int32} : decode (am_cd (am_me (tb_P L xs) 11)) 93 = .ok (.lastore, 1) := show decode (am_cd (tb_me 11)) 93 = .ok (.lastore, 1) from by decide +kernel
theorem k11_94 {L : Nat} {xs : Nat → Int32} : decode (am_cd (am_me (tb_P L xs) 11)) 94 = .ok (.aload_n 0, 1) := show decode (am_cd (tb_me 11)) 94 = .ok (.aload_n 0, 1) from by decide +kernel
theorem k11_95 {L : Nat} {xs : Nat → Int32} : decode (am_cd (am_me (tb_P L xs) 11)) 95 = .ok (.getfield 31, 3) := show decode (am_cd (tb_me 11)) 95 = .ok (.getfield 31, 3) from by decide +kernel
theorem f11_95 {L : Nat} {xs : Nat → Int32} : am_fd (tb_P L xs) 11 31 = some (4, 5, (.array .long : FieldType), false) := show tb_fdF 11 31 = some (4, 5, (.array .long : FieldType), false) from by decide +kernel
theorem k11_98 {L : Nat} {xs : Nat → Int32} : decode (am_cd (am_me (tb_P L xs) 11)) 98 = .ok (.iload_n 2, 1) := show decode (am_cd (tb_me 11)) 98 = .ok (.iload_n 2, 1) from by decide +kernel
theorem k11_99 {L : Nat} {xs : Nat → Int32} : decode (am_cd (am_me (tb_P L xs) 11)) 99 = .ok (.dup2, 1) := show decode (am_cd (tb_me 11)) 99 = .ok (.dup2, 1) from by decide +kernel
theorem k11_100 {L : Nat} {xs : Nat → Int32} : decode (am_cd (am_me (tb_P L xs) 11)) 100 = .ok (.laload, 1) := show decode (am_cd (tb_me 11)) 100 = .ok (.laload, 1) from by decide +kernel
theorem k11_101 {L : Nat} {xs : Nat → Int32} : decode (am_cd (am_me (tb_P L xs) 11)) 101 = .ok (.iload 8, 2) := show decode (am_cd (tb_me 11)) 101 = .ok (.iload 8, 2) from by decide +kernel
theorem k11_103 {L : Nat} {xs : Nat → Int32} : decode (am_cd (am_me (tb_P L xs) 11)) 103 = .ok (.ifCond .eq 8, 3) := show decode (am_cd (tb_me 11)) 103 = .ok (.ifCond .eq 8, 3) from by decide +kernel
theorem k11_106 {L : Nat} {xs : Nat → Int32} : decode (am_cd (am_me (tb_P L xs) 11)) 106 = .ok (.lload 5, 2) := show decode (am_cd (tb_me 11)) 106 = .ok (.lload 5, 2) from by decide +kernel
theorem k11_108 {L : Nat} {xs : Nat → Int32} : decode (am_cd (am_me (tb_P L xs) 11)) 108 = .ok (.goto 4, 3) := show decode (am_cd (tb_me 11)) 108 = .ok (.goto 4, 3) from by decide +kernel
theorem k11_111 {L : Nat} {xs : Nat → Int32} : decode (am_cd (am_me (tb_P L xs) 11)) 111 = .ok (.lconst 0, 1) := show decode (am_cd (tb_me 11)) 111 = .ok (.lconst 0, 1) from by decide +kernel
theorem k11_112 {L : Nat} {xs : Nat → Int32} : decode (am_cd (am_me (tb_P L xs) 11)) 112 = .ok (.lor, 1) := show decode (am_cd (tb_me 11)) 112 = .ok (.lor, 1) from by decide +kernel
theorem k11_113 {L : Nat} {xs : Nat → Int32} : decode (am_cd (am_me (tb_P L xs) 11)) 113 = .ok (.lastore, 1) := show decode (am_cd (tb_me 11)) 113 = .ok (.lastore, 1) from by decide +kernel
theorem k11_114 {L : Nat} {xs : Nat → Int32} : decode (am_cd (am_me (tb_P L xs) 11)) 114 = .ok (.aload_n 0, 1) := show decode (am_cd (tb_me 11)) 114 = .ok (.aload_n 0, 1) from by decide +kernel
theorem k11_115 {L : Nat} {xs : Nat → Int32} : decode (am_cd (am_me (tb_P L xs) 11)) 115 = .ok (.getfield 31, 3) := show decode (am_cd (tb_me 11)) 115 = .ok (.getfield 31, 3) from by decide +kernel
theorem f11_115 {L : Nat} {xs : Nat → Int32} : am_fd (tb_P L xs) 11 31 = some (4, 5, (.array .long : FieldType), false) := show tb_fdF 11 31 = some (4, 5, (.array .long : FieldType), false) from by decide +kernel
theorem k11_118 {L : Nat} {xs : Nat → Int32} : decode (am_cd (am_me (tb_P L xs) 11)) 118 = .ok (.iload_n 2, 1) := show decode (am_cd (tb_me 11)) 118 = .ok (.iload_n 2, 1) from by decide +kernel
theorem k11_119 {L : Nat} {xs : Nat → Int32} : decode (am_cd (am_me (tb_P L xs) 11)) 119 = .ok (.laload, 1) := show decode (am_cd (tb_me 11)) 119 = .ok (.laload, 1) from by decide +kernel
theorem k11_120 {L : Nat} {xs : Nat → Int32} : decode (am_cd (am_me (tb_P L xs) 11)) 120 = .ok (.lload 5, 2) := show decode (am_cd (tb_me 11)) 120 = .ok (.lload 5, 2) from by decide +kernel
theorem k11_122 {L : Nat} {xs : Nat → Int32} : decode (am_cd (am_me (tb_P L xs) 11)) 122 = .ok (.land, 1) := show decode (am_cd (tb_me 11)) 122 = .ok (.land, 1) from by decide +kernel
theorem k11_123 {L : Nat} {xs : Nat → Int32} : decode (am_cd (am_me (tb_P L xs) 11)) 123 = .ok (.lconst 0, 1) := show decode (am_cd (tb_me 11)) 123 = .ok (.lconst 0, 1) from by decide +kernel
theorem k11_124 {L : Nat} {xs : Nat → Int32} : decode (am_cd (am_me (tb_P L xs) 11)) 124 = .ok (.lcmp, 1) := show decode (am_cd (tb_me 11)) 124 = .ok (.lcmp, 1) from by decide +kernel
theorem k11_125 {L : Nat} {xs : Nat → Int32} : decode (am_cd (am_me (tb_P L xs) 11)) 125 = .ok (.ifCond .eq 7, 3) := show decode (am_cd (tb_me 11)) 125 = .ok (.ifCond .eq 7, 3) from by decide +kernel
theorem k11_128 {L : Nat} {xs : Nat → Int32} : decode (am_cd (am_me (tb_P L xs) 11)) 128 = .ok (.iconst 1, 1) := show decode (am_cd (tb_me 11)) 128 = .ok (.iconst 1, 1) from by decide +kernel
theorem k11_129 {L : Nat} {xs : Nat → Int32} : decode (am_cd (am_me (tb_P L xs) 11)) 129 = .ok (.goto 4, 3) := show decode (am_cd (tb_me 11)) 129 = .ok (.goto 4, 3) from by decide +kernel
theorem k11_132 {L : Nat} {xs : Nat → Int32} : decode (am_cd (am_me (tb_P L xs) 11)) 132 = .ok (.iconst 0, 1) := show decode (am_cd (tb_me 11)) 132 = .ok (.iconst 0, 1) from by decide +kernel
theorem k11_133 {L : Nat} {xs : Nat → Int32} : decode (am_cd (am_me (tb_P L xs) 11)) 133 = .ok (.ireturn, 1) := show decode (am_cd (tb_me 11)) 133 = .ok (.ireturn, 1) from by decide +kernel
theorem t11 {L : Nat} {xs : Nat → Int32} : am_rt (am_me (tb_P L xs) 11) = some (.boolean : FieldType) := show am_rt (tb_me 11) = some (.boolean : FieldType) from by decide +kernel
theorem l11 {L : Nat} {xs : Nat → Int32} : am_ml (am_me (tb_P L xs) 11) = 10 := show am_ml (tb_me 11) = 10 from by decide +kernel
theorem o11 {L : Nat} {xs : Nat → Int32} (pc : Nat) : am_no (tb_P L xs) 11 pc = true := show (am_hd (tb_me 11)).all (fun q => !(decide (q.1 ≤ pc) && decide (pc < q.2.1))) = true from by rw [show am_hd (tb_me 11) = [] by decide +kernel]; rfl
theorem k12_0 {L : Nat} {xs : Nat → Int32} : decode (am_cd (am_me (tb_P L xs) 12)) 0 = .ok (.iload_n 1, 1) := show decode (am_cd (tb_me 12)) 0 = .ok (.iload_n 1, 1) from by decide +kernel
theorem k12_1 {L : Nat} {xs : Nat → Int32} : decode (am_cd (am_me (tb_P L xs) 12)) 1 = .ok (.ifCond .ne 10, 3) := show decode (am_cd (tb_me 12)) 1 = .ok (.ifCond .ne 10, 3) from by decide +kernel
theorem k12_4 {L : Nat} {xs : Nat → Int32} : decode (am_cd (am_me (tb_P L xs) 12)) 4 = .ok (.aload_n 0, 1) := show decode (am_cd (tb_me 12)) 4 = .ok (.aload_n 0, 1) from by decide +kernel
theorem k12_5 {L : Nat} {xs : Nat → Int32} : decode (am_cd (am_me (tb_P L xs) 12)) 5 = .ok (.getfield 20, 3) := show decode (am_cd (tb_me 12)) 5 = .ok (.getfield 20, 3) from by decide +kernel
theorem f12_5 {L : Nat} {xs : Nat → Int32} : am_fd (tb_P L xs) 12 20 = some (4, 2, (.int : FieldType), true) := show tb_fdF 12 20 = some (4, 2, (.int : FieldType), true) from by decide +kernel
theorem k12_8 {L : Nat} {xs : Nat → Int32} : decode (am_cd (am_me (tb_P L xs) 12)) 8 = .ok (.goto 7, 3) := show decode (am_cd (tb_me 12)) 8 = .ok (.goto 7, 3) from by decide +kernel
theorem k12_11 {L : Nat} {xs : Nat → Int32} : decode (am_cd (am_me (tb_P L xs) 12)) 11 = .ok (.aload_n 0, 1) := show decode (am_cd (tb_me 12)) 11 = .ok (.aload_n 0, 1) from by decide +kernel
theorem k12_12 {L : Nat} {xs : Nat → Int32} : decode (am_cd (am_me (tb_P L xs) 12)) 12 = .ok (.getfield 24, 3) := show decode (am_cd (tb_me 12)) 12 = .ok (.getfield 24, 3) from by decide +kernel
theorem f12_12 {L : Nat} {xs : Nat → Int32} : am_fd (tb_P L xs) 12 24 = some (4, 3, (.int : FieldType), true) := show tb_fdF 12 24 = some (4, 3, (.int : FieldType), true) from by decide +kernel
theorem k12_15 {L : Nat} {xs : Nat → Int32} : decode (am_cd (am_me (tb_P L xs) 12)) 15 = .ok (.ireturn, 1) := show decode (am_cd (tb_me 12)) 15 = .ok (.ireturn, 1) from by decide +kernel
theorem t12 {L : Nat} {xs : Nat → Int32} : am_rt (am_me (tb_P L xs) 12) = some (.int : FieldType) := show am_rt (tb_me 12) = some (.int : FieldType) from by decide +kernel
theorem l12 {L : Nat} {xs : Nat → Int32} : am_ml (am_me (tb_P L xs) 12) = 2 := show am_ml (tb_me 12) = 2 from by decide +kernel
theorem o12 {L : Nat} {xs : Nat → Int32} (pc : Nat) : am_no (tb_P L xs) 12 pc = true := show (am_hd (tb_me 12)).all (fun q => !(decide (q.1 ≤ pc) && decide (pc < q.2.1))) = true from by rw [show am_hd (tb_me 12) = [] by decide +kernel]; rfl
theorem k13_0 {L : Nat} {xs : Nat → Int32} : decode (am_cd (am_me (tb_P L xs) 13)) 0 = .ok (.aload_n 0, 1) := show decode (am_cd (tb_me 13)) 0 = .ok (.aload_n 0, 1) from by decide +kernel
theorem k13_1 {L : Nat} {xs : Nat → Int32} : decode (am_cd (am_me (tb_P L xs) 13)) 1 = .ok (.getfield 30, 3) := show decode (am_cd (tb_me 13)) 1 = .ok (.getfield 30, 3) from by decide +kernel
theorem f13_1 {L : Nat} {xs : Nat → Int32} : am_fd (tb_P L xs) 13 30 = some (2, 0, (.array .int : FieldType), false) := show tb_fdF 13 30 = some (2, 0, (.array .int : FieldType), false) from by decide +kernel
theorem k13_4 {L : Nat} {xs : Nat → Int32} : decode (am_cd (am_me (tb_P L xs) 13)) 4 = .ok (.arraylength, 1) := show decode (am_cd (tb_me 13)) 4 = .ok (.arraylength, 1) from by decide +kernel
theorem k13_5 {L : Nat} {xs : Nat → Int32} : decode (am_cd (am_me (tb_P L xs) 13)) 5 = .ok (.iconst 1, 1) := show decode (am_cd (tb_me 13)) 5 = .ok (.iconst 1, 1) from by decide +kernel
theorem k13_6 {L : Nat} {xs : Nat → Int32} : decode (am_cd (am_me (tb_P L xs) 13)) 6 = .ok (.isub, 1) := show decode (am_cd (tb_me 13)) 6 = .ok (.isub, 1) from by decide +kernel
theorem k13_7 {L : Nat} {xs : Nat → Int32} : decode (am_cd (am_me (tb_P L xs) 13)) 7 = .ok (.istore_n 2, 1) := show decode (am_cd (tb_me 13)) 7 = .ok (.istore_n 2, 1) from by decide +kernel
theorem k13_8 {L : Nat} {xs : Nat → Int32} : decode (am_cd (am_me (tb_P L xs) 13)) 8 = .ok (.iload_n 2, 1) := show decode (am_cd (tb_me 13)) 8 = .ok (.iload_n 2, 1) from by decide +kernel
theorem k13_9 {L : Nat} {xs : Nat → Int32} : decode (am_cd (am_me (tb_P L xs) 13)) 9 = .ok (.ifCond .lt 113, 3) := show decode (am_cd (tb_me 13)) 9 = .ok (.ifCond .lt 113, 3) from by decide +kernel
theorem k13_12 {L : Nat} {xs : Nat → Int32} : decode (am_cd (am_me (tb_P L xs) 13)) 12 = .ok (.aload_n 0, 1) := show decode (am_cd (tb_me 13)) 12 = .ok (.aload_n 0, 1) from by decide +kernel
theorem k13_13 {L : Nat} {xs : Nat → Int32} : decode (am_cd (am_me (tb_P L xs) 13)) 13 = .ok (.getfield 30, 3) := show decode (am_cd (tb_me 13)) 13 = .ok (.getfield 30, 3) from by decide +kernel
theorem f13_13 {L : Nat} {xs : Nat → Int32} : am_fd (tb_P L xs) 13 30 = some (2, 0, (.array .int : FieldType), false) := show tb_fdF 13 30 = some (2, 0, (.array .int : FieldType), false) from by decide +kernel
theorem k13_16 {L : Nat} {xs : Nat → Int32} : decode (am_cd (am_me (tb_P L xs) 13)) 16 = .ok (.iload_n 2, 1) := show decode (am_cd (tb_me 13)) 16 = .ok (.iload_n 2, 1) from by decide +kernel
theorem k13_17 {L : Nat} {xs : Nat → Int32} : decode (am_cd (am_me (tb_P L xs) 13)) 17 = .ok (.iaload, 1) := show decode (am_cd (tb_me 13)) 17 = .ok (.iaload, 1) from by decide +kernel
theorem k13_18 {L : Nat} {xs : Nat → Int32} : decode (am_cd (am_me (tb_P L xs) 13)) 18 = .ok (.istore_n 3, 1) := show decode (am_cd (tb_me 13)) 18 = .ok (.istore_n 3, 1) from by decide +kernel
theorem k13_19 {L : Nat} {xs : Nat → Int32} : decode (am_cd (am_me (tb_P L xs) 13)) 19 = .ok (.iload_n 3, 1) := show decode (am_cd (tb_me 13)) 19 = .ok (.iload_n 3, 1) from by decide +kernel
theorem k13_20 {L : Nat} {xs : Nat → Int32} : decode (am_cd (am_me (tb_P L xs) 13)) 20 = .ok (.bipush 9, 2) := show decode (am_cd (tb_me 13)) 20 = .ok (.bipush 9, 2) from by decide +kernel
theorem k13_22 {L : Nat} {xs : Nat → Int32} : decode (am_cd (am_me (tb_P L xs) 13)) 22 = .ok (.if_icmp .gt 13, 3) := show decode (am_cd (tb_me 13)) 22 = .ok (.if_icmp .gt 13, 3) from by decide +kernel
theorem k13_25 {L : Nat} {xs : Nat → Int32} : decode (am_cd (am_me (tb_P L xs) 13)) 25 = .ok (.aload_n 0, 1) := show decode (am_cd (tb_me 13)) 25 = .ok (.aload_n 0, 1) from by decide +kernel
theorem k13_26 {L : Nat} {xs : Nat → Int32} : decode (am_cd (am_me (tb_P L xs) 13)) 26 = .ok (.getfield 9, 3) := show decode (am_cd (tb_me 13)) 26 = .ok (.getfield 9, 3) from by decide +kernel
theorem f13_26 {L : Nat} {xs : Nat → Int32} : am_fd (tb_P L xs) 13 9 = some (2, 3, (.array .int : FieldType), false) := show tb_fdF 13 9 = some (2, 3, (.array .int : FieldType), false) from by decide +kernel
theorem k13_29 {L : Nat} {xs : Nat → Int32} : decode (am_cd (am_me (tb_P L xs) 13)) 29 = .ok (.iload_n 2, 1) := show decode (am_cd (tb_me 13)) 29 = .ok (.iload_n 2, 1) from by decide +kernel
theorem k13_30 {L : Nat} {xs : Nat → Int32} : decode (am_cd (am_me (tb_P L xs) 13)) 30 = .ok (.iload_n 3, 1) := show decode (am_cd (tb_me 13)) 30 = .ok (.iload_n 3, 1) from by decide +kernel
theorem k13_31 {L : Nat} {xs : Nat → Int32} : decode (am_cd (am_me (tb_P L xs) 13)) 31 = .ok (.iastore, 1) := show decode (am_cd (tb_me 13)) 31 = .ok (.iastore, 1) from by decide +kernel
theorem k13_32 {L : Nat} {xs : Nat → Int32} : decode (am_cd (am_me (tb_P L xs) 13)) 32 = .ok (.goto 84, 3) := show decode (am_cd (tb_me 13)) 32 = .ok (.goto 84, 3) from by decide +kernel
theorem k13_35 {L : Nat} {xs : Nat → Int32} : decode (am_cd (am_me (tb_P L xs) 13)) 35 = .ok (.iload_n 3, 1) := show decode (am_cd (tb_me 13)) 35 = .ok (.iload_n 3, 1) from by decide +kernel
theorem k13_36 {L : Nat} {xs : Nat → Int32} : decode (am_cd (am_me (tb_P L xs) 13)) 36 = .ok (.bipush 40, 2) := show decode (am_cd (tb_me 13)) 36 = .ok (.bipush 40, 2) from by decide +kernel
theorem k13_38 {L : Nat} {xs : Nat → Int32} : decode (am_cd (am_me (tb_P L xs) 13)) 38 = .ok (.if_icmp .gt 18, 3) := show decode (am_cd (tb_me 13)) 38 = .ok (.if_icmp .gt 18, 3) from by decide +kernel
theorem k13_41 {L : Nat} {xs : Nat → Int32} : decode (am_cd (am_me (tb_P L xs) 13)) 41 = .ok (.aload_n 0, 1) := show decode (am_cd (tb_me 13)) 41 = .ok (.aload_n 0, 1) from by decide +kernel
theorem k13_42 {L : Nat} {xs : Nat → Int32} : decode (am_cd (am_me (tb_P L xs) 13)) 42 = .ok (.getfield 9, 3) := show decode (am_cd (tb_me 13)) 42 = .ok (.getfield 9, 3) from by decide +kernel
theorem f13_42 {L : Nat} {xs : Nat → Int32} : am_fd (tb_P L xs) 13 9 = some (2, 3, (.array .int : FieldType), false) := show tb_fdF 13 9 = some (2, 3, (.array .int : FieldType), false) from by decide +kernel
theorem k13_45 {L : Nat} {xs : Nat → Int32} : decode (am_cd (am_me (tb_P L xs) 13)) 45 = .ok (.iload_n 2, 1) := show decode (am_cd (tb_me 13)) 45 = .ok (.iload_n 2, 1) from by decide +kernel
theorem k13_46 {L : Nat} {xs : Nat → Int32} : decode (am_cd (am_me (tb_P L xs) 13)) 46 = .ok (.aload_n 1, 1) := show decode (am_cd (tb_me 13)) 46 = .ok (.aload_n 1, 1) from by decide +kernel
theorem k13_47 {L : Nat} {xs : Nat → Int32} : decode (am_cd (am_me (tb_P L xs) 13)) 47 = .ok (.iload_n 3, 1) := show decode (am_cd (tb_me 13)) 47 = .ok (.iload_n 3, 1) from by decide +kernel
theorem k13_48 {L : Nat} {xs : Nat → Int32} : decode (am_cd (am_me (tb_P L xs) 13)) 48 = .ok (.invokestatic 56, 3) := show decode (am_cd (tb_me 13)) 48 = .ok (.invokestatic 56, 3) from by decide +kernel
theorem s13_48 {L : Nat} {xs : Nat → Int32} : am_sp (tb_P L xs) 13 56 = none := show tb_spF 13 56 = none from by decide +kernel
theorem c13_48 {L : Nat} {xs : Nat → Int32} : am_ca (tb_P L xs) 13 56 = some (14, 1, 0) := show tb_caF 13 56 = some (14, 1, 0) from by decide +kernel
theorem r13_48 {L : Nat} {xs : Nat → Int32} : am_rf (am_me (tb_P L xs) 14) + 1 ≤ am_rf (am_me (tb_P L xs) 13) ∧ 3 + (am_ml (am_me (tb_P L xs) 14) + 11) + am_rl (am_me (tb_P L xs) 14) ≤ am_rl (am_me (tb_P L xs) 13) := show am_rf (tb_me 14) + 1 ≤ am_rf (tb_me 13) ∧ 3 + (am_ml (tb_me 14) + 11) + am_rl (tb_me 14) ≤ am_rl (tb_me 13) from by decide +kernel
theorem k13_51 {L : Nat} {xs : Nat → Int32} : decode (am_cd (am_me (tb_P L xs) 13)) 51 = .ok (.iaload, 1) := show decode (am_cd (tb_me 13)) 51 = .ok (.iaload, 1) from by decide +kernel
theorem k13_52 {L : Nat} {xs : Nat → Int32} : decode (am_cd (am_me (tb_P L xs) 13)) 52 = .ok (.iastore, 1) := show decode (am_cd (tb_me 13)) 52 = .ok (.iastore, 1) from by decide +kernel
theorem k13_53 {L : Nat} {xs : Nat → Int32} : decode (am_cd (am_me (tb_P L xs) 13)) 53 = .ok (.goto 63, 3) := show decode (am_cd (tb_me 13)) 53 = .ok (.goto 63, 3) from by decide +kernel
theorem k13_56 {L : Nat} {xs : Nat → Int32} : decode (am_cd (am_me (tb_P L xs) 13)) 56 = .ok (.aload_n 0, 1) := show decode (am_cd (tb_me 13)) 56 = .ok (.aload_n 0, 1) from by decide +kernel
theorem k13_57 {L : Nat} {xs : Nat → Int32} : decode (am_cd (am_me (tb_P L xs) 13)) 57 = .ok (.getfield 9, 3) := show decode (am_cd (tb_me 13)) 57 = .ok (.getfield 9, 3) from by decide +kernel
theorem f13_57 {L : Nat} {xs : Nat → Int32} : am_fd (tb_P L xs) 13 9 = some (2, 3, (.array .int : FieldType), false) := show tb_fdF 13 9 = some (2, 3, (.array .int : FieldType), false) from by decide +kernel
theorem k13_60 {L : Nat} {xs : Nat → Int32} : decode (am_cd (am_me (tb_P L xs) 13)) 60 = .ok (.aload_n 0, 1) := show decode (am_cd (tb_me 13)) 60 = .ok (.aload_n 0, 1) from by decide +kernel
theorem k13_61 {L : Nat} {xs : Nat → Int32} : decode (am_cd (am_me (tb_P L xs) 13)) 61 = .ok (.getfield 34, 3) := show decode (am_cd (tb_me 13)) 61 = .ok (.getfield 34, 3) from by decide +kernel
theorem f13_61 {L : Nat} {xs : Nat → Int32} : am_fd (tb_P L xs) 13 34 = some (2, 2, (.array .int : FieldType), false) := show tb_fdF 13 34 = some (2, 2, (.array .int : FieldType), false) from by decide +kernel
theorem k13_64 {L : Nat} {xs : Nat → Int32} : decode (am_cd (am_me (tb_P L xs) 13)) 64 = .ok (.iload_n 2, 1) := show decode (am_cd (tb_me 13)) 64 = .ok (.iload_n 2, 1) from by decide +kernel
theorem k13_65 {L : Nat} {xs : Nat → Int32} : decode (am_cd (am_me (tb_P L xs) 13)) 65 = .ok (.iaload, 1) := show decode (am_cd (tb_me 13)) 65 = .ok (.iaload, 1) from by decide +kernel
theorem k13_66 {L : Nat} {xs : Nat → Int32} : decode (am_cd (am_me (tb_P L xs) 13)) 66 = .ok (.iaload, 1) := show decode (am_cd (tb_me 13)) 66 = .ok (.iaload, 1) from by decide +kernel
theorem k13_67 {L : Nat} {xs : Nat → Int32} : decode (am_cd (am_me (tb_P L xs) 13)) 67 = .ok (.istore 4, 2) := show decode (am_cd (tb_me 13)) 67 = .ok (.istore 4, 2) from by decide +kernel
theorem k13_69 {L : Nat} {xs : Nat → Int32} : decode (am_cd (am_me (tb_P L xs) 13)) 69 = .ok (.iload_n 3, 1) := show decode (am_cd (tb_me 13)) 69 = .ok (.iload_n 3, 1) from by decide +kernel
theorem k13_70 {L : Nat} {xs : Nat → Int32} : decode (am_cd (am_me (tb_P L xs) 13)) 70 = .ok (.aload_n 0, 1) := show decode (am_cd (tb_me 13)) 70 = .ok (.aload_n 0, 1) from by decide +kernel
theorem k13_71 {L : Nat} {xs : Nat → Int32} : decode (am_cd (am_me (tb_P L xs) 13)) 71 = .ok (.getfield 9, 3) := show decode (am_cd (tb_me 13)) 71 = .ok (.getfield 9, 3) from by decide +kernel
theorem f13_71 {L : Nat} {xs : Nat → Int32} : am_fd (tb_P L xs) 13 9 = some (2, 3, (.array .int : FieldType), false) := show tb_fdF 13 9 = some (2, 3, (.array .int : FieldType), false) from by decide +kernel
theorem k13_74 {L : Nat} {xs : Nat → Int32} : decode (am_cd (am_me (tb_P L xs) 13)) 74 = .ok (.iload_n 2, 1) := show decode (am_cd (tb_me 13)) 74 = .ok (.iload_n 2, 1) from by decide +kernel
theorem k13_75 {L : Nat} {xs : Nat → Int32} : decode (am_cd (am_me (tb_P L xs) 13)) 75 = .ok (.iconst 1, 1) := show decode (am_cd (tb_me 13)) 75 = .ok (.iconst 1, 1) from by decide +kernel
theorem k13_76 {L : Nat} {xs : Nat → Int32} : decode (am_cd (am_me (tb_P L xs) 13)) 76 = .ok (.iadd, 1) := show decode (am_cd (tb_me 13)) 76 = .ok (.iadd, 1) from by decide +kernel
theorem k13_77 {L : Nat} {xs : Nat → Int32} : decode (am_cd (am_me (tb_P L xs) 13)) 77 = .ok (.iaload, 1) := show decode (am_cd (tb_me 13)) 77 = .ok (.iaload, 1) from by decide +kernel
theorem k13_78 {L : Nat} {xs : Nat → Int32} : decode (am_cd (am_me (tb_P L xs) 13)) 78 = .ok (.aload_n 0, 1) := show decode (am_cd (tb_me 13)) 78 = .ok (.aload_n 0, 1) from by decide +kernel
theorem k13_79 {L : Nat} {xs : Nat → Int32} : decode (am_cd (am_me (tb_P L xs) 13)) 79 = .ok (.getfield 9, 3) := show decode (am_cd (tb_me 13)) 79 = .ok (.getfield 9, 3) from by decide +kernel
theorem f13_79 {L : Nat} {xs : Nat → Int32} : am_fd (tb_P L xs) 13 9 = some (2, 3, (.array .int : FieldType), false) := show tb_fdF 13 9 = some (2, 3, (.array .int : FieldType), false) from by decide +kernel
theorem k13_82 {L : Nat} {xs : Nat → Int32} : decode (am_cd (am_me (tb_P L xs) 13)) 82 = .ok (.aload_n 0, 1) := show decode (am_cd (tb_me 13)) 82 = .ok (.aload_n 0, 1) from by decide +kernel
theorem k13_83 {L : Nat} {xs : Nat → Int32} : decode (am_cd (am_me (tb_P L xs) 13)) 83 = .ok (.getfield 31, 3) := show decode (am_cd (tb_me 13)) 83 = .ok (.getfield 31, 3) from by decide +kernel
theorem f13_83 {L : Nat} {xs : Nat → Int32} : am_fd (tb_P L xs) 13 31 = some (2, 1, (.array .int : FieldType), false) := show tb_fdF 13 31 = some (2, 1, (.array .int : FieldType), false) from by decide +kernel
theorem k13_86 {L : Nat} {xs : Nat → Int32} : decode (am_cd (am_me (tb_P L xs) 13)) 86 = .ok (.iload_n 2, 1) := show decode (am_cd (tb_me 13)) 86 = .ok (.iload_n 2, 1) from by decide +kernel
theorem k13_87 {L : Nat} {xs : Nat → Int32} : decode (am_cd (am_me (tb_P L xs) 13)) 87 = .ok (.iaload, 1) := show decode (am_cd (tb_me 13)) 87 = .ok (.iaload, 1) from by decide +kernel
theorem k13_88 {L : Nat} {xs : Nat → Int32} : decode (am_cd (am_me (tb_P L xs) 13)) 88 = .ok (.iaload, 1) := show decode (am_cd (tb_me 13)) 88 = .ok (.iaload, 1) from by decide +kernel
theorem k13_89 {L : Nat} {xs : Nat → Int32} : decode (am_cd (am_me (tb_P L xs) 13)) 89 = .ok (.iload 4, 2) := show decode (am_cd (tb_me 13)) 89 = .ok (.iload 4, 2) from by decide +kernel
theorem k13_91 {L : Nat} {xs : Nat → Int32} : decode (am_cd (am_me (tb_P L xs) 13)) 91 = .ok (.invokestatic 59, 3) := show decode (am_cd (tb_me 13)) 91 = .ok (.invokestatic 59, 3) from by decide +kernel
theorem s13_91 {L : Nat} {xs : Nat → Int32} : am_sp (tb_P L xs) 13 59 = none := show tb_spF 13 59 = none from by decide +kernel
theorem c13_91 {L : Nat} {xs : Nat → Int32} : am_ca (tb_P L xs) 13 59 = some (15, 4, 0) := show tb_caF 13 59 = some (15, 4, 0) from by decide +kernel
theorem r13_91 {L : Nat} {xs : Nat → Int32} : am_rf (am_me (tb_P L xs) 15) + 1 ≤ am_rf (am_me (tb_P L xs) 13) ∧ 0 + (am_ml (am_me (tb_P L xs) 15) + 11) + am_rl (am_me (tb_P L xs) 15) ≤ am_rl (am_me (tb_P L xs) 13) := show am_rf (tb_me 15) + 1 ≤ am_rf (tb_me 13) ∧ 0 + (am_ml (tb_me 15) + 11) + am_rl (tb_me 15) ≤ am_rl (tb_me 13) from by decide +kernel
theorem k13_94 {L : Nat} {xs : Nat → Int32} : decode (am_cd (am_me (tb_P L xs) 13)) 94 = .ok (.istore 5, 2) := show decode (am_cd (tb_me 13)) 94 = .ok (.istore 5, 2) from by decide +kernel
theorem k13_96 {L : Nat} {xs : Nat → Int32} : decode (am_cd (am_me (tb_P L xs) 13)) 96 = .ok (.aload_n 0, 1) := show decode (am_cd (tb_me 13)) 96 = .ok (.aload_n 0, 1) from by decide +kernel
theorem k13_97 {L : Nat} {xs : Nat → Int32} : decode (am_cd (am_me (tb_P L xs) 13)) 97 = .ok (.getfield 9, 3) := show decode (am_cd (tb_me 13)) 97 = .ok (.getfield 9, 3) from by decide +kernel
theorem f13_97 {L : Nat} {xs : Nat → Int32} : am_fd (tb_P L xs) 13 9 = some (2, 3, (.array .int : FieldType), false) := show tb_fdF 13 9 = some (2, 3, (.array .int : FieldType), false) from by decide +kernel
theorem k13_100 {L : Nat} {xs : Nat → Int32} : decode (am_cd (am_me (tb_P L xs) 13)) 100 = .ok (.iload_n 2, 1) := show decode (am_cd (tb_me 13)) 100 = .ok (.iload_n 2, 1) from by decide +kernel
theorem k13_101 {L : Nat} {xs : Nat → Int32} : decode (am_cd (am_me (tb_P L xs) 13)) 101 = .ok (.sipush (-999), 3) := show decode (am_cd (tb_me 13)) 101 = .ok (.sipush (-999), 3) from by decide +kernel
theorem k13_104 {L : Nat} {xs : Nat → Int32} : decode (am_cd (am_me (tb_P L xs) 13)) 104 = .ok (.sipush 999, 3) := show decode (am_cd (tb_me 13)) 104 = .ok (.sipush 999, 3) from by decide +kernel
theorem k13_107 {L : Nat} {xs : Nat → Int32} : decode (am_cd (am_me (tb_P L xs) 13)) 107 = .ok (.iload 5, 2) := show decode (am_cd (tb_me 13)) 107 = .ok (.iload 5, 2) from by decide +kernel
theorem k13_109 {L : Nat} {xs : Nat → Int32} : decode (am_cd (am_me (tb_P L xs) 13)) 109 = .ok (.invokestatic 63, 3) := show decode (am_cd (tb_me 13)) 109 = .ok (.invokestatic 63, 3) from by decide +kernel
theorem s13_109 {L : Nat} {xs : Nat → Int32} : am_sp (tb_P L xs) 13 63 = some 2 := show tb_spF 13 63 = some 2 from by decide +kernel
theorem r13_109 {L : Nat} {xs : Nat → Int32} : 1 ≤ am_rf (am_me (tb_P L xs) 13) ∧ 3 + 13 ≤ am_rl (am_me (tb_P L xs) 13) := show 1 ≤ am_rf (tb_me 13) ∧ 3 + 13 ≤ am_rl (tb_me 13) from by decide +kernel
theorem k13_112 {L : Nat} {xs : Nat → Int32} : decode (am_cd (am_me (tb_P L xs) 13)) 112 = .ok (.invokestatic 69, 3) := show decode (am_cd (tb_me 13)) 112 = .ok (.invokestatic 69, 3) from by decide +kernel
theorem s13_112 {L : Nat} {xs : Nat → Int32} : am_sp (tb_P L xs) 13 69 = some 1 := show tb_spF 13 69 = some 1 from by decide +kernel
theorem r13_112 {L : Nat} {xs : Nat → Int32} : 1 ≤ am_rf (am_me (tb_P L xs) 13) ∧ 2 + 13 ≤ am_rl (am_me (tb_P L xs) 13) := show 1 ≤ am_rf (tb_me 13) ∧ 2 + 13 ≤ am_rl (tb_me 13) from by decide +kernel
theorem k13_115 {L : Nat} {xs : Nat → Int32} : decode (am_cd (am_me (tb_P L xs) 13)) 115 = .ok (.iastore, 1) := show decode (am_cd (tb_me 13)) 115 = .ok (.iastore, 1) from by decide +kernel
theorem k13_116 {L : Nat} {xs : Nat → Int32} : decode (am_cd (am_me (tb_P L xs) 13)) 116 = .ok (.iinc 2 (-1), 3) := show decode (am_cd (tb_me 13)) 116 = .ok (.iinc 2 (-1), 3) from by decide +kernel
theorem k13_119 {L : Nat} {xs : Nat → Int32} : decode (am_cd (am_me (tb_P L xs) 13)) 119 = .ok (.goto (-111), 3) := show decode (am_cd (tb_me 13)) 119 = .ok (.goto (-111), 3) from by decide +kernel
theorem k13_122 {L : Nat} {xs : Nat → Int32} : decode (am_cd (am_me (tb_P L xs) 13)) 122 = .ok (.aload_n 0, 1) := show decode (am_cd (tb_me 13)) 122 = .ok (.aload_n 0, 1) from by decide +kernel
theorem k13_123 {L : Nat} {xs : Nat → Int32} : decode (am_cd (am_me (tb_P L xs) 13)) 123 = .ok (.getfield 9, 3) := show decode (am_cd (tb_me 13)) 123 = .ok (.getfield 9, 3) from by decide +kernel
theorem f13_123 {L : Nat} {xs : Nat → Int32} : am_fd (tb_P L xs) 13 9 = some (2, 3, (.array .int : FieldType), false) := show tb_fdF 13 9 = some (2, 3, (.array .int : FieldType), false) from by decide +kernel
theorem k13_126 {L : Nat} {xs : Nat → Int32} : decode (am_cd (am_me (tb_P L xs) 13)) 126 = .ok (.iconst 0, 1) := show decode (am_cd (tb_me 13)) 126 = .ok (.iconst 0, 1) from by decide +kernel
theorem k13_127 {L : Nat} {xs : Nat → Int32} : decode (am_cd (am_me (tb_P L xs) 13)) 127 = .ok (.iaload, 1) := show decode (am_cd (tb_me 13)) 127 = .ok (.iaload, 1) from by decide +kernel
theorem k13_128 {L : Nat} {xs : Nat → Int32} : decode (am_cd (am_me (tb_P L xs) 13)) 128 = .ok (.ireturn, 1) := show decode (am_cd (tb_me 13)) 128 = .ok (.ireturn, 1) from by decide +kernel
theorem t13 {L : Nat} {xs : Nat → Int32} : am_rt (am_me (tb_P L xs) 13) = some (.int : FieldType) := show am_rt (tb_me 13) = some (.int : FieldType) from by decide +kernel
theorem l13 {L : Nat} {xs : Nat → Int32} : am_ml (am_me (tb_P L xs) 13) = 6 := show am_ml (tb_me 13) = 6 from by decide +kernel
theorem o13 {L : Nat} {xs : Nat → Int32} (pc : Nat) : am_no (tb_P L xs) 13 pc = true := show (am_hd (tb_me 13)).all (fun q => !(decide (q.1 ≤ pc) && decide (pc < q.2.1))) = true from by rw [show am_hd (tb_me 13) = [] by decide +kernel]; rfl
theorem k14_0 {L : Nat} {xs : Nat → Int32} : decode (am_cd (am_me (tb_P L xs) 14)) 0 = .ok (.iload_n 0, 1) := show decode (am_cd (tb_me 14)) 0 = .ok (.iload_n 0, 1) from by decide +kernel
theorem k14_1 {L : Nat} {xs : Nat → Int32} : decode (am_cd (am_me (tb_P L xs) 14)) 1 = .ok (.bipush 40, 2) := show decode (am_cd (tb_me 14)) 1 = .ok (.bipush 40, 2) from by decide +kernel
theorem k14_3 {L : Nat} {xs : Nat → Int32} : decode (am_cd (am_me (tb_P L xs) 14)) 3 = .ok (.if_icmp .ne 8, 3) := show decode (am_cd (tb_me 14)) 3 = .ok (.if_icmp .ne 8, 3) from by decide +kernel
theorem k14_6 {L : Nat} {xs : Nat → Int32} : decode (am_cd (am_me (tb_P L xs) 14)) 6 = .ok (.bipush 6, 2) := show decode (am_cd (tb_me 14)) 6 = .ok (.bipush 6, 2) from by decide +kernel
theorem k14_8 {L : Nat} {xs : Nat → Int32} : decode (am_cd (am_me (tb_P L xs) 14)) 8 = .ok (.goto 7, 3) := show decode (am_cd (tb_me 14)) 8 = .ok (.goto 7, 3) from by decide +kernel
theorem k14_11 {L : Nat} {xs : Nat → Int32} : decode (am_cd (am_me (tb_P L xs) 14)) 11 = .ok (.iload_n 0, 1) := show decode (am_cd (tb_me 14)) 11 = .ok (.iload_n 0, 1) from by decide +kernel
theorem k14_12 {L : Nat} {xs : Nat → Int32} : decode (am_cd (am_me (tb_P L xs) 14)) 12 = .ok (.bipush 20, 2) := show decode (am_cd (tb_me 14)) 12 = .ok (.bipush 20, 2) from by decide +kernel
theorem k14_14 {L : Nat} {xs : Nat → Int32} : decode (am_cd (am_me (tb_P L xs) 14)) 14 = .ok (.isub, 1) := show decode (am_cd (tb_me 14)) 14 = .ok (.isub, 1) from by decide +kernel
theorem k14_15 {L : Nat} {xs : Nat → Int32} : decode (am_cd (am_me (tb_P L xs) 14)) 15 = .ok (.ireturn, 1) := show decode (am_cd (tb_me 14)) 15 = .ok (.ireturn, 1) from by decide +kernel
theorem t14 {L : Nat} {xs : Nat → Int32} : am_rt (am_me (tb_P L xs) 14) = some (.int : FieldType) := show am_rt (tb_me 14) = some (.int : FieldType) from by decide +kernel
theorem l14 {L : Nat} {xs : Nat → Int32} : am_ml (am_me (tb_P L xs) 14) = 1 := show am_ml (tb_me 14) = 1 from by decide +kernel
theorem o14 {L : Nat} {xs : Nat → Int32} (pc : Nat) : am_no (tb_P L xs) 14 pc = true := show (am_hd (tb_me 14)).all (fun q => !(decide (q.1 ≤ pc) && decide (pc < q.2.1))) = true from by rw [show am_hd (tb_me 14) = [] by decide +kernel]; rfl
theorem k15_0 {L : Nat} {xs : Nat → Int32} : decode (am_cd (am_me (tb_P L xs) 15)) 0 = .ok (.iload_n 0, 1) := show decode (am_cd (tb_me 15)) 0 = .ok (.iload_n 0, 1) from by decide +kernel
theorem k15_1 {L : Nat} {xs : Nat → Int32} : decode (am_cd (am_me (tb_P L xs) 15)) 1 = .ok (.tableswitch 93 50 57 #[47, 51, 55, 59, 70, 81, 85, 89], 47) := show decode (am_cd (tb_me 15)) 1 = .ok (.tableswitch 93 50 57 #[47, 51, 55, 59, 70, 81, 85, 89], 47) from by decide +kernel
theorem k15_48 {L : Nat} {xs : Nat → Int32} : decode (am_cd (am_me (tb_P L xs) 15)) 48 = .ok (.iload_n 1, 1) := show decode (am_cd (tb_me 15)) 48 = .ok (.iload_n 1, 1) from by decide +kernel
theorem k15_49 {L : Nat} {xs : Nat → Int32} : decode (am_cd (am_me (tb_P L xs) 15)) 49 = .ok (.iload_n 2, 1) := show decode (am_cd (tb_me 15)) 49 = .ok (.iload_n 2, 1) from by decide +kernel
theorem k15_50 {L : Nat} {xs : Nat → Int32} : decode (am_cd (am_me (tb_P L xs) 15)) 50 = .ok (.iadd, 1) := show decode (am_cd (tb_me 15)) 50 = .ok (.iadd, 1) from by decide +kernel
theorem k15_51 {L : Nat} {xs : Nat → Int32} : decode (am_cd (am_me (tb_P L xs) 15)) 51 = .ok (.ireturn, 1) := show decode (am_cd (tb_me 15)) 51 = .ok (.ireturn, 1) from by decide +kernel
theorem k15_52 {L : Nat} {xs : Nat → Int32} : decode (am_cd (am_me (tb_P L xs) 15)) 52 = .ok (.iload_n 1, 1) := show decode (am_cd (tb_me 15)) 52 = .ok (.iload_n 1, 1) from by decide +kernel
theorem k15_53 {L : Nat} {xs : Nat → Int32} : decode (am_cd (am_me (tb_P L xs) 15)) 53 = .ok (.iload_n 2, 1) := show decode (am_cd (tb_me 15)) 53 = .ok (.iload_n 2, 1) from by decide +kernel
theorem k15_54 {L : Nat} {xs : Nat → Int32} : decode (am_cd (am_me (tb_P L xs) 15)) 54 = .ok (.isub, 1) := show decode (am_cd (tb_me 15)) 54 = .ok (.isub, 1) from by decide +kernel
theorem k15_55 {L : Nat} {xs : Nat → Int32} : decode (am_cd (am_me (tb_P L xs) 15)) 55 = .ok (.ireturn, 1) := show decode (am_cd (tb_me 15)) 55 = .ok (.ireturn, 1) from by decide +kernel
theorem k15_56 {L : Nat} {xs : Nat → Int32} : decode (am_cd (am_me (tb_P L xs) 15)) 56 = .ok (.iload_n 1, 1) := show decode (am_cd (tb_me 15)) 56 = .ok (.iload_n 1, 1) from by decide +kernel
theorem k15_57 {L : Nat} {xs : Nat → Int32} : decode (am_cd (am_me (tb_P L xs) 15)) 57 = .ok (.iload_n 2, 1) := show decode (am_cd (tb_me 15)) 57 = .ok (.iload_n 2, 1) from by decide +kernel
theorem k15_58 {L : Nat} {xs : Nat → Int32} : decode (am_cd (am_me (tb_P L xs) 15)) 58 = .ok (.imul, 1) := show decode (am_cd (tb_me 15)) 58 = .ok (.imul, 1) from by decide +kernel
theorem k15_59 {L : Nat} {xs : Nat → Int32} : decode (am_cd (am_me (tb_P L xs) 15)) 59 = .ok (.ireturn, 1) := show decode (am_cd (tb_me 15)) 59 = .ok (.ireturn, 1) from by decide +kernel
theorem k15_60 {L : Nat} {xs : Nat → Int32} : decode (am_cd (am_me (tb_P L xs) 15)) 60 = .ok (.iload_n 1, 1) := show decode (am_cd (tb_me 15)) 60 = .ok (.iload_n 1, 1) from by decide +kernel
theorem k15_61 {L : Nat} {xs : Nat → Int32} : decode (am_cd (am_me (tb_P L xs) 15)) 61 = .ok (.iload_n 2, 1) := show decode (am_cd (tb_me 15)) 61 = .ok (.iload_n 2, 1) from by decide +kernel
theorem k15_62 {L : Nat} {xs : Nat → Int32} : decode (am_cd (am_me (tb_P L xs) 15)) 62 = .ok (.if_icmp .ne 7, 3) := show decode (am_cd (tb_me 15)) 62 = .ok (.if_icmp .ne 7, 3) from by decide +kernel
theorem k15_65 {L : Nat} {xs : Nat → Int32} : decode (am_cd (am_me (tb_P L xs) 15)) 65 = .ok (.iconst 1, 1) := show decode (am_cd (tb_me 15)) 65 = .ok (.iconst 1, 1) from by decide +kernel
theorem k15_66 {L : Nat} {xs : Nat → Int32} : decode (am_cd (am_me (tb_P L xs) 15)) 66 = .ok (.goto 4, 3) := show decode (am_cd (tb_me 15)) 66 = .ok (.goto 4, 3) from by decide +kernel
theorem k15_69 {L : Nat} {xs : Nat → Int32} : decode (am_cd (am_me (tb_P L xs) 15)) 69 = .ok (.iconst 0, 1) := show decode (am_cd (tb_me 15)) 69 = .ok (.iconst 0, 1) from by decide +kernel
theorem k15_70 {L : Nat} {xs : Nat → Int32} : decode (am_cd (am_me (tb_P L xs) 15)) 70 = .ok (.ireturn, 1) := show decode (am_cd (tb_me 15)) 70 = .ok (.ireturn, 1) from by decide +kernel
theorem k15_71 {L : Nat} {xs : Nat → Int32} : decode (am_cd (am_me (tb_P L xs) 15)) 71 = .ok (.iload_n 1, 1) := show decode (am_cd (tb_me 15)) 71 = .ok (.iload_n 1, 1) from by decide +kernel
theorem k15_72 {L : Nat} {xs : Nat → Int32} : decode (am_cd (am_me (tb_P L xs) 15)) 72 = .ok (.iload_n 2, 1) := show decode (am_cd (tb_me 15)) 72 = .ok (.iload_n 2, 1) from by decide +kernel
theorem k15_73 {L : Nat} {xs : Nat → Int32} : decode (am_cd (am_me (tb_P L xs) 15)) 73 = .ok (.if_icmp .ge 7, 3) := show decode (am_cd (tb_me 15)) 73 = .ok (.if_icmp .ge 7, 3) from by decide +kernel
theorem k15_76 {L : Nat} {xs : Nat → Int32} : decode (am_cd (am_me (tb_P L xs) 15)) 76 = .ok (.iconst 1, 1) := show decode (am_cd (tb_me 15)) 76 = .ok (.iconst 1, 1) from by decide +kernel
theorem k15_77 {L : Nat} {xs : Nat → Int32} : decode (am_cd (am_me (tb_P L xs) 15)) 77 = .ok (.goto 4, 3) := show decode (am_cd (tb_me 15)) 77 = .ok (.goto 4, 3) from by decide +kernel
theorem k15_80 {L : Nat} {xs : Nat → Int32} : decode (am_cd (am_me (tb_P L xs) 15)) 80 = .ok (.iconst 0, 1) := show decode (am_cd (tb_me 15)) 80 = .ok (.iconst 0, 1) from by decide +kernel
theorem k15_81 {L : Nat} {xs : Nat → Int32} : decode (am_cd (am_me (tb_P L xs) 15)) 81 = .ok (.ireturn, 1) := show decode (am_cd (tb_me 15)) 81 = .ok (.ireturn, 1) from by decide +kernel
theorem k15_82 {L : Nat} {xs : Nat → Int32} : decode (am_cd (am_me (tb_P L xs) 15)) 82 = .ok (.iload_n 1, 1) := show decode (am_cd (tb_me 15)) 82 = .ok (.iload_n 1, 1) from by decide +kernel
theorem k15_83 {L : Nat} {xs : Nat → Int32} : decode (am_cd (am_me (tb_P L xs) 15)) 83 = .ok (.iload_n 2, 1) := show decode (am_cd (tb_me 15)) 83 = .ok (.iload_n 2, 1) from by decide +kernel
theorem k15_84 {L : Nat} {xs : Nat → Int32} : decode (am_cd (am_me (tb_P L xs) 15)) 84 = .ok (.iand, 1) := show decode (am_cd (tb_me 15)) 84 = .ok (.iand, 1) from by decide +kernel
theorem k15_85 {L : Nat} {xs : Nat → Int32} : decode (am_cd (am_me (tb_P L xs) 15)) 85 = .ok (.ireturn, 1) := show decode (am_cd (tb_me 15)) 85 = .ok (.ireturn, 1) from by decide +kernel
theorem k15_86 {L : Nat} {xs : Nat → Int32} : decode (am_cd (am_me (tb_P L xs) 15)) 86 = .ok (.iload_n 1, 1) := show decode (am_cd (tb_me 15)) 86 = .ok (.iload_n 1, 1) from by decide +kernel
theorem k15_87 {L : Nat} {xs : Nat → Int32} : decode (am_cd (am_me (tb_P L xs) 15)) 87 = .ok (.iload_n 2, 1) := show decode (am_cd (tb_me 15)) 87 = .ok (.iload_n 2, 1) from by decide +kernel
theorem k15_88 {L : Nat} {xs : Nat → Int32} : decode (am_cd (am_me (tb_P L xs) 15)) 88 = .ok (.ior, 1) := show decode (am_cd (tb_me 15)) 88 = .ok (.ior, 1) from by decide +kernel
theorem k15_89 {L : Nat} {xs : Nat → Int32} : decode (am_cd (am_me (tb_P L xs) 15)) 89 = .ok (.ireturn, 1) := show decode (am_cd (tb_me 15)) 89 = .ok (.ireturn, 1) from by decide +kernel
theorem k15_90 {L : Nat} {xs : Nat → Int32} : decode (am_cd (am_me (tb_P L xs) 15)) 90 = .ok (.iconst 1, 1) := show decode (am_cd (tb_me 15)) 90 = .ok (.iconst 1, 1) from by decide +kernel
theorem k15_91 {L : Nat} {xs : Nat → Int32} : decode (am_cd (am_me (tb_P L xs) 15)) 91 = .ok (.iload_n 1, 1) := show decode (am_cd (tb_me 15)) 91 = .ok (.iload_n 1, 1) from by decide +kernel
theorem k15_92 {L : Nat} {xs : Nat → Int32} : decode (am_cd (am_me (tb_P L xs) 15)) 92 = .ok (.isub, 1) := show decode (am_cd (tb_me 15)) 92 = .ok (.isub, 1) from by decide +kernel
theorem k15_93 {L : Nat} {xs : Nat → Int32} : decode (am_cd (am_me (tb_P L xs) 15)) 93 = .ok (.ireturn, 1) := show decode (am_cd (tb_me 15)) 93 = .ok (.ireturn, 1) from by decide +kernel
theorem k15_94 {L : Nat} {xs : Nat → Int32} : decode (am_cd (am_me (tb_P L xs) 15)) 94 = .ok (.iload_n 1, 1) := show decode (am_cd (tb_me 15)) 94 = .ok (.iload_n 1, 1) from by decide +kernel
theorem k15_95 {L : Nat} {xs : Nat → Int32} : decode (am_cd (am_me (tb_P L xs) 15)) 95 = .ok (.ifCond .eq 7, 3) := show decode (am_cd (tb_me 15)) 95 = .ok (.ifCond .eq 7, 3) from by decide +kernel
theorem k15_98 {L : Nat} {xs : Nat → Int32} : decode (am_cd (am_me (tb_P L xs) 15)) 98 = .ok (.iload_n 2, 1) := show decode (am_cd (tb_me 15)) 98 = .ok (.iload_n 2, 1) from by decide +kernel
theorem k15_99 {L : Nat} {xs : Nat → Int32} : decode (am_cd (am_me (tb_P L xs) 15)) 99 = .ok (.goto 4, 3) := show decode (am_cd (tb_me 15)) 99 = .ok (.goto 4, 3) from by decide +kernel
theorem k15_102 {L : Nat} {xs : Nat → Int32} : decode (am_cd (am_me (tb_P L xs) 15)) 102 = .ok (.iload_n 3, 1) := show decode (am_cd (tb_me 15)) 102 = .ok (.iload_n 3, 1) from by decide +kernel
theorem k15_103 {L : Nat} {xs : Nat → Int32} : decode (am_cd (am_me (tb_P L xs) 15)) 103 = .ok (.ireturn, 1) := show decode (am_cd (tb_me 15)) 103 = .ok (.ireturn, 1) from by decide +kernel
theorem t15 {L : Nat} {xs : Nat → Int32} : am_rt (am_me (tb_P L xs) 15) = some (.int : FieldType) := show am_rt (tb_me 15) = some (.int : FieldType) from by decide +kernel
theorem l15 {L : Nat} {xs : Nat → Int32} : am_ml (am_me (tb_P L xs) 15) = 4 := show am_ml (tb_me 15) = 4 from by decide +kernel
theorem o15 {L : Nat} {xs : Nat → Int32} (pc : Nat) : am_no (tb_P L xs) 15 pc = true := show (am_hd (tb_me 15)).all (fun q => !(decide (q.1 ≤ pc) && decide (pc < q.2.1))) = true from by rw [show am_hd (tb_me 15) = [] by decide +kernel]; rfl
theorem k16_0 {L : Nat} {xs : Nat → Int32} : decode (am_cd (am_me (tb_P L xs) 16)) 0 = .ok (.aload_n 0, 1) := show decode (am_cd (tb_me 16)) 0 = .ok (.aload_n 0, 1) from by decide +kernel
theorem k16_1 {L : Nat} {xs : Nat → Int32} : decode (am_cd (am_me (tb_P L xs) 16)) 1 = .ok (.getfield 24, 3) := show decode (am_cd (tb_me 16)) 1 = .ok (.getfield 24, 3) from by decide +kernel
theorem f16_1 {L : Nat} {xs : Nat → Int32} : am_fd (tb_P L xs) 16 24 = some (3, 0, (.int : FieldType), false) := show tb_fdF 16 24 = some (3, 0, (.int : FieldType), false) from by decide +kernel
theorem k16_4 {L : Nat} {xs : Nat → Int32} : decode (am_cd (am_me (tb_P L xs) 16)) 4 = .ok (.ifCond .ne 6, 3) := show decode (am_cd (tb_me 16)) 4 = .ok (.ifCond .ne 6, 3) from by decide +kernel
theorem k16_7 {L : Nat} {xs : Nat → Int32} : decode (am_cd (am_me (tb_P L xs) 16)) 7 = .ok (.bipush 6, 2) := show decode (am_cd (tb_me 16)) 7 = .ok (.bipush 6, 2) from by decide +kernel
theorem k16_9 {L : Nat} {xs : Nat → Int32} : decode (am_cd (am_me (tb_P L xs) 16)) 9 = .ok (.ireturn, 1) := show decode (am_cd (tb_me 16)) 9 = .ok (.ireturn, 1) from by decide +kernel
theorem k16_10 {L : Nat} {xs : Nat → Int32} : decode (am_cd (am_me (tb_P L xs) 16)) 10 = .ok (.aload_n 0, 1) := show decode (am_cd (tb_me 16)) 10 = .ok (.aload_n 0, 1) from by decide +kernel
theorem k16_11 {L : Nat} {xs : Nat → Int32} : decode (am_cd (am_me (tb_P L xs) 16)) 11 = .ok (.getfield 31, 3) := show decode (am_cd (tb_me 16)) 11 = .ok (.getfield 31, 3) from by decide +kernel
theorem f16_11 {L : Nat} {xs : Nat → Int32} : am_fd (tb_P L xs) 16 31 = some (3, 2, (.object "GluedMachines$Event" : FieldType), false) := show tb_fdF 16 31 = some (3, 2, (.object "GluedMachines$Event" : FieldType), false) from by decide +kernel
theorem k16_14 {L : Nat} {xs : Nat → Int32} : decode (am_cd (am_me (tb_P L xs) 16)) 14 = .ok (.ifnonnull 7, 3) := show decode (am_cd (tb_me 16)) 14 = .ok (.ifnonnull 7, 3) from by decide +kernel
theorem k16_17 {L : Nat} {xs : Nat → Int32} : decode (am_cd (am_me (tb_P L xs) 16)) 17 = .ok (.iconst 5, 1) := show decode (am_cd (tb_me 16)) 17 = .ok (.iconst 5, 1) from by decide +kernel
theorem k16_18 {L : Nat} {xs : Nat → Int32} : decode (am_cd (am_me (tb_P L xs) 16)) 18 = .ok (.goto 4, 3) := show decode (am_cd (tb_me 16)) 18 = .ok (.goto 4, 3) from by decide +kernel
theorem k16_21 {L : Nat} {xs : Nat → Int32} : decode (am_cd (am_me (tb_P L xs) 16)) 21 = .ok (.iconst 4, 1) := show decode (am_cd (tb_me 16)) 21 = .ok (.iconst 4, 1) from by decide +kernel
theorem k16_22 {L : Nat} {xs : Nat → Int32} : decode (am_cd (am_me (tb_P L xs) 16)) 22 = .ok (.istore_n 1, 1) := show decode (am_cd (tb_me 16)) 22 = .ok (.istore_n 1, 1) from by decide +kernel
theorem k16_23 {L : Nat} {xs : Nat → Int32} : decode (am_cd (am_me (tb_P L xs) 16)) 23 = .ok (.bipush 10, 2) := show decode (am_cd (tb_me 16)) 23 = .ok (.bipush 10, 2) from by decide +kernel
theorem k16_25 {L : Nat} {xs : Nat → Int32} : decode (am_cd (am_me (tb_P L xs) 16)) 25 = .ok (.iconst 1, 1) := show decode (am_cd (tb_me 16)) 25 = .ok (.iconst 1, 1) from by decide +kernel
theorem k16_26 {L : Nat} {xs : Nat → Int32} : decode (am_cd (am_me (tb_P L xs) 16)) 26 = .ok (.iload_n 1, 1) := show decode (am_cd (tb_me 16)) 26 = .ok (.iload_n 1, 1) from by decide +kernel
theorem k16_27 {L : Nat} {xs : Nat → Int32} : decode (am_cd (am_me (tb_P L xs) 16)) 27 = .ok (.ishl, 1) := show decode (am_cd (tb_me 16)) 27 = .ok (.ishl, 1) from by decide +kernel
theorem k16_28 {L : Nat} {xs : Nat → Int32} : decode (am_cd (am_me (tb_P L xs) 16)) 28 = .ok (.ior, 1) := show decode (am_cd (tb_me 16)) 28 = .ok (.ior, 1) from by decide +kernel
theorem k16_29 {L : Nat} {xs : Nat → Int32} : decode (am_cd (am_me (tb_P L xs) 16)) 29 = .ok (.ireturn, 1) := show decode (am_cd (tb_me 16)) 29 = .ok (.ireturn, 1) from by decide +kernel
theorem t16 {L : Nat} {xs : Nat → Int32} : am_rt (am_me (tb_P L xs) 16) = some (.int : FieldType) := show am_rt (tb_me 16) = some (.int : FieldType) from by decide +kernel
theorem l16 {L : Nat} {xs : Nat → Int32} : am_ml (am_me (tb_P L xs) 16) = 2 := show am_ml (tb_me 16) = 2 from by decide +kernel
theorem o16 {L : Nat} {xs : Nat → Int32} (pc : Nat) : am_no (tb_P L xs) 16 pc = true := show (am_hd (tb_me 16)).all (fun q => !(decide (q.1 ≤ pc) && decide (pc < q.2.1))) = true from by rw [show am_hd (tb_me 16) = [] by decide +kernel]; rfl
theorem k17_0 {L : Nat} {xs : Nat → Int32} : decode (am_cd (am_me (tb_P L xs) 17)) 0 = .ok (.aload_n 0, 1) := show decode (am_cd (tb_me 17)) 0 = .ok (.aload_n 0, 1) from by decide +kernel
theorem k17_1 {L : Nat} {xs : Nat → Int32} : decode (am_cd (am_me (tb_P L xs) 17)) 1 = .ok (.aload_n 0, 1) := show decode (am_cd (tb_me 17)) 1 = .ok (.aload_n 0, 1) from by decide +kernel
theorem k17_2 {L : Nat} {xs : Nat → Int32} : decode (am_cd (am_me (tb_P L xs) 17)) 2 = .ok (.aload_n 1, 1) := show decode (am_cd (tb_me 17)) 2 = .ok (.aload_n 1, 1) from by decide +kernel
theorem k17_3 {L : Nat} {xs : Nat → Int32} : decode (am_cd (am_me (tb_P L xs) 17)) 3 = .ok (.invokevirtual 84, 3) := show decode (am_cd (tb_me 17)) 3 = .ok (.invokevirtual 84, 3) from by decide +kernel
theorem s17_3 {L : Nat} {xs : Nat → Int32} : am_sp (tb_P L xs) 17 84 = none := show tb_spF 17 84 = none from by decide +kernel
theorem c17_3 {L : Nat} {xs : Nat → Int32} : am_ca (tb_P L xs) 17 84 = some (18, 1, 1) := show tb_caF 17 84 = some (18, 1, 1) from by decide +kernel
theorem r17_3 {L : Nat} {xs : Nat → Int32} : am_rf (am_me (tb_P L xs) 18) + 1 ≤ am_rf (am_me (tb_P L xs) 17) ∧ 1 + (am_ml (am_me (tb_P L xs) 18) + 11) + am_rl (am_me (tb_P L xs) 18) ≤ am_rl (am_me (tb_P L xs) 17) := show am_rf (tb_me 18) + 1 ≤ am_rf (tb_me 17) ∧ 1 + (am_ml (tb_me 18) + 11) + am_rl (tb_me 18) ≤ am_rl (tb_me 17) from by decide +kernel
theorem k17_6 {L : Nat} {xs : Nat → Int32} : decode (am_cd (am_me (tb_P L xs) 17)) 6 = .ok (.aload_n 1, 1) := show decode (am_cd (tb_me 17)) 6 = .ok (.aload_n 1, 1) from by decide +kernel
theorem k17_7 {L : Nat} {xs : Nat → Int32} : decode (am_cd (am_me (tb_P L xs) 17)) 7 = .ok (.getfield 77, 3) := show decode (am_cd (tb_me 17)) 7 = .ok (.getfield 77, 3) from by decide +kernel
theorem f17_7 {L : Nat} {xs : Nat → Int32} : am_fd (tb_P L xs) 17 77 = some (3, 1, (.int : FieldType), false) := show tb_fdF 17 77 = some (3, 1, (.int : FieldType), false) from by decide +kernel
theorem k17_10 {L : Nat} {xs : Nat → Int32} : decode (am_cd (am_me (tb_P L xs) 17)) 10 = .ok (.invokevirtual 66, 3) := show decode (am_cd (tb_me 17)) 10 = .ok (.invokevirtual 66, 3) from by decide +kernel
theorem s17_10 {L : Nat} {xs : Nat → Int32} : am_sp (tb_P L xs) 17 66 = none := show tb_spF 17 66 = none from by decide +kernel
theorem c17_10 {L : Nat} {xs : Nat → Int32} : am_ca (tb_P L xs) 17 66 = some (22, 2, 1) := show tb_caF 17 66 = some (22, 2, 1) from by decide +kernel
theorem r17_10 {L : Nat} {xs : Nat → Int32} : am_rf (am_me (tb_P L xs) 22) + 1 ≤ am_rf (am_me (tb_P L xs) 17) ∧ 0 + (am_ml (am_me (tb_P L xs) 22) + 11) + am_rl (am_me (tb_P L xs) 22) ≤ am_rl (am_me (tb_P L xs) 17) := show am_rf (tb_me 22) + 1 ≤ am_rf (tb_me 17) ∧ 0 + (am_ml (tb_me 22) + 11) + am_rl (tb_me 22) ≤ am_rl (tb_me 17) from by decide +kernel
theorem k17_13 {L : Nat} {xs : Nat → Int32} : decode (am_cd (am_me (tb_P L xs) 17)) 13 = .ok (.iload_n 2, 1) := show decode (am_cd (tb_me 17)) 13 = .ok (.iload_n 2, 1) from by decide +kernel
theorem k17_14 {L : Nat} {xs : Nat → Int32} : decode (am_cd (am_me (tb_P L xs) 17)) 14 = .ok (.istore_n 3, 1) := show decode (am_cd (tb_me 17)) 14 = .ok (.istore_n 3, 1) from by decide +kernel
theorem k17_15 {L : Nat} {xs : Nat → Int32} : decode (am_cd (am_me (tb_P L xs) 17)) 15 = .ok (.iconst 0, 1) := show decode (am_cd (tb_me 17)) 15 = .ok (.iconst 0, 1) from by decide +kernel
theorem k17_16 {L : Nat} {xs : Nat → Int32} : decode (am_cd (am_me (tb_P L xs) 17)) 16 = .ok (.istore 4, 2) := show decode (am_cd (tb_me 17)) 16 = .ok (.istore 4, 2) from by decide +kernel
theorem k17_18 {L : Nat} {xs : Nat → Int32} : decode (am_cd (am_me (tb_P L xs) 17)) 18 = .ok (.iload 4, 2) := show decode (am_cd (tb_me 17)) 18 = .ok (.iload 4, 2) from by decide +kernel
theorem k17_20 {L : Nat} {xs : Nat → Int32} : decode (am_cd (am_me (tb_P L xs) 17)) 20 = .ok (.aload_n 0, 1) := show decode (am_cd (tb_me 17)) 20 = .ok (.aload_n 0, 1) from by decide +kernel
theorem k17_21 {L : Nat} {xs : Nat → Int32} : decode (am_cd (am_me (tb_P L xs) 17)) 21 = .ok (.getfield 18, 3) := show decode (am_cd (tb_me 17)) 21 = .ok (.getfield 18, 3) from by decide +kernel
theorem f17_21 {L : Nat} {xs : Nat → Int32} : am_fd (tb_P L xs) 17 18 = some (6, 3, (.int : FieldType), true) := show tb_fdF 17 18 = some (6, 3, (.int : FieldType), true) from by decide +kernel
theorem k17_24 {L : Nat} {xs : Nat → Int32} : decode (am_cd (am_me (tb_P L xs) 17)) 24 = .ok (.if_icmp .ge 96, 3) := show decode (am_cd (tb_me 17)) 24 = .ok (.if_icmp .ge 96, 3) from by decide +kernel
theorem k17_27 {L : Nat} {xs : Nat → Int32} : decode (am_cd (am_me (tb_P L xs) 17)) 27 = .ok (.aload_n 0, 1) := show decode (am_cd (tb_me 17)) 27 = .ok (.aload_n 0, 1) from by decide +kernel
theorem k17_28 {L : Nat} {xs : Nat → Int32} : decode (am_cd (am_me (tb_P L xs) 17)) 28 = .ok (.getfield 22, 3) := show decode (am_cd (tb_me 17)) 28 = .ok (.getfield 22, 3) from by decide +kernel
theorem f17_28 {L : Nat} {xs : Nat → Int32} : am_fd (tb_P L xs) 17 22 = some (6, 0, (.object "GluedMachines$Model" : FieldType), false) := show tb_fdF 17 22 = some (6, 0, (.object "GluedMachines$Model" : FieldType), false) from by decide +kernel
theorem k17_31 {L : Nat} {xs : Nat → Int32} : decode (am_cd (am_me (tb_P L xs) 17)) 31 = .ok (.getfield 37, 3) := show decode (am_cd (tb_me 17)) 31 = .ok (.getfield 37, 3) from by decide +kernel
theorem f17_31 {L : Nat} {xs : Nat → Int32} : am_fd (tb_P L xs) 17 37 = some (5, 4, (.object "GluedMachines$Invariants" : FieldType), false) := show tb_fdF 17 37 = some (5, 4, (.object "GluedMachines$Invariants" : FieldType), false) from by decide +kernel
theorem k17_34 {L : Nat} {xs : Nat → Int32} : decode (am_cd (am_me (tb_P L xs) 17)) 34 = .ok (.aload_n 1, 1) := show decode (am_cd (tb_me 17)) 34 = .ok (.aload_n 1, 1) from by decide +kernel
theorem k17_35 {L : Nat} {xs : Nat → Int32} : decode (am_cd (am_me (tb_P L xs) 17)) 35 = .ok (.getfield 58, 3) := show decode (am_cd (tb_me 17)) 35 = .ok (.getfield 58, 3) from by decide +kernel
theorem f17_35 {L : Nat} {xs : Nat → Int32} : am_fd (tb_P L xs) 17 58 = some (3, 0, (.int : FieldType), false) := show tb_fdF 17 58 = some (3, 0, (.int : FieldType), false) from by decide +kernel
theorem k17_38 {L : Nat} {xs : Nat → Int32} : decode (am_cd (am_me (tb_P L xs) 17)) 38 = .ok (.aload_n 0, 1) := show decode (am_cd (tb_me 17)) 38 = .ok (.aload_n 0, 1) from by decide +kernel
theorem k17_39 {L : Nat} {xs : Nat → Int32} : decode (am_cd (am_me (tb_P L xs) 17)) 39 = .ok (.getfield 9, 3) := show decode (am_cd (tb_me 17)) 39 = .ok (.getfield 9, 3) from by decide +kernel
theorem f17_39 {L : Nat} {xs : Nat → Int32} : am_fd (tb_P L xs) 17 9 = some (6, 1, (.array .int : FieldType), false) := show tb_fdF 17 9 = some (6, 1, (.array .int : FieldType), false) from by decide +kernel
theorem k17_42 {L : Nat} {xs : Nat → Int32} : decode (am_cd (am_me (tb_P L xs) 17)) 42 = .ok (.invokevirtual 41, 3) := show decode (am_cd (tb_me 17)) 42 = .ok (.invokevirtual 41, 3) from by decide +kernel
theorem s17_42 {L : Nat} {xs : Nat → Int32} : am_sp (tb_P L xs) 17 41 = none := show tb_spF 17 41 = none from by decide +kernel
theorem c17_42 {L : Nat} {xs : Nat → Int32} : am_ca (tb_P L xs) 17 41 = some (9, 2, 1) := show tb_caF 17 41 = some (9, 2, 1) from by decide +kernel
theorem r17_42 {L : Nat} {xs : Nat → Int32} : am_rf (am_me (tb_P L xs) 9) + 1 ≤ am_rf (am_me (tb_P L xs) 17) ∧ 0 + (am_ml (am_me (tb_P L xs) 9) + 11) + am_rl (am_me (tb_P L xs) 9) ≤ am_rl (am_me (tb_P L xs) 17) := show am_rf (tb_me 9) + 1 ≤ am_rf (tb_me 17) ∧ 0 + (am_ml (tb_me 9) + 11) + am_rl (tb_me 9) ≤ am_rl (tb_me 17) from by decide +kernel
theorem k17_45 {L : Nat} {xs : Nat → Int32} : decode (am_cd (am_me (tb_P L xs) 17)) 45 = .ok (.ifCond .eq 59, 3) := show decode (am_cd (tb_me 17)) 45 = .ok (.ifCond .eq 59, 3) from by decide +kernel
theorem k17_48 {L : Nat} {xs : Nat → Int32} : decode (am_cd (am_me (tb_P L xs) 17)) 48 = .ok (.aload_n 1, 1) := show decode (am_cd (tb_me 17)) 48 = .ok (.aload_n 1, 1) from by decide +kernel
theorem k17_49 {L : Nat} {xs : Nat → Int32} : decode (am_cd (am_me (tb_P L xs) 17)) 49 = .ok (.aload_n 0, 1) := show decode (am_cd (tb_me 17)) 49 = .ok (.aload_n 0, 1) from by decide +kernel
theorem k17_50 {L : Nat} {xs : Nat → Int32} : decode (am_cd (am_me (tb_P L xs) 17)) 50 = .ok (.getfield 9, 3) := show decode (am_cd (tb_me 17)) 50 = .ok (.getfield 9, 3) from by decide +kernel
theorem f17_50 {L : Nat} {xs : Nat → Int32} : am_fd (tb_P L xs) 17 9 = some (6, 1, (.array .int : FieldType), false) := show tb_fdF 17 9 = some (6, 1, (.array .int : FieldType), false) from by decide +kernel
theorem k17_53 {L : Nat} {xs : Nat → Int32} : decode (am_cd (am_me (tb_P L xs) 17)) 53 = .ok (.invokevirtual 80, 3) := show decode (am_cd (tb_me 17)) 53 = .ok (.invokevirtual 80, 3) from by decide +kernel
theorem s17_53 {L : Nat} {xs : Nat → Int32} : am_sp (tb_P L xs) 17 80 = none := show tb_spF 17 80 = none from by decide +kernel
theorem c17_53 {L : Nat} {xs : Nat → Int32} : am_ca (tb_P L xs) 17 80 = some (23, 1, 1) := show tb_caF 17 80 = some (23, 1, 1) from by decide +kernel
theorem r17_53 {L : Nat} {xs : Nat → Int32} : am_rf (am_me (tb_P L xs) 23) + 1 ≤ am_rf (am_me (tb_P L xs) 17) ∧ 0 + (am_ml (am_me (tb_P L xs) 23) + 11) + am_rl (am_me (tb_P L xs) 23) ≤ am_rl (am_me (tb_P L xs) 17) := show am_rf (tb_me 23) + 1 ≤ am_rf (tb_me 17) ∧ 0 + (am_ml (tb_me 23) + 11) + am_rl (tb_me 23) ≤ am_rl (tb_me 17) from by decide +kernel
theorem k17_56 {L : Nat} {xs : Nat → Int32} : decode (am_cd (am_me (tb_P L xs) 17)) 56 = .ok (.ifCond .eq 48, 3) := show decode (am_cd (tb_me 17)) 56 = .ok (.ifCond .eq 48, 3) from by decide +kernel
theorem k17_59 {L : Nat} {xs : Nat → Int32} : decode (am_cd (am_me (tb_P L xs) 17)) 59 = .ok (.iconst 1, 1) := show decode (am_cd (tb_me 17)) 59 = .ok (.iconst 1, 1) from by decide +kernel
theorem k17_60 {L : Nat} {xs : Nat → Int32} : decode (am_cd (am_me (tb_P L xs) 17)) 60 = .ok (.istore 5, 2) := show decode (am_cd (tb_me 17)) 60 = .ok (.istore 5, 2) from by decide +kernel
theorem k17_62 {L : Nat} {xs : Nat → Int32} : decode (am_cd (am_me (tb_P L xs) 17)) 62 = .ok (.iload 5, 2) := show decode (am_cd (tb_me 17)) 62 = .ok (.iload 5, 2) from by decide +kernel
theorem k17_64 {L : Nat} {xs : Nat → Int32} : decode (am_cd (am_me (tb_P L xs) 17)) 64 = .ok (.iconst 5, 1) := show decode (am_cd (tb_me 17)) 64 = .ok (.iconst 5, 1) from by decide +kernel
theorem k17_65 {L : Nat} {xs : Nat → Int32} : decode (am_cd (am_me (tb_P L xs) 17)) 65 = .ok (.if_icmp .gt 39, 3) := show decode (am_cd (tb_me 17)) 65 = .ok (.if_icmp .gt 39, 3) from by decide +kernel
theorem k17_68 {L : Nat} {xs : Nat → Int32} : decode (am_cd (am_me (tb_P L xs) 17)) 68 = .ok (.iconst 1, 1) := show decode (am_cd (tb_me 17)) 68 = .ok (.iconst 1, 1) from by decide +kernel
theorem k17_69 {L : Nat} {xs : Nat → Int32} : decode (am_cd (am_me (tb_P L xs) 17)) 69 = .ok (.iload 5, 2) := show decode (am_cd (tb_me 17)) 69 = .ok (.iload 5, 2) from by decide +kernel
theorem k17_71 {L : Nat} {xs : Nat → Int32} : decode (am_cd (am_me (tb_P L xs) 17)) 71 = .ok (.ishl, 1) := show decode (am_cd (tb_me 17)) 71 = .ok (.ishl, 1) from by decide +kernel
theorem k17_72 {L : Nat} {xs : Nat → Int32} : decode (am_cd (am_me (tb_P L xs) 17)) 72 = .ok (.istore 6, 2) := show decode (am_cd (tb_me 17)) 72 = .ok (.istore 6, 2) from by decide +kernel
theorem k17_74 {L : Nat} {xs : Nat → Int32} : decode (am_cd (am_me (tb_P L xs) 17)) 74 = .ok (.iload_n 3, 1) := show decode (am_cd (tb_me 17)) 74 = .ok (.iload_n 3, 1) from by decide +kernel
theorem k17_75 {L : Nat} {xs : Nat → Int32} : decode (am_cd (am_me (tb_P L xs) 17)) 75 = .ok (.iload 6, 2) := show decode (am_cd (tb_me 17)) 75 = .ok (.iload 6, 2) from by decide +kernel
theorem k17_77 {L : Nat} {xs : Nat → Int32} : decode (am_cd (am_me (tb_P L xs) 17)) 77 = .ok (.iand, 1) := show decode (am_cd (tb_me 17)) 77 = .ok (.iand, 1) from by decide +kernel
theorem k17_78 {L : Nat} {xs : Nat → Int32} : decode (am_cd (am_me (tb_P L xs) 17)) 78 = .ok (.ifCond .eq 20, 3) := show decode (am_cd (tb_me 17)) 78 = .ok (.ifCond .eq 20, 3) from by decide +kernel
theorem k17_81 {L : Nat} {xs : Nat → Int32} : decode (am_cd (am_me (tb_P L xs) 17)) 81 = .ok (.aload_n 0, 1) := show decode (am_cd (tb_me 17)) 81 = .ok (.aload_n 0, 1) from by decide +kernel
theorem k17_82 {L : Nat} {xs : Nat → Int32} : decode (am_cd (am_me (tb_P L xs) 17)) 82 = .ok (.iload 5, 2) := show decode (am_cd (tb_me 17)) 82 = .ok (.iload 5, 2) from by decide +kernel
theorem k17_84 {L : Nat} {xs : Nat → Int32} : decode (am_cd (am_me (tb_P L xs) 17)) 84 = .ok (.aload_n 1, 1) := show decode (am_cd (tb_me 17)) 84 = .ok (.aload_n 1, 1) from by decide +kernel
theorem k17_85 {L : Nat} {xs : Nat → Int32} : decode (am_cd (am_me (tb_P L xs) 17)) 85 = .ok (.invokevirtual 88, 3) := show decode (am_cd (tb_me 17)) 85 = .ok (.invokevirtual 88, 3) from by decide +kernel
theorem s17_85 {L : Nat} {xs : Nat → Int32} : am_sp (tb_P L xs) 17 88 = none := show tb_spF 17 88 = none from by decide +kernel
theorem c17_85 {L : Nat} {xs : Nat → Int32} : am_ca (tb_P L xs) 17 88 = some (24, 2, 1) := show tb_caF 17 88 = some (24, 2, 1) from by decide +kernel
theorem r17_85 {L : Nat} {xs : Nat → Int32} : am_rf (am_me (tb_P L xs) 24) + 1 ≤ am_rf (am_me (tb_P L xs) 17) ∧ 0 + (am_ml (am_me (tb_P L xs) 24) + 11) + am_rl (am_me (tb_P L xs) 24) ≤ am_rl (am_me (tb_P L xs) 17) := show am_rf (tb_me 24) + 1 ≤ am_rf (tb_me 17) ∧ 0 + (am_ml (tb_me 24) + 11) + am_rl (tb_me 24) ≤ am_rl (tb_me 17) from by decide +kernel
theorem k17_88 {L : Nat} {xs : Nat → Int32} : decode (am_cd (am_me (tb_P L xs) 17)) 88 = .ok (.ifCond .ne 10, 3) := show decode (am_cd (tb_me 17)) 88 = .ok (.ifCond .ne 10, 3) from by decide +kernel
theorem k17_91 {L : Nat} {xs : Nat → Int32} : decode (am_cd (am_me (tb_P L xs) 17)) 91 = .ok (.iload_n 3, 1) := show decode (am_cd (tb_me 17)) 91 = .ok (.iload_n 3, 1) from by decide +kernel
theorem k17_92 {L : Nat} {xs : Nat → Int32} : decode (am_cd (am_me (tb_P L xs) 17)) 92 = .ok (.iload 6, 2) := show decode (am_cd (tb_me 17)) 92 = .ok (.iload 6, 2) from by decide +kernel
theorem k17_94 {L : Nat} {xs : Nat → Int32} : decode (am_cd (am_me (tb_P L xs) 17)) 94 = .ok (.iconst (-1), 1) := show decode (am_cd (tb_me 17)) 94 = .ok (.iconst (-1), 1) from by decide +kernel
theorem k17_95 {L : Nat} {xs : Nat → Int32} : decode (am_cd (am_me (tb_P L xs) 17)) 95 = .ok (.ixor, 1) := show decode (am_cd (tb_me 17)) 95 = .ok (.ixor, 1) from by decide +kernel
theorem k17_96 {L : Nat} {xs : Nat → Int32} : decode (am_cd (am_me (tb_P L xs) 17)) 96 = .ok (.iand, 1) := show decode (am_cd (tb_me 17)) 96 = .ok (.iand, 1) from by decide +kernel
theorem k17_97 {L : Nat} {xs : Nat → Int32} : decode (am_cd (am_me (tb_P L xs) 17)) 97 = .ok (.istore_n 3, 1) := show decode (am_cd (tb_me 17)) 97 = .ok (.istore_n 3, 1) from by decide +kernel
theorem k17_98 {L : Nat} {xs : Nat → Int32} : decode (am_cd (am_me (tb_P L xs) 17)) 98 = .ok (.iinc 5 1, 3) := show decode (am_cd (tb_me 17)) 98 = .ok (.iinc 5 1, 3) from by decide +kernel
theorem k17_101 {L : Nat} {xs : Nat → Int32} : decode (am_cd (am_me (tb_P L xs) 17)) 101 = .ok (.goto (-39), 3) := show decode (am_cd (tb_me 17)) 101 = .ok (.goto (-39), 3) from by decide +kernel
theorem k17_104 {L : Nat} {xs : Nat → Int32} : decode (am_cd (am_me (tb_P L xs) 17)) 104 = .ok (.iload_n 3, 1) := show decode (am_cd (tb_me 17)) 104 = .ok (.iload_n 3, 1) from by decide +kernel
theorem k17_105 {L : Nat} {xs : Nat → Int32} : decode (am_cd (am_me (tb_P L xs) 17)) 105 = .ok (.ifCond .ne 5, 3) := show decode (am_cd (tb_me 17)) 105 = .ok (.ifCond .ne 5, 3) from by decide +kernel
theorem k17_108 {L : Nat} {xs : Nat → Int32} : decode (am_cd (am_me (tb_P L xs) 17)) 108 = .ok (.iconst 0, 1) := show decode (am_cd (tb_me 17)) 108 = .ok (.iconst 0, 1) from by decide +kernel
theorem k17_109 {L : Nat} {xs : Nat → Int32} : decode (am_cd (am_me (tb_P L xs) 17)) 109 = .ok (.ireturn, 1) := show decode (am_cd (tb_me 17)) 109 = .ok (.ireturn, 1) from by decide +kernel
theorem k17_110 {L : Nat} {xs : Nat → Int32} : decode (am_cd (am_me (tb_P L xs) 17)) 110 = .ok (.aload_n 0, 1) := show decode (am_cd (tb_me 17)) 110 = .ok (.aload_n 0, 1) from by decide +kernel
theorem k17_111 {L : Nat} {xs : Nat → Int32} : decode (am_cd (am_me (tb_P L xs) 17)) 111 = .ok (.invokevirtual 74, 3) := show decode (am_cd (tb_me 17)) 111 = .ok (.invokevirtual 74, 3) from by decide +kernel
theorem s17_111 {L : Nat} {xs : Nat → Int32} : am_sp (tb_P L xs) 17 74 = none := show tb_spF 17 74 = none from by decide +kernel
theorem c17_111 {L : Nat} {xs : Nat → Int32} : am_ca (tb_P L xs) 17 74 = some (31, 0, 1) := show tb_caF 17 74 = some (31, 0, 1) from by decide +kernel
theorem r17_111 {L : Nat} {xs : Nat → Int32} : am_rf (am_me (tb_P L xs) 31) + 1 ≤ am_rf (am_me (tb_P L xs) 17) ∧ 0 + (am_ml (am_me (tb_P L xs) 31) + 11) + am_rl (am_me (tb_P L xs) 31) ≤ am_rl (am_me (tb_P L xs) 17) := show am_rf (tb_me 31) + 1 ≤ am_rf (tb_me 17) ∧ 0 + (am_ml (tb_me 31) + 11) + am_rl (tb_me 31) ≤ am_rl (tb_me 17) from by decide +kernel
theorem k17_114 {L : Nat} {xs : Nat → Int32} : decode (am_cd (am_me (tb_P L xs) 17)) 114 = .ok (.iinc 4 1, 3) := show decode (am_cd (tb_me 17)) 114 = .ok (.iinc 4 1, 3) from by decide +kernel
theorem k17_117 {L : Nat} {xs : Nat → Int32} : decode (am_cd (am_me (tb_P L xs) 17)) 117 = .ok (.goto (-99), 3) := show decode (am_cd (tb_me 17)) 117 = .ok (.goto (-99), 3) from by decide +kernel
theorem k17_120 {L : Nat} {xs : Nat → Int32} : decode (am_cd (am_me (tb_P L xs) 17)) 120 = .ok (.iload_n 3, 1) := show decode (am_cd (tb_me 17)) 120 = .ok (.iload_n 3, 1) from by decide +kernel
theorem k17_121 {L : Nat} {xs : Nat → Int32} : decode (am_cd (am_me (tb_P L xs) 17)) 121 = .ok (.ireturn, 1) := show decode (am_cd (tb_me 17)) 121 = .ok (.ireturn, 1) from by decide +kernel
theorem t17 {L : Nat} {xs : Nat → Int32} : am_rt (am_me (tb_P L xs) 17) = some (.int : FieldType) := show am_rt (tb_me 17) = some (.int : FieldType) from by decide +kernel
theorem l17 {L : Nat} {xs : Nat → Int32} : am_ml (am_me (tb_P L xs) 17) = 7 := show am_ml (tb_me 17) = 7 from by decide +kernel
theorem o17 {L : Nat} {xs : Nat → Int32} (pc : Nat) : am_no (tb_P L xs) 17 pc = true := show (am_hd (tb_me 17)).all (fun q => !(decide (q.1 ≤ pc) && decide (pc < q.2.1))) = true from by rw [show am_hd (tb_me 17) = [] by decide +kernel]; rfl
theorem k18_0 {L : Nat} {xs : Nat → Int32} : decode (am_cd (am_me (tb_P L xs) 18)) 0 = .ok (.aload_n 1, 1) := show decode (am_cd (tb_me 18)) 0 = .ok (.aload_n 1, 1) from by decide +kernel
theorem k18_1 {L : Nat} {xs : Nat → Int32} : decode (am_cd (am_me (tb_P L xs) 18)) 1 = .ok (.invokevirtual 63, 3) := show decode (am_cd (tb_me 18)) 1 = .ok (.invokevirtual 63, 3) from by decide +kernel
theorem s18_1 {L : Nat} {xs : Nat → Int32} : am_sp (tb_P L xs) 18 63 = none := show tb_spF 18 63 = none from by decide +kernel
theorem c18_1 {L : Nat} {xs : Nat → Int32} : am_ca (tb_P L xs) 18 63 = some (19, 0, 1) := show tb_caF 18 63 = some (19, 0, 1) from by decide +kernel
theorem r18_1 {L : Nat} {xs : Nat → Int32} : am_rf (am_me (tb_P L xs) 19) + 1 ≤ am_rf (am_me (tb_P L xs) 18) ∧ 0 + (am_ml (am_me (tb_P L xs) 19) + 11) + am_rl (am_me (tb_P L xs) 19) ≤ am_rl (am_me (tb_P L xs) 18) := show am_rf (tb_me 19) + 1 ≤ am_rf (tb_me 18) ∧ 0 + (am_ml (tb_me 19) + 11) + am_rl (tb_me 19) ≤ am_rl (tb_me 18) from by decide +kernel
theorem k18_4 {L : Nat} {xs : Nat → Int32} : decode (am_cd (am_me (tb_P L xs) 18)) 4 = .ok (.aload_n 0, 1) := show decode (am_cd (tb_me 18)) 4 = .ok (.aload_n 0, 1) from by decide +kernel
theorem k18_5 {L : Nat} {xs : Nat → Int32} : decode (am_cd (am_me (tb_P L xs) 18)) 5 = .ok (.getfield 22, 3) := show decode (am_cd (tb_me 18)) 5 = .ok (.getfield 22, 3) from by decide +kernel
theorem f18_5 {L : Nat} {xs : Nat → Int32} : am_fd (tb_P L xs) 18 22 = some (6, 0, (.object "GluedMachines$Model" : FieldType), false) := show tb_fdF 18 22 = some (6, 0, (.object "GluedMachines$Model" : FieldType), false) from by decide +kernel
theorem k18_8 {L : Nat} {xs : Nat → Int32} : decode (am_cd (am_me (tb_P L xs) 18)) 8 = .ok (.getfield 37, 3) := show decode (am_cd (tb_me 18)) 8 = .ok (.getfield 37, 3) from by decide +kernel
theorem f18_8 {L : Nat} {xs : Nat → Int32} : am_fd (tb_P L xs) 18 37 = some (5, 4, (.object "GluedMachines$Invariants" : FieldType), false) := show tb_fdF 18 37 = some (5, 4, (.object "GluedMachines$Invariants" : FieldType), false) from by decide +kernel
theorem k18_11 {L : Nat} {xs : Nat → Int32} : decode (am_cd (am_me (tb_P L xs) 18)) 11 = .ok (.aload_n 1, 1) := show decode (am_cd (tb_me 18)) 11 = .ok (.aload_n 1, 1) from by decide +kernel
theorem k18_12 {L : Nat} {xs : Nat → Int32} : decode (am_cd (am_me (tb_P L xs) 18)) 12 = .ok (.getfield 58, 3) := show decode (am_cd (tb_me 18)) 12 = .ok (.getfield 58, 3) from by decide +kernel
theorem f18_12 {L : Nat} {xs : Nat → Int32} : am_fd (tb_P L xs) 18 58 = some (3, 0, (.int : FieldType), false) := show tb_fdF 18 58 = some (3, 0, (.int : FieldType), false) from by decide +kernel
theorem k18_15 {L : Nat} {xs : Nat → Int32} : decode (am_cd (am_me (tb_P L xs) 18)) 15 = .ok (.invokevirtual 47, 3) := show decode (am_cd (tb_me 18)) 15 = .ok (.invokevirtual 47, 3) from by decide +kernel
theorem s18_15 {L : Nat} {xs : Nat → Int32} : am_sp (tb_P L xs) 18 47 = none := show tb_spF 18 47 = none from by decide +kernel
theorem c18_15 {L : Nat} {xs : Nat → Int32} : am_ca (tb_P L xs) 18 47 = some (20, 1, 1) := show tb_caF 18 47 = some (20, 1, 1) from by decide +kernel
theorem r18_15 {L : Nat} {xs : Nat → Int32} : am_rf (am_me (tb_P L xs) 20) + 1 ≤ am_rf (am_me (tb_P L xs) 18) ∧ 1 + (am_ml (am_me (tb_P L xs) 20) + 11) + am_rl (am_me (tb_P L xs) 20) ≤ am_rl (am_me (tb_P L xs) 18) := show am_rf (tb_me 20) + 1 ≤ am_rf (tb_me 18) ∧ 1 + (am_ml (tb_me 20) + 11) + am_rl (tb_me 20) ≤ am_rl (tb_me 18) from by decide +kernel
theorem k18_18 {L : Nat} {xs : Nat → Int32} : decode (am_cd (am_me (tb_P L xs) 18)) 18 = .ok (.ior, 1) := show decode (am_cd (tb_me 18)) 18 = .ok (.ior, 1) from by decide +kernel
theorem k18_19 {L : Nat} {xs : Nat → Int32} : decode (am_cd (am_me (tb_P L xs) 18)) 19 = .ok (.istore_n 2, 1) := show decode (am_cd (tb_me 18)) 19 = .ok (.istore_n 2, 1) from by decide +kernel
theorem k18_20 {L : Nat} {xs : Nat → Int32} : decode (am_cd (am_me (tb_P L xs) 18)) 20 = .ok (.aload_n 1, 1) := show decode (am_cd (tb_me 18)) 20 = .ok (.aload_n 1, 1) from by decide +kernel
theorem k18_21 {L : Nat} {xs : Nat → Int32} : decode (am_cd (am_me (tb_P L xs) 18)) 21 = .ok (.iconst 5, 1) := show decode (am_cd (tb_me 18)) 21 = .ok (.iconst 5, 1) from by decide +kernel
theorem k18_22 {L : Nat} {xs : Nat → Int32} : decode (am_cd (am_me (tb_P L xs) 18)) 22 = .ok (.invokevirtual 92, 3) := show decode (am_cd (tb_me 18)) 22 = .ok (.invokevirtual 92, 3) from by decide +kernel
theorem s18_22 {L : Nat} {xs : Nat → Int32} : am_sp (tb_P L xs) 18 92 = none := show tb_spF 18 92 = none from by decide +kernel
theorem c18_22 {L : Nat} {xs : Nat → Int32} : am_ca (tb_P L xs) 18 92 = some (21, 1, 1) := show tb_caF 18 92 = some (21, 1, 1) from by decide +kernel
theorem r18_22 {L : Nat} {xs : Nat → Int32} : am_rf (am_me (tb_P L xs) 21) + 1 ≤ am_rf (am_me (tb_P L xs) 18) ∧ 0 + (am_ml (am_me (tb_P L xs) 21) + 11) + am_rl (am_me (tb_P L xs) 21) ≤ am_rl (am_me (tb_P L xs) 18) := show am_rf (tb_me 21) + 1 ≤ am_rf (tb_me 18) ∧ 0 + (am_ml (tb_me 21) + 11) + am_rl (tb_me 21) ≤ am_rl (tb_me 18) from by decide +kernel
theorem k18_25 {L : Nat} {xs : Nat → Int32} : decode (am_cd (am_me (tb_P L xs) 18)) 25 = .ok (.ifCond .eq 26, 3) := show decode (am_cd (tb_me 18)) 25 = .ok (.ifCond .eq 26, 3) from by decide +kernel
theorem k18_28 {L : Nat} {xs : Nat → Int32} : decode (am_cd (am_me (tb_P L xs) 18)) 28 = .ok (.aload_n 0, 1) := show decode (am_cd (tb_me 18)) 28 = .ok (.aload_n 0, 1) from by decide +kernel
theorem k18_29 {L : Nat} {xs : Nat → Int32} : decode (am_cd (am_me (tb_P L xs) 18)) 29 = .ok (.getfield 22, 3) := show decode (am_cd (tb_me 18)) 29 = .ok (.getfield 22, 3) from by decide +kernel
theorem f18_29 {L : Nat} {xs : Nat → Int32} : am_fd (tb_P L xs) 18 22 = some (6, 0, (.object "GluedMachines$Model" : FieldType), false) := show tb_fdF 18 22 = some (6, 0, (.object "GluedMachines$Model" : FieldType), false) from by decide +kernel
theorem k18_32 {L : Nat} {xs : Nat → Int32} : decode (am_cd (am_me (tb_P L xs) 18)) 32 = .ok (.getfield 96, 3) := show decode (am_cd (tb_me 18)) 32 = .ok (.getfield 96, 3) from by decide +kernel
theorem f18_32 {L : Nat} {xs : Nat → Int32} : am_fd (tb_P L xs) 18 96 = some (5, 5, (.object "GluedMachines$Formula" : FieldType), true) := show tb_fdF 18 96 = some (5, 5, (.object "GluedMachines$Formula" : FieldType), true) from by decide +kernel
theorem k18_35 {L : Nat} {xs : Nat → Int32} : decode (am_cd (am_me (tb_P L xs) 18)) 35 = .ok (.ifnull 16, 3) := show decode (am_cd (tb_me 18)) 35 = .ok (.ifnull 16, 3) from by decide +kernel
theorem k18_38 {L : Nat} {xs : Nat → Int32} : decode (am_cd (am_me (tb_P L xs) 18)) 38 = .ok (.iload_n 2, 1) := show decode (am_cd (tb_me 18)) 38 = .ok (.iload_n 2, 1) from by decide +kernel
theorem k18_39 {L : Nat} {xs : Nat → Int32} : decode (am_cd (am_me (tb_P L xs) 18)) 39 = .ok (.aload_n 0, 1) := show decode (am_cd (tb_me 18)) 39 = .ok (.aload_n 0, 1) from by decide +kernel
theorem k18_40 {L : Nat} {xs : Nat → Int32} : decode (am_cd (am_me (tb_P L xs) 18)) 40 = .ok (.getfield 22, 3) := show decode (am_cd (tb_me 18)) 40 = .ok (.getfield 22, 3) from by decide +kernel
theorem f18_40 {L : Nat} {xs : Nat → Int32} : am_fd (tb_P L xs) 18 22 = some (6, 0, (.object "GluedMachines$Model" : FieldType), false) := show tb_fdF 18 22 = some (6, 0, (.object "GluedMachines$Model" : FieldType), false) from by decide +kernel
theorem k18_43 {L : Nat} {xs : Nat → Int32} : decode (am_cd (am_me (tb_P L xs) 18)) 43 = .ok (.getfield 96, 3) := show decode (am_cd (tb_me 18)) 43 = .ok (.getfield 96, 3) from by decide +kernel
theorem f18_43 {L : Nat} {xs : Nat → Int32} : am_fd (tb_P L xs) 18 96 = some (5, 5, (.object "GluedMachines$Formula" : FieldType), true) := show tb_fdF 18 96 = some (5, 5, (.object "GluedMachines$Formula" : FieldType), true) from by decide +kernel
theorem k18_46 {L : Nat} {xs : Nat → Int32} : decode (am_cd (am_me (tb_P L xs) 18)) 46 = .ok (.getfield 100, 3) := show decode (am_cd (tb_me 18)) 46 = .ok (.getfield 100, 3) from by decide +kernel
theorem f18_46 {L : Nat} {xs : Nat → Int32} : am_fd (tb_P L xs) 18 100 = some (2, 5, (.int : FieldType), false) := show tb_fdF 18 100 = some (2, 5, (.int : FieldType), false) from by decide +kernel
theorem k18_49 {L : Nat} {xs : Nat → Int32} : decode (am_cd (am_me (tb_P L xs) 18)) 49 = .ok (.ior, 1) := show decode (am_cd (tb_me 18)) 49 = .ok (.ior, 1) from by decide +kernel
theorem k18_50 {L : Nat} {xs : Nat → Int32} : decode (am_cd (am_me (tb_P L xs) 18)) 50 = .ok (.istore_n 2, 1) := show decode (am_cd (tb_me 18)) 50 = .ok (.istore_n 2, 1) from by decide +kernel
theorem k18_51 {L : Nat} {xs : Nat → Int32} : decode (am_cd (am_me (tb_P L xs) 18)) 51 = .ok (.aload_n 1, 1) := show decode (am_cd (tb_me 18)) 51 = .ok (.aload_n 1, 1) from by decide +kernel
theorem k18_52 {L : Nat} {xs : Nat → Int32} : decode (am_cd (am_me (tb_P L xs) 18)) 52 = .ok (.getfield 104, 3) := show decode (am_cd (tb_me 18)) 52 = .ok (.getfield 104, 3) from by decide +kernel
theorem f18_52 {L : Nat} {xs : Nat → Int32} : am_fd (tb_P L xs) 18 104 = some (3, 2, (.object "GluedMachines$Event" : FieldType), false) := show tb_fdF 18 104 = some (3, 2, (.object "GluedMachines$Event" : FieldType), false) from by decide +kernel
theorem k18_55 {L : Nat} {xs : Nat → Int32} : decode (am_cd (am_me (tb_P L xs) 18)) 55 = .ok (.ifnull 16, 3) := show decode (am_cd (tb_me 18)) 55 = .ok (.ifnull 16, 3) from by decide +kernel
theorem k18_58 {L : Nat} {xs : Nat → Int32} : decode (am_cd (am_me (tb_P L xs) 18)) 58 = .ok (.iload_n 2, 1) := show decode (am_cd (tb_me 18)) 58 = .ok (.iload_n 2, 1) from by decide +kernel
theorem k18_59 {L : Nat} {xs : Nat → Int32} : decode (am_cd (am_me (tb_P L xs) 18)) 59 = .ok (.aload_n 1, 1) := show decode (am_cd (tb_me 18)) 59 = .ok (.aload_n 1, 1) from by decide +kernel
theorem k18_60 {L : Nat} {xs : Nat → Int32} : decode (am_cd (am_me (tb_P L xs) 18)) 60 = .ok (.getfield 104, 3) := show decode (am_cd (tb_me 18)) 60 = .ok (.getfield 104, 3) from by decide +kernel
theorem f18_60 {L : Nat} {xs : Nat → Int32} : am_fd (tb_P L xs) 18 104 = some (3, 2, (.object "GluedMachines$Event" : FieldType), false) := show tb_fdF 18 104 = some (3, 2, (.object "GluedMachines$Event" : FieldType), false) from by decide +kernel
theorem k18_63 {L : Nat} {xs : Nat → Int32} : decode (am_cd (am_me (tb_P L xs) 18)) 63 = .ok (.invokevirtual 63, 3) := show decode (am_cd (tb_me 18)) 63 = .ok (.invokevirtual 63, 3) from by decide +kernel
theorem s18_63 {L : Nat} {xs : Nat → Int32} : am_sp (tb_P L xs) 18 63 = none := show tb_spF 18 63 = none from by decide +kernel
theorem c18_63 {L : Nat} {xs : Nat → Int32} : am_ca (tb_P L xs) 18 63 = some (19, 0, 1) := show tb_caF 18 63 = some (19, 0, 1) from by decide +kernel
theorem r18_63 {L : Nat} {xs : Nat → Int32} : am_rf (am_me (tb_P L xs) 19) + 1 ≤ am_rf (am_me (tb_P L xs) 18) ∧ 1 + (am_ml (am_me (tb_P L xs) 19) + 11) + am_rl (am_me (tb_P L xs) 19) ≤ am_rl (am_me (tb_P L xs) 18) := show am_rf (tb_me 19) + 1 ≤ am_rf (tb_me 18) ∧ 1 + (am_ml (tb_me 19) + 11) + am_rl (tb_me 19) ≤ am_rl (tb_me 18) from by decide +kernel
theorem k18_66 {L : Nat} {xs : Nat → Int32} : decode (am_cd (am_me (tb_P L xs) 18)) 66 = .ok (.bipush (-65), 2) := show decode (am_cd (tb_me 18)) 66 = .ok (.bipush (-65), 2) from by decide +kernel
theorem k18_68 {L : Nat} {xs : Nat → Int32} : decode (am_cd (am_me (tb_P L xs) 18)) 68 = .ok (.iand, 1) := show decode (am_cd (tb_me 18)) 68 = .ok (.iand, 1) from by decide +kernel
theorem k18_69 {L : Nat} {xs : Nat → Int32} : decode (am_cd (am_me (tb_P L xs) 18)) 69 = .ok (.ior, 1) := show decode (am_cd (tb_me 18)) 69 = .ok (.ior, 1) from by decide +kernel
theorem k18_70 {L : Nat} {xs : Nat → Int32} : decode (am_cd (am_me (tb_P L xs) 18)) 70 = .ok (.istore_n 2, 1) := show decode (am_cd (tb_me 18)) 70 = .ok (.istore_n 2, 1) from by decide +kernel
theorem k18_71 {L : Nat} {xs : Nat → Int32} : decode (am_cd (am_me (tb_P L xs) 18)) 71 = .ok (.iload_n 2, 1) := show decode (am_cd (tb_me 18)) 71 = .ok (.iload_n 2, 1) from by decide +kernel
theorem k18_72 {L : Nat} {xs : Nat → Int32} : decode (am_cd (am_me (tb_P L xs) 18)) 72 = .ok (.ireturn, 1) := show decode (am_cd (tb_me 18)) 72 = .ok (.ireturn, 1) from by decide +kernel
theorem t18 {L : Nat} {xs : Nat → Int32} : am_rt (am_me (tb_P L xs) 18) = some (.int : FieldType) := show am_rt (tb_me 18) = some (.int : FieldType) from by decide +kernel
theorem l18 {L : Nat} {xs : Nat → Int32} : am_ml (am_me (tb_P L xs) 18) = 3 := show am_ml (tb_me 18) = 3 from by decide +kernel
theorem o18 {L : Nat} {xs : Nat → Int32} (pc : Nat) : am_no (tb_P L xs) 18 pc = true := show (am_hd (tb_me 18)).all (fun q => !(decide (q.1 ≤ pc) && decide (pc < q.2.1))) = true from by rw [show am_hd (tb_me 18) = [] by decide +kernel]; rfl
theorem k19_0 {L : Nat} {xs : Nat → Int32} : decode (am_cd (am_me (tb_P L xs) 19)) 0 = .ok (.aload_n 0, 1) := show decode (am_cd (tb_me 19)) 0 = .ok (.aload_n 0, 1) from by decide +kernel
theorem k19_1 {L : Nat} {xs : Nat → Int32} : decode (am_cd (am_me (tb_P L xs) 19)) 1 = .ok (.getfield 9, 3) := show decode (am_cd (tb_me 19)) 1 = .ok (.getfield 9, 3) from by decide +kernel
theorem f19_1 {L : Nat} {xs : Nat → Int32} : am_fd (tb_P L xs) 19 9 = some (3, 3, (.object "GluedMachines$Formula" : FieldType), true) := show tb_fdF 19 9 = some (3, 3, (.object "GluedMachines$Formula" : FieldType), true) from by decide +kernel
theorem k19_4 {L : Nat} {xs : Nat → Int32} : decode (am_cd (am_me (tb_P L xs) 19)) 4 = .ok (.ifnonnull 7, 3) := show decode (am_cd (tb_me 19)) 4 = .ok (.ifnonnull 7, 3) from by decide +kernel
theorem k19_7 {L : Nat} {xs : Nat → Int32} : decode (am_cd (am_me (tb_P L xs) 19)) 7 = .ok (.iconst 0, 1) := show decode (am_cd (tb_me 19)) 7 = .ok (.iconst 0, 1) from by decide +kernel
theorem k19_8 {L : Nat} {xs : Nat → Int32} : decode (am_cd (am_me (tb_P L xs) 19)) 8 = .ok (.goto 10, 3) := show decode (am_cd (tb_me 19)) 8 = .ok (.goto 10, 3) from by decide +kernel
theorem k19_11 {L : Nat} {xs : Nat → Int32} : decode (am_cd (am_me (tb_P L xs) 19)) 11 = .ok (.aload_n 0, 1) := show decode (am_cd (tb_me 19)) 11 = .ok (.aload_n 0, 1) from by decide +kernel
theorem k19_12 {L : Nat} {xs : Nat → Int32} : decode (am_cd (am_me (tb_P L xs) 19)) 12 = .ok (.getfield 9, 3) := show decode (am_cd (tb_me 19)) 12 = .ok (.getfield 9, 3) from by decide +kernel
theorem f19_12 {L : Nat} {xs : Nat → Int32} : am_fd (tb_P L xs) 19 9 = some (3, 3, (.object "GluedMachines$Formula" : FieldType), true) := show tb_fdF 19 9 = some (3, 3, (.object "GluedMachines$Formula" : FieldType), true) from by decide +kernel
theorem k19_15 {L : Nat} {xs : Nat → Int32} : decode (am_cd (am_me (tb_P L xs) 19)) 15 = .ok (.getfield 47, 3) := show decode (am_cd (tb_me 19)) 15 = .ok (.getfield 47, 3) from by decide +kernel
theorem f19_15 {L : Nat} {xs : Nat → Int32} : am_fd (tb_P L xs) 19 47 = some (2, 5, (.int : FieldType), false) := show tb_fdF 19 47 = some (2, 5, (.int : FieldType), false) from by decide +kernel
theorem k19_18 {L : Nat} {xs : Nat → Int32} : decode (am_cd (am_me (tb_P L xs) 19)) 18 = .ok (.aload_n 0, 1) := show decode (am_cd (tb_me 19)) 18 = .ok (.aload_n 0, 1) from by decide +kernel
theorem k19_19 {L : Nat} {xs : Nat → Int32} : decode (am_cd (am_me (tb_P L xs) 19)) 19 = .ok (.getfield 15, 3) := show decode (am_cd (tb_me 19)) 19 = .ok (.getfield 15, 3) from by decide +kernel
theorem f19_19 {L : Nat} {xs : Nat → Int32} : am_fd (tb_P L xs) 19 15 = some (3, 4, (.object "GluedMachines$Formula" : FieldType), true) := show tb_fdF 19 15 = some (3, 4, (.object "GluedMachines$Formula" : FieldType), true) from by decide +kernel
theorem k19_22 {L : Nat} {xs : Nat → Int32} : decode (am_cd (am_me (tb_P L xs) 19)) 22 = .ok (.ifnonnull 7, 3) := show decode (am_cd (tb_me 19)) 22 = .ok (.ifnonnull 7, 3) from by decide +kernel
theorem k19_25 {L : Nat} {xs : Nat → Int32} : decode (am_cd (am_me (tb_P L xs) 19)) 25 = .ok (.iconst 0, 1) := show decode (am_cd (tb_me 19)) 25 = .ok (.iconst 0, 1) from by decide +kernel
theorem k19_26 {L : Nat} {xs : Nat → Int32} : decode (am_cd (am_me (tb_P L xs) 19)) 26 = .ok (.goto 10, 3) := show decode (am_cd (tb_me 19)) 26 = .ok (.goto 10, 3) from by decide +kernel
theorem k19_29 {L : Nat} {xs : Nat → Int32} : decode (am_cd (am_me (tb_P L xs) 19)) 29 = .ok (.aload_n 0, 1) := show decode (am_cd (tb_me 19)) 29 = .ok (.aload_n 0, 1) from by decide +kernel
theorem k19_30 {L : Nat} {xs : Nat → Int32} : decode (am_cd (am_me (tb_P L xs) 19)) 30 = .ok (.getfield 15, 3) := show decode (am_cd (tb_me 19)) 30 = .ok (.getfield 15, 3) from by decide +kernel
theorem f19_30 {L : Nat} {xs : Nat → Int32} : am_fd (tb_P L xs) 19 15 = some (3, 4, (.object "GluedMachines$Formula" : FieldType), true) := show tb_fdF 19 15 = some (3, 4, (.object "GluedMachines$Formula" : FieldType), true) from by decide +kernel
theorem k19_33 {L : Nat} {xs : Nat → Int32} : decode (am_cd (am_me (tb_P L xs) 19)) 33 = .ok (.getfield 47, 3) := show decode (am_cd (tb_me 19)) 33 = .ok (.getfield 47, 3) from by decide +kernel
theorem f19_33 {L : Nat} {xs : Nat → Int32} : am_fd (tb_P L xs) 19 47 = some (2, 5, (.int : FieldType), false) := show tb_fdF 19 47 = some (2, 5, (.int : FieldType), false) from by decide +kernel
theorem k19_36 {L : Nat} {xs : Nat → Int32} : decode (am_cd (am_me (tb_P L xs) 19)) 36 = .ok (.ior, 1) := show decode (am_cd (tb_me 19)) 36 = .ok (.ior, 1) from by decide +kernel
theorem k19_37 {L : Nat} {xs : Nat → Int32} : decode (am_cd (am_me (tb_P L xs) 19)) 37 = .ok (.istore_n 1, 1) := show decode (am_cd (tb_me 19)) 37 = .ok (.istore_n 1, 1) from by decide +kernel
theorem k19_38 {L : Nat} {xs : Nat → Int32} : decode (am_cd (am_me (tb_P L xs) 19)) 38 = .ok (.iconst 0, 1) := show decode (am_cd (tb_me 19)) 38 = .ok (.iconst 0, 1) from by decide +kernel
theorem k19_39 {L : Nat} {xs : Nat → Int32} : decode (am_cd (am_me (tb_P L xs) 19)) 39 = .ok (.istore_n 2, 1) := show decode (am_cd (tb_me 19)) 39 = .ok (.istore_n 2, 1) from by decide +kernel
theorem k19_40 {L : Nat} {xs : Nat → Int32} : decode (am_cd (am_me (tb_P L xs) 19)) 40 = .ok (.iload_n 2, 1) := show decode (am_cd (tb_me 19)) 40 = .ok (.iload_n 2, 1) from by decide +kernel
theorem k19_41 {L : Nat} {xs : Nat → Int32} : decode (am_cd (am_me (tb_P L xs) 19)) 41 = .ok (.bipush 6, 2) := show decode (am_cd (tb_me 19)) 41 = .ok (.bipush 6, 2) from by decide +kernel
theorem k19_43 {L : Nat} {xs : Nat → Int32} : decode (am_cd (am_me (tb_P L xs) 19)) 43 = .ok (.if_icmp .ge 34, 3) := show decode (am_cd (tb_me 19)) 43 = .ok (.if_icmp .ge 34, 3) from by decide +kernel
theorem k19_46 {L : Nat} {xs : Nat → Int32} : decode (am_cd (am_me (tb_P L xs) 19)) 46 = .ok (.iload_n 1, 1) := show decode (am_cd (tb_me 19)) 46 = .ok (.iload_n 1, 1) from by decide +kernel
theorem k19_47 {L : Nat} {xs : Nat → Int32} : decode (am_cd (am_me (tb_P L xs) 19)) 47 = .ok (.aload_n 0, 1) := show decode (am_cd (tb_me 19)) 47 = .ok (.aload_n 0, 1) from by decide +kernel
theorem k19_48 {L : Nat} {xs : Nat → Int32} : decode (am_cd (am_me (tb_P L xs) 19)) 48 = .ok (.getfield 20, 3) := show decode (am_cd (tb_me 19)) 48 = .ok (.getfield 20, 3) from by decide +kernel
theorem f19_48 {L : Nat} {xs : Nat → Int32} : am_fd (tb_P L xs) 19 20 = some (3, 5, (.array (.object "GluedMachines$Formula") : FieldType), false) := show tb_fdF 19 20 = some (3, 5, (.array (.object "GluedMachines$Formula") : FieldType), false) from by decide +kernel
theorem k19_51 {L : Nat} {xs : Nat → Int32} : decode (am_cd (am_me (tb_P L xs) 19)) 51 = .ok (.iload_n 2, 1) := show decode (am_cd (tb_me 19)) 51 = .ok (.iload_n 2, 1) from by decide +kernel
theorem k19_52 {L : Nat} {xs : Nat → Int32} : decode (am_cd (am_me (tb_P L xs) 19)) 52 = .ok (.aaload, 1) := show decode (am_cd (tb_me 19)) 52 = .ok (.aaload, 1) from by decide +kernel
theorem k19_53 {L : Nat} {xs : Nat → Int32} : decode (am_cd (am_me (tb_P L xs) 19)) 53 = .ok (.ifnonnull 7, 3) := show decode (am_cd (tb_me 19)) 53 = .ok (.ifnonnull 7, 3) from by decide +kernel
theorem k19_56 {L : Nat} {xs : Nat → Int32} : decode (am_cd (am_me (tb_P L xs) 19)) 56 = .ok (.iconst 0, 1) := show decode (am_cd (tb_me 19)) 56 = .ok (.iconst 0, 1) from by decide +kernel
theorem k19_57 {L : Nat} {xs : Nat → Int32} : decode (am_cd (am_me (tb_P L xs) 19)) 57 = .ok (.goto 12, 3) := show decode (am_cd (tb_me 19)) 57 = .ok (.goto 12, 3) from by decide +kernel
theorem k19_60 {L : Nat} {xs : Nat → Int32} : decode (am_cd (am_me (tb_P L xs) 19)) 60 = .ok (.aload_n 0, 1) := show decode (am_cd (tb_me 19)) 60 = .ok (.aload_n 0, 1) from by decide +kernel
theorem k19_61 {L : Nat} {xs : Nat → Int32} : decode (am_cd (am_me (tb_P L xs) 19)) 61 = .ok (.getfield 20, 3) := show decode (am_cd (tb_me 19)) 61 = .ok (.getfield 20, 3) from by decide +kernel
theorem f19_61 {L : Nat} {xs : Nat → Int32} : am_fd (tb_P L xs) 19 20 = some (3, 5, (.array (.object "GluedMachines$Formula") : FieldType), false) := show tb_fdF 19 20 = some (3, 5, (.array (.object "GluedMachines$Formula") : FieldType), false) from by decide +kernel
theorem k19_64 {L : Nat} {xs : Nat → Int32} : decode (am_cd (am_me (tb_P L xs) 19)) 64 = .ok (.iload_n 2, 1) := show decode (am_cd (tb_me 19)) 64 = .ok (.iload_n 2, 1) from by decide +kernel
theorem k19_65 {L : Nat} {xs : Nat → Int32} : decode (am_cd (am_me (tb_P L xs) 19)) 65 = .ok (.aaload, 1) := show decode (am_cd (tb_me 19)) 65 = .ok (.aaload, 1) from by decide +kernel
theorem k19_66 {L : Nat} {xs : Nat → Int32} : decode (am_cd (am_me (tb_P L xs) 19)) 66 = .ok (.getfield 47, 3) := show decode (am_cd (tb_me 19)) 66 = .ok (.getfield 47, 3) from by decide +kernel
theorem f19_66 {L : Nat} {xs : Nat → Int32} : am_fd (tb_P L xs) 19 47 = some (2, 5, (.int : FieldType), false) := show tb_fdF 19 47 = some (2, 5, (.int : FieldType), false) from by decide +kernel
theorem k19_69 {L : Nat} {xs : Nat → Int32} : decode (am_cd (am_me (tb_P L xs) 19)) 69 = .ok (.ior, 1) := show decode (am_cd (tb_me 19)) 69 = .ok (.ior, 1) from by decide +kernel
theorem k19_70 {L : Nat} {xs : Nat → Int32} : decode (am_cd (am_me (tb_P L xs) 19)) 70 = .ok (.istore_n 1, 1) := show decode (am_cd (tb_me 19)) 70 = .ok (.istore_n 1, 1) from by decide +kernel
theorem k19_71 {L : Nat} {xs : Nat → Int32} : decode (am_cd (am_me (tb_P L xs) 19)) 71 = .ok (.iinc 2 1, 3) := show decode (am_cd (tb_me 19)) 71 = .ok (.iinc 2 1, 3) from by decide +kernel
theorem k19_74 {L : Nat} {xs : Nat → Int32} : decode (am_cd (am_me (tb_P L xs) 19)) 74 = .ok (.goto (-34), 3) := show decode (am_cd (tb_me 19)) 74 = .ok (.goto (-34), 3) from by decide +kernel
theorem k19_77 {L : Nat} {xs : Nat → Int32} : decode (am_cd (am_me (tb_P L xs) 19)) 77 = .ok (.iload_n 1, 1) := show decode (am_cd (tb_me 19)) 77 = .ok (.iload_n 1, 1) from by decide +kernel
theorem k19_78 {L : Nat} {xs : Nat → Int32} : decode (am_cd (am_me (tb_P L xs) 19)) 78 = .ok (.ireturn, 1) := show decode (am_cd (tb_me 19)) 78 = .ok (.ireturn, 1) from by decide +kernel
theorem t19 {L : Nat} {xs : Nat → Int32} : am_rt (am_me (tb_P L xs) 19) = some (.int : FieldType) := show am_rt (tb_me 19) = some (.int : FieldType) from by decide +kernel
theorem l19 {L : Nat} {xs : Nat → Int32} : am_ml (am_me (tb_P L xs) 19) = 3 := show am_ml (tb_me 19) = 3 from by decide +kernel
theorem o19 {L : Nat} {xs : Nat → Int32} (pc : Nat) : am_no (tb_P L xs) 19 pc = true := show (am_hd (tb_me 19)).all (fun q => !(decide (q.1 ≤ pc) && decide (pc < q.2.1))) = true from by rw [show am_hd (tb_me 19) = [] by decide +kernel]; rfl
theorem k20_0 {L : Nat} {xs : Nat → Int32} : decode (am_cd (am_me (tb_P L xs) 20)) 0 = .ok (.iconst 0, 1) := show decode (am_cd (tb_me 20)) 0 = .ok (.iconst 0, 1) from by decide +kernel
theorem k20_1 {L : Nat} {xs : Nat → Int32} : decode (am_cd (am_me (tb_P L xs) 20)) 1 = .ok (.istore_n 2, 1) := show decode (am_cd (tb_me 20)) 1 = .ok (.istore_n 2, 1) from by decide +kernel
theorem k20_2 {L : Nat} {xs : Nat → Int32} : decode (am_cd (am_me (tb_P L xs) 20)) 2 = .ok (.iconst 0, 1) := show decode (am_cd (tb_me 20)) 2 = .ok (.iconst 0, 1) from by decide +kernel
theorem k20_3 {L : Nat} {xs : Nat → Int32} : decode (am_cd (am_me (tb_P L xs) 20)) 3 = .ok (.istore_n 3, 1) := show decode (am_cd (tb_me 20)) 3 = .ok (.istore_n 3, 1) from by decide +kernel
theorem k20_4 {L : Nat} {xs : Nat → Int32} : decode (am_cd (am_me (tb_P L xs) 20)) 4 = .ok (.iload_n 3, 1) := show decode (am_cd (tb_me 20)) 4 = .ok (.iload_n 3, 1) from by decide +kernel
theorem k20_5 {L : Nat} {xs : Nat → Int32} : decode (am_cd (am_me (tb_P L xs) 20)) 5 = .ok (.aload_n 0, 1) := show decode (am_cd (tb_me 20)) 5 = .ok (.aload_n 0, 1) from by decide +kernel
theorem k20_6 {L : Nat} {xs : Nat → Int32} : decode (am_cd (am_me (tb_P L xs) 20)) 6 = .ok (.getfield 20, 3) := show decode (am_cd (tb_me 20)) 6 = .ok (.getfield 20, 3) from by decide +kernel
theorem f20_6 {L : Nat} {xs : Nat → Int32} : am_fd (tb_P L xs) 20 20 = some (4, 2, (.int : FieldType), true) := show tb_fdF 20 20 = some (4, 2, (.int : FieldType), true) from by decide +kernel
theorem k20_9 {L : Nat} {xs : Nat → Int32} : decode (am_cd (am_me (tb_P L xs) 20)) 9 = .ok (.if_icmp .ge 21, 3) := show decode (am_cd (tb_me 20)) 9 = .ok (.if_icmp .ge 21, 3) from by decide +kernel
theorem k20_12 {L : Nat} {xs : Nat → Int32} : decode (am_cd (am_me (tb_P L xs) 20)) 12 = .ok (.iload_n 2, 1) := show decode (am_cd (tb_me 20)) 12 = .ok (.iload_n 2, 1) from by decide +kernel
theorem k20_13 {L : Nat} {xs : Nat → Int32} : decode (am_cd (am_me (tb_P L xs) 20)) 13 = .ok (.aload_n 0, 1) := show decode (am_cd (tb_me 20)) 13 = .ok (.aload_n 0, 1) from by decide +kernel
theorem k20_14 {L : Nat} {xs : Nat → Int32} : decode (am_cd (am_me (tb_P L xs) 20)) 14 = .ok (.getfield 11, 3) := show decode (am_cd (tb_me 20)) 14 = .ok (.getfield 11, 3) from by decide +kernel
theorem f20_14 {L : Nat} {xs : Nat → Int32} : am_fd (tb_P L xs) 20 11 = some (4, 0, (.array (.object "GluedMachines$Formula") : FieldType), false) := show tb_fdF 20 11 = some (4, 0, (.array (.object "GluedMachines$Formula") : FieldType), false) from by decide +kernel
theorem k20_17 {L : Nat} {xs : Nat → Int32} : decode (am_cd (am_me (tb_P L xs) 20)) 17 = .ok (.iload_n 3, 1) := show decode (am_cd (tb_me 20)) 17 = .ok (.iload_n 3, 1) from by decide +kernel
theorem k20_18 {L : Nat} {xs : Nat → Int32} : decode (am_cd (am_me (tb_P L xs) 20)) 18 = .ok (.aaload, 1) := show decode (am_cd (tb_me 20)) 18 = .ok (.aaload, 1) from by decide +kernel
theorem k20_19 {L : Nat} {xs : Nat → Int32} : decode (am_cd (am_me (tb_P L xs) 20)) 19 = .ok (.getfield 44, 3) := show decode (am_cd (tb_me 20)) 19 = .ok (.getfield 44, 3) from by decide +kernel
theorem f20_19 {L : Nat} {xs : Nat → Int32} : am_fd (tb_P L xs) 20 44 = some (2, 5, (.int : FieldType), false) := show tb_fdF 20 44 = some (2, 5, (.int : FieldType), false) from by decide +kernel
theorem k20_22 {L : Nat} {xs : Nat → Int32} : decode (am_cd (am_me (tb_P L xs) 20)) 22 = .ok (.ior, 1) := show decode (am_cd (tb_me 20)) 22 = .ok (.ior, 1) from by decide +kernel
theorem k20_23 {L : Nat} {xs : Nat → Int32} : decode (am_cd (am_me (tb_P L xs) 20)) 23 = .ok (.istore_n 2, 1) := show decode (am_cd (tb_me 20)) 23 = .ok (.istore_n 2, 1) from by decide +kernel
theorem k20_24 {L : Nat} {xs : Nat → Int32} : decode (am_cd (am_me (tb_P L xs) 20)) 24 = .ok (.iinc 3 1, 3) := show decode (am_cd (tb_me 20)) 24 = .ok (.iinc 3 1, 3) from by decide +kernel
theorem k20_27 {L : Nat} {xs : Nat → Int32} : decode (am_cd (am_me (tb_P L xs) 20)) 27 = .ok (.goto (-23), 3) := show decode (am_cd (tb_me 20)) 27 = .ok (.goto (-23), 3) from by decide +kernel
theorem k20_30 {L : Nat} {xs : Nat → Int32} : decode (am_cd (am_me (tb_P L xs) 20)) 30 = .ok (.iload_n 1, 1) := show decode (am_cd (tb_me 20)) 30 = .ok (.iload_n 1, 1) from by decide +kernel
theorem k20_31 {L : Nat} {xs : Nat → Int32} : decode (am_cd (am_me (tb_P L xs) 20)) 31 = .ok (.ifCond .ne 5, 3) := show decode (am_cd (tb_me 20)) 31 = .ok (.ifCond .ne 5, 3) from by decide +kernel
theorem k20_34 {L : Nat} {xs : Nat → Int32} : decode (am_cd (am_me (tb_P L xs) 20)) 34 = .ok (.iload_n 2, 1) := show decode (am_cd (tb_me 20)) 34 = .ok (.iload_n 2, 1) from by decide +kernel
theorem k20_35 {L : Nat} {xs : Nat → Int32} : decode (am_cd (am_me (tb_P L xs) 20)) 35 = .ok (.ireturn, 1) := show decode (am_cd (tb_me 20)) 35 = .ok (.ireturn, 1) from by decide +kernel
theorem k20_36 {L : Nat} {xs : Nat → Int32} : decode (am_cd (am_me (tb_P L xs) 20)) 36 = .ok (.iconst 0, 1) := show decode (am_cd (tb_me 20)) 36 = .ok (.iconst 0, 1) from by decide +kernel
theorem k20_37 {L : Nat} {xs : Nat → Int32} : decode (am_cd (am_me (tb_P L xs) 20)) 37 = .ok (.istore_n 3, 1) := show decode (am_cd (tb_me 20)) 37 = .ok (.istore_n 3, 1) from by decide +kernel
theorem k20_38 {L : Nat} {xs : Nat → Int32} : decode (am_cd (am_me (tb_P L xs) 20)) 38 = .ok (.iload_n 3, 1) := show decode (am_cd (tb_me 20)) 38 = .ok (.iload_n 3, 1) from by decide +kernel
theorem k20_39 {L : Nat} {xs : Nat → Int32} : decode (am_cd (am_me (tb_P L xs) 20)) 39 = .ok (.aload_n 0, 1) := show decode (am_cd (tb_me 20)) 39 = .ok (.aload_n 0, 1) from by decide +kernel
theorem k20_40 {L : Nat} {xs : Nat → Int32} : decode (am_cd (am_me (tb_P L xs) 20)) 40 = .ok (.getfield 24, 3) := show decode (am_cd (tb_me 20)) 40 = .ok (.getfield 24, 3) from by decide +kernel
theorem f20_40 {L : Nat} {xs : Nat → Int32} : am_fd (tb_P L xs) 20 24 = some (4, 3, (.int : FieldType), true) := show tb_fdF 20 24 = some (4, 3, (.int : FieldType), true) from by decide +kernel
theorem k20_43 {L : Nat} {xs : Nat → Int32} : decode (am_cd (am_me (tb_P L xs) 20)) 43 = .ok (.if_icmp .ge 21, 3) := show decode (am_cd (tb_me 20)) 43 = .ok (.if_icmp .ge 21, 3) from by decide +kernel
theorem k20_46 {L : Nat} {xs : Nat → Int32} : decode (am_cd (am_me (tb_P L xs) 20)) 46 = .ok (.iload_n 2, 1) := show decode (am_cd (tb_me 20)) 46 = .ok (.iload_n 2, 1) from by decide +kernel
theorem k20_47 {L : Nat} {xs : Nat → Int32} : decode (am_cd (am_me (tb_P L xs) 20)) 47 = .ok (.aload_n 0, 1) := show decode (am_cd (tb_me 20)) 47 = .ok (.aload_n 0, 1) from by decide +kernel
theorem k20_48 {L : Nat} {xs : Nat → Int32} : decode (am_cd (am_me (tb_P L xs) 20)) 48 = .ok (.getfield 17, 3) := show decode (am_cd (tb_me 20)) 48 = .ok (.getfield 17, 3) from by decide +kernel
theorem f20_48 {L : Nat} {xs : Nat → Int32} : am_fd (tb_P L xs) 20 17 = some (4, 1, (.array (.object "GluedMachines$Formula") : FieldType), false) := show tb_fdF 20 17 = some (4, 1, (.array (.object "GluedMachines$Formula") : FieldType), false) from by decide +kernel
theorem k20_51 {L : Nat} {xs : Nat → Int32} : decode (am_cd (am_me (tb_P L xs) 20)) 51 = .ok (.iload_n 3, 1) := show decode (am_cd (tb_me 20)) 51 = .ok (.iload_n 3, 1) from by decide +kernel
theorem k20_52 {L : Nat} {xs : Nat → Int32} : decode (am_cd (am_me (tb_P L xs) 20)) 52 = .ok (.aaload, 1) := show decode (am_cd (tb_me 20)) 52 = .ok (.aaload, 1) from by decide +kernel
theorem k20_53 {L : Nat} {xs : Nat → Int32} : decode (am_cd (am_me (tb_P L xs) 20)) 53 = .ok (.getfield 44, 3) := show decode (am_cd (tb_me 20)) 53 = .ok (.getfield 44, 3) from by decide +kernel
theorem f20_53 {L : Nat} {xs : Nat → Int32} : am_fd (tb_P L xs) 20 44 = some (2, 5, (.int : FieldType), false) := show tb_fdF 20 44 = some (2, 5, (.int : FieldType), false) from by decide +kernel
theorem k20_56 {L : Nat} {xs : Nat → Int32} : decode (am_cd (am_me (tb_P L xs) 20)) 56 = .ok (.ior, 1) := show decode (am_cd (tb_me 20)) 56 = .ok (.ior, 1) from by decide +kernel
theorem k20_57 {L : Nat} {xs : Nat → Int32} : decode (am_cd (am_me (tb_P L xs) 20)) 57 = .ok (.istore_n 2, 1) := show decode (am_cd (tb_me 20)) 57 = .ok (.istore_n 2, 1) from by decide +kernel
theorem k20_58 {L : Nat} {xs : Nat → Int32} : decode (am_cd (am_me (tb_P L xs) 20)) 58 = .ok (.iinc 3 1, 3) := show decode (am_cd (tb_me 20)) 58 = .ok (.iinc 3 1, 3) from by decide +kernel
theorem k20_61 {L : Nat} {xs : Nat → Int32} : decode (am_cd (am_me (tb_P L xs) 20)) 61 = .ok (.goto (-23), 3) := show decode (am_cd (tb_me 20)) 61 = .ok (.goto (-23), 3) from by decide +kernel
theorem k20_64 {L : Nat} {xs : Nat → Int32} : decode (am_cd (am_me (tb_P L xs) 20)) 64 = .ok (.iload_n 2, 1) := show decode (am_cd (tb_me 20)) 64 = .ok (.iload_n 2, 1) from by decide +kernel
theorem k20_65 {L : Nat} {xs : Nat → Int32} : decode (am_cd (am_me (tb_P L xs) 20)) 65 = .ok (.ireturn, 1) := show decode (am_cd (tb_me 20)) 65 = .ok (.ireturn, 1) from by decide +kernel
theorem t20 {L : Nat} {xs : Nat → Int32} : am_rt (am_me (tb_P L xs) 20) = some (.int : FieldType) := show am_rt (tb_me 20) = some (.int : FieldType) from by decide +kernel
theorem l20 {L : Nat} {xs : Nat → Int32} : am_ml (am_me (tb_P L xs) 20) = 4 := show am_ml (tb_me 20) = 4 from by decide +kernel
theorem o20 {L : Nat} {xs : Nat → Int32} (pc : Nat) : am_no (tb_P L xs) 20 pc = true := show (am_hd (tb_me 20)).all (fun q => !(decide (q.1 ≤ pc) && decide (pc < q.2.1))) = true from by rw [show am_hd (tb_me 20) = [] by decide +kernel]; rfl
theorem k21_0 {L : Nat} {xs : Nat → Int32} : decode (am_cd (am_me (tb_P L xs) 21)) 0 = .ok (.aload_n 0, 1) := show decode (am_cd (tb_me 21)) 0 = .ok (.aload_n 0, 1) from by decide +kernel
theorem k21_1 {L : Nat} {xs : Nat → Int32} : decode (am_cd (am_me (tb_P L xs) 21)) 1 = .ok (.invokevirtual 43, 3) := show decode (am_cd (tb_me 21)) 1 = .ok (.invokevirtual 43, 3) from by decide +kernel
theorem s21_1 {L : Nat} {xs : Nat → Int32} : am_sp (tb_P L xs) 21 43 = none := show tb_spF 21 43 = none from by decide +kernel
theorem c21_1 {L : Nat} {xs : Nat → Int32} : am_ca (tb_P L xs) 21 43 = some (16, 0, 1) := show tb_caF 21 43 = some (16, 0, 1) from by decide +kernel
theorem r21_1 {L : Nat} {xs : Nat → Int32} : am_rf (am_me (tb_P L xs) 16) + 1 ≤ am_rf (am_me (tb_P L xs) 21) ∧ 0 + (am_ml (am_me (tb_P L xs) 16) + 11) + am_rl (am_me (tb_P L xs) 16) ≤ am_rl (am_me (tb_P L xs) 21) := show am_rf (tb_me 16) + 1 ≤ am_rf (tb_me 21) ∧ 0 + (am_ml (tb_me 16) + 11) + am_rl (tb_me 16) ≤ am_rl (tb_me 21) from by decide +kernel
theorem k21_4 {L : Nat} {xs : Nat → Int32} : decode (am_cd (am_me (tb_P L xs) 21)) 4 = .ok (.iconst 1, 1) := show decode (am_cd (tb_me 21)) 4 = .ok (.iconst 1, 1) from by decide +kernel
theorem k21_5 {L : Nat} {xs : Nat → Int32} : decode (am_cd (am_me (tb_P L xs) 21)) 5 = .ok (.iload_n 1, 1) := show decode (am_cd (tb_me 21)) 5 = .ok (.iload_n 1, 1) from by decide +kernel
theorem k21_6 {L : Nat} {xs : Nat → Int32} : decode (am_cd (am_me (tb_P L xs) 21)) 6 = .ok (.ishl, 1) := show decode (am_cd (tb_me 21)) 6 = .ok (.ishl, 1) from by decide +kernel
theorem k21_7 {L : Nat} {xs : Nat → Int32} : decode (am_cd (am_me (tb_P L xs) 21)) 7 = .ok (.iand, 1) := show decode (am_cd (tb_me 21)) 7 = .ok (.iand, 1) from by decide +kernel
theorem k21_8 {L : Nat} {xs : Nat → Int32} : decode (am_cd (am_me (tb_P L xs) 21)) 8 = .ok (.ifCond .eq 7, 3) := show decode (am_cd (tb_me 21)) 8 = .ok (.ifCond .eq 7, 3) from by decide +kernel
theorem k21_11 {L : Nat} {xs : Nat → Int32} : decode (am_cd (am_me (tb_P L xs) 21)) 11 = .ok (.iconst 1, 1) := show decode (am_cd (tb_me 21)) 11 = .ok (.iconst 1, 1) from by decide +kernel
theorem k21_12 {L : Nat} {xs : Nat → Int32} : decode (am_cd (am_me (tb_P L xs) 21)) 12 = .ok (.goto 4, 3) := show decode (am_cd (tb_me 21)) 12 = .ok (.goto 4, 3) from by decide +kernel
theorem k21_15 {L : Nat} {xs : Nat → Int32} : decode (am_cd (am_me (tb_P L xs) 21)) 15 = .ok (.iconst 0, 1) := show decode (am_cd (tb_me 21)) 15 = .ok (.iconst 0, 1) from by decide +kernel
theorem k21_16 {L : Nat} {xs : Nat → Int32} : decode (am_cd (am_me (tb_P L xs) 21)) 16 = .ok (.ireturn, 1) := show decode (am_cd (tb_me 21)) 16 = .ok (.ireturn, 1) from by decide +kernel
theorem t21 {L : Nat} {xs : Nat → Int32} : am_rt (am_me (tb_P L xs) 21) = some (.boolean : FieldType) := show am_rt (tb_me 21) = some (.boolean : FieldType) from by decide +kernel
theorem l21 {L : Nat} {xs : Nat → Int32} : am_ml (am_me (tb_P L xs) 21) = 2 := show am_ml (tb_me 21) = 2 from by decide +kernel
theorem o21 {L : Nat} {xs : Nat → Int32} (pc : Nat) : am_no (tb_P L xs) 21 pc = true := show (am_hd (tb_me 21)).all (fun q => !(decide (q.1 ≤ pc) && decide (pc < q.2.1))) = true from by rw [show am_hd (tb_me 21) = [] by decide +kernel]; rfl
theorem k22_0 {L : Nat} {xs : Nat → Int32} : decode (am_cd (am_me (tb_P L xs) 22)) 0 = .ok (.aload_n 0, 1) := show decode (am_cd (tb_me 22)) 0 = .ok (.aload_n 0, 1) from by decide +kernel
theorem k22_1 {L : Nat} {xs : Nat → Int32} : decode (am_cd (am_me (tb_P L xs) 22)) 1 = .ok (.iconst 1, 1) := show decode (am_cd (tb_me 22)) 1 = .ok (.iconst 1, 1) from by decide +kernel
theorem k22_2 {L : Nat} {xs : Nat → Int32} : decode (am_cd (am_me (tb_P L xs) 22)) 2 = .ok (.putfield 18, 3) := show decode (am_cd (tb_me 22)) 2 = .ok (.putfield 18, 3) from by decide +kernel
theorem f22_2 {L : Nat} {xs : Nat → Int32} : am_fd (tb_P L xs) 22 18 = some (6, 3, (.int : FieldType), true) := show tb_fdF 22 18 = some (6, 3, (.int : FieldType), true) from by decide +kernel
theorem k22_5 {L : Nat} {xs : Nat → Int32} : decode (am_cd (am_me (tb_P L xs) 22)) 5 = .ok (.iconst 0, 1) := show decode (am_cd (tb_me 22)) 5 = .ok (.iconst 0, 1) from by decide +kernel
theorem k22_6 {L : Nat} {xs : Nat → Int32} : decode (am_cd (am_me (tb_P L xs) 22)) 6 = .ok (.istore_n 3, 1) := show decode (am_cd (tb_me 22)) 6 = .ok (.istore_n 3, 1) from by decide +kernel
theorem k22_7 {L : Nat} {xs : Nat → Int32} : decode (am_cd (am_me (tb_P L xs) 22)) 7 = .ok (.iload_n 3, 1) := show decode (am_cd (tb_me 22)) 7 = .ok (.iload_n 3, 1) from by decide +kernel
theorem k22_8 {L : Nat} {xs : Nat → Int32} : decode (am_cd (am_me (tb_P L xs) 22)) 8 = .ok (.bipush 7, 2) := show decode (am_cd (tb_me 22)) 8 = .ok (.bipush 7, 2) from by decide +kernel
theorem k22_10 {L : Nat} {xs : Nat → Int32} : decode (am_cd (am_me (tb_P L xs) 22)) 10 = .ok (.if_icmp .ge 72, 3) := show decode (am_cd (tb_me 22)) 10 = .ok (.if_icmp .ge 72, 3) from by decide +kernel
theorem k22_13 {L : Nat} {xs : Nat → Int32} : decode (am_cd (am_me (tb_P L xs) 22)) 13 = .ok (.iload_n 3, 1) := show decode (am_cd (tb_me 22)) 13 = .ok (.iload_n 3, 1) from by decide +kernel
theorem k22_14 {L : Nat} {xs : Nat → Int32} : decode (am_cd (am_me (tb_P L xs) 22)) 14 = .ok (.bipush 6, 2) := show decode (am_cd (tb_me 22)) 14 = .ok (.bipush 6, 2) from by decide +kernel
theorem k22_16 {L : Nat} {xs : Nat → Int32} : decode (am_cd (am_me (tb_P L xs) 22)) 16 = .ok (.if_icmp .ne 7, 3) := show decode (am_cd (tb_me 22)) 16 = .ok (.if_icmp .ne 7, 3) from by decide +kernel
theorem k22_19 {L : Nat} {xs : Nat → Int32} : decode (am_cd (am_me (tb_P L xs) 22)) 19 = .ok (.iload_n 2, 1) := show decode (am_cd (tb_me 22)) 19 = .ok (.iload_n 2, 1) from by decide +kernel
theorem k22_20 {L : Nat} {xs : Nat → Int32} : decode (am_cd (am_me (tb_P L xs) 22)) 20 = .ok (.goto 12, 3) := show decode (am_cd (tb_me 22)) 20 = .ok (.goto 12, 3) from by decide +kernel
theorem k22_23 {L : Nat} {xs : Nat → Int32} : decode (am_cd (am_me (tb_P L xs) 22)) 23 = .ok (.aload_n 0, 1) := show decode (am_cd (tb_me 22)) 23 = .ok (.aload_n 0, 1) from by decide +kernel
theorem k22_24 {L : Nat} {xs : Nat → Int32} : decode (am_cd (am_me (tb_P L xs) 22)) 24 = .ok (.getfield 22, 3) := show decode (am_cd (tb_me 22)) 24 = .ok (.getfield 22, 3) from by decide +kernel
theorem f22_24 {L : Nat} {xs : Nat → Int32} : am_fd (tb_P L xs) 22 22 = some (6, 0, (.object "GluedMachines$Model" : FieldType), false) := show tb_fdF 22 22 = some (6, 0, (.object "GluedMachines$Model" : FieldType), false) from by decide +kernel
theorem k22_27 {L : Nat} {xs : Nat → Int32} : decode (am_cd (am_me (tb_P L xs) 22)) 27 = .ok (.getfield 108, 3) := show decode (am_cd (tb_me 22)) 27 = .ok (.getfield 108, 3) from by decide +kernel
theorem f22_27 {L : Nat} {xs : Nat → Int32} : am_fd (tb_P L xs) 22 108 = some (5, 0, (.array .int : FieldType), false) := show tb_fdF 22 108 = some (5, 0, (.array .int : FieldType), false) from by decide +kernel
theorem k22_30 {L : Nat} {xs : Nat → Int32} : decode (am_cd (am_me (tb_P L xs) 22)) 30 = .ok (.iload_n 3, 1) := show decode (am_cd (tb_me 22)) 30 = .ok (.iload_n 3, 1) from by decide +kernel
theorem k22_31 {L : Nat} {xs : Nat → Int32} : decode (am_cd (am_me (tb_P L xs) 22)) 31 = .ok (.iaload, 1) := show decode (am_cd (tb_me 22)) 31 = .ok (.iaload, 1) from by decide +kernel
theorem k22_32 {L : Nat} {xs : Nat → Int32} : decode (am_cd (am_me (tb_P L xs) 22)) 32 = .ok (.istore 4, 2) := show decode (am_cd (tb_me 22)) 32 = .ok (.istore 4, 2) from by decide +kernel
theorem k22_34 {L : Nat} {xs : Nat → Int32} : decode (am_cd (am_me (tb_P L xs) 22)) 34 = .ok (.aload_n 0, 1) := show decode (am_cd (tb_me 22)) 34 = .ok (.aload_n 0, 1) from by decide +kernel
theorem k22_35 {L : Nat} {xs : Nat → Int32} : decode (am_cd (am_me (tb_P L xs) 22)) 35 = .ok (.getfield 15, 3) := show decode (am_cd (tb_me 22)) 35 = .ok (.getfield 15, 3) from by decide +kernel
theorem f22_35 {L : Nat} {xs : Nat → Int32} : am_fd (tb_P L xs) 22 15 = some (6, 2, (.array .int : FieldType), false) := show tb_fdF 22 15 = some (6, 2, (.array .int : FieldType), false) from by decide +kernel
theorem k22_38 {L : Nat} {xs : Nat → Int32} : decode (am_cd (am_me (tb_P L xs) 22)) 38 = .ok (.iload_n 3, 1) := show decode (am_cd (tb_me 22)) 38 = .ok (.iload_n 3, 1) from by decide +kernel
theorem k22_39 {L : Nat} {xs : Nat → Int32} : decode (am_cd (am_me (tb_P L xs) 22)) 39 = .ok (.iload_n 1, 1) := show decode (am_cd (tb_me 22)) 39 = .ok (.iload_n 1, 1) from by decide +kernel
theorem k22_40 {L : Nat} {xs : Nat → Int32} : decode (am_cd (am_me (tb_P L xs) 22)) 40 = .ok (.iconst 1, 1) := show decode (am_cd (tb_me 22)) 40 = .ok (.iconst 1, 1) from by decide +kernel
theorem k22_41 {L : Nat} {xs : Nat → Int32} : decode (am_cd (am_me (tb_P L xs) 22)) 41 = .ok (.iload_n 3, 1) := show decode (am_cd (tb_me 22)) 41 = .ok (.iload_n 3, 1) from by decide +kernel
theorem k22_42 {L : Nat} {xs : Nat → Int32} : decode (am_cd (am_me (tb_P L xs) 22)) 42 = .ok (.ishl, 1) := show decode (am_cd (tb_me 22)) 42 = .ok (.ishl, 1) from by decide +kernel
theorem k22_43 {L : Nat} {xs : Nat → Int32} : decode (am_cd (am_me (tb_P L xs) 22)) 43 = .ok (.iand, 1) := show decode (am_cd (tb_me 22)) 43 = .ok (.iand, 1) from by decide +kernel
theorem k22_44 {L : Nat} {xs : Nat → Int32} : decode (am_cd (am_me (tb_P L xs) 22)) 44 = .ok (.ifCond .eq 8, 3) := show decode (am_cd (tb_me 22)) 44 = .ok (.ifCond .eq 8, 3) from by decide +kernel
theorem k22_47 {L : Nat} {xs : Nat → Int32} : decode (am_cd (am_me (tb_P L xs) 22)) 47 = .ok (.iload 4, 2) := show decode (am_cd (tb_me 22)) 47 = .ok (.iload 4, 2) from by decide +kernel
theorem k22_49 {L : Nat} {xs : Nat → Int32} : decode (am_cd (am_me (tb_P L xs) 22)) 49 = .ok (.goto 4, 3) := show decode (am_cd (tb_me 22)) 49 = .ok (.goto 4, 3) from by decide +kernel
theorem k22_52 {L : Nat} {xs : Nat → Int32} : decode (am_cd (am_me (tb_P L xs) 22)) 52 = .ok (.iconst 1, 1) := show decode (am_cd (tb_me 22)) 52 = .ok (.iconst 1, 1) from by decide +kernel
theorem k22_53 {L : Nat} {xs : Nat → Int32} : decode (am_cd (am_me (tb_P L xs) 22)) 53 = .ok (.iastore, 1) := show decode (am_cd (tb_me 22)) 53 = .ok (.iastore, 1) from by decide +kernel
theorem k22_54 {L : Nat} {xs : Nat → Int32} : decode (am_cd (am_me (tb_P L xs) 22)) 54 = .ok (.aload_n 0, 1) := show decode (am_cd (tb_me 22)) 54 = .ok (.aload_n 0, 1) from by decide +kernel
theorem k22_55 {L : Nat} {xs : Nat → Int32} : decode (am_cd (am_me (tb_P L xs) 22)) 55 = .ok (.dup, 1) := show decode (am_cd (tb_me 22)) 55 = .ok (.dup, 1) from by decide +kernel
theorem k22_56 {L : Nat} {xs : Nat → Int32} : decode (am_cd (am_me (tb_P L xs) 22)) 56 = .ok (.getfield 18, 3) := show decode (am_cd (tb_me 22)) 56 = .ok (.getfield 18, 3) from by decide +kernel
theorem f22_56 {L : Nat} {xs : Nat → Int32} : am_fd (tb_P L xs) 22 18 = some (6, 3, (.int : FieldType), true) := show tb_fdF 22 18 = some (6, 3, (.int : FieldType), true) from by decide +kernel
theorem k22_59 {L : Nat} {xs : Nat → Int32} : decode (am_cd (am_me (tb_P L xs) 22)) 59 = .ok (.aload_n 0, 1) := show decode (am_cd (tb_me 22)) 59 = .ok (.aload_n 0, 1) from by decide +kernel
theorem k22_60 {L : Nat} {xs : Nat → Int32} : decode (am_cd (am_me (tb_P L xs) 22)) 60 = .ok (.getfield 15, 3) := show decode (am_cd (tb_me 22)) 60 = .ok (.getfield 15, 3) from by decide +kernel
theorem f22_60 {L : Nat} {xs : Nat → Int32} : am_fd (tb_P L xs) 22 15 = some (6, 2, (.array .int : FieldType), false) := show tb_fdF 22 15 = some (6, 2, (.array .int : FieldType), false) from by decide +kernel
theorem k22_63 {L : Nat} {xs : Nat → Int32} : decode (am_cd (am_me (tb_P L xs) 22)) 63 = .ok (.iload_n 3, 1) := show decode (am_cd (tb_me 22)) 63 = .ok (.iload_n 3, 1) from by decide +kernel
theorem k22_64 {L : Nat} {xs : Nat → Int32} : decode (am_cd (am_me (tb_P L xs) 22)) 64 = .ok (.iaload, 1) := show decode (am_cd (tb_me 22)) 64 = .ok (.iaload, 1) from by decide +kernel
theorem k22_65 {L : Nat} {xs : Nat → Int32} : decode (am_cd (am_me (tb_P L xs) 22)) 65 = .ok (.imul, 1) := show decode (am_cd (tb_me 22)) 65 = .ok (.imul, 1) from by decide +kernel
theorem k22_66 {L : Nat} {xs : Nat → Int32} : decode (am_cd (am_me (tb_P L xs) 22)) 66 = .ok (.putfield 18, 3) := show decode (am_cd (tb_me 22)) 66 = .ok (.putfield 18, 3) from by decide +kernel
theorem f22_66 {L : Nat} {xs : Nat → Int32} : am_fd (tb_P L xs) 22 18 = some (6, 3, (.int : FieldType), true) := show tb_fdF 22 18 = some (6, 3, (.int : FieldType), true) from by decide +kernel
theorem k22_69 {L : Nat} {xs : Nat → Int32} : decode (am_cd (am_me (tb_P L xs) 22)) 69 = .ok (.aload_n 0, 1) := show decode (am_cd (tb_me 22)) 69 = .ok (.aload_n 0, 1) from by decide +kernel
theorem k22_70 {L : Nat} {xs : Nat → Int32} : decode (am_cd (am_me (tb_P L xs) 22)) 70 = .ok (.getfield 9, 3) := show decode (am_cd (tb_me 22)) 70 = .ok (.getfield 9, 3) from by decide +kernel
theorem f22_70 {L : Nat} {xs : Nat → Int32} : am_fd (tb_P L xs) 22 9 = some (6, 1, (.array .int : FieldType), false) := show tb_fdF 22 9 = some (6, 1, (.array .int : FieldType), false) from by decide +kernel
theorem k22_73 {L : Nat} {xs : Nat → Int32} : decode (am_cd (am_me (tb_P L xs) 22)) 73 = .ok (.iload_n 3, 1) := show decode (am_cd (tb_me 22)) 73 = .ok (.iload_n 3, 1) from by decide +kernel
theorem k22_74 {L : Nat} {xs : Nat → Int32} : decode (am_cd (am_me (tb_P L xs) 22)) 74 = .ok (.iconst 0, 1) := show decode (am_cd (tb_me 22)) 74 = .ok (.iconst 0, 1) from by decide +kernel
theorem k22_75 {L : Nat} {xs : Nat → Int32} : decode (am_cd (am_me (tb_P L xs) 22)) 75 = .ok (.iastore, 1) := show decode (am_cd (tb_me 22)) 75 = .ok (.iastore, 1) from by decide +kernel
theorem k22_76 {L : Nat} {xs : Nat → Int32} : decode (am_cd (am_me (tb_P L xs) 22)) 76 = .ok (.iinc 3 1, 3) := show decode (am_cd (tb_me 22)) 76 = .ok (.iinc 3 1, 3) from by decide +kernel
theorem k22_79 {L : Nat} {xs : Nat → Int32} : decode (am_cd (am_me (tb_P L xs) 22)) 79 = .ok (.goto (-72), 3) := show decode (am_cd (tb_me 22)) 79 = .ok (.goto (-72), 3) from by decide +kernel
theorem k22_82 {L : Nat} {xs : Nat → Int32} : decode (am_cd (am_me (tb_P L xs) 22)) 82 = .ok (.return_, 1) := show decode (am_cd (tb_me 22)) 82 = .ok (.return_, 1) from by decide +kernel
theorem t22 {L : Nat} {xs : Nat → Int32} : am_rt (am_me (tb_P L xs) 22) = none := show am_rt (tb_me 22) = none from by decide +kernel
theorem l22 {L : Nat} {xs : Nat → Int32} : am_ml (am_me (tb_P L xs) 22) = 5 := show am_ml (tb_me 22) = 5 from by decide +kernel
theorem o22 {L : Nat} {xs : Nat → Int32} (pc : Nat) : am_no (tb_P L xs) 22 pc = true := show (am_hd (tb_me 22)).all (fun q => !(decide (q.1 ≤ pc) && decide (pc < q.2.1))) = true from by rw [show am_hd (tb_me 22) = [] by decide +kernel]; rfl
theorem k23_0 {L : Nat} {xs : Nat → Int32} : decode (am_cd (am_me (tb_P L xs) 23)) 0 = .ok (.aload_n 0, 1) := show decode (am_cd (tb_me 23)) 0 = .ok (.aload_n 0, 1) from by decide +kernel
theorem k23_1 {L : Nat} {xs : Nat → Int32} : decode (am_cd (am_me (tb_P L xs) 23)) 1 = .ok (.getfield 9, 3) := show decode (am_cd (tb_me 23)) 1 = .ok (.getfield 9, 3) from by decide +kernel
theorem f23_1 {L : Nat} {xs : Nat → Int32} : am_fd (tb_P L xs) 23 9 = some (3, 3, (.object "GluedMachines$Formula" : FieldType), true) := show tb_fdF 23 9 = some (3, 3, (.object "GluedMachines$Formula" : FieldType), true) from by decide +kernel
theorem k23_4 {L : Nat} {xs : Nat → Int32} : decode (am_cd (am_me (tb_P L xs) 23)) 4 = .ok (.ifnull 14, 3) := show decode (am_cd (tb_me 23)) 4 = .ok (.ifnull 14, 3) from by decide +kernel
theorem k23_7 {L : Nat} {xs : Nat → Int32} : decode (am_cd (am_me (tb_P L xs) 23)) 7 = .ok (.aload_n 0, 1) := show decode (am_cd (tb_me 23)) 7 = .ok (.aload_n 0, 1) from by decide +kernel
theorem k23_8 {L : Nat} {xs : Nat → Int32} : decode (am_cd (am_me (tb_P L xs) 23)) 8 = .ok (.getfield 9, 3) := show decode (am_cd (tb_me 23)) 8 = .ok (.getfield 9, 3) from by decide +kernel
theorem f23_8 {L : Nat} {xs : Nat → Int32} : am_fd (tb_P L xs) 23 9 = some (3, 3, (.object "GluedMachines$Formula" : FieldType), true) := show tb_fdF 23 9 = some (3, 3, (.object "GluedMachines$Formula" : FieldType), true) from by decide +kernel
theorem k23_11 {L : Nat} {xs : Nat → Int32} : decode (am_cd (am_me (tb_P L xs) 23)) 11 = .ok (.aload_n 1, 1) := show decode (am_cd (tb_me 23)) 11 = .ok (.aload_n 1, 1) from by decide +kernel
theorem k23_12 {L : Nat} {xs : Nat → Int32} : decode (am_cd (am_me (tb_P L xs) 23)) 12 = .ok (.invokevirtual 39, 3) := show decode (am_cd (tb_me 23)) 12 = .ok (.invokevirtual 39, 3) from by decide +kernel
theorem s23_12 {L : Nat} {xs : Nat → Int32} : am_sp (tb_P L xs) 23 39 = none := show tb_spF 23 39 = none from by decide +kernel
theorem c23_12 {L : Nat} {xs : Nat → Int32} : am_ca (tb_P L xs) 23 39 = some (13, 1, 1) := show tb_caF 23 39 = some (13, 1, 1) from by decide +kernel
theorem r23_12 {L : Nat} {xs : Nat → Int32} : am_rf (am_me (tb_P L xs) 13) + 1 ≤ am_rf (am_me (tb_P L xs) 23) ∧ 0 + (am_ml (am_me (tb_P L xs) 13) + 11) + am_rl (am_me (tb_P L xs) 13) ≤ am_rl (am_me (tb_P L xs) 23) := show am_rf (tb_me 13) + 1 ≤ am_rf (tb_me 23) ∧ 0 + (am_ml (tb_me 13) + 11) + am_rl (tb_me 13) ≤ am_rl (tb_me 23) from by decide +kernel
theorem k23_15 {L : Nat} {xs : Nat → Int32} : decode (am_cd (am_me (tb_P L xs) 23)) 15 = .ok (.ifCond .eq 7, 3) := show decode (am_cd (tb_me 23)) 15 = .ok (.ifCond .eq 7, 3) from by decide +kernel
theorem k23_18 {L : Nat} {xs : Nat → Int32} : decode (am_cd (am_me (tb_P L xs) 23)) 18 = .ok (.iconst 1, 1) := show decode (am_cd (tb_me 23)) 18 = .ok (.iconst 1, 1) from by decide +kernel
theorem k23_19 {L : Nat} {xs : Nat → Int32} : decode (am_cd (am_me (tb_P L xs) 23)) 19 = .ok (.goto 4, 3) := show decode (am_cd (tb_me 23)) 19 = .ok (.goto 4, 3) from by decide +kernel
theorem k23_22 {L : Nat} {xs : Nat → Int32} : decode (am_cd (am_me (tb_P L xs) 23)) 22 = .ok (.iconst 0, 1) := show decode (am_cd (tb_me 23)) 22 = .ok (.iconst 0, 1) from by decide +kernel
theorem k23_23 {L : Nat} {xs : Nat → Int32} : decode (am_cd (am_me (tb_P L xs) 23)) 23 = .ok (.ireturn, 1) := show decode (am_cd (tb_me 23)) 23 = .ok (.ireturn, 1) from by decide +kernel
theorem t23 {L : Nat} {xs : Nat → Int32} : am_rt (am_me (tb_P L xs) 23) = some (.boolean : FieldType) := show am_rt (tb_me 23) = some (.boolean : FieldType) from by decide +kernel
theorem l23 {L : Nat} {xs : Nat → Int32} : am_ml (am_me (tb_P L xs) 23) = 2 := show am_ml (tb_me 23) = 2 from by decide +kernel
theorem o23 {L : Nat} {xs : Nat → Int32} (pc : Nat) : am_no (tb_P L xs) 23 pc = true := show (am_hd (tb_me 23)).all (fun q => !(decide (q.1 ≤ pc) && decide (pc < q.2.1))) = true from by rw [show am_hd (tb_me 23) = [] by decide +kernel]; rfl
theorem k24_0 {L : Nat} {xs : Nat → Int32} : decode (am_cd (am_me (tb_P L xs) 24)) 0 = .ok (.iload_n 1, 1) := show decode (am_cd (tb_me 24)) 0 = .ok (.iload_n 1, 1) from by decide +kernel
theorem k24_1 {L : Nat} {xs : Nat → Int32} : decode (am_cd (am_me (tb_P L xs) 24)) 1 = .ok (.tableswitch 116 1 5 #[35, 116, 116, 48, 61], 35) := show decode (am_cd (tb_me 24)) 1 = .ok (.tableswitch 116 1 5 #[35, 116, 116, 48, 61], 35) from by decide +kernel
theorem k24_36 {L : Nat} {xs : Nat → Int32} : decode (am_cd (am_me (tb_P L xs) 24)) 36 = .ok (.aload_n 0, 1) := show decode (am_cd (tb_me 24)) 36 = .ok (.aload_n 0, 1) from by decide +kernel
theorem k24_37 {L : Nat} {xs : Nat → Int32} : decode (am_cd (am_me (tb_P L xs) 24)) 37 = .ok (.getfield 22, 3) := show decode (am_cd (tb_me 24)) 37 = .ok (.getfield 22, 3) from by decide +kernel
theorem f24_37 {L : Nat} {xs : Nat → Int32} : am_fd (tb_P L xs) 24 22 = some (6, 0, (.object "GluedMachines$Model" : FieldType), false) := show tb_fdF 24 22 = some (6, 0, (.object "GluedMachines$Model" : FieldType), false) from by decide +kernel
theorem k24_40 {L : Nat} {xs : Nat → Int32} : decode (am_cd (am_me (tb_P L xs) 24)) 40 = .ok (.aload_n 2, 1) := show decode (am_cd (tb_me 24)) 40 = .ok (.aload_n 2, 1) from by decide +kernel
theorem k24_41 {L : Nat} {xs : Nat → Int32} : decode (am_cd (am_me (tb_P L xs) 24)) 41 = .ok (.aload_n 0, 1) := show decode (am_cd (tb_me 24)) 41 = .ok (.aload_n 0, 1) from by decide +kernel
theorem k24_42 {L : Nat} {xs : Nat → Int32} : decode (am_cd (am_me (tb_P L xs) 24)) 42 = .ok (.getfield 9, 3) := show decode (am_cd (tb_me 24)) 42 = .ok (.getfield 9, 3) from by decide +kernel
theorem f24_42 {L : Nat} {xs : Nat → Int32} : am_fd (tb_P L xs) 24 9 = some (6, 1, (.array .int : FieldType), false) := show tb_fdF 24 9 = some (6, 1, (.array .int : FieldType), false) from by decide +kernel
theorem k24_45 {L : Nat} {xs : Nat → Int32} : decode (am_cd (am_me (tb_P L xs) 24)) 45 = .ok (.invokevirtual 111, 3) := show decode (am_cd (tb_me 24)) 45 = .ok (.invokevirtual 111, 3) from by decide +kernel
theorem s24_45 {L : Nat} {xs : Nat → Int32} : am_sp (tb_P L xs) 24 111 = none := show tb_spF 24 111 = none from by decide +kernel
theorem c24_45 {L : Nat} {xs : Nat → Int32} : am_ca (tb_P L xs) 24 111 = some (25, 2, 1) := show tb_caF 24 111 = some (25, 2, 1) from by decide +kernel
theorem r24_45 {L : Nat} {xs : Nat → Int32} : am_rf (am_me (tb_P L xs) 25) + 1 ≤ am_rf (am_me (tb_P L xs) 24) ∧ 0 + (am_ml (am_me (tb_P L xs) 25) + 11) + am_rl (am_me (tb_P L xs) 25) ≤ am_rl (am_me (tb_P L xs) 24) := show am_rf (tb_me 25) + 1 ≤ am_rf (tb_me 24) ∧ 0 + (am_ml (tb_me 25) + 11) + am_rl (tb_me 25) ≤ am_rl (tb_me 24) from by decide +kernel
theorem k24_48 {L : Nat} {xs : Nat → Int32} : decode (am_cd (am_me (tb_P L xs) 24)) 48 = .ok (.ireturn, 1) := show decode (am_cd (tb_me 24)) 48 = .ok (.ireturn, 1) from by decide +kernel
theorem k24_49 {L : Nat} {xs : Nat → Int32} : decode (am_cd (am_me (tb_P L xs) 24)) 49 = .ok (.aload_n 0, 1) := show decode (am_cd (tb_me 24)) 49 = .ok (.aload_n 0, 1) from by decide +kernel
theorem k24_50 {L : Nat} {xs : Nat → Int32} : decode (am_cd (am_me (tb_P L xs) 24)) 50 = .ok (.getfield 22, 3) := show decode (am_cd (tb_me 24)) 50 = .ok (.getfield 22, 3) from by decide +kernel
theorem f24_50 {L : Nat} {xs : Nat → Int32} : am_fd (tb_P L xs) 24 22 = some (6, 0, (.object "GluedMachines$Model" : FieldType), false) := show tb_fdF 24 22 = some (6, 0, (.object "GluedMachines$Model" : FieldType), false) from by decide +kernel
theorem k24_53 {L : Nat} {xs : Nat → Int32} : decode (am_cd (am_me (tb_P L xs) 24)) 53 = .ok (.aload_n 2, 1) := show decode (am_cd (tb_me 24)) 53 = .ok (.aload_n 2, 1) from by decide +kernel
theorem k24_54 {L : Nat} {xs : Nat → Int32} : decode (am_cd (am_me (tb_P L xs) 24)) 54 = .ok (.aload_n 0, 1) := show decode (am_cd (tb_me 24)) 54 = .ok (.aload_n 0, 1) from by decide +kernel
theorem k24_55 {L : Nat} {xs : Nat → Int32} : decode (am_cd (am_me (tb_P L xs) 24)) 55 = .ok (.getfield 9, 3) := show decode (am_cd (tb_me 24)) 55 = .ok (.getfield 9, 3) from by decide +kernel
theorem f24_55 {L : Nat} {xs : Nat → Int32} : am_fd (tb_P L xs) 24 9 = some (6, 1, (.array .int : FieldType), false) := show tb_fdF 24 9 = some (6, 1, (.array .int : FieldType), false) from by decide +kernel
theorem k24_58 {L : Nat} {xs : Nat → Int32} : decode (am_cd (am_me (tb_P L xs) 24)) 58 = .ok (.invokevirtual 115, 3) := show decode (am_cd (tb_me 24)) 58 = .ok (.invokevirtual 115, 3) from by decide +kernel
theorem s24_58 {L : Nat} {xs : Nat → Int32} : am_sp (tb_P L xs) 24 115 = none := show tb_spF 24 115 = none from by decide +kernel
theorem c24_58 {L : Nat} {xs : Nat → Int32} : am_ca (tb_P L xs) 24 115 = some (27, 2, 1) := show tb_caF 24 115 = some (27, 2, 1) from by decide +kernel
theorem r24_58 {L : Nat} {xs : Nat → Int32} : am_rf (am_me (tb_P L xs) 27) + 1 ≤ am_rf (am_me (tb_P L xs) 24) ∧ 0 + (am_ml (am_me (tb_P L xs) 27) + 11) + am_rl (am_me (tb_P L xs) 27) ≤ am_rl (am_me (tb_P L xs) 24) := show am_rf (tb_me 27) + 1 ≤ am_rf (tb_me 24) ∧ 0 + (am_ml (tb_me 27) + 11) + am_rl (tb_me 27) ≤ am_rl (tb_me 24) from by decide +kernel
theorem k24_61 {L : Nat} {xs : Nat → Int32} : decode (am_cd (am_me (tb_P L xs) 24)) 61 = .ok (.ireturn, 1) := show decode (am_cd (tb_me 24)) 61 = .ok (.ireturn, 1) from by decide +kernel
theorem k24_62 {L : Nat} {xs : Nat → Int32} : decode (am_cd (am_me (tb_P L xs) 24)) 62 = .ok (.aload_n 0, 1) := show decode (am_cd (tb_me 24)) 62 = .ok (.aload_n 0, 1) from by decide +kernel
theorem k24_63 {L : Nat} {xs : Nat → Int32} : decode (am_cd (am_me (tb_P L xs) 24)) 63 = .ok (.getfield 22, 3) := show decode (am_cd (tb_me 24)) 63 = .ok (.getfield 22, 3) from by decide +kernel
theorem f24_63 {L : Nat} {xs : Nat → Int32} : am_fd (tb_P L xs) 24 22 = some (6, 0, (.object "GluedMachines$Model" : FieldType), false) := show tb_fdF 24 22 = some (6, 0, (.object "GluedMachines$Model" : FieldType), false) from by decide +kernel
theorem k24_66 {L : Nat} {xs : Nat → Int32} : decode (am_cd (am_me (tb_P L xs) 24)) 66 = .ok (.aload_n 0, 1) := show decode (am_cd (tb_me 24)) 66 = .ok (.aload_n 0, 1) from by decide +kernel
theorem k24_67 {L : Nat} {xs : Nat → Int32} : decode (am_cd (am_me (tb_P L xs) 24)) 67 = .ok (.getfield 9, 3) := show decode (am_cd (tb_me 24)) 67 = .ok (.getfield 9, 3) from by decide +kernel
theorem f24_67 {L : Nat} {xs : Nat → Int32} : am_fd (tb_P L xs) 24 9 = some (6, 1, (.array .int : FieldType), false) := show tb_fdF 24 9 = some (6, 1, (.array .int : FieldType), false) from by decide +kernel
theorem k24_70 {L : Nat} {xs : Nat → Int32} : decode (am_cd (am_me (tb_P L xs) 24)) 70 = .ok (.invokevirtual 118, 3) := show decode (am_cd (tb_me 24)) 70 = .ok (.invokevirtual 118, 3) from by decide +kernel
theorem s24_70 {L : Nat} {xs : Nat → Int32} : am_sp (tb_P L xs) 24 118 = none := show tb_spF 24 118 = none from by decide +kernel
theorem c24_70 {L : Nat} {xs : Nat → Int32} : am_ca (tb_P L xs) 24 118 = some (29, 1, 1) := show tb_caF 24 118 = some (29, 1, 1) from by decide +kernel
theorem r24_70 {L : Nat} {xs : Nat → Int32} : am_rf (am_me (tb_P L xs) 29) + 1 ≤ am_rf (am_me (tb_P L xs) 24) ∧ 0 + (am_ml (am_me (tb_P L xs) 29) + 11) + am_rl (am_me (tb_P L xs) 29) ≤ am_rl (am_me (tb_P L xs) 24) := show am_rf (tb_me 29) + 1 ≤ am_rf (tb_me 24) ∧ 0 + (am_ml (tb_me 29) + 11) + am_rl (tb_me 29) ≤ am_rl (tb_me 24) from by decide +kernel
theorem k24_73 {L : Nat} {xs : Nat → Int32} : decode (am_cd (am_me (tb_P L xs) 24)) 73 = .ok (.istore_n 3, 1) := show decode (am_cd (tb_me 24)) 73 = .ok (.istore_n 3, 1) from by decide +kernel
theorem k24_74 {L : Nat} {xs : Nat → Int32} : decode (am_cd (am_me (tb_P L xs) 24)) 74 = .ok (.iload_n 3, 1) := show decode (am_cd (tb_me 24)) 74 = .ok (.iload_n 3, 1) from by decide +kernel
theorem k24_75 {L : Nat} {xs : Nat → Int32} : decode (am_cd (am_me (tb_P L xs) 24)) 75 = .ok (.ifCond .lt 40, 3) := show decode (am_cd (tb_me 24)) 75 = .ok (.ifCond .lt 40, 3) from by decide +kernel
theorem k24_78 {L : Nat} {xs : Nat → Int32} : decode (am_cd (am_me (tb_P L xs) 24)) 78 = .ok (.aload_n 0, 1) := show decode (am_cd (tb_me 24)) 78 = .ok (.aload_n 0, 1) from by decide +kernel
theorem k24_79 {L : Nat} {xs : Nat → Int32} : decode (am_cd (am_me (tb_P L xs) 24)) 79 = .ok (.getfield 22, 3) := show decode (am_cd (tb_me 24)) 79 = .ok (.getfield 22, 3) from by decide +kernel
theorem f24_79 {L : Nat} {xs : Nat → Int32} : am_fd (tb_P L xs) 24 22 = some (6, 0, (.object "GluedMachines$Model" : FieldType), false) := show tb_fdF 24 22 = some (6, 0, (.object "GluedMachines$Model" : FieldType), false) from by decide +kernel
theorem k24_82 {L : Nat} {xs : Nat → Int32} : decode (am_cd (am_me (tb_P L xs) 24)) 82 = .ok (.aload_n 2, 1) := show decode (am_cd (tb_me 24)) 82 = .ok (.aload_n 2, 1) from by decide +kernel
theorem k24_83 {L : Nat} {xs : Nat → Int32} : decode (am_cd (am_me (tb_P L xs) 24)) 83 = .ok (.aload_n 0, 1) := show decode (am_cd (tb_me 24)) 83 = .ok (.aload_n 0, 1) from by decide +kernel
theorem k24_84 {L : Nat} {xs : Nat → Int32} : decode (am_cd (am_me (tb_P L xs) 24)) 84 = .ok (.getfield 9, 3) := show decode (am_cd (tb_me 24)) 84 = .ok (.getfield 9, 3) from by decide +kernel
theorem f24_84 {L : Nat} {xs : Nat → Int32} : am_fd (tb_P L xs) 24 9 = some (6, 1, (.array .int : FieldType), false) := show tb_fdF 24 9 = some (6, 1, (.array .int : FieldType), false) from by decide +kernel
theorem k24_87 {L : Nat} {xs : Nat → Int32} : decode (am_cd (am_me (tb_P L xs) 24)) 87 = .ok (.invokevirtual 122, 3) := show decode (am_cd (tb_me 24)) 87 = .ok (.invokevirtual 122, 3) from by decide +kernel
theorem s24_87 {L : Nat} {xs : Nat → Int32} : am_sp (tb_P L xs) 24 122 = none := show tb_spF 24 122 = none from by decide +kernel
theorem c24_87 {L : Nat} {xs : Nat → Int32} : am_ca (tb_P L xs) 24 122 = some (30, 2, 1) := show tb_caF 24 122 = some (30, 2, 1) from by decide +kernel
theorem r24_87 {L : Nat} {xs : Nat → Int32} : am_rf (am_me (tb_P L xs) 30) + 1 ≤ am_rf (am_me (tb_P L xs) 24) ∧ 0 + (am_ml (am_me (tb_P L xs) 30) + 11) + am_rl (am_me (tb_P L xs) 30) ≤ am_rl (am_me (tb_P L xs) 24) := show am_rf (tb_me 30) + 1 ≤ am_rf (tb_me 24) ∧ 0 + (am_ml (tb_me 30) + 11) + am_rl (tb_me 30) ≤ am_rl (tb_me 24) from by decide +kernel
theorem k24_90 {L : Nat} {xs : Nat → Int32} : decode (am_cd (am_me (tb_P L xs) 24)) 90 = .ok (.ifCond .eq 21, 3) := show decode (am_cd (tb_me 24)) 90 = .ok (.ifCond .eq 21, 3) from by decide +kernel
theorem k24_93 {L : Nat} {xs : Nat → Int32} : decode (am_cd (am_me (tb_P L xs) 24)) 93 = .ok (.aload_n 0, 1) := show decode (am_cd (tb_me 24)) 93 = .ok (.aload_n 0, 1) from by decide +kernel
theorem k24_94 {L : Nat} {xs : Nat → Int32} : decode (am_cd (am_me (tb_P L xs) 24)) 94 = .ok (.getfield 22, 3) := show decode (am_cd (tb_me 24)) 94 = .ok (.getfield 22, 3) from by decide +kernel
theorem f24_94 {L : Nat} {xs : Nat → Int32} : am_fd (tb_P L xs) 24 22 = some (6, 0, (.object "GluedMachines$Model" : FieldType), false) := show tb_fdF 24 22 = some (6, 0, (.object "GluedMachines$Model" : FieldType), false) from by decide +kernel
theorem k24_97 {L : Nat} {xs : Nat → Int32} : decode (am_cd (am_me (tb_P L xs) 24)) 97 = .ok (.aload_n 0, 1) := show decode (am_cd (tb_me 24)) 97 = .ok (.aload_n 0, 1) from by decide +kernel
theorem k24_98 {L : Nat} {xs : Nat → Int32} : decode (am_cd (am_me (tb_P L xs) 24)) 98 = .ok (.getfield 22, 3) := show decode (am_cd (tb_me 24)) 98 = .ok (.getfield 22, 3) from by decide +kernel
theorem f24_98 {L : Nat} {xs : Nat → Int32} : am_fd (tb_P L xs) 24 22 = some (6, 0, (.object "GluedMachines$Model" : FieldType), false) := show tb_fdF 24 22 = some (6, 0, (.object "GluedMachines$Model" : FieldType), false) from by decide +kernel
theorem k24_101 {L : Nat} {xs : Nat → Int32} : decode (am_cd (am_me (tb_P L xs) 24)) 101 = .ok (.getfield 125, 3) := show decode (am_cd (tb_me 24)) 101 = .ok (.getfield 125, 3) from by decide +kernel
theorem f24_101 {L : Nat} {xs : Nat → Int32} : am_fd (tb_P L xs) 24 125 = some (5, 6, (.array .int : FieldType), false) := show tb_fdF 24 125 = some (5, 6, (.array .int : FieldType), false) from by decide +kernel
theorem k24_104 {L : Nat} {xs : Nat → Int32} : decode (am_cd (am_me (tb_P L xs) 24)) 104 = .ok (.invokevirtual 118, 3) := show decode (am_cd (tb_me 24)) 104 = .ok (.invokevirtual 118, 3) from by decide +kernel
theorem s24_104 {L : Nat} {xs : Nat → Int32} : am_sp (tb_P L xs) 24 118 = none := show tb_spF 24 118 = none from by decide +kernel
theorem c24_104 {L : Nat} {xs : Nat → Int32} : am_ca (tb_P L xs) 24 118 = some (29, 1, 1) := show tb_caF 24 118 = some (29, 1, 1) from by decide +kernel
theorem r24_104 {L : Nat} {xs : Nat → Int32} : am_rf (am_me (tb_P L xs) 29) + 1 ≤ am_rf (am_me (tb_P L xs) 24) ∧ 0 + (am_ml (am_me (tb_P L xs) 29) + 11) + am_rl (am_me (tb_P L xs) 29) ≤ am_rl (am_me (tb_P L xs) 24) := show am_rf (tb_me 29) + 1 ≤ am_rf (tb_me 24) ∧ 0 + (am_ml (tb_me 29) + 11) + am_rl (tb_me 29) ≤ am_rl (tb_me 24) from by decide +kernel
theorem k24_107 {L : Nat} {xs : Nat → Int32} : decode (am_cd (am_me (tb_P L xs) 24)) 107 = .ok (.iload_n 3, 1) := show decode (am_cd (tb_me 24)) 107 = .ok (.iload_n 3, 1) from by decide +kernel
theorem k24_108 {L : Nat} {xs : Nat → Int32} : decode (am_cd (am_me (tb_P L xs) 24)) 108 = .ok (.if_icmp .ge 7, 3) := show decode (am_cd (tb_me 24)) 108 = .ok (.if_icmp .ge 7, 3) from by decide +kernel
theorem k24_111 {L : Nat} {xs : Nat → Int32} : decode (am_cd (am_me (tb_P L xs) 24)) 111 = .ok (.iconst 1, 1) := show decode (am_cd (tb_me 24)) 111 = .ok (.iconst 1, 1) from by decide +kernel
theorem k24_112 {L : Nat} {xs : Nat → Int32} : decode (am_cd (am_me (tb_P L xs) 24)) 112 = .ok (.goto 4, 3) := show decode (am_cd (tb_me 24)) 112 = .ok (.goto 4, 3) from by decide +kernel
theorem k24_115 {L : Nat} {xs : Nat → Int32} : decode (am_cd (am_me (tb_P L xs) 24)) 115 = .ok (.iconst 0, 1) := show decode (am_cd (tb_me 24)) 115 = .ok (.iconst 0, 1) from by decide +kernel
theorem k24_116 {L : Nat} {xs : Nat → Int32} : decode (am_cd (am_me (tb_P L xs) 24)) 116 = .ok (.ireturn, 1) := show decode (am_cd (tb_me 24)) 116 = .ok (.ireturn, 1) from by decide +kernel
theorem k24_117 {L : Nat} {xs : Nat → Int32} : decode (am_cd (am_me (tb_P L xs) 24)) 117 = .ok (.aload_n 0, 1) := show decode (am_cd (tb_me 24)) 117 = .ok (.aload_n 0, 1) from by decide +kernel
theorem k24_118 {L : Nat} {xs : Nat → Int32} : decode (am_cd (am_me (tb_P L xs) 24)) 118 = .ok (.getfield 22, 3) := show decode (am_cd (tb_me 24)) 118 = .ok (.getfield 22, 3) from by decide +kernel
theorem f24_118 {L : Nat} {xs : Nat → Int32} : am_fd (tb_P L xs) 24 22 = some (6, 0, (.object "GluedMachines$Model" : FieldType), false) := show tb_fdF 24 22 = some (6, 0, (.object "GluedMachines$Model" : FieldType), false) from by decide +kernel
theorem k24_121 {L : Nat} {xs : Nat → Int32} : decode (am_cd (am_me (tb_P L xs) 24)) 121 = .ok (.aload_n 2, 1) := show decode (am_cd (tb_me 24)) 121 = .ok (.aload_n 2, 1) from by decide +kernel
theorem k24_122 {L : Nat} {xs : Nat → Int32} : decode (am_cd (am_me (tb_P L xs) 24)) 122 = .ok (.aload_n 0, 1) := show decode (am_cd (tb_me 24)) 122 = .ok (.aload_n 0, 1) from by decide +kernel
theorem k24_123 {L : Nat} {xs : Nat → Int32} : decode (am_cd (am_me (tb_P L xs) 24)) 123 = .ok (.getfield 9, 3) := show decode (am_cd (tb_me 24)) 123 = .ok (.getfield 9, 3) from by decide +kernel
theorem f24_123 {L : Nat} {xs : Nat → Int32} : am_fd (tb_P L xs) 24 9 = some (6, 1, (.array .int : FieldType), false) := show tb_fdF 24 9 = some (6, 1, (.array .int : FieldType), false) from by decide +kernel
theorem k24_126 {L : Nat} {xs : Nat → Int32} : decode (am_cd (am_me (tb_P L xs) 24)) 126 = .ok (.invokevirtual 122, 3) := show decode (am_cd (tb_me 24)) 126 = .ok (.invokevirtual 122, 3) from by decide +kernel
theorem s24_126 {L : Nat} {xs : Nat → Int32} : am_sp (tb_P L xs) 24 122 = none := show tb_spF 24 122 = none from by decide +kernel
theorem c24_126 {L : Nat} {xs : Nat → Int32} : am_ca (tb_P L xs) 24 122 = some (30, 2, 1) := show tb_caF 24 122 = some (30, 2, 1) from by decide +kernel
theorem r24_126 {L : Nat} {xs : Nat → Int32} : am_rf (am_me (tb_P L xs) 30) + 1 ≤ am_rf (am_me (tb_P L xs) 24) ∧ 0 + (am_ml (am_me (tb_P L xs) 30) + 11) + am_rl (am_me (tb_P L xs) 30) ≤ am_rl (am_me (tb_P L xs) 24) := show am_rf (tb_me 30) + 1 ≤ am_rf (tb_me 24) ∧ 0 + (am_ml (tb_me 30) + 11) + am_rl (tb_me 30) ≤ am_rl (tb_me 24) from by decide +kernel
theorem k24_129 {L : Nat} {xs : Nat → Int32} : decode (am_cd (am_me (tb_P L xs) 24)) 129 = .ok (.ifCond .eq 27, 3) := show decode (am_cd (tb_me 24)) 129 = .ok (.ifCond .eq 27, 3) from by decide +kernel
theorem k24_132 {L : Nat} {xs : Nat → Int32} : decode (am_cd (am_me (tb_P L xs) 24)) 132 = .ok (.aload_n 0, 1) := show decode (am_cd (tb_me 24)) 132 = .ok (.aload_n 0, 1) from by decide +kernel
theorem k24_133 {L : Nat} {xs : Nat → Int32} : decode (am_cd (am_me (tb_P L xs) 24)) 133 = .ok (.getfield 22, 3) := show decode (am_cd (tb_me 24)) 133 = .ok (.getfield 22, 3) from by decide +kernel
theorem f24_133 {L : Nat} {xs : Nat → Int32} : am_fd (tb_P L xs) 24 22 = some (6, 0, (.object "GluedMachines$Model" : FieldType), false) := show tb_fdF 24 22 = some (6, 0, (.object "GluedMachines$Model" : FieldType), false) from by decide +kernel
theorem k24_136 {L : Nat} {xs : Nat → Int32} : decode (am_cd (am_me (tb_P L xs) 24)) 136 = .ok (.getfield 37, 3) := show decode (am_cd (tb_me 24)) 136 = .ok (.getfield 37, 3) from by decide +kernel
theorem f24_136 {L : Nat} {xs : Nat → Int32} : am_fd (tb_P L xs) 24 37 = some (5, 4, (.object "GluedMachines$Invariants" : FieldType), false) := show tb_fdF 24 37 = some (5, 4, (.object "GluedMachines$Invariants" : FieldType), false) from by decide +kernel
theorem k24_139 {L : Nat} {xs : Nat → Int32} : decode (am_cd (am_me (tb_P L xs) 24)) 139 = .ok (.aload_n 2, 1) := show decode (am_cd (tb_me 24)) 139 = .ok (.aload_n 2, 1) from by decide +kernel
theorem k24_140 {L : Nat} {xs : Nat → Int32} : decode (am_cd (am_me (tb_P L xs) 24)) 140 = .ok (.getfield 58, 3) := show decode (am_cd (tb_me 24)) 140 = .ok (.getfield 58, 3) from by decide +kernel
theorem f24_140 {L : Nat} {xs : Nat → Int32} : am_fd (tb_P L xs) 24 58 = some (3, 0, (.int : FieldType), false) := show tb_fdF 24 58 = some (3, 0, (.int : FieldType), false) from by decide +kernel
theorem k24_143 {L : Nat} {xs : Nat → Int32} : decode (am_cd (am_me (tb_P L xs) 24)) 143 = .ok (.aload_n 0, 1) := show decode (am_cd (tb_me 24)) 143 = .ok (.aload_n 0, 1) from by decide +kernel
theorem k24_144 {L : Nat} {xs : Nat → Int32} : decode (am_cd (am_me (tb_P L xs) 24)) 144 = .ok (.getfield 22, 3) := show decode (am_cd (tb_me 24)) 144 = .ok (.getfield 22, 3) from by decide +kernel
theorem f24_144 {L : Nat} {xs : Nat → Int32} : am_fd (tb_P L xs) 24 22 = some (6, 0, (.object "GluedMachines$Model" : FieldType), false) := show tb_fdF 24 22 = some (6, 0, (.object "GluedMachines$Model" : FieldType), false) from by decide +kernel
theorem k24_147 {L : Nat} {xs : Nat → Int32} : decode (am_cd (am_me (tb_P L xs) 24)) 147 = .ok (.getfield 125, 3) := show decode (am_cd (tb_me 24)) 147 = .ok (.getfield 125, 3) from by decide +kernel
theorem f24_147 {L : Nat} {xs : Nat → Int32} : am_fd (tb_P L xs) 24 125 = some (5, 6, (.array .int : FieldType), false) := show tb_fdF 24 125 = some (5, 6, (.array .int : FieldType), false) from by decide +kernel
theorem k24_150 {L : Nat} {xs : Nat → Int32} : decode (am_cd (am_me (tb_P L xs) 24)) 150 = .ok (.invokevirtual 41, 3) := show decode (am_cd (tb_me 24)) 150 = .ok (.invokevirtual 41, 3) from by decide +kernel
theorem s24_150 {L : Nat} {xs : Nat → Int32} : am_sp (tb_P L xs) 24 41 = none := show tb_spF 24 41 = none from by decide +kernel
theorem c24_150 {L : Nat} {xs : Nat → Int32} : am_ca (tb_P L xs) 24 41 = some (9, 2, 1) := show tb_caF 24 41 = some (9, 2, 1) from by decide +kernel
theorem r24_150 {L : Nat} {xs : Nat → Int32} : am_rf (am_me (tb_P L xs) 9) + 1 ≤ am_rf (am_me (tb_P L xs) 24) ∧ 0 + (am_ml (am_me (tb_P L xs) 9) + 11) + am_rl (am_me (tb_P L xs) 9) ≤ am_rl (am_me (tb_P L xs) 24) := show am_rf (tb_me 9) + 1 ≤ am_rf (tb_me 24) ∧ 0 + (am_ml (tb_me 9) + 11) + am_rl (tb_me 9) ≤ am_rl (tb_me 24) from by decide +kernel
theorem k24_153 {L : Nat} {xs : Nat → Int32} : decode (am_cd (am_me (tb_P L xs) 24)) 153 = .ok (.ifCond .eq 7, 3) := show decode (am_cd (tb_me 24)) 153 = .ok (.ifCond .eq 7, 3) from by decide +kernel
theorem k24_156 {L : Nat} {xs : Nat → Int32} : decode (am_cd (am_me (tb_P L xs) 24)) 156 = .ok (.iconst 1, 1) := show decode (am_cd (tb_me 24)) 156 = .ok (.iconst 1, 1) from by decide +kernel
theorem k24_157 {L : Nat} {xs : Nat → Int32} : decode (am_cd (am_me (tb_P L xs) 24)) 157 = .ok (.goto 4, 3) := show decode (am_cd (tb_me 24)) 157 = .ok (.goto 4, 3) from by decide +kernel
theorem k24_160 {L : Nat} {xs : Nat → Int32} : decode (am_cd (am_me (tb_P L xs) 24)) 160 = .ok (.iconst 0, 1) := show decode (am_cd (tb_me 24)) 160 = .ok (.iconst 0, 1) from by decide +kernel
theorem k24_161 {L : Nat} {xs : Nat → Int32} : decode (am_cd (am_me (tb_P L xs) 24)) 161 = .ok (.ireturn, 1) := show decode (am_cd (tb_me 24)) 161 = .ok (.ireturn, 1) from by decide +kernel
theorem t24 {L : Nat} {xs : Nat → Int32} : am_rt (am_me (tb_P L xs) 24) = some (.boolean : FieldType) := show am_rt (tb_me 24) = some (.boolean : FieldType) from by decide +kernel
theorem l24 {L : Nat} {xs : Nat → Int32} : am_ml (am_me (tb_P L xs) 24) = 4 := show am_ml (tb_me 24) = 4 from by decide +kernel
theorem o24 {L : Nat} {xs : Nat → Int32} (pc : Nat) : am_no (tb_P L xs) 24 pc = true := show (am_hd (tb_me 24)).all (fun q => !(decide (q.1 ≤ pc) && decide (pc < q.2.1))) = true from by rw [show am_hd (tb_me 24) = [] by decide +kernel]; rfl
theorem k25_0 {L : Nat} {xs : Nat → Int32} : decode (am_cd (am_me (tb_P L xs) 25)) 0 = .ok (.iconst 0, 1) := show decode (am_cd (tb_me 25)) 0 = .ok (.iconst 0, 1) from by decide +kernel
theorem k25_1 {L : Nat} {xs : Nat → Int32} : decode (am_cd (am_me (tb_P L xs) 25)) 1 = .ok (.istore_n 3, 1) := show decode (am_cd (tb_me 25)) 1 = .ok (.istore_n 3, 1) from by decide +kernel
theorem k25_2 {L : Nat} {xs : Nat → Int32} : decode (am_cd (am_me (tb_P L xs) 25)) 2 = .ok (.iload_n 3, 1) := show decode (am_cd (tb_me 25)) 2 = .ok (.iload_n 3, 1) from by decide +kernel
theorem k25_3 {L : Nat} {xs : Nat → Int32} : decode (am_cd (am_me (tb_P L xs) 25)) 3 = .ok (.bipush 6, 2) := show decode (am_cd (tb_me 25)) 3 = .ok (.bipush 6, 2) from by decide +kernel
theorem k25_5 {L : Nat} {xs : Nat → Int32} : decode (am_cd (am_me (tb_P L xs) 25)) 5 = .ok (.if_icmp .ge 54, 3) := show decode (am_cd (tb_me 25)) 5 = .ok (.if_icmp .ge 54, 3) from by decide +kernel
theorem k25_8 {L : Nat} {xs : Nat → Int32} : decode (am_cd (am_me (tb_P L xs) 25)) 8 = .ok (.aload_n 1, 1) := show decode (am_cd (tb_me 25)) 8 = .ok (.aload_n 1, 1) from by decide +kernel
theorem k25_9 {L : Nat} {xs : Nat → Int32} : decode (am_cd (am_me (tb_P L xs) 25)) 9 = .ok (.getfield 79, 3) := show decode (am_cd (tb_me 25)) 9 = .ok (.getfield 79, 3) from by decide +kernel
theorem f25_9 {L : Nat} {xs : Nat → Int32} : am_fd (tb_P L xs) 25 79 = some (3, 5, (.array (.object "GluedMachines$Formula") : FieldType), false) := show tb_fdF 25 79 = some (3, 5, (.array (.object "GluedMachines$Formula") : FieldType), false) from by decide +kernel
theorem k25_12 {L : Nat} {xs : Nat → Int32} : decode (am_cd (am_me (tb_P L xs) 25)) 12 = .ok (.iload_n 3, 1) := show decode (am_cd (tb_me 25)) 12 = .ok (.iload_n 3, 1) from by decide +kernel
theorem k25_13 {L : Nat} {xs : Nat → Int32} : decode (am_cd (am_me (tb_P L xs) 25)) 13 = .ok (.aaload, 1) := show decode (am_cd (tb_me 25)) 13 = .ok (.aaload, 1) from by decide +kernel
theorem k25_14 {L : Nat} {xs : Nat → Int32} : decode (am_cd (am_me (tb_P L xs) 25)) 14 = .ok (.ifnull 39, 3) := show decode (am_cd (tb_me 25)) 14 = .ok (.ifnull 39, 3) from by decide +kernel
theorem k25_17 {L : Nat} {xs : Nat → Int32} : decode (am_cd (am_me (tb_P L xs) 25)) 17 = .ok (.aload_n 0, 1) := show decode (am_cd (tb_me 25)) 17 = .ok (.aload_n 0, 1) from by decide +kernel
theorem k25_18 {L : Nat} {xs : Nat → Int32} : decode (am_cd (am_me (tb_P L xs) 25)) 18 = .ok (.getfield 39, 3) := show decode (am_cd (tb_me 25)) 18 = .ok (.getfield 39, 3) from by decide +kernel
theorem f25_18 {L : Nat} {xs : Nat → Int32} : am_fd (tb_P L xs) 25 39 = some (5, 6, (.array .int : FieldType), false) := show tb_fdF 25 39 = some (5, 6, (.array .int : FieldType), false) from by decide +kernel
theorem k25_21 {L : Nat} {xs : Nat → Int32} : decode (am_cd (am_me (tb_P L xs) 25)) 21 = .ok (.iload_n 3, 1) := show decode (am_cd (tb_me 25)) 21 = .ok (.iload_n 3, 1) from by decide +kernel
theorem k25_22 {L : Nat} {xs : Nat → Int32} : decode (am_cd (am_me (tb_P L xs) 25)) 22 = .ok (.aload_n 1, 1) := show decode (am_cd (tb_me 25)) 22 = .ok (.aload_n 1, 1) from by decide +kernel
theorem k25_23 {L : Nat} {xs : Nat → Int32} : decode (am_cd (am_me (tb_P L xs) 25)) 23 = .ok (.getfield 79, 3) := show decode (am_cd (tb_me 25)) 23 = .ok (.getfield 79, 3) from by decide +kernel
theorem f25_23 {L : Nat} {xs : Nat → Int32} : am_fd (tb_P L xs) 25 79 = some (3, 5, (.array (.object "GluedMachines$Formula") : FieldType), false) := show tb_fdF 25 79 = some (3, 5, (.array (.object "GluedMachines$Formula") : FieldType), false) from by decide +kernel
theorem k25_26 {L : Nat} {xs : Nat → Int32} : decode (am_cd (am_me (tb_P L xs) 25)) 26 = .ok (.iload_n 3, 1) := show decode (am_cd (tb_me 25)) 26 = .ok (.iload_n 3, 1) from by decide +kernel
theorem k25_27 {L : Nat} {xs : Nat → Int32} : decode (am_cd (am_me (tb_P L xs) 25)) 27 = .ok (.aaload, 1) := show decode (am_cd (tb_me 25)) 27 = .ok (.aaload, 1) from by decide +kernel
theorem k25_28 {L : Nat} {xs : Nat → Int32} : decode (am_cd (am_me (tb_P L xs) 25)) 28 = .ok (.aload_n 2, 1) := show decode (am_cd (tb_me 25)) 28 = .ok (.aload_n 2, 1) from by decide +kernel
theorem k25_29 {L : Nat} {xs : Nat → Int32} : decode (am_cd (am_me (tb_P L xs) 25)) 29 = .ok (.invokevirtual 55, 3) := show decode (am_cd (tb_me 25)) 29 = .ok (.invokevirtual 55, 3) from by decide +kernel
theorem s25_29 {L : Nat} {xs : Nat → Int32} : am_sp (tb_P L xs) 25 55 = none := show tb_spF 25 55 = none from by decide +kernel
theorem c25_29 {L : Nat} {xs : Nat → Int32} : am_ca (tb_P L xs) 25 55 = some (13, 1, 1) := show tb_caF 25 55 = some (13, 1, 1) from by decide +kernel
theorem r25_29 {L : Nat} {xs : Nat → Int32} : am_rf (am_me (tb_P L xs) 13) + 1 ≤ am_rf (am_me (tb_P L xs) 25) ∧ 2 + (am_ml (am_me (tb_P L xs) 13) + 11) + am_rl (am_me (tb_P L xs) 13) ≤ am_rl (am_me (tb_P L xs) 25) := show am_rf (tb_me 13) + 1 ≤ am_rf (tb_me 25) ∧ 2 + (am_ml (tb_me 13) + 11) + am_rl (tb_me 13) ≤ am_rl (tb_me 25) from by decide +kernel
theorem k25_32 {L : Nat} {xs : Nat → Int32} : decode (am_cd (am_me (tb_P L xs) 25)) 32 = .ok (.iastore, 1) := show decode (am_cd (tb_me 25)) 32 = .ok (.iastore, 1) from by decide +kernel
theorem k25_33 {L : Nat} {xs : Nat → Int32} : decode (am_cd (am_me (tb_P L xs) 25)) 33 = .ok (.aload_n 0, 1) := show decode (am_cd (tb_me 25)) 33 = .ok (.aload_n 0, 1) from by decide +kernel
theorem k25_34 {L : Nat} {xs : Nat → Int32} : decode (am_cd (am_me (tb_P L xs) 25)) 34 = .ok (.getfield 39, 3) := show decode (am_cd (tb_me 25)) 34 = .ok (.getfield 39, 3) from by decide +kernel
theorem f25_34 {L : Nat} {xs : Nat → Int32} : am_fd (tb_P L xs) 25 39 = some (5, 6, (.array .int : FieldType), false) := show tb_fdF 25 39 = some (5, 6, (.array .int : FieldType), false) from by decide +kernel
theorem k25_37 {L : Nat} {xs : Nat → Int32} : decode (am_cd (am_me (tb_P L xs) 25)) 37 = .ok (.iload_n 3, 1) := show decode (am_cd (tb_me 25)) 37 = .ok (.iload_n 3, 1) from by decide +kernel
theorem k25_38 {L : Nat} {xs : Nat → Int32} : decode (am_cd (am_me (tb_P L xs) 25)) 38 = .ok (.iaload, 1) := show decode (am_cd (tb_me 25)) 38 = .ok (.iaload, 1) from by decide +kernel
theorem k25_39 {L : Nat} {xs : Nat → Int32} : decode (am_cd (am_me (tb_P L xs) 25)) 39 = .ok (.aload_n 0, 1) := show decode (am_cd (tb_me 25)) 39 = .ok (.aload_n 0, 1) from by decide +kernel
theorem k25_40 {L : Nat} {xs : Nat → Int32} : decode (am_cd (am_me (tb_P L xs) 25)) 40 = .ok (.getfield 9, 3) := show decode (am_cd (tb_me 25)) 40 = .ok (.getfield 9, 3) from by decide +kernel
theorem f25_40 {L : Nat} {xs : Nat → Int32} : am_fd (tb_P L xs) 25 9 = some (5, 0, (.array .int : FieldType), false) := show tb_fdF 25 9 = some (5, 0, (.array .int : FieldType), false) from by decide +kernel
theorem k25_43 {L : Nat} {xs : Nat → Int32} : decode (am_cd (am_me (tb_P L xs) 25)) 43 = .ok (.iload_n 3, 1) := show decode (am_cd (tb_me 25)) 43 = .ok (.iload_n 3, 1) from by decide +kernel
theorem k25_44 {L : Nat} {xs : Nat → Int32} : decode (am_cd (am_me (tb_P L xs) 25)) 44 = .ok (.iaload, 1) := show decode (am_cd (tb_me 25)) 44 = .ok (.iaload, 1) from by decide +kernel
theorem k25_45 {L : Nat} {xs : Nat → Int32} : decode (am_cd (am_me (tb_P L xs) 25)) 45 = .ok (.invokestatic 51, 3) := show decode (am_cd (tb_me 25)) 45 = .ok (.invokestatic 51, 3) from by decide +kernel
theorem s25_45 {L : Nat} {xs : Nat → Int32} : am_sp (tb_P L xs) 25 51 = none := show tb_spF 25 51 = none from by decide +kernel
theorem c25_45 {L : Nat} {xs : Nat → Int32} : am_ca (tb_P L xs) 25 51 = some (26, 2, 0) := show tb_caF 25 51 = some (26, 2, 0) from by decide +kernel
theorem r25_45 {L : Nat} {xs : Nat → Int32} : am_rf (am_me (tb_P L xs) 26) + 1 ≤ am_rf (am_me (tb_P L xs) 25) ∧ 0 + (am_ml (am_me (tb_P L xs) 26) + 11) + am_rl (am_me (tb_P L xs) 26) ≤ am_rl (am_me (tb_P L xs) 25) := show am_rf (tb_me 26) + 1 ≤ am_rf (tb_me 25) ∧ 0 + (am_ml (tb_me 26) + 11) + am_rl (tb_me 26) ≤ am_rl (tb_me 25) from by decide +kernel
theorem k25_48 {L : Nat} {xs : Nat → Int32} : decode (am_cd (am_me (tb_P L xs) 25)) 48 = .ok (.ifCond .ne 5, 3) := show decode (am_cd (tb_me 25)) 48 = .ok (.ifCond .ne 5, 3) from by decide +kernel
theorem k25_51 {L : Nat} {xs : Nat → Int32} : decode (am_cd (am_me (tb_P L xs) 25)) 51 = .ok (.iconst 0, 1) := show decode (am_cd (tb_me 25)) 51 = .ok (.iconst 0, 1) from by decide +kernel
theorem k25_52 {L : Nat} {xs : Nat → Int32} : decode (am_cd (am_me (tb_P L xs) 25)) 52 = .ok (.ireturn, 1) := show decode (am_cd (tb_me 25)) 52 = .ok (.ireturn, 1) from by decide +kernel
theorem k25_53 {L : Nat} {xs : Nat → Int32} : decode (am_cd (am_me (tb_P L xs) 25)) 53 = .ok (.iinc 3 1, 3) := show decode (am_cd (tb_me 25)) 53 = .ok (.iinc 3 1, 3) from by decide +kernel
theorem k25_56 {L : Nat} {xs : Nat → Int32} : decode (am_cd (am_me (tb_P L xs) 25)) 56 = .ok (.goto (-54), 3) := show decode (am_cd (tb_me 25)) 56 = .ok (.goto (-54), 3) from by decide +kernel
theorem k25_59 {L : Nat} {xs : Nat → Int32} : decode (am_cd (am_me (tb_P L xs) 25)) 59 = .ok (.iconst 1, 1) := show decode (am_cd (tb_me 25)) 59 = .ok (.iconst 1, 1) from by decide +kernel
theorem k25_60 {L : Nat} {xs : Nat → Int32} : decode (am_cd (am_me (tb_P L xs) 25)) 60 = .ok (.ireturn, 1) := show decode (am_cd (tb_me 25)) 60 = .ok (.ireturn, 1) from by decide +kernel
theorem t25 {L : Nat} {xs : Nat → Int32} : am_rt (am_me (tb_P L xs) 25) = some (.boolean : FieldType) := show am_rt (tb_me 25) = some (.boolean : FieldType) from by decide +kernel
theorem l25 {L : Nat} {xs : Nat → Int32} : am_ml (am_me (tb_P L xs) 25) = 4 := show am_ml (tb_me 25) = 4 from by decide +kernel
theorem o25 {L : Nat} {xs : Nat → Int32} (pc : Nat) : am_no (tb_P L xs) 25 pc = true := show (am_hd (tb_me 25)).all (fun q => !(decide (q.1 ≤ pc) && decide (pc < q.2.1))) = true from by rw [show am_hd (tb_me 25) = [] by decide +kernel]; rfl
theorem k26_0 {L : Nat} {xs : Nat → Int32} : decode (am_cd (am_me (tb_P L xs) 26)) 0 = .ok (.iload_n 0, 1) := show decode (am_cd (tb_me 26)) 0 = .ok (.iload_n 0, 1) from by decide +kernel
theorem k26_1 {L : Nat} {xs : Nat → Int32} : decode (am_cd (am_me (tb_P L xs) 26)) 1 = .ok (.ifCond .lt 12, 3) := show decode (am_cd (tb_me 26)) 1 = .ok (.ifCond .lt 12, 3) from by decide +kernel
theorem k26_4 {L : Nat} {xs : Nat → Int32} : decode (am_cd (am_me (tb_P L xs) 26)) 4 = .ok (.iload_n 0, 1) := show decode (am_cd (tb_me 26)) 4 = .ok (.iload_n 0, 1) from by decide +kernel
theorem k26_5 {L : Nat} {xs : Nat → Int32} : decode (am_cd (am_me (tb_P L xs) 26)) 5 = .ok (.iload_n 1, 1) := show decode (am_cd (tb_me 26)) 5 = .ok (.iload_n 1, 1) from by decide +kernel
theorem k26_6 {L : Nat} {xs : Nat → Int32} : decode (am_cd (am_me (tb_P L xs) 26)) 6 = .ok (.if_icmp .ge 7, 3) := show decode (am_cd (tb_me 26)) 6 = .ok (.if_icmp .ge 7, 3) from by decide +kernel
theorem k26_9 {L : Nat} {xs : Nat → Int32} : decode (am_cd (am_me (tb_P L xs) 26)) 9 = .ok (.iconst 1, 1) := show decode (am_cd (tb_me 26)) 9 = .ok (.iconst 1, 1) from by decide +kernel
theorem k26_10 {L : Nat} {xs : Nat → Int32} : decode (am_cd (am_me (tb_P L xs) 26)) 10 = .ok (.goto 4, 3) := show decode (am_cd (tb_me 26)) 10 = .ok (.goto 4, 3) from by decide +kernel
theorem k26_13 {L : Nat} {xs : Nat → Int32} : decode (am_cd (am_me (tb_P L xs) 26)) 13 = .ok (.iconst 0, 1) := show decode (am_cd (tb_me 26)) 13 = .ok (.iconst 0, 1) from by decide +kernel
theorem k26_14 {L : Nat} {xs : Nat → Int32} : decode (am_cd (am_me (tb_P L xs) 26)) 14 = .ok (.ireturn, 1) := show decode (am_cd (tb_me 26)) 14 = .ok (.ireturn, 1) from by decide +kernel
theorem t26 {L : Nat} {xs : Nat → Int32} : am_rt (am_me (tb_P L xs) 26) = some (.boolean : FieldType) := show am_rt (tb_me 26) = some (.boolean : FieldType) from by decide +kernel
theorem l26 {L : Nat} {xs : Nat → Int32} : am_ml (am_me (tb_P L xs) 26) = 2 := show am_ml (tb_me 26) = 2 from by decide +kernel
theorem o26 {L : Nat} {xs : Nat → Int32} (pc : Nat) : am_no (tb_P L xs) 26 pc = true := show (am_hd (tb_me 26)).all (fun q => !(decide (q.1 ≤ pc) && decide (pc < q.2.1))) = true from by rw [show am_hd (tb_me 26) = [] by decide +kernel]; rfl
theorem k27_0 {L : Nat} {xs : Nat → Int32} : decode (am_cd (am_me (tb_P L xs) 27)) 0 = .ok (.aload_n 1, 1) := show decode (am_cd (tb_me 27)) 0 = .ok (.aload_n 1, 1) from by decide +kernel
theorem k27_1 {L : Nat} {xs : Nat → Int32} : decode (am_cd (am_me (tb_P L xs) 27)) 1 = .ok (.getfield 71, 3) := show decode (am_cd (tb_me 27)) 1 = .ok (.getfield 71, 3) from by decide +kernel
theorem f27_1 {L : Nat} {xs : Nat → Int32} : am_fd (tb_P L xs) 27 71 = some (3, 2, (.object "GluedMachines$Event" : FieldType), false) := show tb_fdF 27 71 = some (3, 2, (.object "GluedMachines$Event" : FieldType), false) from by decide +kernel
theorem k27_4 {L : Nat} {xs : Nat → Int32} : decode (am_cd (am_me (tb_P L xs) 27)) 4 = .ok (.ifnonnull 5, 3) := show decode (am_cd (tb_me 27)) 4 = .ok (.ifnonnull 5, 3) from by decide +kernel
theorem k27_7 {L : Nat} {xs : Nat → Int32} : decode (am_cd (am_me (tb_P L xs) 27)) 7 = .ok (.iconst 1, 1) := show decode (am_cd (tb_me 27)) 7 = .ok (.iconst 1, 1) from by decide +kernel
theorem k27_8 {L : Nat} {xs : Nat → Int32} : decode (am_cd (am_me (tb_P L xs) 27)) 8 = .ok (.ireturn, 1) := show decode (am_cd (tb_me 27)) 8 = .ok (.ireturn, 1) from by decide +kernel
theorem k27_9 {L : Nat} {xs : Nat → Int32} : decode (am_cd (am_me (tb_P L xs) 27)) 9 = .ok (.aload_n 0, 1) := show decode (am_cd (tb_me 27)) 9 = .ok (.aload_n 0, 1) from by decide +kernel
theorem k27_10 {L : Nat} {xs : Nat → Int32} : decode (am_cd (am_me (tb_P L xs) 27)) 10 = .ok (.aload_n 1, 1) := show decode (am_cd (tb_me 27)) 10 = .ok (.aload_n 1, 1) from by decide +kernel
theorem k27_11 {L : Nat} {xs : Nat → Int32} : decode (am_cd (am_me (tb_P L xs) 27)) 11 = .ok (.aload_n 2, 1) := show decode (am_cd (tb_me 27)) 11 = .ok (.aload_n 2, 1) from by decide +kernel
theorem k27_12 {L : Nat} {xs : Nat → Int32} : decode (am_cd (am_me (tb_P L xs) 27)) 12 = .ok (.invokevirtual 75, 3) := show decode (am_cd (tb_me 27)) 12 = .ok (.invokevirtual 75, 3) from by decide +kernel
theorem s27_12 {L : Nat} {xs : Nat → Int32} : am_sp (tb_P L xs) 27 75 = none := show tb_spF 27 75 = none from by decide +kernel
theorem c27_12 {L : Nat} {xs : Nat → Int32} : am_ca (tb_P L xs) 27 75 = some (28, 2, 1) := show tb_caF 27 75 = some (28, 2, 1) from by decide +kernel
theorem r27_12 {L : Nat} {xs : Nat → Int32} : am_rf (am_me (tb_P L xs) 28) + 1 ≤ am_rf (am_me (tb_P L xs) 27) ∧ 0 + (am_ml (am_me (tb_P L xs) 28) + 11) + am_rl (am_me (tb_P L xs) 28) ≤ am_rl (am_me (tb_P L xs) 27) := show am_rf (tb_me 28) + 1 ≤ am_rf (tb_me 27) ∧ 0 + (am_ml (tb_me 28) + 11) + am_rl (tb_me 28) ≤ am_rl (tb_me 27) from by decide +kernel
theorem k27_15 {L : Nat} {xs : Nat → Int32} : decode (am_cd (am_me (tb_P L xs) 27)) 15 = .ok (.aload_n 0, 1) := show decode (am_cd (tb_me 27)) 15 = .ok (.aload_n 0, 1) from by decide +kernel
theorem k27_16 {L : Nat} {xs : Nat → Int32} : decode (am_cd (am_me (tb_P L xs) 27)) 16 = .ok (.getfield 42, 3) := show decode (am_cd (tb_me 27)) 16 = .ok (.getfield 42, 3) from by decide +kernel
theorem f27_16 {L : Nat} {xs : Nat → Int32} : am_fd (tb_P L xs) 27 42 = some (5, 7, (.array .int : FieldType), false) := show tb_fdF 27 42 = some (5, 7, (.array .int : FieldType), false) from by decide +kernel
theorem k27_19 {L : Nat} {xs : Nat → Int32} : decode (am_cd (am_me (tb_P L xs) 27)) 19 = .ok (.bipush 6, 2) := show decode (am_cd (tb_me 27)) 19 = .ok (.bipush 6, 2) from by decide +kernel
theorem k27_21 {L : Nat} {xs : Nat → Int32} : decode (am_cd (am_me (tb_P L xs) 27)) 21 = .ok (.iaload, 1) := show decode (am_cd (tb_me 27)) 21 = .ok (.iaload, 1) from by decide +kernel
theorem k27_22 {L : Nat} {xs : Nat → Int32} : decode (am_cd (am_me (tb_P L xs) 27)) 22 = .ok (.aload_n 1, 1) := show decode (am_cd (tb_me 27)) 22 = .ok (.aload_n 1, 1) from by decide +kernel
theorem k27_23 {L : Nat} {xs : Nat → Int32} : decode (am_cd (am_me (tb_P L xs) 27)) 23 = .ok (.getfield 71, 3) := show decode (am_cd (tb_me 27)) 23 = .ok (.getfield 71, 3) from by decide +kernel
theorem f27_23 {L : Nat} {xs : Nat → Int32} : am_fd (tb_P L xs) 27 71 = some (3, 2, (.object "GluedMachines$Event" : FieldType), false) := show tb_fdF 27 71 = some (3, 2, (.object "GluedMachines$Event" : FieldType), false) from by decide +kernel
theorem k27_26 {L : Nat} {xs : Nat → Int32} : decode (am_cd (am_me (tb_P L xs) 27)) 26 = .ok (.getfield 83, 3) := show decode (am_cd (tb_me 27)) 26 = .ok (.getfield 83, 3) from by decide +kernel
theorem f27_26 {L : Nat} {xs : Nat → Int32} : am_fd (tb_P L xs) 27 83 = some (3, 1, (.int : FieldType), false) := show tb_fdF 27 83 = some (3, 1, (.int : FieldType), false) from by decide +kernel
theorem k27_29 {L : Nat} {xs : Nat → Int32} : decode (am_cd (am_me (tb_P L xs) 27)) 29 = .ok (.invokestatic 51, 3) := show decode (am_cd (tb_me 27)) 29 = .ok (.invokestatic 51, 3) from by decide +kernel
theorem s27_29 {L : Nat} {xs : Nat → Int32} : am_sp (tb_P L xs) 27 51 = none := show tb_spF 27 51 = none from by decide +kernel
theorem c27_29 {L : Nat} {xs : Nat → Int32} : am_ca (tb_P L xs) 27 51 = some (26, 2, 0) := show tb_caF 27 51 = some (26, 2, 0) from by decide +kernel
theorem r27_29 {L : Nat} {xs : Nat → Int32} : am_rf (am_me (tb_P L xs) 26) + 1 ≤ am_rf (am_me (tb_P L xs) 27) ∧ 0 + (am_ml (am_me (tb_P L xs) 26) + 11) + am_rl (am_me (tb_P L xs) 26) ≤ am_rl (am_me (tb_P L xs) 27) := show am_rf (tb_me 26) + 1 ≤ am_rf (tb_me 27) ∧ 0 + (am_ml (tb_me 26) + 11) + am_rl (tb_me 26) ≤ am_rl (tb_me 27) from by decide +kernel
theorem k27_32 {L : Nat} {xs : Nat → Int32} : decode (am_cd (am_me (tb_P L xs) 27)) 32 = .ok (.ifCond .eq 21, 3) := show decode (am_cd (tb_me 27)) 32 = .ok (.ifCond .eq 21, 3) from by decide +kernel
theorem k27_35 {L : Nat} {xs : Nat → Int32} : decode (am_cd (am_me (tb_P L xs) 27)) 35 = .ok (.aload_n 1, 1) := show decode (am_cd (tb_me 27)) 35 = .ok (.aload_n 1, 1) from by decide +kernel
theorem k27_36 {L : Nat} {xs : Nat → Int32} : decode (am_cd (am_me (tb_P L xs) 27)) 36 = .ok (.getfield 71, 3) := show decode (am_cd (tb_me 27)) 36 = .ok (.getfield 71, 3) from by decide +kernel
theorem f27_36 {L : Nat} {xs : Nat → Int32} : am_fd (tb_P L xs) 27 71 = some (3, 2, (.object "GluedMachines$Event" : FieldType), false) := show tb_fdF 27 71 = some (3, 2, (.object "GluedMachines$Event" : FieldType), false) from by decide +kernel
theorem k27_39 {L : Nat} {xs : Nat → Int32} : decode (am_cd (am_me (tb_P L xs) 27)) 39 = .ok (.aload_n 0, 1) := show decode (am_cd (tb_me 27)) 39 = .ok (.aload_n 0, 1) from by decide +kernel
theorem k27_40 {L : Nat} {xs : Nat → Int32} : decode (am_cd (am_me (tb_P L xs) 27)) 40 = .ok (.getfield 42, 3) := show decode (am_cd (tb_me 27)) 40 = .ok (.getfield 42, 3) from by decide +kernel
theorem f27_40 {L : Nat} {xs : Nat → Int32} : am_fd (tb_P L xs) 27 42 = some (5, 7, (.array .int : FieldType), false) := show tb_fdF 27 42 = some (5, 7, (.array .int : FieldType), false) from by decide +kernel
theorem k27_43 {L : Nat} {xs : Nat → Int32} : decode (am_cd (am_me (tb_P L xs) 27)) 43 = .ok (.invokevirtual 86, 3) := show decode (am_cd (tb_me 27)) 43 = .ok (.invokevirtual 86, 3) from by decide +kernel
theorem s27_43 {L : Nat} {xs : Nat → Int32} : am_sp (tb_P L xs) 27 86 = none := show tb_spF 27 86 = none from by decide +kernel
theorem c27_43 {L : Nat} {xs : Nat → Int32} : am_ca (tb_P L xs) 27 86 = some (23, 1, 1) := show tb_caF 27 86 = some (23, 1, 1) from by decide +kernel
theorem r27_43 {L : Nat} {xs : Nat → Int32} : am_rf (am_me (tb_P L xs) 23) + 1 ≤ am_rf (am_me (tb_P L xs) 27) ∧ 0 + (am_ml (am_me (tb_P L xs) 23) + 11) + am_rl (am_me (tb_P L xs) 23) ≤ am_rl (am_me (tb_P L xs) 27) := show am_rf (tb_me 23) + 1 ≤ am_rf (tb_me 27) ∧ 0 + (am_ml (tb_me 23) + 11) + am_rl (tb_me 23) ≤ am_rl (tb_me 27) from by decide +kernel
theorem k27_46 {L : Nat} {xs : Nat → Int32} : decode (am_cd (am_me (tb_P L xs) 27)) 46 = .ok (.ifCond .eq 7, 3) := show decode (am_cd (tb_me 27)) 46 = .ok (.ifCond .eq 7, 3) from by decide +kernel
theorem k27_49 {L : Nat} {xs : Nat → Int32} : decode (am_cd (am_me (tb_P L xs) 27)) 49 = .ok (.iconst 1, 1) := show decode (am_cd (tb_me 27)) 49 = .ok (.iconst 1, 1) from by decide +kernel
theorem k27_50 {L : Nat} {xs : Nat → Int32} : decode (am_cd (am_me (tb_P L xs) 27)) 50 = .ok (.goto 4, 3) := show decode (am_cd (tb_me 27)) 50 = .ok (.goto 4, 3) from by decide +kernel
theorem k27_53 {L : Nat} {xs : Nat → Int32} : decode (am_cd (am_me (tb_P L xs) 27)) 53 = .ok (.iconst 0, 1) := show decode (am_cd (tb_me 27)) 53 = .ok (.iconst 0, 1) from by decide +kernel
theorem k27_54 {L : Nat} {xs : Nat → Int32} : decode (am_cd (am_me (tb_P L xs) 27)) 54 = .ok (.ireturn, 1) := show decode (am_cd (tb_me 27)) 54 = .ok (.ireturn, 1) from by decide +kernel
theorem t27 {L : Nat} {xs : Nat → Int32} : am_rt (am_me (tb_P L xs) 27) = some (.boolean : FieldType) := show am_rt (tb_me 27) = some (.boolean : FieldType) from by decide +kernel
theorem l27 {L : Nat} {xs : Nat → Int32} : am_ml (am_me (tb_P L xs) 27) = 3 := show am_ml (tb_me 27) = 3 from by decide +kernel
theorem o27 {L : Nat} {xs : Nat → Int32} (pc : Nat) : am_no (tb_P L xs) 27 pc = true := show (am_hd (tb_me 27)).all (fun q => !(decide (q.1 ≤ pc) && decide (pc < q.2.1))) = true from by rw [show am_hd (tb_me 27) = [] by decide +kernel]; rfl
theorem k28_0 {L : Nat} {xs : Nat → Int32} : decode (am_cd (am_me (tb_P L xs) 28)) 0 = .ok (.aload_n 2, 1) := show decode (am_cd (tb_me 28)) 0 = .ok (.aload_n 2, 1) from by decide +kernel
theorem k28_1 {L : Nat} {xs : Nat → Int32} : decode (am_cd (am_me (tb_P L xs) 28)) 1 = .ok (.iconst 0, 1) := show decode (am_cd (tb_me 28)) 1 = .ok (.iconst 0, 1) from by decide +kernel
theorem k28_2 {L : Nat} {xs : Nat → Int32} : decode (am_cd (am_me (tb_P L xs) 28)) 2 = .ok (.aload_n 0, 1) := show decode (am_cd (tb_me 28)) 2 = .ok (.aload_n 0, 1) from by decide +kernel
theorem k28_3 {L : Nat} {xs : Nat → Int32} : decode (am_cd (am_me (tb_P L xs) 28)) 3 = .ok (.getfield 42, 3) := show decode (am_cd (tb_me 28)) 3 = .ok (.getfield 42, 3) from by decide +kernel
theorem f28_3 {L : Nat} {xs : Nat → Int32} : am_fd (tb_P L xs) 28 42 = some (5, 7, (.array .int : FieldType), false) := show tb_fdF 28 42 = some (5, 7, (.array .int : FieldType), false) from by decide +kernel
theorem k28_6 {L : Nat} {xs : Nat → Int32} : decode (am_cd (am_me (tb_P L xs) 28)) 6 = .ok (.iconst 0, 1) := show decode (am_cd (tb_me 28)) 6 = .ok (.iconst 0, 1) from by decide +kernel
theorem k28_7 {L : Nat} {xs : Nat → Int32} : decode (am_cd (am_me (tb_P L xs) 28)) 7 = .ok (.bipush 7, 2) := show decode (am_cd (tb_me 28)) 7 = .ok (.bipush 7, 2) from by decide +kernel
theorem k28_9 {L : Nat} {xs : Nat → Int32} : decode (am_cd (am_me (tb_P L xs) 28)) 9 = .ok (.invokestatic 61, 3) := show decode (am_cd (tb_me 28)) 9 = .ok (.invokestatic 61, 3) from by decide +kernel
theorem s28_9 {L : Nat} {xs : Nat → Int32} : am_sp (tb_P L xs) 28 61 = some 3 := show tb_spF 28 61 = some 3 from by decide +kernel
theorem r28_9 {L : Nat} {xs : Nat → Int32} : 1 ≤ am_rf (am_me (tb_P L xs) 28) ∧ 0 + (nativeFrameWords "java/lang/System" "arraycopy" 5 + 11) ≤ am_rl (am_me (tb_P L xs) 28) := show 1 ≤ am_rf (tb_me 28) ∧ 0 + (nativeFrameWords "java/lang/System" "arraycopy" 5 + 11) ≤ am_rl (tb_me 28) from by decide +kernel
theorem k28_12 {L : Nat} {xs : Nat → Int32} : decode (am_cd (am_me (tb_P L xs) 28)) 12 = .ok (.aload_n 0, 1) := show decode (am_cd (tb_me 28)) 12 = .ok (.aload_n 0, 1) from by decide +kernel
theorem k28_13 {L : Nat} {xs : Nat → Int32} : decode (am_cd (am_me (tb_P L xs) 28)) 13 = .ok (.getfield 42, 3) := show decode (am_cd (tb_me 28)) 13 = .ok (.getfield 42, 3) from by decide +kernel
theorem f28_13 {L : Nat} {xs : Nat → Int32} : am_fd (tb_P L xs) 28 42 = some (5, 7, (.array .int : FieldType), false) := show tb_fdF 28 42 = some (5, 7, (.array .int : FieldType), false) from by decide +kernel
theorem k28_16 {L : Nat} {xs : Nat → Int32} : decode (am_cd (am_me (tb_P L xs) 28)) 16 = .ok (.bipush 6, 2) := show decode (am_cd (tb_me 28)) 16 = .ok (.bipush 6, 2) from by decide +kernel
theorem k28_18 {L : Nat} {xs : Nat → Int32} : decode (am_cd (am_me (tb_P L xs) 28)) 18 = .ok (.aload_n 1, 1) := show decode (am_cd (tb_me 28)) 18 = .ok (.aload_n 1, 1) from by decide +kernel
theorem k28_19 {L : Nat} {xs : Nat → Int32} : decode (am_cd (am_me (tb_P L xs) 28)) 19 = .ok (.getfield 90, 3) := show decode (am_cd (tb_me 28)) 19 = .ok (.getfield 90, 3) from by decide +kernel
theorem f28_19 {L : Nat} {xs : Nat → Int32} : am_fd (tb_P L xs) 28 90 = some (3, 4, (.object "GluedMachines$Formula" : FieldType), true) := show tb_fdF 28 90 = some (3, 4, (.object "GluedMachines$Formula" : FieldType), true) from by decide +kernel
theorem k28_22 {L : Nat} {xs : Nat → Int32} : decode (am_cd (am_me (tb_P L xs) 28)) 22 = .ok (.ifnonnull 7, 3) := show decode (am_cd (tb_me 28)) 22 = .ok (.ifnonnull 7, 3) from by decide +kernel
theorem k28_25 {L : Nat} {xs : Nat → Int32} : decode (am_cd (am_me (tb_P L xs) 28)) 25 = .ok (.iconst 0, 1) := show decode (am_cd (tb_me 28)) 25 = .ok (.iconst 0, 1) from by decide +kernel
theorem k28_26 {L : Nat} {xs : Nat → Int32} : decode (am_cd (am_me (tb_P L xs) 28)) 26 = .ok (.goto 11, 3) := show decode (am_cd (tb_me 28)) 26 = .ok (.goto 11, 3) from by decide +kernel
theorem k28_29 {L : Nat} {xs : Nat → Int32} : decode (am_cd (am_me (tb_P L xs) 28)) 29 = .ok (.aload_n 1, 1) := show decode (am_cd (tb_me 28)) 29 = .ok (.aload_n 1, 1) from by decide +kernel
theorem k28_30 {L : Nat} {xs : Nat → Int32} : decode (am_cd (am_me (tb_P L xs) 28)) 30 = .ok (.getfield 90, 3) := show decode (am_cd (tb_me 28)) 30 = .ok (.getfield 90, 3) from by decide +kernel
theorem f28_30 {L : Nat} {xs : Nat → Int32} : am_fd (tb_P L xs) 28 90 = some (3, 4, (.object "GluedMachines$Formula" : FieldType), true) := show tb_fdF 28 90 = some (3, 4, (.object "GluedMachines$Formula" : FieldType), true) from by decide +kernel
theorem k28_33 {L : Nat} {xs : Nat → Int32} : decode (am_cd (am_me (tb_P L xs) 28)) 33 = .ok (.aload_n 2, 1) := show decode (am_cd (tb_me 28)) 33 = .ok (.aload_n 2, 1) from by decide +kernel
theorem k28_34 {L : Nat} {xs : Nat → Int32} : decode (am_cd (am_me (tb_P L xs) 28)) 34 = .ok (.invokevirtual 55, 3) := show decode (am_cd (tb_me 28)) 34 = .ok (.invokevirtual 55, 3) from by decide +kernel
theorem s28_34 {L : Nat} {xs : Nat → Int32} : am_sp (tb_P L xs) 28 55 = none := show tb_spF 28 55 = none from by decide +kernel
theorem c28_34 {L : Nat} {xs : Nat → Int32} : am_ca (tb_P L xs) 28 55 = some (13, 1, 1) := show tb_caF 28 55 = some (13, 1, 1) from by decide +kernel
theorem r28_34 {L : Nat} {xs : Nat → Int32} : am_rf (am_me (tb_P L xs) 13) + 1 ≤ am_rf (am_me (tb_P L xs) 28) ∧ 2 + (am_ml (am_me (tb_P L xs) 13) + 11) + am_rl (am_me (tb_P L xs) 13) ≤ am_rl (am_me (tb_P L xs) 28) := show am_rf (tb_me 13) + 1 ≤ am_rf (tb_me 28) ∧ 2 + (am_ml (tb_me 13) + 11) + am_rl (tb_me 13) ≤ am_rl (tb_me 28) from by decide +kernel
theorem k28_37 {L : Nat} {xs : Nat → Int32} : decode (am_cd (am_me (tb_P L xs) 28)) 37 = .ok (.iastore, 1) := show decode (am_cd (tb_me 28)) 37 = .ok (.iastore, 1) from by decide +kernel
theorem k28_38 {L : Nat} {xs : Nat → Int32} : decode (am_cd (am_me (tb_P L xs) 28)) 38 = .ok (.return_, 1) := show decode (am_cd (tb_me 28)) 38 = .ok (.return_, 1) from by decide +kernel
theorem t28 {L : Nat} {xs : Nat → Int32} : am_rt (am_me (tb_P L xs) 28) = none := show am_rt (tb_me 28) = none from by decide +kernel
theorem l28 {L : Nat} {xs : Nat → Int32} : am_ml (am_me (tb_P L xs) 28) = 3 := show am_ml (tb_me 28) = 3 from by decide +kernel
theorem o28 {L : Nat} {xs : Nat → Int32} (pc : Nat) : am_no (tb_P L xs) 28 pc = true := show (am_hd (tb_me 28)).all (fun q => !(decide (q.1 ≤ pc) && decide (pc < q.2.1))) = true from by rw [show am_hd (tb_me 28) = [] by decide +kernel]; rfl
theorem k29_0 {L : Nat} {xs : Nat → Int32} : decode (am_cd (am_me (tb_P L xs) 29)) 0 = .ok (.aload_n 0, 1) := show decode (am_cd (tb_me 29)) 0 = .ok (.aload_n 0, 1) from by decide +kernel
theorem k29_1 {L : Nat} {xs : Nat → Int32} : decode (am_cd (am_me (tb_P L xs) 29)) 1 = .ok (.getfield 35, 3) := show decode (am_cd (tb_me 29)) 1 = .ok (.getfield 35, 3) from by decide +kernel
theorem f29_1 {L : Nat} {xs : Nat → Int32} : am_fd (tb_P L xs) 29 35 = some (5, 5, (.object "GluedMachines$Formula" : FieldType), true) := show tb_fdF 29 35 = some (5, 5, (.object "GluedMachines$Formula" : FieldType), true) from by decide +kernel
theorem k29_4 {L : Nat} {xs : Nat → Int32} : decode (am_cd (am_me (tb_P L xs) 29)) 4 = .ok (.ifnonnull 7, 3) := show decode (am_cd (tb_me 29)) 4 = .ok (.ifnonnull 7, 3) from by decide +kernel
theorem k29_7 {L : Nat} {xs : Nat → Int32} : decode (am_cd (am_me (tb_P L xs) 29)) 7 = .ok (.iconst 0, 1) := show decode (am_cd (tb_me 29)) 7 = .ok (.iconst 0, 1) from by decide +kernel
theorem k29_8 {L : Nat} {xs : Nat → Int32} : decode (am_cd (am_me (tb_P L xs) 29)) 8 = .ok (.goto 11, 3) := show decode (am_cd (tb_me 29)) 8 = .ok (.goto 11, 3) from by decide +kernel
theorem k29_11 {L : Nat} {xs : Nat → Int32} : decode (am_cd (am_me (tb_P L xs) 29)) 11 = .ok (.aload_n 0, 1) := show decode (am_cd (tb_me 29)) 11 = .ok (.aload_n 0, 1) from by decide +kernel
theorem k29_12 {L : Nat} {xs : Nat → Int32} : decode (am_cd (am_me (tb_P L xs) 29)) 12 = .ok (.getfield 35, 3) := show decode (am_cd (tb_me 29)) 12 = .ok (.getfield 35, 3) from by decide +kernel
theorem f29_12 {L : Nat} {xs : Nat → Int32} : am_fd (tb_P L xs) 29 35 = some (5, 5, (.object "GluedMachines$Formula" : FieldType), true) := show tb_fdF 29 35 = some (5, 5, (.object "GluedMachines$Formula" : FieldType), true) from by decide +kernel
theorem k29_15 {L : Nat} {xs : Nat → Int32} : decode (am_cd (am_me (tb_P L xs) 29)) 15 = .ok (.aload_n 1, 1) := show decode (am_cd (tb_me 29)) 15 = .ok (.aload_n 1, 1) from by decide +kernel
theorem k29_16 {L : Nat} {xs : Nat → Int32} : decode (am_cd (am_me (tb_P L xs) 29)) 16 = .ok (.invokevirtual 55, 3) := show decode (am_cd (tb_me 29)) 16 = .ok (.invokevirtual 55, 3) from by decide +kernel
theorem s29_16 {L : Nat} {xs : Nat → Int32} : am_sp (tb_P L xs) 29 55 = none := show tb_spF 29 55 = none from by decide +kernel
theorem c29_16 {L : Nat} {xs : Nat → Int32} : am_ca (tb_P L xs) 29 55 = some (13, 1, 1) := show tb_caF 29 55 = some (13, 1, 1) from by decide +kernel
theorem r29_16 {L : Nat} {xs : Nat → Int32} : am_rf (am_me (tb_P L xs) 13) + 1 ≤ am_rf (am_me (tb_P L xs) 29) ∧ 0 + (am_ml (am_me (tb_P L xs) 13) + 11) + am_rl (am_me (tb_P L xs) 13) ≤ am_rl (am_me (tb_P L xs) 29) := show am_rf (tb_me 13) + 1 ≤ am_rf (tb_me 29) ∧ 0 + (am_ml (tb_me 13) + 11) + am_rl (tb_me 13) ≤ am_rl (tb_me 29) from by decide +kernel
theorem k29_19 {L : Nat} {xs : Nat → Int32} : decode (am_cd (am_me (tb_P L xs) 29)) 19 = .ok (.ireturn, 1) := show decode (am_cd (tb_me 29)) 19 = .ok (.ireturn, 1) from by decide +kernel
theorem t29 {L : Nat} {xs : Nat → Int32} : am_rt (am_me (tb_P L xs) 29) = some (.int : FieldType) := show am_rt (tb_me 29) = some (.int : FieldType) from by decide +kernel
theorem l29 {L : Nat} {xs : Nat → Int32} : am_ml (am_me (tb_P L xs) 29) = 2 := show am_ml (tb_me 29) = 2 from by decide +kernel
theorem o29 {L : Nat} {xs : Nat → Int32} (pc : Nat) : am_no (tb_P L xs) 29 pc = true := show (am_hd (tb_me 29)).all (fun q => !(decide (q.1 ≤ pc) && decide (pc < q.2.1))) = true from by rw [show am_hd (tb_me 29) = [] by decide +kernel]; rfl
theorem k30_0 {L : Nat} {xs : Nat → Int32} : decode (am_cd (am_me (tb_P L xs) 30)) 0 = .ok (.aload_n 2, 1) := show decode (am_cd (tb_me 30)) 0 = .ok (.aload_n 2, 1) from by decide +kernel
theorem k30_1 {L : Nat} {xs : Nat → Int32} : decode (am_cd (am_me (tb_P L xs) 30)) 1 = .ok (.iconst 0, 1) := show decode (am_cd (tb_me 30)) 1 = .ok (.iconst 0, 1) from by decide +kernel
theorem k30_2 {L : Nat} {xs : Nat → Int32} : decode (am_cd (am_me (tb_P L xs) 30)) 2 = .ok (.aload_n 0, 1) := show decode (am_cd (tb_me 30)) 2 = .ok (.aload_n 0, 1) from by decide +kernel
theorem k30_3 {L : Nat} {xs : Nat → Int32} : decode (am_cd (am_me (tb_P L xs) 30)) 3 = .ok (.getfield 39, 3) := show decode (am_cd (tb_me 30)) 3 = .ok (.getfield 39, 3) from by decide +kernel
theorem f30_3 {L : Nat} {xs : Nat → Int32} : am_fd (tb_P L xs) 30 39 = some (5, 6, (.array .int : FieldType), false) := show tb_fdF 30 39 = some (5, 6, (.array .int : FieldType), false) from by decide +kernel
theorem k30_6 {L : Nat} {xs : Nat → Int32} : decode (am_cd (am_me (tb_P L xs) 30)) 6 = .ok (.iconst 0, 1) := show decode (am_cd (tb_me 30)) 6 = .ok (.iconst 0, 1) from by decide +kernel
theorem k30_7 {L : Nat} {xs : Nat → Int32} : decode (am_cd (am_me (tb_P L xs) 30)) 7 = .ok (.bipush 7, 2) := show decode (am_cd (tb_me 30)) 7 = .ok (.bipush 7, 2) from by decide +kernel
theorem k30_9 {L : Nat} {xs : Nat → Int32} : decode (am_cd (am_me (tb_P L xs) 30)) 9 = .ok (.invokestatic 61, 3) := show decode (am_cd (tb_me 30)) 9 = .ok (.invokestatic 61, 3) from by decide +kernel
theorem s30_9 {L : Nat} {xs : Nat → Int32} : am_sp (tb_P L xs) 30 61 = some 3 := show tb_spF 30 61 = some 3 from by decide +kernel
theorem r30_9 {L : Nat} {xs : Nat → Int32} : 1 ≤ am_rf (am_me (tb_P L xs) 30) ∧ 0 + (nativeFrameWords "java/lang/System" "arraycopy" 5 + 11) ≤ am_rl (am_me (tb_P L xs) 30) := show 1 ≤ am_rf (tb_me 30) ∧ 0 + (nativeFrameWords "java/lang/System" "arraycopy" 5 + 11) ≤ am_rl (tb_me 30) from by decide +kernel
theorem k30_12 {L : Nat} {xs : Nat → Int32} : decode (am_cd (am_me (tb_P L xs) 30)) 12 = .ok (.aload_n 0, 1) := show decode (am_cd (tb_me 30)) 12 = .ok (.aload_n 0, 1) from by decide +kernel
theorem k30_13 {L : Nat} {xs : Nat → Int32} : decode (am_cd (am_me (tb_P L xs) 30)) 13 = .ok (.aload_n 1, 1) := show decode (am_cd (tb_me 30)) 13 = .ok (.aload_n 1, 1) from by decide +kernel
theorem k30_14 {L : Nat} {xs : Nat → Int32} : decode (am_cd (am_me (tb_P L xs) 30)) 14 = .ok (.aload_n 2, 1) := show decode (am_cd (tb_me 30)) 14 = .ok (.aload_n 2, 1) from by decide +kernel
theorem k30_15 {L : Nat} {xs : Nat → Int32} : decode (am_cd (am_me (tb_P L xs) 30)) 15 = .ok (.invokevirtual 67, 3) := show decode (am_cd (tb_me 30)) 15 = .ok (.invokevirtual 67, 3) from by decide +kernel
theorem s30_15 {L : Nat} {xs : Nat → Int32} : am_sp (tb_P L xs) 30 67 = none := show tb_spF 30 67 = none from by decide +kernel
theorem c30_15 {L : Nat} {xs : Nat → Int32} : am_ca (tb_P L xs) 30 67 = some (25, 2, 1) := show tb_caF 30 67 = some (25, 2, 1) from by decide +kernel
theorem r30_15 {L : Nat} {xs : Nat → Int32} : am_rf (am_me (tb_P L xs) 25) + 1 ≤ am_rf (am_me (tb_P L xs) 30) ∧ 0 + (am_ml (am_me (tb_P L xs) 25) + 11) + am_rl (am_me (tb_P L xs) 25) ≤ am_rl (am_me (tb_P L xs) 30) := show am_rf (tb_me 25) + 1 ≤ am_rf (tb_me 30) ∧ 0 + (am_ml (tb_me 25) + 11) + am_rl (tb_me 25) ≤ am_rl (tb_me 30) from by decide +kernel
theorem k30_18 {L : Nat} {xs : Nat → Int32} : decode (am_cd (am_me (tb_P L xs) 30)) 18 = .ok (.ifCond .ne 5, 3) := show decode (am_cd (tb_me 30)) 18 = .ok (.ifCond .ne 5, 3) from by decide +kernel
theorem k30_21 {L : Nat} {xs : Nat → Int32} : decode (am_cd (am_me (tb_P L xs) 30)) 21 = .ok (.iconst 0, 1) := show decode (am_cd (tb_me 30)) 21 = .ok (.iconst 0, 1) from by decide +kernel
theorem k30_22 {L : Nat} {xs : Nat → Int32} : decode (am_cd (am_me (tb_P L xs) 30)) 22 = .ok (.ireturn, 1) := show decode (am_cd (tb_me 30)) 22 = .ok (.ireturn, 1) from by decide +kernel
theorem k30_23 {L : Nat} {xs : Nat → Int32} : decode (am_cd (am_me (tb_P L xs) 30)) 23 = .ok (.aload_n 1, 1) := show decode (am_cd (tb_me 30)) 23 = .ok (.aload_n 1, 1) from by decide +kernel
theorem k30_24 {L : Nat} {xs : Nat → Int32} : decode (am_cd (am_me (tb_P L xs) 30)) 24 = .ok (.getfield 71, 3) := show decode (am_cd (tb_me 30)) 24 = .ok (.getfield 71, 3) from by decide +kernel
theorem f30_24 {L : Nat} {xs : Nat → Int32} : am_fd (tb_P L xs) 30 71 = some (3, 2, (.object "GluedMachines$Event" : FieldType), false) := show tb_fdF 30 71 = some (3, 2, (.object "GluedMachines$Event" : FieldType), false) from by decide +kernel
theorem k30_27 {L : Nat} {xs : Nat → Int32} : decode (am_cd (am_me (tb_P L xs) 30)) 27 = .ok (.ifnonnull 5, 3) := show decode (am_cd (tb_me 30)) 27 = .ok (.ifnonnull 5, 3) from by decide +kernel
theorem k30_30 {L : Nat} {xs : Nat → Int32} : decode (am_cd (am_me (tb_P L xs) 30)) 30 = .ok (.iconst 1, 1) := show decode (am_cd (tb_me 30)) 30 = .ok (.iconst 1, 1) from by decide +kernel
theorem k30_31 {L : Nat} {xs : Nat → Int32} : decode (am_cd (am_me (tb_P L xs) 30)) 31 = .ok (.ireturn, 1) := show decode (am_cd (tb_me 30)) 31 = .ok (.ireturn, 1) from by decide +kernel
theorem k30_32 {L : Nat} {xs : Nat → Int32} : decode (am_cd (am_me (tb_P L xs) 30)) 32 = .ok (.aload_n 0, 1) := show decode (am_cd (tb_me 30)) 32 = .ok (.aload_n 0, 1) from by decide +kernel
theorem k30_33 {L : Nat} {xs : Nat → Int32} : decode (am_cd (am_me (tb_P L xs) 30)) 33 = .ok (.aload_n 1, 1) := show decode (am_cd (tb_me 30)) 33 = .ok (.aload_n 1, 1) from by decide +kernel
theorem k30_34 {L : Nat} {xs : Nat → Int32} : decode (am_cd (am_me (tb_P L xs) 30)) 34 = .ok (.aload_n 2, 1) := show decode (am_cd (tb_me 30)) 34 = .ok (.aload_n 2, 1) from by decide +kernel
theorem k30_35 {L : Nat} {xs : Nat → Int32} : decode (am_cd (am_me (tb_P L xs) 30)) 35 = .ok (.invokevirtual 75, 3) := show decode (am_cd (tb_me 30)) 35 = .ok (.invokevirtual 75, 3) from by decide +kernel
theorem s30_35 {L : Nat} {xs : Nat → Int32} : am_sp (tb_P L xs) 30 75 = none := show tb_spF 30 75 = none from by decide +kernel
theorem c30_35 {L : Nat} {xs : Nat → Int32} : am_ca (tb_P L xs) 30 75 = some (28, 2, 1) := show tb_caF 30 75 = some (28, 2, 1) from by decide +kernel
theorem r30_35 {L : Nat} {xs : Nat → Int32} : am_rf (am_me (tb_P L xs) 28) + 1 ≤ am_rf (am_me (tb_P L xs) 30) ∧ 0 + (am_ml (am_me (tb_P L xs) 28) + 11) + am_rl (am_me (tb_P L xs) 28) ≤ am_rl (am_me (tb_P L xs) 30) := show am_rf (tb_me 28) + 1 ≤ am_rf (tb_me 30) ∧ 0 + (am_ml (tb_me 28) + 11) + am_rl (tb_me 28) ≤ am_rl (tb_me 30) from by decide +kernel
theorem k30_38 {L : Nat} {xs : Nat → Int32} : decode (am_cd (am_me (tb_P L xs) 30)) 38 = .ok (.aload_n 0, 1) := show decode (am_cd (tb_me 30)) 38 = .ok (.aload_n 0, 1) from by decide +kernel
theorem k30_39 {L : Nat} {xs : Nat → Int32} : decode (am_cd (am_me (tb_P L xs) 30)) 39 = .ok (.aload_n 1, 1) := show decode (am_cd (tb_me 30)) 39 = .ok (.aload_n 1, 1) from by decide +kernel
theorem k30_40 {L : Nat} {xs : Nat → Int32} : decode (am_cd (am_me (tb_P L xs) 30)) 40 = .ok (.getfield 71, 3) := show decode (am_cd (tb_me 30)) 40 = .ok (.getfield 71, 3) from by decide +kernel
theorem f30_40 {L : Nat} {xs : Nat → Int32} : am_fd (tb_P L xs) 30 71 = some (3, 2, (.object "GluedMachines$Event" : FieldType), false) := show tb_fdF 30 71 = some (3, 2, (.object "GluedMachines$Event" : FieldType), false) from by decide +kernel
theorem k30_43 {L : Nat} {xs : Nat → Int32} : decode (am_cd (am_me (tb_P L xs) 30)) 43 = .ok (.aload_n 0, 1) := show decode (am_cd (tb_me 30)) 43 = .ok (.aload_n 0, 1) from by decide +kernel
theorem k30_44 {L : Nat} {xs : Nat → Int32} : decode (am_cd (am_me (tb_P L xs) 30)) 44 = .ok (.getfield 42, 3) := show decode (am_cd (tb_me 30)) 44 = .ok (.getfield 42, 3) from by decide +kernel
theorem f30_44 {L : Nat} {xs : Nat → Int32} : am_fd (tb_P L xs) 30 42 = some (5, 7, (.array .int : FieldType), false) := show tb_fdF 30 42 = some (5, 7, (.array .int : FieldType), false) from by decide +kernel
theorem k30_47 {L : Nat} {xs : Nat → Int32} : decode (am_cd (am_me (tb_P L xs) 30)) 47 = .ok (.invokevirtual 67, 3) := show decode (am_cd (tb_me 30)) 47 = .ok (.invokevirtual 67, 3) from by decide +kernel
theorem s30_47 {L : Nat} {xs : Nat → Int32} : am_sp (tb_P L xs) 30 67 = none := show tb_spF 30 67 = none from by decide +kernel
theorem c30_47 {L : Nat} {xs : Nat → Int32} : am_ca (tb_P L xs) 30 67 = some (25, 2, 1) := show tb_caF 30 67 = some (25, 2, 1) from by decide +kernel
theorem r30_47 {L : Nat} {xs : Nat → Int32} : am_rf (am_me (tb_P L xs) 25) + 1 ≤ am_rf (am_me (tb_P L xs) 30) ∧ 0 + (am_ml (am_me (tb_P L xs) 25) + 11) + am_rl (am_me (tb_P L xs) 25) ≤ am_rl (am_me (tb_P L xs) 30) := show am_rf (tb_me 25) + 1 ≤ am_rf (tb_me 30) ∧ 0 + (am_ml (tb_me 25) + 11) + am_rl (tb_me 25) ≤ am_rl (tb_me 30) from by decide +kernel
theorem k30_50 {L : Nat} {xs : Nat → Int32} : decode (am_cd (am_me (tb_P L xs) 30)) 50 = .ok (.ireturn, 1) := show decode (am_cd (tb_me 30)) 50 = .ok (.ireturn, 1) from by decide +kernel
theorem t30 {L : Nat} {xs : Nat → Int32} : am_rt (am_me (tb_P L xs) 30) = some (.boolean : FieldType) := show am_rt (tb_me 30) = some (.boolean : FieldType) from by decide +kernel
theorem l30 {L : Nat} {xs : Nat → Int32} : am_ml (am_me (tb_P L xs) 30) = 3 := show am_ml (tb_me 30) = 3 from by decide +kernel
theorem o30 {L : Nat} {xs : Nat → Int32} (pc : Nat) : am_no (tb_P L xs) 30 pc = true := show (am_hd (tb_me 30)).all (fun q => !(decide (q.1 ≤ pc) && decide (pc < q.2.1))) = true from by rw [show am_hd (tb_me 30) = [] by decide +kernel]; rfl
theorem k31_0 {L : Nat} {xs : Nat → Int32} : decode (am_cd (am_me (tb_P L xs) 31)) 0 = .ok (.bipush 6, 2) := show decode (am_cd (tb_me 31)) 0 = .ok (.bipush 6, 2) from by decide +kernel
theorem k31_2 {L : Nat} {xs : Nat → Int32} : decode (am_cd (am_me (tb_P L xs) 31)) 2 = .ok (.istore_n 1, 1) := show decode (am_cd (tb_me 31)) 2 = .ok (.istore_n 1, 1) from by decide +kernel
theorem k31_3 {L : Nat} {xs : Nat → Int32} : decode (am_cd (am_me (tb_P L xs) 31)) 3 = .ok (.iload_n 1, 1) := show decode (am_cd (tb_me 31)) 3 = .ok (.iload_n 1, 1) from by decide +kernel
theorem k31_4 {L : Nat} {xs : Nat → Int32} : decode (am_cd (am_me (tb_P L xs) 31)) 4 = .ok (.ifCond .lt 42, 3) := show decode (am_cd (tb_me 31)) 4 = .ok (.ifCond .lt 42, 3) from by decide +kernel
theorem k31_7 {L : Nat} {xs : Nat → Int32} : decode (am_cd (am_me (tb_P L xs) 31)) 7 = .ok (.aload_n 0, 1) := show decode (am_cd (tb_me 31)) 7 = .ok (.aload_n 0, 1) from by decide +kernel
theorem k31_8 {L : Nat} {xs : Nat → Int32} : decode (am_cd (am_me (tb_P L xs) 31)) 8 = .ok (.getfield 9, 3) := show decode (am_cd (tb_me 31)) 8 = .ok (.getfield 9, 3) from by decide +kernel
theorem f31_8 {L : Nat} {xs : Nat → Int32} : am_fd (tb_P L xs) 31 9 = some (6, 1, (.array .int : FieldType), false) := show tb_fdF 31 9 = some (6, 1, (.array .int : FieldType), false) from by decide +kernel
theorem k31_11 {L : Nat} {xs : Nat → Int32} : decode (am_cd (am_me (tb_P L xs) 31)) 11 = .ok (.iload_n 1, 1) := show decode (am_cd (tb_me 31)) 11 = .ok (.iload_n 1, 1) from by decide +kernel
theorem k31_12 {L : Nat} {xs : Nat → Int32} : decode (am_cd (am_me (tb_P L xs) 31)) 12 = .ok (.dup2, 1) := show decode (am_cd (tb_me 31)) 12 = .ok (.dup2, 1) from by decide +kernel
theorem k31_13 {L : Nat} {xs : Nat → Int32} : decode (am_cd (am_me (tb_P L xs) 31)) 13 = .ok (.iaload, 1) := show decode (am_cd (tb_me 31)) 13 = .ok (.iaload, 1) from by decide +kernel
theorem k31_14 {L : Nat} {xs : Nat → Int32} : decode (am_cd (am_me (tb_P L xs) 31)) 14 = .ok (.iconst 1, 1) := show decode (am_cd (tb_me 31)) 14 = .ok (.iconst 1, 1) from by decide +kernel
theorem k31_15 {L : Nat} {xs : Nat → Int32} : decode (am_cd (am_me (tb_P L xs) 31)) 15 = .ok (.iadd, 1) := show decode (am_cd (tb_me 31)) 15 = .ok (.iadd, 1) from by decide +kernel
theorem k31_16 {L : Nat} {xs : Nat → Int32} : decode (am_cd (am_me (tb_P L xs) 31)) 16 = .ok (.iastore, 1) := show decode (am_cd (tb_me 31)) 16 = .ok (.iastore, 1) from by decide +kernel
theorem k31_17 {L : Nat} {xs : Nat → Int32} : decode (am_cd (am_me (tb_P L xs) 31)) 17 = .ok (.aload_n 0, 1) := show decode (am_cd (tb_me 31)) 17 = .ok (.aload_n 0, 1) from by decide +kernel
theorem k31_18 {L : Nat} {xs : Nat → Int32} : decode (am_cd (am_me (tb_P L xs) 31)) 18 = .ok (.getfield 9, 3) := show decode (am_cd (tb_me 31)) 18 = .ok (.getfield 9, 3) from by decide +kernel
theorem f31_18 {L : Nat} {xs : Nat → Int32} : am_fd (tb_P L xs) 31 9 = some (6, 1, (.array .int : FieldType), false) := show tb_fdF 31 9 = some (6, 1, (.array .int : FieldType), false) from by decide +kernel
theorem k31_21 {L : Nat} {xs : Nat → Int32} : decode (am_cd (am_me (tb_P L xs) 31)) 21 = .ok (.iload_n 1, 1) := show decode (am_cd (tb_me 31)) 21 = .ok (.iload_n 1, 1) from by decide +kernel
theorem k31_22 {L : Nat} {xs : Nat → Int32} : decode (am_cd (am_me (tb_P L xs) 31)) 22 = .ok (.iaload, 1) := show decode (am_cd (tb_me 31)) 22 = .ok (.iaload, 1) from by decide +kernel
theorem k31_23 {L : Nat} {xs : Nat → Int32} : decode (am_cd (am_me (tb_P L xs) 31)) 23 = .ok (.aload_n 0, 1) := show decode (am_cd (tb_me 31)) 23 = .ok (.aload_n 0, 1) from by decide +kernel
theorem k31_24 {L : Nat} {xs : Nat → Int32} : decode (am_cd (am_me (tb_P L xs) 31)) 24 = .ok (.getfield 15, 3) := show decode (am_cd (tb_me 31)) 24 = .ok (.getfield 15, 3) from by decide +kernel
theorem f31_24 {L : Nat} {xs : Nat → Int32} : am_fd (tb_P L xs) 31 15 = some (6, 2, (.array .int : FieldType), false) := show tb_fdF 31 15 = some (6, 2, (.array .int : FieldType), false) from by decide +kernel
theorem k31_27 {L : Nat} {xs : Nat → Int32} : decode (am_cd (am_me (tb_P L xs) 31)) 27 = .ok (.iload_n 1, 1) := show decode (am_cd (tb_me 31)) 27 = .ok (.iload_n 1, 1) from by decide +kernel
theorem k31_28 {L : Nat} {xs : Nat → Int32} : decode (am_cd (am_me (tb_P L xs) 31)) 28 = .ok (.iaload, 1) := show decode (am_cd (tb_me 31)) 28 = .ok (.iaload, 1) from by decide +kernel
theorem k31_29 {L : Nat} {xs : Nat → Int32} : decode (am_cd (am_me (tb_P L xs) 31)) 29 = .ok (.if_icmp .ge 4, 3) := show decode (am_cd (tb_me 31)) 29 = .ok (.if_icmp .ge 4, 3) from by decide +kernel
theorem k31_32 {L : Nat} {xs : Nat → Int32} : decode (am_cd (am_me (tb_P L xs) 31)) 32 = .ok (.return_, 1) := show decode (am_cd (tb_me 31)) 32 = .ok (.return_, 1) from by decide +kernel
theorem k31_33 {L : Nat} {xs : Nat → Int32} : decode (am_cd (am_me (tb_P L xs) 31)) 33 = .ok (.aload_n 0, 1) := show decode (am_cd (tb_me 31)) 33 = .ok (.aload_n 0, 1) from by decide +kernel
theorem k31_34 {L : Nat} {xs : Nat → Int32} : decode (am_cd (am_me (tb_P L xs) 31)) 34 = .ok (.getfield 9, 3) := show decode (am_cd (tb_me 31)) 34 = .ok (.getfield 9, 3) from by decide +kernel
theorem f31_34 {L : Nat} {xs : Nat → Int32} : am_fd (tb_P L xs) 31 9 = some (6, 1, (.array .int : FieldType), false) := show tb_fdF 31 9 = some (6, 1, (.array .int : FieldType), false) from by decide +kernel
theorem k31_37 {L : Nat} {xs : Nat → Int32} : decode (am_cd (am_me (tb_P L xs) 31)) 37 = .ok (.iload_n 1, 1) := show decode (am_cd (tb_me 31)) 37 = .ok (.iload_n 1, 1) from by decide +kernel
theorem k31_38 {L : Nat} {xs : Nat → Int32} : decode (am_cd (am_me (tb_P L xs) 31)) 38 = .ok (.iconst 0, 1) := show decode (am_cd (tb_me 31)) 38 = .ok (.iconst 0, 1) from by decide +kernel
theorem k31_39 {L : Nat} {xs : Nat → Int32} : decode (am_cd (am_me (tb_P L xs) 31)) 39 = .ok (.iastore, 1) := show decode (am_cd (tb_me 31)) 39 = .ok (.iastore, 1) from by decide +kernel
theorem k31_40 {L : Nat} {xs : Nat → Int32} : decode (am_cd (am_me (tb_P L xs) 31)) 40 = .ok (.iinc 1 (-1), 3) := show decode (am_cd (tb_me 31)) 40 = .ok (.iinc 1 (-1), 3) from by decide +kernel
theorem k31_43 {L : Nat} {xs : Nat → Int32} : decode (am_cd (am_me (tb_P L xs) 31)) 43 = .ok (.goto (-40), 3) := show decode (am_cd (tb_me 31)) 43 = .ok (.goto (-40), 3) from by decide +kernel
theorem k31_46 {L : Nat} {xs : Nat → Int32} : decode (am_cd (am_me (tb_P L xs) 31)) 46 = .ok (.return_, 1) := show decode (am_cd (tb_me 31)) 46 = .ok (.return_, 1) from by decide +kernel
theorem t31 {L : Nat} {xs : Nat → Int32} : am_rt (am_me (tb_P L xs) 31) = none := show am_rt (tb_me 31) = none from by decide +kernel
theorem l31 {L : Nat} {xs : Nat → Int32} : am_ml (am_me (tb_P L xs) 31) = 2 := show am_ml (tb_me 31) = 2 from by decide +kernel
theorem o31 {L : Nat} {xs : Nat → Int32} (pc : Nat) : am_no (tb_P L xs) 31 pc = true := show (am_hd (tb_me 31)).all (fun q => !(decide (q.1 ≤ pc) && decide (pc < q.2.1))) = true from by rw [show am_hd (tb_me 31) = [] by decide +kernel]; rfl
theorem k32_0 {L : Nat} {xs : Nat → Int32} : decode (am_cd (am_me (tb_P L xs) 32)) 0 = .ok (.iload_n 0, 1) := show decode (am_cd (tb_me 32)) 0 = .ok (.iload_n 0, 1) from by decide +kernel
theorem k32_1 {L : Nat} {xs : Nat → Int32} : decode (am_cd (am_me (tb_P L xs) 32)) 1 = .ok (.iload_n 0, 1) := show decode (am_cd (tb_me 32)) 1 = .ok (.iload_n 0, 1) from by decide +kernel
theorem k32_2 {L : Nat} {xs : Nat → Int32} : decode (am_cd (am_me (tb_P L xs) 32)) 2 = .ok (.iconst 1, 1) := show decode (am_cd (tb_me 32)) 2 = .ok (.iconst 1, 1) from by decide +kernel
theorem k32_3 {L : Nat} {xs : Nat → Int32} : decode (am_cd (am_me (tb_P L xs) 32)) 3 = .ok (.iushr, 1) := show decode (am_cd (tb_me 32)) 3 = .ok (.iushr, 1) from by decide +kernel
theorem k32_4 {L : Nat} {xs : Nat → Int32} : decode (am_cd (am_me (tb_P L xs) 32)) 4 = .ok (.ldc_w 265, 3) := show decode (am_cd (tb_me 32)) 4 = .ok (.ldc_w 265, 3) from by decide +kernel
theorem n32_4 {L : Nat} {xs : Nat → Int32} : am_kc (tb_P L xs) 32 265 = some 1431655765 := show tb_kcF 32 265 = some 1431655765 from by decide +kernel
theorem k32_7 {L : Nat} {xs : Nat → Int32} : decode (am_cd (am_me (tb_P L xs) 32)) 7 = .ok (.iand, 1) := show decode (am_cd (tb_me 32)) 7 = .ok (.iand, 1) from by decide +kernel
theorem k32_8 {L : Nat} {xs : Nat → Int32} : decode (am_cd (am_me (tb_P L xs) 32)) 8 = .ok (.isub, 1) := show decode (am_cd (tb_me 32)) 8 = .ok (.isub, 1) from by decide +kernel
theorem k32_9 {L : Nat} {xs : Nat → Int32} : decode (am_cd (am_me (tb_P L xs) 32)) 9 = .ok (.istore_n 0, 1) := show decode (am_cd (tb_me 32)) 9 = .ok (.istore_n 0, 1) from by decide +kernel
theorem k32_10 {L : Nat} {xs : Nat → Int32} : decode (am_cd (am_me (tb_P L xs) 32)) 10 = .ok (.iload_n 0, 1) := show decode (am_cd (tb_me 32)) 10 = .ok (.iload_n 0, 1) from by decide +kernel
theorem k32_11 {L : Nat} {xs : Nat → Int32} : decode (am_cd (am_me (tb_P L xs) 32)) 11 = .ok (.ldc_w 266, 3) := show decode (am_cd (tb_me 32)) 11 = .ok (.ldc_w 266, 3) from by decide +kernel
theorem n32_11 {L : Nat} {xs : Nat → Int32} : am_kc (tb_P L xs) 32 266 = some 858993459 := show tb_kcF 32 266 = some 858993459 from by decide +kernel
theorem k32_14 {L : Nat} {xs : Nat → Int32} : decode (am_cd (am_me (tb_P L xs) 32)) 14 = .ok (.iand, 1) := show decode (am_cd (tb_me 32)) 14 = .ok (.iand, 1) from by decide +kernel
theorem k32_15 {L : Nat} {xs : Nat → Int32} : decode (am_cd (am_me (tb_P L xs) 32)) 15 = .ok (.iload_n 0, 1) := show decode (am_cd (tb_me 32)) 15 = .ok (.iload_n 0, 1) from by decide +kernel
theorem k32_16 {L : Nat} {xs : Nat → Int32} : decode (am_cd (am_me (tb_P L xs) 32)) 16 = .ok (.iconst 2, 1) := show decode (am_cd (tb_me 32)) 16 = .ok (.iconst 2, 1) from by decide +kernel
theorem k32_17 {L : Nat} {xs : Nat → Int32} : decode (am_cd (am_me (tb_P L xs) 32)) 17 = .ok (.iushr, 1) := show decode (am_cd (tb_me 32)) 17 = .ok (.iushr, 1) from by decide +kernel
theorem k32_18 {L : Nat} {xs : Nat → Int32} : decode (am_cd (am_me (tb_P L xs) 32)) 18 = .ok (.ldc_w 266, 3) := show decode (am_cd (tb_me 32)) 18 = .ok (.ldc_w 266, 3) from by decide +kernel
theorem n32_18 {L : Nat} {xs : Nat → Int32} : am_kc (tb_P L xs) 32 266 = some 858993459 := show tb_kcF 32 266 = some 858993459 from by decide +kernel
theorem k32_21 {L : Nat} {xs : Nat → Int32} : decode (am_cd (am_me (tb_P L xs) 32)) 21 = .ok (.iand, 1) := show decode (am_cd (tb_me 32)) 21 = .ok (.iand, 1) from by decide +kernel
theorem k32_22 {L : Nat} {xs : Nat → Int32} : decode (am_cd (am_me (tb_P L xs) 32)) 22 = .ok (.iadd, 1) := show decode (am_cd (tb_me 32)) 22 = .ok (.iadd, 1) from by decide +kernel
theorem k32_23 {L : Nat} {xs : Nat → Int32} : decode (am_cd (am_me (tb_P L xs) 32)) 23 = .ok (.istore_n 0, 1) := show decode (am_cd (tb_me 32)) 23 = .ok (.istore_n 0, 1) from by decide +kernel
theorem k32_24 {L : Nat} {xs : Nat → Int32} : decode (am_cd (am_me (tb_P L xs) 32)) 24 = .ok (.iload_n 0, 1) := show decode (am_cd (tb_me 32)) 24 = .ok (.iload_n 0, 1) from by decide +kernel
theorem k32_25 {L : Nat} {xs : Nat → Int32} : decode (am_cd (am_me (tb_P L xs) 32)) 25 = .ok (.iload_n 0, 1) := show decode (am_cd (tb_me 32)) 25 = .ok (.iload_n 0, 1) from by decide +kernel
theorem k32_26 {L : Nat} {xs : Nat → Int32} : decode (am_cd (am_me (tb_P L xs) 32)) 26 = .ok (.iconst 4, 1) := show decode (am_cd (tb_me 32)) 26 = .ok (.iconst 4, 1) from by decide +kernel
theorem k32_27 {L : Nat} {xs : Nat → Int32} : decode (am_cd (am_me (tb_P L xs) 32)) 27 = .ok (.iushr, 1) := show decode (am_cd (tb_me 32)) 27 = .ok (.iushr, 1) from by decide +kernel
theorem k32_28 {L : Nat} {xs : Nat → Int32} : decode (am_cd (am_me (tb_P L xs) 32)) 28 = .ok (.iadd, 1) := show decode (am_cd (tb_me 32)) 28 = .ok (.iadd, 1) from by decide +kernel
theorem k32_29 {L : Nat} {xs : Nat → Int32} : decode (am_cd (am_me (tb_P L xs) 32)) 29 = .ok (.ldc_w 267, 3) := show decode (am_cd (tb_me 32)) 29 = .ok (.ldc_w 267, 3) from by decide +kernel
theorem n32_29 {L : Nat} {xs : Nat → Int32} : am_kc (tb_P L xs) 32 267 = some 252645135 := show tb_kcF 32 267 = some 252645135 from by decide +kernel
theorem k32_32 {L : Nat} {xs : Nat → Int32} : decode (am_cd (am_me (tb_P L xs) 32)) 32 = .ok (.iand, 1) := show decode (am_cd (tb_me 32)) 32 = .ok (.iand, 1) from by decide +kernel
theorem k32_33 {L : Nat} {xs : Nat → Int32} : decode (am_cd (am_me (tb_P L xs) 32)) 33 = .ok (.istore_n 0, 1) := show decode (am_cd (tb_me 32)) 33 = .ok (.istore_n 0, 1) from by decide +kernel
theorem k32_34 {L : Nat} {xs : Nat → Int32} : decode (am_cd (am_me (tb_P L xs) 32)) 34 = .ok (.iload_n 0, 1) := show decode (am_cd (tb_me 32)) 34 = .ok (.iload_n 0, 1) from by decide +kernel
theorem k32_35 {L : Nat} {xs : Nat → Int32} : decode (am_cd (am_me (tb_P L xs) 32)) 35 = .ok (.iload_n 0, 1) := show decode (am_cd (tb_me 32)) 35 = .ok (.iload_n 0, 1) from by decide +kernel
theorem k32_36 {L : Nat} {xs : Nat → Int32} : decode (am_cd (am_me (tb_P L xs) 32)) 36 = .ok (.bipush 8, 2) := show decode (am_cd (tb_me 32)) 36 = .ok (.bipush 8, 2) from by decide +kernel
theorem k32_38 {L : Nat} {xs : Nat → Int32} : decode (am_cd (am_me (tb_P L xs) 32)) 38 = .ok (.iushr, 1) := show decode (am_cd (tb_me 32)) 38 = .ok (.iushr, 1) from by decide +kernel
theorem k32_39 {L : Nat} {xs : Nat → Int32} : decode (am_cd (am_me (tb_P L xs) 32)) 39 = .ok (.iadd, 1) := show decode (am_cd (tb_me 32)) 39 = .ok (.iadd, 1) from by decide +kernel
theorem k32_40 {L : Nat} {xs : Nat → Int32} : decode (am_cd (am_me (tb_P L xs) 32)) 40 = .ok (.istore_n 0, 1) := show decode (am_cd (tb_me 32)) 40 = .ok (.istore_n 0, 1) from by decide +kernel
theorem k32_41 {L : Nat} {xs : Nat → Int32} : decode (am_cd (am_me (tb_P L xs) 32)) 41 = .ok (.iload_n 0, 1) := show decode (am_cd (tb_me 32)) 41 = .ok (.iload_n 0, 1) from by decide +kernel
theorem k32_42 {L : Nat} {xs : Nat → Int32} : decode (am_cd (am_me (tb_P L xs) 32)) 42 = .ok (.iload_n 0, 1) := show decode (am_cd (tb_me 32)) 42 = .ok (.iload_n 0, 1) from by decide +kernel
theorem k32_43 {L : Nat} {xs : Nat → Int32} : decode (am_cd (am_me (tb_P L xs) 32)) 43 = .ok (.bipush 16, 2) := show decode (am_cd (tb_me 32)) 43 = .ok (.bipush 16, 2) from by decide +kernel
theorem k32_45 {L : Nat} {xs : Nat → Int32} : decode (am_cd (am_me (tb_P L xs) 32)) 45 = .ok (.iushr, 1) := show decode (am_cd (tb_me 32)) 45 = .ok (.iushr, 1) from by decide +kernel
theorem k32_46 {L : Nat} {xs : Nat → Int32} : decode (am_cd (am_me (tb_P L xs) 32)) 46 = .ok (.iadd, 1) := show decode (am_cd (tb_me 32)) 46 = .ok (.iadd, 1) from by decide +kernel
theorem k32_47 {L : Nat} {xs : Nat → Int32} : decode (am_cd (am_me (tb_P L xs) 32)) 47 = .ok (.istore_n 0, 1) := show decode (am_cd (tb_me 32)) 47 = .ok (.istore_n 0, 1) from by decide +kernel
theorem k32_48 {L : Nat} {xs : Nat → Int32} : decode (am_cd (am_me (tb_P L xs) 32)) 48 = .ok (.iload_n 0, 1) := show decode (am_cd (tb_me 32)) 48 = .ok (.iload_n 0, 1) from by decide +kernel
theorem k32_49 {L : Nat} {xs : Nat → Int32} : decode (am_cd (am_me (tb_P L xs) 32)) 49 = .ok (.bipush 63, 2) := show decode (am_cd (tb_me 32)) 49 = .ok (.bipush 63, 2) from by decide +kernel
theorem k32_51 {L : Nat} {xs : Nat → Int32} : decode (am_cd (am_me (tb_P L xs) 32)) 51 = .ok (.iand, 1) := show decode (am_cd (tb_me 32)) 51 = .ok (.iand, 1) from by decide +kernel
theorem k32_52 {L : Nat} {xs : Nat → Int32} : decode (am_cd (am_me (tb_P L xs) 32)) 52 = .ok (.ireturn, 1) := show decode (am_cd (tb_me 32)) 52 = .ok (.ireturn, 1) from by decide +kernel
theorem t32 {L : Nat} {xs : Nat → Int32} : am_rt (am_me (tb_P L xs) 32) = some (.int : FieldType) := show am_rt (tb_me 32) = some (.int : FieldType) from by decide +kernel
theorem l32 {L : Nat} {xs : Nat → Int32} : am_ml (am_me (tb_P L xs) 32) = 1 := show am_ml (tb_me 32) = 1 from by decide +kernel
theorem o32 {L : Nat} {xs : Nat → Int32} (pc : Nat) : am_no (tb_P L xs) 32 pc = true := show (am_hd (tb_me 32)).all (fun q => !(decide (q.1 ≤ pc) && decide (pc < q.2.1))) = true from by rw [show am_hd (tb_me 32) = [] by decide +kernel]; rfl
theorem k33_0 {L : Nat} {xs : Nat → Int32} : decode (am_cd (am_me (tb_P L xs) 33)) 0 = .ok (.aload_n 0, 1) := show decode (am_cd (tb_me 33)) 0 = .ok (.aload_n 0, 1) from by decide +kernel
theorem k33_1 {L : Nat} {xs : Nat → Int32} : decode (am_cd (am_me (tb_P L xs) 33)) 1 = .ok (.getfield 53, 3) := show decode (am_cd (tb_me 33)) 1 = .ok (.getfield 53, 3) from by decide +kernel
theorem f33_1 {L : Nat} {xs : Nat → Int32} : am_fd (tb_P L xs) 33 53 = some (0, 5, (.object "GluedMachines$Run" : FieldType), false) := show tb_fdF 33 53 = some (0, 5, (.object "GluedMachines$Run" : FieldType), false) from by decide +kernel
theorem k33_4 {L : Nat} {xs : Nat → Int32} : decode (am_cd (am_me (tb_P L xs) 33)) 4 = .ok (.invokevirtual 216, 3) := show decode (am_cd (tb_me 33)) 4 = .ok (.invokevirtual 216, 3) from by decide +kernel
theorem s33_4 {L : Nat} {xs : Nat → Int32} : am_sp (tb_P L xs) 33 216 = none := show tb_spF 33 216 = none from by decide +kernel
theorem c33_4 {L : Nat} {xs : Nat → Int32} : am_ca (tb_P L xs) 33 216 = some (34, 0, 1) := show tb_caF 33 216 = some (34, 0, 1) from by decide +kernel
theorem r33_4 {L : Nat} {xs : Nat → Int32} : am_rf (am_me (tb_P L xs) 34) + 1 ≤ am_rf (am_me (tb_P L xs) 33) ∧ 0 + (am_ml (am_me (tb_P L xs) 34) + 11) + am_rl (am_me (tb_P L xs) 34) ≤ am_rl (am_me (tb_P L xs) 33) := show am_rf (tb_me 34) + 1 ≤ am_rf (tb_me 33) ∧ 0 + (am_ml (tb_me 34) + 11) + am_rl (tb_me 34) ≤ am_rl (tb_me 33) from by decide +kernel
theorem k33_7 {L : Nat} {xs : Nat → Int32} : decode (am_cd (am_me (tb_P L xs) 33)) 7 = .ok (.return_, 1) := show decode (am_cd (tb_me 33)) 7 = .ok (.return_, 1) from by decide +kernel
theorem t33 {L : Nat} {xs : Nat → Int32} : am_rt (am_me (tb_P L xs) 33) = none := show am_rt (tb_me 33) = none from by decide +kernel
theorem l33 {L : Nat} {xs : Nat → Int32} : am_ml (am_me (tb_P L xs) 33) = 1 := show am_ml (tb_me 33) = 1 from by decide +kernel
theorem o33 {L : Nat} {xs : Nat → Int32} (pc : Nat) : am_no (tb_P L xs) 33 pc = true := show (am_hd (tb_me 33)).all (fun q => !(decide (q.1 ≤ pc) && decide (pc < q.2.1))) = true from by rw [show am_hd (tb_me 33) = [] by decide +kernel]; rfl
theorem k34_0 {L : Nat} {xs : Nat → Int32} : decode (am_cd (am_me (tb_P L xs) 34)) 0 = .ok (.aload_n 0, 1) := show decode (am_cd (tb_me 34)) 0 = .ok (.aload_n 0, 1) from by decide +kernel
theorem k34_1 {L : Nat} {xs : Nat → Int32} : decode (am_cd (am_me (tb_P L xs) 34)) 1 = .ok (.invokevirtual 33, 3) := show decode (am_cd (tb_me 34)) 1 = .ok (.invokevirtual 33, 3) from by decide +kernel
theorem s34_1 {L : Nat} {xs : Nat → Int32} : am_sp (tb_P L xs) 34 33 = none := show tb_spF 34 33 = none from by decide +kernel
theorem c34_1 {L : Nat} {xs : Nat → Int32} : am_ca (tb_P L xs) 34 33 = some (35, 0, 1) := show tb_caF 34 33 = some (35, 0, 1) from by decide +kernel
theorem r34_1 {L : Nat} {xs : Nat → Int32} : am_rf (am_me (tb_P L xs) 35) + 1 ≤ am_rf (am_me (tb_P L xs) 34) ∧ 0 + (am_ml (am_me (tb_P L xs) 35) + 11) + am_rl (am_me (tb_P L xs) 35) ≤ am_rl (am_me (tb_P L xs) 34) := show am_rf (tb_me 35) + 1 ≤ am_rf (tb_me 34) ∧ 0 + (am_ml (tb_me 35) + 11) + am_rl (tb_me 35) ≤ am_rl (tb_me 34) from by decide +kernel
theorem k34_4 {L : Nat} {xs : Nat → Int32} : decode (am_cd (am_me (tb_P L xs) 34)) 4 = .ok (.aload_n 0, 1) := show decode (am_cd (tb_me 34)) 4 = .ok (.aload_n 0, 1) from by decide +kernel
theorem k34_5 {L : Nat} {xs : Nat → Int32} : decode (am_cd (am_me (tb_P L xs) 34)) 5 = .ok (.iconst 1, 1) := show decode (am_cd (tb_me 34)) 5 = .ok (.iconst 1, 1) from by decide +kernel
theorem k34_6 {L : Nat} {xs : Nat → Int32} : decode (am_cd (am_me (tb_P L xs) 34)) 6 = .ok (.putfield 22, 3) := show decode (am_cd (tb_me 34)) 6 = .ok (.putfield 22, 3) from by decide +kernel
theorem f34_6 {L : Nat} {xs : Nat → Int32} : am_fd (tb_P L xs) 34 22 = some (7, 4, (.boolean : FieldType), true) := show tb_fdF 34 22 = some (7, 4, (.boolean : FieldType), true) from by decide +kernel
theorem k34_9 {L : Nat} {xs : Nat → Int32} : decode (am_cd (am_me (tb_P L xs) 34)) 9 = .ok (.aload_n 0, 1) := show decode (am_cd (tb_me 34)) 9 = .ok (.aload_n 0, 1) from by decide +kernel
theorem k34_10 {L : Nat} {xs : Nat → Int32} : decode (am_cd (am_me (tb_P L xs) 34)) 10 = .ok (.getfield 29, 3) := show decode (am_cd (tb_me 34)) 10 = .ok (.getfield 29, 3) from by decide +kernel
theorem f34_10 {L : Nat} {xs : Nat → Int32} : am_fd (tb_P L xs) 34 29 = some (7, 0, (.object "GluedMachines$Model" : FieldType), false) := show tb_fdF 34 29 = some (7, 0, (.object "GluedMachines$Model" : FieldType), false) from by decide +kernel
theorem k34_13 {L : Nat} {xs : Nat → Int32} : decode (am_cd (am_me (tb_P L xs) 34)) 13 = .ok (.getfield 36, 3) := show decode (am_cd (tb_me 34)) 13 = .ok (.getfield 36, 3) from by decide +kernel
theorem f34_13 {L : Nat} {xs : Nat → Int32} : am_fd (tb_P L xs) 34 36 = some (5, 1, (.array .int : FieldType), false) := show tb_fdF 34 36 = some (5, 1, (.array .int : FieldType), false) from by decide +kernel
theorem k34_16 {L : Nat} {xs : Nat → Int32} : decode (am_cd (am_me (tb_P L xs) 34)) 16 = .ok (.iconst 0, 1) := show decode (am_cd (tb_me 34)) 16 = .ok (.iconst 0, 1) from by decide +kernel
theorem k34_17 {L : Nat} {xs : Nat → Int32} : decode (am_cd (am_me (tb_P L xs) 34)) 17 = .ok (.aload_n 0, 1) := show decode (am_cd (tb_me 34)) 17 = .ok (.aload_n 0, 1) from by decide +kernel
theorem k34_18 {L : Nat} {xs : Nat → Int32} : decode (am_cd (am_me (tb_P L xs) 34)) 18 = .ok (.getfield 9, 3) := show decode (am_cd (tb_me 34)) 18 = .ok (.getfield 9, 3) from by decide +kernel
theorem f34_18 {L : Nat} {xs : Nat → Int32} : am_fd (tb_P L xs) 34 9 = some (7, 1, (.array .int : FieldType), false) := show tb_fdF 34 9 = some (7, 1, (.array .int : FieldType), false) from by decide +kernel
theorem k34_21 {L : Nat} {xs : Nat → Int32} : decode (am_cd (am_me (tb_P L xs) 34)) 21 = .ok (.iconst 0, 1) := show decode (am_cd (tb_me 34)) 21 = .ok (.iconst 0, 1) from by decide +kernel
theorem k34_22 {L : Nat} {xs : Nat → Int32} : decode (am_cd (am_me (tb_P L xs) 34)) 22 = .ok (.bipush 6, 2) := show decode (am_cd (tb_me 34)) 22 = .ok (.bipush 6, 2) from by decide +kernel
theorem k34_24 {L : Nat} {xs : Nat → Int32} : decode (am_cd (am_me (tb_P L xs) 34)) 24 = .ok (.invokestatic 41, 3) := show decode (am_cd (tb_me 34)) 24 = .ok (.invokestatic 41, 3) from by decide +kernel
theorem s34_24 {L : Nat} {xs : Nat → Int32} : am_sp (tb_P L xs) 34 41 = some 3 := show tb_spF 34 41 = some 3 from by decide +kernel
theorem r34_24 {L : Nat} {xs : Nat → Int32} : 1 ≤ am_rf (am_me (tb_P L xs) 34) ∧ 0 + (nativeFrameWords "java/lang/System" "arraycopy" 5 + 11) ≤ am_rl (am_me (tb_P L xs) 34) := show 1 ≤ am_rf (tb_me 34) ∧ 0 + (nativeFrameWords "java/lang/System" "arraycopy" 5 + 11) ≤ am_rl (tb_me 34) from by decide +kernel
theorem k34_27 {L : Nat} {xs : Nat → Int32} : decode (am_cd (am_me (tb_P L xs) 34)) 27 = .ok (.return_, 1) := show decode (am_cd (tb_me 34)) 27 = .ok (.return_, 1) from by decide +kernel
theorem t34 {L : Nat} {xs : Nat → Int32} : am_rt (am_me (tb_P L xs) 34) = none := show am_rt (tb_me 34) = none from by decide +kernel
theorem l34 {L : Nat} {xs : Nat → Int32} : am_ml (am_me (tb_P L xs) 34) = 1 := show am_ml (tb_me 34) = 1 from by decide +kernel
theorem o34 {L : Nat} {xs : Nat → Int32} (pc : Nat) : am_no (tb_P L xs) 34 pc = true := show (am_hd (tb_me 34)).all (fun q => !(decide (q.1 ≤ pc) && decide (pc < q.2.1))) = true from by rw [show am_hd (tb_me 34) = [] by decide +kernel]; rfl
