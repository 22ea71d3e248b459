/-! Facts of the instructions, printed by a program of our own. -/
theorem k125_0 {L : Nat} {xs : Nat → Int32} : decode (am_cd (am_me (tb_P L xs) 125)) 0 = .ok (.aload_n 0, 1) := show decode (am_cd (tb_me 125)) 0 = .ok (.aload_n 0, 1) from by decide +kernel
theorem k125_1 {L : Nat} {xs : Nat → Int32} : decode (am_cd (am_me (tb_P L xs) 125)) 1 = .ok (.iconst 0, 1) := show decode (am_cd (tb_me 125)) 1 = .ok (.iconst 0, 1) from by decide +kernel
theorem k125_2 {L : Nat} {xs : Nat → Int32} : decode (am_cd (am_me (tb_P L xs) 125)) 2 = .ok (.putfield 165, 3) := show decode (am_cd (tb_me 125)) 2 = .ok (.putfield 165, 3) from by decide +kernel
theorem f125_2 {L : Nat} {xs : Nat → Int32} : am_fd (tb_P L xs) 125 165 = some (8, 32, (.int : FieldType), true) := show tb_fdF 125 165 = some (8, 32, (.int : FieldType), true) from by decide +kernel
theorem k125_5 {L : Nat} {xs : Nat → Int32} : decode (am_cd (am_me (tb_P L xs) 125)) 5 = .ok (.iconst 0, 1) := show decode (am_cd (tb_me 125)) 5 = .ok (.iconst 0, 1) from by decide +kernel
theorem k125_6 {L : Nat} {xs : Nat → Int32} : decode (am_cd (am_me (tb_P L xs) 125)) 6 = .ok (.istore_n 3, 1) := show decode (am_cd (tb_me 125)) 6 = .ok (.istore_n 3, 1) from by decide +kernel
theorem k125_7 {L : Nat} {xs : Nat → Int32} : decode (am_cd (am_me (tb_P L xs) 125)) 7 = .ok (.iload_n 3, 1) := show decode (am_cd (tb_me 125)) 7 = .ok (.iload_n 3, 1) from by decide +kernel
theorem k125_8 {L : Nat} {xs : Nat → Int32} : decode (am_cd (am_me (tb_P L xs) 125)) 8 = .ok (.bipush 6, 2) := show decode (am_cd (tb_me 125)) 8 = .ok (.bipush 6, 2) from by decide +kernel
theorem k125_10 {L : Nat} {xs : Nat → Int32} : decode (am_cd (am_me (tb_P L xs) 125)) 10 = .ok (.if_icmp .ge 29, 3) := show decode (am_cd (tb_me 125)) 10 = .ok (.if_icmp .ge 29, 3) from by decide +kernel
theorem k125_13 {L : Nat} {xs : Nat → Int32} : decode (am_cd (am_me (tb_P L xs) 125)) 13 = .ok (.aload_n 0, 1) := show decode (am_cd (tb_me 125)) 13 = .ok (.aload_n 0, 1) from by decide +kernel
theorem k125_14 {L : Nat} {xs : Nat → Int32} : decode (am_cd (am_me (tb_P L xs) 125)) 14 = .ok (.getfield 63, 3) := show decode (am_cd (tb_me 125)) 14 = .ok (.getfield 63, 3) from by decide +kernel
theorem f125_14 {L : Nat} {xs : Nat → Int32} : am_fd (tb_P L xs) 125 63 = some (8, 21, (.array .int : FieldType), true) := show tb_fdF 125 63 = some (8, 21, (.array .int : FieldType), true) from by decide +kernel
theorem k125_17 {L : Nat} {xs : Nat → Int32} : decode (am_cd (am_me (tb_P L xs) 125)) 17 = .ok (.iload_n 3, 1) := show decode (am_cd (tb_me 125)) 17 = .ok (.iload_n 3, 1) from by decide +kernel
theorem k125_18 {L : Nat} {xs : Nat → Int32} : decode (am_cd (am_me (tb_P L xs) 125)) 18 = .ok (.iload_n 1, 1) := show decode (am_cd (tb_me 125)) 18 = .ok (.iload_n 1, 1) from by decide +kernel
theorem k125_19 {L : Nat} {xs : Nat → Int32} : decode (am_cd (am_me (tb_P L xs) 125)) 19 = .ok (.ifCond .ne 12, 3) := show decode (am_cd (tb_me 125)) 19 = .ok (.ifCond .ne 12, 3) from by decide +kernel
theorem k125_22 {L : Nat} {xs : Nat → Int32} : decode (am_cd (am_me (tb_P L xs) 125)) 22 = .ok (.aload_n 0, 1) := show decode (am_cd (tb_me 125)) 22 = .ok (.aload_n 0, 1) from by decide +kernel
theorem k125_23 {L : Nat} {xs : Nat → Int32} : decode (am_cd (am_me (tb_P L xs) 125)) 23 = .ok (.getfield 13, 3) := show decode (am_cd (tb_me 125)) 23 = .ok (.getfield 13, 3) from by decide +kernel
theorem f125_23 {L : Nat} {xs : Nat → Int32} : am_fd (tb_P L xs) 125 13 = some (8, 2, (.array .int : FieldType), true) := show tb_fdF 125 13 = some (8, 2, (.array .int : FieldType), true) from by decide +kernel
theorem k125_26 {L : Nat} {xs : Nat → Int32} : decode (am_cd (am_me (tb_P L xs) 125)) 26 = .ok (.iload_n 3, 1) := show decode (am_cd (tb_me 125)) 26 = .ok (.iload_n 3, 1) from by decide +kernel
theorem k125_27 {L : Nat} {xs : Nat → Int32} : decode (am_cd (am_me (tb_P L xs) 125)) 27 = .ok (.iaload, 1) := show decode (am_cd (tb_me 125)) 27 = .ok (.iaload, 1) from by decide +kernel
theorem k125_28 {L : Nat} {xs : Nat → Int32} : decode (am_cd (am_me (tb_P L xs) 125)) 28 = .ok (.goto 4, 3) := show decode (am_cd (tb_me 125)) 28 = .ok (.goto 4, 3) from by decide +kernel
theorem k125_31 {L : Nat} {xs : Nat → Int32} : decode (am_cd (am_me (tb_P L xs) 125)) 31 = .ok (.iconst 0, 1) := show decode (am_cd (tb_me 125)) 31 = .ok (.iconst 0, 1) from by decide +kernel
theorem k125_32 {L : Nat} {xs : Nat → Int32} : decode (am_cd (am_me (tb_P L xs) 125)) 32 = .ok (.iastore, 1) := show decode (am_cd (tb_me 125)) 32 = .ok (.iastore, 1) from by decide +kernel
theorem k125_33 {L : Nat} {xs : Nat → Int32} : decode (am_cd (am_me (tb_P L xs) 125)) 33 = .ok (.iinc 3 1, 3) := show decode (am_cd (tb_me 125)) 33 = .ok (.iinc 3 1, 3) from by decide +kernel
theorem k125_36 {L : Nat} {xs : Nat → Int32} : decode (am_cd (am_me (tb_P L xs) 125)) 36 = .ok (.goto (-29), 3) := show decode (am_cd (tb_me 125)) 36 = .ok (.goto (-29), 3) from by decide +kernel
theorem k125_39 {L : Nat} {xs : Nat → Int32} : decode (am_cd (am_me (tb_P L xs) 125)) 39 = .ok (.iload_n 1, 1) := show decode (am_cd (tb_me 125)) 39 = .ok (.iload_n 1, 1) from by decide +kernel
theorem k125_40 {L : Nat} {xs : Nat → Int32} : decode (am_cd (am_me (tb_P L xs) 125)) 40 = .ok (.ifCond .ne 9, 3) := show decode (am_cd (tb_me 125)) 40 = .ok (.ifCond .ne 9, 3) from by decide +kernel
theorem k125_43 {L : Nat} {xs : Nat → Int32} : decode (am_cd (am_me (tb_P L xs) 125)) 43 = .ok (.aload_n 0, 1) := show decode (am_cd (tb_me 125)) 43 = .ok (.aload_n 0, 1) from by decide +kernel
theorem k125_44 {L : Nat} {xs : Nat → Int32} : decode (am_cd (am_me (tb_P L xs) 125)) 44 = .ok (.iconst 0, 1) := show decode (am_cd (tb_me 125)) 44 = .ok (.iconst 0, 1) from by decide +kernel
theorem k125_45 {L : Nat} {xs : Nat → Int32} : decode (am_cd (am_me (tb_P L xs) 125)) 45 = .ok (.invokevirtual 161, 3) := show decode (am_cd (tb_me 125)) 45 = .ok (.invokevirtual 161, 3) from by decide +kernel
theorem s125_45 {L : Nat} {xs : Nat → Int32} : am_sp (tb_P L xs) 125 161 = none := show tb_spF 125 161 = none from by decide +kernel
theorem c125_45 {L : Nat} {xs : Nat → Int32} : am_ca (tb_P L xs) 125 161 = some (126, 1, 1) := show tb_caF 125 161 = some (126, 1, 1) from by decide +kernel
theorem r125_45 {L : Nat} {xs : Nat → Int32} : am_rf (am_me (tb_P L xs) 126) + 1 ≤ am_rf (am_me (tb_P L xs) 125) ∧ 0 + (am_ml (am_me (tb_P L xs) 126) + 11) + am_rl (am_me (tb_P L xs) 126) ≤ am_rl (am_me (tb_P L xs) 125) := show am_rf (tb_me 126) + 1 ≤ am_rf (tb_me 125) ∧ 0 + (am_ml (tb_me 126) + 11) + am_rl (tb_me 126) ≤ am_rl (tb_me 125) from by decide +kernel
theorem k125_48 {L : Nat} {xs : Nat → Int32} : decode (am_cd (am_me (tb_P L xs) 125)) 48 = .ok (.ireturn, 1) := show decode (am_cd (tb_me 125)) 48 = .ok (.ireturn, 1) from by decide +kernel
theorem k125_49 {L : Nat} {xs : Nat → Int32} : decode (am_cd (am_me (tb_P L xs) 125)) 49 = .ok (.iload_n 1, 1) := show decode (am_cd (tb_me 125)) 49 = .ok (.iload_n 1, 1) from by decide +kernel
theorem k125_50 {L : Nat} {xs : Nat → Int32} : decode (am_cd (am_me (tb_P L xs) 125)) 50 = .ok (.bipush 6, 2) := show decode (am_cd (tb_me 125)) 50 = .ok (.bipush 6, 2) from by decide +kernel
theorem k125_52 {L : Nat} {xs : Nat → Int32} : decode (am_cd (am_me (tb_P L xs) 125)) 52 = .ok (.if_icmp .ge 16, 3) := show decode (am_cd (tb_me 125)) 52 = .ok (.if_icmp .ge 16, 3) from by decide +kernel
theorem k125_55 {L : Nat} {xs : Nat → Int32} : decode (am_cd (am_me (tb_P L xs) 125)) 55 = .ok (.aload_n 0, 1) := show decode (am_cd (tb_me 125)) 55 = .ok (.aload_n 0, 1) from by decide +kernel
theorem k125_56 {L : Nat} {xs : Nat → Int32} : decode (am_cd (am_me (tb_P L xs) 125)) 56 = .ok (.getfield 35, 3) := show decode (am_cd (tb_me 125)) 56 = .ok (.getfield 35, 3) from by decide +kernel
theorem f125_56 {L : Nat} {xs : Nat → Int32} : am_fd (tb_P L xs) 125 35 = some (8, 12, (.array .int : FieldType), true) := show tb_fdF 125 35 = some (8, 12, (.array .int : FieldType), true) from by decide +kernel
theorem k125_59 {L : Nat} {xs : Nat → Int32} : decode (am_cd (am_me (tb_P L xs) 125)) 59 = .ok (.iload_n 2, 1) := show decode (am_cd (tb_me 125)) 59 = .ok (.iload_n 2, 1) from by decide +kernel
theorem k125_60 {L : Nat} {xs : Nat → Int32} : decode (am_cd (am_me (tb_P L xs) 125)) 60 = .ok (.iaload, 1) := show decode (am_cd (tb_me 125)) 60 = .ok (.iaload, 1) from by decide +kernel
theorem k125_61 {L : Nat} {xs : Nat → Int32} : decode (am_cd (am_me (tb_P L xs) 125)) 61 = .ok (.ifCond .ne 7, 3) := show decode (am_cd (tb_me 125)) 61 = .ok (.ifCond .ne 7, 3) from by decide +kernel
theorem k125_64 {L : Nat} {xs : Nat → Int32} : decode (am_cd (am_me (tb_P L xs) 125)) 64 = .ok (.iconst 1, 1) := show decode (am_cd (tb_me 125)) 64 = .ok (.iconst 1, 1) from by decide +kernel
theorem k125_65 {L : Nat} {xs : Nat → Int32} : decode (am_cd (am_me (tb_P L xs) 125)) 65 = .ok (.goto 4, 3) := show decode (am_cd (tb_me 125)) 65 = .ok (.goto 4, 3) from by decide +kernel
theorem k125_68 {L : Nat} {xs : Nat → Int32} : decode (am_cd (am_me (tb_P L xs) 125)) 68 = .ok (.iconst 0, 1) := show decode (am_cd (tb_me 125)) 68 = .ok (.iconst 0, 1) from by decide +kernel
theorem k125_69 {L : Nat} {xs : Nat → Int32} : decode (am_cd (am_me (tb_P L xs) 125)) 69 = .ok (.istore_n 3, 1) := show decode (am_cd (tb_me 125)) 69 = .ok (.istore_n 3, 1) from by decide +kernel
theorem k125_70 {L : Nat} {xs : Nat → Int32} : decode (am_cd (am_me (tb_P L xs) 125)) 70 = .ok (.iconst 1, 1) := show decode (am_cd (tb_me 125)) 70 = .ok (.iconst 1, 1) from by decide +kernel
theorem k125_71 {L : Nat} {xs : Nat → Int32} : decode (am_cd (am_me (tb_P L xs) 125)) 71 = .ok (.istore 4, 2) := show decode (am_cd (tb_me 125)) 71 = .ok (.istore 4, 2) from by decide +kernel
theorem k125_73 {L : Nat} {xs : Nat → Int32} : decode (am_cd (am_me (tb_P L xs) 125)) 73 = .ok (.iload 4, 2) := show decode (am_cd (tb_me 125)) 73 = .ok (.iload 4, 2) from by decide +kernel
theorem k125_75 {L : Nat} {xs : Nat → Int32} : decode (am_cd (am_me (tb_P L xs) 125)) 75 = .ok (.ifCond .eq 111, 3) := show decode (am_cd (tb_me 125)) 75 = .ok (.ifCond .eq 111, 3) from by decide +kernel
theorem k125_78 {L : Nat} {xs : Nat → Int32} : decode (am_cd (am_me (tb_P L xs) 125)) 78 = .ok (.iload_n 3, 1) := show decode (am_cd (tb_me 125)) 78 = .ok (.iload_n 3, 1) from by decide +kernel
theorem k125_79 {L : Nat} {xs : Nat → Int32} : decode (am_cd (am_me (tb_P L xs) 125)) 79 = .ok (.ifCond .eq 12, 3) := show decode (am_cd (tb_me 125)) 79 = .ok (.ifCond .eq 12, 3) from by decide +kernel
theorem k125_82 {L : Nat} {xs : Nat → Int32} : decode (am_cd (am_me (tb_P L xs) 125)) 82 = .ok (.aload_n 0, 1) := show decode (am_cd (tb_me 125)) 82 = .ok (.aload_n 0, 1) from by decide +kernel
theorem k125_83 {L : Nat} {xs : Nat → Int32} : decode (am_cd (am_me (tb_P L xs) 125)) 83 = .ok (.iconst 0, 1) := show decode (am_cd (tb_me 125)) 83 = .ok (.iconst 0, 1) from by decide +kernel
theorem k125_84 {L : Nat} {xs : Nat → Int32} : decode (am_cd (am_me (tb_P L xs) 125)) 84 = .ok (.iconst 0, 1) := show decode (am_cd (tb_me 125)) 84 = .ok (.iconst 0, 1) from by decide +kernel
theorem k125_85 {L : Nat} {xs : Nat → Int32} : decode (am_cd (am_me (tb_P L xs) 125)) 85 = .ok (.invokevirtual 137, 3) := show decode (am_cd (tb_me 125)) 85 = .ok (.invokevirtual 137, 3) from by decide +kernel
theorem s125_85 {L : Nat} {xs : Nat → Int32} : am_sp (tb_P L xs) 125 137 = none := show tb_spF 125 137 = none from by decide +kernel
theorem c125_85 {L : Nat} {xs : Nat → Int32} : am_ca (tb_P L xs) 125 137 = some (127, 2, 1) := show tb_caF 125 137 = some (127, 2, 1) from by decide +kernel
theorem r125_85 {L : Nat} {xs : Nat → Int32} : am_rf (am_me (tb_P L xs) 127) + 1 ≤ am_rf (am_me (tb_P L xs) 125) ∧ 0 + (am_ml (am_me (tb_P L xs) 127) + 11) + am_rl (am_me (tb_P L xs) 127) ≤ am_rl (am_me (tb_P L xs) 125) := show am_rf (tb_me 127) + 1 ≤ am_rf (tb_me 125) ∧ 0 + (am_ml (tb_me 127) + 11) + am_rl (tb_me 127) ≤ am_rl (tb_me 125) from by decide +kernel
theorem k125_88 {L : Nat} {xs : Nat → Int32} : decode (am_cd (am_me (tb_P L xs) 125)) 88 = .ok (.goto 8, 3) := show decode (am_cd (tb_me 125)) 88 = .ok (.goto 8, 3) from by decide +kernel
theorem k125_91 {L : Nat} {xs : Nat → Int32} : decode (am_cd (am_me (tb_P L xs) 125)) 91 = .ok (.aload_n 0, 1) := show decode (am_cd (tb_me 125)) 91 = .ok (.aload_n 0, 1) from by decide +kernel
theorem k125_92 {L : Nat} {xs : Nat → Int32} : decode (am_cd (am_me (tb_P L xs) 125)) 92 = .ok (.iconst 0, 1) := show decode (am_cd (tb_me 125)) 92 = .ok (.iconst 0, 1) from by decide +kernel
theorem k125_93 {L : Nat} {xs : Nat → Int32} : decode (am_cd (am_me (tb_P L xs) 125)) 93 = .ok (.invokevirtual 161, 3) := show decode (am_cd (tb_me 125)) 93 = .ok (.invokevirtual 161, 3) from by decide +kernel
theorem s125_93 {L : Nat} {xs : Nat → Int32} : am_sp (tb_P L xs) 125 161 = none := show tb_spF 125 161 = none from by decide +kernel
theorem c125_93 {L : Nat} {xs : Nat → Int32} : am_ca (tb_P L xs) 125 161 = some (126, 1, 1) := show tb_caF 125 161 = some (126, 1, 1) from by decide +kernel
theorem r125_93 {L : Nat} {xs : Nat → Int32} : am_rf (am_me (tb_P L xs) 126) + 1 ≤ am_rf (am_me (tb_P L xs) 125) ∧ 0 + (am_ml (am_me (tb_P L xs) 126) + 11) + am_rl (am_me (tb_P L xs) 126) ≤ am_rl (am_me (tb_P L xs) 125) := show am_rf (tb_me 126) + 1 ≤ am_rf (tb_me 125) ∧ 0 + (am_ml (tb_me 126) + 11) + am_rl (tb_me 126) ≤ am_rl (tb_me 125) from by decide +kernel
theorem k125_96 {L : Nat} {xs : Nat → Int32} : decode (am_cd (am_me (tb_P L xs) 125)) 96 = .ok (.istore 5, 2) := show decode (am_cd (tb_me 125)) 96 = .ok (.istore 5, 2) from by decide +kernel
theorem k125_98 {L : Nat} {xs : Nat → Int32} : decode (am_cd (am_me (tb_P L xs) 125)) 98 = .ok (.iload 5, 2) := show decode (am_cd (tb_me 125)) 98 = .ok (.iload 5, 2) from by decide +kernel
theorem k125_100 {L : Nat} {xs : Nat → Int32} : decode (am_cd (am_me (tb_P L xs) 125)) 100 = .ok (.ifCond .eq 18, 3) := show decode (am_cd (tb_me 125)) 100 = .ok (.ifCond .eq 18, 3) from by decide +kernel
theorem k125_103 {L : Nat} {xs : Nat → Int32} : decode (am_cd (am_me (tb_P L xs) 125)) 103 = .ok (.iload_n 1, 1) := show decode (am_cd (tb_me 125)) 103 = .ok (.iload_n 1, 1) from by decide +kernel
theorem k125_104 {L : Nat} {xs : Nat → Int32} : decode (am_cd (am_me (tb_P L xs) 125)) 104 = .ok (.bipush 6, 2) := show decode (am_cd (tb_me 125)) 104 = .ok (.bipush 6, 2) from by decide +kernel
theorem k125_106 {L : Nat} {xs : Nat → Int32} : decode (am_cd (am_me (tb_P L xs) 125)) 106 = .ok (.if_icmp .ne 12, 3) := show decode (am_cd (tb_me 125)) 106 = .ok (.if_icmp .ne 12, 3) from by decide +kernel
theorem k125_109 {L : Nat} {xs : Nat → Int32} : decode (am_cd (am_me (tb_P L xs) 125)) 109 = .ok (.aload_n 0, 1) := show decode (am_cd (tb_me 125)) 109 = .ok (.aload_n 0, 1) from by decide +kernel
theorem k125_110 {L : Nat} {xs : Nat → Int32} : decode (am_cd (am_me (tb_P L xs) 125)) 110 = .ok (.invokevirtual 168, 3) := show decode (am_cd (tb_me 125)) 110 = .ok (.invokevirtual 168, 3) from by decide +kernel
theorem s125_110 {L : Nat} {xs : Nat → Int32} : am_sp (tb_P L xs) 125 168 = none := show tb_spF 125 168 = none from by decide +kernel
theorem c125_110 {L : Nat} {xs : Nat → Int32} : am_ca (tb_P L xs) 125 168 = some (131, 0, 1) := show tb_caF 125 168 = some (131, 0, 1) from by decide +kernel
theorem r125_110 {L : Nat} {xs : Nat → Int32} : am_rf (am_me (tb_P L xs) 131) + 1 ≤ am_rf (am_me (tb_P L xs) 125) ∧ 0 + (am_ml (am_me (tb_P L xs) 131) + 11) + am_rl (am_me (tb_P L xs) 131) ≤ am_rl (am_me (tb_P L xs) 125) := show am_rf (tb_me 131) + 1 ≤ am_rf (tb_me 125) ∧ 0 + (am_ml (tb_me 131) + 11) + am_rl (tb_me 131) ≤ am_rl (tb_me 125) from by decide +kernel
theorem k125_113 {L : Nat} {xs : Nat → Int32} : decode (am_cd (am_me (tb_P L xs) 125)) 113 = .ok (.ifCond .ne 5, 3) := show decode (am_cd (tb_me 125)) 113 = .ok (.ifCond .ne 5, 3) from by decide +kernel
theorem k125_116 {L : Nat} {xs : Nat → Int32} : decode (am_cd (am_me (tb_P L xs) 125)) 116 = .ok (.iconst 0, 1) := show decode (am_cd (tb_me 125)) 116 = .ok (.iconst 0, 1) from by decide +kernel
theorem k125_117 {L : Nat} {xs : Nat → Int32} : decode (am_cd (am_me (tb_P L xs) 125)) 117 = .ok (.ireturn, 1) := show decode (am_cd (tb_me 125)) 117 = .ok (.ireturn, 1) from by decide +kernel
theorem k125_118 {L : Nat} {xs : Nat → Int32} : decode (am_cd (am_me (tb_P L xs) 125)) 118 = .ok (.iconst 0, 1) := show decode (am_cd (tb_me 125)) 118 = .ok (.iconst 0, 1) from by decide +kernel
theorem k125_119 {L : Nat} {xs : Nat → Int32} : decode (am_cd (am_me (tb_P L xs) 125)) 119 = .ok (.istore 6, 2) := show decode (am_cd (tb_me 125)) 119 = .ok (.istore 6, 2) from by decide +kernel
theorem k125_121 {L : Nat} {xs : Nat → Int32} : decode (am_cd (am_me (tb_P L xs) 125)) 121 = .ok (.iload 5, 2) := show decode (am_cd (tb_me 125)) 121 = .ok (.iload 5, 2) from by decide +kernel
theorem k125_123 {L : Nat} {xs : Nat → Int32} : decode (am_cd (am_me (tb_P L xs) 125)) 123 = .ok (.ifCond .eq 45, 3) := show decode (am_cd (tb_me 125)) 123 = .ok (.ifCond .eq 45, 3) from by decide +kernel
theorem k125_126 {L : Nat} {xs : Nat → Int32} : decode (am_cd (am_me (tb_P L xs) 125)) 126 = .ok (.iload_n 1, 1) := show decode (am_cd (tb_me 125)) 126 = .ok (.iload_n 1, 1) from by decide +kernel
theorem k125_127 {L : Nat} {xs : Nat → Int32} : decode (am_cd (am_me (tb_P L xs) 125)) 127 = .ok (.bipush 6, 2) := show decode (am_cd (tb_me 125)) 127 = .ok (.bipush 6, 2) from by decide +kernel
theorem k125_129 {L : Nat} {xs : Nat → Int32} : decode (am_cd (am_me (tb_P L xs) 125)) 129 = .ok (.if_icmp .ge 39, 3) := show decode (am_cd (tb_me 125)) 129 = .ok (.if_icmp .ge 39, 3) from by decide +kernel
theorem k125_132 {L : Nat} {xs : Nat → Int32} : decode (am_cd (am_me (tb_P L xs) 125)) 132 = .ok (.iload 6, 2) := show decode (am_cd (tb_me 125)) 132 = .ok (.iload 6, 2) from by decide +kernel
theorem k125_134 {L : Nat} {xs : Nat → Int32} : decode (am_cd (am_me (tb_P L xs) 125)) 134 = .ok (.aload_n 0, 1) := show decode (am_cd (tb_me 125)) 134 = .ok (.aload_n 0, 1) from by decide +kernel
theorem k125_135 {L : Nat} {xs : Nat → Int32} : decode (am_cd (am_me (tb_P L xs) 125)) 135 = .ok (.getfield 38, 3) := show decode (am_cd (tb_me 125)) 135 = .ok (.getfield 38, 3) from by decide +kernel
theorem f125_135 {L : Nat} {xs : Nat → Int32} : am_fd (tb_P L xs) 125 38 = some (8, 13, (.array .int : FieldType), true) := show tb_fdF 125 38 = some (8, 13, (.array .int : FieldType), true) from by decide +kernel
theorem k125_138 {L : Nat} {xs : Nat → Int32} : decode (am_cd (am_me (tb_P L xs) 125)) 138 = .ok (.iload_n 2, 1) := show decode (am_cd (tb_me 125)) 138 = .ok (.iload_n 2, 1) from by decide +kernel
theorem k125_139 {L : Nat} {xs : Nat → Int32} : decode (am_cd (am_me (tb_P L xs) 125)) 139 = .ok (.iaload, 1) := show decode (am_cd (tb_me 125)) 139 = .ok (.iaload, 1) from by decide +kernel
theorem k125_140 {L : Nat} {xs : Nat → Int32} : decode (am_cd (am_me (tb_P L xs) 125)) 140 = .ok (.if_icmp .ge 28, 3) := show decode (am_cd (tb_me 125)) 140 = .ok (.if_icmp .ge 28, 3) from by decide +kernel
theorem k125_143 {L : Nat} {xs : Nat → Int32} : decode (am_cd (am_me (tb_P L xs) 125)) 143 = .ok (.aload_n 0, 1) := show decode (am_cd (tb_me 125)) 143 = .ok (.aload_n 0, 1) from by decide +kernel
theorem k125_144 {L : Nat} {xs : Nat → Int32} : decode (am_cd (am_me (tb_P L xs) 125)) 144 = .ok (.iload_n 1, 1) := show decode (am_cd (tb_me 125)) 144 = .ok (.iload_n 1, 1) from by decide +kernel
theorem k125_145 {L : Nat} {xs : Nat → Int32} : decode (am_cd (am_me (tb_P L xs) 125)) 145 = .ok (.iload_n 2, 1) := show decode (am_cd (tb_me 125)) 145 = .ok (.iload_n 2, 1) from by decide +kernel
theorem k125_146 {L : Nat} {xs : Nat → Int32} : decode (am_cd (am_me (tb_P L xs) 125)) 146 = .ok (.iload 6, 2) := show decode (am_cd (tb_me 125)) 146 = .ok (.iload 6, 2) from by decide +kernel
theorem k125_148 {L : Nat} {xs : Nat → Int32} : decode (am_cd (am_me (tb_P L xs) 125)) 148 = .ok (.invokevirtual 171, 3) := show decode (am_cd (tb_me 125)) 148 = .ok (.invokevirtual 171, 3) from by decide +kernel
theorem s125_148 {L : Nat} {xs : Nat → Int32} : am_sp (tb_P L xs) 125 171 = none := show tb_spF 125 171 = none from by decide +kernel
theorem c125_148 {L : Nat} {xs : Nat → Int32} : am_ca (tb_P L xs) 125 171 = some (133, 3, 1) := show tb_caF 125 171 = some (133, 3, 1) from by decide +kernel
theorem r125_148 {L : Nat} {xs : Nat → Int32} : am_rf (am_me (tb_P L xs) 133) + 1 ≤ am_rf (am_me (tb_P L xs) 125) ∧ 0 + (am_ml (am_me (tb_P L xs) 133) + 11) + am_rl (am_me (tb_P L xs) 133) ≤ am_rl (am_me (tb_P L xs) 125) := show am_rf (tb_me 133) + 1 ≤ am_rf (tb_me 125) ∧ 0 + (am_ml (tb_me 133) + 11) + am_rl (tb_me 133) ≤ am_rl (tb_me 125) from by decide +kernel
theorem k125_151 {L : Nat} {xs : Nat → Int32} : decode (am_cd (am_me (tb_P L xs) 125)) 151 = .ok (.ifCond .ne 11, 3) := show decode (am_cd (tb_me 125)) 151 = .ok (.ifCond .ne 11, 3) from by decide +kernel
theorem k125_154 {L : Nat} {xs : Nat → Int32} : decode (am_cd (am_me (tb_P L xs) 125)) 154 = .ok (.aload_n 0, 1) := show decode (am_cd (tb_me 125)) 154 = .ok (.aload_n 0, 1) from by decide +kernel
theorem k125_155 {L : Nat} {xs : Nat → Int32} : decode (am_cd (am_me (tb_P L xs) 125)) 155 = .ok (.iload 6, 2) := show decode (am_cd (tb_me 125)) 155 = .ok (.iload 6, 2) from by decide +kernel
theorem k125_157 {L : Nat} {xs : Nat → Int32} : decode (am_cd (am_me (tb_P L xs) 125)) 157 = .ok (.putfield 165, 3) := show decode (am_cd (tb_me 125)) 157 = .ok (.putfield 165, 3) from by decide +kernel
theorem f125_157 {L : Nat} {xs : Nat → Int32} : am_fd (tb_P L xs) 125 165 = some (8, 32, (.int : FieldType), true) := show tb_fdF 125 165 = some (8, 32, (.int : FieldType), true) from by decide +kernel
theorem k125_160 {L : Nat} {xs : Nat → Int32} : decode (am_cd (am_me (tb_P L xs) 125)) 160 = .ok (.iconst 0, 1) := show decode (am_cd (tb_me 125)) 160 = .ok (.iconst 0, 1) from by decide +kernel
theorem k125_161 {L : Nat} {xs : Nat → Int32} : decode (am_cd (am_me (tb_P L xs) 125)) 161 = .ok (.ireturn, 1) := show decode (am_cd (tb_me 125)) 161 = .ok (.ireturn, 1) from by decide +kernel
theorem k125_162 {L : Nat} {xs : Nat → Int32} : decode (am_cd (am_me (tb_P L xs) 125)) 162 = .ok (.iinc 6 1, 3) := show decode (am_cd (tb_me 125)) 162 = .ok (.iinc 6 1, 3) from by decide +kernel
theorem k125_165 {L : Nat} {xs : Nat → Int32} : decode (am_cd (am_me (tb_P L xs) 125)) 165 = .ok (.goto (-44), 3) := show decode (am_cd (tb_me 125)) 165 = .ok (.goto (-44), 3) from by decide +kernel
theorem k125_168 {L : Nat} {xs : Nat → Int32} : decode (am_cd (am_me (tb_P L xs) 125)) 168 = .ok (.aload_n 0, 1) := show decode (am_cd (tb_me 125)) 168 = .ok (.aload_n 0, 1) from by decide +kernel
theorem k125_169 {L : Nat} {xs : Nat → Int32} : decode (am_cd (am_me (tb_P L xs) 125)) 169 = .ok (.iload_n 3, 1) := show decode (am_cd (tb_me 125)) 169 = .ok (.iload_n 3, 1) from by decide +kernel
theorem k125_170 {L : Nat} {xs : Nat → Int32} : decode (am_cd (am_me (tb_P L xs) 125)) 170 = .ok (.ifCond .eq 7, 3) := show decode (am_cd (tb_me 125)) 170 = .ok (.ifCond .eq 7, 3) from by decide +kernel
theorem k125_173 {L : Nat} {xs : Nat → Int32} : decode (am_cd (am_me (tb_P L xs) 125)) 173 = .ok (.iconst 2, 1) := show decode (am_cd (tb_me 125)) 173 = .ok (.iconst 2, 1) from by decide +kernel
theorem k125_174 {L : Nat} {xs : Nat → Int32} : decode (am_cd (am_me (tb_P L xs) 125)) 174 = .ok (.goto 4, 3) := show decode (am_cd (tb_me 125)) 174 = .ok (.goto 4, 3) from by decide +kernel
theorem k125_177 {L : Nat} {xs : Nat → Int32} : decode (am_cd (am_me (tb_P L xs) 125)) 177 = .ok (.iconst 5, 1) := show decode (am_cd (tb_me 125)) 177 = .ok (.iconst 5, 1) from by decide +kernel
theorem k125_178 {L : Nat} {xs : Nat → Int32} : decode (am_cd (am_me (tb_P L xs) 125)) 178 = .ok (.invokevirtual 175, 3) := show decode (am_cd (tb_me 125)) 178 = .ok (.invokevirtual 175, 3) from by decide +kernel
theorem s125_178 {L : Nat} {xs : Nat → Int32} : am_sp (tb_P L xs) 125 175 = none := show tb_spF 125 175 = none from by decide +kernel
theorem c125_178 {L : Nat} {xs : Nat → Int32} : am_ca (tb_P L xs) 125 175 = some (139, 1, 1) := show tb_caF 125 175 = some (139, 1, 1) from by decide +kernel
theorem r125_178 {L : Nat} {xs : Nat → Int32} : am_rf (am_me (tb_P L xs) 139) + 1 ≤ am_rf (am_me (tb_P L xs) 125) ∧ 0 + (am_ml (am_me (tb_P L xs) 139) + 11) + am_rl (am_me (tb_P L xs) 139) ≤ am_rl (am_me (tb_P L xs) 125) := show am_rf (tb_me 139) + 1 ≤ am_rf (tb_me 125) ∧ 0 + (am_ml (tb_me 139) + 11) + am_rl (tb_me 139) ≤ am_rl (tb_me 125) from by decide +kernel
theorem k125_181 {L : Nat} {xs : Nat → Int32} : decode (am_cd (am_me (tb_P L xs) 125)) 181 = .ok (.istore 4, 2) := show decode (am_cd (tb_me 125)) 181 = .ok (.istore 4, 2) from by decide +kernel
theorem k125_183 {L : Nat} {xs : Nat → Int32} : decode (am_cd (am_me (tb_P L xs) 125)) 183 = .ok (.goto (-110), 3) := show decode (am_cd (tb_me 125)) 183 = .ok (.goto (-110), 3) from by decide +kernel
theorem k125_186 {L : Nat} {xs : Nat → Int32} : decode (am_cd (am_me (tb_P L xs) 125)) 186 = .ok (.iconst 1, 1) := show decode (am_cd (tb_me 125)) 186 = .ok (.iconst 1, 1) from by decide +kernel
theorem k125_187 {L : Nat} {xs : Nat → Int32} : decode (am_cd (am_me (tb_P L xs) 125)) 187 = .ok (.ireturn, 1) := show decode (am_cd (tb_me 125)) 187 = .ok (.ireturn, 1) from by decide +kernel
theorem t125 {L : Nat} {xs : Nat → Int32} : am_rt (am_me (tb_P L xs) 125) = some (.boolean : FieldType) := show am_rt (tb_me 125) = some (.boolean : FieldType) from by decide +kernel
theorem l125 {L : Nat} {xs : Nat → Int32} : am_ml (am_me (tb_P L xs) 125) = 7 := show am_ml (tb_me 125) = 7 from by decide +kernel
theorem o125 {L : Nat} {xs : Nat → Int32} (pc : Nat) : am_no (tb_P L xs) 125 pc = true := show (am_hd (tb_me 125)).all (fun q => !(decide (q.1 ≤ pc) && decide (pc < q.2.1))) = true from by rw [show am_hd (tb_me 125) = [] by decide +kernel]; rfl
theorem k126_0 {L : Nat} {xs : Nat → Int32} : decode (am_cd (am_me (tb_P L xs) 126)) 0 = .ok (.aload_n 0, 1) := show decode (am_cd (tb_me 126)) 0 = .ok (.aload_n 0, 1) from by decide +kernel
theorem k126_1 {L : Nat} {xs : Nat → Int32} : decode (am_cd (am_me (tb_P L xs) 126)) 1 = .ok (.iconst 0, 1) := show decode (am_cd (tb_me 126)) 1 = .ok (.iconst 0, 1) from by decide +kernel
theorem k126_2 {L : Nat} {xs : Nat → Int32} : decode (am_cd (am_me (tb_P L xs) 126)) 2 = .ok (.iload_n 1, 1) := show decode (am_cd (tb_me 126)) 2 = .ok (.iload_n 1, 1) from by decide +kernel
theorem k126_3 {L : Nat} {xs : Nat → Int32} : decode (am_cd (am_me (tb_P L xs) 126)) 3 = .ok (.invokevirtual 137, 3) := show decode (am_cd (tb_me 126)) 3 = .ok (.invokevirtual 137, 3) from by decide +kernel
theorem s126_3 {L : Nat} {xs : Nat → Int32} : am_sp (tb_P L xs) 126 137 = none := show tb_spF 126 137 = none from by decide +kernel
theorem c126_3 {L : Nat} {xs : Nat → Int32} : am_ca (tb_P L xs) 126 137 = some (127, 2, 1) := show tb_caF 126 137 = some (127, 2, 1) from by decide +kernel
theorem r126_3 {L : Nat} {xs : Nat → Int32} : am_rf (am_me (tb_P L xs) 127) + 1 ≤ am_rf (am_me (tb_P L xs) 126) ∧ 0 + (am_ml (am_me (tb_P L xs) 127) + 11) + am_rl (am_me (tb_P L xs) 127) ≤ am_rl (am_me (tb_P L xs) 126) := show am_rf (tb_me 127) + 1 ≤ am_rf (tb_me 126) ∧ 0 + (am_ml (tb_me 127) + 11) + am_rl (tb_me 127) ≤ am_rl (tb_me 126) from by decide +kernel
theorem k126_6 {L : Nat} {xs : Nat → Int32} : decode (am_cd (am_me (tb_P L xs) 126)) 6 = .ok (.ifCond .eq 16, 3) := show decode (am_cd (tb_me 126)) 6 = .ok (.ifCond .eq 16, 3) from by decide +kernel
theorem k126_9 {L : Nat} {xs : Nat → Int32} : decode (am_cd (am_me (tb_P L xs) 126)) 9 = .ok (.aload_n 0, 1) := show decode (am_cd (tb_me 126)) 9 = .ok (.aload_n 0, 1) from by decide +kernel
theorem k126_10 {L : Nat} {xs : Nat → Int32} : decode (am_cd (am_me (tb_P L xs) 126)) 10 = .ok (.iconst 1, 1) := show decode (am_cd (tb_me 126)) 10 = .ok (.iconst 1, 1) from by decide +kernel
theorem k126_11 {L : Nat} {xs : Nat → Int32} : decode (am_cd (am_me (tb_P L xs) 126)) 11 = .ok (.iload_n 1, 1) := show decode (am_cd (tb_me 126)) 11 = .ok (.iload_n 1, 1) from by decide +kernel
theorem k126_12 {L : Nat} {xs : Nat → Int32} : decode (am_cd (am_me (tb_P L xs) 126)) 12 = .ok (.invokevirtual 137, 3) := show decode (am_cd (tb_me 126)) 12 = .ok (.invokevirtual 137, 3) from by decide +kernel
theorem s126_12 {L : Nat} {xs : Nat → Int32} : am_sp (tb_P L xs) 126 137 = none := show tb_spF 126 137 = none from by decide +kernel
theorem c126_12 {L : Nat} {xs : Nat → Int32} : am_ca (tb_P L xs) 126 137 = some (127, 2, 1) := show tb_caF 126 137 = some (127, 2, 1) from by decide +kernel
theorem r126_12 {L : Nat} {xs : Nat → Int32} : am_rf (am_me (tb_P L xs) 127) + 1 ≤ am_rf (am_me (tb_P L xs) 126) ∧ 0 + (am_ml (am_me (tb_P L xs) 127) + 11) + am_rl (am_me (tb_P L xs) 127) ≤ am_rl (am_me (tb_P L xs) 126) := show am_rf (tb_me 127) + 1 ≤ am_rf (tb_me 126) ∧ 0 + (am_ml (tb_me 127) + 11) + am_rl (tb_me 127) ≤ am_rl (tb_me 126) from by decide +kernel
theorem k126_15 {L : Nat} {xs : Nat → Int32} : decode (am_cd (am_me (tb_P L xs) 126)) 15 = .ok (.ifCond .eq 7, 3) := show decode (am_cd (tb_me 126)) 15 = .ok (.ifCond .eq 7, 3) from by decide +kernel
theorem k126_18 {L : Nat} {xs : Nat → Int32} : decode (am_cd (am_me (tb_P L xs) 126)) 18 = .ok (.iconst 1, 1) := show decode (am_cd (tb_me 126)) 18 = .ok (.iconst 1, 1) from by decide +kernel
theorem k126_19 {L : Nat} {xs : Nat → Int32} : decode (am_cd (am_me (tb_P L xs) 126)) 19 = .ok (.goto 4, 3) := show decode (am_cd (tb_me 126)) 19 = .ok (.goto 4, 3) from by decide +kernel
theorem k126_22 {L : Nat} {xs : Nat → Int32} : decode (am_cd (am_me (tb_P L xs) 126)) 22 = .ok (.iconst 0, 1) := show decode (am_cd (tb_me 126)) 22 = .ok (.iconst 0, 1) from by decide +kernel
theorem k126_23 {L : Nat} {xs : Nat → Int32} : decode (am_cd (am_me (tb_P L xs) 126)) 23 = .ok (.ireturn, 1) := show decode (am_cd (tb_me 126)) 23 = .ok (.ireturn, 1) from by decide +kernel
theorem t126 {L : Nat} {xs : Nat → Int32} : am_rt (am_me (tb_P L xs) 126) = some (.boolean : FieldType) := show am_rt (tb_me 126) = some (.boolean : FieldType) from by decide +kernel
theorem l126 {L : Nat} {xs : Nat → Int32} : am_ml (am_me (tb_P L xs) 126) = 2 := show am_ml (tb_me 126) = 2 from by decide +kernel
theorem o126 {L : Nat} {xs : Nat → Int32} (pc : Nat) : am_no (tb_P L xs) 126 pc = true := show (am_hd (tb_me 126)).all (fun q => !(decide (q.1 ≤ pc) && decide (pc < q.2.1))) = true from by rw [show am_hd (tb_me 126) = [] by decide +kernel]; rfl
theorem k127_0 {L : Nat} {xs : Nat → Int32} : decode (am_cd (am_me (tb_P L xs) 127)) 0 = .ok (.iconst 1, 1) := show decode (am_cd (tb_me 127)) 0 = .ok (.iconst 1, 1) from by decide +kernel
theorem k127_1 {L : Nat} {xs : Nat → Int32} : decode (am_cd (am_me (tb_P L xs) 127)) 1 = .ok (.istore_n 3, 1) := show decode (am_cd (tb_me 127)) 1 = .ok (.istore_n 3, 1) from by decide +kernel
theorem k127_2 {L : Nat} {xs : Nat → Int32} : decode (am_cd (am_me (tb_P L xs) 127)) 2 = .ok (.iconst 0, 1) := show decode (am_cd (tb_me 127)) 2 = .ok (.iconst 0, 1) from by decide +kernel
theorem k127_3 {L : Nat} {xs : Nat → Int32} : decode (am_cd (am_me (tb_P L xs) 127)) 3 = .ok (.istore 4, 2) := show decode (am_cd (tb_me 127)) 3 = .ok (.istore 4, 2) from by decide +kernel
theorem k127_5 {L : Nat} {xs : Nat → Int32} : decode (am_cd (am_me (tb_P L xs) 127)) 5 = .ok (.iload 4, 2) := show decode (am_cd (tb_me 127)) 5 = .ok (.iload 4, 2) from by decide +kernel
theorem k127_7 {L : Nat} {xs : Nat → Int32} : decode (am_cd (am_me (tb_P L xs) 127)) 7 = .ok (.aload_n 0, 1) := show decode (am_cd (tb_me 127)) 7 = .ok (.aload_n 0, 1) from by decide +kernel
theorem k127_8 {L : Nat} {xs : Nat → Int32} : decode (am_cd (am_me (tb_P L xs) 127)) 8 = .ok (.getfield 53, 3) := show decode (am_cd (tb_me 127)) 8 = .ok (.getfield 53, 3) from by decide +kernel
theorem f127_8 {L : Nat} {xs : Nat → Int32} : am_fd (tb_P L xs) 127 53 = some (8, 18, (.array .int : FieldType), true) := show tb_fdF 127 53 = some (8, 18, (.array .int : FieldType), true) from by decide +kernel
theorem k127_11 {L : Nat} {xs : Nat → Int32} : decode (am_cd (am_me (tb_P L xs) 127)) 11 = .ok (.iload_n 1, 1) := show decode (am_cd (tb_me 127)) 11 = .ok (.iload_n 1, 1) from by decide +kernel
theorem k127_12 {L : Nat} {xs : Nat → Int32} : decode (am_cd (am_me (tb_P L xs) 127)) 12 = .ok (.iaload, 1) := show decode (am_cd (tb_me 127)) 12 = .ok (.iaload, 1) from by decide +kernel
theorem k127_13 {L : Nat} {xs : Nat → Int32} : decode (am_cd (am_me (tb_P L xs) 127)) 13 = .ok (.if_icmp .ge 41, 3) := show decode (am_cd (tb_me 127)) 13 = .ok (.if_icmp .ge 41, 3) from by decide +kernel
theorem k127_16 {L : Nat} {xs : Nat → Int32} : decode (am_cd (am_me (tb_P L xs) 127)) 16 = .ok (.iload_n 3, 1) := show decode (am_cd (tb_me 127)) 16 = .ok (.iload_n 3, 1) from by decide +kernel
theorem k127_17 {L : Nat} {xs : Nat → Int32} : decode (am_cd (am_me (tb_P L xs) 127)) 17 = .ok (.ifCond .eq 29, 3) := show decode (am_cd (tb_me 127)) 17 = .ok (.ifCond .eq 29, 3) from by decide +kernel
theorem k127_20 {L : Nat} {xs : Nat → Int32} : decode (am_cd (am_me (tb_P L xs) 127)) 20 = .ok (.aload_n 0, 1) := show decode (am_cd (tb_me 127)) 20 = .ok (.aload_n 0, 1) from by decide +kernel
theorem k127_21 {L : Nat} {xs : Nat → Int32} : decode (am_cd (am_me (tb_P L xs) 127)) 21 = .ok (.aload_n 0, 1) := show decode (am_cd (tb_me 127)) 21 = .ok (.aload_n 0, 1) from by decide +kernel
theorem k127_22 {L : Nat} {xs : Nat → Int32} : decode (am_cd (am_me (tb_P L xs) 127)) 22 = .ok (.getfield 56, 3) := show decode (am_cd (tb_me 127)) 22 = .ok (.getfield 56, 3) from by decide +kernel
theorem f127_22 {L : Nat} {xs : Nat → Int32} : am_fd (tb_P L xs) 127 56 = some (8, 19, (.array .int : FieldType), true) := show tb_fdF 127 56 = some (8, 19, (.array .int : FieldType), true) from by decide +kernel
theorem k127_25 {L : Nat} {xs : Nat → Int32} : decode (am_cd (am_me (tb_P L xs) 127)) 25 = .ok (.bipush 6, 2) := show decode (am_cd (tb_me 127)) 25 = .ok (.bipush 6, 2) from by decide +kernel
theorem k127_27 {L : Nat} {xs : Nat → Int32} : decode (am_cd (am_me (tb_P L xs) 127)) 27 = .ok (.iload_n 1, 1) := show decode (am_cd (tb_me 127)) 27 = .ok (.iload_n 1, 1) from by decide +kernel
theorem k127_28 {L : Nat} {xs : Nat → Int32} : decode (am_cd (am_me (tb_P L xs) 127)) 28 = .ok (.imul, 1) := show decode (am_cd (tb_me 127)) 28 = .ok (.imul, 1) from by decide +kernel
theorem k127_29 {L : Nat} {xs : Nat → Int32} : decode (am_cd (am_me (tb_P L xs) 127)) 29 = .ok (.iload 4, 2) := show decode (am_cd (tb_me 127)) 29 = .ok (.iload 4, 2) from by decide +kernel
theorem k127_31 {L : Nat} {xs : Nat → Int32} : decode (am_cd (am_me (tb_P L xs) 127)) 31 = .ok (.iadd, 1) := show decode (am_cd (tb_me 127)) 31 = .ok (.iadd, 1) from by decide +kernel
theorem k127_32 {L : Nat} {xs : Nat → Int32} : decode (am_cd (am_me (tb_P L xs) 127)) 32 = .ok (.iaload, 1) := show decode (am_cd (tb_me 127)) 32 = .ok (.iaload, 1) from by decide +kernel
theorem k127_33 {L : Nat} {xs : Nat → Int32} : decode (am_cd (am_me (tb_P L xs) 127)) 33 = .ok (.iload_n 2, 1) := show decode (am_cd (tb_me 127)) 33 = .ok (.iload_n 2, 1) from by decide +kernel
theorem k127_34 {L : Nat} {xs : Nat → Int32} : decode (am_cd (am_me (tb_P L xs) 127)) 34 = .ok (.iconst 0, 1) := show decode (am_cd (tb_me 127)) 34 = .ok (.iconst 0, 1) from by decide +kernel
theorem k127_35 {L : Nat} {xs : Nat → Int32} : decode (am_cd (am_me (tb_P L xs) 127)) 35 = .ok (.invokevirtual 133, 3) := show decode (am_cd (tb_me 127)) 35 = .ok (.invokevirtual 133, 3) from by decide +kernel
theorem s127_35 {L : Nat} {xs : Nat → Int32} : am_sp (tb_P L xs) 127 133 = none := show tb_spF 127 133 = none from by decide +kernel
theorem c127_35 {L : Nat} {xs : Nat → Int32} : am_ca (tb_P L xs) 127 133 = some (128, 3, 1) := show tb_caF 127 133 = some (128, 3, 1) from by decide +kernel
theorem r127_35 {L : Nat} {xs : Nat → Int32} : am_rf (am_me (tb_P L xs) 128) + 1 ≤ am_rf (am_me (tb_P L xs) 127) ∧ 0 + (am_ml (am_me (tb_P L xs) 128) + 11) + am_rl (am_me (tb_P L xs) 128) ≤ am_rl (am_me (tb_P L xs) 127) := show am_rf (tb_me 128) + 1 ≤ am_rf (tb_me 127) ∧ 0 + (am_ml (tb_me 128) + 11) + am_rl (tb_me 128) ≤ am_rl (tb_me 127) from by decide +kernel
theorem k127_38 {L : Nat} {xs : Nat → Int32} : decode (am_cd (am_me (tb_P L xs) 127)) 38 = .ok (.iconst 1, 1) := show decode (am_cd (tb_me 127)) 38 = .ok (.iconst 1, 1) from by decide +kernel
theorem k127_39 {L : Nat} {xs : Nat → Int32} : decode (am_cd (am_me (tb_P L xs) 127)) 39 = .ok (.if_icmp .ne 7, 3) := show decode (am_cd (tb_me 127)) 39 = .ok (.if_icmp .ne 7, 3) from by decide +kernel
theorem k127_42 {L : Nat} {xs : Nat → Int32} : decode (am_cd (am_me (tb_P L xs) 127)) 42 = .ok (.iconst 1, 1) := show decode (am_cd (tb_me 127)) 42 = .ok (.iconst 1, 1) from by decide +kernel
theorem k127_43 {L : Nat} {xs : Nat → Int32} : decode (am_cd (am_me (tb_P L xs) 127)) 43 = .ok (.goto 4, 3) := show decode (am_cd (tb_me 127)) 43 = .ok (.goto 4, 3) from by decide +kernel
theorem k127_46 {L : Nat} {xs : Nat → Int32} : decode (am_cd (am_me (tb_P L xs) 127)) 46 = .ok (.iconst 0, 1) := show decode (am_cd (tb_me 127)) 46 = .ok (.iconst 0, 1) from by decide +kernel
theorem k127_47 {L : Nat} {xs : Nat → Int32} : decode (am_cd (am_me (tb_P L xs) 127)) 47 = .ok (.istore_n 3, 1) := show decode (am_cd (tb_me 127)) 47 = .ok (.istore_n 3, 1) from by decide +kernel
theorem k127_48 {L : Nat} {xs : Nat → Int32} : decode (am_cd (am_me (tb_P L xs) 127)) 48 = .ok (.iinc 4 1, 3) := show decode (am_cd (tb_me 127)) 48 = .ok (.iinc 4 1, 3) from by decide +kernel
theorem k127_51 {L : Nat} {xs : Nat → Int32} : decode (am_cd (am_me (tb_P L xs) 127)) 51 = .ok (.goto (-46), 3) := show decode (am_cd (tb_me 127)) 51 = .ok (.goto (-46), 3) from by decide +kernel
theorem k127_54 {L : Nat} {xs : Nat → Int32} : decode (am_cd (am_me (tb_P L xs) 127)) 54 = .ok (.iload_n 3, 1) := show decode (am_cd (tb_me 127)) 54 = .ok (.iload_n 3, 1) from by decide +kernel
theorem k127_55 {L : Nat} {xs : Nat → Int32} : decode (am_cd (am_me (tb_P L xs) 127)) 55 = .ok (.ireturn, 1) := show decode (am_cd (tb_me 127)) 55 = .ok (.ireturn, 1) from by decide +kernel
theorem t127 {L : Nat} {xs : Nat → Int32} : am_rt (am_me (tb_P L xs) 127) = some (.boolean : FieldType) := show am_rt (tb_me 127) = some (.boolean : FieldType) from by decide +kernel
theorem l127 {L : Nat} {xs : Nat → Int32} : am_ml (am_me (tb_P L xs) 127) = 5 := show am_ml (tb_me 127) = 5 from by decide +kernel
theorem o127 {L : Nat} {xs : Nat → Int32} (pc : Nat) : am_no (tb_P L xs) 127 pc = true := show (am_hd (tb_me 127)).all (fun q => !(decide (q.1 ≤ pc) && decide (pc < q.2.1))) = true from by rw [show am_hd (tb_me 127) = [] by decide +kernel]; rfl
theorem k128_0 {L : Nat} {xs : Nat → Int32} : decode (am_cd (am_me (tb_P L xs) 128)) 0 = .ok (.aload_n 0, 1) := show decode (am_cd (tb_me 128)) 0 = .ok (.aload_n 0, 1) from by decide +kernel
theorem k128_1 {L : Nat} {xs : Nat → Int32} : decode (am_cd (am_me (tb_P L xs) 128)) 1 = .ok (.iconst 0, 1) := show decode (am_cd (tb_me 128)) 1 = .ok (.iconst 0, 1) from by decide +kernel
theorem k128_2 {L : Nat} {xs : Nat → Int32} : decode (am_cd (am_me (tb_P L xs) 128)) 2 = .ok (.putfield 88, 3) := show decode (am_cd (tb_me 128)) 2 = .ok (.putfield 88, 3) from by decide +kernel
theorem f128_2 {L : Nat} {xs : Nat → Int32} : am_fd (tb_P L xs) 128 88 = some (8, 29, (.int : FieldType), true) := show tb_fdF 128 88 = some (8, 29, (.int : FieldType), true) from by decide +kernel
theorem k128_5 {L : Nat} {xs : Nat → Int32} : decode (am_cd (am_me (tb_P L xs) 128)) 5 = .ok (.aload_n 0, 1) := show decode (am_cd (tb_me 128)) 5 = .ok (.aload_n 0, 1) from by decide +kernel
theorem k128_6 {L : Nat} {xs : Nat → Int32} : decode (am_cd (am_me (tb_P L xs) 128)) 6 = .ok (.getfield 19, 3) := show decode (am_cd (tb_me 128)) 6 = .ok (.getfield 19, 3) from by decide +kernel
theorem f128_6 {L : Nat} {xs : Nat → Int32} : am_fd (tb_P L xs) 128 19 = some (8, 6, (.array .int : FieldType), true) := show tb_fdF 128 19 = some (8, 6, (.array .int : FieldType), true) from by decide +kernel
theorem k128_9 {L : Nat} {xs : Nat → Int32} : decode (am_cd (am_me (tb_P L xs) 128)) 9 = .ok (.iload_n 1, 1) := show decode (am_cd (tb_me 128)) 9 = .ok (.iload_n 1, 1) from by decide +kernel
theorem k128_10 {L : Nat} {xs : Nat → Int32} : decode (am_cd (am_me (tb_P L xs) 128)) 10 = .ok (.iaload, 1) := show decode (am_cd (tb_me 128)) 10 = .ok (.iaload, 1) from by decide +kernel
theorem k128_11 {L : Nat} {xs : Nat → Int32} : decode (am_cd (am_me (tb_P L xs) 128)) 11 = .ok (.iconst 1, 1) := show decode (am_cd (tb_me 128)) 11 = .ok (.iconst 1, 1) from by decide +kernel
theorem k128_12 {L : Nat} {xs : Nat → Int32} : decode (am_cd (am_me (tb_P L xs) 128)) 12 = .ok (.isub, 1) := show decode (am_cd (tb_me 128)) 12 = .ok (.isub, 1) from by decide +kernel
theorem k128_13 {L : Nat} {xs : Nat → Int32} : decode (am_cd (am_me (tb_P L xs) 128)) 13 = .ok (.istore 4, 2) := show decode (am_cd (tb_me 128)) 13 = .ok (.istore 4, 2) from by decide +kernel
theorem k128_15 {L : Nat} {xs : Nat → Int32} : decode (am_cd (am_me (tb_P L xs) 128)) 15 = .ok (.iload 4, 2) := show decode (am_cd (tb_me 128)) 15 = .ok (.iload 4, 2) from by decide +kernel
theorem k128_17 {L : Nat} {xs : Nat → Int32} : decode (am_cd (am_me (tb_P L xs) 128)) 17 = .ok (.ifCond .lt 240, 3) := show decode (am_cd (tb_me 128)) 17 = .ok (.ifCond .lt 240, 3) from by decide +kernel
theorem k128_20 {L : Nat} {xs : Nat → Int32} : decode (am_cd (am_me (tb_P L xs) 128)) 20 = .ok (.aload_n 0, 1) := show decode (am_cd (tb_me 128)) 20 = .ok (.aload_n 0, 1) from by decide +kernel
theorem k128_21 {L : Nat} {xs : Nat → Int32} : decode (am_cd (am_me (tb_P L xs) 128)) 21 = .ok (.getfield 22, 3) := show decode (am_cd (tb_me 128)) 21 = .ok (.getfield 22, 3) from by decide +kernel
theorem f128_21 {L : Nat} {xs : Nat → Int32} : am_fd (tb_P L xs) 128 22 = some (8, 7, (.array .int : FieldType), true) := show tb_fdF 128 22 = some (8, 7, (.array .int : FieldType), true) from by decide +kernel
theorem k128_24 {L : Nat} {xs : Nat → Int32} : decode (am_cd (am_me (tb_P L xs) 128)) 24 = .ok (.bipush 24, 2) := show decode (am_cd (tb_me 128)) 24 = .ok (.bipush 24, 2) from by decide +kernel
theorem k128_26 {L : Nat} {xs : Nat → Int32} : decode (am_cd (am_me (tb_P L xs) 128)) 26 = .ok (.iload_n 1, 1) := show decode (am_cd (tb_me 128)) 26 = .ok (.iload_n 1, 1) from by decide +kernel
theorem k128_27 {L : Nat} {xs : Nat → Int32} : decode (am_cd (am_me (tb_P L xs) 128)) 27 = .ok (.imul, 1) := show decode (am_cd (tb_me 128)) 27 = .ok (.imul, 1) from by decide +kernel
theorem k128_28 {L : Nat} {xs : Nat → Int32} : decode (am_cd (am_me (tb_P L xs) 128)) 28 = .ok (.iload 4, 2) := show decode (am_cd (tb_me 128)) 28 = .ok (.iload 4, 2) from by decide +kernel
theorem k128_30 {L : Nat} {xs : Nat → Int32} : decode (am_cd (am_me (tb_P L xs) 128)) 30 = .ok (.iadd, 1) := show decode (am_cd (tb_me 128)) 30 = .ok (.iadd, 1) from by decide +kernel
theorem k128_31 {L : Nat} {xs : Nat → Int32} : decode (am_cd (am_me (tb_P L xs) 128)) 31 = .ok (.iaload, 1) := show decode (am_cd (tb_me 128)) 31 = .ok (.iaload, 1) from by decide +kernel
theorem k128_32 {L : Nat} {xs : Nat → Int32} : decode (am_cd (am_me (tb_P L xs) 128)) 32 = .ok (.istore 5, 2) := show decode (am_cd (tb_me 128)) 32 = .ok (.istore 5, 2) from by decide +kernel
theorem k128_34 {L : Nat} {xs : Nat → Int32} : decode (am_cd (am_me (tb_P L xs) 128)) 34 = .ok (.aload_n 0, 1) := show decode (am_cd (tb_me 128)) 34 = .ok (.aload_n 0, 1) from by decide +kernel
theorem k128_35 {L : Nat} {xs : Nat → Int32} : decode (am_cd (am_me (tb_P L xs) 128)) 35 = .ok (.iload 5, 2) := show decode (am_cd (tb_me 128)) 35 = .ok (.iload 5, 2) from by decide +kernel
theorem k128_37 {L : Nat} {xs : Nat → Int32} : decode (am_cd (am_me (tb_P L xs) 128)) 37 = .ok (.invokevirtual 91, 3) := show decode (am_cd (tb_me 128)) 37 = .ok (.invokevirtual 91, 3) from by decide +kernel
theorem s128_37 {L : Nat} {xs : Nat → Int32} : am_sp (tb_P L xs) 128 91 = none := show tb_spF 128 91 = none from by decide +kernel
theorem c128_37 {L : Nat} {xs : Nat → Int32} : am_ca (tb_P L xs) 128 91 = some (110, 1, 1) := show tb_caF 128 91 = some (110, 1, 1) from by decide +kernel
theorem r128_37 {L : Nat} {xs : Nat → Int32} : am_rf (am_me (tb_P L xs) 110) + 1 ≤ am_rf (am_me (tb_P L xs) 128) ∧ 0 + (am_ml (am_me (tb_P L xs) 110) + 11) + am_rl (am_me (tb_P L xs) 110) ≤ am_rl (am_me (tb_P L xs) 128) := show am_rf (tb_me 110) + 1 ≤ am_rf (tb_me 128) ∧ 0 + (am_ml (tb_me 110) + 11) + am_rl (tb_me 110) ≤ am_rl (tb_me 128) from by decide +kernel
theorem k128_40 {L : Nat} {xs : Nat → Int32} : decode (am_cd (am_me (tb_P L xs) 128)) 40 = .ok (.istore 6, 2) := show decode (am_cd (tb_me 128)) 40 = .ok (.istore 6, 2) from by decide +kernel
theorem k128_42 {L : Nat} {xs : Nat → Int32} : decode (am_cd (am_me (tb_P L xs) 128)) 42 = .ok (.iload 6, 2) := show decode (am_cd (tb_me 128)) 42 = .ok (.iload 6, 2) from by decide +kernel
theorem k128_44 {L : Nat} {xs : Nat → Int32} : decode (am_cd (am_me (tb_P L xs) 128)) 44 = .ok (.ifCond .le 17, 3) := show decode (am_cd (tb_me 128)) 44 = .ok (.ifCond .le 17, 3) from by decide +kernel
theorem k128_47 {L : Nat} {xs : Nat → Int32} : decode (am_cd (am_me (tb_P L xs) 128)) 47 = .ok (.aload_n 0, 1) := show decode (am_cd (tb_me 128)) 47 = .ok (.aload_n 0, 1) from by decide +kernel
theorem k128_48 {L : Nat} {xs : Nat → Int32} : decode (am_cd (am_me (tb_P L xs) 128)) 48 = .ok (.getfield 75, 3) := show decode (am_cd (tb_me 128)) 48 = .ok (.getfield 75, 3) from by decide +kernel
theorem f128_48 {L : Nat} {xs : Nat → Int32} : am_fd (tb_P L xs) 128 75 = some (8, 30, (.array .int : FieldType), true) := show tb_fdF 128 75 = some (8, 30, (.array .int : FieldType), true) from by decide +kernel
theorem k128_51 {L : Nat} {xs : Nat → Int32} : decode (am_cd (am_me (tb_P L xs) 128)) 51 = .ok (.aload_n 0, 1) := show decode (am_cd (tb_me 128)) 51 = .ok (.aload_n 0, 1) from by decide +kernel
theorem k128_52 {L : Nat} {xs : Nat → Int32} : decode (am_cd (am_me (tb_P L xs) 128)) 52 = .ok (.getfield 88, 3) := show decode (am_cd (tb_me 128)) 52 = .ok (.getfield 88, 3) from by decide +kernel
theorem f128_52 {L : Nat} {xs : Nat → Int32} : am_fd (tb_P L xs) 128 88 = some (8, 29, (.int : FieldType), true) := show tb_fdF 128 88 = some (8, 29, (.int : FieldType), true) from by decide +kernel
theorem k128_55 {L : Nat} {xs : Nat → Int32} : decode (am_cd (am_me (tb_P L xs) 128)) 55 = .ok (.iconst 1, 1) := show decode (am_cd (tb_me 128)) 55 = .ok (.iconst 1, 1) from by decide +kernel
theorem k128_56 {L : Nat} {xs : Nat → Int32} : decode (am_cd (am_me (tb_P L xs) 128)) 56 = .ok (.isub, 1) := show decode (am_cd (tb_me 128)) 56 = .ok (.isub, 1) from by decide +kernel
theorem k128_57 {L : Nat} {xs : Nat → Int32} : decode (am_cd (am_me (tb_P L xs) 128)) 57 = .ok (.iaload, 1) := show decode (am_cd (tb_me 128)) 57 = .ok (.iaload, 1) from by decide +kernel
theorem k128_58 {L : Nat} {xs : Nat → Int32} : decode (am_cd (am_me (tb_P L xs) 128)) 58 = .ok (.goto 4, 3) := show decode (am_cd (tb_me 128)) 58 = .ok (.goto 4, 3) from by decide +kernel
theorem k128_61 {L : Nat} {xs : Nat → Int32} : decode (am_cd (am_me (tb_P L xs) 128)) 61 = .ok (.iconst 0, 1) := show decode (am_cd (tb_me 128)) 61 = .ok (.iconst 0, 1) from by decide +kernel
theorem k128_62 {L : Nat} {xs : Nat → Int32} : decode (am_cd (am_me (tb_P L xs) 128)) 62 = .ok (.istore 7, 2) := show decode (am_cd (tb_me 128)) 62 = .ok (.istore 7, 2) from by decide +kernel
theorem k128_64 {L : Nat} {xs : Nat → Int32} : decode (am_cd (am_me (tb_P L xs) 128)) 64 = .ok (.iload 6, 2) := show decode (am_cd (tb_me 128)) 64 = .ok (.iload 6, 2) from by decide +kernel
theorem k128_66 {L : Nat} {xs : Nat → Int32} : decode (am_cd (am_me (tb_P L xs) 128)) 66 = .ok (.iconst 1, 1) := show decode (am_cd (tb_me 128)) 66 = .ok (.iconst 1, 1) from by decide +kernel
theorem k128_67 {L : Nat} {xs : Nat → Int32} : decode (am_cd (am_me (tb_P L xs) 128)) 67 = .ok (.if_icmp .le 17, 3) := show decode (am_cd (tb_me 128)) 67 = .ok (.if_icmp .le 17, 3) from by decide +kernel
theorem k128_70 {L : Nat} {xs : Nat → Int32} : decode (am_cd (am_me (tb_P L xs) 128)) 70 = .ok (.aload_n 0, 1) := show decode (am_cd (tb_me 128)) 70 = .ok (.aload_n 0, 1) from by decide +kernel
theorem k128_71 {L : Nat} {xs : Nat → Int32} : decode (am_cd (am_me (tb_P L xs) 128)) 71 = .ok (.getfield 75, 3) := show decode (am_cd (tb_me 128)) 71 = .ok (.getfield 75, 3) from by decide +kernel
theorem f128_71 {L : Nat} {xs : Nat → Int32} : am_fd (tb_P L xs) 128 75 = some (8, 30, (.array .int : FieldType), true) := show tb_fdF 128 75 = some (8, 30, (.array .int : FieldType), true) from by decide +kernel
theorem k128_74 {L : Nat} {xs : Nat → Int32} : decode (am_cd (am_me (tb_P L xs) 128)) 74 = .ok (.aload_n 0, 1) := show decode (am_cd (tb_me 128)) 74 = .ok (.aload_n 0, 1) from by decide +kernel
theorem k128_75 {L : Nat} {xs : Nat → Int32} : decode (am_cd (am_me (tb_P L xs) 128)) 75 = .ok (.getfield 88, 3) := show decode (am_cd (tb_me 128)) 75 = .ok (.getfield 88, 3) from by decide +kernel
theorem f128_75 {L : Nat} {xs : Nat → Int32} : am_fd (tb_P L xs) 128 88 = some (8, 29, (.int : FieldType), true) := show tb_fdF 128 88 = some (8, 29, (.int : FieldType), true) from by decide +kernel
theorem k128_78 {L : Nat} {xs : Nat → Int32} : decode (am_cd (am_me (tb_P L xs) 128)) 78 = .ok (.iconst 2, 1) := show decode (am_cd (tb_me 128)) 78 = .ok (.iconst 2, 1) from by decide +kernel
theorem k128_79 {L : Nat} {xs : Nat → Int32} : decode (am_cd (am_me (tb_P L xs) 128)) 79 = .ok (.isub, 1) := show decode (am_cd (tb_me 128)) 79 = .ok (.isub, 1) from by decide +kernel
theorem k128_80 {L : Nat} {xs : Nat → Int32} : decode (am_cd (am_me (tb_P L xs) 128)) 80 = .ok (.iaload, 1) := show decode (am_cd (tb_me 128)) 80 = .ok (.iaload, 1) from by decide +kernel
theorem k128_81 {L : Nat} {xs : Nat → Int32} : decode (am_cd (am_me (tb_P L xs) 128)) 81 = .ok (.goto 4, 3) := show decode (am_cd (tb_me 128)) 81 = .ok (.goto 4, 3) from by decide +kernel
theorem k128_84 {L : Nat} {xs : Nat → Int32} : decode (am_cd (am_me (tb_P L xs) 128)) 84 = .ok (.iconst 0, 1) := show decode (am_cd (tb_me 128)) 84 = .ok (.iconst 0, 1) from by decide +kernel
theorem k128_85 {L : Nat} {xs : Nat → Int32} : decode (am_cd (am_me (tb_P L xs) 128)) 85 = .ok (.istore 8, 2) := show decode (am_cd (tb_me 128)) 85 = .ok (.istore 8, 2) from by decide +kernel
theorem k128_87 {L : Nat} {xs : Nat → Int32} : decode (am_cd (am_me (tb_P L xs) 128)) 87 = .ok (.iload 6, 2) := show decode (am_cd (tb_me 128)) 87 = .ok (.iload 6, 2) from by decide +kernel
theorem k128_89 {L : Nat} {xs : Nat → Int32} : decode (am_cd (am_me (tb_P L xs) 128)) 89 = .ok (.iconst 2, 1) := show decode (am_cd (tb_me 128)) 89 = .ok (.iconst 2, 1) from by decide +kernel
theorem k128_90 {L : Nat} {xs : Nat → Int32} : decode (am_cd (am_me (tb_P L xs) 128)) 90 = .ok (.if_icmp .le 17, 3) := show decode (am_cd (tb_me 128)) 90 = .ok (.if_icmp .le 17, 3) from by decide +kernel
theorem k128_93 {L : Nat} {xs : Nat → Int32} : decode (am_cd (am_me (tb_P L xs) 128)) 93 = .ok (.aload_n 0, 1) := show decode (am_cd (tb_me 128)) 93 = .ok (.aload_n 0, 1) from by decide +kernel
theorem k128_94 {L : Nat} {xs : Nat → Int32} : decode (am_cd (am_me (tb_P L xs) 128)) 94 = .ok (.getfield 75, 3) := show decode (am_cd (tb_me 128)) 94 = .ok (.getfield 75, 3) from by decide +kernel
theorem f128_94 {L : Nat} {xs : Nat → Int32} : am_fd (tb_P L xs) 128 75 = some (8, 30, (.array .int : FieldType), true) := show tb_fdF 128 75 = some (8, 30, (.array .int : FieldType), true) from by decide +kernel
theorem k128_97 {L : Nat} {xs : Nat → Int32} : decode (am_cd (am_me (tb_P L xs) 128)) 97 = .ok (.aload_n 0, 1) := show decode (am_cd (tb_me 128)) 97 = .ok (.aload_n 0, 1) from by decide +kernel
theorem k128_98 {L : Nat} {xs : Nat → Int32} : decode (am_cd (am_me (tb_P L xs) 128)) 98 = .ok (.getfield 88, 3) := show decode (am_cd (tb_me 128)) 98 = .ok (.getfield 88, 3) from by decide +kernel
theorem f128_98 {L : Nat} {xs : Nat → Int32} : am_fd (tb_P L xs) 128 88 = some (8, 29, (.int : FieldType), true) := show tb_fdF 128 88 = some (8, 29, (.int : FieldType), true) from by decide +kernel
theorem k128_101 {L : Nat} {xs : Nat → Int32} : decode (am_cd (am_me (tb_P L xs) 128)) 101 = .ok (.iconst 3, 1) := show decode (am_cd (tb_me 128)) 101 = .ok (.iconst 3, 1) from by decide +kernel
theorem k128_102 {L : Nat} {xs : Nat → Int32} : decode (am_cd (am_me (tb_P L xs) 128)) 102 = .ok (.isub, 1) := show decode (am_cd (tb_me 128)) 102 = .ok (.isub, 1) from by decide +kernel
theorem k128_103 {L : Nat} {xs : Nat → Int32} : decode (am_cd (am_me (tb_P L xs) 128)) 103 = .ok (.iaload, 1) := show decode (am_cd (tb_me 128)) 103 = .ok (.iaload, 1) from by decide +kernel
theorem k128_104 {L : Nat} {xs : Nat → Int32} : decode (am_cd (am_me (tb_P L xs) 128)) 104 = .ok (.goto 4, 3) := show decode (am_cd (tb_me 128)) 104 = .ok (.goto 4, 3) from by decide +kernel
theorem k128_107 {L : Nat} {xs : Nat → Int32} : decode (am_cd (am_me (tb_P L xs) 128)) 107 = .ok (.iconst 0, 1) := show decode (am_cd (tb_me 128)) 107 = .ok (.iconst 0, 1) from by decide +kernel
theorem k128_108 {L : Nat} {xs : Nat → Int32} : decode (am_cd (am_me (tb_P L xs) 128)) 108 = .ok (.istore 9, 2) := show decode (am_cd (tb_me 128)) 108 = .ok (.istore 9, 2) from by decide +kernel
theorem k128_110 {L : Nat} {xs : Nat → Int32} : decode (am_cd (am_me (tb_P L xs) 128)) 110 = .ok (.aload_n 0, 1) := show decode (am_cd (tb_me 128)) 110 = .ok (.aload_n 0, 1) from by decide +kernel
theorem k128_111 {L : Nat} {xs : Nat → Int32} : decode (am_cd (am_me (tb_P L xs) 128)) 111 = .ok (.dup, 1) := show decode (am_cd (tb_me 128)) 111 = .ok (.dup, 1) from by decide +kernel
theorem k128_112 {L : Nat} {xs : Nat → Int32} : decode (am_cd (am_me (tb_P L xs) 128)) 112 = .ok (.getfield 88, 3) := show decode (am_cd (tb_me 128)) 112 = .ok (.getfield 88, 3) from by decide +kernel
theorem f128_112 {L : Nat} {xs : Nat → Int32} : am_fd (tb_P L xs) 128 88 = some (8, 29, (.int : FieldType), true) := show tb_fdF 128 88 = some (8, 29, (.int : FieldType), true) from by decide +kernel
theorem k128_115 {L : Nat} {xs : Nat → Int32} : decode (am_cd (am_me (tb_P L xs) 128)) 115 = .ok (.iload 6, 2) := show decode (am_cd (tb_me 128)) 115 = .ok (.iload 6, 2) from by decide +kernel
theorem k128_117 {L : Nat} {xs : Nat → Int32} : decode (am_cd (am_me (tb_P L xs) 128)) 117 = .ok (.isub, 1) := show decode (am_cd (tb_me 128)) 117 = .ok (.isub, 1) from by decide +kernel
theorem k128_118 {L : Nat} {xs : Nat → Int32} : decode (am_cd (am_me (tb_P L xs) 128)) 118 = .ok (.putfield 88, 3) := show decode (am_cd (tb_me 128)) 118 = .ok (.putfield 88, 3) from by decide +kernel
theorem f128_118 {L : Nat} {xs : Nat → Int32} : am_fd (tb_P L xs) 128 88 = some (8, 29, (.int : FieldType), true) := show tb_fdF 128 88 = some (8, 29, (.int : FieldType), true) from by decide +kernel
theorem k128_121 {L : Nat} {xs : Nat → Int32} : decode (am_cd (am_me (tb_P L xs) 128)) 121 = .ok (.iload 5, 2) := show decode (am_cd (tb_me 128)) 121 = .ok (.iload 5, 2) from by decide +kernel
theorem k128_123 {L : Nat} {xs : Nat → Int32} : decode (am_cd (am_me (tb_P L xs) 128)) 123 = .ok (.bipush 10, 2) := show decode (am_cd (tb_me 128)) 123 = .ok (.bipush 10, 2) from by decide +kernel
theorem k128_125 {L : Nat} {xs : Nat → Int32} : decode (am_cd (am_me (tb_P L xs) 128)) 125 = .ok (.if_icmp .ge 8, 3) := show decode (am_cd (tb_me 128)) 125 = .ok (.if_icmp .ge 8, 3) from by decide +kernel
theorem k128_128 {L : Nat} {xs : Nat → Int32} : decode (am_cd (am_me (tb_P L xs) 128)) 128 = .ok (.iload 5, 2) := show decode (am_cd (tb_me 128)) 128 = .ok (.iload 5, 2) from by decide +kernel
theorem k128_130 {L : Nat} {xs : Nat → Int32} : decode (am_cd (am_me (tb_P L xs) 128)) 130 = .ok (.goto 98, 3) := show decode (am_cd (tb_me 128)) 130 = .ok (.goto 98, 3) from by decide +kernel
theorem k128_133 {L : Nat} {xs : Nat → Int32} : decode (am_cd (am_me (tb_P L xs) 128)) 133 = .ok (.iload 5, 2) := show decode (am_cd (tb_me 128)) 133 = .ok (.iload 5, 2) from by decide +kernel
theorem k128_135 {L : Nat} {xs : Nat → Int32} : decode (am_cd (am_me (tb_P L xs) 128)) 135 = .ok (.bipush 26, 2) := show decode (am_cd (tb_me 128)) 135 = .ok (.bipush 26, 2) from by decide +kernel
theorem k128_137 {L : Nat} {xs : Nat → Int32} : decode (am_cd (am_me (tb_P L xs) 128)) 137 = .ok (.if_icmp .ge 33, 3) := show decode (am_cd (tb_me 128)) 137 = .ok (.if_icmp .ge 33, 3) from by decide +kernel
theorem k128_140 {L : Nat} {xs : Nat → Int32} : decode (am_cd (am_me (tb_P L xs) 128)) 140 = .ok (.iload_n 2, 1) := show decode (am_cd (tb_me 128)) 140 = .ok (.iload_n 2, 1) from by decide +kernel
theorem k128_141 {L : Nat} {xs : Nat → Int32} : decode (am_cd (am_me (tb_P L xs) 128)) 141 = .ok (.ifCond .eq 16, 3) := show decode (am_cd (tb_me 128)) 141 = .ok (.ifCond .eq 16, 3) from by decide +kernel
theorem k128_144 {L : Nat} {xs : Nat → Int32} : decode (am_cd (am_me (tb_P L xs) 128)) 144 = .ok (.aload_n 0, 1) := show decode (am_cd (tb_me 128)) 144 = .ok (.aload_n 0, 1) from by decide +kernel
theorem k128_145 {L : Nat} {xs : Nat → Int32} : decode (am_cd (am_me (tb_P L xs) 128)) 145 = .ok (.getfield 66, 3) := show decode (am_cd (tb_me 128)) 145 = .ok (.getfield 66, 3) from by decide +kernel
theorem f128_145 {L : Nat} {xs : Nat → Int32} : am_fd (tb_P L xs) 128 66 = some (8, 22, (.array .int : FieldType), true) := show tb_fdF 128 66 = some (8, 22, (.array .int : FieldType), true) from by decide +kernel
theorem k128_148 {L : Nat} {xs : Nat → Int32} : decode (am_cd (am_me (tb_P L xs) 128)) 148 = .ok (.iload 5, 2) := show decode (am_cd (tb_me 128)) 148 = .ok (.iload 5, 2) from by decide +kernel
theorem k128_150 {L : Nat} {xs : Nat → Int32} : decode (am_cd (am_me (tb_P L xs) 128)) 150 = .ok (.bipush 20, 2) := show decode (am_cd (tb_me 128)) 150 = .ok (.bipush 20, 2) from by decide +kernel
theorem k128_152 {L : Nat} {xs : Nat → Int32} : decode (am_cd (am_me (tb_P L xs) 128)) 152 = .ok (.isub, 1) := show decode (am_cd (tb_me 128)) 152 = .ok (.isub, 1) from by decide +kernel
theorem k128_153 {L : Nat} {xs : Nat → Int32} : decode (am_cd (am_me (tb_P L xs) 128)) 153 = .ok (.iaload, 1) := show decode (am_cd (tb_me 128)) 153 = .ok (.iaload, 1) from by decide +kernel
theorem k128_154 {L : Nat} {xs : Nat → Int32} : decode (am_cd (am_me (tb_P L xs) 128)) 154 = .ok (.goto 74, 3) := show decode (am_cd (tb_me 128)) 154 = .ok (.goto 74, 3) from by decide +kernel
theorem k128_157 {L : Nat} {xs : Nat → Int32} : decode (am_cd (am_me (tb_P L xs) 128)) 157 = .ok (.aload_n 0, 1) := show decode (am_cd (tb_me 128)) 157 = .ok (.aload_n 0, 1) from by decide +kernel
theorem k128_158 {L : Nat} {xs : Nat → Int32} : decode (am_cd (am_me (tb_P L xs) 128)) 158 = .ok (.getfield 63, 3) := show decode (am_cd (tb_me 128)) 158 = .ok (.getfield 63, 3) from by decide +kernel
theorem f128_158 {L : Nat} {xs : Nat → Int32} : am_fd (tb_P L xs) 128 63 = some (8, 21, (.array .int : FieldType), true) := show tb_fdF 128 63 = some (8, 21, (.array .int : FieldType), true) from by decide +kernel
theorem k128_161 {L : Nat} {xs : Nat → Int32} : decode (am_cd (am_me (tb_P L xs) 128)) 161 = .ok (.iload 5, 2) := show decode (am_cd (tb_me 128)) 161 = .ok (.iload 5, 2) from by decide +kernel
theorem k128_163 {L : Nat} {xs : Nat → Int32} : decode (am_cd (am_me (tb_P L xs) 128)) 163 = .ok (.bipush 20, 2) := show decode (am_cd (tb_me 128)) 163 = .ok (.bipush 20, 2) from by decide +kernel
theorem k128_165 {L : Nat} {xs : Nat → Int32} : decode (am_cd (am_me (tb_P L xs) 128)) 165 = .ok (.isub, 1) := show decode (am_cd (tb_me 128)) 165 = .ok (.isub, 1) from by decide +kernel
theorem k128_166 {L : Nat} {xs : Nat → Int32} : decode (am_cd (am_me (tb_P L xs) 128)) 166 = .ok (.iaload, 1) := show decode (am_cd (tb_me 128)) 166 = .ok (.iaload, 1) from by decide +kernel
theorem k128_167 {L : Nat} {xs : Nat → Int32} : decode (am_cd (am_me (tb_P L xs) 128)) 167 = .ok (.goto 61, 3) := show decode (am_cd (tb_me 128)) 167 = .ok (.goto 61, 3) from by decide +kernel
theorem k128_170 {L : Nat} {xs : Nat → Int32} : decode (am_cd (am_me (tb_P L xs) 128)) 170 = .ok (.iload 5, 2) := show decode (am_cd (tb_me 128)) 170 = .ok (.iload 5, 2) from by decide +kernel
theorem k128_172 {L : Nat} {xs : Nat → Int32} : decode (am_cd (am_me (tb_P L xs) 128)) 172 = .ok (.bipush 40, 2) := show decode (am_cd (tb_me 128)) 172 = .ok (.bipush 40, 2) from by decide +kernel
theorem k128_174 {L : Nat} {xs : Nat → Int32} : decode (am_cd (am_me (tb_P L xs) 128)) 174 = .ok (.if_icmp .ne 7, 3) := show decode (am_cd (tb_me 128)) 174 = .ok (.if_icmp .ne 7, 3) from by decide +kernel
theorem k128_177 {L : Nat} {xs : Nat → Int32} : decode (am_cd (am_me (tb_P L xs) 128)) 177 = .ok (.iload_n 3, 1) := show decode (am_cd (tb_me 128)) 177 = .ok (.iload_n 3, 1) from by decide +kernel
theorem k128_178 {L : Nat} {xs : Nat → Int32} : decode (am_cd (am_me (tb_P L xs) 128)) 178 = .ok (.goto 50, 3) := show decode (am_cd (tb_me 128)) 178 = .ok (.goto 50, 3) from by decide +kernel
theorem k128_181 {L : Nat} {xs : Nat → Int32} : decode (am_cd (am_me (tb_P L xs) 128)) 181 = .ok (.iload 5, 2) := show decode (am_cd (tb_me 128)) 181 = .ok (.iload 5, 2) from by decide +kernel
theorem k128_183 {L : Nat} {xs : Nat → Int32} : decode (am_cd (am_me (tb_P L xs) 128)) 183 = .ok (.bipush 57, 2) := show decode (am_cd (tb_me 128)) 183 = .ok (.bipush 57, 2) from by decide +kernel
theorem k128_185 {L : Nat} {xs : Nat → Int32} : decode (am_cd (am_me (tb_P L xs) 128)) 185 = .ok (.if_icmp .ne 10, 3) := show decode (am_cd (tb_me 128)) 185 = .ok (.if_icmp .ne 10, 3) from by decide +kernel
theorem k128_188 {L : Nat} {xs : Nat → Int32} : decode (am_cd (am_me (tb_P L xs) 128)) 188 = .ok (.iconst 1, 1) := show decode (am_cd (tb_me 128)) 188 = .ok (.iconst 1, 1) from by decide +kernel
theorem k128_189 {L : Nat} {xs : Nat → Int32} : decode (am_cd (am_me (tb_P L xs) 128)) 189 = .ok (.iload 7, 2) := show decode (am_cd (tb_me 128)) 189 = .ok (.iload 7, 2) from by decide +kernel
theorem k128_191 {L : Nat} {xs : Nat → Int32} : decode (am_cd (am_me (tb_P L xs) 128)) 191 = .ok (.isub, 1) := show decode (am_cd (tb_me 128)) 191 = .ok (.isub, 1) from by decide +kernel
theorem k128_192 {L : Nat} {xs : Nat → Int32} : decode (am_cd (am_me (tb_P L xs) 128)) 192 = .ok (.goto 36, 3) := show decode (am_cd (tb_me 128)) 192 = .ok (.goto 36, 3) from by decide +kernel
theorem k128_195 {L : Nat} {xs : Nat → Int32} : decode (am_cd (am_me (tb_P L xs) 128)) 195 = .ok (.iload 5, 2) := show decode (am_cd (tb_me 128)) 195 = .ok (.iload 5, 2) from by decide +kernel
theorem k128_197 {L : Nat} {xs : Nat → Int32} : decode (am_cd (am_me (tb_P L xs) 128)) 197 = .ok (.bipush 58, 2) := show decode (am_cd (tb_me 128)) 197 = .ok (.bipush 58, 2) from by decide +kernel
theorem k128_199 {L : Nat} {xs : Nat → Int32} : decode (am_cd (am_me (tb_P L xs) 128)) 199 = .ok (.if_icmp .ne 19, 3) := show decode (am_cd (tb_me 128)) 199 = .ok (.if_icmp .ne 19, 3) from by decide +kernel
theorem k128_202 {L : Nat} {xs : Nat → Int32} : decode (am_cd (am_me (tb_P L xs) 128)) 202 = .ok (.iload 7, 2) := show decode (am_cd (tb_me 128)) 202 = .ok (.iload 7, 2) from by decide +kernel
theorem k128_204 {L : Nat} {xs : Nat → Int32} : decode (am_cd (am_me (tb_P L xs) 128)) 204 = .ok (.iconst 1, 1) := show decode (am_cd (tb_me 128)) 204 = .ok (.iconst 1, 1) from by decide +kernel
theorem k128_205 {L : Nat} {xs : Nat → Int32} : decode (am_cd (am_me (tb_P L xs) 128)) 205 = .ok (.if_icmp .ne 8, 3) := show decode (am_cd (tb_me 128)) 205 = .ok (.if_icmp .ne 8, 3) from by decide +kernel
theorem k128_208 {L : Nat} {xs : Nat → Int32} : decode (am_cd (am_me (tb_P L xs) 128)) 208 = .ok (.iload 8, 2) := show decode (am_cd (tb_me 128)) 208 = .ok (.iload 8, 2) from by decide +kernel
theorem k128_210 {L : Nat} {xs : Nat → Int32} : decode (am_cd (am_me (tb_P L xs) 128)) 210 = .ok (.goto 18, 3) := show decode (am_cd (tb_me 128)) 210 = .ok (.goto 18, 3) from by decide +kernel
theorem k128_213 {L : Nat} {xs : Nat → Int32} : decode (am_cd (am_me (tb_P L xs) 128)) 213 = .ok (.iload 9, 2) := show decode (am_cd (tb_me 128)) 213 = .ok (.iload 9, 2) from by decide +kernel
theorem k128_215 {L : Nat} {xs : Nat → Int32} : decode (am_cd (am_me (tb_P L xs) 128)) 215 = .ok (.goto 13, 3) := show decode (am_cd (tb_me 128)) 215 = .ok (.goto 13, 3) from by decide +kernel
theorem k128_218 {L : Nat} {xs : Nat → Int32} : decode (am_cd (am_me (tb_P L xs) 128)) 218 = .ok (.aload_n 0, 1) := show decode (am_cd (tb_me 128)) 218 = .ok (.aload_n 0, 1) from by decide +kernel
theorem k128_219 {L : Nat} {xs : Nat → Int32} : decode (am_cd (am_me (tb_P L xs) 128)) 219 = .ok (.iload 5, 2) := show decode (am_cd (tb_me 128)) 219 = .ok (.iload 5, 2) from by decide +kernel
theorem k128_221 {L : Nat} {xs : Nat → Int32} : decode (am_cd (am_me (tb_P L xs) 128)) 221 = .ok (.iload 7, 2) := show decode (am_cd (tb_me 128)) 221 = .ok (.iload 7, 2) from by decide +kernel
theorem k128_223 {L : Nat} {xs : Nat → Int32} : decode (am_cd (am_me (tb_P L xs) 128)) 223 = .ok (.iload 8, 2) := show decode (am_cd (tb_me 128)) 223 = .ok (.iload 8, 2) from by decide +kernel
theorem k128_225 {L : Nat} {xs : Nat → Int32} : decode (am_cd (am_me (tb_P L xs) 128)) 225 = .ok (.invokevirtual 112, 3) := show decode (am_cd (tb_me 128)) 225 = .ok (.invokevirtual 112, 3) from by decide +kernel
theorem s128_225 {L : Nat} {xs : Nat → Int32} : am_sp (tb_P L xs) 128 112 = none := show tb_spF 128 112 = none from by decide +kernel
theorem c128_225 {L : Nat} {xs : Nat → Int32} : am_ca (tb_P L xs) 128 112 = some (129, 3, 1) := show tb_caF 128 112 = some (129, 3, 1) from by decide +kernel
theorem r128_225 {L : Nat} {xs : Nat → Int32} : am_rf (am_me (tb_P L xs) 129) + 1 ≤ am_rf (am_me (tb_P L xs) 128) ∧ 0 + (am_ml (am_me (tb_P L xs) 129) + 11) + am_rl (am_me (tb_P L xs) 129) ≤ am_rl (am_me (tb_P L xs) 128) := show am_rf (tb_me 129) + 1 ≤ am_rf (tb_me 128) ∧ 0 + (am_ml (tb_me 129) + 11) + am_rl (tb_me 129) ≤ am_rl (tb_me 128) from by decide +kernel
theorem k128_228 {L : Nat} {xs : Nat → Int32} : decode (am_cd (am_me (tb_P L xs) 128)) 228 = .ok (.istore 10, 2) := show decode (am_cd (tb_me 128)) 228 = .ok (.istore 10, 2) from by decide +kernel
theorem k128_230 {L : Nat} {xs : Nat → Int32} : decode (am_cd (am_me (tb_P L xs) 128)) 230 = .ok (.aload_n 0, 1) := show decode (am_cd (tb_me 128)) 230 = .ok (.aload_n 0, 1) from by decide +kernel
theorem k128_231 {L : Nat} {xs : Nat → Int32} : decode (am_cd (am_me (tb_P L xs) 128)) 231 = .ok (.getfield 75, 3) := show decode (am_cd (tb_me 128)) 231 = .ok (.getfield 75, 3) from by decide +kernel
theorem f128_231 {L : Nat} {xs : Nat → Int32} : am_fd (tb_P L xs) 128 75 = some (8, 30, (.array .int : FieldType), true) := show tb_fdF 128 75 = some (8, 30, (.array .int : FieldType), true) from by decide +kernel
theorem k128_234 {L : Nat} {xs : Nat → Int32} : decode (am_cd (am_me (tb_P L xs) 128)) 234 = .ok (.aload_n 0, 1) := show decode (am_cd (tb_me 128)) 234 = .ok (.aload_n 0, 1) from by decide +kernel
theorem k128_235 {L : Nat} {xs : Nat → Int32} : decode (am_cd (am_me (tb_P L xs) 128)) 235 = .ok (.getfield 88, 3) := show decode (am_cd (tb_me 128)) 235 = .ok (.getfield 88, 3) from by decide +kernel
theorem f128_235 {L : Nat} {xs : Nat → Int32} : am_fd (tb_P L xs) 128 88 = some (8, 29, (.int : FieldType), true) := show tb_fdF 128 88 = some (8, 29, (.int : FieldType), true) from by decide +kernel
theorem k128_238 {L : Nat} {xs : Nat → Int32} : decode (am_cd (am_me (tb_P L xs) 128)) 238 = .ok (.iload 10, 2) := show decode (am_cd (tb_me 128)) 238 = .ok (.iload 10, 2) from by decide +kernel
theorem k128_240 {L : Nat} {xs : Nat → Int32} : decode (am_cd (am_me (tb_P L xs) 128)) 240 = .ok (.iastore, 1) := show decode (am_cd (tb_me 128)) 240 = .ok (.iastore, 1) from by decide +kernel
theorem k128_241 {L : Nat} {xs : Nat → Int32} : decode (am_cd (am_me (tb_P L xs) 128)) 241 = .ok (.aload_n 0, 1) := show decode (am_cd (tb_me 128)) 241 = .ok (.aload_n 0, 1) from by decide +kernel
theorem k128_242 {L : Nat} {xs : Nat → Int32} : decode (am_cd (am_me (tb_P L xs) 128)) 242 = .ok (.dup, 1) := show decode (am_cd (tb_me 128)) 242 = .ok (.dup, 1) from by decide +kernel
theorem k128_243 {L : Nat} {xs : Nat → Int32} : decode (am_cd (am_me (tb_P L xs) 128)) 243 = .ok (.getfield 88, 3) := show decode (am_cd (tb_me 128)) 243 = .ok (.getfield 88, 3) from by decide +kernel
theorem f128_243 {L : Nat} {xs : Nat → Int32} : am_fd (tb_P L xs) 128 88 = some (8, 29, (.int : FieldType), true) := show tb_fdF 128 88 = some (8, 29, (.int : FieldType), true) from by decide +kernel
theorem k128_246 {L : Nat} {xs : Nat → Int32} : decode (am_cd (am_me (tb_P L xs) 128)) 246 = .ok (.iconst 1, 1) := show decode (am_cd (tb_me 128)) 246 = .ok (.iconst 1, 1) from by decide +kernel
theorem k128_247 {L : Nat} {xs : Nat → Int32} : decode (am_cd (am_me (tb_P L xs) 128)) 247 = .ok (.iadd, 1) := show decode (am_cd (tb_me 128)) 247 = .ok (.iadd, 1) from by decide +kernel
theorem k128_248 {L : Nat} {xs : Nat → Int32} : decode (am_cd (am_me (tb_P L xs) 128)) 248 = .ok (.putfield 88, 3) := show decode (am_cd (tb_me 128)) 248 = .ok (.putfield 88, 3) from by decide +kernel
theorem f128_248 {L : Nat} {xs : Nat → Int32} : am_fd (tb_P L xs) 128 88 = some (8, 29, (.int : FieldType), true) := show tb_fdF 128 88 = some (8, 29, (.int : FieldType), true) from by decide +kernel
theorem k128_251 {L : Nat} {xs : Nat → Int32} : decode (am_cd (am_me (tb_P L xs) 128)) 251 = .ok (.iinc 4 (-1), 3) := show decode (am_cd (tb_me 128)) 251 = .ok (.iinc 4 (-1), 3) from by decide +kernel
theorem k128_254 {L : Nat} {xs : Nat → Int32} : decode (am_cd (am_me (tb_P L xs) 128)) 254 = .ok (.goto (-239), 3) := show decode (am_cd (tb_me 128)) 254 = .ok (.goto (-239), 3) from by decide +kernel
theorem k128_257 {L : Nat} {xs : Nat → Int32} : decode (am_cd (am_me (tb_P L xs) 128)) 257 = .ok (.aload_n 0, 1) := show decode (am_cd (tb_me 128)) 257 = .ok (.aload_n 0, 1) from by decide +kernel
theorem k128_258 {L : Nat} {xs : Nat → Int32} : decode (am_cd (am_me (tb_P L xs) 128)) 258 = .ok (.getfield 75, 3) := show decode (am_cd (tb_me 128)) 258 = .ok (.getfield 75, 3) from by decide +kernel
theorem f128_258 {L : Nat} {xs : Nat → Int32} : am_fd (tb_P L xs) 128 75 = some (8, 30, (.array .int : FieldType), true) := show tb_fdF 128 75 = some (8, 30, (.array .int : FieldType), true) from by decide +kernel
theorem k128_261 {L : Nat} {xs : Nat → Int32} : decode (am_cd (am_me (tb_P L xs) 128)) 261 = .ok (.iconst 0, 1) := show decode (am_cd (tb_me 128)) 261 = .ok (.iconst 0, 1) from by decide +kernel
theorem k128_262 {L : Nat} {xs : Nat → Int32} : decode (am_cd (am_me (tb_P L xs) 128)) 262 = .ok (.iaload, 1) := show decode (am_cd (tb_me 128)) 262 = .ok (.iaload, 1) from by decide +kernel
theorem k128_263 {L : Nat} {xs : Nat → Int32} : decode (am_cd (am_me (tb_P L xs) 128)) 263 = .ok (.ireturn, 1) := show decode (am_cd (tb_me 128)) 263 = .ok (.ireturn, 1) from by decide +kernel
theorem t128 {L : Nat} {xs : Nat → Int32} : am_rt (am_me (tb_P L xs) 128) = some (.int : FieldType) := show am_rt (tb_me 128) = some (.int : FieldType) from by decide +kernel
theorem l128 {L : Nat} {xs : Nat → Int32} : am_ml (am_me (tb_P L xs) 128) = 11 := show am_ml (tb_me 128) = 11 from by decide +kernel
theorem o128 {L : Nat} {xs : Nat → Int32} (pc : Nat) : am_no (tb_P L xs) 128 pc = true := show (am_hd (tb_me 128)).all (fun q => !(decide (q.1 ≤ pc) && decide (pc < q.2.1))) = true from by rw [show am_hd (tb_me 128) = [] by decide +kernel]; rfl
theorem k129_0 {L : Nat} {xs : Nat → Int32} : decode (am_cd (am_me (tb_P L xs) 129)) 0 = .ok (.iload_n 1, 1) := show decode (am_cd (tb_me 129)) 0 = .ok (.iload_n 1, 1) from by decide +kernel
theorem k129_1 {L : Nat} {xs : Nat → Int32} : decode (am_cd (am_me (tb_P L xs) 129)) 1 = .ok (.tableswitch 101 50 55 #[39, 47, 55, 63, 74, 85], 39) := show decode (am_cd (tb_me 129)) 1 = .ok (.tableswitch 101 50 55 #[39, 47, 55, 63, 74, 85], 39) from by decide +kernel
theorem k129_40 {L : Nat} {xs : Nat → Int32} : decode (am_cd (am_me (tb_P L xs) 129)) 40 = .ok (.aload_n 0, 1) := show decode (am_cd (tb_me 129)) 40 = .ok (.aload_n 0, 1) from by decide +kernel
theorem k129_41 {L : Nat} {xs : Nat → Int32} : decode (am_cd (am_me (tb_P L xs) 129)) 41 = .ok (.iload_n 2, 1) := show decode (am_cd (tb_me 129)) 41 = .ok (.iload_n 2, 1) from by decide +kernel
theorem k129_42 {L : Nat} {xs : Nat → Int32} : decode (am_cd (am_me (tb_P L xs) 129)) 42 = .ok (.iload_n 3, 1) := show decode (am_cd (tb_me 129)) 42 = .ok (.iload_n 3, 1) from by decide +kernel
theorem k129_43 {L : Nat} {xs : Nat → Int32} : decode (am_cd (am_me (tb_P L xs) 129)) 43 = .ok (.iadd, 1) := show decode (am_cd (tb_me 129)) 43 = .ok (.iadd, 1) from by decide +kernel
theorem k129_44 {L : Nat} {xs : Nat → Int32} : decode (am_cd (am_me (tb_P L xs) 129)) 44 = .ok (.invokevirtual 109, 3) := show decode (am_cd (tb_me 129)) 44 = .ok (.invokevirtual 109, 3) from by decide +kernel
theorem s129_44 {L : Nat} {xs : Nat → Int32} : am_sp (tb_P L xs) 129 109 = none := show tb_spF 129 109 = none from by decide +kernel
theorem c129_44 {L : Nat} {xs : Nat → Int32} : am_ca (tb_P L xs) 129 109 = some (130, 1, 1) := show tb_caF 129 109 = some (130, 1, 1) from by decide +kernel
theorem r129_44 {L : Nat} {xs : Nat → Int32} : am_rf (am_me (tb_P L xs) 130) + 1 ≤ am_rf (am_me (tb_P L xs) 129) ∧ 0 + (am_ml (am_me (tb_P L xs) 130) + 11) + am_rl (am_me (tb_P L xs) 130) ≤ am_rl (am_me (tb_P L xs) 129) := show am_rf (tb_me 130) + 1 ≤ am_rf (tb_me 129) ∧ 0 + (am_ml (tb_me 130) + 11) + am_rl (tb_me 130) ≤ am_rl (tb_me 129) from by decide +kernel
theorem k129_47 {L : Nat} {xs : Nat → Int32} : decode (am_cd (am_me (tb_P L xs) 129)) 47 = .ok (.ireturn, 1) := show decode (am_cd (tb_me 129)) 47 = .ok (.ireturn, 1) from by decide +kernel
theorem k129_48 {L : Nat} {xs : Nat → Int32} : decode (am_cd (am_me (tb_P L xs) 129)) 48 = .ok (.aload_n 0, 1) := show decode (am_cd (tb_me 129)) 48 = .ok (.aload_n 0, 1) from by decide +kernel
theorem k129_49 {L : Nat} {xs : Nat → Int32} : decode (am_cd (am_me (tb_P L xs) 129)) 49 = .ok (.iload_n 2, 1) := show decode (am_cd (tb_me 129)) 49 = .ok (.iload_n 2, 1) from by decide +kernel
theorem k129_50 {L : Nat} {xs : Nat → Int32} : decode (am_cd (am_me (tb_P L xs) 129)) 50 = .ok (.iload_n 3, 1) := show decode (am_cd (tb_me 129)) 50 = .ok (.iload_n 3, 1) from by decide +kernel
theorem k129_51 {L : Nat} {xs : Nat → Int32} : decode (am_cd (am_me (tb_P L xs) 129)) 51 = .ok (.isub, 1) := show decode (am_cd (tb_me 129)) 51 = .ok (.isub, 1) from by decide +kernel
theorem k129_52 {L : Nat} {xs : Nat → Int32} : decode (am_cd (am_me (tb_P L xs) 129)) 52 = .ok (.invokevirtual 109, 3) := show decode (am_cd (tb_me 129)) 52 = .ok (.invokevirtual 109, 3) from by decide +kernel
theorem s129_52 {L : Nat} {xs : Nat → Int32} : am_sp (tb_P L xs) 129 109 = none := show tb_spF 129 109 = none from by decide +kernel
theorem c129_52 {L : Nat} {xs : Nat → Int32} : am_ca (tb_P L xs) 129 109 = some (130, 1, 1) := show tb_caF 129 109 = some (130, 1, 1) from by decide +kernel
theorem r129_52 {L : Nat} {xs : Nat → Int32} : am_rf (am_me (tb_P L xs) 130) + 1 ≤ am_rf (am_me (tb_P L xs) 129) ∧ 0 + (am_ml (am_me (tb_P L xs) 130) + 11) + am_rl (am_me (tb_P L xs) 130) ≤ am_rl (am_me (tb_P L xs) 129) := show am_rf (tb_me 130) + 1 ≤ am_rf (tb_me 129) ∧ 0 + (am_ml (tb_me 130) + 11) + am_rl (tb_me 130) ≤ am_rl (tb_me 129) from by decide +kernel
theorem k129_55 {L : Nat} {xs : Nat → Int32} : decode (am_cd (am_me (tb_P L xs) 129)) 55 = .ok (.ireturn, 1) := show decode (am_cd (tb_me 129)) 55 = .ok (.ireturn, 1) from by decide +kernel
theorem k129_56 {L : Nat} {xs : Nat → Int32} : decode (am_cd (am_me (tb_P L xs) 129)) 56 = .ok (.aload_n 0, 1) := show decode (am_cd (tb_me 129)) 56 = .ok (.aload_n 0, 1) from by decide +kernel
theorem k129_57 {L : Nat} {xs : Nat → Int32} : decode (am_cd (am_me (tb_P L xs) 129)) 57 = .ok (.iload_n 2, 1) := show decode (am_cd (tb_me 129)) 57 = .ok (.iload_n 2, 1) from by decide +kernel
theorem k129_58 {L : Nat} {xs : Nat → Int32} : decode (am_cd (am_me (tb_P L xs) 129)) 58 = .ok (.iload_n 3, 1) := show decode (am_cd (tb_me 129)) 58 = .ok (.iload_n 3, 1) from by decide +kernel
theorem k129_59 {L : Nat} {xs : Nat → Int32} : decode (am_cd (am_me (tb_P L xs) 129)) 59 = .ok (.imul, 1) := show decode (am_cd (tb_me 129)) 59 = .ok (.imul, 1) from by decide +kernel
theorem k129_60 {L : Nat} {xs : Nat → Int32} : decode (am_cd (am_me (tb_P L xs) 129)) 60 = .ok (.invokevirtual 109, 3) := show decode (am_cd (tb_me 129)) 60 = .ok (.invokevirtual 109, 3) from by decide +kernel
theorem s129_60 {L : Nat} {xs : Nat → Int32} : am_sp (tb_P L xs) 129 109 = none := show tb_spF 129 109 = none from by decide +kernel
theorem c129_60 {L : Nat} {xs : Nat → Int32} : am_ca (tb_P L xs) 129 109 = some (130, 1, 1) := show tb_caF 129 109 = some (130, 1, 1) from by decide +kernel
theorem r129_60 {L : Nat} {xs : Nat → Int32} : am_rf (am_me (tb_P L xs) 130) + 1 ≤ am_rf (am_me (tb_P L xs) 129) ∧ 0 + (am_ml (am_me (tb_P L xs) 130) + 11) + am_rl (am_me (tb_P L xs) 130) ≤ am_rl (am_me (tb_P L xs) 129) := show am_rf (tb_me 130) + 1 ≤ am_rf (tb_me 129) ∧ 0 + (am_ml (tb_me 130) + 11) + am_rl (tb_me 130) ≤ am_rl (tb_me 129) from by decide +kernel
theorem k129_63 {L : Nat} {xs : Nat → Int32} : decode (am_cd (am_me (tb_P L xs) 129)) 63 = .ok (.ireturn, 1) := show decode (am_cd (tb_me 129)) 63 = .ok (.ireturn, 1) from by decide +kernel
theorem k129_64 {L : Nat} {xs : Nat → Int32} : decode (am_cd (am_me (tb_P L xs) 129)) 64 = .ok (.iload_n 2, 1) := show decode (am_cd (tb_me 129)) 64 = .ok (.iload_n 2, 1) from by decide +kernel
theorem k129_65 {L : Nat} {xs : Nat → Int32} : decode (am_cd (am_me (tb_P L xs) 129)) 65 = .ok (.iload_n 3, 1) := show decode (am_cd (tb_me 129)) 65 = .ok (.iload_n 3, 1) from by decide +kernel
theorem k129_66 {L : Nat} {xs : Nat → Int32} : decode (am_cd (am_me (tb_P L xs) 129)) 66 = .ok (.if_icmp .ne 7, 3) := show decode (am_cd (tb_me 129)) 66 = .ok (.if_icmp .ne 7, 3) from by decide +kernel
theorem k129_69 {L : Nat} {xs : Nat → Int32} : decode (am_cd (am_me (tb_P L xs) 129)) 69 = .ok (.iconst 1, 1) := show decode (am_cd (tb_me 129)) 69 = .ok (.iconst 1, 1) from by decide +kernel
theorem k129_70 {L : Nat} {xs : Nat → Int32} : decode (am_cd (am_me (tb_P L xs) 129)) 70 = .ok (.goto 4, 3) := show decode (am_cd (tb_me 129)) 70 = .ok (.goto 4, 3) from by decide +kernel
theorem k129_73 {L : Nat} {xs : Nat → Int32} : decode (am_cd (am_me (tb_P L xs) 129)) 73 = .ok (.iconst 0, 1) := show decode (am_cd (tb_me 129)) 73 = .ok (.iconst 0, 1) from by decide +kernel
theorem k129_74 {L : Nat} {xs : Nat → Int32} : decode (am_cd (am_me (tb_P L xs) 129)) 74 = .ok (.ireturn, 1) := show decode (am_cd (tb_me 129)) 74 = .ok (.ireturn, 1) from by decide +kernel
theorem k129_75 {L : Nat} {xs : Nat → Int32} : decode (am_cd (am_me (tb_P L xs) 129)) 75 = .ok (.iload_n 2, 1) := show decode (am_cd (tb_me 129)) 75 = .ok (.iload_n 2, 1) from by decide +kernel
theorem k129_76 {L : Nat} {xs : Nat → Int32} : decode (am_cd (am_me (tb_P L xs) 129)) 76 = .ok (.iload_n 3, 1) := show decode (am_cd (tb_me 129)) 76 = .ok (.iload_n 3, 1) from by decide +kernel
theorem k129_77 {L : Nat} {xs : Nat → Int32} : decode (am_cd (am_me (tb_P L xs) 129)) 77 = .ok (.if_icmp .ge 7, 3) := show decode (am_cd (tb_me 129)) 77 = .ok (.if_icmp .ge 7, 3) from by decide +kernel
theorem k129_80 {L : Nat} {xs : Nat → Int32} : decode (am_cd (am_me (tb_P L xs) 129)) 80 = .ok (.iconst 1, 1) := show decode (am_cd (tb_me 129)) 80 = .ok (.iconst 1, 1) from by decide +kernel
theorem k129_81 {L : Nat} {xs : Nat → Int32} : decode (am_cd (am_me (tb_P L xs) 129)) 81 = .ok (.goto 4, 3) := show decode (am_cd (tb_me 129)) 81 = .ok (.goto 4, 3) from by decide +kernel
theorem k129_84 {L : Nat} {xs : Nat → Int32} : decode (am_cd (am_me (tb_P L xs) 129)) 84 = .ok (.iconst 0, 1) := show decode (am_cd (tb_me 129)) 84 = .ok (.iconst 0, 1) from by decide +kernel
theorem k129_85 {L : Nat} {xs : Nat → Int32} : decode (am_cd (am_me (tb_P L xs) 129)) 85 = .ok (.ireturn, 1) := show decode (am_cd (tb_me 129)) 85 = .ok (.ireturn, 1) from by decide +kernel
theorem k129_86 {L : Nat} {xs : Nat → Int32} : decode (am_cd (am_me (tb_P L xs) 129)) 86 = .ok (.iload_n 2, 1) := show decode (am_cd (tb_me 129)) 86 = .ok (.iload_n 2, 1) from by decide +kernel
theorem k129_87 {L : Nat} {xs : Nat → Int32} : decode (am_cd (am_me (tb_P L xs) 129)) 87 = .ok (.iconst 1, 1) := show decode (am_cd (tb_me 129)) 87 = .ok (.iconst 1, 1) from by decide +kernel
theorem k129_88 {L : Nat} {xs : Nat → Int32} : decode (am_cd (am_me (tb_P L xs) 129)) 88 = .ok (.if_icmp .ne 12, 3) := show decode (am_cd (tb_me 129)) 88 = .ok (.if_icmp .ne 12, 3) from by decide +kernel
theorem k129_91 {L : Nat} {xs : Nat → Int32} : decode (am_cd (am_me (tb_P L xs) 129)) 91 = .ok (.iload_n 3, 1) := show decode (am_cd (tb_me 129)) 91 = .ok (.iload_n 3, 1) from by decide +kernel
theorem k129_92 {L : Nat} {xs : Nat → Int32} : decode (am_cd (am_me (tb_P L xs) 129)) 92 = .ok (.iconst 1, 1) := show decode (am_cd (tb_me 129)) 92 = .ok (.iconst 1, 1) from by decide +kernel
theorem k129_93 {L : Nat} {xs : Nat → Int32} : decode (am_cd (am_me (tb_P L xs) 129)) 93 = .ok (.if_icmp .ne 7, 3) := show decode (am_cd (tb_me 129)) 93 = .ok (.if_icmp .ne 7, 3) from by decide +kernel
theorem k129_96 {L : Nat} {xs : Nat → Int32} : decode (am_cd (am_me (tb_P L xs) 129)) 96 = .ok (.iconst 1, 1) := show decode (am_cd (tb_me 129)) 96 = .ok (.iconst 1, 1) from by decide +kernel
theorem k129_97 {L : Nat} {xs : Nat → Int32} : decode (am_cd (am_me (tb_P L xs) 129)) 97 = .ok (.goto 4, 3) := show decode (am_cd (tb_me 129)) 97 = .ok (.goto 4, 3) from by decide +kernel
theorem k129_100 {L : Nat} {xs : Nat → Int32} : decode (am_cd (am_me (tb_P L xs) 129)) 100 = .ok (.iconst 0, 1) := show decode (am_cd (tb_me 129)) 100 = .ok (.iconst 0, 1) from by decide +kernel
theorem k129_101 {L : Nat} {xs : Nat → Int32} : decode (am_cd (am_me (tb_P L xs) 129)) 101 = .ok (.ireturn, 1) := show decode (am_cd (tb_me 129)) 101 = .ok (.ireturn, 1) from by decide +kernel
theorem k129_102 {L : Nat} {xs : Nat → Int32} : decode (am_cd (am_me (tb_P L xs) 129)) 102 = .ok (.iload_n 2, 1) := show decode (am_cd (tb_me 129)) 102 = .ok (.iload_n 2, 1) from by decide +kernel
theorem k129_103 {L : Nat} {xs : Nat → Int32} : decode (am_cd (am_me (tb_P L xs) 129)) 103 = .ok (.iconst 1, 1) := show decode (am_cd (tb_me 129)) 103 = .ok (.iconst 1, 1) from by decide +kernel
theorem k129_104 {L : Nat} {xs : Nat → Int32} : decode (am_cd (am_me (tb_P L xs) 129)) 104 = .ok (.if_icmp .eq 8, 3) := show decode (am_cd (tb_me 129)) 104 = .ok (.if_icmp .eq 8, 3) from by decide +kernel
theorem k129_107 {L : Nat} {xs : Nat → Int32} : decode (am_cd (am_me (tb_P L xs) 129)) 107 = .ok (.iload_n 3, 1) := show decode (am_cd (tb_me 129)) 107 = .ok (.iload_n 3, 1) from by decide +kernel
theorem k129_108 {L : Nat} {xs : Nat → Int32} : decode (am_cd (am_me (tb_P L xs) 129)) 108 = .ok (.iconst 1, 1) := show decode (am_cd (tb_me 129)) 108 = .ok (.iconst 1, 1) from by decide +kernel
theorem k129_109 {L : Nat} {xs : Nat → Int32} : decode (am_cd (am_me (tb_P L xs) 129)) 109 = .ok (.if_icmp .ne 7, 3) := show decode (am_cd (tb_me 129)) 109 = .ok (.if_icmp .ne 7, 3) from by decide +kernel
theorem k129_112 {L : Nat} {xs : Nat → Int32} : decode (am_cd (am_me (tb_P L xs) 129)) 112 = .ok (.iconst 1, 1) := show decode (am_cd (tb_me 129)) 112 = .ok (.iconst 1, 1) from by decide +kernel
theorem k129_113 {L : Nat} {xs : Nat → Int32} : decode (am_cd (am_me (tb_P L xs) 129)) 113 = .ok (.goto 4, 3) := show decode (am_cd (tb_me 129)) 113 = .ok (.goto 4, 3) from by decide +kernel
theorem k129_116 {L : Nat} {xs : Nat → Int32} : decode (am_cd (am_me (tb_P L xs) 129)) 116 = .ok (.iconst 0, 1) := show decode (am_cd (tb_me 129)) 116 = .ok (.iconst 0, 1) from by decide +kernel
theorem k129_117 {L : Nat} {xs : Nat → Int32} : decode (am_cd (am_me (tb_P L xs) 129)) 117 = .ok (.ireturn, 1) := show decode (am_cd (tb_me 129)) 117 = .ok (.ireturn, 1) from by decide +kernel
theorem t129 {L : Nat} {xs : Nat → Int32} : am_rt (am_me (tb_P L xs) 129) = some (.int : FieldType) := show am_rt (tb_me 129) = some (.int : FieldType) from by decide +kernel
theorem l129 {L : Nat} {xs : Nat → Int32} : am_ml (am_me (tb_P L xs) 129) = 4 := show am_ml (tb_me 129) = 4 from by decide +kernel
theorem o129 {L : Nat} {xs : Nat → Int32} (pc : Nat) : am_no (tb_P L xs) 129 pc = true := show (am_hd (tb_me 129)).all (fun q => !(decide (q.1 ≤ pc) && decide (pc < q.2.1))) = true from by rw [show am_hd (tb_me 129) = [] by decide +kernel]; rfl
theorem k130_0 {L : Nat} {xs : Nat → Int32} : decode (am_cd (am_me (tb_P L xs) 130)) 0 = .ok (.iload_n 1, 1) := show decode (am_cd (tb_me 130)) 0 = .ok (.iload_n 1, 1) from by decide +kernel
theorem k130_1 {L : Nat} {xs : Nat → Int32} : decode (am_cd (am_me (tb_P L xs) 130)) 1 = .ok (.sipush (-999), 3) := show decode (am_cd (tb_me 130)) 1 = .ok (.sipush (-999), 3) from by decide +kernel
theorem k130_4 {L : Nat} {xs : Nat → Int32} : decode (am_cd (am_me (tb_P L xs) 130)) 4 = .ok (.if_icmp .ge 9, 3) := show decode (am_cd (tb_me 130)) 4 = .ok (.if_icmp .ge 9, 3) from by decide +kernel
theorem k130_7 {L : Nat} {xs : Nat → Int32} : decode (am_cd (am_me (tb_P L xs) 130)) 7 = .ok (.sipush (-999), 3) := show decode (am_cd (tb_me 130)) 7 = .ok (.sipush (-999), 3) from by decide +kernel
theorem k130_10 {L : Nat} {xs : Nat → Int32} : decode (am_cd (am_me (tb_P L xs) 130)) 10 = .ok (.goto 17, 3) := show decode (am_cd (tb_me 130)) 10 = .ok (.goto 17, 3) from by decide +kernel
theorem k130_13 {L : Nat} {xs : Nat → Int32} : decode (am_cd (am_me (tb_P L xs) 130)) 13 = .ok (.iload_n 1, 1) := show decode (am_cd (tb_me 130)) 13 = .ok (.iload_n 1, 1) from by decide +kernel
theorem k130_14 {L : Nat} {xs : Nat → Int32} : decode (am_cd (am_me (tb_P L xs) 130)) 14 = .ok (.sipush 999, 3) := show decode (am_cd (tb_me 130)) 14 = .ok (.sipush 999, 3) from by decide +kernel
theorem k130_17 {L : Nat} {xs : Nat → Int32} : decode (am_cd (am_me (tb_P L xs) 130)) 17 = .ok (.if_icmp .le 9, 3) := show decode (am_cd (tb_me 130)) 17 = .ok (.if_icmp .le 9, 3) from by decide +kernel
theorem k130_20 {L : Nat} {xs : Nat → Int32} : decode (am_cd (am_me (tb_P L xs) 130)) 20 = .ok (.sipush 999, 3) := show decode (am_cd (tb_me 130)) 20 = .ok (.sipush 999, 3) from by decide +kernel
theorem k130_23 {L : Nat} {xs : Nat → Int32} : decode (am_cd (am_me (tb_P L xs) 130)) 23 = .ok (.goto 4, 3) := show decode (am_cd (tb_me 130)) 23 = .ok (.goto 4, 3) from by decide +kernel
theorem k130_26 {L : Nat} {xs : Nat → Int32} : decode (am_cd (am_me (tb_P L xs) 130)) 26 = .ok (.iload_n 1, 1) := show decode (am_cd (tb_me 130)) 26 = .ok (.iload_n 1, 1) from by decide +kernel
theorem k130_27 {L : Nat} {xs : Nat → Int32} : decode (am_cd (am_me (tb_P L xs) 130)) 27 = .ok (.ireturn, 1) := show decode (am_cd (tb_me 130)) 27 = .ok (.ireturn, 1) from by decide +kernel
theorem t130 {L : Nat} {xs : Nat → Int32} : am_rt (am_me (tb_P L xs) 130) = some (.int : FieldType) := show am_rt (tb_me 130) = some (.int : FieldType) from by decide +kernel
theorem l130 {L : Nat} {xs : Nat → Int32} : am_ml (am_me (tb_P L xs) 130) = 2 := show am_ml (tb_me 130) = 2 from by decide +kernel
theorem o130 {L : Nat} {xs : Nat → Int32} (pc : Nat) : am_no (tb_P L xs) 130 pc = true := show (am_hd (tb_me 130)).all (fun q => !(decide (q.1 ≤ pc) && decide (pc < q.2.1))) = true from by rw [show am_hd (tb_me 130) = [] by decide +kernel]; rfl
theorem k131_0 {L : Nat} {xs : Nat → Int32} : decode (am_cd (am_me (tb_P L xs) 131)) 0 = .ok (.iconst 0, 1) := show decode (am_cd (tb_me 131)) 0 = .ok (.iconst 0, 1) from by decide +kernel
theorem k131_1 {L : Nat} {xs : Nat → Int32} : decode (am_cd (am_me (tb_P L xs) 131)) 1 = .ok (.istore_n 1, 1) := show decode (am_cd (tb_me 131)) 1 = .ok (.istore_n 1, 1) from by decide +kernel
theorem k131_2 {L : Nat} {xs : Nat → Int32} : decode (am_cd (am_me (tb_P L xs) 131)) 2 = .ok (.iconst 0, 1) := show decode (am_cd (tb_me 131)) 2 = .ok (.iconst 0, 1) from by decide +kernel
theorem k131_3 {L : Nat} {xs : Nat → Int32} : decode (am_cd (am_me (tb_P L xs) 131)) 3 = .ok (.istore_n 2, 1) := show decode (am_cd (tb_me 131)) 3 = .ok (.istore_n 2, 1) from by decide +kernel
theorem k131_4 {L : Nat} {xs : Nat → Int32} : decode (am_cd (am_me (tb_P L xs) 131)) 4 = .ok (.iload_n 2, 1) := show decode (am_cd (tb_me 131)) 4 = .ok (.iload_n 2, 1) from by decide +kernel
theorem k131_5 {L : Nat} {xs : Nat → Int32} : decode (am_cd (am_me (tb_P L xs) 131)) 5 = .ok (.aload_n 0, 1) := show decode (am_cd (tb_me 131)) 5 = .ok (.aload_n 0, 1) from by decide +kernel
theorem k131_6 {L : Nat} {xs : Nat → Int32} : decode (am_cd (am_me (tb_P L xs) 131)) 6 = .ok (.getfield 120, 3) := show decode (am_cd (tb_me 131)) 6 = .ok (.getfield 120, 3) from by decide +kernel
theorem f131_6 {L : Nat} {xs : Nat → Int32} : am_fd (tb_P L xs) 131 120 = some (8, 11, (.int : FieldType), true) := show tb_fdF 131 120 = some (8, 11, (.int : FieldType), true) from by decide +kernel
theorem k131_9 {L : Nat} {xs : Nat → Int32} : decode (am_cd (am_me (tb_P L xs) 131)) 9 = .ok (.if_icmp .ge 56, 3) := show decode (am_cd (tb_me 131)) 9 = .ok (.if_icmp .ge 56, 3) from by decide +kernel
theorem k131_12 {L : Nat} {xs : Nat → Int32} : decode (am_cd (am_me (tb_P L xs) 131)) 12 = .ok (.iconst 0, 1) := show decode (am_cd (tb_me 131)) 12 = .ok (.iconst 0, 1) from by decide +kernel
theorem k131_13 {L : Nat} {xs : Nat → Int32} : decode (am_cd (am_me (tb_P L xs) 131)) 13 = .ok (.istore_n 3, 1) := show decode (am_cd (tb_me 131)) 13 = .ok (.istore_n 3, 1) from by decide +kernel
theorem k131_14 {L : Nat} {xs : Nat → Int32} : decode (am_cd (am_me (tb_P L xs) 131)) 14 = .ok (.iload_n 3, 1) := show decode (am_cd (tb_me 131)) 14 = .ok (.iload_n 3, 1) from by decide +kernel
theorem k131_15 {L : Nat} {xs : Nat → Int32} : decode (am_cd (am_me (tb_P L xs) 131)) 15 = .ok (.aload_n 0, 1) := show decode (am_cd (tb_me 131)) 15 = .ok (.aload_n 0, 1) from by decide +kernel
theorem k131_16 {L : Nat} {xs : Nat → Int32} : decode (am_cd (am_me (tb_P L xs) 131)) 16 = .ok (.getfield 38, 3) := show decode (am_cd (tb_me 131)) 16 = .ok (.getfield 38, 3) from by decide +kernel
theorem f131_16 {L : Nat} {xs : Nat → Int32} : am_fd (tb_P L xs) 131 38 = some (8, 13, (.array .int : FieldType), true) := show tb_fdF 131 38 = some (8, 13, (.array .int : FieldType), true) from by decide +kernel
theorem k131_19 {L : Nat} {xs : Nat → Int32} : decode (am_cd (am_me (tb_P L xs) 131)) 19 = .ok (.iload_n 2, 1) := show decode (am_cd (tb_me 131)) 19 = .ok (.iload_n 2, 1) from by decide +kernel
theorem k131_20 {L : Nat} {xs : Nat → Int32} : decode (am_cd (am_me (tb_P L xs) 131)) 20 = .ok (.iaload, 1) := show decode (am_cd (tb_me 131)) 20 = .ok (.iaload, 1) from by decide +kernel
theorem k131_21 {L : Nat} {xs : Nat → Int32} : decode (am_cd (am_me (tb_P L xs) 131)) 21 = .ok (.if_icmp .ge 38, 3) := show decode (am_cd (tb_me 131)) 21 = .ok (.if_icmp .ge 38, 3) from by decide +kernel
theorem k131_24 {L : Nat} {xs : Nat → Int32} : decode (am_cd (am_me (tb_P L xs) 131)) 24 = .ok (.aload_n 0, 1) := show decode (am_cd (tb_me 131)) 24 = .ok (.aload_n 0, 1) from by decide +kernel
theorem k131_25 {L : Nat} {xs : Nat → Int32} : decode (am_cd (am_me (tb_P L xs) 131)) 25 = .ok (.getfield 35, 3) := show decode (am_cd (tb_me 131)) 25 = .ok (.getfield 35, 3) from by decide +kernel
theorem f131_25 {L : Nat} {xs : Nat → Int32} : am_fd (tb_P L xs) 131 35 = some (8, 12, (.array .int : FieldType), true) := show tb_fdF 131 35 = some (8, 12, (.array .int : FieldType), true) from by decide +kernel
theorem k131_28 {L : Nat} {xs : Nat → Int32} : decode (am_cd (am_me (tb_P L xs) 131)) 28 = .ok (.iload_n 2, 1) := show decode (am_cd (tb_me 131)) 28 = .ok (.iload_n 2, 1) from by decide +kernel
theorem k131_29 {L : Nat} {xs : Nat → Int32} : decode (am_cd (am_me (tb_P L xs) 131)) 29 = .ok (.iaload, 1) := show decode (am_cd (tb_me 131)) 29 = .ok (.iaload, 1) from by decide +kernel
theorem k131_30 {L : Nat} {xs : Nat → Int32} : decode (am_cd (am_me (tb_P L xs) 131)) 30 = .ok (.iconst 1, 1) := show decode (am_cd (tb_me 131)) 30 = .ok (.iconst 1, 1) from by decide +kernel
theorem k131_31 {L : Nat} {xs : Nat → Int32} : decode (am_cd (am_me (tb_P L xs) 131)) 31 = .ok (.if_icmp .ne 28, 3) := show decode (am_cd (tb_me 131)) 31 = .ok (.if_icmp .ne 28, 3) from by decide +kernel
theorem k131_34 {L : Nat} {xs : Nat → Int32} : decode (am_cd (am_me (tb_P L xs) 131)) 34 = .ok (.iload_n 1, 1) := show decode (am_cd (tb_me 131)) 34 = .ok (.iload_n 1, 1) from by decide +kernel
theorem k131_35 {L : Nat} {xs : Nat → Int32} : decode (am_cd (am_me (tb_P L xs) 131)) 35 = .ok (.ifCond .ne 12, 3) := show decode (am_cd (tb_me 131)) 35 = .ok (.ifCond .ne 12, 3) from by decide +kernel
theorem k131_38 {L : Nat} {xs : Nat → Int32} : decode (am_cd (am_me (tb_P L xs) 131)) 38 = .ok (.aload_n 0, 1) := show decode (am_cd (tb_me 131)) 38 = .ok (.aload_n 0, 1) from by decide +kernel
theorem k131_39 {L : Nat} {xs : Nat → Int32} : decode (am_cd (am_me (tb_P L xs) 131)) 39 = .ok (.iload_n 2, 1) := show decode (am_cd (tb_me 131)) 39 = .ok (.iload_n 2, 1) from by decide +kernel
theorem k131_40 {L : Nat} {xs : Nat → Int32} : decode (am_cd (am_me (tb_P L xs) 131)) 40 = .ok (.iload_n 3, 1) := show decode (am_cd (tb_me 131)) 40 = .ok (.iload_n 3, 1) from by decide +kernel
theorem k131_41 {L : Nat} {xs : Nat → Int32} : decode (am_cd (am_me (tb_P L xs) 131)) 41 = .ok (.invokevirtual 152, 3) := show decode (am_cd (tb_me 131)) 41 = .ok (.invokevirtual 152, 3) from by decide +kernel
theorem s131_41 {L : Nat} {xs : Nat → Int32} : am_sp (tb_P L xs) 131 152 = none := show tb_spF 131 152 = none from by decide +kernel
theorem c131_41 {L : Nat} {xs : Nat → Int32} : am_ca (tb_P L xs) 131 152 = some (132, 2, 1) := show tb_caF 131 152 = some (132, 2, 1) from by decide +kernel
theorem r131_41 {L : Nat} {xs : Nat → Int32} : am_rf (am_me (tb_P L xs) 132) + 1 ≤ am_rf (am_me (tb_P L xs) 131) ∧ 0 + (am_ml (am_me (tb_P L xs) 132) + 11) + am_rl (am_me (tb_P L xs) 132) ≤ am_rl (am_me (tb_P L xs) 131) := show am_rf (tb_me 132) + 1 ≤ am_rf (tb_me 131) ∧ 0 + (am_ml (tb_me 132) + 11) + am_rl (tb_me 132) ≤ am_rl (tb_me 131) from by decide +kernel
theorem k131_44 {L : Nat} {xs : Nat → Int32} : decode (am_cd (am_me (tb_P L xs) 131)) 44 = .ok (.ifCond .eq 7, 3) := show decode (am_cd (tb_me 131)) 44 = .ok (.ifCond .eq 7, 3) from by decide +kernel
theorem k131_47 {L : Nat} {xs : Nat → Int32} : decode (am_cd (am_me (tb_P L xs) 131)) 47 = .ok (.iconst 1, 1) := show decode (am_cd (tb_me 131)) 47 = .ok (.iconst 1, 1) from by decide +kernel
theorem k131_48 {L : Nat} {xs : Nat → Int32} : decode (am_cd (am_me (tb_P L xs) 131)) 48 = .ok (.goto 4, 3) := show decode (am_cd (tb_me 131)) 48 = .ok (.goto 4, 3) from by decide +kernel
theorem k131_51 {L : Nat} {xs : Nat → Int32} : decode (am_cd (am_me (tb_P L xs) 131)) 51 = .ok (.iconst 0, 1) := show decode (am_cd (tb_me 131)) 51 = .ok (.iconst 0, 1) from by decide +kernel
theorem k131_52 {L : Nat} {xs : Nat → Int32} : decode (am_cd (am_me (tb_P L xs) 131)) 52 = .ok (.istore_n 1, 1) := show decode (am_cd (tb_me 131)) 52 = .ok (.istore_n 1, 1) from by decide +kernel
theorem k131_53 {L : Nat} {xs : Nat → Int32} : decode (am_cd (am_me (tb_P L xs) 131)) 53 = .ok (.iinc 3 1, 3) := show decode (am_cd (tb_me 131)) 53 = .ok (.iinc 3 1, 3) from by decide +kernel
theorem k131_56 {L : Nat} {xs : Nat → Int32} : decode (am_cd (am_me (tb_P L xs) 131)) 56 = .ok (.goto (-42), 3) := show decode (am_cd (tb_me 131)) 56 = .ok (.goto (-42), 3) from by decide +kernel
theorem k131_59 {L : Nat} {xs : Nat → Int32} : decode (am_cd (am_me (tb_P L xs) 131)) 59 = .ok (.iinc 2 1, 3) := show decode (am_cd (tb_me 131)) 59 = .ok (.iinc 2 1, 3) from by decide +kernel
theorem k131_62 {L : Nat} {xs : Nat → Int32} : decode (am_cd (am_me (tb_P L xs) 131)) 62 = .ok (.goto (-58), 3) := show decode (am_cd (tb_me 131)) 62 = .ok (.goto (-58), 3) from by decide +kernel
theorem k131_65 {L : Nat} {xs : Nat → Int32} : decode (am_cd (am_me (tb_P L xs) 131)) 65 = .ok (.iload_n 1, 1) := show decode (am_cd (tb_me 131)) 65 = .ok (.iload_n 1, 1) from by decide +kernel
theorem k131_66 {L : Nat} {xs : Nat → Int32} : decode (am_cd (am_me (tb_P L xs) 131)) 66 = .ok (.ireturn, 1) := show decode (am_cd (tb_me 131)) 66 = .ok (.ireturn, 1) from by decide +kernel
theorem t131 {L : Nat} {xs : Nat → Int32} : am_rt (am_me (tb_P L xs) 131) = some (.boolean : FieldType) := show am_rt (tb_me 131) = some (.boolean : FieldType) from by decide +kernel
theorem l131 {L : Nat} {xs : Nat → Int32} : am_ml (am_me (tb_P L xs) 131) = 4 := show am_ml (tb_me 131) = 4 from by decide +kernel
theorem o131 {L : Nat} {xs : Nat → Int32} (pc : Nat) : am_no (tb_P L xs) 131 pc = true := show (am_hd (tb_me 131)).all (fun q => !(decide (q.1 ≤ pc) && decide (pc < q.2.1))) = true from by rw [show am_hd (tb_me 131) = [] by decide +kernel]; rfl
theorem k132_0 {L : Nat} {xs : Nat → Int32} : decode (am_cd (am_me (tb_P L xs) 132)) 0 = .ok (.aload_n 0, 1) := show decode (am_cd (tb_me 132)) 0 = .ok (.aload_n 0, 1) from by decide +kernel
theorem k132_1 {L : Nat} {xs : Nat → Int32} : decode (am_cd (am_me (tb_P L xs) 132)) 1 = .ok (.getfield 44, 3) := show decode (am_cd (tb_me 132)) 1 = .ok (.getfield 44, 3) from by decide +kernel
theorem f132_1 {L : Nat} {xs : Nat → Int32} : am_fd (tb_P L xs) 132 44 = some (8, 15, (.array .int : FieldType), true) := show tb_fdF 132 44 = some (8, 15, (.array .int : FieldType), true) from by decide +kernel
theorem k132_4 {L : Nat} {xs : Nat → Int32} : decode (am_cd (am_me (tb_P L xs) 132)) 4 = .ok (.iload_n 1, 1) := show decode (am_cd (tb_me 132)) 4 = .ok (.iload_n 1, 1) from by decide +kernel
theorem k132_5 {L : Nat} {xs : Nat → Int32} : decode (am_cd (am_me (tb_P L xs) 132)) 5 = .ok (.iaload, 1) := show decode (am_cd (tb_me 132)) 5 = .ok (.iaload, 1) from by decide +kernel
theorem k132_6 {L : Nat} {xs : Nat → Int32} : decode (am_cd (am_me (tb_P L xs) 132)) 6 = .ok (.iconst (-1), 1) := show decode (am_cd (tb_me 132)) 6 = .ok (.iconst (-1), 1) from by decide +kernel
theorem k132_7 {L : Nat} {xs : Nat → Int32} : decode (am_cd (am_me (tb_P L xs) 132)) 7 = .ok (.if_icmp .eq 19, 3) := show decode (am_cd (tb_me 132)) 7 = .ok (.if_icmp .eq 19, 3) from by decide +kernel
theorem k132_10 {L : Nat} {xs : Nat → Int32} : decode (am_cd (am_me (tb_P L xs) 132)) 10 = .ok (.aload_n 0, 1) := show decode (am_cd (tb_me 132)) 10 = .ok (.aload_n 0, 1) from by decide +kernel
theorem k132_11 {L : Nat} {xs : Nat → Int32} : decode (am_cd (am_me (tb_P L xs) 132)) 11 = .ok (.aload_n 0, 1) := show decode (am_cd (tb_me 132)) 11 = .ok (.aload_n 0, 1) from by decide +kernel
theorem k132_12 {L : Nat} {xs : Nat → Int32} : decode (am_cd (am_me (tb_P L xs) 132)) 12 = .ok (.getfield 44, 3) := show decode (am_cd (tb_me 132)) 12 = .ok (.getfield 44, 3) from by decide +kernel
theorem f132_12 {L : Nat} {xs : Nat → Int32} : am_fd (tb_P L xs) 132 44 = some (8, 15, (.array .int : FieldType), true) := show tb_fdF 132 44 = some (8, 15, (.array .int : FieldType), true) from by decide +kernel
theorem k132_15 {L : Nat} {xs : Nat → Int32} : decode (am_cd (am_me (tb_P L xs) 132)) 15 = .ok (.iload_n 1, 1) := show decode (am_cd (tb_me 132)) 15 = .ok (.iload_n 1, 1) from by decide +kernel
theorem k132_16 {L : Nat} {xs : Nat → Int32} : decode (am_cd (am_me (tb_P L xs) 132)) 16 = .ok (.iaload, 1) := show decode (am_cd (tb_me 132)) 16 = .ok (.iaload, 1) from by decide +kernel
theorem k132_17 {L : Nat} {xs : Nat → Int32} : decode (am_cd (am_me (tb_P L xs) 132)) 17 = .ok (.iconst 0, 1) := show decode (am_cd (tb_me 132)) 17 = .ok (.iconst 0, 1) from by decide +kernel
theorem k132_18 {L : Nat} {xs : Nat → Int32} : decode (am_cd (am_me (tb_P L xs) 132)) 18 = .ok (.iload_n 2, 1) := show decode (am_cd (tb_me 132)) 18 = .ok (.iload_n 2, 1) from by decide +kernel
theorem k132_19 {L : Nat} {xs : Nat → Int32} : decode (am_cd (am_me (tb_P L xs) 132)) 19 = .ok (.invokevirtual 133, 3) := show decode (am_cd (tb_me 132)) 19 = .ok (.invokevirtual 133, 3) from by decide +kernel
theorem s132_19 {L : Nat} {xs : Nat → Int32} : am_sp (tb_P L xs) 132 133 = none := show tb_spF 132 133 = none from by decide +kernel
theorem c132_19 {L : Nat} {xs : Nat → Int32} : am_ca (tb_P L xs) 132 133 = some (128, 3, 1) := show tb_caF 132 133 = some (128, 3, 1) from by decide +kernel
theorem r132_19 {L : Nat} {xs : Nat → Int32} : am_rf (am_me (tb_P L xs) 128) + 1 ≤ am_rf (am_me (tb_P L xs) 132) ∧ 0 + (am_ml (am_me (tb_P L xs) 128) + 11) + am_rl (am_me (tb_P L xs) 128) ≤ am_rl (am_me (tb_P L xs) 132) := show am_rf (tb_me 128) + 1 ≤ am_rf (tb_me 132) ∧ 0 + (am_ml (tb_me 128) + 11) + am_rl (tb_me 128) ≤ am_rl (tb_me 132) from by decide +kernel
theorem k132_22 {L : Nat} {xs : Nat → Int32} : decode (am_cd (am_me (tb_P L xs) 132)) 22 = .ok (.iconst 1, 1) := show decode (am_cd (tb_me 132)) 22 = .ok (.iconst 1, 1) from by decide +kernel
theorem k132_23 {L : Nat} {xs : Nat → Int32} : decode (am_cd (am_me (tb_P L xs) 132)) 23 = .ok (.if_icmp .ne 7, 3) := show decode (am_cd (tb_me 132)) 23 = .ok (.if_icmp .ne 7, 3) from by decide +kernel
theorem k132_26 {L : Nat} {xs : Nat → Int32} : decode (am_cd (am_me (tb_P L xs) 132)) 26 = .ok (.iconst 1, 1) := show decode (am_cd (tb_me 132)) 26 = .ok (.iconst 1, 1) from by decide +kernel
theorem k132_27 {L : Nat} {xs : Nat → Int32} : decode (am_cd (am_me (tb_P L xs) 132)) 27 = .ok (.goto 4, 3) := show decode (am_cd (tb_me 132)) 27 = .ok (.goto 4, 3) from by decide +kernel
theorem k132_30 {L : Nat} {xs : Nat → Int32} : decode (am_cd (am_me (tb_P L xs) 132)) 30 = .ok (.iconst 0, 1) := show decode (am_cd (tb_me 132)) 30 = .ok (.iconst 0, 1) from by decide +kernel
theorem k132_31 {L : Nat} {xs : Nat → Int32} : decode (am_cd (am_me (tb_P L xs) 132)) 31 = .ok (.ireturn, 1) := show decode (am_cd (tb_me 132)) 31 = .ok (.ireturn, 1) from by decide +kernel
theorem t132 {L : Nat} {xs : Nat → Int32} : am_rt (am_me (tb_P L xs) 132) = some (.boolean : FieldType) := show am_rt (tb_me 132) = some (.boolean : FieldType) from by decide +kernel
theorem l132 {L : Nat} {xs : Nat → Int32} : am_ml (am_me (tb_P L xs) 132) = 3 := show am_ml (tb_me 132) = 3 from by decide +kernel
theorem o132 {L : Nat} {xs : Nat → Int32} (pc : Nat) : am_no (tb_P L xs) 132 pc = true := show (am_hd (tb_me 132)).all (fun q => !(decide (q.1 ≤ pc) && decide (pc < q.2.1))) = true from by rw [show am_hd (tb_me 132) = [] by decide +kernel]; rfl
theorem k133_0 {L : Nat} {xs : Nat → Int32} : decode (am_cd (am_me (tb_P L xs) 133)) 0 = .ok (.aload_n 0, 1) := show decode (am_cd (tb_me 133)) 0 = .ok (.aload_n 0, 1) from by decide +kernel
theorem k133_1 {L : Nat} {xs : Nat → Int32} : decode (am_cd (am_me (tb_P L xs) 133)) 1 = .ok (.iload_n 2, 1) := show decode (am_cd (tb_me 133)) 1 = .ok (.iload_n 2, 1) from by decide +kernel
theorem k133_2 {L : Nat} {xs : Nat → Int32} : decode (am_cd (am_me (tb_P L xs) 133)) 2 = .ok (.iload_n 3, 1) := show decode (am_cd (tb_me 133)) 2 = .ok (.iload_n 3, 1) from by decide +kernel
theorem k133_3 {L : Nat} {xs : Nat → Int32} : decode (am_cd (am_me (tb_P L xs) 133)) 3 = .ok (.invokevirtual 152, 3) := show decode (am_cd (tb_me 133)) 3 = .ok (.invokevirtual 152, 3) from by decide +kernel
theorem s133_3 {L : Nat} {xs : Nat → Int32} : am_sp (tb_P L xs) 133 152 = none := show tb_spF 133 152 = none from by decide +kernel
theorem c133_3 {L : Nat} {xs : Nat → Int32} : am_ca (tb_P L xs) 133 152 = some (132, 2, 1) := show tb_caF 133 152 = some (132, 2, 1) from by decide +kernel
theorem r133_3 {L : Nat} {xs : Nat → Int32} : am_rf (am_me (tb_P L xs) 132) + 1 ≤ am_rf (am_me (tb_P L xs) 133) ∧ 0 + (am_ml (am_me (tb_P L xs) 132) + 11) + am_rl (am_me (tb_P L xs) 132) ≤ am_rl (am_me (tb_P L xs) 133) := show am_rf (tb_me 132) + 1 ≤ am_rf (tb_me 133) ∧ 0 + (am_ml (tb_me 132) + 11) + am_rl (tb_me 132) ≤ am_rl (tb_me 133) from by decide +kernel
theorem k133_6 {L : Nat} {xs : Nat → Int32} : decode (am_cd (am_me (tb_P L xs) 133)) 6 = .ok (.ifCond .ne 5, 3) := show decode (am_cd (tb_me 133)) 6 = .ok (.ifCond .ne 5, 3) from by decide +kernel
theorem k133_9 {L : Nat} {xs : Nat → Int32} : decode (am_cd (am_me (tb_P L xs) 133)) 9 = .ok (.iconst 1, 1) := show decode (am_cd (tb_me 133)) 9 = .ok (.iconst 1, 1) from by decide +kernel
theorem k133_10 {L : Nat} {xs : Nat → Int32} : decode (am_cd (am_me (tb_P L xs) 133)) 10 = .ok (.ireturn, 1) := show decode (am_cd (tb_me 133)) 10 = .ok (.ireturn, 1) from by decide +kernel
theorem k133_11 {L : Nat} {xs : Nat → Int32} : decode (am_cd (am_me (tb_P L xs) 133)) 11 = .ok (.aload_n 0, 1) := show decode (am_cd (tb_me 133)) 11 = .ok (.aload_n 0, 1) from by decide +kernel
theorem k133_12 {L : Nat} {xs : Nat → Int32} : decode (am_cd (am_me (tb_P L xs) 133)) 12 = .ok (.getfield 35, 3) := show decode (am_cd (tb_me 133)) 12 = .ok (.getfield 35, 3) from by decide +kernel
theorem f133_12 {L : Nat} {xs : Nat → Int32} : am_fd (tb_P L xs) 133 35 = some (8, 12, (.array .int : FieldType), true) := show tb_fdF 133 35 = some (8, 12, (.array .int : FieldType), true) from by decide +kernel
theorem k133_15 {L : Nat} {xs : Nat → Int32} : decode (am_cd (am_me (tb_P L xs) 133)) 15 = .ok (.iload_n 2, 1) := show decode (am_cd (tb_me 133)) 15 = .ok (.iload_n 2, 1) from by decide +kernel
theorem k133_16 {L : Nat} {xs : Nat → Int32} : decode (am_cd (am_me (tb_P L xs) 133)) 16 = .ok (.iaload, 1) := show decode (am_cd (tb_me 133)) 16 = .ok (.iaload, 1) from by decide +kernel
theorem k133_17 {L : Nat} {xs : Nat → Int32} : decode (am_cd (am_me (tb_P L xs) 133)) 17 = .ok (.istore 4, 2) := show decode (am_cd (tb_me 133)) 17 = .ok (.istore 4, 2) from by decide +kernel
theorem k133_19 {L : Nat} {xs : Nat → Int32} : decode (am_cd (am_me (tb_P L xs) 133)) 19 = .ok (.iload_n 1, 1) := show decode (am_cd (tb_me 133)) 19 = .ok (.iload_n 1, 1) from by decide +kernel
theorem k133_20 {L : Nat} {xs : Nat → Int32} : decode (am_cd (am_me (tb_P L xs) 133)) 20 = .ok (.iconst 1, 1) := show decode (am_cd (tb_me 133)) 20 = .ok (.iconst 1, 1) from by decide +kernel
theorem k133_21 {L : Nat} {xs : Nat → Int32} : decode (am_cd (am_me (tb_P L xs) 133)) 21 = .ok (.if_icmp .ne 24, 3) := show decode (am_cd (tb_me 133)) 21 = .ok (.if_icmp .ne 24, 3) from by decide +kernel
theorem k133_24 {L : Nat} {xs : Nat → Int32} : decode (am_cd (am_me (tb_P L xs) 133)) 24 = .ok (.aload_n 0, 1) := show decode (am_cd (tb_me 133)) 24 = .ok (.aload_n 0, 1) from by decide +kernel
theorem k133_25 {L : Nat} {xs : Nat → Int32} : decode (am_cd (am_me (tb_P L xs) 133)) 25 = .ok (.iload_n 2, 1) := show decode (am_cd (tb_me 133)) 25 = .ok (.iload_n 2, 1) from by decide +kernel
theorem k133_26 {L : Nat} {xs : Nat → Int32} : decode (am_cd (am_me (tb_P L xs) 133)) 26 = .ok (.iload_n 3, 1) := show decode (am_cd (tb_me 133)) 26 = .ok (.iload_n 3, 1) from by decide +kernel
theorem k133_27 {L : Nat} {xs : Nat → Int32} : decode (am_cd (am_me (tb_P L xs) 133)) 27 = .ok (.invokevirtual 141, 3) := show decode (am_cd (tb_me 133)) 27 = .ok (.invokevirtual 141, 3) from by decide +kernel
theorem s133_27 {L : Nat} {xs : Nat → Int32} : am_sp (tb_P L xs) 133 141 = none := show tb_spF 133 141 = none from by decide +kernel
theorem c133_27 {L : Nat} {xs : Nat → Int32} : am_ca (tb_P L xs) 133 141 = some (134, 2, 1) := show tb_caF 133 141 = some (134, 2, 1) from by decide +kernel
theorem r133_27 {L : Nat} {xs : Nat → Int32} : am_rf (am_me (tb_P L xs) 134) + 1 ≤ am_rf (am_me (tb_P L xs) 133) ∧ 0 + (am_ml (am_me (tb_P L xs) 134) + 11) + am_rl (am_me (tb_P L xs) 134) ≤ am_rl (am_me (tb_P L xs) 133) := show am_rf (tb_me 134) + 1 ≤ am_rf (tb_me 133) ∧ 0 + (am_ml (tb_me 134) + 11) + am_rl (tb_me 134) ≤ am_rl (tb_me 133) from by decide +kernel
theorem k133_30 {L : Nat} {xs : Nat → Int32} : decode (am_cd (am_me (tb_P L xs) 133)) 30 = .ok (.aload_n 0, 1) := show decode (am_cd (tb_me 133)) 30 = .ok (.aload_n 0, 1) from by decide +kernel
theorem k133_31 {L : Nat} {xs : Nat → Int32} : decode (am_cd (am_me (tb_P L xs) 133)) 31 = .ok (.iconst 3, 1) := show decode (am_cd (tb_me 133)) 31 = .ok (.iconst 3, 1) from by decide +kernel
theorem k133_32 {L : Nat} {xs : Nat → Int32} : decode (am_cd (am_me (tb_P L xs) 133)) 32 = .ok (.iload 4, 2) := show decode (am_cd (tb_me 133)) 32 = .ok (.iload 4, 2) from by decide +kernel
theorem k133_34 {L : Nat} {xs : Nat → Int32} : decode (am_cd (am_me (tb_P L xs) 133)) 34 = .ok (.imul, 1) := show decode (am_cd (tb_me 133)) 34 = .ok (.imul, 1) from by decide +kernel
theorem k133_35 {L : Nat} {xs : Nat → Int32} : decode (am_cd (am_me (tb_P L xs) 133)) 35 = .ok (.iconst 3, 1) := show decode (am_cd (tb_me 133)) 35 = .ok (.iconst 3, 1) from by decide +kernel
theorem k133_36 {L : Nat} {xs : Nat → Int32} : decode (am_cd (am_me (tb_P L xs) 133)) 36 = .ok (.iload 4, 2) := show decode (am_cd (tb_me 133)) 36 = .ok (.iload 4, 2) from by decide +kernel
theorem k133_38 {L : Nat} {xs : Nat → Int32} : decode (am_cd (am_me (tb_P L xs) 133)) 38 = .ok (.imul, 1) := show decode (am_cd (tb_me 133)) 38 = .ok (.imul, 1) from by decide +kernel
theorem k133_39 {L : Nat} {xs : Nat → Int32} : decode (am_cd (am_me (tb_P L xs) 133)) 39 = .ok (.iconst 3, 1) := show decode (am_cd (tb_me 133)) 39 = .ok (.iconst 3, 1) from by decide +kernel
theorem k133_40 {L : Nat} {xs : Nat → Int32} : decode (am_cd (am_me (tb_P L xs) 133)) 40 = .ok (.iadd, 1) := show decode (am_cd (tb_me 133)) 40 = .ok (.iadd, 1) from by decide +kernel
theorem k133_41 {L : Nat} {xs : Nat → Int32} : decode (am_cd (am_me (tb_P L xs) 133)) 41 = .ok (.invokevirtual 149, 3) := show decode (am_cd (tb_me 133)) 41 = .ok (.invokevirtual 149, 3) from by decide +kernel
theorem s133_41 {L : Nat} {xs : Nat → Int32} : am_sp (tb_P L xs) 133 149 = none := show tb_spF 133 149 = none from by decide +kernel
theorem c133_41 {L : Nat} {xs : Nat → Int32} : am_ca (tb_P L xs) 133 149 = some (135, 2, 1) := show tb_caF 133 149 = some (135, 2, 1) from by decide +kernel
theorem r133_41 {L : Nat} {xs : Nat → Int32} : am_rf (am_me (tb_P L xs) 135) + 1 ≤ am_rf (am_me (tb_P L xs) 133) ∧ 0 + (am_ml (am_me (tb_P L xs) 135) + 11) + am_rl (am_me (tb_P L xs) 135) ≤ am_rl (am_me (tb_P L xs) 133) := show am_rf (tb_me 135) + 1 ≤ am_rf (tb_me 133) ∧ 0 + (am_ml (tb_me 135) + 11) + am_rl (tb_me 135) ≤ am_rl (tb_me 133) from by decide +kernel
theorem k133_44 {L : Nat} {xs : Nat → Int32} : decode (am_cd (am_me (tb_P L xs) 133)) 44 = .ok (.ireturn, 1) := show decode (am_cd (tb_me 133)) 44 = .ok (.ireturn, 1) from by decide +kernel
theorem k133_45 {L : Nat} {xs : Nat → Int32} : decode (am_cd (am_me (tb_P L xs) 133)) 45 = .ok (.iload_n 1, 1) := show decode (am_cd (tb_me 133)) 45 = .ok (.iload_n 1, 1) from by decide +kernel
theorem k133_46 {L : Nat} {xs : Nat → Int32} : decode (am_cd (am_me (tb_P L xs) 133)) 46 = .ok (.iconst 2, 1) := show decode (am_cd (tb_me 133)) 46 = .ok (.iconst 2, 1) from by decide +kernel
theorem k133_47 {L : Nat} {xs : Nat → Int32} : decode (am_cd (am_me (tb_P L xs) 133)) 47 = .ok (.if_icmp .ne 33, 3) := show decode (am_cd (tb_me 133)) 47 = .ok (.if_icmp .ne 33, 3) from by decide +kernel
theorem k133_50 {L : Nat} {xs : Nat → Int32} : decode (am_cd (am_me (tb_P L xs) 133)) 50 = .ok (.aload_n 0, 1) := show decode (am_cd (tb_me 133)) 50 = .ok (.aload_n 0, 1) from by decide +kernel
theorem k133_51 {L : Nat} {xs : Nat → Int32} : decode (am_cd (am_me (tb_P L xs) 133)) 51 = .ok (.iload_n 2, 1) := show decode (am_cd (tb_me 133)) 51 = .ok (.iload_n 2, 1) from by decide +kernel
theorem k133_52 {L : Nat} {xs : Nat → Int32} : decode (am_cd (am_me (tb_P L xs) 133)) 52 = .ok (.iload_n 3, 1) := show decode (am_cd (tb_me 133)) 52 = .ok (.iload_n 3, 1) from by decide +kernel
theorem k133_53 {L : Nat} {xs : Nat → Int32} : decode (am_cd (am_me (tb_P L xs) 133)) 53 = .ok (.invokevirtual 141, 3) := show decode (am_cd (tb_me 133)) 53 = .ok (.invokevirtual 141, 3) from by decide +kernel
theorem s133_53 {L : Nat} {xs : Nat → Int32} : am_sp (tb_P L xs) 133 141 = none := show tb_spF 133 141 = none from by decide +kernel
theorem c133_53 {L : Nat} {xs : Nat → Int32} : am_ca (tb_P L xs) 133 141 = some (134, 2, 1) := show tb_caF 133 141 = some (134, 2, 1) from by decide +kernel
theorem r133_53 {L : Nat} {xs : Nat → Int32} : am_rf (am_me (tb_P L xs) 134) + 1 ≤ am_rf (am_me (tb_P L xs) 133) ∧ 0 + (am_ml (am_me (tb_P L xs) 134) + 11) + am_rl (am_me (tb_P L xs) 134) ≤ am_rl (am_me (tb_P L xs) 133) := show am_rf (tb_me 134) + 1 ≤ am_rf (tb_me 133) ∧ 0 + (am_ml (tb_me 134) + 11) + am_rl (tb_me 134) ≤ am_rl (tb_me 133) from by decide +kernel
theorem k133_56 {L : Nat} {xs : Nat → Int32} : decode (am_cd (am_me (tb_P L xs) 133)) 56 = .ok (.aload_n 0, 1) := show decode (am_cd (tb_me 133)) 56 = .ok (.aload_n 0, 1) from by decide +kernel
theorem k133_57 {L : Nat} {xs : Nat → Int32} : decode (am_cd (am_me (tb_P L xs) 133)) 57 = .ok (.iconst 0, 1) := show decode (am_cd (tb_me 133)) 57 = .ok (.iconst 0, 1) from by decide +kernel
theorem k133_58 {L : Nat} {xs : Nat → Int32} : decode (am_cd (am_me (tb_P L xs) 133)) 58 = .ok (.iconst 3, 1) := show decode (am_cd (tb_me 133)) 58 = .ok (.iconst 3, 1) from by decide +kernel
theorem k133_59 {L : Nat} {xs : Nat → Int32} : decode (am_cd (am_me (tb_P L xs) 133)) 59 = .ok (.invokevirtual 149, 3) := show decode (am_cd (tb_me 133)) 59 = .ok (.invokevirtual 149, 3) from by decide +kernel
theorem s133_59 {L : Nat} {xs : Nat → Int32} : am_sp (tb_P L xs) 133 149 = none := show tb_spF 133 149 = none from by decide +kernel
theorem c133_59 {L : Nat} {xs : Nat → Int32} : am_ca (tb_P L xs) 133 149 = some (135, 2, 1) := show tb_caF 133 149 = some (135, 2, 1) from by decide +kernel
theorem r133_59 {L : Nat} {xs : Nat → Int32} : am_rf (am_me (tb_P L xs) 135) + 1 ≤ am_rf (am_me (tb_P L xs) 133) ∧ 0 + (am_ml (am_me (tb_P L xs) 135) + 11) + am_rl (am_me (tb_P L xs) 135) ≤ am_rl (am_me (tb_P L xs) 133) := show am_rf (tb_me 135) + 1 ≤ am_rf (tb_me 133) ∧ 0 + (am_ml (tb_me 135) + 11) + am_rl (tb_me 135) ≤ am_rl (tb_me 133) from by decide +kernel
theorem k133_62 {L : Nat} {xs : Nat → Int32} : decode (am_cd (am_me (tb_P L xs) 133)) 62 = .ok (.ifCond .eq 12, 3) := show decode (am_cd (tb_me 133)) 62 = .ok (.ifCond .eq 12, 3) from by decide +kernel
theorem k133_65 {L : Nat} {xs : Nat → Int32} : decode (am_cd (am_me (tb_P L xs) 133)) 65 = .ok (.aload_n 0, 1) := show decode (am_cd (tb_me 133)) 65 = .ok (.aload_n 0, 1) from by decide +kernel
theorem k133_66 {L : Nat} {xs : Nat → Int32} : decode (am_cd (am_me (tb_P L xs) 133)) 66 = .ok (.iconst 0, 1) := show decode (am_cd (tb_me 133)) 66 = .ok (.iconst 0, 1) from by decide +kernel
theorem k133_67 {L : Nat} {xs : Nat → Int32} : decode (am_cd (am_me (tb_P L xs) 133)) 67 = .ok (.iconst 1, 1) := show decode (am_cd (tb_me 133)) 67 = .ok (.iconst 1, 1) from by decide +kernel
theorem k133_68 {L : Nat} {xs : Nat → Int32} : decode (am_cd (am_me (tb_P L xs) 133)) 68 = .ok (.invokevirtual 137, 3) := show decode (am_cd (tb_me 133)) 68 = .ok (.invokevirtual 137, 3) from by decide +kernel
theorem s133_68 {L : Nat} {xs : Nat → Int32} : am_sp (tb_P L xs) 133 137 = none := show tb_spF 133 137 = none from by decide +kernel
theorem c133_68 {L : Nat} {xs : Nat → Int32} : am_ca (tb_P L xs) 133 137 = some (127, 2, 1) := show tb_caF 133 137 = some (127, 2, 1) from by decide +kernel
theorem r133_68 {L : Nat} {xs : Nat → Int32} : am_rf (am_me (tb_P L xs) 127) + 1 ≤ am_rf (am_me (tb_P L xs) 133) ∧ 0 + (am_ml (am_me (tb_P L xs) 127) + 11) + am_rl (am_me (tb_P L xs) 127) ≤ am_rl (am_me (tb_P L xs) 133) := show am_rf (tb_me 127) + 1 ≤ am_rf (tb_me 133) ∧ 0 + (am_ml (tb_me 127) + 11) + am_rl (tb_me 127) ≤ am_rl (tb_me 133) from by decide +kernel
theorem k133_71 {L : Nat} {xs : Nat → Int32} : decode (am_cd (am_me (tb_P L xs) 133)) 71 = .ok (.ifCond .eq 7, 3) := show decode (am_cd (tb_me 133)) 71 = .ok (.ifCond .eq 7, 3) from by decide +kernel
theorem k133_74 {L : Nat} {xs : Nat → Int32} : decode (am_cd (am_me (tb_P L xs) 133)) 74 = .ok (.iconst 1, 1) := show decode (am_cd (tb_me 133)) 74 = .ok (.iconst 1, 1) from by decide +kernel
theorem k133_75 {L : Nat} {xs : Nat → Int32} : decode (am_cd (am_me (tb_P L xs) 133)) 75 = .ok (.goto 4, 3) := show decode (am_cd (tb_me 133)) 75 = .ok (.goto 4, 3) from by decide +kernel
theorem k133_78 {L : Nat} {xs : Nat → Int32} : decode (am_cd (am_me (tb_P L xs) 133)) 78 = .ok (.iconst 0, 1) := show decode (am_cd (tb_me 133)) 78 = .ok (.iconst 0, 1) from by decide +kernel
theorem k133_79 {L : Nat} {xs : Nat → Int32} : decode (am_cd (am_me (tb_P L xs) 133)) 79 = .ok (.ireturn, 1) := show decode (am_cd (tb_me 133)) 79 = .ok (.ireturn, 1) from by decide +kernel
theorem k133_80 {L : Nat} {xs : Nat → Int32} : decode (am_cd (am_me (tb_P L xs) 133)) 80 = .ok (.iload_n 1, 1) := show decode (am_cd (tb_me 133)) 80 = .ok (.iload_n 1, 1) from by decide +kernel
theorem k133_81 {L : Nat} {xs : Nat → Int32} : decode (am_cd (am_me (tb_P L xs) 133)) 81 = .ok (.iconst 4, 1) := show decode (am_cd (tb_me 133)) 81 = .ok (.iconst 4, 1) from by decide +kernel
theorem k133_82 {L : Nat} {xs : Nat → Int32} : decode (am_cd (am_me (tb_P L xs) 133)) 82 = .ok (.if_icmp .ne 10, 3) := show decode (am_cd (tb_me 133)) 82 = .ok (.if_icmp .ne 10, 3) from by decide +kernel
theorem k133_85 {L : Nat} {xs : Nat → Int32} : decode (am_cd (am_me (tb_P L xs) 133)) 85 = .ok (.aload_n 0, 1) := show decode (am_cd (tb_me 133)) 85 = .ok (.aload_n 0, 1) from by decide +kernel
theorem k133_86 {L : Nat} {xs : Nat → Int32} : decode (am_cd (am_me (tb_P L xs) 133)) 86 = .ok (.iload_n 2, 1) := show decode (am_cd (tb_me 133)) 86 = .ok (.iload_n 2, 1) from by decide +kernel
theorem k133_87 {L : Nat} {xs : Nat → Int32} : decode (am_cd (am_me (tb_P L xs) 133)) 87 = .ok (.iload_n 3, 1) := show decode (am_cd (tb_me 133)) 87 = .ok (.iload_n 3, 1) from by decide +kernel
theorem k133_88 {L : Nat} {xs : Nat → Int32} : decode (am_cd (am_me (tb_P L xs) 133)) 88 = .ok (.invokevirtual 155, 3) := show decode (am_cd (tb_me 133)) 88 = .ok (.invokevirtual 155, 3) from by decide +kernel
theorem s133_88 {L : Nat} {xs : Nat → Int32} : am_sp (tb_P L xs) 133 155 = none := show tb_spF 133 155 = none from by decide +kernel
theorem c133_88 {L : Nat} {xs : Nat → Int32} : am_ca (tb_P L xs) 133 155 = some (136, 2, 1) := show tb_caF 133 155 = some (136, 2, 1) from by decide +kernel
theorem r133_88 {L : Nat} {xs : Nat → Int32} : am_rf (am_me (tb_P L xs) 136) + 1 ≤ am_rf (am_me (tb_P L xs) 133) ∧ 0 + (am_ml (am_me (tb_P L xs) 136) + 11) + am_rl (am_me (tb_P L xs) 136) ≤ am_rl (am_me (tb_P L xs) 133) := show am_rf (tb_me 136) + 1 ≤ am_rf (tb_me 133) ∧ 0 + (am_ml (tb_me 136) + 11) + am_rl (tb_me 136) ≤ am_rl (tb_me 133) from by decide +kernel
theorem k133_91 {L : Nat} {xs : Nat → Int32} : decode (am_cd (am_me (tb_P L xs) 133)) 91 = .ok (.ireturn, 1) := show decode (am_cd (tb_me 133)) 91 = .ok (.ireturn, 1) from by decide +kernel
theorem k133_92 {L : Nat} {xs : Nat → Int32} : decode (am_cd (am_me (tb_P L xs) 133)) 92 = .ok (.aload_n 0, 1) := show decode (am_cd (tb_me 133)) 92 = .ok (.aload_n 0, 1) from by decide +kernel
theorem k133_93 {L : Nat} {xs : Nat → Int32} : decode (am_cd (am_me (tb_P L xs) 133)) 93 = .ok (.iload_n 2, 1) := show decode (am_cd (tb_me 133)) 93 = .ok (.iload_n 2, 1) from by decide +kernel
theorem k133_94 {L : Nat} {xs : Nat → Int32} : decode (am_cd (am_me (tb_P L xs) 133)) 94 = .ok (.iload_n 3, 1) := show decode (am_cd (tb_me 133)) 94 = .ok (.iload_n 3, 1) from by decide +kernel
theorem k133_95 {L : Nat} {xs : Nat → Int32} : decode (am_cd (am_me (tb_P L xs) 133)) 95 = .ok (.invokevirtual 158, 3) := show decode (am_cd (tb_me 133)) 95 = .ok (.invokevirtual 158, 3) from by decide +kernel
theorem s133_95 {L : Nat} {xs : Nat → Int32} : am_sp (tb_P L xs) 133 158 = none := show tb_spF 133 158 = none from by decide +kernel
theorem c133_95 {L : Nat} {xs : Nat → Int32} : am_ca (tb_P L xs) 133 158 = some (138, 2, 1) := show tb_caF 133 158 = some (138, 2, 1) from by decide +kernel
theorem r133_95 {L : Nat} {xs : Nat → Int32} : am_rf (am_me (tb_P L xs) 138) + 1 ≤ am_rf (am_me (tb_P L xs) 133) ∧ 0 + (am_ml (am_me (tb_P L xs) 138) + 11) + am_rl (am_me (tb_P L xs) 138) ≤ am_rl (am_me (tb_P L xs) 133) := show am_rf (tb_me 138) + 1 ≤ am_rf (tb_me 133) ∧ 0 + (am_ml (tb_me 138) + 11) + am_rl (tb_me 138) ≤ am_rl (tb_me 133) from by decide +kernel
theorem k133_98 {L : Nat} {xs : Nat → Int32} : decode (am_cd (am_me (tb_P L xs) 133)) 98 = .ok (.istore 5, 2) := show decode (am_cd (tb_me 133)) 98 = .ok (.istore 5, 2) from by decide +kernel
theorem k133_100 {L : Nat} {xs : Nat → Int32} : decode (am_cd (am_me (tb_P L xs) 133)) 100 = .ok (.iload_n 1, 1) := show decode (am_cd (tb_me 133)) 100 = .ok (.iload_n 1, 1) from by decide +kernel
theorem k133_101 {L : Nat} {xs : Nat → Int32} : decode (am_cd (am_me (tb_P L xs) 133)) 101 = .ok (.iconst 3, 1) := show decode (am_cd (tb_me 133)) 101 = .ok (.iconst 3, 1) from by decide +kernel
theorem k133_102 {L : Nat} {xs : Nat → Int32} : decode (am_cd (am_me (tb_P L xs) 133)) 102 = .ok (.if_icmp .ne 22, 3) := show decode (am_cd (tb_me 133)) 102 = .ok (.if_icmp .ne 22, 3) from by decide +kernel
theorem k133_105 {L : Nat} {xs : Nat → Int32} : decode (am_cd (am_me (tb_P L xs) 133)) 105 = .ok (.iload 5, 2) := show decode (am_cd (tb_me 133)) 105 = .ok (.iload 5, 2) from by decide +kernel
theorem k133_107 {L : Nat} {xs : Nat → Int32} : decode (am_cd (am_me (tb_P L xs) 133)) 107 = .ok (.ifCond .eq 11, 3) := show decode (am_cd (tb_me 133)) 107 = .ok (.ifCond .eq 11, 3) from by decide +kernel
theorem k133_110 {L : Nat} {xs : Nat → Int32} : decode (am_cd (am_me (tb_P L xs) 133)) 110 = .ok (.aload_n 0, 1) := show decode (am_cd (tb_me 133)) 110 = .ok (.aload_n 0, 1) from by decide +kernel
theorem k133_111 {L : Nat} {xs : Nat → Int32} : decode (am_cd (am_me (tb_P L xs) 133)) 111 = .ok (.iconst 1, 1) := show decode (am_cd (tb_me 133)) 111 = .ok (.iconst 1, 1) from by decide +kernel
theorem k133_112 {L : Nat} {xs : Nat → Int32} : decode (am_cd (am_me (tb_P L xs) 133)) 112 = .ok (.invokevirtual 161, 3) := show decode (am_cd (tb_me 133)) 112 = .ok (.invokevirtual 161, 3) from by decide +kernel
theorem s133_112 {L : Nat} {xs : Nat → Int32} : am_sp (tb_P L xs) 133 161 = none := show tb_spF 133 161 = none from by decide +kernel
theorem c133_112 {L : Nat} {xs : Nat → Int32} : am_ca (tb_P L xs) 133 161 = some (126, 1, 1) := show tb_caF 133 161 = some (126, 1, 1) from by decide +kernel
theorem r133_112 {L : Nat} {xs : Nat → Int32} : am_rf (am_me (tb_P L xs) 126) + 1 ≤ am_rf (am_me (tb_P L xs) 133) ∧ 0 + (am_ml (am_me (tb_P L xs) 126) + 11) + am_rl (am_me (tb_P L xs) 126) ≤ am_rl (am_me (tb_P L xs) 133) := show am_rf (tb_me 126) + 1 ≤ am_rf (tb_me 133) ∧ 0 + (am_ml (tb_me 126) + 11) + am_rl (tb_me 126) ≤ am_rl (tb_me 133) from by decide +kernel
theorem k133_115 {L : Nat} {xs : Nat → Int32} : decode (am_cd (am_me (tb_P L xs) 133)) 115 = .ok (.ifCond .eq 7, 3) := show decode (am_cd (tb_me 133)) 115 = .ok (.ifCond .eq 7, 3) from by decide +kernel
theorem k133_118 {L : Nat} {xs : Nat → Int32} : decode (am_cd (am_me (tb_P L xs) 133)) 118 = .ok (.iconst 1, 1) := show decode (am_cd (tb_me 133)) 118 = .ok (.iconst 1, 1) from by decide +kernel
theorem k133_119 {L : Nat} {xs : Nat → Int32} : decode (am_cd (am_me (tb_P L xs) 133)) 119 = .ok (.goto 4, 3) := show decode (am_cd (tb_me 133)) 119 = .ok (.goto 4, 3) from by decide +kernel
theorem k133_122 {L : Nat} {xs : Nat → Int32} : decode (am_cd (am_me (tb_P L xs) 133)) 122 = .ok (.iconst 0, 1) := show decode (am_cd (tb_me 133)) 122 = .ok (.iconst 0, 1) from by decide +kernel
theorem k133_123 {L : Nat} {xs : Nat → Int32} : decode (am_cd (am_me (tb_P L xs) 133)) 123 = .ok (.ireturn, 1) := show decode (am_cd (tb_me 133)) 123 = .ok (.ireturn, 1) from by decide +kernel
theorem k133_124 {L : Nat} {xs : Nat → Int32} : decode (am_cd (am_me (tb_P L xs) 133)) 124 = .ok (.aload_n 0, 1) := show decode (am_cd (tb_me 133)) 124 = .ok (.aload_n 0, 1) from by decide +kernel
theorem k133_125 {L : Nat} {xs : Nat → Int32} : decode (am_cd (am_me (tb_P L xs) 133)) 125 = .ok (.getfield 59, 3) := show decode (am_cd (tb_me 133)) 125 = .ok (.getfield 59, 3) from by decide +kernel
theorem f133_125 {L : Nat} {xs : Nat → Int32} : am_fd (tb_P L xs) 133 59 = some (8, 20, (.int : FieldType), true) := show tb_fdF 133 59 = some (8, 20, (.int : FieldType), true) from by decide +kernel
theorem k133_128 {L : Nat} {xs : Nat → Int32} : decode (am_cd (am_me (tb_P L xs) 133)) 128 = .ok (.iconst (-1), 1) := show decode (am_cd (tb_me 133)) 128 = .ok (.iconst (-1), 1) from by decide +kernel
theorem k133_129 {L : Nat} {xs : Nat → Int32} : decode (am_cd (am_me (tb_P L xs) 133)) 129 = .ok (.if_icmp .ne 7, 3) := show decode (am_cd (tb_me 133)) 129 = .ok (.if_icmp .ne 7, 3) from by decide +kernel
theorem k133_132 {L : Nat} {xs : Nat → Int32} : decode (am_cd (am_me (tb_P L xs) 133)) 132 = .ok (.iconst 0, 1) := show decode (am_cd (tb_me 133)) 132 = .ok (.iconst 0, 1) from by decide +kernel
theorem k133_133 {L : Nat} {xs : Nat → Int32} : decode (am_cd (am_me (tb_P L xs) 133)) 133 = .ok (.goto 13, 3) := show decode (am_cd (tb_me 133)) 133 = .ok (.goto 13, 3) from by decide +kernel
theorem k133_136 {L : Nat} {xs : Nat → Int32} : decode (am_cd (am_me (tb_P L xs) 133)) 136 = .ok (.aload_n 0, 1) := show decode (am_cd (tb_me 133)) 136 = .ok (.aload_n 0, 1) from by decide +kernel
theorem k133_137 {L : Nat} {xs : Nat → Int32} : decode (am_cd (am_me (tb_P L xs) 133)) 137 = .ok (.aload_n 0, 1) := show decode (am_cd (tb_me 133)) 137 = .ok (.aload_n 0, 1) from by decide +kernel
theorem k133_138 {L : Nat} {xs : Nat → Int32} : decode (am_cd (am_me (tb_P L xs) 133)) 138 = .ok (.getfield 59, 3) := show decode (am_cd (tb_me 133)) 138 = .ok (.getfield 59, 3) from by decide +kernel
theorem f133_138 {L : Nat} {xs : Nat → Int32} : am_fd (tb_P L xs) 133 59 = some (8, 20, (.int : FieldType), true) := show tb_fdF 133 59 = some (8, 20, (.int : FieldType), true) from by decide +kernel
theorem k133_141 {L : Nat} {xs : Nat → Int32} : decode (am_cd (am_me (tb_P L xs) 133)) 141 = .ok (.iconst 0, 1) := show decode (am_cd (tb_me 133)) 141 = .ok (.iconst 0, 1) from by decide +kernel
theorem k133_142 {L : Nat} {xs : Nat → Int32} : decode (am_cd (am_me (tb_P L xs) 133)) 142 = .ok (.iconst 0, 1) := show decode (am_cd (tb_me 133)) 142 = .ok (.iconst 0, 1) from by decide +kernel
theorem k133_143 {L : Nat} {xs : Nat → Int32} : decode (am_cd (am_me (tb_P L xs) 133)) 143 = .ok (.invokevirtual 133, 3) := show decode (am_cd (tb_me 133)) 143 = .ok (.invokevirtual 133, 3) from by decide +kernel
theorem s133_143 {L : Nat} {xs : Nat → Int32} : am_sp (tb_P L xs) 133 133 = none := show tb_spF 133 133 = none from by decide +kernel
theorem c133_143 {L : Nat} {xs : Nat → Int32} : am_ca (tb_P L xs) 133 133 = some (128, 3, 1) := show tb_caF 133 133 = some (128, 3, 1) from by decide +kernel
theorem r133_143 {L : Nat} {xs : Nat → Int32} : am_rf (am_me (tb_P L xs) 128) + 1 ≤ am_rf (am_me (tb_P L xs) 133) ∧ 0 + (am_ml (am_me (tb_P L xs) 128) + 11) + am_rl (am_me (tb_P L xs) 128) ≤ am_rl (am_me (tb_P L xs) 133) := show am_rf (tb_me 128) + 1 ≤ am_rf (tb_me 133) ∧ 0 + (am_ml (tb_me 128) + 11) + am_rl (tb_me 128) ≤ am_rl (tb_me 133) from by decide +kernel
theorem k133_146 {L : Nat} {xs : Nat → Int32} : decode (am_cd (am_me (tb_P L xs) 133)) 146 = .ok (.istore 6, 2) := show decode (am_cd (tb_me 133)) 146 = .ok (.istore 6, 2) from by decide +kernel
theorem k133_148 {L : Nat} {xs : Nat → Int32} : decode (am_cd (am_me (tb_P L xs) 133)) 148 = .ok (.aload_n 0, 1) := show decode (am_cd (tb_me 133)) 148 = .ok (.aload_n 0, 1) from by decide +kernel
theorem k133_149 {L : Nat} {xs : Nat → Int32} : decode (am_cd (am_me (tb_P L xs) 133)) 149 = .ok (.getfield 59, 3) := show decode (am_cd (tb_me 133)) 149 = .ok (.getfield 59, 3) from by decide +kernel
theorem f133_149 {L : Nat} {xs : Nat → Int32} : am_fd (tb_P L xs) 133 59 = some (8, 20, (.int : FieldType), true) := show tb_fdF 133 59 = some (8, 20, (.int : FieldType), true) from by decide +kernel
theorem k133_152 {L : Nat} {xs : Nat → Int32} : decode (am_cd (am_me (tb_P L xs) 133)) 152 = .ok (.iconst (-1), 1) := show decode (am_cd (tb_me 133)) 152 = .ok (.iconst (-1), 1) from by decide +kernel
theorem k133_153 {L : Nat} {xs : Nat → Int32} : decode (am_cd (am_me (tb_P L xs) 133)) 153 = .ok (.if_icmp .ne 7, 3) := show decode (am_cd (tb_me 133)) 153 = .ok (.if_icmp .ne 7, 3) from by decide +kernel
theorem k133_156 {L : Nat} {xs : Nat → Int32} : decode (am_cd (am_me (tb_P L xs) 133)) 156 = .ok (.iconst 0, 1) := show decode (am_cd (tb_me 133)) 156 = .ok (.iconst 0, 1) from by decide +kernel
theorem k133_157 {L : Nat} {xs : Nat → Int32} : decode (am_cd (am_me (tb_P L xs) 133)) 157 = .ok (.goto 13, 3) := show decode (am_cd (tb_me 133)) 157 = .ok (.goto 13, 3) from by decide +kernel
theorem k133_160 {L : Nat} {xs : Nat → Int32} : decode (am_cd (am_me (tb_P L xs) 133)) 160 = .ok (.aload_n 0, 1) := show decode (am_cd (tb_me 133)) 160 = .ok (.aload_n 0, 1) from by decide +kernel
theorem k133_161 {L : Nat} {xs : Nat → Int32} : decode (am_cd (am_me (tb_P L xs) 133)) 161 = .ok (.aload_n 0, 1) := show decode (am_cd (tb_me 133)) 161 = .ok (.aload_n 0, 1) from by decide +kernel
theorem k133_162 {L : Nat} {xs : Nat → Int32} : decode (am_cd (am_me (tb_P L xs) 133)) 162 = .ok (.getfield 59, 3) := show decode (am_cd (tb_me 133)) 162 = .ok (.getfield 59, 3) from by decide +kernel
theorem f133_162 {L : Nat} {xs : Nat → Int32} : am_fd (tb_P L xs) 133 59 = some (8, 20, (.int : FieldType), true) := show tb_fdF 133 59 = some (8, 20, (.int : FieldType), true) from by decide +kernel
theorem k133_165 {L : Nat} {xs : Nat → Int32} : decode (am_cd (am_me (tb_P L xs) 133)) 165 = .ok (.iconst 1, 1) := show decode (am_cd (tb_me 133)) 165 = .ok (.iconst 1, 1) from by decide +kernel
theorem k133_166 {L : Nat} {xs : Nat → Int32} : decode (am_cd (am_me (tb_P L xs) 133)) 166 = .ok (.iconst 0, 1) := show decode (am_cd (tb_me 133)) 166 = .ok (.iconst 0, 1) from by decide +kernel
theorem k133_167 {L : Nat} {xs : Nat → Int32} : decode (am_cd (am_me (tb_P L xs) 133)) 167 = .ok (.invokevirtual 133, 3) := show decode (am_cd (tb_me 133)) 167 = .ok (.invokevirtual 133, 3) from by decide +kernel
theorem s133_167 {L : Nat} {xs : Nat → Int32} : am_sp (tb_P L xs) 133 133 = none := show tb_spF 133 133 = none from by decide +kernel
theorem c133_167 {L : Nat} {xs : Nat → Int32} : am_ca (tb_P L xs) 133 133 = some (128, 3, 1) := show tb_caF 133 133 = some (128, 3, 1) from by decide +kernel
theorem r133_167 {L : Nat} {xs : Nat → Int32} : am_rf (am_me (tb_P L xs) 128) + 1 ≤ am_rf (am_me (tb_P L xs) 133) ∧ 0 + (am_ml (am_me (tb_P L xs) 128) + 11) + am_rl (am_me (tb_P L xs) 128) ≤ am_rl (am_me (tb_P L xs) 133) := show am_rf (tb_me 128) + 1 ≤ am_rf (tb_me 133) ∧ 0 + (am_ml (tb_me 128) + 11) + am_rl (tb_me 128) ≤ am_rl (tb_me 133) from by decide +kernel
theorem k133_170 {L : Nat} {xs : Nat → Int32} : decode (am_cd (am_me (tb_P L xs) 133)) 170 = .ok (.istore 7, 2) := show decode (am_cd (tb_me 133)) 170 = .ok (.istore 7, 2) from by decide +kernel
theorem k133_172 {L : Nat} {xs : Nat → Int32} : decode (am_cd (am_me (tb_P L xs) 133)) 172 = .ok (.iload 6, 2) := show decode (am_cd (tb_me 133)) 172 = .ok (.iload 6, 2) from by decide +kernel
theorem k133_174 {L : Nat} {xs : Nat → Int32} : decode (am_cd (am_me (tb_P L xs) 133)) 174 = .ok (.ifCond .lt 19, 3) := show decode (am_cd (tb_me 133)) 174 = .ok (.ifCond .lt 19, 3) from by decide +kernel
theorem k133_177 {L : Nat} {xs : Nat → Int32} : decode (am_cd (am_me (tb_P L xs) 133)) 177 = .ok (.iload 5, 2) := show decode (am_cd (tb_me 133)) 177 = .ok (.iload 5, 2) from by decide +kernel
theorem k133_179 {L : Nat} {xs : Nat → Int32} : decode (am_cd (am_me (tb_P L xs) 133)) 179 = .ok (.ifCond .eq 10, 3) := show decode (am_cd (tb_me 133)) 179 = .ok (.ifCond .eq 10, 3) from by decide +kernel
theorem k133_182 {L : Nat} {xs : Nat → Int32} : decode (am_cd (am_me (tb_P L xs) 133)) 182 = .ok (.iload 7, 2) := show decode (am_cd (tb_me 133)) 182 = .ok (.iload 7, 2) from by decide +kernel
theorem k133_184 {L : Nat} {xs : Nat → Int32} : decode (am_cd (am_me (tb_P L xs) 133)) 184 = .ok (.iload 6, 2) := show decode (am_cd (tb_me 133)) 184 = .ok (.iload 6, 2) from by decide +kernel
theorem k133_186 {L : Nat} {xs : Nat → Int32} : decode (am_cd (am_me (tb_P L xs) 133)) 186 = .ok (.if_icmp .ge 7, 3) := show decode (am_cd (tb_me 133)) 186 = .ok (.if_icmp .ge 7, 3) from by decide +kernel
theorem k133_189 {L : Nat} {xs : Nat → Int32} : decode (am_cd (am_me (tb_P L xs) 133)) 189 = .ok (.iconst 1, 1) := show decode (am_cd (tb_me 133)) 189 = .ok (.iconst 1, 1) from by decide +kernel
theorem k133_190 {L : Nat} {xs : Nat → Int32} : decode (am_cd (am_me (tb_P L xs) 133)) 190 = .ok (.goto 4, 3) := show decode (am_cd (tb_me 133)) 190 = .ok (.goto 4, 3) from by decide +kernel
theorem k133_193 {L : Nat} {xs : Nat → Int32} : decode (am_cd (am_me (tb_P L xs) 133)) 193 = .ok (.iconst 0, 1) := show decode (am_cd (tb_me 133)) 193 = .ok (.iconst 0, 1) from by decide +kernel
theorem k133_194 {L : Nat} {xs : Nat → Int32} : decode (am_cd (am_me (tb_P L xs) 133)) 194 = .ok (.ireturn, 1) := show decode (am_cd (tb_me 133)) 194 = .ok (.ireturn, 1) from by decide +kernel
theorem t133 {L : Nat} {xs : Nat → Int32} : am_rt (am_me (tb_P L xs) 133) = some (.boolean : FieldType) := show am_rt (tb_me 133) = some (.boolean : FieldType) from by decide +kernel
theorem l133 {L : Nat} {xs : Nat → Int32} : am_ml (am_me (tb_P L xs) 133) = 8 := show am_ml (tb_me 133) = 8 from by decide +kernel
theorem o133 {L : Nat} {xs : Nat → Int32} (pc : Nat) : am_no (tb_P L xs) 133 pc = true := show (am_hd (tb_me 133)).all (fun q => !(decide (q.1 ≤ pc) && decide (pc < q.2.1))) = true from by rw [show am_hd (tb_me 133) = [] by decide +kernel]; rfl
theorem k134_0 {L : Nat} {xs : Nat → Int32} : decode (am_cd (am_me (tb_P L xs) 134)) 0 = .ok (.iconst 3, 1) := show decode (am_cd (tb_me 134)) 0 = .ok (.iconst 3, 1) from by decide +kernel
theorem k134_1 {L : Nat} {xs : Nat → Int32} : decode (am_cd (am_me (tb_P L xs) 134)) 1 = .ok (.aload_n 0, 1) := show decode (am_cd (tb_me 134)) 1 = .ok (.aload_n 0, 1) from by decide +kernel
theorem k134_2 {L : Nat} {xs : Nat → Int32} : decode (am_cd (am_me (tb_P L xs) 134)) 2 = .ok (.getfield 35, 3) := show decode (am_cd (tb_me 134)) 2 = .ok (.getfield 35, 3) from by decide +kernel
theorem f134_2 {L : Nat} {xs : Nat → Int32} : am_fd (tb_P L xs) 134 35 = some (8, 12, (.array .int : FieldType), true) := show tb_fdF 134 35 = some (8, 12, (.array .int : FieldType), true) from by decide +kernel
theorem k134_5 {L : Nat} {xs : Nat → Int32} : decode (am_cd (am_me (tb_P L xs) 134)) 5 = .ok (.iload_n 1, 1) := show decode (am_cd (tb_me 134)) 5 = .ok (.iload_n 1, 1) from by decide +kernel
theorem k134_6 {L : Nat} {xs : Nat → Int32} : decode (am_cd (am_me (tb_P L xs) 134)) 6 = .ok (.iaload, 1) := show decode (am_cd (tb_me 134)) 6 = .ok (.iaload, 1) from by decide +kernel
theorem k134_7 {L : Nat} {xs : Nat → Int32} : decode (am_cd (am_me (tb_P L xs) 134)) 7 = .ok (.imul, 1) := show decode (am_cd (tb_me 134)) 7 = .ok (.imul, 1) from by decide +kernel
theorem k134_8 {L : Nat} {xs : Nat → Int32} : decode (am_cd (am_me (tb_P L xs) 134)) 8 = .ok (.istore_n 3, 1) := show decode (am_cd (tb_me 134)) 8 = .ok (.istore_n 3, 1) from by decide +kernel
theorem k134_9 {L : Nat} {xs : Nat → Int32} : decode (am_cd (am_me (tb_P L xs) 134)) 9 = .ok (.iload_n 3, 1) := show decode (am_cd (tb_me 134)) 9 = .ok (.iload_n 3, 1) from by decide +kernel
theorem k134_10 {L : Nat} {xs : Nat → Int32} : decode (am_cd (am_me (tb_P L xs) 134)) 10 = .ok (.iconst 3, 1) := show decode (am_cd (tb_me 134)) 10 = .ok (.iconst 3, 1) from by decide +kernel
theorem k134_11 {L : Nat} {xs : Nat → Int32} : decode (am_cd (am_me (tb_P L xs) 134)) 11 = .ok (.aload_n 0, 1) := show decode (am_cd (tb_me 134)) 11 = .ok (.aload_n 0, 1) from by decide +kernel
theorem k134_12 {L : Nat} {xs : Nat → Int32} : decode (am_cd (am_me (tb_P L xs) 134)) 12 = .ok (.getfield 35, 3) := show decode (am_cd (tb_me 134)) 12 = .ok (.getfield 35, 3) from by decide +kernel
theorem f134_12 {L : Nat} {xs : Nat → Int32} : am_fd (tb_P L xs) 134 35 = some (8, 12, (.array .int : FieldType), true) := show tb_fdF 134 35 = some (8, 12, (.array .int : FieldType), true) from by decide +kernel
theorem k134_15 {L : Nat} {xs : Nat → Int32} : decode (am_cd (am_me (tb_P L xs) 134)) 15 = .ok (.iload_n 1, 1) := show decode (am_cd (tb_me 134)) 15 = .ok (.iload_n 1, 1) from by decide +kernel
theorem k134_16 {L : Nat} {xs : Nat → Int32} : decode (am_cd (am_me (tb_P L xs) 134)) 16 = .ok (.iaload, 1) := show decode (am_cd (tb_me 134)) 16 = .ok (.iaload, 1) from by decide +kernel
theorem k134_17 {L : Nat} {xs : Nat → Int32} : decode (am_cd (am_me (tb_P L xs) 134)) 17 = .ok (.imul, 1) := show decode (am_cd (tb_me 134)) 17 = .ok (.imul, 1) from by decide +kernel
theorem k134_18 {L : Nat} {xs : Nat → Int32} : decode (am_cd (am_me (tb_P L xs) 134)) 18 = .ok (.iconst 3, 1) := show decode (am_cd (tb_me 134)) 18 = .ok (.iconst 3, 1) from by decide +kernel
theorem k134_19 {L : Nat} {xs : Nat → Int32} : decode (am_cd (am_me (tb_P L xs) 134)) 19 = .ok (.iadd, 1) := show decode (am_cd (tb_me 134)) 19 = .ok (.iadd, 1) from by decide +kernel
theorem k134_20 {L : Nat} {xs : Nat → Int32} : decode (am_cd (am_me (tb_P L xs) 134)) 20 = .ok (.if_icmp .ge 51, 3) := show decode (am_cd (tb_me 134)) 20 = .ok (.if_icmp .ge 51, 3) from by decide +kernel
theorem k134_23 {L : Nat} {xs : Nat → Int32} : decode (am_cd (am_me (tb_P L xs) 134)) 23 = .ok (.aload_n 0, 1) := show decode (am_cd (tb_me 134)) 23 = .ok (.aload_n 0, 1) from by decide +kernel
theorem k134_24 {L : Nat} {xs : Nat → Int32} : decode (am_cd (am_me (tb_P L xs) 134)) 24 = .ok (.getfield 47, 3) := show decode (am_cd (tb_me 134)) 24 = .ok (.getfield 47, 3) from by decide +kernel
theorem f134_24 {L : Nat} {xs : Nat → Int32} : am_fd (tb_P L xs) 134 47 = some (8, 16, (.array .int : FieldType), true) := show tb_fdF 134 47 = some (8, 16, (.array .int : FieldType), true) from by decide +kernel
theorem k134_27 {L : Nat} {xs : Nat → Int32} : decode (am_cd (am_me (tb_P L xs) 134)) 27 = .ok (.bipush 6, 2) := show decode (am_cd (tb_me 134)) 27 = .ok (.bipush 6, 2) from by decide +kernel
theorem k134_29 {L : Nat} {xs : Nat → Int32} : decode (am_cd (am_me (tb_P L xs) 134)) 29 = .ok (.iload_n 1, 1) := show decode (am_cd (tb_me 134)) 29 = .ok (.iload_n 1, 1) from by decide +kernel
theorem k134_30 {L : Nat} {xs : Nat → Int32} : decode (am_cd (am_me (tb_P L xs) 134)) 30 = .ok (.imul, 1) := show decode (am_cd (tb_me 134)) 30 = .ok (.imul, 1) from by decide +kernel
theorem k134_31 {L : Nat} {xs : Nat → Int32} : decode (am_cd (am_me (tb_P L xs) 134)) 31 = .ok (.iload_n 3, 1) := show decode (am_cd (tb_me 134)) 31 = .ok (.iload_n 3, 1) from by decide +kernel
theorem k134_32 {L : Nat} {xs : Nat → Int32} : decode (am_cd (am_me (tb_P L xs) 134)) 32 = .ok (.iadd, 1) := show decode (am_cd (tb_me 134)) 32 = .ok (.iadd, 1) from by decide +kernel
theorem k134_33 {L : Nat} {xs : Nat → Int32} : decode (am_cd (am_me (tb_P L xs) 134)) 33 = .ok (.iaload, 1) := show decode (am_cd (tb_me 134)) 33 = .ok (.iaload, 1) from by decide +kernel
theorem k134_34 {L : Nat} {xs : Nat → Int32} : decode (am_cd (am_me (tb_P L xs) 134)) 34 = .ok (.istore 4, 2) := show decode (am_cd (tb_me 134)) 34 = .ok (.istore 4, 2) from by decide +kernel
theorem k134_36 {L : Nat} {xs : Nat → Int32} : decode (am_cd (am_me (tb_P L xs) 134)) 36 = .ok (.aload_n 0, 1) := show decode (am_cd (tb_me 134)) 36 = .ok (.aload_n 0, 1) from by decide +kernel
theorem k134_37 {L : Nat} {xs : Nat → Int32} : decode (am_cd (am_me (tb_P L xs) 134)) 37 = .ok (.getfield 66, 3) := show decode (am_cd (tb_me 134)) 37 = .ok (.getfield 66, 3) from by decide +kernel
theorem f134_37 {L : Nat} {xs : Nat → Int32} : am_fd (tb_P L xs) 134 66 = some (8, 22, (.array .int : FieldType), true) := show tb_fdF 134 66 = some (8, 22, (.array .int : FieldType), true) from by decide +kernel
theorem k134_40 {L : Nat} {xs : Nat → Int32} : decode (am_cd (am_me (tb_P L xs) 134)) 40 = .ok (.iload_n 3, 1) := show decode (am_cd (tb_me 134)) 40 = .ok (.iload_n 3, 1) from by decide +kernel
theorem k134_41 {L : Nat} {xs : Nat → Int32} : decode (am_cd (am_me (tb_P L xs) 134)) 41 = .ok (.iload 4, 2) := show decode (am_cd (tb_me 134)) 41 = .ok (.iload 4, 2) from by decide +kernel
theorem k134_43 {L : Nat} {xs : Nat → Int32} : decode (am_cd (am_me (tb_P L xs) 134)) 43 = .ok (.iconst (-1), 1) := show decode (am_cd (tb_me 134)) 43 = .ok (.iconst (-1), 1) from by decide +kernel
theorem k134_44 {L : Nat} {xs : Nat → Int32} : decode (am_cd (am_me (tb_P L xs) 134)) 44 = .ok (.if_icmp .ne 12, 3) := show decode (am_cd (tb_me 134)) 44 = .ok (.if_icmp .ne 12, 3) from by decide +kernel
theorem k134_47 {L : Nat} {xs : Nat → Int32} : decode (am_cd (am_me (tb_P L xs) 134)) 47 = .ok (.aload_n 0, 1) := show decode (am_cd (tb_me 134)) 47 = .ok (.aload_n 0, 1) from by decide +kernel
theorem k134_48 {L : Nat} {xs : Nat → Int32} : decode (am_cd (am_me (tb_P L xs) 134)) 48 = .ok (.getfield 63, 3) := show decode (am_cd (tb_me 134)) 48 = .ok (.getfield 63, 3) from by decide +kernel
theorem f134_48 {L : Nat} {xs : Nat → Int32} : am_fd (tb_P L xs) 134 63 = some (8, 21, (.array .int : FieldType), true) := show tb_fdF 134 63 = some (8, 21, (.array .int : FieldType), true) from by decide +kernel
theorem k134_51 {L : Nat} {xs : Nat → Int32} : decode (am_cd (am_me (tb_P L xs) 134)) 51 = .ok (.iload_n 3, 1) := show decode (am_cd (tb_me 134)) 51 = .ok (.iload_n 3, 1) from by decide +kernel
theorem k134_52 {L : Nat} {xs : Nat → Int32} : decode (am_cd (am_me (tb_P L xs) 134)) 52 = .ok (.iaload, 1) := show decode (am_cd (tb_me 134)) 52 = .ok (.iaload, 1) from by decide +kernel
theorem k134_53 {L : Nat} {xs : Nat → Int32} : decode (am_cd (am_me (tb_P L xs) 134)) 53 = .ok (.goto 11, 3) := show decode (am_cd (tb_me 134)) 53 = .ok (.goto 11, 3) from by decide +kernel
theorem k134_56 {L : Nat} {xs : Nat → Int32} : decode (am_cd (am_me (tb_P L xs) 134)) 56 = .ok (.aload_n 0, 1) := show decode (am_cd (tb_me 134)) 56 = .ok (.aload_n 0, 1) from by decide +kernel
theorem k134_57 {L : Nat} {xs : Nat → Int32} : decode (am_cd (am_me (tb_P L xs) 134)) 57 = .ok (.iload 4, 2) := show decode (am_cd (tb_me 134)) 57 = .ok (.iload 4, 2) from by decide +kernel
theorem k134_59 {L : Nat} {xs : Nat → Int32} : decode (am_cd (am_me (tb_P L xs) 134)) 59 = .ok (.iconst 0, 1) := show decode (am_cd (tb_me 134)) 59 = .ok (.iconst 0, 1) from by decide +kernel
theorem k134_60 {L : Nat} {xs : Nat → Int32} : decode (am_cd (am_me (tb_P L xs) 134)) 60 = .ok (.iload_n 2, 1) := show decode (am_cd (tb_me 134)) 60 = .ok (.iload_n 2, 1) from by decide +kernel
theorem k134_61 {L : Nat} {xs : Nat → Int32} : decode (am_cd (am_me (tb_P L xs) 134)) 61 = .ok (.invokevirtual 133, 3) := show decode (am_cd (tb_me 134)) 61 = .ok (.invokevirtual 133, 3) from by decide +kernel
theorem s134_61 {L : Nat} {xs : Nat → Int32} : am_sp (tb_P L xs) 134 133 = none := show tb_spF 134 133 = none from by decide +kernel
theorem c134_61 {L : Nat} {xs : Nat → Int32} : am_ca (tb_P L xs) 134 133 = some (128, 3, 1) := show tb_caF 134 133 = some (128, 3, 1) from by decide +kernel
theorem r134_61 {L : Nat} {xs : Nat → Int32} : am_rf (am_me (tb_P L xs) 128) + 1 ≤ am_rf (am_me (tb_P L xs) 134) ∧ 2 + (am_ml (am_me (tb_P L xs) 128) + 11) + am_rl (am_me (tb_P L xs) 128) ≤ am_rl (am_me (tb_P L xs) 134) := show am_rf (tb_me 128) + 1 ≤ am_rf (tb_me 134) ∧ 2 + (am_ml (tb_me 128) + 11) + am_rl (tb_me 128) ≤ am_rl (tb_me 134) from by decide +kernel
theorem k134_64 {L : Nat} {xs : Nat → Int32} : decode (am_cd (am_me (tb_P L xs) 134)) 64 = .ok (.iastore, 1) := show decode (am_cd (tb_me 134)) 64 = .ok (.iastore, 1) from by decide +kernel
theorem k134_65 {L : Nat} {xs : Nat → Int32} : decode (am_cd (am_me (tb_P L xs) 134)) 65 = .ok (.iinc 3 1, 3) := show decode (am_cd (tb_me 134)) 65 = .ok (.iinc 3 1, 3) from by decide +kernel
theorem k134_68 {L : Nat} {xs : Nat → Int32} : decode (am_cd (am_me (tb_P L xs) 134)) 68 = .ok (.goto (-59), 3) := show decode (am_cd (tb_me 134)) 68 = .ok (.goto (-59), 3) from by decide +kernel
theorem k134_71 {L : Nat} {xs : Nat → Int32} : decode (am_cd (am_me (tb_P L xs) 134)) 71 = .ok (.return_, 1) := show decode (am_cd (tb_me 134)) 71 = .ok (.return_, 1) from by decide +kernel
theorem t134 {L : Nat} {xs : Nat → Int32} : am_rt (am_me (tb_P L xs) 134) = none := show am_rt (tb_me 134) = none from by decide +kernel
theorem l134 {L : Nat} {xs : Nat → Int32} : am_ml (am_me (tb_P L xs) 134) = 5 := show am_ml (tb_me 134) = 5 from by decide +kernel
theorem o134 {L : Nat} {xs : Nat → Int32} (pc : Nat) : am_no (tb_P L xs) 134 pc = true := show (am_hd (tb_me 134)).all (fun q => !(decide (q.1 ≤ pc) && decide (pc < q.2.1))) = true from by rw [show am_hd (tb_me 134) = [] by decide +kernel]; rfl
theorem k135_0 {L : Nat} {xs : Nat → Int32} : decode (am_cd (am_me (tb_P L xs) 135)) 0 = .ok (.iconst 1, 1) := show decode (am_cd (tb_me 135)) 0 = .ok (.iconst 1, 1) from by decide +kernel
theorem k135_1 {L : Nat} {xs : Nat → Int32} : decode (am_cd (am_me (tb_P L xs) 135)) 1 = .ok (.istore_n 3, 1) := show decode (am_cd (tb_me 135)) 1 = .ok (.istore_n 3, 1) from by decide +kernel
theorem k135_2 {L : Nat} {xs : Nat → Int32} : decode (am_cd (am_me (tb_P L xs) 135)) 2 = .ok (.iload_n 1, 1) := show decode (am_cd (tb_me 135)) 2 = .ok (.iload_n 1, 1) from by decide +kernel
theorem k135_3 {L : Nat} {xs : Nat → Int32} : decode (am_cd (am_me (tb_P L xs) 135)) 3 = .ok (.istore 4, 2) := show decode (am_cd (tb_me 135)) 3 = .ok (.istore 4, 2) from by decide +kernel
theorem k135_5 {L : Nat} {xs : Nat → Int32} : decode (am_cd (am_me (tb_P L xs) 135)) 5 = .ok (.iload 4, 2) := show decode (am_cd (tb_me 135)) 5 = .ok (.iload 4, 2) from by decide +kernel
theorem k135_7 {L : Nat} {xs : Nat → Int32} : decode (am_cd (am_me (tb_P L xs) 135)) 7 = .ok (.iload_n 2, 1) := show decode (am_cd (tb_me 135)) 7 = .ok (.iload_n 2, 1) from by decide +kernel
theorem k135_8 {L : Nat} {xs : Nat → Int32} : decode (am_cd (am_me (tb_P L xs) 135)) 8 = .ok (.if_icmp .ge 46, 3) := show decode (am_cd (tb_me 135)) 8 = .ok (.if_icmp .ge 46, 3) from by decide +kernel
theorem k135_11 {L : Nat} {xs : Nat → Int32} : decode (am_cd (am_me (tb_P L xs) 135)) 11 = .ok (.iload_n 3, 1) := show decode (am_cd (tb_me 135)) 11 = .ok (.iload_n 3, 1) from by decide +kernel
theorem k135_12 {L : Nat} {xs : Nat → Int32} : decode (am_cd (am_me (tb_P L xs) 135)) 12 = .ok (.ifCond .eq 34, 3) := show decode (am_cd (tb_me 135)) 12 = .ok (.ifCond .eq 34, 3) from by decide +kernel
theorem k135_15 {L : Nat} {xs : Nat → Int32} : decode (am_cd (am_me (tb_P L xs) 135)) 15 = .ok (.aload_n 0, 1) := show decode (am_cd (tb_me 135)) 15 = .ok (.aload_n 0, 1) from by decide +kernel
theorem k135_16 {L : Nat} {xs : Nat → Int32} : decode (am_cd (am_me (tb_P L xs) 135)) 16 = .ok (.getfield 66, 3) := show decode (am_cd (tb_me 135)) 16 = .ok (.getfield 66, 3) from by decide +kernel
theorem f135_16 {L : Nat} {xs : Nat → Int32} : am_fd (tb_P L xs) 135 66 = some (8, 22, (.array .int : FieldType), true) := show tb_fdF 135 66 = some (8, 22, (.array .int : FieldType), true) from by decide +kernel
theorem k135_19 {L : Nat} {xs : Nat → Int32} : decode (am_cd (am_me (tb_P L xs) 135)) 19 = .ok (.iload 4, 2) := show decode (am_cd (tb_me 135)) 19 = .ok (.iload 4, 2) from by decide +kernel
theorem k135_21 {L : Nat} {xs : Nat → Int32} : decode (am_cd (am_me (tb_P L xs) 135)) 21 = .ok (.iaload, 1) := show decode (am_cd (tb_me 135)) 21 = .ok (.iaload, 1) from by decide +kernel
theorem k135_22 {L : Nat} {xs : Nat → Int32} : decode (am_cd (am_me (tb_P L xs) 135)) 22 = .ok (.ifCond .lt 24, 3) := show decode (am_cd (tb_me 135)) 22 = .ok (.ifCond .lt 24, 3) from by decide +kernel
theorem k135_25 {L : Nat} {xs : Nat → Int32} : decode (am_cd (am_me (tb_P L xs) 135)) 25 = .ok (.aload_n 0, 1) := show decode (am_cd (tb_me 135)) 25 = .ok (.aload_n 0, 1) from by decide +kernel
theorem k135_26 {L : Nat} {xs : Nat → Int32} : decode (am_cd (am_me (tb_P L xs) 135)) 26 = .ok (.getfield 66, 3) := show decode (am_cd (tb_me 135)) 26 = .ok (.getfield 66, 3) from by decide +kernel
theorem f135_26 {L : Nat} {xs : Nat → Int32} : am_fd (tb_P L xs) 135 66 = some (8, 22, (.array .int : FieldType), true) := show tb_fdF 135 66 = some (8, 22, (.array .int : FieldType), true) from by decide +kernel
theorem k135_29 {L : Nat} {xs : Nat → Int32} : decode (am_cd (am_me (tb_P L xs) 135)) 29 = .ok (.iload 4, 2) := show decode (am_cd (tb_me 135)) 29 = .ok (.iload 4, 2) from by decide +kernel
theorem k135_31 {L : Nat} {xs : Nat → Int32} : decode (am_cd (am_me (tb_P L xs) 135)) 31 = .ok (.iaload, 1) := show decode (am_cd (tb_me 135)) 31 = .ok (.iaload, 1) from by decide +kernel
theorem k135_32 {L : Nat} {xs : Nat → Int32} : decode (am_cd (am_me (tb_P L xs) 135)) 32 = .ok (.aload_n 0, 1) := show decode (am_cd (tb_me 135)) 32 = .ok (.aload_n 0, 1) from by decide +kernel
theorem k135_33 {L : Nat} {xs : Nat → Int32} : decode (am_cd (am_me (tb_P L xs) 135)) 33 = .ok (.getfield 7, 3) := show decode (am_cd (tb_me 135)) 33 = .ok (.getfield 7, 3) from by decide +kernel
theorem f135_33 {L : Nat} {xs : Nat → Int32} : am_fd (tb_P L xs) 135 7 = some (8, 1, (.array .int : FieldType), true) := show tb_fdF 135 7 = some (8, 1, (.array .int : FieldType), true) from by decide +kernel
theorem k135_36 {L : Nat} {xs : Nat → Int32} : decode (am_cd (am_me (tb_P L xs) 135)) 36 = .ok (.iload 4, 2) := show decode (am_cd (tb_me 135)) 36 = .ok (.iload 4, 2) from by decide +kernel
theorem k135_38 {L : Nat} {xs : Nat → Int32} : decode (am_cd (am_me (tb_P L xs) 135)) 38 = .ok (.iaload, 1) := show decode (am_cd (tb_me 135)) 38 = .ok (.iaload, 1) from by decide +kernel
theorem k135_39 {L : Nat} {xs : Nat → Int32} : decode (am_cd (am_me (tb_P L xs) 135)) 39 = .ok (.if_icmp .ge 7, 3) := show decode (am_cd (tb_me 135)) 39 = .ok (.if_icmp .ge 7, 3) from by decide +kernel
theorem k135_42 {L : Nat} {xs : Nat → Int32} : decode (am_cd (am_me (tb_P L xs) 135)) 42 = .ok (.iconst 1, 1) := show decode (am_cd (tb_me 135)) 42 = .ok (.iconst 1, 1) from by decide +kernel
theorem k135_43 {L : Nat} {xs : Nat → Int32} : decode (am_cd (am_me (tb_P L xs) 135)) 43 = .ok (.goto 4, 3) := show decode (am_cd (tb_me 135)) 43 = .ok (.goto 4, 3) from by decide +kernel
theorem k135_46 {L : Nat} {xs : Nat → Int32} : decode (am_cd (am_me (tb_P L xs) 135)) 46 = .ok (.iconst 0, 1) := show decode (am_cd (tb_me 135)) 46 = .ok (.iconst 0, 1) from by decide +kernel
theorem k135_47 {L : Nat} {xs : Nat → Int32} : decode (am_cd (am_me (tb_P L xs) 135)) 47 = .ok (.istore_n 3, 1) := show decode (am_cd (tb_me 135)) 47 = .ok (.istore_n 3, 1) from by decide +kernel
theorem k135_48 {L : Nat} {xs : Nat → Int32} : decode (am_cd (am_me (tb_P L xs) 135)) 48 = .ok (.iinc 4 1, 3) := show decode (am_cd (tb_me 135)) 48 = .ok (.iinc 4 1, 3) from by decide +kernel
theorem k135_51 {L : Nat} {xs : Nat → Int32} : decode (am_cd (am_me (tb_P L xs) 135)) 51 = .ok (.goto (-46), 3) := show decode (am_cd (tb_me 135)) 51 = .ok (.goto (-46), 3) from by decide +kernel
theorem k135_54 {L : Nat} {xs : Nat → Int32} : decode (am_cd (am_me (tb_P L xs) 135)) 54 = .ok (.iload_n 3, 1) := show decode (am_cd (tb_me 135)) 54 = .ok (.iload_n 3, 1) from by decide +kernel
theorem k135_55 {L : Nat} {xs : Nat → Int32} : decode (am_cd (am_me (tb_P L xs) 135)) 55 = .ok (.ireturn, 1) := show decode (am_cd (tb_me 135)) 55 = .ok (.ireturn, 1) from by decide +kernel
theorem t135 {L : Nat} {xs : Nat → Int32} : am_rt (am_me (tb_P L xs) 135) = some (.boolean : FieldType) := show am_rt (tb_me 135) = some (.boolean : FieldType) from by decide +kernel
theorem l135 {L : Nat} {xs : Nat → Int32} : am_ml (am_me (tb_P L xs) 135) = 5 := show am_ml (tb_me 135) = 5 from by decide +kernel
theorem o135 {L : Nat} {xs : Nat → Int32} (pc : Nat) : am_no (tb_P L xs) 135 pc = true := show (am_hd (tb_me 135)).all (fun q => !(decide (q.1 ≤ pc) && decide (pc < q.2.1))) = true from by rw [show am_hd (tb_me 135) = [] by decide +kernel]; rfl
theorem k136_0 {L : Nat} {xs : Nat → Int32} : decode (am_cd (am_me (tb_P L xs) 136)) 0 = .ok (.aload_n 0, 1) := show decode (am_cd (tb_me 136)) 0 = .ok (.aload_n 0, 1) from by decide +kernel
theorem k136_1 {L : Nat} {xs : Nat → Int32} : decode (am_cd (am_me (tb_P L xs) 136)) 1 = .ok (.getfield 41, 3) := show decode (am_cd (tb_me 136)) 1 = .ok (.getfield 41, 3) from by decide +kernel
theorem f136_1 {L : Nat} {xs : Nat → Int32} : am_fd (tb_P L xs) 136 41 = some (8, 14, (.array .int : FieldType), true) := show tb_fdF 136 41 = some (8, 14, (.array .int : FieldType), true) from by decide +kernel
theorem k136_4 {L : Nat} {xs : Nat → Int32} : decode (am_cd (am_me (tb_P L xs) 136)) 4 = .ok (.iload_n 1, 1) := show decode (am_cd (tb_me 136)) 4 = .ok (.iload_n 1, 1) from by decide +kernel
theorem k136_5 {L : Nat} {xs : Nat → Int32} : decode (am_cd (am_me (tb_P L xs) 136)) 5 = .ok (.iaload, 1) := show decode (am_cd (tb_me 136)) 5 = .ok (.iaload, 1) from by decide +kernel
theorem k136_6 {L : Nat} {xs : Nat → Int32} : decode (am_cd (am_me (tb_P L xs) 136)) 6 = .ok (.istore_n 3, 1) := show decode (am_cd (tb_me 136)) 6 = .ok (.istore_n 3, 1) from by decide +kernel
theorem k136_7 {L : Nat} {xs : Nat → Int32} : decode (am_cd (am_me (tb_P L xs) 136)) 7 = .ok (.iload_n 3, 1) := show decode (am_cd (tb_me 136)) 7 = .ok (.iload_n 3, 1) from by decide +kernel
theorem k136_8 {L : Nat} {xs : Nat → Int32} : decode (am_cd (am_me (tb_P L xs) 136)) 8 = .ok (.iconst (-1), 1) := show decode (am_cd (tb_me 136)) 8 = .ok (.iconst (-1), 1) from by decide +kernel
theorem k136_9 {L : Nat} {xs : Nat → Int32} : decode (am_cd (am_me (tb_P L xs) 136)) 9 = .ok (.if_icmp .ne 5, 3) := show decode (am_cd (tb_me 136)) 9 = .ok (.if_icmp .ne 5, 3) from by decide +kernel
theorem k136_12 {L : Nat} {xs : Nat → Int32} : decode (am_cd (am_me (tb_P L xs) 136)) 12 = .ok (.iconst 1, 1) := show decode (am_cd (tb_me 136)) 12 = .ok (.iconst 1, 1) from by decide +kernel
theorem k136_13 {L : Nat} {xs : Nat → Int32} : decode (am_cd (am_me (tb_P L xs) 136)) 13 = .ok (.ireturn, 1) := show decode (am_cd (tb_me 136)) 13 = .ok (.ireturn, 1) from by decide +kernel
theorem k136_14 {L : Nat} {xs : Nat → Int32} : decode (am_cd (am_me (tb_P L xs) 136)) 14 = .ok (.aload_n 0, 1) := show decode (am_cd (tb_me 136)) 14 = .ok (.aload_n 0, 1) from by decide +kernel
theorem k136_15 {L : Nat} {xs : Nat → Int32} : decode (am_cd (am_me (tb_P L xs) 136)) 15 = .ok (.iload_n 1, 1) := show decode (am_cd (tb_me 136)) 15 = .ok (.iload_n 1, 1) from by decide +kernel
theorem k136_16 {L : Nat} {xs : Nat → Int32} : decode (am_cd (am_me (tb_P L xs) 136)) 16 = .ok (.iload_n 2, 1) := show decode (am_cd (tb_me 136)) 16 = .ok (.iload_n 2, 1) from by decide +kernel
theorem k136_17 {L : Nat} {xs : Nat → Int32} : decode (am_cd (am_me (tb_P L xs) 136)) 17 = .ok (.invokevirtual 145, 3) := show decode (am_cd (tb_me 136)) 17 = .ok (.invokevirtual 145, 3) from by decide +kernel
theorem s136_17 {L : Nat} {xs : Nat → Int32} : am_sp (tb_P L xs) 136 145 = none := show tb_spF 136 145 = none from by decide +kernel
theorem c136_17 {L : Nat} {xs : Nat → Int32} : am_ca (tb_P L xs) 136 145 = some (137, 2, 1) := show tb_caF 136 145 = some (137, 2, 1) from by decide +kernel
theorem r136_17 {L : Nat} {xs : Nat → Int32} : am_rf (am_me (tb_P L xs) 137) + 1 ≤ am_rf (am_me (tb_P L xs) 136) ∧ 0 + (am_ml (am_me (tb_P L xs) 137) + 11) + am_rl (am_me (tb_P L xs) 137) ≤ am_rl (am_me (tb_P L xs) 136) := show am_rf (tb_me 137) + 1 ≤ am_rf (tb_me 136) ∧ 0 + (am_ml (tb_me 137) + 11) + am_rl (tb_me 137) ≤ am_rl (tb_me 136) from by decide +kernel
theorem k136_20 {L : Nat} {xs : Nat → Int32} : decode (am_cd (am_me (tb_P L xs) 136)) 20 = .ok (.istore 4, 2) := show decode (am_cd (tb_me 136)) 20 = .ok (.istore 4, 2) from by decide +kernel
theorem k136_22 {L : Nat} {xs : Nat → Int32} : decode (am_cd (am_me (tb_P L xs) 136)) 22 = .ok (.iload 4, 2) := show decode (am_cd (tb_me 136)) 22 = .ok (.iload 4, 2) from by decide +kernel
theorem k136_24 {L : Nat} {xs : Nat → Int32} : decode (am_cd (am_me (tb_P L xs) 136)) 24 = .ok (.ifCond .lt 28, 3) := show decode (am_cd (tb_me 136)) 24 = .ok (.ifCond .lt 28, 3) from by decide +kernel
theorem k136_27 {L : Nat} {xs : Nat → Int32} : decode (am_cd (am_me (tb_P L xs) 136)) 27 = .ok (.iload 4, 2) := show decode (am_cd (tb_me 136)) 27 = .ok (.iload 4, 2) from by decide +kernel
theorem k136_29 {L : Nat} {xs : Nat → Int32} : decode (am_cd (am_me (tb_P L xs) 136)) 29 = .ok (.aload_n 0, 1) := show decode (am_cd (tb_me 136)) 29 = .ok (.aload_n 0, 1) from by decide +kernel
theorem k136_30 {L : Nat} {xs : Nat → Int32} : decode (am_cd (am_me (tb_P L xs) 136)) 30 = .ok (.getfield 38, 3) := show decode (am_cd (tb_me 136)) 30 = .ok (.getfield 38, 3) from by decide +kernel
theorem f136_30 {L : Nat} {xs : Nat → Int32} : am_fd (tb_P L xs) 136 38 = some (8, 13, (.array .int : FieldType), true) := show tb_fdF 136 38 = some (8, 13, (.array .int : FieldType), true) from by decide +kernel
theorem k136_33 {L : Nat} {xs : Nat → Int32} : decode (am_cd (am_me (tb_P L xs) 136)) 33 = .ok (.iload_n 3, 1) := show decode (am_cd (tb_me 136)) 33 = .ok (.iload_n 3, 1) from by decide +kernel
theorem k136_34 {L : Nat} {xs : Nat → Int32} : decode (am_cd (am_me (tb_P L xs) 136)) 34 = .ok (.iaload, 1) := show decode (am_cd (tb_me 136)) 34 = .ok (.iaload, 1) from by decide +kernel
theorem k136_35 {L : Nat} {xs : Nat → Int32} : decode (am_cd (am_me (tb_P L xs) 136)) 35 = .ok (.if_icmp .ge 17, 3) := show decode (am_cd (tb_me 136)) 35 = .ok (.if_icmp .ge 17, 3) from by decide +kernel
theorem k136_38 {L : Nat} {xs : Nat → Int32} : decode (am_cd (am_me (tb_P L xs) 136)) 38 = .ok (.aload_n 0, 1) := show decode (am_cd (tb_me 136)) 38 = .ok (.aload_n 0, 1) from by decide +kernel
theorem k136_39 {L : Nat} {xs : Nat → Int32} : decode (am_cd (am_me (tb_P L xs) 136)) 39 = .ok (.iload_n 3, 1) := show decode (am_cd (tb_me 136)) 39 = .ok (.iload_n 3, 1) from by decide +kernel
theorem k136_40 {L : Nat} {xs : Nat → Int32} : decode (am_cd (am_me (tb_P L xs) 136)) 40 = .ok (.iload 4, 2) := show decode (am_cd (tb_me 136)) 40 = .ok (.iload 4, 2) from by decide +kernel
theorem k136_42 {L : Nat} {xs : Nat → Int32} : decode (am_cd (am_me (tb_P L xs) 136)) 42 = .ok (.invokevirtual 152, 3) := show decode (am_cd (tb_me 136)) 42 = .ok (.invokevirtual 152, 3) from by decide +kernel
theorem s136_42 {L : Nat} {xs : Nat → Int32} : am_sp (tb_P L xs) 136 152 = none := show tb_spF 136 152 = none from by decide +kernel
theorem c136_42 {L : Nat} {xs : Nat → Int32} : am_ca (tb_P L xs) 136 152 = some (132, 2, 1) := show tb_caF 136 152 = some (132, 2, 1) from by decide +kernel
theorem r136_42 {L : Nat} {xs : Nat → Int32} : am_rf (am_me (tb_P L xs) 132) + 1 ≤ am_rf (am_me (tb_P L xs) 136) ∧ 0 + (am_ml (am_me (tb_P L xs) 132) + 11) + am_rl (am_me (tb_P L xs) 132) ≤ am_rl (am_me (tb_P L xs) 136) := show am_rf (tb_me 132) + 1 ≤ am_rf (tb_me 136) ∧ 0 + (am_ml (tb_me 132) + 11) + am_rl (tb_me 132) ≤ am_rl (tb_me 136) from by decide +kernel
theorem k136_45 {L : Nat} {xs : Nat → Int32} : decode (am_cd (am_me (tb_P L xs) 136)) 45 = .ok (.ifCond .eq 7, 3) := show decode (am_cd (tb_me 136)) 45 = .ok (.ifCond .eq 7, 3) from by decide +kernel
theorem k136_48 {L : Nat} {xs : Nat → Int32} : decode (am_cd (am_me (tb_P L xs) 136)) 48 = .ok (.iconst 1, 1) := show decode (am_cd (tb_me 136)) 48 = .ok (.iconst 1, 1) from by decide +kernel
theorem k136_49 {L : Nat} {xs : Nat → Int32} : decode (am_cd (am_me (tb_P L xs) 136)) 49 = .ok (.goto 4, 3) := show decode (am_cd (tb_me 136)) 49 = .ok (.goto 4, 3) from by decide +kernel
theorem k136_52 {L : Nat} {xs : Nat → Int32} : decode (am_cd (am_me (tb_P L xs) 136)) 52 = .ok (.iconst 0, 1) := show decode (am_cd (tb_me 136)) 52 = .ok (.iconst 0, 1) from by decide +kernel
theorem k136_53 {L : Nat} {xs : Nat → Int32} : decode (am_cd (am_me (tb_P L xs) 136)) 53 = .ok (.ireturn, 1) := show decode (am_cd (tb_me 136)) 53 = .ok (.ireturn, 1) from by decide +kernel
theorem t136 {L : Nat} {xs : Nat → Int32} : am_rt (am_me (tb_P L xs) 136) = some (.boolean : FieldType) := show am_rt (tb_me 136) = some (.boolean : FieldType) from by decide +kernel
theorem l136 {L : Nat} {xs : Nat → Int32} : am_ml (am_me (tb_P L xs) 136) = 5 := show am_ml (tb_me 136) = 5 from by decide +kernel
theorem o136 {L : Nat} {xs : Nat → Int32} (pc : Nat) : am_no (tb_P L xs) 136 pc = true := show (am_hd (tb_me 136)).all (fun q => !(decide (q.1 ≤ pc) && decide (pc < q.2.1))) = true from by rw [show am_hd (tb_me 136) = [] by decide +kernel]; rfl
theorem k137_0 {L : Nat} {xs : Nat → Int32} : decode (am_cd (am_me (tb_P L xs) 137)) 0 = .ok (.aload_n 0, 1) := show decode (am_cd (tb_me 137)) 0 = .ok (.aload_n 0, 1) from by decide +kernel
theorem k137_1 {L : Nat} {xs : Nat → Int32} : decode (am_cd (am_me (tb_P L xs) 137)) 1 = .ok (.getfield 50, 3) := show decode (am_cd (tb_me 137)) 1 = .ok (.getfield 50, 3) from by decide +kernel
theorem f137_1 {L : Nat} {xs : Nat → Int32} : am_fd (tb_P L xs) 137 50 = some (8, 17, (.array .int : FieldType), true) := show tb_fdF 137 50 = some (8, 17, (.array .int : FieldType), true) from by decide +kernel
theorem k137_4 {L : Nat} {xs : Nat → Int32} : decode (am_cd (am_me (tb_P L xs) 137)) 4 = .ok (.iload_n 1, 1) := show decode (am_cd (tb_me 137)) 4 = .ok (.iload_n 1, 1) from by decide +kernel
theorem k137_5 {L : Nat} {xs : Nat → Int32} : decode (am_cd (am_me (tb_P L xs) 137)) 5 = .ok (.iaload, 1) := show decode (am_cd (tb_me 137)) 5 = .ok (.iaload, 1) from by decide +kernel
theorem k137_6 {L : Nat} {xs : Nat → Int32} : decode (am_cd (am_me (tb_P L xs) 137)) 6 = .ok (.iconst (-1), 1) := show decode (am_cd (tb_me 137)) 6 = .ok (.iconst (-1), 1) from by decide +kernel
theorem k137_7 {L : Nat} {xs : Nat → Int32} : decode (am_cd (am_me (tb_P L xs) 137)) 7 = .ok (.if_icmp .ne 7, 3) := show decode (am_cd (tb_me 137)) 7 = .ok (.if_icmp .ne 7, 3) from by decide +kernel
theorem k137_10 {L : Nat} {xs : Nat → Int32} : decode (am_cd (am_me (tb_P L xs) 137)) 10 = .ok (.iconst 0, 1) := show decode (am_cd (tb_me 137)) 10 = .ok (.iconst 0, 1) from by decide +kernel
theorem k137_11 {L : Nat} {xs : Nat → Int32} : decode (am_cd (am_me (tb_P L xs) 137)) 11 = .ok (.goto 15, 3) := show decode (am_cd (tb_me 137)) 11 = .ok (.goto 15, 3) from by decide +kernel
theorem k137_14 {L : Nat} {xs : Nat → Int32} : decode (am_cd (am_me (tb_P L xs) 137)) 14 = .ok (.aload_n 0, 1) := show decode (am_cd (tb_me 137)) 14 = .ok (.aload_n 0, 1) from by decide +kernel
theorem k137_15 {L : Nat} {xs : Nat → Int32} : decode (am_cd (am_me (tb_P L xs) 137)) 15 = .ok (.aload_n 0, 1) := show decode (am_cd (tb_me 137)) 15 = .ok (.aload_n 0, 1) from by decide +kernel
theorem k137_16 {L : Nat} {xs : Nat → Int32} : decode (am_cd (am_me (tb_P L xs) 137)) 16 = .ok (.getfield 50, 3) := show decode (am_cd (tb_me 137)) 16 = .ok (.getfield 50, 3) from by decide +kernel
theorem f137_16 {L : Nat} {xs : Nat → Int32} : am_fd (tb_P L xs) 137 50 = some (8, 17, (.array .int : FieldType), true) := show tb_fdF 137 50 = some (8, 17, (.array .int : FieldType), true) from by decide +kernel
theorem k137_19 {L : Nat} {xs : Nat → Int32} : decode (am_cd (am_me (tb_P L xs) 137)) 19 = .ok (.iload_n 1, 1) := show decode (am_cd (tb_me 137)) 19 = .ok (.iload_n 1, 1) from by decide +kernel
theorem k137_20 {L : Nat} {xs : Nat → Int32} : decode (am_cd (am_me (tb_P L xs) 137)) 20 = .ok (.iaload, 1) := show decode (am_cd (tb_me 137)) 20 = .ok (.iaload, 1) from by decide +kernel
theorem k137_21 {L : Nat} {xs : Nat → Int32} : decode (am_cd (am_me (tb_P L xs) 137)) 21 = .ok (.iconst 0, 1) := show decode (am_cd (tb_me 137)) 21 = .ok (.iconst 0, 1) from by decide +kernel
theorem k137_22 {L : Nat} {xs : Nat → Int32} : decode (am_cd (am_me (tb_P L xs) 137)) 22 = .ok (.iload_n 2, 1) := show decode (am_cd (tb_me 137)) 22 = .ok (.iload_n 2, 1) from by decide +kernel
theorem k137_23 {L : Nat} {xs : Nat → Int32} : decode (am_cd (am_me (tb_P L xs) 137)) 23 = .ok (.invokevirtual 133, 3) := show decode (am_cd (tb_me 137)) 23 = .ok (.invokevirtual 133, 3) from by decide +kernel
theorem s137_23 {L : Nat} {xs : Nat → Int32} : am_sp (tb_P L xs) 137 133 = none := show tb_spF 137 133 = none from by decide +kernel
theorem c137_23 {L : Nat} {xs : Nat → Int32} : am_ca (tb_P L xs) 137 133 = some (128, 3, 1) := show tb_caF 137 133 = some (128, 3, 1) from by decide +kernel
theorem r137_23 {L : Nat} {xs : Nat → Int32} : am_rf (am_me (tb_P L xs) 128) + 1 ≤ am_rf (am_me (tb_P L xs) 137) ∧ 0 + (am_ml (am_me (tb_P L xs) 128) + 11) + am_rl (am_me (tb_P L xs) 128) ≤ am_rl (am_me (tb_P L xs) 137) := show am_rf (tb_me 128) + 1 ≤ am_rf (tb_me 137) ∧ 0 + (am_ml (tb_me 128) + 11) + am_rl (tb_me 128) ≤ am_rl (tb_me 137) from by decide +kernel
theorem k137_26 {L : Nat} {xs : Nat → Int32} : decode (am_cd (am_me (tb_P L xs) 137)) 26 = .ok (.ireturn, 1) := show decode (am_cd (tb_me 137)) 26 = .ok (.ireturn, 1) from by decide +kernel
theorem t137 {L : Nat} {xs : Nat → Int32} : am_rt (am_me (tb_P L xs) 137) = some (.int : FieldType) := show am_rt (tb_me 137) = some (.int : FieldType) from by decide +kernel
theorem l137 {L : Nat} {xs : Nat → Int32} : am_ml (am_me (tb_P L xs) 137) = 3 := show am_ml (tb_me 137) = 3 from by decide +kernel
theorem o137 {L : Nat} {xs : Nat → Int32} (pc : Nat) : am_no (tb_P L xs) 137 pc = true := show (am_hd (tb_me 137)).all (fun q => !(decide (q.1 ≤ pc) && decide (pc < q.2.1))) = true from by rw [show am_hd (tb_me 137) = [] by decide +kernel]; rfl
theorem k138_0 {L : Nat} {xs : Nat → Int32} : decode (am_cd (am_me (tb_P L xs) 138)) 0 = .ok (.iconst 0, 1) := show decode (am_cd (tb_me 138)) 0 = .ok (.iconst 0, 1) from by decide +kernel
theorem k138_1 {L : Nat} {xs : Nat → Int32} : decode (am_cd (am_me (tb_P L xs) 138)) 1 = .ok (.istore_n 3, 1) := show decode (am_cd (tb_me 138)) 1 = .ok (.istore_n 3, 1) from by decide +kernel
theorem k138_2 {L : Nat} {xs : Nat → Int32} : decode (am_cd (am_me (tb_P L xs) 138)) 2 = .ok (.iload_n 3, 1) := show decode (am_cd (tb_me 138)) 2 = .ok (.iload_n 3, 1) from by decide +kernel
theorem k138_3 {L : Nat} {xs : Nat → Int32} : decode (am_cd (am_me (tb_P L xs) 138)) 3 = .ok (.bipush 6, 2) := show decode (am_cd (tb_me 138)) 3 = .ok (.bipush 6, 2) from by decide +kernel
theorem k138_5 {L : Nat} {xs : Nat → Int32} : decode (am_cd (am_me (tb_P L xs) 138)) 5 = .ok (.if_icmp .ge 21, 3) := show decode (am_cd (tb_me 138)) 5 = .ok (.if_icmp .ge 21, 3) from by decide +kernel
theorem k138_8 {L : Nat} {xs : Nat → Int32} : decode (am_cd (am_me (tb_P L xs) 138)) 8 = .ok (.aload_n 0, 1) := show decode (am_cd (tb_me 138)) 8 = .ok (.aload_n 0, 1) from by decide +kernel
theorem k138_9 {L : Nat} {xs : Nat → Int32} : decode (am_cd (am_me (tb_P L xs) 138)) 9 = .ok (.getfield 66, 3) := show decode (am_cd (tb_me 138)) 9 = .ok (.getfield 66, 3) from by decide +kernel
theorem f138_9 {L : Nat} {xs : Nat → Int32} : am_fd (tb_P L xs) 138 66 = some (8, 22, (.array .int : FieldType), true) := show tb_fdF 138 66 = some (8, 22, (.array .int : FieldType), true) from by decide +kernel
theorem k138_12 {L : Nat} {xs : Nat → Int32} : decode (am_cd (am_me (tb_P L xs) 138)) 12 = .ok (.iload_n 3, 1) := show decode (am_cd (tb_me 138)) 12 = .ok (.iload_n 3, 1) from by decide +kernel
theorem k138_13 {L : Nat} {xs : Nat → Int32} : decode (am_cd (am_me (tb_P L xs) 138)) 13 = .ok (.aload_n 0, 1) := show decode (am_cd (tb_me 138)) 13 = .ok (.aload_n 0, 1) from by decide +kernel
theorem k138_14 {L : Nat} {xs : Nat → Int32} : decode (am_cd (am_me (tb_P L xs) 138)) 14 = .ok (.getfield 63, 3) := show decode (am_cd (tb_me 138)) 14 = .ok (.getfield 63, 3) from by decide +kernel
theorem f138_14 {L : Nat} {xs : Nat → Int32} : am_fd (tb_P L xs) 138 63 = some (8, 21, (.array .int : FieldType), true) := show tb_fdF 138 63 = some (8, 21, (.array .int : FieldType), true) from by decide +kernel
theorem k138_17 {L : Nat} {xs : Nat → Int32} : decode (am_cd (am_me (tb_P L xs) 138)) 17 = .ok (.iload_n 3, 1) := show decode (am_cd (tb_me 138)) 17 = .ok (.iload_n 3, 1) from by decide +kernel
theorem k138_18 {L : Nat} {xs : Nat → Int32} : decode (am_cd (am_me (tb_P L xs) 138)) 18 = .ok (.iaload, 1) := show decode (am_cd (tb_me 138)) 18 = .ok (.iaload, 1) from by decide +kernel
theorem k138_19 {L : Nat} {xs : Nat → Int32} : decode (am_cd (am_me (tb_P L xs) 138)) 19 = .ok (.iastore, 1) := show decode (am_cd (tb_me 138)) 19 = .ok (.iastore, 1) from by decide +kernel
theorem k138_20 {L : Nat} {xs : Nat → Int32} : decode (am_cd (am_me (tb_P L xs) 138)) 20 = .ok (.iinc 3 1, 3) := show decode (am_cd (tb_me 138)) 20 = .ok (.iinc 3 1, 3) from by decide +kernel
theorem k138_23 {L : Nat} {xs : Nat → Int32} : decode (am_cd (am_me (tb_P L xs) 138)) 23 = .ok (.goto (-21), 3) := show decode (am_cd (tb_me 138)) 23 = .ok (.goto (-21), 3) from by decide +kernel
theorem k138_26 {L : Nat} {xs : Nat → Int32} : decode (am_cd (am_me (tb_P L xs) 138)) 26 = .ok (.aload_n 0, 1) := show decode (am_cd (tb_me 138)) 26 = .ok (.aload_n 0, 1) from by decide +kernel
theorem k138_27 {L : Nat} {xs : Nat → Int32} : decode (am_cd (am_me (tb_P L xs) 138)) 27 = .ok (.iload_n 1, 1) := show decode (am_cd (tb_me 138)) 27 = .ok (.iload_n 1, 1) from by decide +kernel
theorem k138_28 {L : Nat} {xs : Nat → Int32} : decode (am_cd (am_me (tb_P L xs) 138)) 28 = .ok (.iload_n 2, 1) := show decode (am_cd (tb_me 138)) 28 = .ok (.iload_n 2, 1) from by decide +kernel
theorem k138_29 {L : Nat} {xs : Nat → Int32} : decode (am_cd (am_me (tb_P L xs) 138)) 29 = .ok (.invokevirtual 141, 3) := show decode (am_cd (tb_me 138)) 29 = .ok (.invokevirtual 141, 3) from by decide +kernel
theorem s138_29 {L : Nat} {xs : Nat → Int32} : am_sp (tb_P L xs) 138 141 = none := show tb_spF 138 141 = none from by decide +kernel
theorem c138_29 {L : Nat} {xs : Nat → Int32} : am_ca (tb_P L xs) 138 141 = some (134, 2, 1) := show tb_caF 138 141 = some (134, 2, 1) from by decide +kernel
theorem r138_29 {L : Nat} {xs : Nat → Int32} : am_rf (am_me (tb_P L xs) 134) + 1 ≤ am_rf (am_me (tb_P L xs) 138) ∧ 0 + (am_ml (am_me (tb_P L xs) 134) + 11) + am_rl (am_me (tb_P L xs) 134) ≤ am_rl (am_me (tb_P L xs) 138) := show am_rf (tb_me 134) + 1 ≤ am_rf (tb_me 138) ∧ 0 + (am_ml (tb_me 134) + 11) + am_rl (tb_me 134) ≤ am_rl (tb_me 138) from by decide +kernel
theorem k138_32 {L : Nat} {xs : Nat → Int32} : decode (am_cd (am_me (tb_P L xs) 138)) 32 = .ok (.aload_n 0, 1) := show decode (am_cd (tb_me 138)) 32 = .ok (.aload_n 0, 1) from by decide +kernel
theorem k138_33 {L : Nat} {xs : Nat → Int32} : decode (am_cd (am_me (tb_P L xs) 138)) 33 = .ok (.getfield 41, 3) := show decode (am_cd (tb_me 138)) 33 = .ok (.getfield 41, 3) from by decide +kernel
theorem f138_33 {L : Nat} {xs : Nat → Int32} : am_fd (tb_P L xs) 138 41 = some (8, 14, (.array .int : FieldType), true) := show tb_fdF 138 41 = some (8, 14, (.array .int : FieldType), true) from by decide +kernel
theorem k138_36 {L : Nat} {xs : Nat → Int32} : decode (am_cd (am_me (tb_P L xs) 138)) 36 = .ok (.iload_n 1, 1) := show decode (am_cd (tb_me 138)) 36 = .ok (.iload_n 1, 1) from by decide +kernel
theorem k138_37 {L : Nat} {xs : Nat → Int32} : decode (am_cd (am_me (tb_P L xs) 138)) 37 = .ok (.iaload, 1) := show decode (am_cd (tb_me 138)) 37 = .ok (.iaload, 1) from by decide +kernel
theorem k138_38 {L : Nat} {xs : Nat → Int32} : decode (am_cd (am_me (tb_P L xs) 138)) 38 = .ok (.iconst (-1), 1) := show decode (am_cd (tb_me 138)) 38 = .ok (.iconst (-1), 1) from by decide +kernel
theorem k138_39 {L : Nat} {xs : Nat → Int32} : decode (am_cd (am_me (tb_P L xs) 138)) 39 = .ok (.if_icmp .eq 19, 3) := show decode (am_cd (tb_me 138)) 39 = .ok (.if_icmp .eq 19, 3) from by decide +kernel
theorem k138_42 {L : Nat} {xs : Nat → Int32} : decode (am_cd (am_me (tb_P L xs) 138)) 42 = .ok (.aload_n 0, 1) := show decode (am_cd (tb_me 138)) 42 = .ok (.aload_n 0, 1) from by decide +kernel
theorem k138_43 {L : Nat} {xs : Nat → Int32} : decode (am_cd (am_me (tb_P L xs) 138)) 43 = .ok (.aload_n 0, 1) := show decode (am_cd (tb_me 138)) 43 = .ok (.aload_n 0, 1) from by decide +kernel
theorem k138_44 {L : Nat} {xs : Nat → Int32} : decode (am_cd (am_me (tb_P L xs) 138)) 44 = .ok (.getfield 41, 3) := show decode (am_cd (tb_me 138)) 44 = .ok (.getfield 41, 3) from by decide +kernel
theorem f138_44 {L : Nat} {xs : Nat → Int32} : am_fd (tb_P L xs) 138 41 = some (8, 14, (.array .int : FieldType), true) := show tb_fdF 138 41 = some (8, 14, (.array .int : FieldType), true) from by decide +kernel
theorem k138_47 {L : Nat} {xs : Nat → Int32} : decode (am_cd (am_me (tb_P L xs) 138)) 47 = .ok (.iload_n 1, 1) := show decode (am_cd (tb_me 138)) 47 = .ok (.iload_n 1, 1) from by decide +kernel
theorem k138_48 {L : Nat} {xs : Nat → Int32} : decode (am_cd (am_me (tb_P L xs) 138)) 48 = .ok (.iaload, 1) := show decode (am_cd (tb_me 138)) 48 = .ok (.iaload, 1) from by decide +kernel
theorem k138_49 {L : Nat} {xs : Nat → Int32} : decode (am_cd (am_me (tb_P L xs) 138)) 49 = .ok (.aload_n 0, 1) := show decode (am_cd (tb_me 138)) 49 = .ok (.aload_n 0, 1) from by decide +kernel
theorem k138_50 {L : Nat} {xs : Nat → Int32} : decode (am_cd (am_me (tb_P L xs) 138)) 50 = .ok (.iload_n 1, 1) := show decode (am_cd (tb_me 138)) 50 = .ok (.iload_n 1, 1) from by decide +kernel
theorem k138_51 {L : Nat} {xs : Nat → Int32} : decode (am_cd (am_me (tb_P L xs) 138)) 51 = .ok (.iload_n 2, 1) := show decode (am_cd (tb_me 138)) 51 = .ok (.iload_n 2, 1) from by decide +kernel
theorem k138_52 {L : Nat} {xs : Nat → Int32} : decode (am_cd (am_me (tb_P L xs) 138)) 52 = .ok (.invokevirtual 145, 3) := show decode (am_cd (tb_me 138)) 52 = .ok (.invokevirtual 145, 3) from by decide +kernel
theorem s138_52 {L : Nat} {xs : Nat → Int32} : am_sp (tb_P L xs) 138 145 = none := show tb_spF 138 145 = none from by decide +kernel
theorem c138_52 {L : Nat} {xs : Nat → Int32} : am_ca (tb_P L xs) 138 145 = some (137, 2, 1) := show tb_caF 138 145 = some (137, 2, 1) from by decide +kernel
theorem r138_52 {L : Nat} {xs : Nat → Int32} : am_rf (am_me (tb_P L xs) 137) + 1 ≤ am_rf (am_me (tb_P L xs) 138) ∧ 2 + (am_ml (am_me (tb_P L xs) 137) + 11) + am_rl (am_me (tb_P L xs) 137) ≤ am_rl (am_me (tb_P L xs) 138) := show am_rf (tb_me 137) + 1 ≤ am_rf (tb_me 138) ∧ 2 + (am_ml (tb_me 137) + 11) + am_rl (tb_me 137) ≤ am_rl (tb_me 138) from by decide +kernel
theorem k138_55 {L : Nat} {xs : Nat → Int32} : decode (am_cd (am_me (tb_P L xs) 138)) 55 = .ok (.invokevirtual 141, 3) := show decode (am_cd (tb_me 138)) 55 = .ok (.invokevirtual 141, 3) from by decide +kernel
theorem s138_55 {L : Nat} {xs : Nat → Int32} : am_sp (tb_P L xs) 138 141 = none := show tb_spF 138 141 = none from by decide +kernel
theorem c138_55 {L : Nat} {xs : Nat → Int32} : am_ca (tb_P L xs) 138 141 = some (134, 2, 1) := show tb_caF 138 141 = some (134, 2, 1) from by decide +kernel
theorem r138_55 {L : Nat} {xs : Nat → Int32} : am_rf (am_me (tb_P L xs) 134) + 1 ≤ am_rf (am_me (tb_P L xs) 138) ∧ 0 + (am_ml (am_me (tb_P L xs) 134) + 11) + am_rl (am_me (tb_P L xs) 134) ≤ am_rl (am_me (tb_P L xs) 138) := show am_rf (tb_me 134) + 1 ≤ am_rf (tb_me 138) ∧ 0 + (am_ml (tb_me 134) + 11) + am_rl (tb_me 134) ≤ am_rl (tb_me 138) from by decide +kernel
theorem k138_58 {L : Nat} {xs : Nat → Int32} : decode (am_cd (am_me (tb_P L xs) 138)) 58 = .ok (.aload_n 0, 1) := show decode (am_cd (tb_me 138)) 58 = .ok (.aload_n 0, 1) from by decide +kernel
theorem k138_59 {L : Nat} {xs : Nat → Int32} : decode (am_cd (am_me (tb_P L xs) 138)) 59 = .ok (.iconst 0, 1) := show decode (am_cd (tb_me 138)) 59 = .ok (.iconst 0, 1) from by decide +kernel
theorem k138_60 {L : Nat} {xs : Nat → Int32} : decode (am_cd (am_me (tb_P L xs) 138)) 60 = .ok (.bipush 6, 2) := show decode (am_cd (tb_me 138)) 60 = .ok (.bipush 6, 2) from by decide +kernel
theorem k138_62 {L : Nat} {xs : Nat → Int32} : decode (am_cd (am_me (tb_P L xs) 138)) 62 = .ok (.invokevirtual 149, 3) := show decode (am_cd (tb_me 138)) 62 = .ok (.invokevirtual 149, 3) from by decide +kernel
theorem s138_62 {L : Nat} {xs : Nat → Int32} : am_sp (tb_P L xs) 138 149 = none := show tb_spF 138 149 = none from by decide +kernel
theorem c138_62 {L : Nat} {xs : Nat → Int32} : am_ca (tb_P L xs) 138 149 = some (135, 2, 1) := show tb_caF 138 149 = some (135, 2, 1) from by decide +kernel
theorem r138_62 {L : Nat} {xs : Nat → Int32} : am_rf (am_me (tb_P L xs) 135) + 1 ≤ am_rf (am_me (tb_P L xs) 138) ∧ 0 + (am_ml (am_me (tb_P L xs) 135) + 11) + am_rl (am_me (tb_P L xs) 135) ≤ am_rl (am_me (tb_P L xs) 138) := show am_rf (tb_me 135) + 1 ≤ am_rf (tb_me 138) ∧ 0 + (am_ml (tb_me 135) + 11) + am_rl (tb_me 135) ≤ am_rl (tb_me 138) from by decide +kernel
theorem k138_65 {L : Nat} {xs : Nat → Int32} : decode (am_cd (am_me (tb_P L xs) 138)) 65 = .ok (.ireturn, 1) := show decode (am_cd (tb_me 138)) 65 = .ok (.ireturn, 1) from by decide +kernel
theorem t138 {L : Nat} {xs : Nat → Int32} : am_rt (am_me (tb_P L xs) 138) = some (.boolean : FieldType) := show am_rt (tb_me 138) = some (.boolean : FieldType) from by decide +kernel
theorem l138 {L : Nat} {xs : Nat → Int32} : am_ml (am_me (tb_P L xs) 138) = 4 := show am_ml (tb_me 138) = 4 from by decide +kernel
theorem o138 {L : Nat} {xs : Nat → Int32} (pc : Nat) : am_no (tb_P L xs) 138 pc = true := show (am_hd (tb_me 138)).all (fun q => !(decide (q.1 ≤ pc) && decide (pc < q.2.1))) = true from by rw [show am_hd (tb_me 138) = [] by decide +kernel]; rfl
theorem k139_0 {L : Nat} {xs : Nat → Int32} : decode (am_cd (am_me (tb_P L xs) 139)) 0 = .ok (.iload_n 1, 1) := show decode (am_cd (tb_me 139)) 0 = .ok (.iload_n 1, 1) from by decide +kernel
theorem k139_1 {L : Nat} {xs : Nat → Int32} : decode (am_cd (am_me (tb_P L xs) 139)) 1 = .ok (.istore_n 2, 1) := show decode (am_cd (tb_me 139)) 1 = .ok (.istore_n 2, 1) from by decide +kernel
theorem k139_2 {L : Nat} {xs : Nat → Int32} : decode (am_cd (am_me (tb_P L xs) 139)) 2 = .ok (.iload_n 2, 1) := show decode (am_cd (tb_me 139)) 2 = .ok (.iload_n 2, 1) from by decide +kernel
theorem k139_3 {L : Nat} {xs : Nat → Int32} : decode (am_cd (am_me (tb_P L xs) 139)) 3 = .ok (.ifCond .lt 43, 3) := show decode (am_cd (tb_me 139)) 3 = .ok (.ifCond .lt 43, 3) from by decide +kernel
theorem k139_6 {L : Nat} {xs : Nat → Int32} : decode (am_cd (am_me (tb_P L xs) 139)) 6 = .ok (.aload_n 0, 1) := show decode (am_cd (tb_me 139)) 6 = .ok (.aload_n 0, 1) from by decide +kernel
theorem k139_7 {L : Nat} {xs : Nat → Int32} : decode (am_cd (am_me (tb_P L xs) 139)) 7 = .ok (.getfield 63, 3) := show decode (am_cd (tb_me 139)) 7 = .ok (.getfield 63, 3) from by decide +kernel
theorem f139_7 {L : Nat} {xs : Nat → Int32} : am_fd (tb_P L xs) 139 63 = some (8, 21, (.array .int : FieldType), true) := show tb_fdF 139 63 = some (8, 21, (.array .int : FieldType), true) from by decide +kernel
theorem k139_10 {L : Nat} {xs : Nat → Int32} : decode (am_cd (am_me (tb_P L xs) 139)) 10 = .ok (.iload_n 2, 1) := show decode (am_cd (tb_me 139)) 10 = .ok (.iload_n 2, 1) from by decide +kernel
theorem k139_11 {L : Nat} {xs : Nat → Int32} : decode (am_cd (am_me (tb_P L xs) 139)) 11 = .ok (.dup2, 1) := show decode (am_cd (tb_me 139)) 11 = .ok (.dup2, 1) from by decide +kernel
theorem k139_12 {L : Nat} {xs : Nat → Int32} : decode (am_cd (am_me (tb_P L xs) 139)) 12 = .ok (.iaload, 1) := show decode (am_cd (tb_me 139)) 12 = .ok (.iaload, 1) from by decide +kernel
theorem k139_13 {L : Nat} {xs : Nat → Int32} : decode (am_cd (am_me (tb_P L xs) 139)) 13 = .ok (.iconst 1, 1) := show decode (am_cd (tb_me 139)) 13 = .ok (.iconst 1, 1) from by decide +kernel
theorem k139_14 {L : Nat} {xs : Nat → Int32} : decode (am_cd (am_me (tb_P L xs) 139)) 14 = .ok (.iadd, 1) := show decode (am_cd (tb_me 139)) 14 = .ok (.iadd, 1) from by decide +kernel
theorem k139_15 {L : Nat} {xs : Nat → Int32} : decode (am_cd (am_me (tb_P L xs) 139)) 15 = .ok (.iastore, 1) := show decode (am_cd (tb_me 139)) 15 = .ok (.iastore, 1) from by decide +kernel
theorem k139_16 {L : Nat} {xs : Nat → Int32} : decode (am_cd (am_me (tb_P L xs) 139)) 16 = .ok (.aload_n 0, 1) := show decode (am_cd (tb_me 139)) 16 = .ok (.aload_n 0, 1) from by decide +kernel
theorem k139_17 {L : Nat} {xs : Nat → Int32} : decode (am_cd (am_me (tb_P L xs) 139)) 17 = .ok (.getfield 63, 3) := show decode (am_cd (tb_me 139)) 17 = .ok (.getfield 63, 3) from by decide +kernel
theorem f139_17 {L : Nat} {xs : Nat → Int32} : am_fd (tb_P L xs) 139 63 = some (8, 21, (.array .int : FieldType), true) := show tb_fdF 139 63 = some (8, 21, (.array .int : FieldType), true) from by decide +kernel
theorem k139_20 {L : Nat} {xs : Nat → Int32} : decode (am_cd (am_me (tb_P L xs) 139)) 20 = .ok (.iload_n 2, 1) := show decode (am_cd (tb_me 139)) 20 = .ok (.iload_n 2, 1) from by decide +kernel
theorem k139_21 {L : Nat} {xs : Nat → Int32} : decode (am_cd (am_me (tb_P L xs) 139)) 21 = .ok (.iaload, 1) := show decode (am_cd (tb_me 139)) 21 = .ok (.iaload, 1) from by decide +kernel
theorem k139_22 {L : Nat} {xs : Nat → Int32} : decode (am_cd (am_me (tb_P L xs) 139)) 22 = .ok (.aload_n 0, 1) := show decode (am_cd (tb_me 139)) 22 = .ok (.aload_n 0, 1) from by decide +kernel
theorem k139_23 {L : Nat} {xs : Nat → Int32} : decode (am_cd (am_me (tb_P L xs) 139)) 23 = .ok (.getfield 7, 3) := show decode (am_cd (tb_me 139)) 23 = .ok (.getfield 7, 3) from by decide +kernel
theorem f139_23 {L : Nat} {xs : Nat → Int32} : am_fd (tb_P L xs) 139 7 = some (8, 1, (.array .int : FieldType), true) := show tb_fdF 139 7 = some (8, 1, (.array .int : FieldType), true) from by decide +kernel
theorem k139_26 {L : Nat} {xs : Nat → Int32} : decode (am_cd (am_me (tb_P L xs) 139)) 26 = .ok (.iload_n 2, 1) := show decode (am_cd (tb_me 139)) 26 = .ok (.iload_n 2, 1) from by decide +kernel
theorem k139_27 {L : Nat} {xs : Nat → Int32} : decode (am_cd (am_me (tb_P L xs) 139)) 27 = .ok (.iaload, 1) := show decode (am_cd (tb_me 139)) 27 = .ok (.iaload, 1) from by decide +kernel
theorem k139_28 {L : Nat} {xs : Nat → Int32} : decode (am_cd (am_me (tb_P L xs) 139)) 28 = .ok (.if_icmp .ge 5, 3) := show decode (am_cd (tb_me 139)) 28 = .ok (.if_icmp .ge 5, 3) from by decide +kernel
theorem k139_31 {L : Nat} {xs : Nat → Int32} : decode (am_cd (am_me (tb_P L xs) 139)) 31 = .ok (.iconst 1, 1) := show decode (am_cd (tb_me 139)) 31 = .ok (.iconst 1, 1) from by decide +kernel
theorem k139_32 {L : Nat} {xs : Nat → Int32} : decode (am_cd (am_me (tb_P L xs) 139)) 32 = .ok (.ireturn, 1) := show decode (am_cd (tb_me 139)) 32 = .ok (.ireturn, 1) from by decide +kernel
theorem k139_33 {L : Nat} {xs : Nat → Int32} : decode (am_cd (am_me (tb_P L xs) 139)) 33 = .ok (.aload_n 0, 1) := show decode (am_cd (tb_me 139)) 33 = .ok (.aload_n 0, 1) from by decide +kernel
theorem k139_34 {L : Nat} {xs : Nat → Int32} : decode (am_cd (am_me (tb_P L xs) 139)) 34 = .ok (.getfield 63, 3) := show decode (am_cd (tb_me 139)) 34 = .ok (.getfield 63, 3) from by decide +kernel
theorem f139_34 {L : Nat} {xs : Nat → Int32} : am_fd (tb_P L xs) 139 63 = some (8, 21, (.array .int : FieldType), true) := show tb_fdF 139 63 = some (8, 21, (.array .int : FieldType), true) from by decide +kernel
theorem k139_37 {L : Nat} {xs : Nat → Int32} : decode (am_cd (am_me (tb_P L xs) 139)) 37 = .ok (.iload_n 2, 1) := show decode (am_cd (tb_me 139)) 37 = .ok (.iload_n 2, 1) from by decide +kernel
theorem k139_38 {L : Nat} {xs : Nat → Int32} : decode (am_cd (am_me (tb_P L xs) 139)) 38 = .ok (.iconst 0, 1) := show decode (am_cd (tb_me 139)) 38 = .ok (.iconst 0, 1) from by decide +kernel
theorem k139_39 {L : Nat} {xs : Nat → Int32} : decode (am_cd (am_me (tb_P L xs) 139)) 39 = .ok (.iastore, 1) := show decode (am_cd (tb_me 139)) 39 = .ok (.iastore, 1) from by decide +kernel
theorem k139_40 {L : Nat} {xs : Nat → Int32} : decode (am_cd (am_me (tb_P L xs) 139)) 40 = .ok (.iinc 2 (-1), 3) := show decode (am_cd (tb_me 139)) 40 = .ok (.iinc 2 (-1), 3) from by decide +kernel
theorem k139_43 {L : Nat} {xs : Nat → Int32} : decode (am_cd (am_me (tb_P L xs) 139)) 43 = .ok (.goto (-41), 3) := show decode (am_cd (tb_me 139)) 43 = .ok (.goto (-41), 3) from by decide +kernel
theorem k139_46 {L : Nat} {xs : Nat → Int32} : decode (am_cd (am_me (tb_P L xs) 139)) 46 = .ok (.iconst 0, 1) := show decode (am_cd (tb_me 139)) 46 = .ok (.iconst 0, 1) from by decide +kernel
theorem k139_47 {L : Nat} {xs : Nat → Int32} : decode (am_cd (am_me (tb_P L xs) 139)) 47 = .ok (.ireturn, 1) := show decode (am_cd (tb_me 139)) 47 = .ok (.ireturn, 1) from by decide +kernel
theorem t139 {L : Nat} {xs : Nat → Int32} : am_rt (am_me (tb_P L xs) 139) = some (.boolean : FieldType) := show am_rt (tb_me 139) = some (.boolean : FieldType) from by decide +kernel
theorem l139 {L : Nat} {xs : Nat → Int32} : am_ml (am_me (tb_P L xs) 139) = 3 := show am_ml (tb_me 139) = 3 from by decide +kernel
theorem o139 {L : Nat} {xs : Nat → Int32} (pc : Nat) : am_no (tb_P L xs) 139 pc = true := show (am_hd (tb_me 139)).all (fun q => !(decide (q.1 ≤ pc) && decide (pc < q.2.1))) = true from by rw [show am_hd (tb_me 139) = [] by decide +kernel]; rfl
theorem k140_0 {L : Nat} {xs : Nat → Int32} : decode (am_cd (am_me (tb_P L xs) 140)) 0 = .ok (.aload_n 0, 1) := show decode (am_cd (tb_me 140)) 0 = .ok (.aload_n 0, 1) from by decide +kernel
theorem k140_1 {L : Nat} {xs : Nat → Int32} : decode (am_cd (am_me (tb_P L xs) 140)) 1 = .ok (.iload_n 1, 1) := show decode (am_cd (tb_me 140)) 1 = .ok (.iload_n 1, 1) from by decide +kernel
theorem k140_2 {L : Nat} {xs : Nat → Int32} : decode (am_cd (am_me (tb_P L xs) 140)) 2 = .ok (.ifCond .lt 9, 3) := show decode (am_cd (tb_me 140)) 2 = .ok (.ifCond .lt 9, 3) from by decide +kernel
theorem k140_5 {L : Nat} {xs : Nat → Int32} : decode (am_cd (am_me (tb_P L xs) 140)) 5 = .ok (.iload_n 1, 1) := show decode (am_cd (tb_me 140)) 5 = .ok (.iload_n 1, 1) from by decide +kernel
theorem k140_6 {L : Nat} {xs : Nat → Int32} : decode (am_cd (am_me (tb_P L xs) 140)) 6 = .ok (.bipush 6, 2) := show decode (am_cd (tb_me 140)) 6 = .ok (.bipush 6, 2) from by decide +kernel
theorem k140_8 {L : Nat} {xs : Nat → Int32} : decode (am_cd (am_me (tb_P L xs) 140)) 8 = .ok (.if_icmp .le 7, 3) := show decode (am_cd (tb_me 140)) 8 = .ok (.if_icmp .le 7, 3) from by decide +kernel
theorem k140_11 {L : Nat} {xs : Nat → Int32} : decode (am_cd (am_me (tb_P L xs) 140)) 11 = .ok (.iconst 1, 1) := show decode (am_cd (tb_me 140)) 11 = .ok (.iconst 1, 1) from by decide +kernel
theorem k140_12 {L : Nat} {xs : Nat → Int32} : decode (am_cd (am_me (tb_P L xs) 140)) 12 = .ok (.goto 4, 3) := show decode (am_cd (tb_me 140)) 12 = .ok (.goto 4, 3) from by decide +kernel
theorem k140_15 {L : Nat} {xs : Nat → Int32} : decode (am_cd (am_me (tb_P L xs) 140)) 15 = .ok (.iconst 0, 1) := show decode (am_cd (tb_me 140)) 15 = .ok (.iconst 0, 1) from by decide +kernel
theorem k140_16 {L : Nat} {xs : Nat → Int32} : decode (am_cd (am_me (tb_P L xs) 140)) 16 = .ok (.putfield 78, 3) := show decode (am_cd (tb_me 140)) 16 = .ok (.putfield 78, 3) from by decide +kernel
theorem f140_16 {L : Nat} {xs : Nat → Int32} : am_fd (tb_P L xs) 140 78 = some (8, 0, (.int : FieldType), true) := show tb_fdF 140 78 = some (8, 0, (.int : FieldType), true) from by decide +kernel
theorem k140_19 {L : Nat} {xs : Nat → Int32} : decode (am_cd (am_me (tb_P L xs) 140)) 19 = .ok (.aload_n 0, 1) := show decode (am_cd (tb_me 140)) 19 = .ok (.aload_n 0, 1) from by decide +kernel
theorem k140_20 {L : Nat} {xs : Nat → Int32} : decode (am_cd (am_me (tb_P L xs) 140)) 20 = .ok (.getfield 78, 3) := show decode (am_cd (tb_me 140)) 20 = .ok (.getfield 78, 3) from by decide +kernel
theorem f140_20 {L : Nat} {xs : Nat → Int32} : am_fd (tb_P L xs) 140 78 = some (8, 0, (.int : FieldType), true) := show tb_fdF 140 78 = some (8, 0, (.int : FieldType), true) from by decide +kernel
theorem k140_23 {L : Nat} {xs : Nat → Int32} : decode (am_cd (am_me (tb_P L xs) 140)) 23 = .ok (.ifCond .eq 7, 3) := show decode (am_cd (tb_me 140)) 23 = .ok (.ifCond .eq 7, 3) from by decide +kernel
theorem k140_26 {L : Nat} {xs : Nat → Int32} : decode (am_cd (am_me (tb_P L xs) 140)) 26 = .ok (.iconst 0, 1) := show decode (am_cd (tb_me 140)) 26 = .ok (.iconst 0, 1) from by decide +kernel
theorem k140_27 {L : Nat} {xs : Nat → Int32} : decode (am_cd (am_me (tb_P L xs) 140)) 27 = .ok (.goto 20, 3) := show decode (am_cd (tb_me 140)) 27 = .ok (.goto 20, 3) from by decide +kernel
theorem k140_30 {L : Nat} {xs : Nat → Int32} : decode (am_cd (am_me (tb_P L xs) 140)) 30 = .ok (.aload_n 0, 1) := show decode (am_cd (tb_me 140)) 30 = .ok (.aload_n 0, 1) from by decide +kernel
theorem k140_31 {L : Nat} {xs : Nat → Int32} : decode (am_cd (am_me (tb_P L xs) 140)) 31 = .ok (.getfield 184, 3) := show decode (am_cd (tb_me 140)) 31 = .ok (.getfield 184, 3) from by decide +kernel
theorem f140_31 {L : Nat} {xs : Nat → Int32} : am_fd (tb_P L xs) 140 184 = some (8, 27, (.boolean : FieldType), true) := show tb_fdF 140 184 = some (8, 27, (.boolean : FieldType), true) from by decide +kernel
theorem k140_34 {L : Nat} {xs : Nat → Int32} : decode (am_cd (am_me (tb_P L xs) 140)) 34 = .ok (.ifCond .eq 12, 3) := show decode (am_cd (tb_me 140)) 34 = .ok (.ifCond .eq 12, 3) from by decide +kernel
theorem k140_37 {L : Nat} {xs : Nat → Int32} : decode (am_cd (am_me (tb_P L xs) 140)) 37 = .ok (.aload_n 0, 1) := show decode (am_cd (tb_me 140)) 37 = .ok (.aload_n 0, 1) from by decide +kernel
theorem k140_38 {L : Nat} {xs : Nat → Int32} : decode (am_cd (am_me (tb_P L xs) 140)) 38 = .ok (.getfield 72, 3) := show decode (am_cd (tb_me 140)) 38 = .ok (.getfield 72, 3) from by decide +kernel
theorem f140_38 {L : Nat} {xs : Nat → Int32} : am_fd (tb_P L xs) 140 72 = some (8, 28, (.array .int : FieldType), true) := show tb_fdF 140 72 = some (8, 28, (.array .int : FieldType), true) from by decide +kernel
theorem k140_41 {L : Nat} {xs : Nat → Int32} : decode (am_cd (am_me (tb_P L xs) 140)) 41 = .ok (.iload_n 1, 1) := show decode (am_cd (tb_me 140)) 41 = .ok (.iload_n 1, 1) from by decide +kernel
theorem k140_42 {L : Nat} {xs : Nat → Int32} : decode (am_cd (am_me (tb_P L xs) 140)) 42 = .ok (.iaload, 1) := show decode (am_cd (tb_me 140)) 42 = .ok (.iaload, 1) from by decide +kernel
theorem k140_43 {L : Nat} {xs : Nat → Int32} : decode (am_cd (am_me (tb_P L xs) 140)) 43 = .ok (.goto 4, 3) := show decode (am_cd (tb_me 140)) 43 = .ok (.goto 4, 3) from by decide +kernel
theorem k140_46 {L : Nat} {xs : Nat → Int32} : decode (am_cd (am_me (tb_P L xs) 140)) 46 = .ok (.iconst (-1), 1) := show decode (am_cd (tb_me 140)) 46 = .ok (.iconst (-1), 1) from by decide +kernel
theorem k140_47 {L : Nat} {xs : Nat → Int32} : decode (am_cd (am_me (tb_P L xs) 140)) 47 = .ok (.ireturn, 1) := show decode (am_cd (tb_me 140)) 47 = .ok (.ireturn, 1) from by decide +kernel
theorem t140 {L : Nat} {xs : Nat → Int32} : am_rt (am_me (tb_P L xs) 140) = some (.int : FieldType) := show am_rt (tb_me 140) = some (.int : FieldType) from by decide +kernel
theorem l140 {L : Nat} {xs : Nat → Int32} : am_ml (am_me (tb_P L xs) 140) = 2 := show am_ml (tb_me 140) = 2 from by decide +kernel
theorem o140 {L : Nat} {xs : Nat → Int32} (pc : Nat) : am_no (tb_P L xs) 140 pc = true := show (am_hd (tb_me 140)).all (fun q => !(decide (q.1 ≤ pc) && decide (pc < q.2.1))) = true from by rw [show am_hd (tb_me 140) = [] by decide +kernel]; rfl
theorem k141_0 {L : Nat} {xs : Nat → Int32} : decode (am_cd (am_me (tb_P L xs) 141)) 0 = .ok (.aload_n 0, 1) := show decode (am_cd (tb_me 141)) 0 = .ok (.aload_n 0, 1) from by decide +kernel
theorem k141_1 {L : Nat} {xs : Nat → Int32} : decode (am_cd (am_me (tb_P L xs) 141)) 1 = .ok (.iconst 0, 1) := show decode (am_cd (tb_me 141)) 1 = .ok (.iconst 0, 1) from by decide +kernel
theorem k141_2 {L : Nat} {xs : Nat → Int32} : decode (am_cd (am_me (tb_P L xs) 141)) 2 = .ok (.putfield 78, 3) := show decode (am_cd (tb_me 141)) 2 = .ok (.putfield 78, 3) from by decide +kernel
theorem f141_2 {L : Nat} {xs : Nat → Int32} : am_fd (tb_P L xs) 141 78 = some (8, 0, (.int : FieldType), true) := show tb_fdF 141 78 = some (8, 0, (.int : FieldType), true) from by decide +kernel
theorem k141_5 {L : Nat} {xs : Nat → Int32} : decode (am_cd (am_me (tb_P L xs) 141)) 5 = .ok (.aload_n 0, 1) := show decode (am_cd (tb_me 141)) 5 = .ok (.aload_n 0, 1) from by decide +kernel
theorem k141_6 {L : Nat} {xs : Nat → Int32} : decode (am_cd (am_me (tb_P L xs) 141)) 6 = .ok (.iconst 0, 1) := show decode (am_cd (tb_me 141)) 6 = .ok (.iconst 0, 1) from by decide +kernel
theorem k141_7 {L : Nat} {xs : Nat → Int32} : decode (am_cd (am_me (tb_P L xs) 141)) 7 = .ok (.iconst 0, 1) := show decode (am_cd (tb_me 141)) 7 = .ok (.iconst 0, 1) from by decide +kernel
theorem k141_8 {L : Nat} {xs : Nat → Int32} : decode (am_cd (am_me (tb_P L xs) 141)) 8 = .ok (.invokevirtual 181, 3) := show decode (am_cd (tb_me 141)) 8 = .ok (.invokevirtual 181, 3) from by decide +kernel
theorem s141_8 {L : Nat} {xs : Nat → Int32} : am_sp (tb_P L xs) 141 181 = none := show tb_spF 141 181 = none from by decide +kernel
theorem c141_8 {L : Nat} {xs : Nat → Int32} : am_ca (tb_P L xs) 141 181 = some (125, 2, 1) := show tb_caF 141 181 = some (125, 2, 1) from by decide +kernel
theorem r141_8 {L : Nat} {xs : Nat → Int32} : am_rf (am_me (tb_P L xs) 125) + 1 ≤ am_rf (am_me (tb_P L xs) 141) ∧ 0 + (am_ml (am_me (tb_P L xs) 125) + 11) + am_rl (am_me (tb_P L xs) 125) ≤ am_rl (am_me (tb_P L xs) 141) := show am_rf (tb_me 125) + 1 ≤ am_rf (tb_me 141) ∧ 0 + (am_ml (tb_me 125) + 11) + am_rl (tb_me 125) ≤ am_rl (tb_me 141) from by decide +kernel
theorem k141_11 {L : Nat} {xs : Nat → Int32} : decode (am_cd (am_me (tb_P L xs) 141)) 11 = .ok (.ifCond .eq 7, 3) := show decode (am_cd (tb_me 141)) 11 = .ok (.ifCond .eq 7, 3) from by decide +kernel
theorem k141_14 {L : Nat} {xs : Nat → Int32} : decode (am_cd (am_me (tb_P L xs) 141)) 14 = .ok (.iconst 0, 1) := show decode (am_cd (tb_me 141)) 14 = .ok (.iconst 0, 1) from by decide +kernel
theorem k141_15 {L : Nat} {xs : Nat → Int32} : decode (am_cd (am_me (tb_P L xs) 141)) 15 = .ok (.goto 4, 3) := show decode (am_cd (tb_me 141)) 15 = .ok (.goto 4, 3) from by decide +kernel
theorem k141_18 {L : Nat} {xs : Nat → Int32} : decode (am_cd (am_me (tb_P L xs) 141)) 18 = .ok (.iconst 1, 1) := show decode (am_cd (tb_me 141)) 18 = .ok (.iconst 1, 1) from by decide +kernel
theorem k141_19 {L : Nat} {xs : Nat → Int32} : decode (am_cd (am_me (tb_P L xs) 141)) 19 = .ok (.istore_n 1, 1) := show decode (am_cd (tb_me 141)) 19 = .ok (.istore_n 1, 1) from by decide +kernel
theorem k141_20 {L : Nat} {xs : Nat → Int32} : decode (am_cd (am_me (tb_P L xs) 141)) 20 = .ok (.iconst 0, 1) := show decode (am_cd (tb_me 141)) 20 = .ok (.iconst 0, 1) from by decide +kernel
theorem k141_21 {L : Nat} {xs : Nat → Int32} : decode (am_cd (am_me (tb_P L xs) 141)) 21 = .ok (.istore_n 2, 1) := show decode (am_cd (tb_me 141)) 21 = .ok (.istore_n 2, 1) from by decide +kernel
theorem k141_22 {L : Nat} {xs : Nat → Int32} : decode (am_cd (am_me (tb_P L xs) 141)) 22 = .ok (.iload_n 2, 1) := show decode (am_cd (tb_me 141)) 22 = .ok (.iload_n 2, 1) from by decide +kernel
theorem k141_23 {L : Nat} {xs : Nat → Int32} : decode (am_cd (am_me (tb_P L xs) 141)) 23 = .ok (.aload_n 0, 1) := show decode (am_cd (tb_me 141)) 23 = .ok (.aload_n 0, 1) from by decide +kernel
theorem k141_24 {L : Nat} {xs : Nat → Int32} : decode (am_cd (am_me (tb_P L xs) 141)) 24 = .ok (.getfield 120, 3) := show decode (am_cd (tb_me 141)) 24 = .ok (.getfield 120, 3) from by decide +kernel
theorem f141_24 {L : Nat} {xs : Nat → Int32} : am_fd (tb_P L xs) 141 120 = some (8, 11, (.int : FieldType), true) := show tb_fdF 141 120 = some (8, 11, (.int : FieldType), true) from by decide +kernel
theorem k141_27 {L : Nat} {xs : Nat → Int32} : decode (am_cd (am_me (tb_P L xs) 141)) 27 = .ok (.if_icmp .ge 49, 3) := show decode (am_cd (tb_me 141)) 27 = .ok (.if_icmp .ge 49, 3) from by decide +kernel
theorem k141_30 {L : Nat} {xs : Nat → Int32} : decode (am_cd (am_me (tb_P L xs) 141)) 30 = .ok (.iconst 1, 1) := show decode (am_cd (tb_me 141)) 30 = .ok (.iconst 1, 1) from by decide +kernel
theorem k141_31 {L : Nat} {xs : Nat → Int32} : decode (am_cd (am_me (tb_P L xs) 141)) 31 = .ok (.istore_n 3, 1) := show decode (am_cd (tb_me 141)) 31 = .ok (.istore_n 3, 1) from by decide +kernel
theorem k141_32 {L : Nat} {xs : Nat → Int32} : decode (am_cd (am_me (tb_P L xs) 141)) 32 = .ok (.iload_n 3, 1) := show decode (am_cd (tb_me 141)) 32 = .ok (.iload_n 3, 1) from by decide +kernel
theorem k141_33 {L : Nat} {xs : Nat → Int32} : decode (am_cd (am_me (tb_P L xs) 141)) 33 = .ok (.bipush 6, 2) := show decode (am_cd (tb_me 141)) 33 = .ok (.bipush 6, 2) from by decide +kernel
theorem k141_35 {L : Nat} {xs : Nat → Int32} : decode (am_cd (am_me (tb_P L xs) 141)) 35 = .ok (.if_icmp .ge 35, 3) := show decode (am_cd (tb_me 141)) 35 = .ok (.if_icmp .ge 35, 3) from by decide +kernel
theorem k141_38 {L : Nat} {xs : Nat → Int32} : decode (am_cd (am_me (tb_P L xs) 141)) 38 = .ok (.iload_n 1, 1) := show decode (am_cd (tb_me 141)) 38 = .ok (.iload_n 1, 1) from by decide +kernel
theorem k141_39 {L : Nat} {xs : Nat → Int32} : decode (am_cd (am_me (tb_P L xs) 141)) 39 = .ok (.aload_n 0, 1) := show decode (am_cd (tb_me 141)) 39 = .ok (.aload_n 0, 1) from by decide +kernel
theorem k141_40 {L : Nat} {xs : Nat → Int32} : decode (am_cd (am_me (tb_P L xs) 141)) 40 = .ok (.iload_n 3, 1) := show decode (am_cd (tb_me 141)) 40 = .ok (.iload_n 3, 1) from by decide +kernel
theorem k141_41 {L : Nat} {xs : Nat → Int32} : decode (am_cd (am_me (tb_P L xs) 141)) 41 = .ok (.iload_n 2, 1) := show decode (am_cd (tb_me 141)) 41 = .ok (.iload_n 2, 1) from by decide +kernel
theorem k141_42 {L : Nat} {xs : Nat → Int32} : decode (am_cd (am_me (tb_P L xs) 141)) 42 = .ok (.invokevirtual 178, 3) := show decode (am_cd (tb_me 141)) 42 = .ok (.invokevirtual 178, 3) from by decide +kernel
theorem s141_42 {L : Nat} {xs : Nat → Int32} : am_sp (tb_P L xs) 141 178 = none := show tb_spF 141 178 = none from by decide +kernel
theorem c141_42 {L : Nat} {xs : Nat → Int32} : am_ca (tb_P L xs) 141 178 = some (124, 2, 1) := show tb_caF 141 178 = some (124, 2, 1) from by decide +kernel
theorem r141_42 {L : Nat} {xs : Nat → Int32} : am_rf (am_me (tb_P L xs) 124) + 1 ≤ am_rf (am_me (tb_P L xs) 141) ∧ 1 + (am_ml (am_me (tb_P L xs) 124) + 11) + am_rl (am_me (tb_P L xs) 124) ≤ am_rl (am_me (tb_P L xs) 141) := show am_rf (tb_me 124) + 1 ≤ am_rf (tb_me 141) ∧ 1 + (am_ml (tb_me 124) + 11) + am_rl (tb_me 124) ≤ am_rl (tb_me 141) from by decide +kernel
theorem k141_45 {L : Nat} {xs : Nat → Int32} : decode (am_cd (am_me (tb_P L xs) 141)) 45 = .ok (.ifCond .ne 12, 3) := show decode (am_cd (tb_me 141)) 45 = .ok (.ifCond .ne 12, 3) from by decide +kernel
theorem k141_48 {L : Nat} {xs : Nat → Int32} : decode (am_cd (am_me (tb_P L xs) 141)) 48 = .ok (.aload_n 0, 1) := show decode (am_cd (tb_me 141)) 48 = .ok (.aload_n 0, 1) from by decide +kernel
theorem k141_49 {L : Nat} {xs : Nat → Int32} : decode (am_cd (am_me (tb_P L xs) 141)) 49 = .ok (.iload_n 3, 1) := show decode (am_cd (tb_me 141)) 49 = .ok (.iload_n 3, 1) from by decide +kernel
theorem k141_50 {L : Nat} {xs : Nat → Int32} : decode (am_cd (am_me (tb_P L xs) 141)) 50 = .ok (.iload_n 2, 1) := show decode (am_cd (tb_me 141)) 50 = .ok (.iload_n 2, 1) from by decide +kernel
theorem k141_51 {L : Nat} {xs : Nat → Int32} : decode (am_cd (am_me (tb_P L xs) 141)) 51 = .ok (.invokevirtual 181, 3) := show decode (am_cd (tb_me 141)) 51 = .ok (.invokevirtual 181, 3) from by decide +kernel
theorem s141_51 {L : Nat} {xs : Nat → Int32} : am_sp (tb_P L xs) 141 181 = none := show tb_spF 141 181 = none from by decide +kernel
theorem c141_51 {L : Nat} {xs : Nat → Int32} : am_ca (tb_P L xs) 141 181 = some (125, 2, 1) := show tb_caF 141 181 = some (125, 2, 1) from by decide +kernel
theorem r141_51 {L : Nat} {xs : Nat → Int32} : am_rf (am_me (tb_P L xs) 125) + 1 ≤ am_rf (am_me (tb_P L xs) 141) ∧ 1 + (am_ml (am_me (tb_P L xs) 125) + 11) + am_rl (am_me (tb_P L xs) 125) ≤ am_rl (am_me (tb_P L xs) 141) := show am_rf (tb_me 125) + 1 ≤ am_rf (tb_me 141) ∧ 1 + (am_ml (tb_me 125) + 11) + am_rl (tb_me 125) ≤ am_rl (tb_me 141) from by decide +kernel
theorem k141_54 {L : Nat} {xs : Nat → Int32} : decode (am_cd (am_me (tb_P L xs) 141)) 54 = .ok (.ifCond .eq 7, 3) := show decode (am_cd (tb_me 141)) 54 = .ok (.ifCond .eq 7, 3) from by decide +kernel
theorem k141_57 {L : Nat} {xs : Nat → Int32} : decode (am_cd (am_me (tb_P L xs) 141)) 57 = .ok (.iconst 0, 1) := show decode (am_cd (tb_me 141)) 57 = .ok (.iconst 0, 1) from by decide +kernel
theorem k141_58 {L : Nat} {xs : Nat → Int32} : decode (am_cd (am_me (tb_P L xs) 141)) 58 = .ok (.goto 4, 3) := show decode (am_cd (tb_me 141)) 58 = .ok (.goto 4, 3) from by decide +kernel
theorem k141_61 {L : Nat} {xs : Nat → Int32} : decode (am_cd (am_me (tb_P L xs) 141)) 61 = .ok (.iconst 1, 1) := show decode (am_cd (tb_me 141)) 61 = .ok (.iconst 1, 1) from by decide +kernel
theorem k141_62 {L : Nat} {xs : Nat → Int32} : decode (am_cd (am_me (tb_P L xs) 141)) 62 = .ok (.iadd, 1) := show decode (am_cd (tb_me 141)) 62 = .ok (.iadd, 1) from by decide +kernel
theorem k141_63 {L : Nat} {xs : Nat → Int32} : decode (am_cd (am_me (tb_P L xs) 141)) 63 = .ok (.istore_n 1, 1) := show decode (am_cd (tb_me 141)) 63 = .ok (.istore_n 1, 1) from by decide +kernel
theorem k141_64 {L : Nat} {xs : Nat → Int32} : decode (am_cd (am_me (tb_P L xs) 141)) 64 = .ok (.iinc 3 1, 3) := show decode (am_cd (tb_me 141)) 64 = .ok (.iinc 3 1, 3) from by decide +kernel
theorem k141_67 {L : Nat} {xs : Nat → Int32} : decode (am_cd (am_me (tb_P L xs) 141)) 67 = .ok (.goto (-35), 3) := show decode (am_cd (tb_me 141)) 67 = .ok (.goto (-35), 3) from by decide +kernel
theorem k141_70 {L : Nat} {xs : Nat → Int32} : decode (am_cd (am_me (tb_P L xs) 141)) 70 = .ok (.iinc 2 1, 3) := show decode (am_cd (tb_me 141)) 70 = .ok (.iinc 2 1, 3) from by decide +kernel
theorem k141_73 {L : Nat} {xs : Nat → Int32} : decode (am_cd (am_me (tb_P L xs) 141)) 73 = .ok (.goto (-51), 3) := show decode (am_cd (tb_me 141)) 73 = .ok (.goto (-51), 3) from by decide +kernel
theorem k141_76 {L : Nat} {xs : Nat → Int32} : decode (am_cd (am_me (tb_P L xs) 141)) 76 = .ok (.iload_n 1, 1) := show decode (am_cd (tb_me 141)) 76 = .ok (.iload_n 1, 1) from by decide +kernel
theorem k141_77 {L : Nat} {xs : Nat → Int32} : decode (am_cd (am_me (tb_P L xs) 141)) 77 = .ok (.ireturn, 1) := show decode (am_cd (tb_me 141)) 77 = .ok (.ireturn, 1) from by decide +kernel
theorem t141 {L : Nat} {xs : Nat → Int32} : am_rt (am_me (tb_P L xs) 141) = some (.int : FieldType) := show am_rt (tb_me 141) = some (.int : FieldType) from by decide +kernel
theorem l141 {L : Nat} {xs : Nat → Int32} : am_ml (am_me (tb_P L xs) 141) = 4 := show am_ml (tb_me 141) = 4 from by decide +kernel
theorem o141 {L : Nat} {xs : Nat → Int32} (pc : Nat) : am_no (tb_P L xs) 141 pc = true := show (am_hd (tb_me 141)).all (fun q => !(decide (q.1 ≤ pc) && decide (pc < q.2.1))) = true from by rw [show am_hd (tb_me 141) = [] by decide +kernel]; rfl
theorem k142_0 {L : Nat} {xs : Nat → Int32} : decode (am_cd (am_me (tb_P L xs) 142)) 0 = .ok (.aload_n 0, 1) := show decode (am_cd (tb_me 142)) 0 = .ok (.aload_n 0, 1) from by decide +kernel
theorem k142_1 {L : Nat} {xs : Nat → Int32} : decode (am_cd (am_me (tb_P L xs) 142)) 1 = .ok (.iconst 0, 1) := show decode (am_cd (tb_me 142)) 1 = .ok (.iconst 0, 1) from by decide +kernel
theorem k142_2 {L : Nat} {xs : Nat → Int32} : decode (am_cd (am_me (tb_P L xs) 142)) 2 = .ok (.putfield 78, 3) := show decode (am_cd (tb_me 142)) 2 = .ok (.putfield 78, 3) from by decide +kernel
theorem f142_2 {L : Nat} {xs : Nat → Int32} : am_fd (tb_P L xs) 142 78 = some (8, 0, (.int : FieldType), true) := show tb_fdF 142 78 = some (8, 0, (.int : FieldType), true) from by decide +kernel
theorem k142_5 {L : Nat} {xs : Nat → Int32} : decode (am_cd (am_me (tb_P L xs) 142)) 5 = .ok (.aload_n 0, 1) := show decode (am_cd (tb_me 142)) 5 = .ok (.aload_n 0, 1) from by decide +kernel
theorem k142_6 {L : Nat} {xs : Nat → Int32} : decode (am_cd (am_me (tb_P L xs) 142)) 6 = .ok (.iconst 1, 1) := show decode (am_cd (tb_me 142)) 6 = .ok (.iconst 1, 1) from by decide +kernel
theorem k142_7 {L : Nat} {xs : Nat → Int32} : decode (am_cd (am_me (tb_P L xs) 142)) 7 = .ok (.putfield 116, 3) := show decode (am_cd (tb_me 142)) 7 = .ok (.putfield 116, 3) from by decide +kernel
theorem f142_7 {L : Nat} {xs : Nat → Int32} : am_fd (tb_P L xs) 142 116 = some (8, 23, (.boolean : FieldType), true) := show tb_fdF 142 116 = some (8, 23, (.boolean : FieldType), true) from by decide +kernel
theorem k142_10 {L : Nat} {xs : Nat → Int32} : decode (am_cd (am_me (tb_P L xs) 142)) 10 = .ok (.aload_n 0, 1) := show decode (am_cd (tb_me 142)) 10 = .ok (.aload_n 0, 1) from by decide +kernel
theorem k142_11 {L : Nat} {xs : Nat → Int32} : decode (am_cd (am_me (tb_P L xs) 142)) 11 = .ok (.iconst 0, 1) := show decode (am_cd (tb_me 142)) 11 = .ok (.iconst 0, 1) from by decide +kernel
theorem k142_12 {L : Nat} {xs : Nat → Int32} : decode (am_cd (am_me (tb_P L xs) 142)) 12 = .ok (.putfield 187, 3) := show decode (am_cd (tb_me 142)) 12 = .ok (.putfield 187, 3) from by decide +kernel
theorem f142_12 {L : Nat} {xs : Nat → Int32} : am_fd (tb_P L xs) 142 187 = some (8, 24, (.boolean : FieldType), true) := show tb_fdF 142 187 = some (8, 24, (.boolean : FieldType), true) from by decide +kernel
theorem k142_15 {L : Nat} {xs : Nat → Int32} : decode (am_cd (am_me (tb_P L xs) 142)) 15 = .ok (.aload_n 0, 1) := show decode (am_cd (tb_me 142)) 15 = .ok (.aload_n 0, 1) from by decide +kernel
theorem k142_16 {L : Nat} {xs : Nat → Int32} : decode (am_cd (am_me (tb_P L xs) 142)) 16 = .ok (.iconst 0, 1) := show decode (am_cd (tb_me 142)) 16 = .ok (.iconst 0, 1) from by decide +kernel
theorem k142_17 {L : Nat} {xs : Nat → Int32} : decode (am_cd (am_me (tb_P L xs) 142)) 17 = .ok (.putfield 190, 3) := show decode (am_cd (tb_me 142)) 17 = .ok (.putfield 190, 3) from by decide +kernel
theorem f142_17 {L : Nat} {xs : Nat → Int32} : am_fd (tb_P L xs) 142 190 = some (8, 25, (.int : FieldType), true) := show tb_fdF 142 190 = some (8, 25, (.int : FieldType), true) from by decide +kernel
theorem k142_20 {L : Nat} {xs : Nat → Int32} : decode (am_cd (am_me (tb_P L xs) 142)) 20 = .ok (.iconst 0, 1) := show decode (am_cd (tb_me 142)) 20 = .ok (.iconst 0, 1) from by decide +kernel
theorem k142_21 {L : Nat} {xs : Nat → Int32} : decode (am_cd (am_me (tb_P L xs) 142)) 21 = .ok (.istore_n 1, 1) := show decode (am_cd (tb_me 142)) 21 = .ok (.istore_n 1, 1) from by decide +kernel
theorem k142_22 {L : Nat} {xs : Nat → Int32} : decode (am_cd (am_me (tb_P L xs) 142)) 22 = .ok (.iload_n 1, 1) := show decode (am_cd (tb_me 142)) 22 = .ok (.iload_n 1, 1) from by decide +kernel
theorem k142_23 {L : Nat} {xs : Nat → Int32} : decode (am_cd (am_me (tb_P L xs) 142)) 23 = .ok (.bipush 6, 2) := show decode (am_cd (tb_me 142)) 23 = .ok (.bipush 6, 2) from by decide +kernel
theorem k142_25 {L : Nat} {xs : Nat → Int32} : decode (am_cd (am_me (tb_P L xs) 142)) 25 = .ok (.if_icmp .ge 21, 3) := show decode (am_cd (tb_me 142)) 25 = .ok (.if_icmp .ge 21, 3) from by decide +kernel
theorem k142_28 {L : Nat} {xs : Nat → Int32} : decode (am_cd (am_me (tb_P L xs) 142)) 28 = .ok (.aload_n 0, 1) := show decode (am_cd (tb_me 142)) 28 = .ok (.aload_n 0, 1) from by decide +kernel
theorem k142_29 {L : Nat} {xs : Nat → Int32} : decode (am_cd (am_me (tb_P L xs) 142)) 29 = .ok (.getfield 69, 3) := show decode (am_cd (tb_me 142)) 29 = .ok (.getfield 69, 3) from by decide +kernel
theorem f142_29 {L : Nat} {xs : Nat → Int32} : am_fd (tb_P L xs) 142 69 = some (8, 26, (.array .int : FieldType), true) := show tb_fdF 142 69 = some (8, 26, (.array .int : FieldType), true) from by decide +kernel
theorem k142_32 {L : Nat} {xs : Nat → Int32} : decode (am_cd (am_me (tb_P L xs) 142)) 32 = .ok (.iload_n 1, 1) := show decode (am_cd (tb_me 142)) 32 = .ok (.iload_n 1, 1) from by decide +kernel
theorem k142_33 {L : Nat} {xs : Nat → Int32} : decode (am_cd (am_me (tb_P L xs) 142)) 33 = .ok (.aload_n 0, 1) := show decode (am_cd (tb_me 142)) 33 = .ok (.aload_n 0, 1) from by decide +kernel
theorem k142_34 {L : Nat} {xs : Nat → Int32} : decode (am_cd (am_me (tb_P L xs) 142)) 34 = .ok (.getfield 13, 3) := show decode (am_cd (tb_me 142)) 34 = .ok (.getfield 13, 3) from by decide +kernel
theorem f142_34 {L : Nat} {xs : Nat → Int32} : am_fd (tb_P L xs) 142 13 = some (8, 2, (.array .int : FieldType), true) := show tb_fdF 142 13 = some (8, 2, (.array .int : FieldType), true) from by decide +kernel
theorem k142_37 {L : Nat} {xs : Nat → Int32} : decode (am_cd (am_me (tb_P L xs) 142)) 37 = .ok (.iload_n 1, 1) := show decode (am_cd (tb_me 142)) 37 = .ok (.iload_n 1, 1) from by decide +kernel
theorem k142_38 {L : Nat} {xs : Nat → Int32} : decode (am_cd (am_me (tb_P L xs) 142)) 38 = .ok (.iaload, 1) := show decode (am_cd (tb_me 142)) 38 = .ok (.iaload, 1) from by decide +kernel
theorem k142_39 {L : Nat} {xs : Nat → Int32} : decode (am_cd (am_me (tb_P L xs) 142)) 39 = .ok (.iastore, 1) := show decode (am_cd (tb_me 142)) 39 = .ok (.iastore, 1) from by decide +kernel
theorem k142_40 {L : Nat} {xs : Nat → Int32} : decode (am_cd (am_me (tb_P L xs) 142)) 40 = .ok (.iinc 1 1, 3) := show decode (am_cd (tb_me 142)) 40 = .ok (.iinc 1 1, 3) from by decide +kernel
theorem k142_43 {L : Nat} {xs : Nat → Int32} : decode (am_cd (am_me (tb_P L xs) 142)) 43 = .ok (.goto (-21), 3) := show decode (am_cd (tb_me 142)) 43 = .ok (.goto (-21), 3) from by decide +kernel
theorem k142_46 {L : Nat} {xs : Nat → Int32} : decode (am_cd (am_me (tb_P L xs) 142)) 46 = .ok (.return_, 1) := show decode (am_cd (tb_me 142)) 46 = .ok (.return_, 1) from by decide +kernel
theorem t142 {L : Nat} {xs : Nat → Int32} : am_rt (am_me (tb_P L xs) 142) = none := show am_rt (tb_me 142) = none from by decide +kernel
theorem l142 {L : Nat} {xs : Nat → Int32} : am_ml (am_me (tb_P L xs) 142) = 2 := show am_ml (tb_me 142) = 2 from by decide +kernel
theorem o142 {L : Nat} {xs : Nat → Int32} (pc : Nat) : am_no (tb_P L xs) 142 pc = true := show (am_hd (tb_me 142)).all (fun q => !(decide (q.1 ≤ pc) && decide (pc < q.2.1))) = true from by rw [show am_hd (tb_me 142) = [] by decide +kernel]; rfl
theorem k143_0 {L : Nat} {xs : Nat → Int32} : decode (am_cd (am_me (tb_P L xs) 143)) 0 = .ok (.aload_n 0, 1) := show decode (am_cd (tb_me 143)) 0 = .ok (.aload_n 0, 1) from by decide +kernel
theorem k143_1 {L : Nat} {xs : Nat → Int32} : decode (am_cd (am_me (tb_P L xs) 143)) 1 = .ok (.aload_n 0, 1) := show decode (am_cd (tb_me 143)) 1 = .ok (.aload_n 0, 1) from by decide +kernel
theorem k143_2 {L : Nat} {xs : Nat → Int32} : decode (am_cd (am_me (tb_P L xs) 143)) 2 = .ok (.iload_n 1, 1) := show decode (am_cd (tb_me 143)) 2 = .ok (.iload_n 1, 1) from by decide +kernel
theorem k143_3 {L : Nat} {xs : Nat → Int32} : decode (am_cd (am_me (tb_P L xs) 143)) 3 = .ok (.iload_n 2, 1) := show decode (am_cd (tb_me 143)) 3 = .ok (.iload_n 2, 1) from by decide +kernel
theorem k143_4 {L : Nat} {xs : Nat → Int32} : decode (am_cd (am_me (tb_P L xs) 143)) 4 = .ok (.invokevirtual 193, 3) := show decode (am_cd (tb_me 143)) 4 = .ok (.invokevirtual 193, 3) from by decide +kernel
theorem s143_4 {L : Nat} {xs : Nat → Int32} : am_sp (tb_P L xs) 143 193 = none := show tb_spF 143 193 = none from by decide +kernel
theorem c143_4 {L : Nat} {xs : Nat → Int32} : am_ca (tb_P L xs) 143 193 = some (144, 2, 1) := show tb_caF 143 193 = some (144, 2, 1) from by decide +kernel
theorem r143_4 {L : Nat} {xs : Nat → Int32} : am_rf (am_me (tb_P L xs) 144) + 1 ≤ am_rf (am_me (tb_P L xs) 143) ∧ 1 + (am_ml (am_me (tb_P L xs) 144) + 11) + am_rl (am_me (tb_P L xs) 144) ≤ am_rl (am_me (tb_P L xs) 143) := show am_rf (tb_me 144) + 1 ≤ am_rf (tb_me 143) ∧ 1 + (am_ml (tb_me 144) + 11) + am_rl (tb_me 144) ≤ am_rl (tb_me 143) from by decide +kernel
theorem k143_7 {L : Nat} {xs : Nat → Int32} : decode (am_cd (am_me (tb_P L xs) 143)) 7 = .ok (.putfield 78, 3) := show decode (am_cd (tb_me 143)) 7 = .ok (.putfield 78, 3) from by decide +kernel
theorem f143_7 {L : Nat} {xs : Nat → Int32} : am_fd (tb_P L xs) 143 78 = some (8, 0, (.int : FieldType), true) := show tb_fdF 143 78 = some (8, 0, (.int : FieldType), true) from by decide +kernel
theorem k143_10 {L : Nat} {xs : Nat → Int32} : decode (am_cd (am_me (tb_P L xs) 143)) 10 = .ok (.aload_n 0, 1) := show decode (am_cd (tb_me 143)) 10 = .ok (.aload_n 0, 1) from by decide +kernel
theorem k143_11 {L : Nat} {xs : Nat → Int32} : decode (am_cd (am_me (tb_P L xs) 143)) 11 = .ok (.getfield 78, 3) := show decode (am_cd (tb_me 143)) 11 = .ok (.getfield 78, 3) from by decide +kernel
theorem f143_11 {L : Nat} {xs : Nat → Int32} : am_fd (tb_P L xs) 143 78 = some (8, 0, (.int : FieldType), true) := show tb_fdF 143 78 = some (8, 0, (.int : FieldType), true) from by decide +kernel
theorem k143_14 {L : Nat} {xs : Nat → Int32} : decode (am_cd (am_me (tb_P L xs) 143)) 14 = .ok (.ifCond .eq 5, 3) := show decode (am_cd (tb_me 143)) 14 = .ok (.ifCond .eq 5, 3) from by decide +kernel
theorem k143_17 {L : Nat} {xs : Nat → Int32} : decode (am_cd (am_me (tb_P L xs) 143)) 17 = .ok (.iconst 0, 1) := show decode (am_cd (tb_me 143)) 17 = .ok (.iconst 0, 1) from by decide +kernel
theorem k143_18 {L : Nat} {xs : Nat → Int32} : decode (am_cd (am_me (tb_P L xs) 143)) 18 = .ok (.ireturn, 1) := show decode (am_cd (tb_me 143)) 18 = .ok (.ireturn, 1) from by decide +kernel
theorem k143_19 {L : Nat} {xs : Nat → Int32} : decode (am_cd (am_me (tb_P L xs) 143)) 19 = .ok (.aload_n 0, 1) := show decode (am_cd (tb_me 143)) 19 = .ok (.aload_n 0, 1) from by decide +kernel
theorem k143_20 {L : Nat} {xs : Nat → Int32} : decode (am_cd (am_me (tb_P L xs) 143)) 20 = .ok (.invokevirtual 196, 3) := show decode (am_cd (tb_me 143)) 20 = .ok (.invokevirtual 196, 3) from by decide +kernel
theorem s143_20 {L : Nat} {xs : Nat → Int32} : am_sp (tb_P L xs) 143 196 = none := show tb_spF 143 196 = none from by decide +kernel
theorem c143_20 {L : Nat} {xs : Nat → Int32} : am_ca (tb_P L xs) 143 196 = some (145, 0, 1) := show tb_caF 143 196 = some (145, 0, 1) from by decide +kernel
theorem r143_20 {L : Nat} {xs : Nat → Int32} : am_rf (am_me (tb_P L xs) 145) + 1 ≤ am_rf (am_me (tb_P L xs) 143) ∧ 0 + (am_ml (am_me (tb_P L xs) 145) + 11) + am_rl (am_me (tb_P L xs) 145) ≤ am_rl (am_me (tb_P L xs) 143) := show am_rf (tb_me 145) + 1 ≤ am_rf (tb_me 143) ∧ 0 + (am_ml (tb_me 145) + 11) + am_rl (tb_me 145) ≤ am_rl (tb_me 143) from by decide +kernel
theorem k143_23 {L : Nat} {xs : Nat → Int32} : decode (am_cd (am_me (tb_P L xs) 143)) 23 = .ok (.aload_n 0, 1) := show decode (am_cd (tb_me 143)) 23 = .ok (.aload_n 0, 1) from by decide +kernel
theorem k143_24 {L : Nat} {xs : Nat → Int32} : decode (am_cd (am_me (tb_P L xs) 143)) 24 = .ok (.iload_n 1, 1) := show decode (am_cd (tb_me 143)) 24 = .ok (.iload_n 1, 1) from by decide +kernel
theorem k143_25 {L : Nat} {xs : Nat → Int32} : decode (am_cd (am_me (tb_P L xs) 143)) 25 = .ok (.iload_n 2, 1) := show decode (am_cd (tb_me 143)) 25 = .ok (.iload_n 2, 1) from by decide +kernel
theorem k143_26 {L : Nat} {xs : Nat → Int32} : decode (am_cd (am_me (tb_P L xs) 143)) 26 = .ok (.invokevirtual 152, 3) := show decode (am_cd (tb_me 143)) 26 = .ok (.invokevirtual 152, 3) from by decide +kernel
theorem s143_26 {L : Nat} {xs : Nat → Int32} : am_sp (tb_P L xs) 143 152 = none := show tb_spF 143 152 = none from by decide +kernel
theorem c143_26 {L : Nat} {xs : Nat → Int32} : am_ca (tb_P L xs) 143 152 = some (132, 2, 1) := show tb_caF 143 152 = some (132, 2, 1) from by decide +kernel
theorem r143_26 {L : Nat} {xs : Nat → Int32} : am_rf (am_me (tb_P L xs) 132) + 1 ≤ am_rf (am_me (tb_P L xs) 143) ∧ 0 + (am_ml (am_me (tb_P L xs) 132) + 11) + am_rl (am_me (tb_P L xs) 132) ≤ am_rl (am_me (tb_P L xs) 143) := show am_rf (tb_me 132) + 1 ≤ am_rf (tb_me 143) ∧ 0 + (am_ml (tb_me 132) + 11) + am_rl (tb_me 132) ≤ am_rl (tb_me 143) from by decide +kernel
theorem k143_29 {L : Nat} {xs : Nat → Int32} : decode (am_cd (am_me (tb_P L xs) 143)) 29 = .ok (.ifCond .eq 16, 3) := show decode (am_cd (tb_me 143)) 29 = .ok (.ifCond .eq 16, 3) from by decide +kernel
theorem k143_32 {L : Nat} {xs : Nat → Int32} : decode (am_cd (am_me (tb_P L xs) 143)) 32 = .ok (.aload_n 0, 1) := show decode (am_cd (tb_me 143)) 32 = .ok (.aload_n 0, 1) from by decide +kernel
theorem k143_33 {L : Nat} {xs : Nat → Int32} : decode (am_cd (am_me (tb_P L xs) 143)) 33 = .ok (.iload_n 1, 1) := show decode (am_cd (tb_me 143)) 33 = .ok (.iload_n 1, 1) from by decide +kernel
theorem k143_34 {L : Nat} {xs : Nat → Int32} : decode (am_cd (am_me (tb_P L xs) 143)) 34 = .ok (.iload_n 2, 1) := show decode (am_cd (tb_me 143)) 34 = .ok (.iload_n 2, 1) from by decide +kernel
theorem k143_35 {L : Nat} {xs : Nat → Int32} : decode (am_cd (am_me (tb_P L xs) 143)) 35 = .ok (.invokevirtual 158, 3) := show decode (am_cd (tb_me 143)) 35 = .ok (.invokevirtual 158, 3) from by decide +kernel
theorem s143_35 {L : Nat} {xs : Nat → Int32} : am_sp (tb_P L xs) 143 158 = none := show tb_spF 143 158 = none from by decide +kernel
theorem c143_35 {L : Nat} {xs : Nat → Int32} : am_ca (tb_P L xs) 143 158 = some (138, 2, 1) := show tb_caF 143 158 = some (138, 2, 1) from by decide +kernel
theorem r143_35 {L : Nat} {xs : Nat → Int32} : am_rf (am_me (tb_P L xs) 138) + 1 ≤ am_rf (am_me (tb_P L xs) 143) ∧ 0 + (am_ml (am_me (tb_P L xs) 138) + 11) + am_rl (am_me (tb_P L xs) 138) ≤ am_rl (am_me (tb_P L xs) 143) := show am_rf (tb_me 138) + 1 ≤ am_rf (tb_me 143) ∧ 0 + (am_ml (tb_me 138) + 11) + am_rl (tb_me 138) ≤ am_rl (tb_me 143) from by decide +kernel
theorem k143_38 {L : Nat} {xs : Nat → Int32} : decode (am_cd (am_me (tb_P L xs) 143)) 38 = .ok (.ifCond .eq 7, 3) := show decode (am_cd (tb_me 143)) 38 = .ok (.ifCond .eq 7, 3) from by decide +kernel
theorem k143_41 {L : Nat} {xs : Nat → Int32} : decode (am_cd (am_me (tb_P L xs) 143)) 41 = .ok (.iconst 1, 1) := show decode (am_cd (tb_me 143)) 41 = .ok (.iconst 1, 1) from by decide +kernel
theorem k143_42 {L : Nat} {xs : Nat → Int32} : decode (am_cd (am_me (tb_P L xs) 143)) 42 = .ok (.goto 4, 3) := show decode (am_cd (tb_me 143)) 42 = .ok (.goto 4, 3) from by decide +kernel
theorem k143_45 {L : Nat} {xs : Nat → Int32} : decode (am_cd (am_me (tb_P L xs) 143)) 45 = .ok (.iconst 0, 1) := show decode (am_cd (tb_me 143)) 45 = .ok (.iconst 0, 1) from by decide +kernel
theorem k143_46 {L : Nat} {xs : Nat → Int32} : decode (am_cd (am_me (tb_P L xs) 143)) 46 = .ok (.ireturn, 1) := show decode (am_cd (tb_me 143)) 46 = .ok (.ireturn, 1) from by decide +kernel
theorem t143 {L : Nat} {xs : Nat → Int32} : am_rt (am_me (tb_P L xs) 143) = some (.boolean : FieldType) := show am_rt (tb_me 143) = some (.boolean : FieldType) from by decide +kernel
theorem l143 {L : Nat} {xs : Nat → Int32} : am_ml (am_me (tb_P L xs) 143) = 3 := show am_ml (tb_me 143) = 3 from by decide +kernel
theorem o143 {L : Nat} {xs : Nat → Int32} (pc : Nat) : am_no (tb_P L xs) 143 pc = true := show (am_hd (tb_me 143)).all (fun q => !(decide (q.1 ≤ pc) && decide (pc < q.2.1))) = true from by rw [show am_hd (tb_me 143) = [] by decide +kernel]; rfl
theorem k144_0 {L : Nat} {xs : Nat → Int32} : decode (am_cd (am_me (tb_P L xs) 144)) 0 = .ok (.aload_n 0, 1) := show decode (am_cd (tb_me 144)) 0 = .ok (.aload_n 0, 1) from by decide +kernel
theorem k144_1 {L : Nat} {xs : Nat → Int32} : decode (am_cd (am_me (tb_P L xs) 144)) 1 = .ok (.iload_n 1, 1) := show decode (am_cd (tb_me 144)) 1 = .ok (.iload_n 1, 1) from by decide +kernel
theorem k144_2 {L : Nat} {xs : Nat → Int32} : decode (am_cd (am_me (tb_P L xs) 144)) 2 = .ok (.invokevirtual 123, 3) := show decode (am_cd (tb_me 144)) 2 = .ok (.invokevirtual 123, 3) from by decide +kernel
theorem s144_2 {L : Nat} {xs : Nat → Int32} : am_sp (tb_P L xs) 144 123 = none := show tb_spF 144 123 = none from by decide +kernel
theorem c144_2 {L : Nat} {xs : Nat → Int32} : am_ca (tb_P L xs) 144 123 = some (115, 1, 1) := show tb_caF 144 123 = some (115, 1, 1) from by decide +kernel
theorem r144_2 {L : Nat} {xs : Nat → Int32} : am_rf (am_me (tb_P L xs) 115) + 1 ≤ am_rf (am_me (tb_P L xs) 144) ∧ 0 + (am_ml (am_me (tb_P L xs) 115) + 11) + am_rl (am_me (tb_P L xs) 115) ≤ am_rl (am_me (tb_P L xs) 144) := show am_rf (tb_me 115) + 1 ≤ am_rf (tb_me 144) ∧ 0 + (am_ml (tb_me 115) + 11) + am_rl (tb_me 115) ≤ am_rl (tb_me 144) from by decide +kernel
theorem k144_5 {L : Nat} {xs : Nat → Int32} : decode (am_cd (am_me (tb_P L xs) 144)) 5 = .ok (.ifCond .ne 26, 3) := show decode (am_cd (tb_me 144)) 5 = .ok (.ifCond .ne 26, 3) from by decide +kernel
theorem k144_8 {L : Nat} {xs : Nat → Int32} : decode (am_cd (am_me (tb_P L xs) 144)) 8 = .ok (.aload_n 0, 1) := show decode (am_cd (tb_me 144)) 8 = .ok (.aload_n 0, 1) from by decide +kernel
theorem k144_9 {L : Nat} {xs : Nat → Int32} : decode (am_cd (am_me (tb_P L xs) 144)) 9 = .ok (.getfield 35, 3) := show decode (am_cd (tb_me 144)) 9 = .ok (.getfield 35, 3) from by decide +kernel
theorem f144_9 {L : Nat} {xs : Nat → Int32} : am_fd (tb_P L xs) 144 35 = some (8, 12, (.array .int : FieldType), true) := show tb_fdF 144 35 = some (8, 12, (.array .int : FieldType), true) from by decide +kernel
theorem k144_12 {L : Nat} {xs : Nat → Int32} : decode (am_cd (am_me (tb_P L xs) 144)) 12 = .ok (.iload_n 1, 1) := show decode (am_cd (tb_me 144)) 12 = .ok (.iload_n 1, 1) from by decide +kernel
theorem k144_13 {L : Nat} {xs : Nat → Int32} : decode (am_cd (am_me (tb_P L xs) 144)) 13 = .ok (.iaload, 1) := show decode (am_cd (tb_me 144)) 13 = .ok (.iaload, 1) from by decide +kernel
theorem k144_14 {L : Nat} {xs : Nat → Int32} : decode (am_cd (am_me (tb_P L xs) 144)) 14 = .ok (.ifCond .eq 17, 3) := show decode (am_cd (tb_me 144)) 14 = .ok (.ifCond .eq 17, 3) from by decide +kernel
theorem k144_17 {L : Nat} {xs : Nat → Int32} : decode (am_cd (am_me (tb_P L xs) 144)) 17 = .ok (.iload_n 2, 1) := show decode (am_cd (tb_me 144)) 17 = .ok (.iload_n 2, 1) from by decide +kernel
theorem k144_18 {L : Nat} {xs : Nat → Int32} : decode (am_cd (am_me (tb_P L xs) 144)) 18 = .ok (.ifCond .lt 13, 3) := show decode (am_cd (tb_me 144)) 18 = .ok (.ifCond .lt 13, 3) from by decide +kernel
theorem k144_21 {L : Nat} {xs : Nat → Int32} : decode (am_cd (am_me (tb_P L xs) 144)) 21 = .ok (.iload_n 2, 1) := show decode (am_cd (tb_me 144)) 21 = .ok (.iload_n 2, 1) from by decide +kernel
theorem k144_22 {L : Nat} {xs : Nat → Int32} : decode (am_cd (am_me (tb_P L xs) 144)) 22 = .ok (.aload_n 0, 1) := show decode (am_cd (tb_me 144)) 22 = .ok (.aload_n 0, 1) from by decide +kernel
theorem k144_23 {L : Nat} {xs : Nat → Int32} : decode (am_cd (am_me (tb_P L xs) 144)) 23 = .ok (.getfield 38, 3) := show decode (am_cd (tb_me 144)) 23 = .ok (.getfield 38, 3) from by decide +kernel
theorem f144_23 {L : Nat} {xs : Nat → Int32} : am_fd (tb_P L xs) 144 38 = some (8, 13, (.array .int : FieldType), true) := show tb_fdF 144 38 = some (8, 13, (.array .int : FieldType), true) from by decide +kernel
theorem k144_26 {L : Nat} {xs : Nat → Int32} : decode (am_cd (am_me (tb_P L xs) 144)) 26 = .ok (.iload_n 1, 1) := show decode (am_cd (tb_me 144)) 26 = .ok (.iload_n 1, 1) from by decide +kernel
theorem k144_27 {L : Nat} {xs : Nat → Int32} : decode (am_cd (am_me (tb_P L xs) 144)) 27 = .ok (.iaload, 1) := show decode (am_cd (tb_me 144)) 27 = .ok (.iaload, 1) from by decide +kernel
theorem k144_28 {L : Nat} {xs : Nat → Int32} : decode (am_cd (am_me (tb_P L xs) 144)) 28 = .ok (.if_icmp .lt 7, 3) := show decode (am_cd (tb_me 144)) 28 = .ok (.if_icmp .lt 7, 3) from by decide +kernel
theorem k144_31 {L : Nat} {xs : Nat → Int32} : decode (am_cd (am_me (tb_P L xs) 144)) 31 = .ok (.iconst 1, 1) := show decode (am_cd (tb_me 144)) 31 = .ok (.iconst 1, 1) from by decide +kernel
theorem k144_32 {L : Nat} {xs : Nat → Int32} : decode (am_cd (am_me (tb_P L xs) 144)) 32 = .ok (.goto 15, 3) := show decode (am_cd (tb_me 144)) 32 = .ok (.goto 15, 3) from by decide +kernel
theorem k144_35 {L : Nat} {xs : Nat → Int32} : decode (am_cd (am_me (tb_P L xs) 144)) 35 = .ok (.aload_n 0, 1) := show decode (am_cd (tb_me 144)) 35 = .ok (.aload_n 0, 1) from by decide +kernel
theorem k144_36 {L : Nat} {xs : Nat → Int32} : decode (am_cd (am_me (tb_P L xs) 144)) 36 = .ok (.getfield 116, 3) := show decode (am_cd (tb_me 144)) 36 = .ok (.getfield 116, 3) from by decide +kernel
theorem f144_36 {L : Nat} {xs : Nat → Int32} : am_fd (tb_P L xs) 144 116 = some (8, 23, (.boolean : FieldType), true) := show tb_fdF 144 116 = some (8, 23, (.boolean : FieldType), true) from by decide +kernel
theorem k144_39 {L : Nat} {xs : Nat → Int32} : decode (am_cd (am_me (tb_P L xs) 144)) 39 = .ok (.ifCond .ne 7, 3) := show decode (am_cd (tb_me 144)) 39 = .ok (.ifCond .ne 7, 3) from by decide +kernel
theorem k144_42 {L : Nat} {xs : Nat → Int32} : decode (am_cd (am_me (tb_P L xs) 144)) 42 = .ok (.iconst 2, 1) := show decode (am_cd (tb_me 144)) 42 = .ok (.iconst 2, 1) from by decide +kernel
theorem k144_43 {L : Nat} {xs : Nat → Int32} : decode (am_cd (am_me (tb_P L xs) 144)) 43 = .ok (.goto 4, 3) := show decode (am_cd (tb_me 144)) 43 = .ok (.goto 4, 3) from by decide +kernel
theorem k144_46 {L : Nat} {xs : Nat → Int32} : decode (am_cd (am_me (tb_P L xs) 144)) 46 = .ok (.iconst 0, 1) := show decode (am_cd (tb_me 144)) 46 = .ok (.iconst 0, 1) from by decide +kernel
theorem k144_47 {L : Nat} {xs : Nat → Int32} : decode (am_cd (am_me (tb_P L xs) 144)) 47 = .ok (.ireturn, 1) := show decode (am_cd (tb_me 144)) 47 = .ok (.ireturn, 1) from by decide +kernel
theorem t144 {L : Nat} {xs : Nat → Int32} : am_rt (am_me (tb_P L xs) 144) = some (.int : FieldType) := show am_rt (tb_me 144) = some (.int : FieldType) from by decide +kernel
theorem l144 {L : Nat} {xs : Nat → Int32} : am_ml (am_me (tb_P L xs) 144) = 3 := show am_ml (tb_me 144) = 3 from by decide +kernel
theorem o144 {L : Nat} {xs : Nat → Int32} (pc : Nat) : am_no (tb_P L xs) 144 pc = true := show (am_hd (tb_me 144)).all (fun q => !(decide (q.1 ≤ pc) && decide (pc < q.2.1))) = true from by rw [show am_hd (tb_me 144) = [] by decide +kernel]; rfl
theorem k145_0 {L : Nat} {xs : Nat → Int32} : decode (am_cd (am_me (tb_P L xs) 145)) 0 = .ok (.iconst 0, 1) := show decode (am_cd (tb_me 145)) 0 = .ok (.iconst 0, 1) from by decide +kernel
theorem k145_1 {L : Nat} {xs : Nat → Int32} : decode (am_cd (am_me (tb_P L xs) 145)) 1 = .ok (.istore_n 1, 1) := show decode (am_cd (tb_me 145)) 1 = .ok (.istore_n 1, 1) from by decide +kernel
theorem k145_2 {L : Nat} {xs : Nat → Int32} : decode (am_cd (am_me (tb_P L xs) 145)) 2 = .ok (.iload_n 1, 1) := show decode (am_cd (tb_me 145)) 2 = .ok (.iload_n 1, 1) from by decide +kernel
theorem k145_3 {L : Nat} {xs : Nat → Int32} : decode (am_cd (am_me (tb_P L xs) 145)) 3 = .ok (.bipush 6, 2) := show decode (am_cd (tb_me 145)) 3 = .ok (.bipush 6, 2) from by decide +kernel
theorem k145_5 {L : Nat} {xs : Nat → Int32} : decode (am_cd (am_me (tb_P L xs) 145)) 5 = .ok (.if_icmp .ge 45, 3) := show decode (am_cd (tb_me 145)) 5 = .ok (.if_icmp .ge 45, 3) from by decide +kernel
theorem k145_8 {L : Nat} {xs : Nat → Int32} : decode (am_cd (am_me (tb_P L xs) 145)) 8 = .ok (.aload_n 0, 1) := show decode (am_cd (tb_me 145)) 8 = .ok (.aload_n 0, 1) from by decide +kernel
theorem k145_9 {L : Nat} {xs : Nat → Int32} : decode (am_cd (am_me (tb_P L xs) 145)) 9 = .ok (.getfield 63, 3) := show decode (am_cd (tb_me 145)) 9 = .ok (.getfield 63, 3) from by decide +kernel
theorem f145_9 {L : Nat} {xs : Nat → Int32} : am_fd (tb_P L xs) 145 63 = some (8, 21, (.array .int : FieldType), true) := show tb_fdF 145 63 = some (8, 21, (.array .int : FieldType), true) from by decide +kernel
theorem k145_12 {L : Nat} {xs : Nat → Int32} : decode (am_cd (am_me (tb_P L xs) 145)) 12 = .ok (.iload_n 1, 1) := show decode (am_cd (tb_me 145)) 12 = .ok (.iload_n 1, 1) from by decide +kernel
theorem k145_13 {L : Nat} {xs : Nat → Int32} : decode (am_cd (am_me (tb_P L xs) 145)) 13 = .ok (.aload_n 0, 1) := show decode (am_cd (tb_me 145)) 13 = .ok (.aload_n 0, 1) from by decide +kernel
theorem k145_14 {L : Nat} {xs : Nat → Int32} : decode (am_cd (am_me (tb_P L xs) 145)) 14 = .ok (.getfield 116, 3) := show decode (am_cd (tb_me 145)) 14 = .ok (.getfield 116, 3) from by decide +kernel
theorem f145_14 {L : Nat} {xs : Nat → Int32} : am_fd (tb_P L xs) 145 116 = some (8, 23, (.boolean : FieldType), true) := show tb_fdF 145 116 = some (8, 23, (.boolean : FieldType), true) from by decide +kernel
theorem k145_17 {L : Nat} {xs : Nat → Int32} : decode (am_cd (am_me (tb_P L xs) 145)) 17 = .ok (.ifCond .eq 20, 3) := show decode (am_cd (tb_me 145)) 17 = .ok (.ifCond .eq 20, 3) from by decide +kernel
theorem k145_20 {L : Nat} {xs : Nat → Int32} : decode (am_cd (am_me (tb_P L xs) 145)) 20 = .ok (.aload_n 0, 1) := show decode (am_cd (tb_me 145)) 20 = .ok (.aload_n 0, 1) from by decide +kernel
theorem k145_21 {L : Nat} {xs : Nat → Int32} : decode (am_cd (am_me (tb_P L xs) 145)) 21 = .ok (.getfield 69, 3) := show decode (am_cd (tb_me 145)) 21 = .ok (.getfield 69, 3) from by decide +kernel
theorem f145_21 {L : Nat} {xs : Nat → Int32} : am_fd (tb_P L xs) 145 69 = some (8, 26, (.array .int : FieldType), true) := show tb_fdF 145 69 = some (8, 26, (.array .int : FieldType), true) from by decide +kernel
theorem k145_24 {L : Nat} {xs : Nat → Int32} : decode (am_cd (am_me (tb_P L xs) 145)) 24 = .ok (.bipush 6, 2) := show decode (am_cd (tb_me 145)) 24 = .ok (.bipush 6, 2) from by decide +kernel
theorem k145_26 {L : Nat} {xs : Nat → Int32} : decode (am_cd (am_me (tb_P L xs) 145)) 26 = .ok (.aload_n 0, 1) := show decode (am_cd (tb_me 145)) 26 = .ok (.aload_n 0, 1) from by decide +kernel
theorem k145_27 {L : Nat} {xs : Nat → Int32} : decode (am_cd (am_me (tb_P L xs) 145)) 27 = .ok (.getfield 190, 3) := show decode (am_cd (tb_me 145)) 27 = .ok (.getfield 190, 3) from by decide +kernel
theorem f145_27 {L : Nat} {xs : Nat → Int32} : am_fd (tb_P L xs) 145 190 = some (8, 25, (.int : FieldType), true) := show tb_fdF 145 190 = some (8, 25, (.int : FieldType), true) from by decide +kernel
theorem k145_30 {L : Nat} {xs : Nat → Int32} : decode (am_cd (am_me (tb_P L xs) 145)) 30 = .ok (.imul, 1) := show decode (am_cd (tb_me 145)) 30 = .ok (.imul, 1) from by decide +kernel
theorem k145_31 {L : Nat} {xs : Nat → Int32} : decode (am_cd (am_me (tb_P L xs) 145)) 31 = .ok (.iload_n 1, 1) := show decode (am_cd (tb_me 145)) 31 = .ok (.iload_n 1, 1) from by decide +kernel
theorem k145_32 {L : Nat} {xs : Nat → Int32} : decode (am_cd (am_me (tb_P L xs) 145)) 32 = .ok (.iadd, 1) := show decode (am_cd (tb_me 145)) 32 = .ok (.iadd, 1) from by decide +kernel
theorem k145_33 {L : Nat} {xs : Nat → Int32} : decode (am_cd (am_me (tb_P L xs) 145)) 33 = .ok (.iaload, 1) := show decode (am_cd (tb_me 145)) 33 = .ok (.iaload, 1) from by decide +kernel
theorem k145_34 {L : Nat} {xs : Nat → Int32} : decode (am_cd (am_me (tb_P L xs) 145)) 34 = .ok (.goto 9, 3) := show decode (am_cd (tb_me 145)) 34 = .ok (.goto 9, 3) from by decide +kernel
theorem k145_37 {L : Nat} {xs : Nat → Int32} : decode (am_cd (am_me (tb_P L xs) 145)) 37 = .ok (.aload_n 0, 1) := show decode (am_cd (tb_me 145)) 37 = .ok (.aload_n 0, 1) from by decide +kernel
theorem k145_38 {L : Nat} {xs : Nat → Int32} : decode (am_cd (am_me (tb_P L xs) 145)) 38 = .ok (.getfield 13, 3) := show decode (am_cd (tb_me 145)) 38 = .ok (.getfield 13, 3) from by decide +kernel
theorem f145_38 {L : Nat} {xs : Nat → Int32} : am_fd (tb_P L xs) 145 13 = some (8, 2, (.array .int : FieldType), true) := show tb_fdF 145 13 = some (8, 2, (.array .int : FieldType), true) from by decide +kernel
theorem k145_41 {L : Nat} {xs : Nat → Int32} : decode (am_cd (am_me (tb_P L xs) 145)) 41 = .ok (.iload_n 1, 1) := show decode (am_cd (tb_me 145)) 41 = .ok (.iload_n 1, 1) from by decide +kernel
theorem k145_42 {L : Nat} {xs : Nat → Int32} : decode (am_cd (am_me (tb_P L xs) 145)) 42 = .ok (.iaload, 1) := show decode (am_cd (tb_me 145)) 42 = .ok (.iaload, 1) from by decide +kernel
theorem k145_43 {L : Nat} {xs : Nat → Int32} : decode (am_cd (am_me (tb_P L xs) 145)) 43 = .ok (.iastore, 1) := show decode (am_cd (tb_me 145)) 43 = .ok (.iastore, 1) from by decide +kernel
theorem k145_44 {L : Nat} {xs : Nat → Int32} : decode (am_cd (am_me (tb_P L xs) 145)) 44 = .ok (.iinc 1 1, 3) := show decode (am_cd (tb_me 145)) 44 = .ok (.iinc 1 1, 3) from by decide +kernel
theorem k145_47 {L : Nat} {xs : Nat → Int32} : decode (am_cd (am_me (tb_P L xs) 145)) 47 = .ok (.goto (-45), 3) := show decode (am_cd (tb_me 145)) 47 = .ok (.goto (-45), 3) from by decide +kernel
theorem k145_50 {L : Nat} {xs : Nat → Int32} : decode (am_cd (am_me (tb_P L xs) 145)) 50 = .ok (.return_, 1) := show decode (am_cd (tb_me 145)) 50 = .ok (.return_, 1) from by decide +kernel
theorem t145 {L : Nat} {xs : Nat → Int32} : am_rt (am_me (tb_P L xs) 145) = none := show am_rt (tb_me 145) = none from by decide +kernel
theorem l145 {L : Nat} {xs : Nat → Int32} : am_ml (am_me (tb_P L xs) 145) = 2 := show am_ml (tb_me 145) = 2 from by decide +kernel
theorem o145 {L : Nat} {xs : Nat → Int32} (pc : Nat) : am_no (tb_P L xs) 145 pc = true := show (am_hd (tb_me 145)).all (fun q => !(decide (q.1 ≤ pc) && decide (pc < q.2.1))) = true from by rw [show am_hd (tb_me 145) = [] by decide +kernel]; rfl
theorem k146_0 {L : Nat} {xs : Nat → Int32} : decode (am_cd (am_me (tb_P L xs) 146)) 0 = .ok (.aload_n 0, 1) := show decode (am_cd (tb_me 146)) 0 = .ok (.aload_n 0, 1) from by decide +kernel
theorem k146_1 {L : Nat} {xs : Nat → Int32} : decode (am_cd (am_me (tb_P L xs) 146)) 1 = .ok (.aload_n 0, 1) := show decode (am_cd (tb_me 146)) 1 = .ok (.aload_n 0, 1) from by decide +kernel
theorem k146_2 {L : Nat} {xs : Nat → Int32} : decode (am_cd (am_me (tb_P L xs) 146)) 2 = .ok (.iload_n 1, 1) := show decode (am_cd (tb_me 146)) 2 = .ok (.iload_n 1, 1) from by decide +kernel
theorem k146_3 {L : Nat} {xs : Nat → Int32} : decode (am_cd (am_me (tb_P L xs) 146)) 3 = .ok (.iload_n 2, 1) := show decode (am_cd (tb_me 146)) 3 = .ok (.iload_n 2, 1) from by decide +kernel
theorem k146_4 {L : Nat} {xs : Nat → Int32} : decode (am_cd (am_me (tb_P L xs) 146)) 4 = .ok (.invokevirtual 193, 3) := show decode (am_cd (tb_me 146)) 4 = .ok (.invokevirtual 193, 3) from by decide +kernel
theorem s146_4 {L : Nat} {xs : Nat → Int32} : am_sp (tb_P L xs) 146 193 = none := show tb_spF 146 193 = none from by decide +kernel
theorem c146_4 {L : Nat} {xs : Nat → Int32} : am_ca (tb_P L xs) 146 193 = some (144, 2, 1) := show tb_caF 146 193 = some (144, 2, 1) from by decide +kernel
theorem r146_4 {L : Nat} {xs : Nat → Int32} : am_rf (am_me (tb_P L xs) 144) + 1 ≤ am_rf (am_me (tb_P L xs) 146) ∧ 1 + (am_ml (am_me (tb_P L xs) 144) + 11) + am_rl (am_me (tb_P L xs) 144) ≤ am_rl (am_me (tb_P L xs) 146) := show am_rf (tb_me 144) + 1 ≤ am_rf (tb_me 146) ∧ 1 + (am_ml (tb_me 144) + 11) + am_rl (tb_me 144) ≤ am_rl (tb_me 146) from by decide +kernel
theorem k146_7 {L : Nat} {xs : Nat → Int32} : decode (am_cd (am_me (tb_P L xs) 146)) 7 = .ok (.putfield 78, 3) := show decode (am_cd (tb_me 146)) 7 = .ok (.putfield 78, 3) from by decide +kernel
theorem f146_7 {L : Nat} {xs : Nat → Int32} : am_fd (tb_P L xs) 146 78 = some (8, 0, (.int : FieldType), true) := show tb_fdF 146 78 = some (8, 0, (.int : FieldType), true) from by decide +kernel
theorem k146_10 {L : Nat} {xs : Nat → Int32} : decode (am_cd (am_me (tb_P L xs) 146)) 10 = .ok (.aload_n 0, 1) := show decode (am_cd (tb_me 146)) 10 = .ok (.aload_n 0, 1) from by decide +kernel
theorem k146_11 {L : Nat} {xs : Nat → Int32} : decode (am_cd (am_me (tb_P L xs) 146)) 11 = .ok (.getfield 78, 3) := show decode (am_cd (tb_me 146)) 11 = .ok (.getfield 78, 3) from by decide +kernel
theorem f146_11 {L : Nat} {xs : Nat → Int32} : am_fd (tb_P L xs) 146 78 = some (8, 0, (.int : FieldType), true) := show tb_fdF 146 78 = some (8, 0, (.int : FieldType), true) from by decide +kernel
theorem k146_14 {L : Nat} {xs : Nat → Int32} : decode (am_cd (am_me (tb_P L xs) 146)) 14 = .ok (.ifCond .eq 5, 3) := show decode (am_cd (tb_me 146)) 14 = .ok (.ifCond .eq 5, 3) from by decide +kernel
theorem k146_17 {L : Nat} {xs : Nat → Int32} : decode (am_cd (am_me (tb_P L xs) 146)) 17 = .ok (.iconst 0, 1) := show decode (am_cd (tb_me 146)) 17 = .ok (.iconst 0, 1) from by decide +kernel
theorem k146_18 {L : Nat} {xs : Nat → Int32} : decode (am_cd (am_me (tb_P L xs) 146)) 18 = .ok (.ireturn, 1) := show decode (am_cd (tb_me 146)) 18 = .ok (.ireturn, 1) from by decide +kernel
theorem k146_19 {L : Nat} {xs : Nat → Int32} : decode (am_cd (am_me (tb_P L xs) 146)) 19 = .ok (.aload_n 0, 1) := show decode (am_cd (tb_me 146)) 19 = .ok (.aload_n 0, 1) from by decide +kernel
theorem k146_20 {L : Nat} {xs : Nat → Int32} : decode (am_cd (am_me (tb_P L xs) 146)) 20 = .ok (.invokevirtual 196, 3) := show decode (am_cd (tb_me 146)) 20 = .ok (.invokevirtual 196, 3) from by decide +kernel
theorem s146_20 {L : Nat} {xs : Nat → Int32} : am_sp (tb_P L xs) 146 196 = none := show tb_spF 146 196 = none from by decide +kernel
theorem c146_20 {L : Nat} {xs : Nat → Int32} : am_ca (tb_P L xs) 146 196 = some (145, 0, 1) := show tb_caF 146 196 = some (145, 0, 1) from by decide +kernel
theorem r146_20 {L : Nat} {xs : Nat → Int32} : am_rf (am_me (tb_P L xs) 145) + 1 ≤ am_rf (am_me (tb_P L xs) 146) ∧ 0 + (am_ml (am_me (tb_P L xs) 145) + 11) + am_rl (am_me (tb_P L xs) 145) ≤ am_rl (am_me (tb_P L xs) 146) := show am_rf (tb_me 145) + 1 ≤ am_rf (tb_me 146) ∧ 0 + (am_ml (tb_me 145) + 11) + am_rl (tb_me 145) ≤ am_rl (tb_me 146) from by decide +kernel
theorem k146_23 {L : Nat} {xs : Nat → Int32} : decode (am_cd (am_me (tb_P L xs) 146)) 23 = .ok (.aload_n 0, 1) := show decode (am_cd (tb_me 146)) 23 = .ok (.aload_n 0, 1) from by decide +kernel
theorem k146_24 {L : Nat} {xs : Nat → Int32} : decode (am_cd (am_me (tb_P L xs) 146)) 24 = .ok (.iload_n 1, 1) := show decode (am_cd (tb_me 146)) 24 = .ok (.iload_n 1, 1) from by decide +kernel
theorem k146_25 {L : Nat} {xs : Nat → Int32} : decode (am_cd (am_me (tb_P L xs) 146)) 25 = .ok (.iload_n 2, 1) := show decode (am_cd (tb_me 146)) 25 = .ok (.iload_n 2, 1) from by decide +kernel
theorem k146_26 {L : Nat} {xs : Nat → Int32} : decode (am_cd (am_me (tb_P L xs) 146)) 26 = .ok (.invokevirtual 155, 3) := show decode (am_cd (tb_me 146)) 26 = .ok (.invokevirtual 155, 3) from by decide +kernel
theorem s146_26 {L : Nat} {xs : Nat → Int32} : am_sp (tb_P L xs) 146 155 = none := show tb_spF 146 155 = none from by decide +kernel
theorem c146_26 {L : Nat} {xs : Nat → Int32} : am_ca (tb_P L xs) 146 155 = some (136, 2, 1) := show tb_caF 146 155 = some (136, 2, 1) from by decide +kernel
theorem r146_26 {L : Nat} {xs : Nat → Int32} : am_rf (am_me (tb_P L xs) 136) + 1 ≤ am_rf (am_me (tb_P L xs) 146) ∧ 0 + (am_ml (am_me (tb_P L xs) 136) + 11) + am_rl (am_me (tb_P L xs) 136) ≤ am_rl (am_me (tb_P L xs) 146) := show am_rf (tb_me 136) + 1 ≤ am_rf (tb_me 146) ∧ 0 + (am_ml (tb_me 136) + 11) + am_rl (tb_me 136) ≤ am_rl (tb_me 146) from by decide +kernel
theorem k146_29 {L : Nat} {xs : Nat → Int32} : decode (am_cd (am_me (tb_P L xs) 146)) 29 = .ok (.istore_n 3, 1) := show decode (am_cd (tb_me 146)) 29 = .ok (.istore_n 3, 1) from by decide +kernel
theorem k146_30 {L : Nat} {xs : Nat → Int32} : decode (am_cd (am_me (tb_P L xs) 146)) 30 = .ok (.aload_n 0, 1) := show decode (am_cd (tb_me 146)) 30 = .ok (.aload_n 0, 1) from by decide +kernel
theorem k146_31 {L : Nat} {xs : Nat → Int32} : decode (am_cd (am_me (tb_P L xs) 146)) 31 = .ok (.aload_n 0, 1) := show decode (am_cd (tb_me 146)) 31 = .ok (.aload_n 0, 1) from by decide +kernel
theorem k146_32 {L : Nat} {xs : Nat → Int32} : decode (am_cd (am_me (tb_P L xs) 146)) 32 = .ok (.iload_n 1, 1) := show decode (am_cd (tb_me 146)) 32 = .ok (.iload_n 1, 1) from by decide +kernel
theorem k146_33 {L : Nat} {xs : Nat → Int32} : decode (am_cd (am_me (tb_P L xs) 146)) 33 = .ok (.iload_n 2, 1) := show decode (am_cd (tb_me 146)) 33 = .ok (.iload_n 2, 1) from by decide +kernel
theorem k146_34 {L : Nat} {xs : Nat → Int32} : decode (am_cd (am_me (tb_P L xs) 146)) 34 = .ok (.invokevirtual 152, 3) := show decode (am_cd (tb_me 146)) 34 = .ok (.invokevirtual 152, 3) from by decide +kernel
theorem s146_34 {L : Nat} {xs : Nat → Int32} : am_sp (tb_P L xs) 146 152 = none := show tb_spF 146 152 = none from by decide +kernel
theorem c146_34 {L : Nat} {xs : Nat → Int32} : am_ca (tb_P L xs) 146 152 = some (132, 2, 1) := show tb_caF 146 152 = some (132, 2, 1) from by decide +kernel
theorem r146_34 {L : Nat} {xs : Nat → Int32} : am_rf (am_me (tb_P L xs) 132) + 1 ≤ am_rf (am_me (tb_P L xs) 146) ∧ 1 + (am_ml (am_me (tb_P L xs) 132) + 11) + am_rl (am_me (tb_P L xs) 132) ≤ am_rl (am_me (tb_P L xs) 146) := show am_rf (tb_me 132) + 1 ≤ am_rf (tb_me 146) ∧ 1 + (am_ml (tb_me 132) + 11) + am_rl (tb_me 132) ≤ am_rl (tb_me 146) from by decide +kernel
theorem k146_37 {L : Nat} {xs : Nat → Int32} : decode (am_cd (am_me (tb_P L xs) 146)) 37 = .ok (.ifCond .eq 28, 3) := show decode (am_cd (tb_me 146)) 37 = .ok (.ifCond .eq 28, 3) from by decide +kernel
theorem k146_40 {L : Nat} {xs : Nat → Int32} : decode (am_cd (am_me (tb_P L xs) 146)) 40 = .ok (.aload_n 0, 1) := show decode (am_cd (tb_me 146)) 40 = .ok (.aload_n 0, 1) from by decide +kernel
theorem k146_41 {L : Nat} {xs : Nat → Int32} : decode (am_cd (am_me (tb_P L xs) 146)) 41 = .ok (.iload_n 1, 1) := show decode (am_cd (tb_me 146)) 41 = .ok (.iload_n 1, 1) from by decide +kernel
theorem k146_42 {L : Nat} {xs : Nat → Int32} : decode (am_cd (am_me (tb_P L xs) 146)) 42 = .ok (.iload_n 2, 1) := show decode (am_cd (tb_me 146)) 42 = .ok (.iload_n 2, 1) from by decide +kernel
theorem k146_43 {L : Nat} {xs : Nat → Int32} : decode (am_cd (am_me (tb_P L xs) 146)) 43 = .ok (.invokevirtual 158, 3) := show decode (am_cd (tb_me 146)) 43 = .ok (.invokevirtual 158, 3) from by decide +kernel
theorem s146_43 {L : Nat} {xs : Nat → Int32} : am_sp (tb_P L xs) 146 158 = none := show tb_spF 146 158 = none from by decide +kernel
theorem c146_43 {L : Nat} {xs : Nat → Int32} : am_ca (tb_P L xs) 146 158 = some (138, 2, 1) := show tb_caF 146 158 = some (138, 2, 1) from by decide +kernel
theorem r146_43 {L : Nat} {xs : Nat → Int32} : am_rf (am_me (tb_P L xs) 138) + 1 ≤ am_rf (am_me (tb_P L xs) 146) ∧ 1 + (am_ml (am_me (tb_P L xs) 138) + 11) + am_rl (am_me (tb_P L xs) 138) ≤ am_rl (am_me (tb_P L xs) 146) := show am_rf (tb_me 138) + 1 ≤ am_rf (tb_me 146) ∧ 1 + (am_ml (tb_me 138) + 11) + am_rl (tb_me 138) ≤ am_rl (tb_me 146) from by decide +kernel
theorem k146_46 {L : Nat} {xs : Nat → Int32} : decode (am_cd (am_me (tb_P L xs) 146)) 46 = .ok (.ifCond .eq 19, 3) := show decode (am_cd (tb_me 146)) 46 = .ok (.ifCond .eq 19, 3) from by decide +kernel
theorem k146_49 {L : Nat} {xs : Nat → Int32} : decode (am_cd (am_me (tb_P L xs) 146)) 49 = .ok (.aload_n 0, 1) := show decode (am_cd (tb_me 146)) 49 = .ok (.aload_n 0, 1) from by decide +kernel
theorem k146_50 {L : Nat} {xs : Nat → Int32} : decode (am_cd (am_me (tb_P L xs) 146)) 50 = .ok (.getfield 187, 3) := show decode (am_cd (tb_me 146)) 50 = .ok (.getfield 187, 3) from by decide +kernel
theorem f146_50 {L : Nat} {xs : Nat → Int32} : am_fd (tb_P L xs) 146 187 = some (8, 24, (.boolean : FieldType), true) := show tb_fdF 146 187 = some (8, 24, (.boolean : FieldType), true) from by decide +kernel
theorem k146_53 {L : Nat} {xs : Nat → Int32} : decode (am_cd (am_me (tb_P L xs) 146)) 53 = .ok (.ifCond .ne 12, 3) := show decode (am_cd (tb_me 146)) 53 = .ok (.ifCond .ne 12, 3) from by decide +kernel
theorem k146_56 {L : Nat} {xs : Nat → Int32} : decode (am_cd (am_me (tb_P L xs) 146)) 56 = .ok (.aload_n 0, 1) := show decode (am_cd (tb_me 146)) 56 = .ok (.aload_n 0, 1) from by decide +kernel
theorem k146_57 {L : Nat} {xs : Nat → Int32} : decode (am_cd (am_me (tb_P L xs) 146)) 57 = .ok (.getfield 190, 3) := show decode (am_cd (tb_me 146)) 57 = .ok (.getfield 190, 3) from by decide +kernel
theorem f146_57 {L : Nat} {xs : Nat → Int32} : am_fd (tb_P L xs) 146 190 = some (8, 25, (.int : FieldType), true) := show tb_fdF 146 190 = some (8, 25, (.int : FieldType), true) from by decide +kernel
theorem k146_60 {L : Nat} {xs : Nat → Int32} : decode (am_cd (am_me (tb_P L xs) 146)) 60 = .ok (.bipush 60, 2) := show decode (am_cd (tb_me 146)) 60 = .ok (.bipush 60, 2) from by decide +kernel
theorem k146_62 {L : Nat} {xs : Nat → Int32} : decode (am_cd (am_me (tb_P L xs) 146)) 62 = .ok (.if_icmp .ne 7, 3) := show decode (am_cd (tb_me 146)) 62 = .ok (.if_icmp .ne 7, 3) from by decide +kernel
theorem k146_65 {L : Nat} {xs : Nat → Int32} : decode (am_cd (am_me (tb_P L xs) 146)) 65 = .ok (.iconst 3, 1) := show decode (am_cd (tb_me 146)) 65 = .ok (.iconst 3, 1) from by decide +kernel
theorem k146_66 {L : Nat} {xs : Nat → Int32} : decode (am_cd (am_me (tb_P L xs) 146)) 66 = .ok (.goto 4, 3) := show decode (am_cd (tb_me 146)) 66 = .ok (.goto 4, 3) from by decide +kernel
theorem k146_69 {L : Nat} {xs : Nat → Int32} : decode (am_cd (am_me (tb_P L xs) 146)) 69 = .ok (.iconst 0, 1) := show decode (am_cd (tb_me 146)) 69 = .ok (.iconst 0, 1) from by decide +kernel
theorem k146_70 {L : Nat} {xs : Nat → Int32} : decode (am_cd (am_me (tb_P L xs) 146)) 70 = .ok (.putfield 78, 3) := show decode (am_cd (tb_me 146)) 70 = .ok (.putfield 78, 3) from by decide +kernel
theorem f146_70 {L : Nat} {xs : Nat → Int32} : am_fd (tb_P L xs) 146 78 = some (8, 0, (.int : FieldType), true) := show tb_fdF 146 78 = some (8, 0, (.int : FieldType), true) from by decide +kernel
theorem k146_73 {L : Nat} {xs : Nat → Int32} : decode (am_cd (am_me (tb_P L xs) 146)) 73 = .ok (.aload_n 0, 1) := show decode (am_cd (tb_me 146)) 73 = .ok (.aload_n 0, 1) from by decide +kernel
theorem k146_74 {L : Nat} {xs : Nat → Int32} : decode (am_cd (am_me (tb_P L xs) 146)) 74 = .ok (.getfield 78, 3) := show decode (am_cd (tb_me 146)) 74 = .ok (.getfield 78, 3) from by decide +kernel
theorem f146_74 {L : Nat} {xs : Nat → Int32} : am_fd (tb_P L xs) 146 78 = some (8, 0, (.int : FieldType), true) := show tb_fdF 146 78 = some (8, 0, (.int : FieldType), true) from by decide +kernel
theorem k146_77 {L : Nat} {xs : Nat → Int32} : decode (am_cd (am_me (tb_P L xs) 146)) 77 = .ok (.ifCond .eq 5, 3) := show decode (am_cd (tb_me 146)) 77 = .ok (.ifCond .eq 5, 3) from by decide +kernel
theorem k146_80 {L : Nat} {xs : Nat → Int32} : decode (am_cd (am_me (tb_P L xs) 146)) 80 = .ok (.iconst 0, 1) := show decode (am_cd (tb_me 146)) 80 = .ok (.iconst 0, 1) from by decide +kernel
theorem k146_81 {L : Nat} {xs : Nat → Int32} : decode (am_cd (am_me (tb_P L xs) 146)) 81 = .ok (.ireturn, 1) := show decode (am_cd (tb_me 146)) 81 = .ok (.ireturn, 1) from by decide +kernel
theorem k146_82 {L : Nat} {xs : Nat → Int32} : decode (am_cd (am_me (tb_P L xs) 146)) 82 = .ok (.aload_n 0, 1) := show decode (am_cd (tb_me 146)) 82 = .ok (.aload_n 0, 1) from by decide +kernel
theorem k146_83 {L : Nat} {xs : Nat → Int32} : decode (am_cd (am_me (tb_P L xs) 146)) 83 = .ok (.dup, 1) := show decode (am_cd (tb_me 146)) 83 = .ok (.dup, 1) from by decide +kernel
theorem k146_84 {L : Nat} {xs : Nat → Int32} : decode (am_cd (am_me (tb_P L xs) 146)) 84 = .ok (.getfield 190, 3) := show decode (am_cd (tb_me 146)) 84 = .ok (.getfield 190, 3) from by decide +kernel
theorem f146_84 {L : Nat} {xs : Nat → Int32} : am_fd (tb_P L xs) 146 190 = some (8, 25, (.int : FieldType), true) := show tb_fdF 146 190 = some (8, 25, (.int : FieldType), true) from by decide +kernel
theorem k146_87 {L : Nat} {xs : Nat → Int32} : decode (am_cd (am_me (tb_P L xs) 146)) 87 = .ok (.iconst 1, 1) := show decode (am_cd (tb_me 146)) 87 = .ok (.iconst 1, 1) from by decide +kernel
theorem k146_88 {L : Nat} {xs : Nat → Int32} : decode (am_cd (am_me (tb_P L xs) 146)) 88 = .ok (.iadd, 1) := show decode (am_cd (tb_me 146)) 88 = .ok (.iadd, 1) from by decide +kernel
theorem k146_89 {L : Nat} {xs : Nat → Int32} : decode (am_cd (am_me (tb_P L xs) 146)) 89 = .ok (.putfield 190, 3) := show decode (am_cd (tb_me 146)) 89 = .ok (.putfield 190, 3) from by decide +kernel
theorem f146_89 {L : Nat} {xs : Nat → Int32} : am_fd (tb_P L xs) 146 190 = some (8, 25, (.int : FieldType), true) := show tb_fdF 146 190 = some (8, 25, (.int : FieldType), true) from by decide +kernel
theorem k146_92 {L : Nat} {xs : Nat → Int32} : decode (am_cd (am_me (tb_P L xs) 146)) 92 = .ok (.iconst 0, 1) := show decode (am_cd (tb_me 146)) 92 = .ok (.iconst 0, 1) from by decide +kernel
theorem k146_93 {L : Nat} {xs : Nat → Int32} : decode (am_cd (am_me (tb_P L xs) 146)) 93 = .ok (.istore 4, 2) := show decode (am_cd (tb_me 146)) 93 = .ok (.istore 4, 2) from by decide +kernel
theorem k146_95 {L : Nat} {xs : Nat → Int32} : decode (am_cd (am_me (tb_P L xs) 146)) 95 = .ok (.iload 4, 2) := show decode (am_cd (tb_me 146)) 95 = .ok (.iload 4, 2) from by decide +kernel
theorem k146_97 {L : Nat} {xs : Nat → Int32} : decode (am_cd (am_me (tb_P L xs) 146)) 97 = .ok (.bipush 6, 2) := show decode (am_cd (tb_me 146)) 97 = .ok (.bipush 6, 2) from by decide +kernel
theorem k146_99 {L : Nat} {xs : Nat → Int32} : decode (am_cd (am_me (tb_P L xs) 146)) 99 = .ok (.if_icmp .ge 31, 3) := show decode (am_cd (tb_me 146)) 99 = .ok (.if_icmp .ge 31, 3) from by decide +kernel
theorem k146_102 {L : Nat} {xs : Nat → Int32} : decode (am_cd (am_me (tb_P L xs) 146)) 102 = .ok (.aload_n 0, 1) := show decode (am_cd (tb_me 146)) 102 = .ok (.aload_n 0, 1) from by decide +kernel
theorem k146_103 {L : Nat} {xs : Nat → Int32} : decode (am_cd (am_me (tb_P L xs) 146)) 103 = .ok (.getfield 69, 3) := show decode (am_cd (tb_me 146)) 103 = .ok (.getfield 69, 3) from by decide +kernel
theorem f146_103 {L : Nat} {xs : Nat → Int32} : am_fd (tb_P L xs) 146 69 = some (8, 26, (.array .int : FieldType), true) := show tb_fdF 146 69 = some (8, 26, (.array .int : FieldType), true) from by decide +kernel
theorem k146_106 {L : Nat} {xs : Nat → Int32} : decode (am_cd (am_me (tb_P L xs) 146)) 106 = .ok (.bipush 6, 2) := show decode (am_cd (tb_me 146)) 106 = .ok (.bipush 6, 2) from by decide +kernel
theorem k146_108 {L : Nat} {xs : Nat → Int32} : decode (am_cd (am_me (tb_P L xs) 146)) 108 = .ok (.aload_n 0, 1) := show decode (am_cd (tb_me 146)) 108 = .ok (.aload_n 0, 1) from by decide +kernel
theorem k146_109 {L : Nat} {xs : Nat → Int32} : decode (am_cd (am_me (tb_P L xs) 146)) 109 = .ok (.getfield 190, 3) := show decode (am_cd (tb_me 146)) 109 = .ok (.getfield 190, 3) from by decide +kernel
theorem f146_109 {L : Nat} {xs : Nat → Int32} : am_fd (tb_P L xs) 146 190 = some (8, 25, (.int : FieldType), true) := show tb_fdF 146 190 = some (8, 25, (.int : FieldType), true) from by decide +kernel
theorem k146_112 {L : Nat} {xs : Nat → Int32} : decode (am_cd (am_me (tb_P L xs) 146)) 112 = .ok (.imul, 1) := show decode (am_cd (tb_me 146)) 112 = .ok (.imul, 1) from by decide +kernel
theorem k146_113 {L : Nat} {xs : Nat → Int32} : decode (am_cd (am_me (tb_P L xs) 146)) 113 = .ok (.iload 4, 2) := show decode (am_cd (tb_me 146)) 113 = .ok (.iload 4, 2) from by decide +kernel
theorem k146_115 {L : Nat} {xs : Nat → Int32} : decode (am_cd (am_me (tb_P L xs) 146)) 115 = .ok (.iadd, 1) := show decode (am_cd (tb_me 146)) 115 = .ok (.iadd, 1) from by decide +kernel
theorem k146_116 {L : Nat} {xs : Nat → Int32} : decode (am_cd (am_me (tb_P L xs) 146)) 116 = .ok (.aload_n 0, 1) := show decode (am_cd (tb_me 146)) 116 = .ok (.aload_n 0, 1) from by decide +kernel
theorem k146_117 {L : Nat} {xs : Nat → Int32} : decode (am_cd (am_me (tb_P L xs) 146)) 117 = .ok (.getfield 66, 3) := show decode (am_cd (tb_me 146)) 117 = .ok (.getfield 66, 3) from by decide +kernel
theorem f146_117 {L : Nat} {xs : Nat → Int32} : am_fd (tb_P L xs) 146 66 = some (8, 22, (.array .int : FieldType), true) := show tb_fdF 146 66 = some (8, 22, (.array .int : FieldType), true) from by decide +kernel
theorem k146_120 {L : Nat} {xs : Nat → Int32} : decode (am_cd (am_me (tb_P L xs) 146)) 120 = .ok (.iload 4, 2) := show decode (am_cd (tb_me 146)) 120 = .ok (.iload 4, 2) from by decide +kernel
theorem k146_122 {L : Nat} {xs : Nat → Int32} : decode (am_cd (am_me (tb_P L xs) 146)) 122 = .ok (.iaload, 1) := show decode (am_cd (tb_me 146)) 122 = .ok (.iaload, 1) from by decide +kernel
theorem k146_123 {L : Nat} {xs : Nat → Int32} : decode (am_cd (am_me (tb_P L xs) 146)) 123 = .ok (.iastore, 1) := show decode (am_cd (tb_me 146)) 123 = .ok (.iastore, 1) from by decide +kernel
theorem k146_124 {L : Nat} {xs : Nat → Int32} : decode (am_cd (am_me (tb_P L xs) 146)) 124 = .ok (.iinc 4 1, 3) := show decode (am_cd (tb_me 146)) 124 = .ok (.iinc 4 1, 3) from by decide +kernel
theorem k146_127 {L : Nat} {xs : Nat → Int32} : decode (am_cd (am_me (tb_P L xs) 146)) 127 = .ok (.goto (-32), 3) := show decode (am_cd (tb_me 146)) 127 = .ok (.goto (-32), 3) from by decide +kernel
theorem k146_130 {L : Nat} {xs : Nat → Int32} : decode (am_cd (am_me (tb_P L xs) 146)) 130 = .ok (.aload_n 0, 1) := show decode (am_cd (tb_me 146)) 130 = .ok (.aload_n 0, 1) from by decide +kernel
theorem k146_131 {L : Nat} {xs : Nat → Int32} : decode (am_cd (am_me (tb_P L xs) 146)) 131 = .ok (.iload_n 3, 1) := show decode (am_cd (tb_me 146)) 131 = .ok (.iload_n 3, 1) from by decide +kernel
theorem k146_132 {L : Nat} {xs : Nat → Int32} : decode (am_cd (am_me (tb_P L xs) 146)) 132 = .ok (.ifCond .ne 7, 3) := show decode (am_cd (tb_me 146)) 132 = .ok (.ifCond .ne 7, 3) from by decide +kernel
theorem k146_135 {L : Nat} {xs : Nat → Int32} : decode (am_cd (am_me (tb_P L xs) 146)) 135 = .ok (.iconst 1, 1) := show decode (am_cd (tb_me 146)) 135 = .ok (.iconst 1, 1) from by decide +kernel
theorem k146_136 {L : Nat} {xs : Nat → Int32} : decode (am_cd (am_me (tb_P L xs) 146)) 136 = .ok (.goto 4, 3) := show decode (am_cd (tb_me 146)) 136 = .ok (.goto 4, 3) from by decide +kernel
theorem k146_139 {L : Nat} {xs : Nat → Int32} : decode (am_cd (am_me (tb_P L xs) 146)) 139 = .ok (.iconst 0, 1) := show decode (am_cd (tb_me 146)) 139 = .ok (.iconst 0, 1) from by decide +kernel
theorem k146_140 {L : Nat} {xs : Nat → Int32} : decode (am_cd (am_me (tb_P L xs) 146)) 140 = .ok (.putfield 187, 3) := show decode (am_cd (tb_me 146)) 140 = .ok (.putfield 187, 3) from by decide +kernel
theorem f146_140 {L : Nat} {xs : Nat → Int32} : am_fd (tb_P L xs) 146 187 = some (8, 24, (.boolean : FieldType), true) := show tb_fdF 146 187 = some (8, 24, (.boolean : FieldType), true) from by decide +kernel
theorem k146_143 {L : Nat} {xs : Nat → Int32} : decode (am_cd (am_me (tb_P L xs) 146)) 143 = .ok (.aload_n 0, 1) := show decode (am_cd (tb_me 146)) 143 = .ok (.aload_n 0, 1) from by decide +kernel
theorem k146_144 {L : Nat} {xs : Nat → Int32} : decode (am_cd (am_me (tb_P L xs) 146)) 144 = .ok (.getfield 190, 3) := show decode (am_cd (tb_me 146)) 144 = .ok (.getfield 190, 3) from by decide +kernel
theorem f146_144 {L : Nat} {xs : Nat → Int32} : am_fd (tb_P L xs) 146 190 = some (8, 25, (.int : FieldType), true) := show tb_fdF 146 190 = some (8, 25, (.int : FieldType), true) from by decide +kernel
theorem k146_147 {L : Nat} {xs : Nat → Int32} : decode (am_cd (am_me (tb_P L xs) 146)) 147 = .ok (.ireturn, 1) := show decode (am_cd (tb_me 146)) 147 = .ok (.ireturn, 1) from by decide +kernel
theorem t146 {L : Nat} {xs : Nat → Int32} : am_rt (am_me (tb_P L xs) 146) = some (.int : FieldType) := show am_rt (tb_me 146) = some (.int : FieldType) from by decide +kernel
theorem l146 {L : Nat} {xs : Nat → Int32} : am_ml (am_me (tb_P L xs) 146) = 5 := show am_ml (tb_me 146) = 5 from by decide +kernel
theorem o146 {L : Nat} {xs : Nat → Int32} (pc : Nat) : am_no (tb_P L xs) 146 pc = true := show (am_hd (tb_me 146)).all (fun q => !(decide (q.1 ≤ pc) && decide (pc < q.2.1))) = true from by rw [show am_hd (tb_me 146) = [] by decide +kernel]; rfl
theorem k147_0 {L : Nat} {xs : Nat → Int32} : decode (am_cd (am_me (tb_P L xs) 147)) 0 = .ok (.aload_n 0, 1) := show decode (am_cd (tb_me 147)) 0 = .ok (.aload_n 0, 1) from by decide +kernel
theorem k147_1 {L : Nat} {xs : Nat → Int32} : decode (am_cd (am_me (tb_P L xs) 147)) 1 = .ok (.aload_n 0, 1) := show decode (am_cd (tb_me 147)) 1 = .ok (.aload_n 0, 1) from by decide +kernel
theorem k147_2 {L : Nat} {xs : Nat → Int32} : decode (am_cd (am_me (tb_P L xs) 147)) 2 = .ok (.getfield 116, 3) := show decode (am_cd (tb_me 147)) 2 = .ok (.getfield 116, 3) from by decide +kernel
theorem f147_2 {L : Nat} {xs : Nat → Int32} : am_fd (tb_P L xs) 147 116 = some (8, 23, (.boolean : FieldType), true) := show tb_fdF 147 116 = some (8, 23, (.boolean : FieldType), true) from by decide +kernel
theorem k147_5 {L : Nat} {xs : Nat → Int32} : decode (am_cd (am_me (tb_P L xs) 147)) 5 = .ok (.ifCond .eq 10, 3) := show decode (am_cd (tb_me 147)) 5 = .ok (.ifCond .eq 10, 3) from by decide +kernel
theorem k147_8 {L : Nat} {xs : Nat → Int32} : decode (am_cd (am_me (tb_P L xs) 147)) 8 = .ok (.aload_n 0, 1) := show decode (am_cd (tb_me 147)) 8 = .ok (.aload_n 0, 1) from by decide +kernel
theorem k147_9 {L : Nat} {xs : Nat → Int32} : decode (am_cd (am_me (tb_P L xs) 147)) 9 = .ok (.getfield 190, 3) := show decode (am_cd (tb_me 147)) 9 = .ok (.getfield 190, 3) from by decide +kernel
theorem f147_9 {L : Nat} {xs : Nat → Int32} : am_fd (tb_P L xs) 147 190 = some (8, 25, (.int : FieldType), true) := show tb_fdF 147 190 = some (8, 25, (.int : FieldType), true) from by decide +kernel
theorem k147_12 {L : Nat} {xs : Nat → Int32} : decode (am_cd (am_me (tb_P L xs) 147)) 12 = .ok (.ifCond .ne 7, 3) := show decode (am_cd (tb_me 147)) 12 = .ok (.ifCond .ne 7, 3) from by decide +kernel
theorem k147_15 {L : Nat} {xs : Nat → Int32} : decode (am_cd (am_me (tb_P L xs) 147)) 15 = .ok (.iconst 1, 1) := show decode (am_cd (tb_me 147)) 15 = .ok (.iconst 1, 1) from by decide +kernel
theorem k147_16 {L : Nat} {xs : Nat → Int32} : decode (am_cd (am_me (tb_P L xs) 147)) 16 = .ok (.goto 4, 3) := show decode (am_cd (tb_me 147)) 16 = .ok (.goto 4, 3) from by decide +kernel
theorem k147_19 {L : Nat} {xs : Nat → Int32} : decode (am_cd (am_me (tb_P L xs) 147)) 19 = .ok (.iconst 0, 1) := show decode (am_cd (tb_me 147)) 19 = .ok (.iconst 0, 1) from by decide +kernel
theorem k147_20 {L : Nat} {xs : Nat → Int32} : decode (am_cd (am_me (tb_P L xs) 147)) 20 = .ok (.putfield 78, 3) := show decode (am_cd (tb_me 147)) 20 = .ok (.putfield 78, 3) from by decide +kernel
theorem f147_20 {L : Nat} {xs : Nat → Int32} : am_fd (tb_P L xs) 147 78 = some (8, 0, (.int : FieldType), true) := show tb_fdF 147 78 = some (8, 0, (.int : FieldType), true) from by decide +kernel
theorem k147_23 {L : Nat} {xs : Nat → Int32} : decode (am_cd (am_me (tb_P L xs) 147)) 23 = .ok (.aload_n 0, 1) := show decode (am_cd (tb_me 147)) 23 = .ok (.aload_n 0, 1) from by decide +kernel
theorem k147_24 {L : Nat} {xs : Nat → Int32} : decode (am_cd (am_me (tb_P L xs) 147)) 24 = .ok (.getfield 78, 3) := show decode (am_cd (tb_me 147)) 24 = .ok (.getfield 78, 3) from by decide +kernel
theorem f147_24 {L : Nat} {xs : Nat → Int32} : am_fd (tb_P L xs) 147 78 = some (8, 0, (.int : FieldType), true) := show tb_fdF 147 78 = some (8, 0, (.int : FieldType), true) from by decide +kernel
theorem k147_27 {L : Nat} {xs : Nat → Int32} : decode (am_cd (am_me (tb_P L xs) 147)) 27 = .ok (.ifCond .eq 5, 3) := show decode (am_cd (tb_me 147)) 27 = .ok (.ifCond .eq 5, 3) from by decide +kernel
theorem k147_30 {L : Nat} {xs : Nat → Int32} : decode (am_cd (am_me (tb_P L xs) 147)) 30 = .ok (.iconst 0, 1) := show decode (am_cd (tb_me 147)) 30 = .ok (.iconst 0, 1) from by decide +kernel
theorem k147_31 {L : Nat} {xs : Nat → Int32} : decode (am_cd (am_me (tb_P L xs) 147)) 31 = .ok (.ireturn, 1) := show decode (am_cd (tb_me 147)) 31 = .ok (.ireturn, 1) from by decide +kernel
theorem k147_32 {L : Nat} {xs : Nat → Int32} : decode (am_cd (am_me (tb_P L xs) 147)) 32 = .ok (.aload_n 0, 1) := show decode (am_cd (tb_me 147)) 32 = .ok (.aload_n 0, 1) from by decide +kernel
theorem k147_33 {L : Nat} {xs : Nat → Int32} : decode (am_cd (am_me (tb_P L xs) 147)) 33 = .ok (.dup, 1) := show decode (am_cd (tb_me 147)) 33 = .ok (.dup, 1) from by decide +kernel
theorem k147_34 {L : Nat} {xs : Nat → Int32} : decode (am_cd (am_me (tb_P L xs) 147)) 34 = .ok (.getfield 190, 3) := show decode (am_cd (tb_me 147)) 34 = .ok (.getfield 190, 3) from by decide +kernel
theorem f147_34 {L : Nat} {xs : Nat → Int32} : am_fd (tb_P L xs) 147 190 = some (8, 25, (.int : FieldType), true) := show tb_fdF 147 190 = some (8, 25, (.int : FieldType), true) from by decide +kernel
theorem k147_37 {L : Nat} {xs : Nat → Int32} : decode (am_cd (am_me (tb_P L xs) 147)) 37 = .ok (.iconst 1, 1) := show decode (am_cd (tb_me 147)) 37 = .ok (.iconst 1, 1) from by decide +kernel
theorem k147_38 {L : Nat} {xs : Nat → Int32} : decode (am_cd (am_me (tb_P L xs) 147)) 38 = .ok (.isub, 1) := show decode (am_cd (tb_me 147)) 38 = .ok (.isub, 1) from by decide +kernel
theorem k147_39 {L : Nat} {xs : Nat → Int32} : decode (am_cd (am_me (tb_P L xs) 147)) 39 = .ok (.putfield 190, 3) := show decode (am_cd (tb_me 147)) 39 = .ok (.putfield 190, 3) from by decide +kernel
theorem f147_39 {L : Nat} {xs : Nat → Int32} : am_fd (tb_P L xs) 147 190 = some (8, 25, (.int : FieldType), true) := show tb_fdF 147 190 = some (8, 25, (.int : FieldType), true) from by decide +kernel
theorem k147_42 {L : Nat} {xs : Nat → Int32} : decode (am_cd (am_me (tb_P L xs) 147)) 42 = .ok (.aload_n 0, 1) := show decode (am_cd (tb_me 147)) 42 = .ok (.aload_n 0, 1) from by decide +kernel
theorem k147_43 {L : Nat} {xs : Nat → Int32} : decode (am_cd (am_me (tb_P L xs) 147)) 43 = .ok (.iconst 0, 1) := show decode (am_cd (tb_me 147)) 43 = .ok (.iconst 0, 1) from by decide +kernel
theorem k147_44 {L : Nat} {xs : Nat → Int32} : decode (am_cd (am_me (tb_P L xs) 147)) 44 = .ok (.putfield 187, 3) := show decode (am_cd (tb_me 147)) 44 = .ok (.putfield 187, 3) from by decide +kernel
theorem f147_44 {L : Nat} {xs : Nat → Int32} : am_fd (tb_P L xs) 147 187 = some (8, 24, (.boolean : FieldType), true) := show tb_fdF 147 187 = some (8, 24, (.boolean : FieldType), true) from by decide +kernel
theorem k147_47 {L : Nat} {xs : Nat → Int32} : decode (am_cd (am_me (tb_P L xs) 147)) 47 = .ok (.aload_n 0, 1) := show decode (am_cd (tb_me 147)) 47 = .ok (.aload_n 0, 1) from by decide +kernel
theorem k147_48 {L : Nat} {xs : Nat → Int32} : decode (am_cd (am_me (tb_P L xs) 147)) 48 = .ok (.getfield 190, 3) := show decode (am_cd (tb_me 147)) 48 = .ok (.getfield 190, 3) from by decide +kernel
theorem f147_48 {L : Nat} {xs : Nat → Int32} : am_fd (tb_P L xs) 147 190 = some (8, 25, (.int : FieldType), true) := show tb_fdF 147 190 = some (8, 25, (.int : FieldType), true) from by decide +kernel
theorem k147_51 {L : Nat} {xs : Nat → Int32} : decode (am_cd (am_me (tb_P L xs) 147)) 51 = .ok (.ireturn, 1) := show decode (am_cd (tb_me 147)) 51 = .ok (.ireturn, 1) from by decide +kernel
theorem t147 {L : Nat} {xs : Nat → Int32} : am_rt (am_me (tb_P L xs) 147) = some (.int : FieldType) := show am_rt (tb_me 147) = some (.int : FieldType) from by decide +kernel
theorem l147 {L : Nat} {xs : Nat → Int32} : am_ml (am_me (tb_P L xs) 147) = 1 := show am_ml (tb_me 147) = 1 from by decide +kernel
theorem o147 {L : Nat} {xs : Nat → Int32} (pc : Nat) : am_no (tb_P L xs) 147 pc = true := show (am_hd (tb_me 147)).all (fun q => !(decide (q.1 ≤ pc) && decide (pc < q.2.1))) = true from by rw [show am_hd (tb_me 147) = [] by decide +kernel]; rfl
theorem k148_0 {L : Nat} {xs : Nat → Int32} : decode (am_cd (am_me (tb_P L xs) 148)) 0 = .ok (.aload_n 0, 1) := show decode (am_cd (tb_me 148)) 0 = .ok (.aload_n 0, 1) from by decide +kernel
theorem k148_1 {L : Nat} {xs : Nat → Int32} : decode (am_cd (am_me (tb_P L xs) 148)) 1 = .ok (.iload_n 1, 1) := show decode (am_cd (tb_me 148)) 1 = .ok (.iload_n 1, 1) from by decide +kernel
theorem k148_2 {L : Nat} {xs : Nat → Int32} : decode (am_cd (am_me (tb_P L xs) 148)) 2 = .ok (.ifCond .lt 8, 3) := show decode (am_cd (tb_me 148)) 2 = .ok (.ifCond .lt 8, 3) from by decide +kernel
theorem k148_5 {L : Nat} {xs : Nat → Int32} : decode (am_cd (am_me (tb_P L xs) 148)) 5 = .ok (.iload_n 1, 1) := show decode (am_cd (tb_me 148)) 5 = .ok (.iload_n 1, 1) from by decide +kernel
theorem k148_6 {L : Nat} {xs : Nat → Int32} : decode (am_cd (am_me (tb_P L xs) 148)) 6 = .ok (.iconst 5, 1) := show decode (am_cd (tb_me 148)) 6 = .ok (.iconst 5, 1) from by decide +kernel
theorem k148_7 {L : Nat} {xs : Nat → Int32} : decode (am_cd (am_me (tb_P L xs) 148)) 7 = .ok (.if_icmp .le 7, 3) := show decode (am_cd (tb_me 148)) 7 = .ok (.if_icmp .le 7, 3) from by decide +kernel
theorem k148_10 {L : Nat} {xs : Nat → Int32} : decode (am_cd (am_me (tb_P L xs) 148)) 10 = .ok (.iconst 1, 1) := show decode (am_cd (tb_me 148)) 10 = .ok (.iconst 1, 1) from by decide +kernel
theorem k148_11 {L : Nat} {xs : Nat → Int32} : decode (am_cd (am_me (tb_P L xs) 148)) 11 = .ok (.goto 4, 3) := show decode (am_cd (tb_me 148)) 11 = .ok (.goto 4, 3) from by decide +kernel
theorem k148_14 {L : Nat} {xs : Nat → Int32} : decode (am_cd (am_me (tb_P L xs) 148)) 14 = .ok (.iconst 0, 1) := show decode (am_cd (tb_me 148)) 14 = .ok (.iconst 0, 1) from by decide +kernel
theorem k148_15 {L : Nat} {xs : Nat → Int32} : decode (am_cd (am_me (tb_P L xs) 148)) 15 = .ok (.putfield 78, 3) := show decode (am_cd (tb_me 148)) 15 = .ok (.putfield 78, 3) from by decide +kernel
theorem f148_15 {L : Nat} {xs : Nat → Int32} : am_fd (tb_P L xs) 148 78 = some (8, 0, (.int : FieldType), true) := show tb_fdF 148 78 = some (8, 0, (.int : FieldType), true) from by decide +kernel
theorem k148_18 {L : Nat} {xs : Nat → Int32} : decode (am_cd (am_me (tb_P L xs) 148)) 18 = .ok (.aload_n 0, 1) := show decode (am_cd (tb_me 148)) 18 = .ok (.aload_n 0, 1) from by decide +kernel
theorem k148_19 {L : Nat} {xs : Nat → Int32} : decode (am_cd (am_me (tb_P L xs) 148)) 19 = .ok (.getfield 78, 3) := show decode (am_cd (tb_me 148)) 19 = .ok (.getfield 78, 3) from by decide +kernel
theorem f148_19 {L : Nat} {xs : Nat → Int32} : am_fd (tb_P L xs) 148 78 = some (8, 0, (.int : FieldType), true) := show tb_fdF 148 78 = some (8, 0, (.int : FieldType), true) from by decide +kernel
theorem k148_22 {L : Nat} {xs : Nat → Int32} : decode (am_cd (am_me (tb_P L xs) 148)) 22 = .ok (.ifCond .ne 10, 3) := show decode (am_cd (tb_me 148)) 22 = .ok (.ifCond .ne 10, 3) from by decide +kernel
theorem k148_25 {L : Nat} {xs : Nat → Int32} : decode (am_cd (am_me (tb_P L xs) 148)) 25 = .ok (.aload_n 0, 1) := show decode (am_cd (tb_me 148)) 25 = .ok (.aload_n 0, 1) from by decide +kernel
theorem k148_26 {L : Nat} {xs : Nat → Int32} : decode (am_cd (am_me (tb_P L xs) 148)) 26 = .ok (.getfield 116, 3) := show decode (am_cd (tb_me 148)) 26 = .ok (.getfield 116, 3) from by decide +kernel
theorem f148_26 {L : Nat} {xs : Nat → Int32} : am_fd (tb_P L xs) 148 116 = some (8, 23, (.boolean : FieldType), true) := show tb_fdF 148 116 = some (8, 23, (.boolean : FieldType), true) from by decide +kernel
theorem k148_29 {L : Nat} {xs : Nat → Int32} : decode (am_cd (am_me (tb_P L xs) 148)) 29 = .ok (.ifCond .ne 7, 3) := show decode (am_cd (tb_me 148)) 29 = .ok (.ifCond .ne 7, 3) from by decide +kernel
theorem k148_32 {L : Nat} {xs : Nat → Int32} : decode (am_cd (am_me (tb_P L xs) 148)) 32 = .ok (.iconst 0, 1) := show decode (am_cd (tb_me 148)) 32 = .ok (.iconst 0, 1) from by decide +kernel
theorem k148_33 {L : Nat} {xs : Nat → Int32} : decode (am_cd (am_me (tb_P L xs) 148)) 33 = .ok (.goto 17, 3) := show decode (am_cd (tb_me 148)) 33 = .ok (.goto 17, 3) from by decide +kernel
theorem k148_36 {L : Nat} {xs : Nat → Int32} : decode (am_cd (am_me (tb_P L xs) 148)) 36 = .ok (.aload_n 0, 1) := show decode (am_cd (tb_me 148)) 36 = .ok (.aload_n 0, 1) from by decide +kernel
theorem k148_37 {L : Nat} {xs : Nat → Int32} : decode (am_cd (am_me (tb_P L xs) 148)) 37 = .ok (.getfield 69, 3) := show decode (am_cd (tb_me 148)) 37 = .ok (.getfield 69, 3) from by decide +kernel
theorem f148_37 {L : Nat} {xs : Nat → Int32} : am_fd (tb_P L xs) 148 69 = some (8, 26, (.array .int : FieldType), true) := show tb_fdF 148 69 = some (8, 26, (.array .int : FieldType), true) from by decide +kernel
theorem k148_40 {L : Nat} {xs : Nat → Int32} : decode (am_cd (am_me (tb_P L xs) 148)) 40 = .ok (.bipush 6, 2) := show decode (am_cd (tb_me 148)) 40 = .ok (.bipush 6, 2) from by decide +kernel
theorem k148_42 {L : Nat} {xs : Nat → Int32} : decode (am_cd (am_me (tb_P L xs) 148)) 42 = .ok (.aload_n 0, 1) := show decode (am_cd (tb_me 148)) 42 = .ok (.aload_n 0, 1) from by decide +kernel
theorem k148_43 {L : Nat} {xs : Nat → Int32} : decode (am_cd (am_me (tb_P L xs) 148)) 43 = .ok (.getfield 190, 3) := show decode (am_cd (tb_me 148)) 43 = .ok (.getfield 190, 3) from by decide +kernel
theorem f148_43 {L : Nat} {xs : Nat → Int32} : am_fd (tb_P L xs) 148 190 = some (8, 25, (.int : FieldType), true) := show tb_fdF 148 190 = some (8, 25, (.int : FieldType), true) from by decide +kernel
theorem k148_46 {L : Nat} {xs : Nat → Int32} : decode (am_cd (am_me (tb_P L xs) 148)) 46 = .ok (.imul, 1) := show decode (am_cd (tb_me 148)) 46 = .ok (.imul, 1) from by decide +kernel
theorem k148_47 {L : Nat} {xs : Nat → Int32} : decode (am_cd (am_me (tb_P L xs) 148)) 47 = .ok (.iload_n 1, 1) := show decode (am_cd (tb_me 148)) 47 = .ok (.iload_n 1, 1) from by decide +kernel
theorem k148_48 {L : Nat} {xs : Nat → Int32} : decode (am_cd (am_me (tb_P L xs) 148)) 48 = .ok (.iadd, 1) := show decode (am_cd (tb_me 148)) 48 = .ok (.iadd, 1) from by decide +kernel
theorem k148_49 {L : Nat} {xs : Nat → Int32} : decode (am_cd (am_me (tb_P L xs) 148)) 49 = .ok (.iaload, 1) := show decode (am_cd (tb_me 148)) 49 = .ok (.iaload, 1) from by decide +kernel
theorem k148_50 {L : Nat} {xs : Nat → Int32} : decode (am_cd (am_me (tb_P L xs) 148)) 50 = .ok (.ireturn, 1) := show decode (am_cd (tb_me 148)) 50 = .ok (.ireturn, 1) from by decide +kernel
theorem t148 {L : Nat} {xs : Nat → Int32} : am_rt (am_me (tb_P L xs) 148) = some (.int : FieldType) := show am_rt (tb_me 148) = some (.int : FieldType) from by decide +kernel
theorem l148 {L : Nat} {xs : Nat → Int32} : am_ml (am_me (tb_P L xs) 148) = 2 := show am_ml (tb_me 148) = 2 from by decide +kernel
theorem o148 {L : Nat} {xs : Nat → Int32} (pc : Nat) : am_no (tb_P L xs) 148 pc = true := show (am_hd (tb_me 148)).all (fun q => !(decide (q.1 ≤ pc) && decide (pc < q.2.1))) = true from by rw [show am_hd (tb_me 148) = [] by decide +kernel]; rfl
theorem k149_0 {L : Nat} {xs : Nat → Int32} : decode (am_cd (am_me (tb_P L xs) 149)) 0 = .ok (.aload_n 0, 1) := show decode (am_cd (tb_me 149)) 0 = .ok (.aload_n 0, 1) from by decide +kernel
theorem k149_1 {L : Nat} {xs : Nat → Int32} : decode (am_cd (am_me (tb_P L xs) 149)) 1 = .ok (.iconst 0, 1) := show decode (am_cd (tb_me 149)) 1 = .ok (.iconst 0, 1) from by decide +kernel
theorem k149_2 {L : Nat} {xs : Nat → Int32} : decode (am_cd (am_me (tb_P L xs) 149)) 2 = .ok (.putfield 78, 3) := show decode (am_cd (tb_me 149)) 2 = .ok (.putfield 78, 3) from by decide +kernel
theorem f149_2 {L : Nat} {xs : Nat → Int32} : am_fd (tb_P L xs) 149 78 = some (8, 0, (.int : FieldType), true) := show tb_fdF 149 78 = some (8, 0, (.int : FieldType), true) from by decide +kernel
theorem k149_5 {L : Nat} {xs : Nat → Int32} : decode (am_cd (am_me (tb_P L xs) 149)) 5 = .ok (.aload_n 0, 1) := show decode (am_cd (tb_me 149)) 5 = .ok (.aload_n 0, 1) from by decide +kernel
theorem k149_6 {L : Nat} {xs : Nat → Int32} : decode (am_cd (am_me (tb_P L xs) 149)) 6 = .ok (.getfield 116, 3) := show decode (am_cd (tb_me 149)) 6 = .ok (.getfield 116, 3) from by decide +kernel
theorem f149_6 {L : Nat} {xs : Nat → Int32} : am_fd (tb_P L xs) 149 116 = some (8, 23, (.boolean : FieldType), true) := show tb_fdF 149 116 = some (8, 23, (.boolean : FieldType), true) from by decide +kernel
theorem k149_9 {L : Nat} {xs : Nat → Int32} : decode (am_cd (am_me (tb_P L xs) 149)) 9 = .ok (.ifCond .eq 14, 3) := show decode (am_cd (tb_me 149)) 9 = .ok (.ifCond .eq 14, 3) from by decide +kernel
theorem k149_12 {L : Nat} {xs : Nat → Int32} : decode (am_cd (am_me (tb_P L xs) 149)) 12 = .ok (.aload_n 0, 1) := show decode (am_cd (tb_me 149)) 12 = .ok (.aload_n 0, 1) from by decide +kernel
theorem k149_13 {L : Nat} {xs : Nat → Int32} : decode (am_cd (am_me (tb_P L xs) 149)) 13 = .ok (.getfield 187, 3) := show decode (am_cd (tb_me 149)) 13 = .ok (.getfield 187, 3) from by decide +kernel
theorem f149_13 {L : Nat} {xs : Nat → Int32} : am_fd (tb_P L xs) 149 187 = some (8, 24, (.boolean : FieldType), true) := show tb_fdF 149 187 = some (8, 24, (.boolean : FieldType), true) from by decide +kernel
theorem k149_16 {L : Nat} {xs : Nat → Int32} : decode (am_cd (am_me (tb_P L xs) 149)) 16 = .ok (.ifCond .eq 7, 3) := show decode (am_cd (tb_me 149)) 16 = .ok (.ifCond .eq 7, 3) from by decide +kernel
theorem k149_19 {L : Nat} {xs : Nat → Int32} : decode (am_cd (am_me (tb_P L xs) 149)) 19 = .ok (.iconst 1, 1) := show decode (am_cd (tb_me 149)) 19 = .ok (.iconst 1, 1) from by decide +kernel
theorem k149_20 {L : Nat} {xs : Nat → Int32} : decode (am_cd (am_me (tb_P L xs) 149)) 20 = .ok (.goto 4, 3) := show decode (am_cd (tb_me 149)) 20 = .ok (.goto 4, 3) from by decide +kernel
theorem k149_23 {L : Nat} {xs : Nat → Int32} : decode (am_cd (am_me (tb_P L xs) 149)) 23 = .ok (.iconst 0, 1) := show decode (am_cd (tb_me 149)) 23 = .ok (.iconst 0, 1) from by decide +kernel
theorem k149_24 {L : Nat} {xs : Nat → Int32} : decode (am_cd (am_me (tb_P L xs) 149)) 24 = .ok (.ireturn, 1) := show decode (am_cd (tb_me 149)) 24 = .ok (.ireturn, 1) from by decide +kernel
theorem t149 {L : Nat} {xs : Nat → Int32} : am_rt (am_me (tb_P L xs) 149) = some (.boolean : FieldType) := show am_rt (tb_me 149) = some (.boolean : FieldType) from by decide +kernel
theorem l149 {L : Nat} {xs : Nat → Int32} : am_ml (am_me (tb_P L xs) 149) = 1 := show am_ml (tb_me 149) = 1 from by decide +kernel
theorem o149 {L : Nat} {xs : Nat → Int32} (pc : Nat) : am_no (tb_P L xs) 149 pc = true := show (am_hd (tb_me 149)).all (fun q => !(decide (q.1 ≤ pc) && decide (pc < q.2.1))) = true from by rw [show am_hd (tb_me 149) = [] by decide +kernel]; rfl
theorem k150_0 {L : Nat} {xs : Nat → Int32} : decode (am_cd (am_me (tb_P L xs) 150)) 0 = .ok (.aload_n 0, 1) := show decode (am_cd (tb_me 150)) 0 = .ok (.aload_n 0, 1) from by decide +kernel
theorem k150_1 {L : Nat} {xs : Nat → Int32} : decode (am_cd (am_me (tb_P L xs) 150)) 1 = .ok (.iconst 0, 1) := show decode (am_cd (tb_me 150)) 1 = .ok (.iconst 0, 1) from by decide +kernel
theorem k150_2 {L : Nat} {xs : Nat → Int32} : decode (am_cd (am_me (tb_P L xs) 150)) 2 = .ok (.putfield 78, 3) := show decode (am_cd (tb_me 150)) 2 = .ok (.putfield 78, 3) from by decide +kernel
theorem f150_2 {L : Nat} {xs : Nat → Int32} : am_fd (tb_P L xs) 150 78 = some (8, 0, (.int : FieldType), true) := show tb_fdF 150 78 = some (8, 0, (.int : FieldType), true) from by decide +kernel
theorem k150_5 {L : Nat} {xs : Nat → Int32} : decode (am_cd (am_me (tb_P L xs) 150)) 5 = .ok (.aload_n 0, 1) := show decode (am_cd (tb_me 150)) 5 = .ok (.aload_n 0, 1) from by decide +kernel
theorem k150_6 {L : Nat} {xs : Nat → Int32} : decode (am_cd (am_me (tb_P L xs) 150)) 6 = .ok (.invokevirtual 196, 3) := show decode (am_cd (tb_me 150)) 6 = .ok (.invokevirtual 196, 3) from by decide +kernel
theorem s150_6 {L : Nat} {xs : Nat → Int32} : am_sp (tb_P L xs) 150 196 = none := show tb_spF 150 196 = none from by decide +kernel
theorem c150_6 {L : Nat} {xs : Nat → Int32} : am_ca (tb_P L xs) 150 196 = some (145, 0, 1) := show tb_caF 150 196 = some (145, 0, 1) from by decide +kernel
theorem r150_6 {L : Nat} {xs : Nat → Int32} : am_rf (am_me (tb_P L xs) 145) + 1 ≤ am_rf (am_me (tb_P L xs) 150) ∧ 0 + (am_ml (am_me (tb_P L xs) 145) + 11) + am_rl (am_me (tb_P L xs) 145) ≤ am_rl (am_me (tb_P L xs) 150) := show am_rf (tb_me 145) + 1 ≤ am_rf (tb_me 150) ∧ 0 + (am_ml (tb_me 145) + 11) + am_rl (tb_me 145) ≤ am_rl (tb_me 150) from by decide +kernel
theorem k150_9 {L : Nat} {xs : Nat → Int32} : decode (am_cd (am_me (tb_P L xs) 150)) 9 = .ok (.aload_n 0, 1) := show decode (am_cd (tb_me 150)) 9 = .ok (.aload_n 0, 1) from by decide +kernel
theorem k150_10 {L : Nat} {xs : Nat → Int32} : decode (am_cd (am_me (tb_P L xs) 150)) 10 = .ok (.iconst 0, 1) := show decode (am_cd (tb_me 150)) 10 = .ok (.iconst 0, 1) from by decide +kernel
theorem k150_11 {L : Nat} {xs : Nat → Int32} : decode (am_cd (am_me (tb_P L xs) 150)) 11 = .ok (.invokevirtual 161, 3) := show decode (am_cd (tb_me 150)) 11 = .ok (.invokevirtual 161, 3) from by decide +kernel
theorem s150_11 {L : Nat} {xs : Nat → Int32} : am_sp (tb_P L xs) 150 161 = none := show tb_spF 150 161 = none from by decide +kernel
theorem c150_11 {L : Nat} {xs : Nat → Int32} : am_ca (tb_P L xs) 150 161 = some (126, 1, 1) := show tb_caF 150 161 = some (126, 1, 1) from by decide +kernel
theorem r150_11 {L : Nat} {xs : Nat → Int32} : am_rf (am_me (tb_P L xs) 126) + 1 ≤ am_rf (am_me (tb_P L xs) 150) ∧ 0 + (am_ml (am_me (tb_P L xs) 126) + 11) + am_rl (am_me (tb_P L xs) 126) ≤ am_rl (am_me (tb_P L xs) 150) := show am_rf (tb_me 126) + 1 ≤ am_rf (tb_me 150) ∧ 0 + (am_ml (tb_me 126) + 11) + am_rl (tb_me 126) ≤ am_rl (tb_me 150) from by decide +kernel
theorem k150_14 {L : Nat} {xs : Nat → Int32} : decode (am_cd (am_me (tb_P L xs) 150)) 14 = .ok (.ireturn, 1) := show decode (am_cd (tb_me 150)) 14 = .ok (.ireturn, 1) from by decide +kernel
theorem t150 {L : Nat} {xs : Nat → Int32} : am_rt (am_me (tb_P L xs) 150) = some (.boolean : FieldType) := show am_rt (tb_me 150) = some (.boolean : FieldType) from by decide +kernel
theorem l150 {L : Nat} {xs : Nat → Int32} : am_ml (am_me (tb_P L xs) 150) = 1 := show am_ml (tb_me 150) = 1 from by decide +kernel
theorem o150 {L : Nat} {xs : Nat → Int32} (pc : Nat) : am_no (tb_P L xs) 150 pc = true := show (am_hd (tb_me 150)).all (fun q => !(decide (q.1 ≤ pc) && decide (pc < q.2.1))) = true from by rw [show am_hd (tb_me 150) = [] by decide +kernel]; rfl
