/-! Facts of the instructions, printed by a program of our own. -/
theorem k104_0 {L : Nat} {xs : Nat → Int32} : decode (am_cd (am_me (tb_P L xs) 104)) 0 = .ok (.aload_n 0, 1) := show decode (am_cd (tb_me 104)) 0 = .ok (.aload_n 0, 1) from by decide +kernel
theorem k104_1 {L : Nat} {xs : Nat → Int32} : decode (am_cd (am_me (tb_P L xs) 104)) 1 = .ok (.invokespecial 1, 3) := show decode (am_cd (tb_me 104)) 1 = .ok (.invokespecial 1, 3) from by decide +kernel
theorem s104_1 {L : Nat} {xs : Nat → Int32} : am_sp (tb_P L xs) 104 1 = some 0 := show tb_spF 104 1 = some 0 from by decide +kernel
theorem r104_1 {L : Nat} {xs : Nat → Int32} : 1 ≤ am_rf (am_me (tb_P L xs) 104) ∧ 0 + 12 ≤ am_rl (am_me (tb_P L xs) 104) := show 1 ≤ am_rf (tb_me 104) ∧ 0 + 12 ≤ am_rl (tb_me 104) from by decide +kernel
theorem k104_4 {L : Nat} {xs : Nat → Int32} : decode (am_cd (am_me (tb_P L xs) 104)) 4 = .ok (.aload_n 0, 1) := show decode (am_cd (tb_me 104)) 4 = .ok (.aload_n 0, 1) from by decide +kernel
theorem k104_5 {L : Nat} {xs : Nat → Int32} : decode (am_cd (am_me (tb_P L xs) 104)) 5 = .ok (.bipush 6, 2) := show decode (am_cd (tb_me 104)) 5 = .ok (.bipush 6, 2) from by decide +kernel
theorem k104_7 {L : Nat} {xs : Nat → Int32} : decode (am_cd (am_me (tb_P L xs) 104)) 7 = .ok (.newarray .int, 2) := show decode (am_cd (tb_me 104)) 7 = .ok (.newarray .int, 2) from by decide +kernel
theorem k104_9 {L : Nat} {xs : Nat → Int32} : decode (am_cd (am_me (tb_P L xs) 104)) 9 = .ok (.putfield 7, 3) := show decode (am_cd (tb_me 104)) 9 = .ok (.putfield 7, 3) from by decide +kernel
theorem f104_9 {L : Nat} {xs : Nat → Int32} : am_fd (tb_P L xs) 104 7 = some (8, 1, (.array .int : FieldType), true) := show tb_fdF 104 7 = some (8, 1, (.array .int : FieldType), true) from by decide +kernel
theorem k104_12 {L : Nat} {xs : Nat → Int32} : decode (am_cd (am_me (tb_P L xs) 104)) 12 = .ok (.aload_n 0, 1) := show decode (am_cd (tb_me 104)) 12 = .ok (.aload_n 0, 1) from by decide +kernel
theorem k104_13 {L : Nat} {xs : Nat → Int32} : decode (am_cd (am_me (tb_P L xs) 104)) 13 = .ok (.bipush 6, 2) := show decode (am_cd (tb_me 104)) 13 = .ok (.bipush 6, 2) from by decide +kernel
theorem k104_15 {L : Nat} {xs : Nat → Int32} : decode (am_cd (am_me (tb_P L xs) 104)) 15 = .ok (.newarray .int, 2) := show decode (am_cd (tb_me 104)) 15 = .ok (.newarray .int, 2) from by decide +kernel
theorem k104_17 {L : Nat} {xs : Nat → Int32} : decode (am_cd (am_me (tb_P L xs) 104)) 17 = .ok (.putfield 13, 3) := show decode (am_cd (tb_me 104)) 17 = .ok (.putfield 13, 3) from by decide +kernel
theorem f104_17 {L : Nat} {xs : Nat → Int32} : am_fd (tb_P L xs) 104 13 = some (8, 2, (.array .int : FieldType), true) := show tb_fdF 104 13 = some (8, 2, (.array .int : FieldType), true) from by decide +kernel
theorem k104_20 {L : Nat} {xs : Nat → Int32} : decode (am_cd (am_me (tb_P L xs) 104)) 20 = .ok (.aload_n 0, 1) := show decode (am_cd (tb_me 104)) 20 = .ok (.aload_n 0, 1) from by decide +kernel
theorem k104_21 {L : Nat} {xs : Nat → Int32} : decode (am_cd (am_me (tb_P L xs) 104)) 21 = .ok (.bipush 24, 2) := show decode (am_cd (tb_me 104)) 21 = .ok (.bipush 24, 2) from by decide +kernel
theorem k104_23 {L : Nat} {xs : Nat → Int32} : decode (am_cd (am_me (tb_P L xs) 104)) 23 = .ok (.newarray .int, 2) := show decode (am_cd (tb_me 104)) 23 = .ok (.newarray .int, 2) from by decide +kernel
theorem k104_25 {L : Nat} {xs : Nat → Int32} : decode (am_cd (am_me (tb_P L xs) 104)) 25 = .ok (.putfield 16, 3) := show decode (am_cd (tb_me 104)) 25 = .ok (.putfield 16, 3) from by decide +kernel
theorem f104_25 {L : Nat} {xs : Nat → Int32} : am_fd (tb_P L xs) 104 16 = some (8, 4, (.array .int : FieldType), true) := show tb_fdF 104 16 = some (8, 4, (.array .int : FieldType), true) from by decide +kernel
theorem k104_28 {L : Nat} {xs : Nat → Int32} : decode (am_cd (am_me (tb_P L xs) 104)) 28 = .ok (.aload_n 0, 1) := show decode (am_cd (tb_me 104)) 28 = .ok (.aload_n 0, 1) from by decide +kernel
theorem k104_29 {L : Nat} {xs : Nat → Int32} : decode (am_cd (am_me (tb_P L xs) 104)) 29 = .ok (.bipush 30, 2) := show decode (am_cd (tb_me 104)) 29 = .ok (.bipush 30, 2) from by decide +kernel
theorem k104_31 {L : Nat} {xs : Nat → Int32} : decode (am_cd (am_me (tb_P L xs) 104)) 31 = .ok (.newarray .int, 2) := show decode (am_cd (tb_me 104)) 31 = .ok (.newarray .int, 2) from by decide +kernel
theorem k104_33 {L : Nat} {xs : Nat → Int32} : decode (am_cd (am_me (tb_P L xs) 104)) 33 = .ok (.putfield 19, 3) := show decode (am_cd (tb_me 104)) 33 = .ok (.putfield 19, 3) from by decide +kernel
theorem f104_33 {L : Nat} {xs : Nat → Int32} : am_fd (tb_P L xs) 104 19 = some (8, 6, (.array .int : FieldType), true) := show tb_fdF 104 19 = some (8, 6, (.array .int : FieldType), true) from by decide +kernel
theorem k104_36 {L : Nat} {xs : Nat → Int32} : decode (am_cd (am_me (tb_P L xs) 104)) 36 = .ok (.aload_n 0, 1) := show decode (am_cd (tb_me 104)) 36 = .ok (.aload_n 0, 1) from by decide +kernel
theorem k104_37 {L : Nat} {xs : Nat → Int32} : decode (am_cd (am_me (tb_P L xs) 104)) 37 = .ok (.sipush 720, 3) := show decode (am_cd (tb_me 104)) 37 = .ok (.sipush 720, 3) from by decide +kernel
theorem k104_40 {L : Nat} {xs : Nat → Int32} : decode (am_cd (am_me (tb_P L xs) 104)) 40 = .ok (.newarray .int, 2) := show decode (am_cd (tb_me 104)) 40 = .ok (.newarray .int, 2) from by decide +kernel
theorem k104_42 {L : Nat} {xs : Nat → Int32} : decode (am_cd (am_me (tb_P L xs) 104)) 42 = .ok (.putfield 22, 3) := show decode (am_cd (tb_me 104)) 42 = .ok (.putfield 22, 3) from by decide +kernel
theorem f104_42 {L : Nat} {xs : Nat → Int32} : am_fd (tb_P L xs) 104 22 = some (8, 7, (.array .int : FieldType), true) := show tb_fdF 104 22 = some (8, 7, (.array .int : FieldType), true) from by decide +kernel
theorem k104_45 {L : Nat} {xs : Nat → Int32} : decode (am_cd (am_me (tb_P L xs) 104)) 45 = .ok (.aload_n 0, 1) := show decode (am_cd (tb_me 104)) 45 = .ok (.aload_n 0, 1) from by decide +kernel
theorem k104_46 {L : Nat} {xs : Nat → Int32} : decode (am_cd (am_me (tb_P L xs) 104)) 46 = .ok (.bipush 30, 2) := show decode (am_cd (tb_me 104)) 46 = .ok (.bipush 30, 2) from by decide +kernel
theorem k104_48 {L : Nat} {xs : Nat → Int32} : decode (am_cd (am_me (tb_P L xs) 104)) 48 = .ok (.newarray .boolean, 2) := show decode (am_cd (tb_me 104)) 48 = .ok (.newarray .boolean, 2) from by decide +kernel
theorem k104_50 {L : Nat} {xs : Nat → Int32} : decode (am_cd (am_me (tb_P L xs) 104)) 50 = .ok (.putfield 25, 3) := show decode (am_cd (tb_me 104)) 50 = .ok (.putfield 25, 3) from by decide +kernel
theorem f104_50 {L : Nat} {xs : Nat → Int32} : am_fd (tb_P L xs) 104 25 = some (8, 8, (.array .boolean : FieldType), true) := show tb_fdF 104 25 = some (8, 8, (.array .boolean : FieldType), true) from by decide +kernel
theorem k104_53 {L : Nat} {xs : Nat → Int32} : decode (am_cd (am_me (tb_P L xs) 104)) 53 = .ok (.aload_n 0, 1) := show decode (am_cd (tb_me 104)) 53 = .ok (.aload_n 0, 1) from by decide +kernel
theorem k104_54 {L : Nat} {xs : Nat → Int32} : decode (am_cd (am_me (tb_P L xs) 104)) 54 = .ok (.bipush 30, 2) := show decode (am_cd (tb_me 104)) 54 = .ok (.bipush 30, 2) from by decide +kernel
theorem k104_56 {L : Nat} {xs : Nat → Int32} : decode (am_cd (am_me (tb_P L xs) 104)) 56 = .ok (.newarray .boolean, 2) := show decode (am_cd (tb_me 104)) 56 = .ok (.newarray .boolean, 2) from by decide +kernel
theorem k104_58 {L : Nat} {xs : Nat → Int32} : decode (am_cd (am_me (tb_P L xs) 104)) 58 = .ok (.putfield 29, 3) := show decode (am_cd (tb_me 104)) 58 = .ok (.putfield 29, 3) from by decide +kernel
theorem f104_58 {L : Nat} {xs : Nat → Int32} : am_fd (tb_P L xs) 104 29 = some (8, 9, (.array .boolean : FieldType), true) := show tb_fdF 104 29 = some (8, 9, (.array .boolean : FieldType), true) from by decide +kernel
theorem k104_61 {L : Nat} {xs : Nat → Int32} : decode (am_cd (am_me (tb_P L xs) 104)) 61 = .ok (.aload_n 0, 1) := show decode (am_cd (tb_me 104)) 61 = .ok (.aload_n 0, 1) from by decide +kernel
theorem k104_62 {L : Nat} {xs : Nat → Int32} : decode (am_cd (am_me (tb_P L xs) 104)) 62 = .ok (.bipush 30, 2) := show decode (am_cd (tb_me 104)) 62 = .ok (.bipush 30, 2) from by decide +kernel
theorem k104_64 {L : Nat} {xs : Nat → Int32} : decode (am_cd (am_me (tb_P L xs) 104)) 64 = .ok (.newarray .boolean, 2) := show decode (am_cd (tb_me 104)) 64 = .ok (.newarray .boolean, 2) from by decide +kernel
theorem k104_66 {L : Nat} {xs : Nat → Int32} : decode (am_cd (am_me (tb_P L xs) 104)) 66 = .ok (.putfield 32, 3) := show decode (am_cd (tb_me 104)) 66 = .ok (.putfield 32, 3) from by decide +kernel
theorem f104_66 {L : Nat} {xs : Nat → Int32} : am_fd (tb_P L xs) 104 32 = some (8, 10, (.array .boolean : FieldType), true) := show tb_fdF 104 32 = some (8, 10, (.array .boolean : FieldType), true) from by decide +kernel
theorem k104_69 {L : Nat} {xs : Nat → Int32} : decode (am_cd (am_me (tb_P L xs) 104)) 69 = .ok (.aload_n 0, 1) := show decode (am_cd (tb_me 104)) 69 = .ok (.aload_n 0, 1) from by decide +kernel
theorem k104_70 {L : Nat} {xs : Nat → Int32} : decode (am_cd (am_me (tb_P L xs) 104)) 70 = .ok (.bipush 12, 2) := show decode (am_cd (tb_me 104)) 70 = .ok (.bipush 12, 2) from by decide +kernel
theorem k104_72 {L : Nat} {xs : Nat → Int32} : decode (am_cd (am_me (tb_P L xs) 104)) 72 = .ok (.newarray .int, 2) := show decode (am_cd (tb_me 104)) 72 = .ok (.newarray .int, 2) from by decide +kernel
theorem k104_74 {L : Nat} {xs : Nat → Int32} : decode (am_cd (am_me (tb_P L xs) 104)) 74 = .ok (.putfield 35, 3) := show decode (am_cd (tb_me 104)) 74 = .ok (.putfield 35, 3) from by decide +kernel
theorem f104_74 {L : Nat} {xs : Nat → Int32} : am_fd (tb_P L xs) 104 35 = some (8, 12, (.array .int : FieldType), true) := show tb_fdF 104 35 = some (8, 12, (.array .int : FieldType), true) from by decide +kernel
theorem k104_77 {L : Nat} {xs : Nat → Int32} : decode (am_cd (am_me (tb_P L xs) 104)) 77 = .ok (.aload_n 0, 1) := show decode (am_cd (tb_me 104)) 77 = .ok (.aload_n 0, 1) from by decide +kernel
theorem k104_78 {L : Nat} {xs : Nat → Int32} : decode (am_cd (am_me (tb_P L xs) 104)) 78 = .ok (.bipush 12, 2) := show decode (am_cd (tb_me 104)) 78 = .ok (.bipush 12, 2) from by decide +kernel
theorem k104_80 {L : Nat} {xs : Nat → Int32} : decode (am_cd (am_me (tb_P L xs) 104)) 80 = .ok (.newarray .int, 2) := show decode (am_cd (tb_me 104)) 80 = .ok (.newarray .int, 2) from by decide +kernel
theorem k104_82 {L : Nat} {xs : Nat → Int32} : decode (am_cd (am_me (tb_P L xs) 104)) 82 = .ok (.putfield 38, 3) := show decode (am_cd (tb_me 104)) 82 = .ok (.putfield 38, 3) from by decide +kernel
theorem f104_82 {L : Nat} {xs : Nat → Int32} : am_fd (tb_P L xs) 104 38 = some (8, 13, (.array .int : FieldType), true) := show tb_fdF 104 38 = some (8, 13, (.array .int : FieldType), true) from by decide +kernel
theorem k104_85 {L : Nat} {xs : Nat → Int32} : decode (am_cd (am_me (tb_P L xs) 104)) 85 = .ok (.aload_n 0, 1) := show decode (am_cd (tb_me 104)) 85 = .ok (.aload_n 0, 1) from by decide +kernel
theorem k104_86 {L : Nat} {xs : Nat → Int32} : decode (am_cd (am_me (tb_P L xs) 104)) 86 = .ok (.bipush 12, 2) := show decode (am_cd (tb_me 104)) 86 = .ok (.bipush 12, 2) from by decide +kernel
theorem k104_88 {L : Nat} {xs : Nat → Int32} : decode (am_cd (am_me (tb_P L xs) 104)) 88 = .ok (.newarray .int, 2) := show decode (am_cd (tb_me 104)) 88 = .ok (.newarray .int, 2) from by decide +kernel
theorem k104_90 {L : Nat} {xs : Nat → Int32} : decode (am_cd (am_me (tb_P L xs) 104)) 90 = .ok (.putfield 41, 3) := show decode (am_cd (tb_me 104)) 90 = .ok (.putfield 41, 3) from by decide +kernel
theorem f104_90 {L : Nat} {xs : Nat → Int32} : am_fd (tb_P L xs) 104 41 = some (8, 14, (.array .int : FieldType), true) := show tb_fdF 104 41 = some (8, 14, (.array .int : FieldType), true) from by decide +kernel
theorem k104_93 {L : Nat} {xs : Nat → Int32} : decode (am_cd (am_me (tb_P L xs) 104)) 93 = .ok (.aload_n 0, 1) := show decode (am_cd (tb_me 104)) 93 = .ok (.aload_n 0, 1) from by decide +kernel
theorem k104_94 {L : Nat} {xs : Nat → Int32} : decode (am_cd (am_me (tb_P L xs) 104)) 94 = .ok (.bipush 12, 2) := show decode (am_cd (tb_me 104)) 94 = .ok (.bipush 12, 2) from by decide +kernel
theorem k104_96 {L : Nat} {xs : Nat → Int32} : decode (am_cd (am_me (tb_P L xs) 104)) 96 = .ok (.newarray .int, 2) := show decode (am_cd (tb_me 104)) 96 = .ok (.newarray .int, 2) from by decide +kernel
theorem k104_98 {L : Nat} {xs : Nat → Int32} : decode (am_cd (am_me (tb_P L xs) 104)) 98 = .ok (.putfield 44, 3) := show decode (am_cd (tb_me 104)) 98 = .ok (.putfield 44, 3) from by decide +kernel
theorem f104_98 {L : Nat} {xs : Nat → Int32} : am_fd (tb_P L xs) 104 44 = some (8, 15, (.array .int : FieldType), true) := show tb_fdF 104 44 = some (8, 15, (.array .int : FieldType), true) from by decide +kernel
theorem k104_101 {L : Nat} {xs : Nat → Int32} : decode (am_cd (am_me (tb_P L xs) 104)) 101 = .ok (.aload_n 0, 1) := show decode (am_cd (tb_me 104)) 101 = .ok (.aload_n 0, 1) from by decide +kernel
theorem k104_102 {L : Nat} {xs : Nat → Int32} : decode (am_cd (am_me (tb_P L xs) 104)) 102 = .ok (.bipush 72, 2) := show decode (am_cd (tb_me 104)) 102 = .ok (.bipush 72, 2) from by decide +kernel
theorem k104_104 {L : Nat} {xs : Nat → Int32} : decode (am_cd (am_me (tb_P L xs) 104)) 104 = .ok (.newarray .int, 2) := show decode (am_cd (tb_me 104)) 104 = .ok (.newarray .int, 2) from by decide +kernel
theorem k104_106 {L : Nat} {xs : Nat → Int32} : decode (am_cd (am_me (tb_P L xs) 104)) 106 = .ok (.putfield 47, 3) := show decode (am_cd (tb_me 104)) 106 = .ok (.putfield 47, 3) from by decide +kernel
theorem f104_106 {L : Nat} {xs : Nat → Int32} : am_fd (tb_P L xs) 104 47 = some (8, 16, (.array .int : FieldType), true) := show tb_fdF 104 47 = some (8, 16, (.array .int : FieldType), true) from by decide +kernel
theorem k104_109 {L : Nat} {xs : Nat → Int32} : decode (am_cd (am_me (tb_P L xs) 104)) 109 = .ok (.aload_n 0, 1) := show decode (am_cd (tb_me 104)) 109 = .ok (.aload_n 0, 1) from by decide +kernel
theorem k104_110 {L : Nat} {xs : Nat → Int32} : decode (am_cd (am_me (tb_P L xs) 104)) 110 = .ok (.bipush 12, 2) := show decode (am_cd (tb_me 104)) 110 = .ok (.bipush 12, 2) from by decide +kernel
theorem k104_112 {L : Nat} {xs : Nat → Int32} : decode (am_cd (am_me (tb_P L xs) 104)) 112 = .ok (.newarray .int, 2) := show decode (am_cd (tb_me 104)) 112 = .ok (.newarray .int, 2) from by decide +kernel
theorem k104_114 {L : Nat} {xs : Nat → Int32} : decode (am_cd (am_me (tb_P L xs) 104)) 114 = .ok (.putfield 50, 3) := show decode (am_cd (tb_me 104)) 114 = .ok (.putfield 50, 3) from by decide +kernel
theorem f104_114 {L : Nat} {xs : Nat → Int32} : am_fd (tb_P L xs) 104 50 = some (8, 17, (.array .int : FieldType), true) := show tb_fdF 104 50 = some (8, 17, (.array .int : FieldType), true) from by decide +kernel
theorem k104_117 {L : Nat} {xs : Nat → Int32} : decode (am_cd (am_me (tb_P L xs) 104)) 117 = .ok (.aload_n 0, 1) := show decode (am_cd (tb_me 104)) 117 = .ok (.aload_n 0, 1) from by decide +kernel
theorem k104_118 {L : Nat} {xs : Nat → Int32} : decode (am_cd (am_me (tb_P L xs) 104)) 118 = .ok (.iconst 2, 1) := show decode (am_cd (tb_me 104)) 118 = .ok (.iconst 2, 1) from by decide +kernel
theorem k104_119 {L : Nat} {xs : Nat → Int32} : decode (am_cd (am_me (tb_P L xs) 104)) 119 = .ok (.newarray .int, 2) := show decode (am_cd (tb_me 104)) 119 = .ok (.newarray .int, 2) from by decide +kernel
theorem k104_121 {L : Nat} {xs : Nat → Int32} : decode (am_cd (am_me (tb_P L xs) 104)) 121 = .ok (.putfield 53, 3) := show decode (am_cd (tb_me 104)) 121 = .ok (.putfield 53, 3) from by decide +kernel
theorem f104_121 {L : Nat} {xs : Nat → Int32} : am_fd (tb_P L xs) 104 53 = some (8, 18, (.array .int : FieldType), true) := show tb_fdF 104 53 = some (8, 18, (.array .int : FieldType), true) from by decide +kernel
theorem k104_124 {L : Nat} {xs : Nat → Int32} : decode (am_cd (am_me (tb_P L xs) 104)) 124 = .ok (.aload_n 0, 1) := show decode (am_cd (tb_me 104)) 124 = .ok (.aload_n 0, 1) from by decide +kernel
theorem k104_125 {L : Nat} {xs : Nat → Int32} : decode (am_cd (am_me (tb_P L xs) 104)) 125 = .ok (.bipush 12, 2) := show decode (am_cd (tb_me 104)) 125 = .ok (.bipush 12, 2) from by decide +kernel
theorem k104_127 {L : Nat} {xs : Nat → Int32} : decode (am_cd (am_me (tb_P L xs) 104)) 127 = .ok (.newarray .int, 2) := show decode (am_cd (tb_me 104)) 127 = .ok (.newarray .int, 2) from by decide +kernel
theorem k104_129 {L : Nat} {xs : Nat → Int32} : decode (am_cd (am_me (tb_P L xs) 104)) 129 = .ok (.putfield 56, 3) := show decode (am_cd (tb_me 104)) 129 = .ok (.putfield 56, 3) from by decide +kernel
theorem f104_129 {L : Nat} {xs : Nat → Int32} : am_fd (tb_P L xs) 104 56 = some (8, 19, (.array .int : FieldType), true) := show tb_fdF 104 56 = some (8, 19, (.array .int : FieldType), true) from by decide +kernel
theorem k104_132 {L : Nat} {xs : Nat → Int32} : decode (am_cd (am_me (tb_P L xs) 104)) 132 = .ok (.aload_n 0, 1) := show decode (am_cd (tb_me 104)) 132 = .ok (.aload_n 0, 1) from by decide +kernel
theorem k104_133 {L : Nat} {xs : Nat → Int32} : decode (am_cd (am_me (tb_P L xs) 104)) 133 = .ok (.iconst (-1), 1) := show decode (am_cd (tb_me 104)) 133 = .ok (.iconst (-1), 1) from by decide +kernel
theorem k104_134 {L : Nat} {xs : Nat → Int32} : decode (am_cd (am_me (tb_P L xs) 104)) 134 = .ok (.putfield 59, 3) := show decode (am_cd (tb_me 104)) 134 = .ok (.putfield 59, 3) from by decide +kernel
theorem f104_134 {L : Nat} {xs : Nat → Int32} : am_fd (tb_P L xs) 104 59 = some (8, 20, (.int : FieldType), true) := show tb_fdF 104 59 = some (8, 20, (.int : FieldType), true) from by decide +kernel
theorem k104_137 {L : Nat} {xs : Nat → Int32} : decode (am_cd (am_me (tb_P L xs) 104)) 137 = .ok (.aload_n 0, 1) := show decode (am_cd (tb_me 104)) 137 = .ok (.aload_n 0, 1) from by decide +kernel
theorem k104_138 {L : Nat} {xs : Nat → Int32} : decode (am_cd (am_me (tb_P L xs) 104)) 138 = .ok (.bipush 6, 2) := show decode (am_cd (tb_me 104)) 138 = .ok (.bipush 6, 2) from by decide +kernel
theorem k104_140 {L : Nat} {xs : Nat → Int32} : decode (am_cd (am_me (tb_P L xs) 104)) 140 = .ok (.newarray .int, 2) := show decode (am_cd (tb_me 104)) 140 = .ok (.newarray .int, 2) from by decide +kernel
theorem k104_142 {L : Nat} {xs : Nat → Int32} : decode (am_cd (am_me (tb_P L xs) 104)) 142 = .ok (.putfield 63, 3) := show decode (am_cd (tb_me 104)) 142 = .ok (.putfield 63, 3) from by decide +kernel
theorem f104_142 {L : Nat} {xs : Nat → Int32} : am_fd (tb_P L xs) 104 63 = some (8, 21, (.array .int : FieldType), true) := show tb_fdF 104 63 = some (8, 21, (.array .int : FieldType), true) from by decide +kernel
theorem k104_145 {L : Nat} {xs : Nat → Int32} : decode (am_cd (am_me (tb_P L xs) 104)) 145 = .ok (.aload_n 0, 1) := show decode (am_cd (tb_me 104)) 145 = .ok (.aload_n 0, 1) from by decide +kernel
theorem k104_146 {L : Nat} {xs : Nat → Int32} : decode (am_cd (am_me (tb_P L xs) 104)) 146 = .ok (.bipush 6, 2) := show decode (am_cd (tb_me 104)) 146 = .ok (.bipush 6, 2) from by decide +kernel
theorem k104_148 {L : Nat} {xs : Nat → Int32} : decode (am_cd (am_me (tb_P L xs) 104)) 148 = .ok (.newarray .int, 2) := show decode (am_cd (tb_me 104)) 148 = .ok (.newarray .int, 2) from by decide +kernel
theorem k104_150 {L : Nat} {xs : Nat → Int32} : decode (am_cd (am_me (tb_P L xs) 104)) 150 = .ok (.putfield 66, 3) := show decode (am_cd (tb_me 104)) 150 = .ok (.putfield 66, 3) from by decide +kernel
theorem f104_150 {L : Nat} {xs : Nat → Int32} : am_fd (tb_P L xs) 104 66 = some (8, 22, (.array .int : FieldType), true) := show tb_fdF 104 66 = some (8, 22, (.array .int : FieldType), true) from by decide +kernel
theorem k104_153 {L : Nat} {xs : Nat → Int32} : decode (am_cd (am_me (tb_P L xs) 104)) 153 = .ok (.aload_n 0, 1) := show decode (am_cd (tb_me 104)) 153 = .ok (.aload_n 0, 1) from by decide +kernel
theorem k104_154 {L : Nat} {xs : Nat → Int32} : decode (am_cd (am_me (tb_P L xs) 104)) 154 = .ok (.sipush 366, 3) := show decode (am_cd (tb_me 104)) 154 = .ok (.sipush 366, 3) from by decide +kernel
theorem k104_157 {L : Nat} {xs : Nat → Int32} : decode (am_cd (am_me (tb_P L xs) 104)) 157 = .ok (.newarray .int, 2) := show decode (am_cd (tb_me 104)) 157 = .ok (.newarray .int, 2) from by decide +kernel
theorem k104_159 {L : Nat} {xs : Nat → Int32} : decode (am_cd (am_me (tb_P L xs) 104)) 159 = .ok (.putfield 69, 3) := show decode (am_cd (tb_me 104)) 159 = .ok (.putfield 69, 3) from by decide +kernel
theorem f104_159 {L : Nat} {xs : Nat → Int32} : am_fd (tb_P L xs) 104 69 = some (8, 26, (.array .int : FieldType), true) := show tb_fdF 104 69 = some (8, 26, (.array .int : FieldType), true) from by decide +kernel
theorem k104_162 {L : Nat} {xs : Nat → Int32} : decode (am_cd (am_me (tb_P L xs) 104)) 162 = .ok (.aload_n 0, 1) := show decode (am_cd (tb_me 104)) 162 = .ok (.aload_n 0, 1) from by decide +kernel
theorem k104_163 {L : Nat} {xs : Nat → Int32} : decode (am_cd (am_me (tb_P L xs) 104)) 163 = .ok (.bipush 7, 2) := show decode (am_cd (tb_me 104)) 163 = .ok (.bipush 7, 2) from by decide +kernel
theorem k104_165 {L : Nat} {xs : Nat → Int32} : decode (am_cd (am_me (tb_P L xs) 104)) 165 = .ok (.newarray .int, 2) := show decode (am_cd (tb_me 104)) 165 = .ok (.newarray .int, 2) from by decide +kernel
theorem k104_167 {L : Nat} {xs : Nat → Int32} : decode (am_cd (am_me (tb_P L xs) 104)) 167 = .ok (.putfield 72, 3) := show decode (am_cd (tb_me 104)) 167 = .ok (.putfield 72, 3) from by decide +kernel
theorem f104_167 {L : Nat} {xs : Nat → Int32} : am_fd (tb_P L xs) 104 72 = some (8, 28, (.array .int : FieldType), true) := show tb_fdF 104 72 = some (8, 28, (.array .int : FieldType), true) from by decide +kernel
theorem k104_170 {L : Nat} {xs : Nat → Int32} : decode (am_cd (am_me (tb_P L xs) 104)) 170 = .ok (.aload_n 0, 1) := show decode (am_cd (tb_me 104)) 170 = .ok (.aload_n 0, 1) from by decide +kernel
theorem k104_171 {L : Nat} {xs : Nat → Int32} : decode (am_cd (am_me (tb_P L xs) 104)) 171 = .ok (.bipush 30, 2) := show decode (am_cd (tb_me 104)) 171 = .ok (.bipush 30, 2) from by decide +kernel
theorem k104_173 {L : Nat} {xs : Nat → Int32} : decode (am_cd (am_me (tb_P L xs) 104)) 173 = .ok (.newarray .int, 2) := show decode (am_cd (tb_me 104)) 173 = .ok (.newarray .int, 2) from by decide +kernel
theorem k104_175 {L : Nat} {xs : Nat → Int32} : decode (am_cd (am_me (tb_P L xs) 104)) 175 = .ok (.putfield 75, 3) := show decode (am_cd (tb_me 104)) 175 = .ok (.putfield 75, 3) from by decide +kernel
theorem f104_175 {L : Nat} {xs : Nat → Int32} : am_fd (tb_P L xs) 104 75 = some (8, 30, (.array .int : FieldType), true) := show tb_fdF 104 75 = some (8, 30, (.array .int : FieldType), true) from by decide +kernel
theorem k104_178 {L : Nat} {xs : Nat → Int32} : decode (am_cd (am_me (tb_P L xs) 104)) 178 = .ok (.iconst 0, 1) := show decode (am_cd (tb_me 104)) 178 = .ok (.iconst 0, 1) from by decide +kernel
theorem k104_179 {L : Nat} {xs : Nat → Int32} : decode (am_cd (am_me (tb_P L xs) 104)) 179 = .ok (.istore_n 1, 1) := show decode (am_cd (tb_me 104)) 179 = .ok (.istore_n 1, 1) from by decide +kernel
theorem k104_180 {L : Nat} {xs : Nat → Int32} : decode (am_cd (am_me (tb_P L xs) 104)) 180 = .ok (.iload_n 1, 1) := show decode (am_cd (tb_me 104)) 180 = .ok (.iload_n 1, 1) from by decide +kernel
theorem k104_181 {L : Nat} {xs : Nat → Int32} : decode (am_cd (am_me (tb_P L xs) 104)) 181 = .ok (.bipush 6, 2) := show decode (am_cd (tb_me 104)) 181 = .ok (.bipush 6, 2) from by decide +kernel
theorem k104_183 {L : Nat} {xs : Nat → Int32} : decode (am_cd (am_me (tb_P L xs) 104)) 183 = .ok (.if_icmp .ge 16, 3) := show decode (am_cd (tb_me 104)) 183 = .ok (.if_icmp .ge 16, 3) from by decide +kernel
theorem k104_186 {L : Nat} {xs : Nat → Int32} : decode (am_cd (am_me (tb_P L xs) 104)) 186 = .ok (.aload_n 0, 1) := show decode (am_cd (tb_me 104)) 186 = .ok (.aload_n 0, 1) from by decide +kernel
theorem k104_187 {L : Nat} {xs : Nat → Int32} : decode (am_cd (am_me (tb_P L xs) 104)) 187 = .ok (.getfield 7, 3) := show decode (am_cd (tb_me 104)) 187 = .ok (.getfield 7, 3) from by decide +kernel
theorem f104_187 {L : Nat} {xs : Nat → Int32} : am_fd (tb_P L xs) 104 7 = some (8, 1, (.array .int : FieldType), true) := show tb_fdF 104 7 = some (8, 1, (.array .int : FieldType), true) from by decide +kernel
theorem k104_190 {L : Nat} {xs : Nat → Int32} : decode (am_cd (am_me (tb_P L xs) 104)) 190 = .ok (.iload_n 1, 1) := show decode (am_cd (tb_me 104)) 190 = .ok (.iload_n 1, 1) from by decide +kernel
theorem k104_191 {L : Nat} {xs : Nat → Int32} : decode (am_cd (am_me (tb_P L xs) 104)) 191 = .ok (.iconst 1, 1) := show decode (am_cd (tb_me 104)) 191 = .ok (.iconst 1, 1) from by decide +kernel
theorem k104_192 {L : Nat} {xs : Nat → Int32} : decode (am_cd (am_me (tb_P L xs) 104)) 192 = .ok (.iastore, 1) := show decode (am_cd (tb_me 104)) 192 = .ok (.iastore, 1) from by decide +kernel
theorem k104_193 {L : Nat} {xs : Nat → Int32} : decode (am_cd (am_me (tb_P L xs) 104)) 193 = .ok (.iinc 1 1, 3) := show decode (am_cd (tb_me 104)) 193 = .ok (.iinc 1 1, 3) from by decide +kernel
theorem k104_196 {L : Nat} {xs : Nat → Int32} : decode (am_cd (am_me (tb_P L xs) 104)) 196 = .ok (.goto (-16), 3) := show decode (am_cd (tb_me 104)) 196 = .ok (.goto (-16), 3) from by decide +kernel
theorem k104_199 {L : Nat} {xs : Nat → Int32} : decode (am_cd (am_me (tb_P L xs) 104)) 199 = .ok (.iconst 0, 1) := show decode (am_cd (tb_me 104)) 199 = .ok (.iconst 0, 1) from by decide +kernel
theorem k104_200 {L : Nat} {xs : Nat → Int32} : decode (am_cd (am_me (tb_P L xs) 104)) 200 = .ok (.istore_n 1, 1) := show decode (am_cd (tb_me 104)) 200 = .ok (.istore_n 1, 1) from by decide +kernel
theorem k104_201 {L : Nat} {xs : Nat → Int32} : decode (am_cd (am_me (tb_P L xs) 104)) 201 = .ok (.iload_n 1, 1) := show decode (am_cd (tb_me 104)) 201 = .ok (.iload_n 1, 1) from by decide +kernel
theorem k104_202 {L : Nat} {xs : Nat → Int32} : decode (am_cd (am_me (tb_P L xs) 104)) 202 = .ok (.bipush 72, 2) := show decode (am_cd (tb_me 104)) 202 = .ok (.bipush 72, 2) from by decide +kernel
theorem k104_204 {L : Nat} {xs : Nat → Int32} : decode (am_cd (am_me (tb_P L xs) 104)) 204 = .ok (.if_icmp .ge 16, 3) := show decode (am_cd (tb_me 104)) 204 = .ok (.if_icmp .ge 16, 3) from by decide +kernel
theorem k104_207 {L : Nat} {xs : Nat → Int32} : decode (am_cd (am_me (tb_P L xs) 104)) 207 = .ok (.aload_n 0, 1) := show decode (am_cd (tb_me 104)) 207 = .ok (.aload_n 0, 1) from by decide +kernel
theorem k104_208 {L : Nat} {xs : Nat → Int32} : decode (am_cd (am_me (tb_P L xs) 104)) 208 = .ok (.getfield 47, 3) := show decode (am_cd (tb_me 104)) 208 = .ok (.getfield 47, 3) from by decide +kernel
theorem f104_208 {L : Nat} {xs : Nat → Int32} : am_fd (tb_P L xs) 104 47 = some (8, 16, (.array .int : FieldType), true) := show tb_fdF 104 47 = some (8, 16, (.array .int : FieldType), true) from by decide +kernel
theorem k104_211 {L : Nat} {xs : Nat → Int32} : decode (am_cd (am_me (tb_P L xs) 104)) 211 = .ok (.iload_n 1, 1) := show decode (am_cd (tb_me 104)) 211 = .ok (.iload_n 1, 1) from by decide +kernel
theorem k104_212 {L : Nat} {xs : Nat → Int32} : decode (am_cd (am_me (tb_P L xs) 104)) 212 = .ok (.iconst (-1), 1) := show decode (am_cd (tb_me 104)) 212 = .ok (.iconst (-1), 1) from by decide +kernel
theorem k104_213 {L : Nat} {xs : Nat → Int32} : decode (am_cd (am_me (tb_P L xs) 104)) 213 = .ok (.iastore, 1) := show decode (am_cd (tb_me 104)) 213 = .ok (.iastore, 1) from by decide +kernel
theorem k104_214 {L : Nat} {xs : Nat → Int32} : decode (am_cd (am_me (tb_P L xs) 104)) 214 = .ok (.iinc 1 1, 3) := show decode (am_cd (tb_me 104)) 214 = .ok (.iinc 1 1, 3) from by decide +kernel
theorem k104_217 {L : Nat} {xs : Nat → Int32} : decode (am_cd (am_me (tb_P L xs) 104)) 217 = .ok (.goto (-16), 3) := show decode (am_cd (tb_me 104)) 217 = .ok (.goto (-16), 3) from by decide +kernel
theorem k104_220 {L : Nat} {xs : Nat → Int32} : decode (am_cd (am_me (tb_P L xs) 104)) 220 = .ok (.return_, 1) := show decode (am_cd (tb_me 104)) 220 = .ok (.return_, 1) from by decide +kernel
theorem t104 {L : Nat} {xs : Nat → Int32} : am_rt (am_me (tb_P L xs) 104) = none := show am_rt (tb_me 104) = none from by decide +kernel
theorem l104 {L : Nat} {xs : Nat → Int32} : am_ml (am_me (tb_P L xs) 104) = 2 := show am_ml (tb_me 104) = 2 from by decide +kernel
theorem o104 {L : Nat} {xs : Nat → Int32} (pc : Nat) : am_no (tb_P L xs) 104 pc = true := show (am_hd (tb_me 104)).all (fun q => !(decide (q.1 ≤ pc) && decide (pc < q.2.1))) = true from by rw [show am_hd (tb_me 104) = [] by decide +kernel]; rfl
theorem k105_0 {L : Nat} {xs : Nat → Int32} : decode (am_cd (am_me (tb_P L xs) 105)) 0 = .ok (.aload_n 0, 1) := show decode (am_cd (tb_me 105)) 0 = .ok (.aload_n 0, 1) from by decide +kernel
theorem k105_1 {L : Nat} {xs : Nat → Int32} : decode (am_cd (am_me (tb_P L xs) 105)) 1 = .ok (.getfield 78, 3) := show decode (am_cd (tb_me 105)) 1 = .ok (.getfield 78, 3) from by decide +kernel
theorem f105_1 {L : Nat} {xs : Nat → Int32} : am_fd (tb_P L xs) 105 78 = some (8, 0, (.int : FieldType), true) := show tb_fdF 105 78 = some (8, 0, (.int : FieldType), true) from by decide +kernel
theorem k105_4 {L : Nat} {xs : Nat → Int32} : decode (am_cd (am_me (tb_P L xs) 105)) 4 = .ok (.ireturn, 1) := show decode (am_cd (tb_me 105)) 4 = .ok (.ireturn, 1) from by decide +kernel
theorem t105 {L : Nat} {xs : Nat → Int32} : am_rt (am_me (tb_P L xs) 105) = some (.int : FieldType) := show am_rt (tb_me 105) = some (.int : FieldType) from by decide +kernel
theorem l105 {L : Nat} {xs : Nat → Int32} : am_ml (am_me (tb_P L xs) 105) = 1 := show am_ml (tb_me 105) = 1 from by decide +kernel
theorem o105 {L : Nat} {xs : Nat → Int32} (pc : Nat) : am_no (tb_P L xs) 105 pc = true := show (am_hd (tb_me 105)).all (fun q => !(decide (q.1 ≤ pc) && decide (pc < q.2.1))) = true from by rw [show am_hd (tb_me 105) = [] by decide +kernel]; rfl
theorem k106_0 {L : Nat} {xs : Nat → Int32} : decode (am_cd (am_me (tb_P L xs) 106)) 0 = .ok (.aload_n 0, 1) := show decode (am_cd (tb_me 106)) 0 = .ok (.aload_n 0, 1) from by decide +kernel
theorem k106_1 {L : Nat} {xs : Nat → Int32} : decode (am_cd (am_me (tb_P L xs) 106)) 1 = .ok (.aload_n 0, 1) := show decode (am_cd (tb_me 106)) 1 = .ok (.aload_n 0, 1) from by decide +kernel
theorem k106_2 {L : Nat} {xs : Nat → Int32} : decode (am_cd (am_me (tb_P L xs) 106)) 2 = .ok (.iload_n 1, 1) := show decode (am_cd (tb_me 106)) 2 = .ok (.iload_n 1, 1) from by decide +kernel
theorem k106_3 {L : Nat} {xs : Nat → Int32} : decode (am_cd (am_me (tb_P L xs) 106)) 3 = .ok (.invokevirtual 81, 3) := show decode (am_cd (tb_me 106)) 3 = .ok (.invokevirtual 81, 3) from by decide +kernel
theorem s106_3 {L : Nat} {xs : Nat → Int32} : am_sp (tb_P L xs) 106 81 = none := show tb_spF 106 81 = none from by decide +kernel
theorem c106_3 {L : Nat} {xs : Nat → Int32} : am_ca (tb_P L xs) 106 81 = some (107, 1, 1) := show tb_caF 106 81 = some (107, 1, 1) from by decide +kernel
theorem r106_3 {L : Nat} {xs : Nat → Int32} : am_rf (am_me (tb_P L xs) 107) + 1 ≤ am_rf (am_me (tb_P L xs) 106) ∧ 1 + (am_ml (am_me (tb_P L xs) 107) + 11) + am_rl (am_me (tb_P L xs) 107) ≤ am_rl (am_me (tb_P L xs) 106) := show am_rf (tb_me 107) + 1 ≤ am_rf (tb_me 106) ∧ 1 + (am_ml (tb_me 107) + 11) + am_rl (tb_me 107) ≤ am_rl (tb_me 106) from by decide +kernel
theorem k106_6 {L : Nat} {xs : Nat → Int32} : decode (am_cd (am_me (tb_P L xs) 106)) 6 = .ok (.ifCond .ne 7, 3) := show decode (am_cd (tb_me 106)) 6 = .ok (.ifCond .ne 7, 3) from by decide +kernel
theorem k106_9 {L : Nat} {xs : Nat → Int32} : decode (am_cd (am_me (tb_P L xs) 106)) 9 = .ok (.iconst 1, 1) := show decode (am_cd (tb_me 106)) 9 = .ok (.iconst 1, 1) from by decide +kernel
theorem k106_10 {L : Nat} {xs : Nat → Int32} : decode (am_cd (am_me (tb_P L xs) 106)) 10 = .ok (.goto 17, 3) := show decode (am_cd (tb_me 106)) 10 = .ok (.goto 17, 3) from by decide +kernel
theorem k106_13 {L : Nat} {xs : Nat → Int32} : decode (am_cd (am_me (tb_P L xs) 106)) 13 = .ok (.aload_n 0, 1) := show decode (am_cd (tb_me 106)) 13 = .ok (.aload_n 0, 1) from by decide +kernel
theorem k106_14 {L : Nat} {xs : Nat → Int32} : decode (am_cd (am_me (tb_P L xs) 106)) 14 = .ok (.getfield 85, 3) := show decode (am_cd (tb_me 106)) 14 = .ok (.getfield 85, 3) from by decide +kernel
theorem f106_14 {L : Nat} {xs : Nat → Int32} : am_fd (tb_P L xs) 106 85 = some (8, 3, (.int : FieldType), true) := show tb_fdF 106 85 = some (8, 3, (.int : FieldType), true) from by decide +kernel
theorem k106_17 {L : Nat} {xs : Nat → Int32} : decode (am_cd (am_me (tb_P L xs) 106)) 17 = .ok (.bipush 24, 2) := show decode (am_cd (tb_me 106)) 17 = .ok (.bipush 24, 2) from by decide +kernel
theorem k106_19 {L : Nat} {xs : Nat → Int32} : decode (am_cd (am_me (tb_P L xs) 106)) 19 = .ok (.if_icmp .ne 7, 3) := show decode (am_cd (tb_me 106)) 19 = .ok (.if_icmp .ne 7, 3) from by decide +kernel
theorem k106_22 {L : Nat} {xs : Nat → Int32} : decode (am_cd (am_me (tb_P L xs) 106)) 22 = .ok (.iconst 2, 1) := show decode (am_cd (tb_me 106)) 22 = .ok (.iconst 2, 1) from by decide +kernel
theorem k106_23 {L : Nat} {xs : Nat → Int32} : decode (am_cd (am_me (tb_P L xs) 106)) 23 = .ok (.goto 4, 3) := show decode (am_cd (tb_me 106)) 23 = .ok (.goto 4, 3) from by decide +kernel
theorem k106_26 {L : Nat} {xs : Nat → Int32} : decode (am_cd (am_me (tb_P L xs) 106)) 26 = .ok (.iconst 0, 1) := show decode (am_cd (tb_me 106)) 26 = .ok (.iconst 0, 1) from by decide +kernel
theorem k106_27 {L : Nat} {xs : Nat → Int32} : decode (am_cd (am_me (tb_P L xs) 106)) 27 = .ok (.putfield 78, 3) := show decode (am_cd (tb_me 106)) 27 = .ok (.putfield 78, 3) from by decide +kernel
theorem f106_27 {L : Nat} {xs : Nat → Int32} : am_fd (tb_P L xs) 106 78 = some (8, 0, (.int : FieldType), true) := show tb_fdF 106 78 = some (8, 0, (.int : FieldType), true) from by decide +kernel
theorem k106_30 {L : Nat} {xs : Nat → Int32} : decode (am_cd (am_me (tb_P L xs) 106)) 30 = .ok (.aload_n 0, 1) := show decode (am_cd (tb_me 106)) 30 = .ok (.aload_n 0, 1) from by decide +kernel
theorem k106_31 {L : Nat} {xs : Nat → Int32} : decode (am_cd (am_me (tb_P L xs) 106)) 31 = .ok (.getfield 78, 3) := show decode (am_cd (tb_me 106)) 31 = .ok (.getfield 78, 3) from by decide +kernel
theorem f106_31 {L : Nat} {xs : Nat → Int32} : am_fd (tb_P L xs) 106 78 = some (8, 0, (.int : FieldType), true) := show tb_fdF 106 78 = some (8, 0, (.int : FieldType), true) from by decide +kernel
theorem k106_34 {L : Nat} {xs : Nat → Int32} : decode (am_cd (am_me (tb_P L xs) 106)) 34 = .ok (.ifCond .eq 5, 3) := show decode (am_cd (tb_me 106)) 34 = .ok (.ifCond .eq 5, 3) from by decide +kernel
theorem k106_37 {L : Nat} {xs : Nat → Int32} : decode (am_cd (am_me (tb_P L xs) 106)) 37 = .ok (.iconst 0, 1) := show decode (am_cd (tb_me 106)) 37 = .ok (.iconst 0, 1) from by decide +kernel
theorem k106_38 {L : Nat} {xs : Nat → Int32} : decode (am_cd (am_me (tb_P L xs) 106)) 38 = .ok (.ireturn, 1) := show decode (am_cd (tb_me 106)) 38 = .ok (.ireturn, 1) from by decide +kernel
theorem k106_39 {L : Nat} {xs : Nat → Int32} : decode (am_cd (am_me (tb_P L xs) 106)) 39 = .ok (.aload_n 0, 1) := show decode (am_cd (tb_me 106)) 39 = .ok (.aload_n 0, 1) from by decide +kernel
theorem k106_40 {L : Nat} {xs : Nat → Int32} : decode (am_cd (am_me (tb_P L xs) 106)) 40 = .ok (.getfield 16, 3) := show decode (am_cd (tb_me 106)) 40 = .ok (.getfield 16, 3) from by decide +kernel
theorem f106_40 {L : Nat} {xs : Nat → Int32} : am_fd (tb_P L xs) 106 16 = some (8, 4, (.array .int : FieldType), true) := show tb_fdF 106 16 = some (8, 4, (.array .int : FieldType), true) from by decide +kernel
theorem k106_43 {L : Nat} {xs : Nat → Int32} : decode (am_cd (am_me (tb_P L xs) 106)) 43 = .ok (.aload_n 0, 1) := show decode (am_cd (tb_me 106)) 43 = .ok (.aload_n 0, 1) from by decide +kernel
theorem k106_44 {L : Nat} {xs : Nat → Int32} : decode (am_cd (am_me (tb_P L xs) 106)) 44 = .ok (.getfield 85, 3) := show decode (am_cd (tb_me 106)) 44 = .ok (.getfield 85, 3) from by decide +kernel
theorem f106_44 {L : Nat} {xs : Nat → Int32} : am_fd (tb_P L xs) 106 85 = some (8, 3, (.int : FieldType), true) := show tb_fdF 106 85 = some (8, 3, (.int : FieldType), true) from by decide +kernel
theorem k106_47 {L : Nat} {xs : Nat → Int32} : decode (am_cd (am_me (tb_P L xs) 106)) 47 = .ok (.iload_n 1, 1) := show decode (am_cd (tb_me 106)) 47 = .ok (.iload_n 1, 1) from by decide +kernel
theorem k106_48 {L : Nat} {xs : Nat → Int32} : decode (am_cd (am_me (tb_P L xs) 106)) 48 = .ok (.iastore, 1) := show decode (am_cd (tb_me 106)) 48 = .ok (.iastore, 1) from by decide +kernel
theorem k106_49 {L : Nat} {xs : Nat → Int32} : decode (am_cd (am_me (tb_P L xs) 106)) 49 = .ok (.aload_n 0, 1) := show decode (am_cd (tb_me 106)) 49 = .ok (.aload_n 0, 1) from by decide +kernel
theorem k106_50 {L : Nat} {xs : Nat → Int32} : decode (am_cd (am_me (tb_P L xs) 106)) 50 = .ok (.dup, 1) := show decode (am_cd (tb_me 106)) 50 = .ok (.dup, 1) from by decide +kernel
theorem k106_51 {L : Nat} {xs : Nat → Int32} : decode (am_cd (am_me (tb_P L xs) 106)) 51 = .ok (.getfield 85, 3) := show decode (am_cd (tb_me 106)) 51 = .ok (.getfield 85, 3) from by decide +kernel
theorem f106_51 {L : Nat} {xs : Nat → Int32} : am_fd (tb_P L xs) 106 85 = some (8, 3, (.int : FieldType), true) := show tb_fdF 106 85 = some (8, 3, (.int : FieldType), true) from by decide +kernel
theorem k106_54 {L : Nat} {xs : Nat → Int32} : decode (am_cd (am_me (tb_P L xs) 106)) 54 = .ok (.iconst 1, 1) := show decode (am_cd (tb_me 106)) 54 = .ok (.iconst 1, 1) from by decide +kernel
theorem k106_55 {L : Nat} {xs : Nat → Int32} : decode (am_cd (am_me (tb_P L xs) 106)) 55 = .ok (.iadd, 1) := show decode (am_cd (tb_me 106)) 55 = .ok (.iadd, 1) from by decide +kernel
theorem k106_56 {L : Nat} {xs : Nat → Int32} : decode (am_cd (am_me (tb_P L xs) 106)) 56 = .ok (.putfield 85, 3) := show decode (am_cd (tb_me 106)) 56 = .ok (.putfield 85, 3) from by decide +kernel
theorem f106_56 {L : Nat} {xs : Nat → Int32} : am_fd (tb_P L xs) 106 85 = some (8, 3, (.int : FieldType), true) := show tb_fdF 106 85 = some (8, 3, (.int : FieldType), true) from by decide +kernel
theorem k106_59 {L : Nat} {xs : Nat → Int32} : decode (am_cd (am_me (tb_P L xs) 106)) 59 = .ok (.aload_n 0, 1) := show decode (am_cd (tb_me 106)) 59 = .ok (.aload_n 0, 1) from by decide +kernel
theorem k106_60 {L : Nat} {xs : Nat → Int32} : decode (am_cd (am_me (tb_P L xs) 106)) 60 = .ok (.getfield 85, 3) := show decode (am_cd (tb_me 106)) 60 = .ok (.getfield 85, 3) from by decide +kernel
theorem f106_60 {L : Nat} {xs : Nat → Int32} : am_fd (tb_P L xs) 106 85 = some (8, 3, (.int : FieldType), true) := show tb_fdF 106 85 = some (8, 3, (.int : FieldType), true) from by decide +kernel
theorem k106_63 {L : Nat} {xs : Nat → Int32} : decode (am_cd (am_me (tb_P L xs) 106)) 63 = .ok (.ireturn, 1) := show decode (am_cd (tb_me 106)) 63 = .ok (.ireturn, 1) from by decide +kernel
theorem t106 {L : Nat} {xs : Nat → Int32} : am_rt (am_me (tb_P L xs) 106) = some (.int : FieldType) := show am_rt (tb_me 106) = some (.int : FieldType) from by decide +kernel
theorem l106 {L : Nat} {xs : Nat → Int32} : am_ml (am_me (tb_P L xs) 106) = 2 := show am_ml (tb_me 106) = 2 from by decide +kernel
theorem o106 {L : Nat} {xs : Nat → Int32} (pc : Nat) : am_no (tb_P L xs) 106 pc = true := show (am_hd (tb_me 106)).all (fun q => !(decide (q.1 ≤ pc) && decide (pc < q.2.1))) = true from by rw [show am_hd (tb_me 106) = [] by decide +kernel]; rfl
theorem k107_0 {L : Nat} {xs : Nat → Int32} : decode (am_cd (am_me (tb_P L xs) 107)) 0 = .ok (.iload_n 1, 1) := show decode (am_cd (tb_me 107)) 0 = .ok (.iload_n 1, 1) from by decide +kernel
theorem k107_1 {L : Nat} {xs : Nat → Int32} : decode (am_cd (am_me (tb_P L xs) 107)) 1 = .ok (.ifCond .lt 9, 3) := show decode (am_cd (tb_me 107)) 1 = .ok (.ifCond .lt 9, 3) from by decide +kernel
theorem k107_4 {L : Nat} {xs : Nat → Int32} : decode (am_cd (am_me (tb_P L xs) 107)) 4 = .ok (.iload_n 1, 1) := show decode (am_cd (tb_me 107)) 4 = .ok (.iload_n 1, 1) from by decide +kernel
theorem k107_5 {L : Nat} {xs : Nat → Int32} : decode (am_cd (am_me (tb_P L xs) 107)) 5 = .ok (.bipush 10, 2) := show decode (am_cd (tb_me 107)) 5 = .ok (.bipush 10, 2) from by decide +kernel
theorem k107_7 {L : Nat} {xs : Nat → Int32} : decode (am_cd (am_me (tb_P L xs) 107)) 7 = .ok (.if_icmp .lt 33, 3) := show decode (am_cd (tb_me 107)) 7 = .ok (.if_icmp .lt 33, 3) from by decide +kernel
theorem k107_10 {L : Nat} {xs : Nat → Int32} : decode (am_cd (am_me (tb_P L xs) 107)) 10 = .ok (.iload_n 1, 1) := show decode (am_cd (tb_me 107)) 10 = .ok (.iload_n 1, 1) from by decide +kernel
theorem k107_11 {L : Nat} {xs : Nat → Int32} : decode (am_cd (am_me (tb_P L xs) 107)) 11 = .ok (.bipush 20, 2) := show decode (am_cd (tb_me 107)) 11 = .ok (.bipush 20, 2) from by decide +kernel
theorem k107_13 {L : Nat} {xs : Nat → Int32} : decode (am_cd (am_me (tb_P L xs) 107)) 13 = .ok (.if_icmp .lt 9, 3) := show decode (am_cd (tb_me 107)) 13 = .ok (.if_icmp .lt 9, 3) from by decide +kernel
theorem k107_16 {L : Nat} {xs : Nat → Int32} : decode (am_cd (am_me (tb_P L xs) 107)) 16 = .ok (.iload_n 1, 1) := show decode (am_cd (tb_me 107)) 16 = .ok (.iload_n 1, 1) from by decide +kernel
theorem k107_17 {L : Nat} {xs : Nat → Int32} : decode (am_cd (am_me (tb_P L xs) 107)) 17 = .ok (.bipush 26, 2) := show decode (am_cd (tb_me 107)) 17 = .ok (.bipush 26, 2) from by decide +kernel
theorem k107_19 {L : Nat} {xs : Nat → Int32} : decode (am_cd (am_me (tb_P L xs) 107)) 19 = .ok (.if_icmp .lt 21, 3) := show decode (am_cd (tb_me 107)) 19 = .ok (.if_icmp .lt 21, 3) from by decide +kernel
theorem k107_22 {L : Nat} {xs : Nat → Int32} : decode (am_cd (am_me (tb_P L xs) 107)) 22 = .ok (.iload_n 1, 1) := show decode (am_cd (tb_me 107)) 22 = .ok (.iload_n 1, 1) from by decide +kernel
theorem k107_23 {L : Nat} {xs : Nat → Int32} : decode (am_cd (am_me (tb_P L xs) 107)) 23 = .ok (.bipush 40, 2) := show decode (am_cd (tb_me 107)) 23 = .ok (.bipush 40, 2) from by decide +kernel
theorem k107_25 {L : Nat} {xs : Nat → Int32} : decode (am_cd (am_me (tb_P L xs) 107)) 25 = .ok (.if_icmp .eq 15, 3) := show decode (am_cd (tb_me 107)) 25 = .ok (.if_icmp .eq 15, 3) from by decide +kernel
theorem k107_28 {L : Nat} {xs : Nat → Int32} : decode (am_cd (am_me (tb_P L xs) 107)) 28 = .ok (.iload_n 1, 1) := show decode (am_cd (tb_me 107)) 28 = .ok (.iload_n 1, 1) from by decide +kernel
theorem k107_29 {L : Nat} {xs : Nat → Int32} : decode (am_cd (am_me (tb_P L xs) 107)) 29 = .ok (.bipush 50, 2) := show decode (am_cd (tb_me 107)) 29 = .ok (.bipush 50, 2) from by decide +kernel
theorem k107_31 {L : Nat} {xs : Nat → Int32} : decode (am_cd (am_me (tb_P L xs) 107)) 31 = .ok (.if_icmp .lt 13, 3) := show decode (am_cd (tb_me 107)) 31 = .ok (.if_icmp .lt 13, 3) from by decide +kernel
theorem k107_34 {L : Nat} {xs : Nat → Int32} : decode (am_cd (am_me (tb_P L xs) 107)) 34 = .ok (.iload_n 1, 1) := show decode (am_cd (tb_me 107)) 34 = .ok (.iload_n 1, 1) from by decide +kernel
theorem k107_35 {L : Nat} {xs : Nat → Int32} : decode (am_cd (am_me (tb_P L xs) 107)) 35 = .ok (.bipush 59, 2) := show decode (am_cd (tb_me 107)) 35 = .ok (.bipush 59, 2) from by decide +kernel
theorem k107_37 {L : Nat} {xs : Nat → Int32} : decode (am_cd (am_me (tb_P L xs) 107)) 37 = .ok (.if_icmp .ge 7, 3) := show decode (am_cd (tb_me 107)) 37 = .ok (.if_icmp .ge 7, 3) from by decide +kernel
theorem k107_40 {L : Nat} {xs : Nat → Int32} : decode (am_cd (am_me (tb_P L xs) 107)) 40 = .ok (.iconst 1, 1) := show decode (am_cd (tb_me 107)) 40 = .ok (.iconst 1, 1) from by decide +kernel
theorem k107_41 {L : Nat} {xs : Nat → Int32} : decode (am_cd (am_me (tb_P L xs) 107)) 41 = .ok (.goto 4, 3) := show decode (am_cd (tb_me 107)) 41 = .ok (.goto 4, 3) from by decide +kernel
theorem k107_44 {L : Nat} {xs : Nat → Int32} : decode (am_cd (am_me (tb_P L xs) 107)) 44 = .ok (.iconst 0, 1) := show decode (am_cd (tb_me 107)) 44 = .ok (.iconst 0, 1) from by decide +kernel
theorem k107_45 {L : Nat} {xs : Nat → Int32} : decode (am_cd (am_me (tb_P L xs) 107)) 45 = .ok (.ireturn, 1) := show decode (am_cd (tb_me 107)) 45 = .ok (.ireturn, 1) from by decide +kernel
theorem t107 {L : Nat} {xs : Nat → Int32} : am_rt (am_me (tb_P L xs) 107) = some (.boolean : FieldType) := show am_rt (tb_me 107) = some (.boolean : FieldType) from by decide +kernel
theorem l107 {L : Nat} {xs : Nat → Int32} : am_ml (am_me (tb_P L xs) 107) = 2 := show am_ml (tb_me 107) = 2 from by decide +kernel
theorem o107 {L : Nat} {xs : Nat → Int32} (pc : Nat) : am_no (tb_P L xs) 107 pc = true := show (am_hd (tb_me 107)).all (fun q => !(decide (q.1 ≤ pc) && decide (pc < q.2.1))) = true from by rw [show am_hd (tb_me 107) = [] by decide +kernel]; rfl
theorem k108_0 {L : Nat} {xs : Nat → Int32} : decode (am_cd (am_me (tb_P L xs) 108)) 0 = .ok (.aload_n 0, 1) := show decode (am_cd (tb_me 108)) 0 = .ok (.aload_n 0, 1) from by decide +kernel
theorem k108_1 {L : Nat} {xs : Nat → Int32} : decode (am_cd (am_me (tb_P L xs) 108)) 1 = .ok (.aload_n 0, 1) := show decode (am_cd (tb_me 108)) 1 = .ok (.aload_n 0, 1) from by decide +kernel
theorem k108_2 {L : Nat} {xs : Nat → Int32} : decode (am_cd (am_me (tb_P L xs) 108)) 2 = .ok (.invokevirtual 102, 3) := show decode (am_cd (tb_me 108)) 2 = .ok (.invokevirtual 102, 3) from by decide +kernel
theorem s108_2 {L : Nat} {xs : Nat → Int32} : am_sp (tb_P L xs) 108 102 = none := show tb_spF 108 102 = none from by decide +kernel
theorem c108_2 {L : Nat} {xs : Nat → Int32} : am_ca (tb_P L xs) 108 102 = some (109, 0, 1) := show tb_caF 108 102 = some (109, 0, 1) from by decide +kernel
theorem r108_2 {L : Nat} {xs : Nat → Int32} : am_rf (am_me (tb_P L xs) 109) + 1 ≤ am_rf (am_me (tb_P L xs) 108) ∧ 1 + (am_ml (am_me (tb_P L xs) 109) + 11) + am_rl (am_me (tb_P L xs) 109) ≤ am_rl (am_me (tb_P L xs) 108) := show am_rf (tb_me 109) + 1 ≤ am_rf (tb_me 108) ∧ 1 + (am_ml (tb_me 109) + 11) + am_rl (tb_me 109) ≤ am_rl (tb_me 108) from by decide +kernel
theorem k108_5 {L : Nat} {xs : Nat → Int32} : decode (am_cd (am_me (tb_P L xs) 108)) 5 = .ok (.ifCond .ne 7, 3) := show decode (am_cd (tb_me 108)) 5 = .ok (.ifCond .ne 7, 3) from by decide +kernel
theorem k108_8 {L : Nat} {xs : Nat → Int32} : decode (am_cd (am_me (tb_P L xs) 108)) 8 = .ok (.iconst 1, 1) := show decode (am_cd (tb_me 108)) 8 = .ok (.iconst 1, 1) from by decide +kernel
theorem k108_9 {L : Nat} {xs : Nat → Int32} : decode (am_cd (am_me (tb_P L xs) 108)) 9 = .ok (.goto 17, 3) := show decode (am_cd (tb_me 108)) 9 = .ok (.goto 17, 3) from by decide +kernel
theorem k108_12 {L : Nat} {xs : Nat → Int32} : decode (am_cd (am_me (tb_P L xs) 108)) 12 = .ok (.aload_n 0, 1) := show decode (am_cd (tb_me 108)) 12 = .ok (.aload_n 0, 1) from by decide +kernel
theorem k108_13 {L : Nat} {xs : Nat → Int32} : decode (am_cd (am_me (tb_P L xs) 108)) 13 = .ok (.getfield 106, 3) := show decode (am_cd (tb_me 108)) 13 = .ok (.getfield 106, 3) from by decide +kernel
theorem f108_13 {L : Nat} {xs : Nat → Int32} : am_fd (tb_P L xs) 108 106 = some (8, 5, (.int : FieldType), true) := show tb_fdF 108 106 = some (8, 5, (.int : FieldType), true) from by decide +kernel
theorem k108_16 {L : Nat} {xs : Nat → Int32} : decode (am_cd (am_me (tb_P L xs) 108)) 16 = .ok (.bipush 30, 2) := show decode (am_cd (tb_me 108)) 16 = .ok (.bipush 30, 2) from by decide +kernel
theorem k108_18 {L : Nat} {xs : Nat → Int32} : decode (am_cd (am_me (tb_P L xs) 108)) 18 = .ok (.if_icmp .ne 7, 3) := show decode (am_cd (tb_me 108)) 18 = .ok (.if_icmp .ne 7, 3) from by decide +kernel
theorem k108_21 {L : Nat} {xs : Nat → Int32} : decode (am_cd (am_me (tb_P L xs) 108)) 21 = .ok (.iconst 2, 1) := show decode (am_cd (tb_me 108)) 21 = .ok (.iconst 2, 1) from by decide +kernel
theorem k108_22 {L : Nat} {xs : Nat → Int32} : decode (am_cd (am_me (tb_P L xs) 108)) 22 = .ok (.goto 4, 3) := show decode (am_cd (tb_me 108)) 22 = .ok (.goto 4, 3) from by decide +kernel
theorem k108_25 {L : Nat} {xs : Nat → Int32} : decode (am_cd (am_me (tb_P L xs) 108)) 25 = .ok (.iconst 0, 1) := show decode (am_cd (tb_me 108)) 25 = .ok (.iconst 0, 1) from by decide +kernel
theorem k108_26 {L : Nat} {xs : Nat → Int32} : decode (am_cd (am_me (tb_P L xs) 108)) 26 = .ok (.putfield 78, 3) := show decode (am_cd (tb_me 108)) 26 = .ok (.putfield 78, 3) from by decide +kernel
theorem f108_26 {L : Nat} {xs : Nat → Int32} : am_fd (tb_P L xs) 108 78 = some (8, 0, (.int : FieldType), true) := show tb_fdF 108 78 = some (8, 0, (.int : FieldType), true) from by decide +kernel
theorem k108_29 {L : Nat} {xs : Nat → Int32} : decode (am_cd (am_me (tb_P L xs) 108)) 29 = .ok (.aload_n 0, 1) := show decode (am_cd (tb_me 108)) 29 = .ok (.aload_n 0, 1) from by decide +kernel
theorem k108_30 {L : Nat} {xs : Nat → Int32} : decode (am_cd (am_me (tb_P L xs) 108)) 30 = .ok (.getfield 78, 3) := show decode (am_cd (tb_me 108)) 30 = .ok (.getfield 78, 3) from by decide +kernel
theorem f108_30 {L : Nat} {xs : Nat → Int32} : am_fd (tb_P L xs) 108 78 = some (8, 0, (.int : FieldType), true) := show tb_fdF 108 78 = some (8, 0, (.int : FieldType), true) from by decide +kernel
theorem k108_33 {L : Nat} {xs : Nat → Int32} : decode (am_cd (am_me (tb_P L xs) 108)) 33 = .ok (.iconst 1, 1) := show decode (am_cd (tb_me 108)) 33 = .ok (.iconst 1, 1) from by decide +kernel
theorem k108_34 {L : Nat} {xs : Nat → Int32} : decode (am_cd (am_me (tb_P L xs) 108)) 34 = .ok (.if_icmp .ne 8, 3) := show decode (am_cd (tb_me 108)) 34 = .ok (.if_icmp .ne 8, 3) from by decide +kernel
theorem k108_37 {L : Nat} {xs : Nat → Int32} : decode (am_cd (am_me (tb_P L xs) 108)) 37 = .ok (.aload_n 0, 1) := show decode (am_cd (tb_me 108)) 37 = .ok (.aload_n 0, 1) from by decide +kernel
theorem k108_38 {L : Nat} {xs : Nat → Int32} : decode (am_cd (am_me (tb_P L xs) 108)) 38 = .ok (.iconst 0, 1) := show decode (am_cd (tb_me 108)) 38 = .ok (.iconst 0, 1) from by decide +kernel
theorem k108_39 {L : Nat} {xs : Nat → Int32} : decode (am_cd (am_me (tb_P L xs) 108)) 39 = .ok (.putfield 85, 3) := show decode (am_cd (tb_me 108)) 39 = .ok (.putfield 85, 3) from by decide +kernel
theorem f108_39 {L : Nat} {xs : Nat → Int32} : am_fd (tb_P L xs) 108 85 = some (8, 3, (.int : FieldType), true) := show tb_fdF 108 85 = some (8, 3, (.int : FieldType), true) from by decide +kernel
theorem k108_42 {L : Nat} {xs : Nat → Int32} : decode (am_cd (am_me (tb_P L xs) 108)) 42 = .ok (.aload_n 0, 1) := show decode (am_cd (tb_me 108)) 42 = .ok (.aload_n 0, 1) from by decide +kernel
theorem k108_43 {L : Nat} {xs : Nat → Int32} : decode (am_cd (am_me (tb_P L xs) 108)) 43 = .ok (.getfield 78, 3) := show decode (am_cd (tb_me 108)) 43 = .ok (.getfield 78, 3) from by decide +kernel
theorem f108_43 {L : Nat} {xs : Nat → Int32} : am_fd (tb_P L xs) 108 78 = some (8, 0, (.int : FieldType), true) := show tb_fdF 108 78 = some (8, 0, (.int : FieldType), true) from by decide +kernel
theorem k108_46 {L : Nat} {xs : Nat → Int32} : decode (am_cd (am_me (tb_P L xs) 108)) 46 = .ok (.ifCond .eq 5, 3) := show decode (am_cd (tb_me 108)) 46 = .ok (.ifCond .eq 5, 3) from by decide +kernel
theorem k108_49 {L : Nat} {xs : Nat → Int32} : decode (am_cd (am_me (tb_P L xs) 108)) 49 = .ok (.iconst 0, 1) := show decode (am_cd (tb_me 108)) 49 = .ok (.iconst 0, 1) from by decide +kernel
theorem k108_50 {L : Nat} {xs : Nat → Int32} : decode (am_cd (am_me (tb_P L xs) 108)) 50 = .ok (.ireturn, 1) := show decode (am_cd (tb_me 108)) 50 = .ok (.ireturn, 1) from by decide +kernel
theorem k108_51 {L : Nat} {xs : Nat → Int32} : decode (am_cd (am_me (tb_P L xs) 108)) 51 = .ok (.aload_n 0, 1) := show decode (am_cd (tb_me 108)) 51 = .ok (.aload_n 0, 1) from by decide +kernel
theorem k108_52 {L : Nat} {xs : Nat → Int32} : decode (am_cd (am_me (tb_P L xs) 108)) 52 = .ok (.getfield 106, 3) := show decode (am_cd (tb_me 108)) 52 = .ok (.getfield 106, 3) from by decide +kernel
theorem f108_52 {L : Nat} {xs : Nat → Int32} : am_fd (tb_P L xs) 108 106 = some (8, 5, (.int : FieldType), true) := show tb_fdF 108 106 = some (8, 5, (.int : FieldType), true) from by decide +kernel
theorem k108_55 {L : Nat} {xs : Nat → Int32} : decode (am_cd (am_me (tb_P L xs) 108)) 55 = .ok (.istore_n 1, 1) := show decode (am_cd (tb_me 108)) 55 = .ok (.istore_n 1, 1) from by decide +kernel
theorem k108_56 {L : Nat} {xs : Nat → Int32} : decode (am_cd (am_me (tb_P L xs) 108)) 56 = .ok (.aload_n 0, 1) := show decode (am_cd (tb_me 108)) 56 = .ok (.aload_n 0, 1) from by decide +kernel
theorem k108_57 {L : Nat} {xs : Nat → Int32} : decode (am_cd (am_me (tb_P L xs) 108)) 57 = .ok (.getfield 19, 3) := show decode (am_cd (tb_me 108)) 57 = .ok (.getfield 19, 3) from by decide +kernel
theorem f108_57 {L : Nat} {xs : Nat → Int32} : am_fd (tb_P L xs) 108 19 = some (8, 6, (.array .int : FieldType), true) := show tb_fdF 108 19 = some (8, 6, (.array .int : FieldType), true) from by decide +kernel
theorem k108_60 {L : Nat} {xs : Nat → Int32} : decode (am_cd (am_me (tb_P L xs) 108)) 60 = .ok (.iload_n 1, 1) := show decode (am_cd (tb_me 108)) 60 = .ok (.iload_n 1, 1) from by decide +kernel
theorem k108_61 {L : Nat} {xs : Nat → Int32} : decode (am_cd (am_me (tb_P L xs) 108)) 61 = .ok (.aload_n 0, 1) := show decode (am_cd (tb_me 108)) 61 = .ok (.aload_n 0, 1) from by decide +kernel
theorem k108_62 {L : Nat} {xs : Nat → Int32} : decode (am_cd (am_me (tb_P L xs) 108)) 62 = .ok (.getfield 85, 3) := show decode (am_cd (tb_me 108)) 62 = .ok (.getfield 85, 3) from by decide +kernel
theorem f108_62 {L : Nat} {xs : Nat → Int32} : am_fd (tb_P L xs) 108 85 = some (8, 3, (.int : FieldType), true) := show tb_fdF 108 85 = some (8, 3, (.int : FieldType), true) from by decide +kernel
theorem k108_65 {L : Nat} {xs : Nat → Int32} : decode (am_cd (am_me (tb_P L xs) 108)) 65 = .ok (.iastore, 1) := show decode (am_cd (tb_me 108)) 65 = .ok (.iastore, 1) from by decide +kernel
theorem k108_66 {L : Nat} {xs : Nat → Int32} : decode (am_cd (am_me (tb_P L xs) 108)) 66 = .ok (.aload_n 0, 1) := show decode (am_cd (tb_me 108)) 66 = .ok (.aload_n 0, 1) from by decide +kernel
theorem k108_67 {L : Nat} {xs : Nat → Int32} : decode (am_cd (am_me (tb_P L xs) 108)) 67 = .ok (.getfield 25, 3) := show decode (am_cd (tb_me 108)) 67 = .ok (.getfield 25, 3) from by decide +kernel
theorem f108_67 {L : Nat} {xs : Nat → Int32} : am_fd (tb_P L xs) 108 25 = some (8, 8, (.array .boolean : FieldType), true) := show tb_fdF 108 25 = some (8, 8, (.array .boolean : FieldType), true) from by decide +kernel
theorem k108_70 {L : Nat} {xs : Nat → Int32} : decode (am_cd (am_me (tb_P L xs) 108)) 70 = .ok (.iload_n 1, 1) := show decode (am_cd (tb_me 108)) 70 = .ok (.iload_n 1, 1) from by decide +kernel
theorem k108_71 {L : Nat} {xs : Nat → Int32} : decode (am_cd (am_me (tb_P L xs) 108)) 71 = .ok (.aload_n 0, 1) := show decode (am_cd (tb_me 108)) 71 = .ok (.aload_n 0, 1) from by decide +kernel
theorem k108_72 {L : Nat} {xs : Nat → Int32} : decode (am_cd (am_me (tb_P L xs) 108)) 72 = .ok (.aload_n 0, 1) := show decode (am_cd (tb_me 108)) 72 = .ok (.aload_n 0, 1) from by decide +kernel
theorem k108_73 {L : Nat} {xs : Nat → Int32} : decode (am_cd (am_me (tb_P L xs) 108)) 73 = .ok (.getfield 16, 3) := show decode (am_cd (tb_me 108)) 73 = .ok (.getfield 16, 3) from by decide +kernel
theorem f108_73 {L : Nat} {xs : Nat → Int32} : am_fd (tb_P L xs) 108 16 = some (8, 4, (.array .int : FieldType), true) := show tb_fdF 108 16 = some (8, 4, (.array .int : FieldType), true) from by decide +kernel
theorem k108_76 {L : Nat} {xs : Nat → Int32} : decode (am_cd (am_me (tb_P L xs) 108)) 76 = .ok (.iconst 0, 1) := show decode (am_cd (tb_me 108)) 76 = .ok (.iconst 0, 1) from by decide +kernel
theorem k108_77 {L : Nat} {xs : Nat → Int32} : decode (am_cd (am_me (tb_P L xs) 108)) 77 = .ok (.iaload, 1) := show decode (am_cd (tb_me 108)) 77 = .ok (.iaload, 1) from by decide +kernel
theorem k108_78 {L : Nat} {xs : Nat → Int32} : decode (am_cd (am_me (tb_P L xs) 108)) 78 = .ok (.invokevirtual 99, 3) := show decode (am_cd (tb_me 108)) 78 = .ok (.invokevirtual 99, 3) from by decide +kernel
theorem s108_78 {L : Nat} {xs : Nat → Int32} : am_sp (tb_P L xs) 108 99 = none := show tb_spF 108 99 = none from by decide +kernel
theorem c108_78 {L : Nat} {xs : Nat → Int32} : am_ca (tb_P L xs) 108 99 = some (112, 1, 1) := show tb_caF 108 99 = some (112, 1, 1) from by decide +kernel
theorem r108_78 {L : Nat} {xs : Nat → Int32} : am_rf (am_me (tb_P L xs) 112) + 1 ≤ am_rf (am_me (tb_P L xs) 108) ∧ 2 + (am_ml (am_me (tb_P L xs) 112) + 11) + am_rl (am_me (tb_P L xs) 112) ≤ am_rl (am_me (tb_P L xs) 108) := show am_rf (tb_me 112) + 1 ≤ am_rf (tb_me 108) ∧ 2 + (am_ml (tb_me 112) + 11) + am_rl (tb_me 112) ≤ am_rl (tb_me 108) from by decide +kernel
theorem k108_81 {L : Nat} {xs : Nat → Int32} : decode (am_cd (am_me (tb_P L xs) 108)) 81 = .ok (.bastore, 1) := show decode (am_cd (tb_me 108)) 81 = .ok (.bastore, 1) from by decide +kernel
theorem k108_82 {L : Nat} {xs : Nat → Int32} : decode (am_cd (am_me (tb_P L xs) 108)) 82 = .ok (.aload_n 0, 1) := show decode (am_cd (tb_me 108)) 82 = .ok (.aload_n 0, 1) from by decide +kernel
theorem k108_83 {L : Nat} {xs : Nat → Int32} : decode (am_cd (am_me (tb_P L xs) 108)) 83 = .ok (.getfield 29, 3) := show decode (am_cd (tb_me 108)) 83 = .ok (.getfield 29, 3) from by decide +kernel
theorem f108_83 {L : Nat} {xs : Nat → Int32} : am_fd (tb_P L xs) 108 29 = some (8, 9, (.array .boolean : FieldType), true) := show tb_fdF 108 29 = some (8, 9, (.array .boolean : FieldType), true) from by decide +kernel
theorem k108_86 {L : Nat} {xs : Nat → Int32} : decode (am_cd (am_me (tb_P L xs) 108)) 86 = .ok (.iload_n 1, 1) := show decode (am_cd (tb_me 108)) 86 = .ok (.iload_n 1, 1) from by decide +kernel
theorem k108_87 {L : Nat} {xs : Nat → Int32} : decode (am_cd (am_me (tb_P L xs) 108)) 87 = .ok (.iconst 0, 1) := show decode (am_cd (tb_me 108)) 87 = .ok (.iconst 0, 1) from by decide +kernel
theorem k108_88 {L : Nat} {xs : Nat → Int32} : decode (am_cd (am_me (tb_P L xs) 108)) 88 = .ok (.bastore, 1) := show decode (am_cd (tb_me 108)) 88 = .ok (.bastore, 1) from by decide +kernel
theorem k108_89 {L : Nat} {xs : Nat → Int32} : decode (am_cd (am_me (tb_P L xs) 108)) 89 = .ok (.aload_n 0, 1) := show decode (am_cd (tb_me 108)) 89 = .ok (.aload_n 0, 1) from by decide +kernel
theorem k108_90 {L : Nat} {xs : Nat → Int32} : decode (am_cd (am_me (tb_P L xs) 108)) 90 = .ok (.getfield 32, 3) := show decode (am_cd (tb_me 108)) 90 = .ok (.getfield 32, 3) from by decide +kernel
theorem f108_90 {L : Nat} {xs : Nat → Int32} : am_fd (tb_P L xs) 108 32 = some (8, 10, (.array .boolean : FieldType), true) := show tb_fdF 108 32 = some (8, 10, (.array .boolean : FieldType), true) from by decide +kernel
theorem k108_93 {L : Nat} {xs : Nat → Int32} : decode (am_cd (am_me (tb_P L xs) 108)) 93 = .ok (.iload_n 1, 1) := show decode (am_cd (tb_me 108)) 93 = .ok (.iload_n 1, 1) from by decide +kernel
theorem k108_94 {L : Nat} {xs : Nat → Int32} : decode (am_cd (am_me (tb_P L xs) 108)) 94 = .ok (.iconst 0, 1) := show decode (am_cd (tb_me 108)) 94 = .ok (.iconst 0, 1) from by decide +kernel
theorem k108_95 {L : Nat} {xs : Nat → Int32} : decode (am_cd (am_me (tb_P L xs) 108)) 95 = .ok (.bastore, 1) := show decode (am_cd (tb_me 108)) 95 = .ok (.bastore, 1) from by decide +kernel
theorem k108_96 {L : Nat} {xs : Nat → Int32} : decode (am_cd (am_me (tb_P L xs) 108)) 96 = .ok (.iconst 0, 1) := show decode (am_cd (tb_me 108)) 96 = .ok (.iconst 0, 1) from by decide +kernel
theorem k108_97 {L : Nat} {xs : Nat → Int32} : decode (am_cd (am_me (tb_P L xs) 108)) 97 = .ok (.istore_n 2, 1) := show decode (am_cd (tb_me 108)) 97 = .ok (.istore_n 2, 1) from by decide +kernel
theorem k108_98 {L : Nat} {xs : Nat → Int32} : decode (am_cd (am_me (tb_P L xs) 108)) 98 = .ok (.iload_n 2, 1) := show decode (am_cd (tb_me 108)) 98 = .ok (.iload_n 2, 1) from by decide +kernel
theorem k108_99 {L : Nat} {xs : Nat → Int32} : decode (am_cd (am_me (tb_P L xs) 108)) 99 = .ok (.aload_n 0, 1) := show decode (am_cd (tb_me 108)) 99 = .ok (.aload_n 0, 1) from by decide +kernel
theorem k108_100 {L : Nat} {xs : Nat → Int32} : decode (am_cd (am_me (tb_P L xs) 108)) 100 = .ok (.getfield 85, 3) := show decode (am_cd (tb_me 108)) 100 = .ok (.getfield 85, 3) from by decide +kernel
theorem f108_100 {L : Nat} {xs : Nat → Int32} : am_fd (tb_P L xs) 108 85 = some (8, 3, (.int : FieldType), true) := show tb_fdF 108 85 = some (8, 3, (.int : FieldType), true) from by decide +kernel
theorem k108_103 {L : Nat} {xs : Nat → Int32} : decode (am_cd (am_me (tb_P L xs) 108)) 103 = .ok (.if_icmp .ge 99, 3) := show decode (am_cd (tb_me 108)) 103 = .ok (.if_icmp .ge 99, 3) from by decide +kernel
theorem k108_106 {L : Nat} {xs : Nat → Int32} : decode (am_cd (am_me (tb_P L xs) 108)) 106 = .ok (.aload_n 0, 1) := show decode (am_cd (tb_me 108)) 106 = .ok (.aload_n 0, 1) from by decide +kernel
theorem k108_107 {L : Nat} {xs : Nat → Int32} : decode (am_cd (am_me (tb_P L xs) 108)) 107 = .ok (.getfield 22, 3) := show decode (am_cd (tb_me 108)) 107 = .ok (.getfield 22, 3) from by decide +kernel
theorem f108_107 {L : Nat} {xs : Nat → Int32} : am_fd (tb_P L xs) 108 22 = some (8, 7, (.array .int : FieldType), true) := show tb_fdF 108 22 = some (8, 7, (.array .int : FieldType), true) from by decide +kernel
theorem k108_110 {L : Nat} {xs : Nat → Int32} : decode (am_cd (am_me (tb_P L xs) 108)) 110 = .ok (.bipush 24, 2) := show decode (am_cd (tb_me 108)) 110 = .ok (.bipush 24, 2) from by decide +kernel
theorem k108_112 {L : Nat} {xs : Nat → Int32} : decode (am_cd (am_me (tb_P L xs) 108)) 112 = .ok (.iload_n 1, 1) := show decode (am_cd (tb_me 108)) 112 = .ok (.iload_n 1, 1) from by decide +kernel
theorem k108_113 {L : Nat} {xs : Nat → Int32} : decode (am_cd (am_me (tb_P L xs) 108)) 113 = .ok (.imul, 1) := show decode (am_cd (tb_me 108)) 113 = .ok (.imul, 1) from by decide +kernel
theorem k108_114 {L : Nat} {xs : Nat → Int32} : decode (am_cd (am_me (tb_P L xs) 108)) 114 = .ok (.iload_n 2, 1) := show decode (am_cd (tb_me 108)) 114 = .ok (.iload_n 2, 1) from by decide +kernel
theorem k108_115 {L : Nat} {xs : Nat → Int32} : decode (am_cd (am_me (tb_P L xs) 108)) 115 = .ok (.iadd, 1) := show decode (am_cd (tb_me 108)) 115 = .ok (.iadd, 1) from by decide +kernel
theorem k108_116 {L : Nat} {xs : Nat → Int32} : decode (am_cd (am_me (tb_P L xs) 108)) 116 = .ok (.aload_n 0, 1) := show decode (am_cd (tb_me 108)) 116 = .ok (.aload_n 0, 1) from by decide +kernel
theorem k108_117 {L : Nat} {xs : Nat → Int32} : decode (am_cd (am_me (tb_P L xs) 108)) 117 = .ok (.getfield 16, 3) := show decode (am_cd (tb_me 108)) 117 = .ok (.getfield 16, 3) from by decide +kernel
theorem f108_117 {L : Nat} {xs : Nat → Int32} : am_fd (tb_P L xs) 108 16 = some (8, 4, (.array .int : FieldType), true) := show tb_fdF 108 16 = some (8, 4, (.array .int : FieldType), true) from by decide +kernel
theorem k108_120 {L : Nat} {xs : Nat → Int32} : decode (am_cd (am_me (tb_P L xs) 108)) 120 = .ok (.iload_n 2, 1) := show decode (am_cd (tb_me 108)) 120 = .ok (.iload_n 2, 1) from by decide +kernel
theorem k108_121 {L : Nat} {xs : Nat → Int32} : decode (am_cd (am_me (tb_P L xs) 108)) 121 = .ok (.iaload, 1) := show decode (am_cd (tb_me 108)) 121 = .ok (.iaload, 1) from by decide +kernel
theorem k108_122 {L : Nat} {xs : Nat → Int32} : decode (am_cd (am_me (tb_P L xs) 108)) 122 = .ok (.iastore, 1) := show decode (am_cd (tb_me 108)) 122 = .ok (.iastore, 1) from by decide +kernel
theorem k108_123 {L : Nat} {xs : Nat → Int32} : decode (am_cd (am_me (tb_P L xs) 108)) 123 = .ok (.aload_n 0, 1) := show decode (am_cd (tb_me 108)) 123 = .ok (.aload_n 0, 1) from by decide +kernel
theorem k108_124 {L : Nat} {xs : Nat → Int32} : decode (am_cd (am_me (tb_P L xs) 108)) 124 = .ok (.getfield 29, 3) := show decode (am_cd (tb_me 108)) 124 = .ok (.getfield 29, 3) from by decide +kernel
theorem f108_124 {L : Nat} {xs : Nat → Int32} : am_fd (tb_P L xs) 108 29 = some (8, 9, (.array .boolean : FieldType), true) := show tb_fdF 108 29 = some (8, 9, (.array .boolean : FieldType), true) from by decide +kernel
theorem k108_127 {L : Nat} {xs : Nat → Int32} : decode (am_cd (am_me (tb_P L xs) 108)) 127 = .ok (.iload_n 1, 1) := show decode (am_cd (tb_me 108)) 127 = .ok (.iload_n 1, 1) from by decide +kernel
theorem k108_128 {L : Nat} {xs : Nat → Int32} : decode (am_cd (am_me (tb_P L xs) 108)) 128 = .ok (.aload_n 0, 1) := show decode (am_cd (tb_me 108)) 128 = .ok (.aload_n 0, 1) from by decide +kernel
theorem k108_129 {L : Nat} {xs : Nat → Int32} : decode (am_cd (am_me (tb_P L xs) 108)) 129 = .ok (.getfield 29, 3) := show decode (am_cd (tb_me 108)) 129 = .ok (.getfield 29, 3) from by decide +kernel
theorem f108_129 {L : Nat} {xs : Nat → Int32} : am_fd (tb_P L xs) 108 29 = some (8, 9, (.array .boolean : FieldType), true) := show tb_fdF 108 29 = some (8, 9, (.array .boolean : FieldType), true) from by decide +kernel
theorem k108_132 {L : Nat} {xs : Nat → Int32} : decode (am_cd (am_me (tb_P L xs) 108)) 132 = .ok (.iload_n 1, 1) := show decode (am_cd (tb_me 108)) 132 = .ok (.iload_n 1, 1) from by decide +kernel
theorem k108_133 {L : Nat} {xs : Nat → Int32} : decode (am_cd (am_me (tb_P L xs) 108)) 133 = .ok (.baload, 1) := show decode (am_cd (tb_me 108)) 133 = .ok (.baload, 1) from by decide +kernel
theorem k108_134 {L : Nat} {xs : Nat → Int32} : decode (am_cd (am_me (tb_P L xs) 108)) 134 = .ok (.ifCond .ne 14, 3) := show decode (am_cd (tb_me 108)) 134 = .ok (.ifCond .ne 14, 3) from by decide +kernel
theorem k108_137 {L : Nat} {xs : Nat → Int32} : decode (am_cd (am_me (tb_P L xs) 108)) 137 = .ok (.aload_n 0, 1) := show decode (am_cd (tb_me 108)) 137 = .ok (.aload_n 0, 1) from by decide +kernel
theorem k108_138 {L : Nat} {xs : Nat → Int32} : decode (am_cd (am_me (tb_P L xs) 108)) 138 = .ok (.getfield 16, 3) := show decode (am_cd (tb_me 108)) 138 = .ok (.getfield 16, 3) from by decide +kernel
theorem f108_138 {L : Nat} {xs : Nat → Int32} : am_fd (tb_P L xs) 108 16 = some (8, 4, (.array .int : FieldType), true) := show tb_fdF 108 16 = some (8, 4, (.array .int : FieldType), true) from by decide +kernel
theorem k108_141 {L : Nat} {xs : Nat → Int32} : decode (am_cd (am_me (tb_P L xs) 108)) 141 = .ok (.iload_n 2, 1) := show decode (am_cd (tb_me 108)) 141 = .ok (.iload_n 2, 1) from by decide +kernel
theorem k108_142 {L : Nat} {xs : Nat → Int32} : decode (am_cd (am_me (tb_P L xs) 108)) 142 = .ok (.iaload, 1) := show decode (am_cd (tb_me 108)) 142 = .ok (.iaload, 1) from by decide +kernel
theorem k108_143 {L : Nat} {xs : Nat → Int32} : decode (am_cd (am_me (tb_P L xs) 108)) 143 = .ok (.bipush 40, 2) := show decode (am_cd (tb_me 108)) 143 = .ok (.bipush 40, 2) from by decide +kernel
theorem k108_145 {L : Nat} {xs : Nat → Int32} : decode (am_cd (am_me (tb_P L xs) 108)) 145 = .ok (.if_icmp .ne 7, 3) := show decode (am_cd (tb_me 108)) 145 = .ok (.if_icmp .ne 7, 3) from by decide +kernel
theorem k108_148 {L : Nat} {xs : Nat → Int32} : decode (am_cd (am_me (tb_P L xs) 108)) 148 = .ok (.iconst 1, 1) := show decode (am_cd (tb_me 108)) 148 = .ok (.iconst 1, 1) from by decide +kernel
theorem k108_149 {L : Nat} {xs : Nat → Int32} : decode (am_cd (am_me (tb_P L xs) 108)) 149 = .ok (.goto 4, 3) := show decode (am_cd (tb_me 108)) 149 = .ok (.goto 4, 3) from by decide +kernel
theorem k108_152 {L : Nat} {xs : Nat → Int32} : decode (am_cd (am_me (tb_P L xs) 108)) 152 = .ok (.iconst 0, 1) := show decode (am_cd (tb_me 108)) 152 = .ok (.iconst 0, 1) from by decide +kernel
theorem k108_153 {L : Nat} {xs : Nat → Int32} : decode (am_cd (am_me (tb_P L xs) 108)) 153 = .ok (.bastore, 1) := show decode (am_cd (tb_me 108)) 153 = .ok (.bastore, 1) from by decide +kernel
theorem k108_154 {L : Nat} {xs : Nat → Int32} : decode (am_cd (am_me (tb_P L xs) 108)) 154 = .ok (.aload_n 0, 1) := show decode (am_cd (tb_me 108)) 154 = .ok (.aload_n 0, 1) from by decide +kernel
theorem k108_155 {L : Nat} {xs : Nat → Int32} : decode (am_cd (am_me (tb_P L xs) 108)) 155 = .ok (.getfield 32, 3) := show decode (am_cd (tb_me 108)) 155 = .ok (.getfield 32, 3) from by decide +kernel
theorem f108_155 {L : Nat} {xs : Nat → Int32} : am_fd (tb_P L xs) 108 32 = some (8, 10, (.array .boolean : FieldType), true) := show tb_fdF 108 32 = some (8, 10, (.array .boolean : FieldType), true) from by decide +kernel
theorem k108_158 {L : Nat} {xs : Nat → Int32} : decode (am_cd (am_me (tb_P L xs) 108)) 158 = .ok (.iload_n 1, 1) := show decode (am_cd (tb_me 108)) 158 = .ok (.iload_n 1, 1) from by decide +kernel
theorem k108_159 {L : Nat} {xs : Nat → Int32} : decode (am_cd (am_me (tb_P L xs) 108)) 159 = .ok (.aload_n 0, 1) := show decode (am_cd (tb_me 108)) 159 = .ok (.aload_n 0, 1) from by decide +kernel
theorem k108_160 {L : Nat} {xs : Nat → Int32} : decode (am_cd (am_me (tb_P L xs) 108)) 160 = .ok (.getfield 32, 3) := show decode (am_cd (tb_me 108)) 160 = .ok (.getfield 32, 3) from by decide +kernel
theorem f108_160 {L : Nat} {xs : Nat → Int32} : am_fd (tb_P L xs) 108 32 = some (8, 10, (.array .boolean : FieldType), true) := show tb_fdF 108 32 = some (8, 10, (.array .boolean : FieldType), true) from by decide +kernel
theorem k108_163 {L : Nat} {xs : Nat → Int32} : decode (am_cd (am_me (tb_P L xs) 108)) 163 = .ok (.iload_n 1, 1) := show decode (am_cd (tb_me 108)) 163 = .ok (.iload_n 1, 1) from by decide +kernel
theorem k108_164 {L : Nat} {xs : Nat → Int32} : decode (am_cd (am_me (tb_P L xs) 108)) 164 = .ok (.baload, 1) := show decode (am_cd (tb_me 108)) 164 = .ok (.baload, 1) from by decide +kernel
theorem k108_165 {L : Nat} {xs : Nat → Int32} : decode (am_cd (am_me (tb_P L xs) 108)) 165 = .ok (.ifCond .ne 25, 3) := show decode (am_cd (tb_me 108)) 165 = .ok (.ifCond .ne 25, 3) from by decide +kernel
theorem k108_168 {L : Nat} {xs : Nat → Int32} : decode (am_cd (am_me (tb_P L xs) 108)) 168 = .ok (.aload_n 0, 1) := show decode (am_cd (tb_me 108)) 168 = .ok (.aload_n 0, 1) from by decide +kernel
theorem k108_169 {L : Nat} {xs : Nat → Int32} : decode (am_cd (am_me (tb_P L xs) 108)) 169 = .ok (.getfield 16, 3) := show decode (am_cd (tb_me 108)) 169 = .ok (.getfield 16, 3) from by decide +kernel
theorem f108_169 {L : Nat} {xs : Nat → Int32} : am_fd (tb_P L xs) 108 16 = some (8, 4, (.array .int : FieldType), true) := show tb_fdF 108 16 = some (8, 4, (.array .int : FieldType), true) from by decide +kernel
theorem k108_172 {L : Nat} {xs : Nat → Int32} : decode (am_cd (am_me (tb_P L xs) 108)) 172 = .ok (.iload_n 2, 1) := show decode (am_cd (tb_me 108)) 172 = .ok (.iload_n 2, 1) from by decide +kernel
theorem k108_173 {L : Nat} {xs : Nat → Int32} : decode (am_cd (am_me (tb_P L xs) 108)) 173 = .ok (.iaload, 1) := show decode (am_cd (tb_me 108)) 173 = .ok (.iaload, 1) from by decide +kernel
theorem k108_174 {L : Nat} {xs : Nat → Int32} : decode (am_cd (am_me (tb_P L xs) 108)) 174 = .ok (.bipush 22, 2) := show decode (am_cd (tb_me 108)) 174 = .ok (.bipush 22, 2) from by decide +kernel
theorem k108_176 {L : Nat} {xs : Nat → Int32} : decode (am_cd (am_me (tb_P L xs) 108)) 176 = .ok (.if_icmp .le 18, 3) := show decode (am_cd (tb_me 108)) 176 = .ok (.if_icmp .le 18, 3) from by decide +kernel
theorem k108_179 {L : Nat} {xs : Nat → Int32} : decode (am_cd (am_me (tb_P L xs) 108)) 179 = .ok (.aload_n 0, 1) := show decode (am_cd (tb_me 108)) 179 = .ok (.aload_n 0, 1) from by decide +kernel
theorem k108_180 {L : Nat} {xs : Nat → Int32} : decode (am_cd (am_me (tb_P L xs) 108)) 180 = .ok (.getfield 16, 3) := show decode (am_cd (tb_me 108)) 180 = .ok (.getfield 16, 3) from by decide +kernel
theorem f108_180 {L : Nat} {xs : Nat → Int32} : am_fd (tb_P L xs) 108 16 = some (8, 4, (.array .int : FieldType), true) := show tb_fdF 108 16 = some (8, 4, (.array .int : FieldType), true) from by decide +kernel
theorem k108_183 {L : Nat} {xs : Nat → Int32} : decode (am_cd (am_me (tb_P L xs) 108)) 183 = .ok (.iload_n 2, 1) := show decode (am_cd (tb_me 108)) 183 = .ok (.iload_n 2, 1) from by decide +kernel
theorem k108_184 {L : Nat} {xs : Nat → Int32} : decode (am_cd (am_me (tb_P L xs) 108)) 184 = .ok (.iaload, 1) := show decode (am_cd (tb_me 108)) 184 = .ok (.iaload, 1) from by decide +kernel
theorem k108_185 {L : Nat} {xs : Nat → Int32} : decode (am_cd (am_me (tb_P L xs) 108)) 185 = .ok (.bipush 26, 2) := show decode (am_cd (tb_me 108)) 185 = .ok (.bipush 26, 2) from by decide +kernel
theorem k108_187 {L : Nat} {xs : Nat → Int32} : decode (am_cd (am_me (tb_P L xs) 108)) 187 = .ok (.if_icmp .ge 7, 3) := show decode (am_cd (tb_me 108)) 187 = .ok (.if_icmp .ge 7, 3) from by decide +kernel
theorem k108_190 {L : Nat} {xs : Nat → Int32} : decode (am_cd (am_me (tb_P L xs) 108)) 190 = .ok (.iconst 1, 1) := show decode (am_cd (tb_me 108)) 190 = .ok (.iconst 1, 1) from by decide +kernel
theorem k108_191 {L : Nat} {xs : Nat → Int32} : decode (am_cd (am_me (tb_P L xs) 108)) 191 = .ok (.goto 4, 3) := show decode (am_cd (tb_me 108)) 191 = .ok (.goto 4, 3) from by decide +kernel
theorem k108_194 {L : Nat} {xs : Nat → Int32} : decode (am_cd (am_me (tb_P L xs) 108)) 194 = .ok (.iconst 0, 1) := show decode (am_cd (tb_me 108)) 194 = .ok (.iconst 0, 1) from by decide +kernel
theorem k108_195 {L : Nat} {xs : Nat → Int32} : decode (am_cd (am_me (tb_P L xs) 108)) 195 = .ok (.bastore, 1) := show decode (am_cd (tb_me 108)) 195 = .ok (.bastore, 1) from by decide +kernel
theorem k108_196 {L : Nat} {xs : Nat → Int32} : decode (am_cd (am_me (tb_P L xs) 108)) 196 = .ok (.iinc 2 1, 3) := show decode (am_cd (tb_me 108)) 196 = .ok (.iinc 2 1, 3) from by decide +kernel
theorem k108_199 {L : Nat} {xs : Nat → Int32} : decode (am_cd (am_me (tb_P L xs) 108)) 199 = .ok (.goto (-101), 3) := show decode (am_cd (tb_me 108)) 199 = .ok (.goto (-101), 3) from by decide +kernel
theorem k108_202 {L : Nat} {xs : Nat → Int32} : decode (am_cd (am_me (tb_P L xs) 108)) 202 = .ok (.aload_n 0, 1) := show decode (am_cd (tb_me 108)) 202 = .ok (.aload_n 0, 1) from by decide +kernel
theorem k108_203 {L : Nat} {xs : Nat → Int32} : decode (am_cd (am_me (tb_P L xs) 108)) 203 = .ok (.dup, 1) := show decode (am_cd (tb_me 108)) 203 = .ok (.dup, 1) from by decide +kernel
theorem k108_204 {L : Nat} {xs : Nat → Int32} : decode (am_cd (am_me (tb_P L xs) 108)) 204 = .ok (.getfield 106, 3) := show decode (am_cd (tb_me 108)) 204 = .ok (.getfield 106, 3) from by decide +kernel
theorem f108_204 {L : Nat} {xs : Nat → Int32} : am_fd (tb_P L xs) 108 106 = some (8, 5, (.int : FieldType), true) := show tb_fdF 108 106 = some (8, 5, (.int : FieldType), true) from by decide +kernel
theorem k108_207 {L : Nat} {xs : Nat → Int32} : decode (am_cd (am_me (tb_P L xs) 108)) 207 = .ok (.iconst 1, 1) := show decode (am_cd (tb_me 108)) 207 = .ok (.iconst 1, 1) from by decide +kernel
theorem k108_208 {L : Nat} {xs : Nat → Int32} : decode (am_cd (am_me (tb_P L xs) 108)) 208 = .ok (.iadd, 1) := show decode (am_cd (tb_me 108)) 208 = .ok (.iadd, 1) from by decide +kernel
theorem k108_209 {L : Nat} {xs : Nat → Int32} : decode (am_cd (am_me (tb_P L xs) 108)) 209 = .ok (.putfield 106, 3) := show decode (am_cd (tb_me 108)) 209 = .ok (.putfield 106, 3) from by decide +kernel
theorem f108_209 {L : Nat} {xs : Nat → Int32} : am_fd (tb_P L xs) 108 106 = some (8, 5, (.int : FieldType), true) := show tb_fdF 108 106 = some (8, 5, (.int : FieldType), true) from by decide +kernel
theorem k108_212 {L : Nat} {xs : Nat → Int32} : decode (am_cd (am_me (tb_P L xs) 108)) 212 = .ok (.aload_n 0, 1) := show decode (am_cd (tb_me 108)) 212 = .ok (.aload_n 0, 1) from by decide +kernel
theorem k108_213 {L : Nat} {xs : Nat → Int32} : decode (am_cd (am_me (tb_P L xs) 108)) 213 = .ok (.iconst 0, 1) := show decode (am_cd (tb_me 108)) 213 = .ok (.iconst 0, 1) from by decide +kernel
theorem k108_214 {L : Nat} {xs : Nat → Int32} : decode (am_cd (am_me (tb_P L xs) 108)) 214 = .ok (.putfield 85, 3) := show decode (am_cd (tb_me 108)) 214 = .ok (.putfield 85, 3) from by decide +kernel
theorem f108_214 {L : Nat} {xs : Nat → Int32} : am_fd (tb_P L xs) 108 85 = some (8, 3, (.int : FieldType), true) := show tb_fdF 108 85 = some (8, 3, (.int : FieldType), true) from by decide +kernel
theorem k108_217 {L : Nat} {xs : Nat → Int32} : decode (am_cd (am_me (tb_P L xs) 108)) 217 = .ok (.iload_n 1, 1) := show decode (am_cd (tb_me 108)) 217 = .ok (.iload_n 1, 1) from by decide +kernel
theorem k108_218 {L : Nat} {xs : Nat → Int32} : decode (am_cd (am_me (tb_P L xs) 108)) 218 = .ok (.ireturn, 1) := show decode (am_cd (tb_me 108)) 218 = .ok (.ireturn, 1) from by decide +kernel
theorem t108 {L : Nat} {xs : Nat → Int32} : am_rt (am_me (tb_P L xs) 108) = some (.int : FieldType) := show am_rt (tb_me 108) = some (.int : FieldType) from by decide +kernel
theorem l108 {L : Nat} {xs : Nat → Int32} : am_ml (am_me (tb_P L xs) 108) = 3 := show am_ml (tb_me 108) = 3 from by decide +kernel
theorem o108 {L : Nat} {xs : Nat → Int32} (pc : Nat) : am_no (tb_P L xs) 108 pc = true := show (am_hd (tb_me 108)).all (fun q => !(decide (q.1 ≤ pc) && decide (pc < q.2.1))) = true from by rw [show am_hd (tb_me 108) = [] by decide +kernel]; rfl
theorem k109_0 {L : Nat} {xs : Nat → Int32} : decode (am_cd (am_me (tb_P L xs) 109)) 0 = .ok (.aload_n 0, 1) := show decode (am_cd (tb_me 109)) 0 = .ok (.aload_n 0, 1) from by decide +kernel
theorem k109_1 {L : Nat} {xs : Nat → Int32} : decode (am_cd (am_me (tb_P L xs) 109)) 1 = .ok (.iconst 0, 1) := show decode (am_cd (tb_me 109)) 1 = .ok (.iconst 0, 1) from by decide +kernel
theorem k109_2 {L : Nat} {xs : Nat → Int32} : decode (am_cd (am_me (tb_P L xs) 109)) 2 = .ok (.putfield 88, 3) := show decode (am_cd (tb_me 109)) 2 = .ok (.putfield 88, 3) from by decide +kernel
theorem f109_2 {L : Nat} {xs : Nat → Int32} : am_fd (tb_P L xs) 109 88 = some (8, 29, (.int : FieldType), true) := show tb_fdF 109 88 = some (8, 29, (.int : FieldType), true) from by decide +kernel
theorem k109_5 {L : Nat} {xs : Nat → Int32} : decode (am_cd (am_me (tb_P L xs) 109)) 5 = .ok (.aload_n 0, 1) := show decode (am_cd (tb_me 109)) 5 = .ok (.aload_n 0, 1) from by decide +kernel
theorem k109_6 {L : Nat} {xs : Nat → Int32} : decode (am_cd (am_me (tb_P L xs) 109)) 6 = .ok (.getfield 85, 3) := show decode (am_cd (tb_me 109)) 6 = .ok (.getfield 85, 3) from by decide +kernel
theorem f109_6 {L : Nat} {xs : Nat → Int32} : am_fd (tb_P L xs) 109 85 = some (8, 3, (.int : FieldType), true) := show tb_fdF 109 85 = some (8, 3, (.int : FieldType), true) from by decide +kernel
theorem k109_9 {L : Nat} {xs : Nat → Int32} : decode (am_cd (am_me (tb_P L xs) 109)) 9 = .ok (.iconst 1, 1) := show decode (am_cd (tb_me 109)) 9 = .ok (.iconst 1, 1) from by decide +kernel
theorem k109_10 {L : Nat} {xs : Nat → Int32} : decode (am_cd (am_me (tb_P L xs) 109)) 10 = .ok (.isub, 1) := show decode (am_cd (tb_me 109)) 10 = .ok (.isub, 1) from by decide +kernel
theorem k109_11 {L : Nat} {xs : Nat → Int32} : decode (am_cd (am_me (tb_P L xs) 109)) 11 = .ok (.istore_n 1, 1) := show decode (am_cd (tb_me 109)) 11 = .ok (.istore_n 1, 1) from by decide +kernel
theorem k109_12 {L : Nat} {xs : Nat → Int32} : decode (am_cd (am_me (tb_P L xs) 109)) 12 = .ok (.iload_n 1, 1) := show decode (am_cd (tb_me 109)) 12 = .ok (.iload_n 1, 1) from by decide +kernel
theorem k109_13 {L : Nat} {xs : Nat → Int32} : decode (am_cd (am_me (tb_P L xs) 109)) 13 = .ok (.ifCond .lt 118, 3) := show decode (am_cd (tb_me 109)) 13 = .ok (.ifCond .lt 118, 3) from by decide +kernel
theorem k109_16 {L : Nat} {xs : Nat → Int32} : decode (am_cd (am_me (tb_P L xs) 109)) 16 = .ok (.aload_n 0, 1) := show decode (am_cd (tb_me 109)) 16 = .ok (.aload_n 0, 1) from by decide +kernel
theorem k109_17 {L : Nat} {xs : Nat → Int32} : decode (am_cd (am_me (tb_P L xs) 109)) 17 = .ok (.getfield 16, 3) := show decode (am_cd (tb_me 109)) 17 = .ok (.getfield 16, 3) from by decide +kernel
theorem f109_17 {L : Nat} {xs : Nat → Int32} : am_fd (tb_P L xs) 109 16 = some (8, 4, (.array .int : FieldType), true) := show tb_fdF 109 16 = some (8, 4, (.array .int : FieldType), true) from by decide +kernel
theorem k109_20 {L : Nat} {xs : Nat → Int32} : decode (am_cd (am_me (tb_P L xs) 109)) 20 = .ok (.iload_n 1, 1) := show decode (am_cd (tb_me 109)) 20 = .ok (.iload_n 1, 1) from by decide +kernel
theorem k109_21 {L : Nat} {xs : Nat → Int32} : decode (am_cd (am_me (tb_P L xs) 109)) 21 = .ok (.iaload, 1) := show decode (am_cd (tb_me 109)) 21 = .ok (.iaload, 1) from by decide +kernel
theorem k109_22 {L : Nat} {xs : Nat → Int32} : decode (am_cd (am_me (tb_P L xs) 109)) 22 = .ok (.istore_n 2, 1) := show decode (am_cd (tb_me 109)) 22 = .ok (.istore_n 2, 1) from by decide +kernel
theorem k109_23 {L : Nat} {xs : Nat → Int32} : decode (am_cd (am_me (tb_P L xs) 109)) 23 = .ok (.aload_n 0, 1) := show decode (am_cd (tb_me 109)) 23 = .ok (.aload_n 0, 1) from by decide +kernel
theorem k109_24 {L : Nat} {xs : Nat → Int32} : decode (am_cd (am_me (tb_P L xs) 109)) 24 = .ok (.getfield 88, 3) := show decode (am_cd (tb_me 109)) 24 = .ok (.getfield 88, 3) from by decide +kernel
theorem f109_24 {L : Nat} {xs : Nat → Int32} : am_fd (tb_P L xs) 109 88 = some (8, 29, (.int : FieldType), true) := show tb_fdF 109 88 = some (8, 29, (.int : FieldType), true) from by decide +kernel
theorem k109_27 {L : Nat} {xs : Nat → Int32} : decode (am_cd (am_me (tb_P L xs) 109)) 27 = .ok (.aload_n 0, 1) := show decode (am_cd (tb_me 109)) 27 = .ok (.aload_n 0, 1) from by decide +kernel
theorem k109_28 {L : Nat} {xs : Nat → Int32} : decode (am_cd (am_me (tb_P L xs) 109)) 28 = .ok (.iload_n 2, 1) := show decode (am_cd (tb_me 109)) 28 = .ok (.iload_n 2, 1) from by decide +kernel
theorem k109_29 {L : Nat} {xs : Nat → Int32} : decode (am_cd (am_me (tb_P L xs) 109)) 29 = .ok (.invokevirtual 91, 3) := show decode (am_cd (tb_me 109)) 29 = .ok (.invokevirtual 91, 3) from by decide +kernel
theorem s109_29 {L : Nat} {xs : Nat → Int32} : am_sp (tb_P L xs) 109 91 = none := show tb_spF 109 91 = none from by decide +kernel
theorem c109_29 {L : Nat} {xs : Nat → Int32} : am_ca (tb_P L xs) 109 91 = some (110, 1, 1) := show tb_caF 109 91 = some (110, 1, 1) from by decide +kernel
theorem r109_29 {L : Nat} {xs : Nat → Int32} : am_rf (am_me (tb_P L xs) 110) + 1 ≤ am_rf (am_me (tb_P L xs) 109) ∧ 1 + (am_ml (am_me (tb_P L xs) 110) + 11) + am_rl (am_me (tb_P L xs) 110) ≤ am_rl (am_me (tb_P L xs) 109) := show am_rf (tb_me 110) + 1 ≤ am_rf (tb_me 109) ∧ 1 + (am_ml (tb_me 110) + 11) + am_rl (tb_me 110) ≤ am_rl (tb_me 109) from by decide +kernel
theorem k109_32 {L : Nat} {xs : Nat → Int32} : decode (am_cd (am_me (tb_P L xs) 109)) 32 = .ok (.if_icmp .ge 5, 3) := show decode (am_cd (tb_me 109)) 32 = .ok (.if_icmp .ge 5, 3) from by decide +kernel
theorem k109_35 {L : Nat} {xs : Nat → Int32} : decode (am_cd (am_me (tb_P L xs) 109)) 35 = .ok (.iconst 0, 1) := show decode (am_cd (tb_me 109)) 35 = .ok (.iconst 0, 1) from by decide +kernel
theorem k109_36 {L : Nat} {xs : Nat → Int32} : decode (am_cd (am_me (tb_P L xs) 109)) 36 = .ok (.ireturn, 1) := show decode (am_cd (tb_me 109)) 36 = .ok (.ireturn, 1) from by decide +kernel
theorem k109_37 {L : Nat} {xs : Nat → Int32} : decode (am_cd (am_me (tb_P L xs) 109)) 37 = .ok (.iconst 0, 1) := show decode (am_cd (tb_me 109)) 37 = .ok (.iconst 0, 1) from by decide +kernel
theorem k109_38 {L : Nat} {xs : Nat → Int32} : decode (am_cd (am_me (tb_P L xs) 109)) 38 = .ok (.istore_n 3, 1) := show decode (am_cd (tb_me 109)) 38 = .ok (.istore_n 3, 1) from by decide +kernel
theorem k109_39 {L : Nat} {xs : Nat → Int32} : decode (am_cd (am_me (tb_P L xs) 109)) 39 = .ok (.iload_n 3, 1) := show decode (am_cd (tb_me 109)) 39 = .ok (.iload_n 3, 1) from by decide +kernel
theorem k109_40 {L : Nat} {xs : Nat → Int32} : decode (am_cd (am_me (tb_P L xs) 109)) 40 = .ok (.aload_n 0, 1) := show decode (am_cd (tb_me 109)) 40 = .ok (.aload_n 0, 1) from by decide +kernel
theorem k109_41 {L : Nat} {xs : Nat → Int32} : decode (am_cd (am_me (tb_P L xs) 109)) 41 = .ok (.iload_n 2, 1) := show decode (am_cd (tb_me 109)) 41 = .ok (.iload_n 2, 1) from by decide +kernel
theorem k109_42 {L : Nat} {xs : Nat → Int32} : decode (am_cd (am_me (tb_P L xs) 109)) 42 = .ok (.invokevirtual 91, 3) := show decode (am_cd (tb_me 109)) 42 = .ok (.invokevirtual 91, 3) from by decide +kernel
theorem s109_42 {L : Nat} {xs : Nat → Int32} : am_sp (tb_P L xs) 109 91 = none := show tb_spF 109 91 = none from by decide +kernel
theorem c109_42 {L : Nat} {xs : Nat → Int32} : am_ca (tb_P L xs) 109 91 = some (110, 1, 1) := show tb_caF 109 91 = some (110, 1, 1) from by decide +kernel
theorem r109_42 {L : Nat} {xs : Nat → Int32} : am_rf (am_me (tb_P L xs) 110) + 1 ≤ am_rf (am_me (tb_P L xs) 109) ∧ 1 + (am_ml (am_me (tb_P L xs) 110) + 11) + am_rl (am_me (tb_P L xs) 110) ≤ am_rl (am_me (tb_P L xs) 109) := show am_rf (tb_me 110) + 1 ≤ am_rf (tb_me 109) ∧ 1 + (am_ml (tb_me 110) + 11) + am_rl (tb_me 110) ≤ am_rl (tb_me 109) from by decide +kernel
theorem k109_45 {L : Nat} {xs : Nat → Int32} : decode (am_cd (am_me (tb_P L xs) 109)) 45 = .ok (.if_icmp .ge 48, 3) := show decode (am_cd (tb_me 109)) 45 = .ok (.if_icmp .ge 48, 3) from by decide +kernel
theorem k109_48 {L : Nat} {xs : Nat → Int32} : decode (am_cd (am_me (tb_P L xs) 109)) 48 = .ok (.aload_n 0, 1) := show decode (am_cd (tb_me 109)) 48 = .ok (.aload_n 0, 1) from by decide +kernel
theorem k109_49 {L : Nat} {xs : Nat → Int32} : decode (am_cd (am_me (tb_P L xs) 109)) 49 = .ok (.dup, 1) := show decode (am_cd (tb_me 109)) 49 = .ok (.dup, 1) from by decide +kernel
theorem k109_50 {L : Nat} {xs : Nat → Int32} : decode (am_cd (am_me (tb_P L xs) 109)) 50 = .ok (.getfield 88, 3) := show decode (am_cd (tb_me 109)) 50 = .ok (.getfield 88, 3) from by decide +kernel
theorem f109_50 {L : Nat} {xs : Nat → Int32} : am_fd (tb_P L xs) 109 88 = some (8, 29, (.int : FieldType), true) := show tb_fdF 109 88 = some (8, 29, (.int : FieldType), true) from by decide +kernel
theorem k109_53 {L : Nat} {xs : Nat → Int32} : decode (am_cd (am_me (tb_P L xs) 109)) 53 = .ok (.iconst 1, 1) := show decode (am_cd (tb_me 109)) 53 = .ok (.iconst 1, 1) from by decide +kernel
theorem k109_54 {L : Nat} {xs : Nat → Int32} : decode (am_cd (am_me (tb_P L xs) 109)) 54 = .ok (.isub, 1) := show decode (am_cd (tb_me 109)) 54 = .ok (.isub, 1) from by decide +kernel
theorem k109_55 {L : Nat} {xs : Nat → Int32} : decode (am_cd (am_me (tb_P L xs) 109)) 55 = .ok (.putfield 88, 3) := show decode (am_cd (tb_me 109)) 55 = .ok (.putfield 88, 3) from by decide +kernel
theorem f109_55 {L : Nat} {xs : Nat → Int32} : am_fd (tb_P L xs) 109 88 = some (8, 29, (.int : FieldType), true) := show tb_fdF 109 88 = some (8, 29, (.int : FieldType), true) from by decide +kernel
theorem k109_58 {L : Nat} {xs : Nat → Int32} : decode (am_cd (am_me (tb_P L xs) 109)) 58 = .ok (.aload_n 0, 1) := show decode (am_cd (tb_me 109)) 58 = .ok (.aload_n 0, 1) from by decide +kernel
theorem k109_59 {L : Nat} {xs : Nat → Int32} : decode (am_cd (am_me (tb_P L xs) 109)) 59 = .ok (.getfield 75, 3) := show decode (am_cd (tb_me 109)) 59 = .ok (.getfield 75, 3) from by decide +kernel
theorem f109_59 {L : Nat} {xs : Nat → Int32} : am_fd (tb_P L xs) 109 75 = some (8, 30, (.array .int : FieldType), true) := show tb_fdF 109 75 = some (8, 30, (.array .int : FieldType), true) from by decide +kernel
theorem k109_62 {L : Nat} {xs : Nat → Int32} : decode (am_cd (am_me (tb_P L xs) 109)) 62 = .ok (.aload_n 0, 1) := show decode (am_cd (tb_me 109)) 62 = .ok (.aload_n 0, 1) from by decide +kernel
theorem k109_63 {L : Nat} {xs : Nat → Int32} : decode (am_cd (am_me (tb_P L xs) 109)) 63 = .ok (.getfield 88, 3) := show decode (am_cd (tb_me 109)) 63 = .ok (.getfield 88, 3) from by decide +kernel
theorem f109_63 {L : Nat} {xs : Nat → Int32} : am_fd (tb_P L xs) 109 88 = some (8, 29, (.int : FieldType), true) := show tb_fdF 109 88 = some (8, 29, (.int : FieldType), true) from by decide +kernel
theorem k109_66 {L : Nat} {xs : Nat → Int32} : decode (am_cd (am_me (tb_P L xs) 109)) 66 = .ok (.iaload, 1) := show decode (am_cd (tb_me 109)) 66 = .ok (.iaload, 1) from by decide +kernel
theorem k109_67 {L : Nat} {xs : Nat → Int32} : decode (am_cd (am_me (tb_P L xs) 109)) 67 = .ok (.iconst 1, 1) := show decode (am_cd (tb_me 109)) 67 = .ok (.iconst 1, 1) from by decide +kernel
theorem k109_68 {L : Nat} {xs : Nat → Int32} : decode (am_cd (am_me (tb_P L xs) 109)) 68 = .ok (.if_icmp .ne 7, 3) := show decode (am_cd (tb_me 109)) 68 = .ok (.if_icmp .ne 7, 3) from by decide +kernel
theorem k109_71 {L : Nat} {xs : Nat → Int32} : decode (am_cd (am_me (tb_P L xs) 109)) 71 = .ok (.iconst 1, 1) := show decode (am_cd (tb_me 109)) 71 = .ok (.iconst 1, 1) from by decide +kernel
theorem k109_72 {L : Nat} {xs : Nat → Int32} : decode (am_cd (am_me (tb_P L xs) 109)) 72 = .ok (.goto 4, 3) := show decode (am_cd (tb_me 109)) 72 = .ok (.goto 4, 3) from by decide +kernel
theorem k109_75 {L : Nat} {xs : Nat → Int32} : decode (am_cd (am_me (tb_P L xs) 109)) 75 = .ok (.iconst 0, 1) := show decode (am_cd (tb_me 109)) 75 = .ok (.iconst 0, 1) from by decide +kernel
theorem k109_76 {L : Nat} {xs : Nat → Int32} : decode (am_cd (am_me (tb_P L xs) 109)) 76 = .ok (.aload_n 0, 1) := show decode (am_cd (tb_me 109)) 76 = .ok (.aload_n 0, 1) from by decide +kernel
theorem k109_77 {L : Nat} {xs : Nat → Int32} : decode (am_cd (am_me (tb_P L xs) 109)) 77 = .ok (.iload_n 2, 1) := show decode (am_cd (tb_me 109)) 77 = .ok (.iload_n 2, 1) from by decide +kernel
theorem k109_78 {L : Nat} {xs : Nat → Int32} : decode (am_cd (am_me (tb_P L xs) 109)) 78 = .ok (.iload_n 3, 1) := show decode (am_cd (tb_me 109)) 78 = .ok (.iload_n 3, 1) from by decide +kernel
theorem k109_79 {L : Nat} {xs : Nat → Int32} : decode (am_cd (am_me (tb_P L xs) 109)) 79 = .ok (.invokevirtual 95, 3) := show decode (am_cd (tb_me 109)) 79 = .ok (.invokevirtual 95, 3) from by decide +kernel
theorem s109_79 {L : Nat} {xs : Nat → Int32} : am_sp (tb_P L xs) 109 95 = none := show tb_spF 109 95 = none from by decide +kernel
theorem c109_79 {L : Nat} {xs : Nat → Int32} : am_ca (tb_P L xs) 109 95 = some (111, 2, 1) := show tb_caF 109 95 = some (111, 2, 1) from by decide +kernel
theorem r109_79 {L : Nat} {xs : Nat → Int32} : am_rf (am_me (tb_P L xs) 111) + 1 ≤ am_rf (am_me (tb_P L xs) 109) ∧ 1 + (am_ml (am_me (tb_P L xs) 111) + 11) + am_rl (am_me (tb_P L xs) 111) ≤ am_rl (am_me (tb_P L xs) 109) := show am_rf (tb_me 111) + 1 ≤ am_rf (tb_me 109) ∧ 1 + (am_ml (tb_me 111) + 11) + am_rl (tb_me 111) ≤ am_rl (tb_me 109) from by decide +kernel
theorem k109_82 {L : Nat} {xs : Nat → Int32} : decode (am_cd (am_me (tb_P L xs) 109)) 82 = .ok (.if_icmp .eq 5, 3) := show decode (am_cd (tb_me 109)) 82 = .ok (.if_icmp .eq 5, 3) from by decide +kernel
theorem k109_85 {L : Nat} {xs : Nat → Int32} : decode (am_cd (am_me (tb_P L xs) 109)) 85 = .ok (.iconst 0, 1) := show decode (am_cd (tb_me 109)) 85 = .ok (.iconst 0, 1) from by decide +kernel
theorem k109_86 {L : Nat} {xs : Nat → Int32} : decode (am_cd (am_me (tb_P L xs) 109)) 86 = .ok (.ireturn, 1) := show decode (am_cd (tb_me 109)) 86 = .ok (.ireturn, 1) from by decide +kernel
theorem k109_87 {L : Nat} {xs : Nat → Int32} : decode (am_cd (am_me (tb_P L xs) 109)) 87 = .ok (.iinc 3 1, 3) := show decode (am_cd (tb_me 109)) 87 = .ok (.iinc 3 1, 3) from by decide +kernel
theorem k109_90 {L : Nat} {xs : Nat → Int32} : decode (am_cd (am_me (tb_P L xs) 109)) 90 = .ok (.goto (-51), 3) := show decode (am_cd (tb_me 109)) 90 = .ok (.goto (-51), 3) from by decide +kernel
theorem k109_93 {L : Nat} {xs : Nat → Int32} : decode (am_cd (am_me (tb_P L xs) 109)) 93 = .ok (.aload_n 0, 1) := show decode (am_cd (tb_me 109)) 93 = .ok (.aload_n 0, 1) from by decide +kernel
theorem k109_94 {L : Nat} {xs : Nat → Int32} : decode (am_cd (am_me (tb_P L xs) 109)) 94 = .ok (.getfield 75, 3) := show decode (am_cd (tb_me 109)) 94 = .ok (.getfield 75, 3) from by decide +kernel
theorem f109_94 {L : Nat} {xs : Nat → Int32} : am_fd (tb_P L xs) 109 75 = some (8, 30, (.array .int : FieldType), true) := show tb_fdF 109 75 = some (8, 30, (.array .int : FieldType), true) from by decide +kernel
theorem k109_97 {L : Nat} {xs : Nat → Int32} : decode (am_cd (am_me (tb_P L xs) 109)) 97 = .ok (.aload_n 0, 1) := show decode (am_cd (tb_me 109)) 97 = .ok (.aload_n 0, 1) from by decide +kernel
theorem k109_98 {L : Nat} {xs : Nat → Int32} : decode (am_cd (am_me (tb_P L xs) 109)) 98 = .ok (.getfield 88, 3) := show decode (am_cd (tb_me 109)) 98 = .ok (.getfield 88, 3) from by decide +kernel
theorem f109_98 {L : Nat} {xs : Nat → Int32} : am_fd (tb_P L xs) 109 88 = some (8, 29, (.int : FieldType), true) := show tb_fdF 109 88 = some (8, 29, (.int : FieldType), true) from by decide +kernel
theorem k109_101 {L : Nat} {xs : Nat → Int32} : decode (am_cd (am_me (tb_P L xs) 109)) 101 = .ok (.aload_n 0, 1) := show decode (am_cd (tb_me 109)) 101 = .ok (.aload_n 0, 1) from by decide +kernel
theorem k109_102 {L : Nat} {xs : Nat → Int32} : decode (am_cd (am_me (tb_P L xs) 109)) 102 = .ok (.iload_n 2, 1) := show decode (am_cd (tb_me 109)) 102 = .ok (.iload_n 2, 1) from by decide +kernel
theorem k109_103 {L : Nat} {xs : Nat → Int32} : decode (am_cd (am_me (tb_P L xs) 109)) 103 = .ok (.invokevirtual 99, 3) := show decode (am_cd (tb_me 109)) 103 = .ok (.invokevirtual 99, 3) from by decide +kernel
theorem s109_103 {L : Nat} {xs : Nat → Int32} : am_sp (tb_P L xs) 109 99 = none := show tb_spF 109 99 = none from by decide +kernel
theorem c109_103 {L : Nat} {xs : Nat → Int32} : am_ca (tb_P L xs) 109 99 = some (112, 1, 1) := show tb_caF 109 99 = some (112, 1, 1) from by decide +kernel
theorem r109_103 {L : Nat} {xs : Nat → Int32} : am_rf (am_me (tb_P L xs) 112) + 1 ≤ am_rf (am_me (tb_P L xs) 109) ∧ 2 + (am_ml (am_me (tb_P L xs) 112) + 11) + am_rl (am_me (tb_P L xs) 112) ≤ am_rl (am_me (tb_P L xs) 109) := show am_rf (tb_me 112) + 1 ≤ am_rf (tb_me 109) ∧ 2 + (am_ml (tb_me 112) + 11) + am_rl (tb_me 112) ≤ am_rl (tb_me 109) from by decide +kernel
theorem k109_106 {L : Nat} {xs : Nat → Int32} : decode (am_cd (am_me (tb_P L xs) 109)) 106 = .ok (.ifCond .eq 7, 3) := show decode (am_cd (tb_me 109)) 106 = .ok (.ifCond .eq 7, 3) from by decide +kernel
theorem k109_109 {L : Nat} {xs : Nat → Int32} : decode (am_cd (am_me (tb_P L xs) 109)) 109 = .ok (.iconst 1, 1) := show decode (am_cd (tb_me 109)) 109 = .ok (.iconst 1, 1) from by decide +kernel
theorem k109_110 {L : Nat} {xs : Nat → Int32} : decode (am_cd (am_me (tb_P L xs) 109)) 110 = .ok (.goto 4, 3) := show decode (am_cd (tb_me 109)) 110 = .ok (.goto 4, 3) from by decide +kernel
theorem k109_113 {L : Nat} {xs : Nat → Int32} : decode (am_cd (am_me (tb_P L xs) 109)) 113 = .ok (.iconst 0, 1) := show decode (am_cd (tb_me 109)) 113 = .ok (.iconst 0, 1) from by decide +kernel
theorem k109_114 {L : Nat} {xs : Nat → Int32} : decode (am_cd (am_me (tb_P L xs) 109)) 114 = .ok (.iastore, 1) := show decode (am_cd (tb_me 109)) 114 = .ok (.iastore, 1) from by decide +kernel
theorem k109_115 {L : Nat} {xs : Nat → Int32} : decode (am_cd (am_me (tb_P L xs) 109)) 115 = .ok (.aload_n 0, 1) := show decode (am_cd (tb_me 109)) 115 = .ok (.aload_n 0, 1) from by decide +kernel
theorem k109_116 {L : Nat} {xs : Nat → Int32} : decode (am_cd (am_me (tb_P L xs) 109)) 116 = .ok (.dup, 1) := show decode (am_cd (tb_me 109)) 116 = .ok (.dup, 1) from by decide +kernel
theorem k109_117 {L : Nat} {xs : Nat → Int32} : decode (am_cd (am_me (tb_P L xs) 109)) 117 = .ok (.getfield 88, 3) := show decode (am_cd (tb_me 109)) 117 = .ok (.getfield 88, 3) from by decide +kernel
theorem f109_117 {L : Nat} {xs : Nat → Int32} : am_fd (tb_P L xs) 109 88 = some (8, 29, (.int : FieldType), true) := show tb_fdF 109 88 = some (8, 29, (.int : FieldType), true) from by decide +kernel
theorem k109_120 {L : Nat} {xs : Nat → Int32} : decode (am_cd (am_me (tb_P L xs) 109)) 120 = .ok (.iconst 1, 1) := show decode (am_cd (tb_me 109)) 120 = .ok (.iconst 1, 1) from by decide +kernel
theorem k109_121 {L : Nat} {xs : Nat → Int32} : decode (am_cd (am_me (tb_P L xs) 109)) 121 = .ok (.iadd, 1) := show decode (am_cd (tb_me 109)) 121 = .ok (.iadd, 1) from by decide +kernel
theorem k109_122 {L : Nat} {xs : Nat → Int32} : decode (am_cd (am_me (tb_P L xs) 109)) 122 = .ok (.putfield 88, 3) := show decode (am_cd (tb_me 109)) 122 = .ok (.putfield 88, 3) from by decide +kernel
theorem f109_122 {L : Nat} {xs : Nat → Int32} : am_fd (tb_P L xs) 109 88 = some (8, 29, (.int : FieldType), true) := show tb_fdF 109 88 = some (8, 29, (.int : FieldType), true) from by decide +kernel
theorem k109_125 {L : Nat} {xs : Nat → Int32} : decode (am_cd (am_me (tb_P L xs) 109)) 125 = .ok (.iinc 1 (-1), 3) := show decode (am_cd (tb_me 109)) 125 = .ok (.iinc 1 (-1), 3) from by decide +kernel
theorem k109_128 {L : Nat} {xs : Nat → Int32} : decode (am_cd (am_me (tb_P L xs) 109)) 128 = .ok (.goto (-116), 3) := show decode (am_cd (tb_me 109)) 128 = .ok (.goto (-116), 3) from by decide +kernel
theorem k109_131 {L : Nat} {xs : Nat → Int32} : decode (am_cd (am_me (tb_P L xs) 109)) 131 = .ok (.aload_n 0, 1) := show decode (am_cd (tb_me 109)) 131 = .ok (.aload_n 0, 1) from by decide +kernel
theorem k109_132 {L : Nat} {xs : Nat → Int32} : decode (am_cd (am_me (tb_P L xs) 109)) 132 = .ok (.getfield 88, 3) := show decode (am_cd (tb_me 109)) 132 = .ok (.getfield 88, 3) from by decide +kernel
theorem f109_132 {L : Nat} {xs : Nat → Int32} : am_fd (tb_P L xs) 109 88 = some (8, 29, (.int : FieldType), true) := show tb_fdF 109 88 = some (8, 29, (.int : FieldType), true) from by decide +kernel
theorem k109_135 {L : Nat} {xs : Nat → Int32} : decode (am_cd (am_me (tb_P L xs) 109)) 135 = .ok (.iconst 1, 1) := show decode (am_cd (tb_me 109)) 135 = .ok (.iconst 1, 1) from by decide +kernel
theorem k109_136 {L : Nat} {xs : Nat → Int32} : decode (am_cd (am_me (tb_P L xs) 109)) 136 = .ok (.if_icmp .ne 7, 3) := show decode (am_cd (tb_me 109)) 136 = .ok (.if_icmp .ne 7, 3) from by decide +kernel
theorem k109_139 {L : Nat} {xs : Nat → Int32} : decode (am_cd (am_me (tb_P L xs) 109)) 139 = .ok (.iconst 1, 1) := show decode (am_cd (tb_me 109)) 139 = .ok (.iconst 1, 1) from by decide +kernel
theorem k109_140 {L : Nat} {xs : Nat → Int32} : decode (am_cd (am_me (tb_P L xs) 109)) 140 = .ok (.goto 4, 3) := show decode (am_cd (tb_me 109)) 140 = .ok (.goto 4, 3) from by decide +kernel
theorem k109_143 {L : Nat} {xs : Nat → Int32} : decode (am_cd (am_me (tb_P L xs) 109)) 143 = .ok (.iconst 0, 1) := show decode (am_cd (tb_me 109)) 143 = .ok (.iconst 0, 1) from by decide +kernel
theorem k109_144 {L : Nat} {xs : Nat → Int32} : decode (am_cd (am_me (tb_P L xs) 109)) 144 = .ok (.ireturn, 1) := show decode (am_cd (tb_me 109)) 144 = .ok (.ireturn, 1) from by decide +kernel
theorem t109 {L : Nat} {xs : Nat → Int32} : am_rt (am_me (tb_P L xs) 109) = some (.boolean : FieldType) := show am_rt (tb_me 109) = some (.boolean : FieldType) from by decide +kernel
theorem l109 {L : Nat} {xs : Nat → Int32} : am_ml (am_me (tb_P L xs) 109) = 4 := show am_ml (tb_me 109) = 4 from by decide +kernel
theorem o109 {L : Nat} {xs : Nat → Int32} (pc : Nat) : am_no (tb_P L xs) 109 pc = true := show (am_hd (tb_me 109)).all (fun q => !(decide (q.1 ≤ pc) && decide (pc < q.2.1))) = true from by rw [show am_hd (tb_me 109) = [] by decide +kernel]; rfl
theorem k110_0 {L : Nat} {xs : Nat → Int32} : decode (am_cd (am_me (tb_P L xs) 110)) 0 = .ok (.iload_n 1, 1) := show decode (am_cd (tb_me 110)) 0 = .ok (.iload_n 1, 1) from by decide +kernel
theorem k110_1 {L : Nat} {xs : Nat → Int32} : decode (am_cd (am_me (tb_P L xs) 110)) 1 = .ok (.bipush 50, 2) := show decode (am_cd (tb_me 110)) 1 = .ok (.bipush 50, 2) from by decide +kernel
theorem k110_3 {L : Nat} {xs : Nat → Int32} : decode (am_cd (am_me (tb_P L xs) 110)) 3 = .ok (.if_icmp .ge 7, 3) := show decode (am_cd (tb_me 110)) 3 = .ok (.if_icmp .ge 7, 3) from by decide +kernel
theorem k110_6 {L : Nat} {xs : Nat → Int32} : decode (am_cd (am_me (tb_P L xs) 110)) 6 = .ok (.iconst 0, 1) := show decode (am_cd (tb_me 110)) 6 = .ok (.iconst 0, 1) from by decide +kernel
theorem k110_7 {L : Nat} {xs : Nat → Int32} : decode (am_cd (am_me (tb_P L xs) 110)) 7 = .ok (.goto 24, 3) := show decode (am_cd (tb_me 110)) 7 = .ok (.goto 24, 3) from by decide +kernel
theorem k110_10 {L : Nat} {xs : Nat → Int32} : decode (am_cd (am_me (tb_P L xs) 110)) 10 = .ok (.iload_n 1, 1) := show decode (am_cd (tb_me 110)) 10 = .ok (.iload_n 1, 1) from by decide +kernel
theorem k110_11 {L : Nat} {xs : Nat → Int32} : decode (am_cd (am_me (tb_P L xs) 110)) 11 = .ok (.bipush 57, 2) := show decode (am_cd (tb_me 110)) 11 = .ok (.bipush 57, 2) from by decide +kernel
theorem k110_13 {L : Nat} {xs : Nat → Int32} : decode (am_cd (am_me (tb_P L xs) 110)) 13 = .ok (.if_icmp .ne 7, 3) := show decode (am_cd (tb_me 110)) 13 = .ok (.if_icmp .ne 7, 3) from by decide +kernel
theorem k110_16 {L : Nat} {xs : Nat → Int32} : decode (am_cd (am_me (tb_P L xs) 110)) 16 = .ok (.iconst 1, 1) := show decode (am_cd (tb_me 110)) 16 = .ok (.iconst 1, 1) from by decide +kernel
theorem k110_17 {L : Nat} {xs : Nat → Int32} : decode (am_cd (am_me (tb_P L xs) 110)) 17 = .ok (.goto 14, 3) := show decode (am_cd (tb_me 110)) 17 = .ok (.goto 14, 3) from by decide +kernel
theorem k110_20 {L : Nat} {xs : Nat → Int32} : decode (am_cd (am_me (tb_P L xs) 110)) 20 = .ok (.iload_n 1, 1) := show decode (am_cd (tb_me 110)) 20 = .ok (.iload_n 1, 1) from by decide +kernel
theorem k110_21 {L : Nat} {xs : Nat → Int32} : decode (am_cd (am_me (tb_P L xs) 110)) 21 = .ok (.bipush 58, 2) := show decode (am_cd (tb_me 110)) 21 = .ok (.bipush 58, 2) from by decide +kernel
theorem k110_23 {L : Nat} {xs : Nat → Int32} : decode (am_cd (am_me (tb_P L xs) 110)) 23 = .ok (.if_icmp .ne 7, 3) := show decode (am_cd (tb_me 110)) 23 = .ok (.if_icmp .ne 7, 3) from by decide +kernel
theorem k110_26 {L : Nat} {xs : Nat → Int32} : decode (am_cd (am_me (tb_P L xs) 110)) 26 = .ok (.iconst 3, 1) := show decode (am_cd (tb_me 110)) 26 = .ok (.iconst 3, 1) from by decide +kernel
theorem k110_27 {L : Nat} {xs : Nat → Int32} : decode (am_cd (am_me (tb_P L xs) 110)) 27 = .ok (.goto 4, 3) := show decode (am_cd (tb_me 110)) 27 = .ok (.goto 4, 3) from by decide +kernel
theorem k110_30 {L : Nat} {xs : Nat → Int32} : decode (am_cd (am_me (tb_P L xs) 110)) 30 = .ok (.iconst 2, 1) := show decode (am_cd (tb_me 110)) 30 = .ok (.iconst 2, 1) from by decide +kernel
theorem k110_31 {L : Nat} {xs : Nat → Int32} : decode (am_cd (am_me (tb_P L xs) 110)) 31 = .ok (.ireturn, 1) := show decode (am_cd (tb_me 110)) 31 = .ok (.ireturn, 1) from by decide +kernel
theorem t110 {L : Nat} {xs : Nat → Int32} : am_rt (am_me (tb_P L xs) 110) = some (.int : FieldType) := show am_rt (tb_me 110) = some (.int : FieldType) from by decide +kernel
theorem l110 {L : Nat} {xs : Nat → Int32} : am_ml (am_me (tb_P L xs) 110) = 2 := show am_ml (tb_me 110) = 2 from by decide +kernel
theorem o110 {L : Nat} {xs : Nat → Int32} (pc : Nat) : am_no (tb_P L xs) 110 pc = true := show (am_hd (tb_me 110)).all (fun q => !(decide (q.1 ≤ pc) && decide (pc < q.2.1))) = true from by rw [show am_hd (tb_me 110) = [] by decide +kernel]; rfl
theorem k111_0 {L : Nat} {xs : Nat → Int32} : decode (am_cd (am_me (tb_P L xs) 111)) 0 = .ok (.iload_n 1, 1) := show decode (am_cd (tb_me 111)) 0 = .ok (.iload_n 1, 1) from by decide +kernel
theorem k111_1 {L : Nat} {xs : Nat → Int32} : decode (am_cd (am_me (tb_P L xs) 111)) 1 = .ok (.bipush 55, 2) := show decode (am_cd (tb_me 111)) 1 = .ok (.bipush 55, 2) from by decide +kernel
theorem k111_3 {L : Nat} {xs : Nat → Int32} : decode (am_cd (am_me (tb_P L xs) 111)) 3 = .ok (.if_icmp .eq 25, 3) := show decode (am_cd (tb_me 111)) 3 = .ok (.if_icmp .eq 25, 3) from by decide +kernel
theorem k111_6 {L : Nat} {xs : Nat → Int32} : decode (am_cd (am_me (tb_P L xs) 111)) 6 = .ok (.iload_n 1, 1) := show decode (am_cd (tb_me 111)) 6 = .ok (.iload_n 1, 1) from by decide +kernel
theorem k111_7 {L : Nat} {xs : Nat → Int32} : decode (am_cd (am_me (tb_P L xs) 111)) 7 = .ok (.bipush 56, 2) := show decode (am_cd (tb_me 111)) 7 = .ok (.bipush 56, 2) from by decide +kernel
theorem k111_9 {L : Nat} {xs : Nat → Int32} : decode (am_cd (am_me (tb_P L xs) 111)) 9 = .ok (.if_icmp .eq 19, 3) := show decode (am_cd (tb_me 111)) 9 = .ok (.if_icmp .eq 19, 3) from by decide +kernel
theorem k111_12 {L : Nat} {xs : Nat → Int32} : decode (am_cd (am_me (tb_P L xs) 111)) 12 = .ok (.iload_n 1, 1) := show decode (am_cd (tb_me 111)) 12 = .ok (.iload_n 1, 1) from by decide +kernel
theorem k111_13 {L : Nat} {xs : Nat → Int32} : decode (am_cd (am_me (tb_P L xs) 111)) 13 = .ok (.bipush 57, 2) := show decode (am_cd (tb_me 111)) 13 = .ok (.bipush 57, 2) from by decide +kernel
theorem k111_15 {L : Nat} {xs : Nat → Int32} : decode (am_cd (am_me (tb_P L xs) 111)) 15 = .ok (.if_icmp .eq 13, 3) := show decode (am_cd (tb_me 111)) 15 = .ok (.if_icmp .eq 13, 3) from by decide +kernel
theorem k111_18 {L : Nat} {xs : Nat → Int32} : decode (am_cd (am_me (tb_P L xs) 111)) 18 = .ok (.iload_n 1, 1) := show decode (am_cd (tb_me 111)) 18 = .ok (.iload_n 1, 1) from by decide +kernel
theorem k111_19 {L : Nat} {xs : Nat → Int32} : decode (am_cd (am_me (tb_P L xs) 111)) 19 = .ok (.bipush 58, 2) := show decode (am_cd (tb_me 111)) 19 = .ok (.bipush 58, 2) from by decide +kernel
theorem k111_21 {L : Nat} {xs : Nat → Int32} : decode (am_cd (am_me (tb_P L xs) 111)) 21 = .ok (.if_icmp .ne 11, 3) := show decode (am_cd (tb_me 111)) 21 = .ok (.if_icmp .ne 11, 3) from by decide +kernel
theorem k111_24 {L : Nat} {xs : Nat → Int32} : decode (am_cd (am_me (tb_P L xs) 111)) 24 = .ok (.iload_n 2, 1) := show decode (am_cd (tb_me 111)) 24 = .ok (.iload_n 2, 1) from by decide +kernel
theorem k111_25 {L : Nat} {xs : Nat → Int32} : decode (am_cd (am_me (tb_P L xs) 111)) 25 = .ok (.ifCond .ne 7, 3) := show decode (am_cd (tb_me 111)) 25 = .ok (.ifCond .ne 7, 3) from by decide +kernel
theorem k111_28 {L : Nat} {xs : Nat → Int32} : decode (am_cd (am_me (tb_P L xs) 111)) 28 = .ok (.iconst 1, 1) := show decode (am_cd (tb_me 111)) 28 = .ok (.iconst 1, 1) from by decide +kernel
theorem k111_29 {L : Nat} {xs : Nat → Int32} : decode (am_cd (am_me (tb_P L xs) 111)) 29 = .ok (.goto 4, 3) := show decode (am_cd (tb_me 111)) 29 = .ok (.goto 4, 3) from by decide +kernel
theorem k111_32 {L : Nat} {xs : Nat → Int32} : decode (am_cd (am_me (tb_P L xs) 111)) 32 = .ok (.iconst 0, 1) := show decode (am_cd (tb_me 111)) 32 = .ok (.iconst 0, 1) from by decide +kernel
theorem k111_33 {L : Nat} {xs : Nat → Int32} : decode (am_cd (am_me (tb_P L xs) 111)) 33 = .ok (.ireturn, 1) := show decode (am_cd (tb_me 111)) 33 = .ok (.ireturn, 1) from by decide +kernel
theorem t111 {L : Nat} {xs : Nat → Int32} : am_rt (am_me (tb_P L xs) 111) = some (.boolean : FieldType) := show am_rt (tb_me 111) = some (.boolean : FieldType) from by decide +kernel
theorem l111 {L : Nat} {xs : Nat → Int32} : am_ml (am_me (tb_P L xs) 111) = 3 := show am_ml (tb_me 111) = 3 from by decide +kernel
theorem o111 {L : Nat} {xs : Nat → Int32} (pc : Nat) : am_no (tb_P L xs) 111 pc = true := show (am_hd (tb_me 111)).all (fun q => !(decide (q.1 ≤ pc) && decide (pc < q.2.1))) = true from by rw [show am_hd (tb_me 111) = [] by decide +kernel]; rfl
theorem k112_0 {L : Nat} {xs : Nat → Int32} : decode (am_cd (am_me (tb_P L xs) 112)) 0 = .ok (.iload_n 1, 1) := show decode (am_cd (tb_me 112)) 0 = .ok (.iload_n 1, 1) from by decide +kernel
theorem k112_1 {L : Nat} {xs : Nat → Int32} : decode (am_cd (am_me (tb_P L xs) 112)) 1 = .ok (.bipush 52, 2) := show decode (am_cd (tb_me 112)) 1 = .ok (.bipush 52, 2) from by decide +kernel
theorem k112_3 {L : Nat} {xs : Nat → Int32} : decode (am_cd (am_me (tb_P L xs) 112)) 3 = .ok (.if_icmp .le 13, 3) := show decode (am_cd (tb_me 112)) 3 = .ok (.if_icmp .le 13, 3) from by decide +kernel
theorem k112_6 {L : Nat} {xs : Nat → Int32} : decode (am_cd (am_me (tb_P L xs) 112)) 6 = .ok (.iload_n 1, 1) := show decode (am_cd (tb_me 112)) 6 = .ok (.iload_n 1, 1) from by decide +kernel
theorem k112_7 {L : Nat} {xs : Nat → Int32} : decode (am_cd (am_me (tb_P L xs) 112)) 7 = .ok (.bipush 58, 2) := show decode (am_cd (tb_me 112)) 7 = .ok (.bipush 58, 2) from by decide +kernel
theorem k112_9 {L : Nat} {xs : Nat → Int32} : decode (am_cd (am_me (tb_P L xs) 112)) 9 = .ok (.if_icmp .ge 7, 3) := show decode (am_cd (tb_me 112)) 9 = .ok (.if_icmp .ge 7, 3) from by decide +kernel
theorem k112_12 {L : Nat} {xs : Nat → Int32} : decode (am_cd (am_me (tb_P L xs) 112)) 12 = .ok (.iconst 1, 1) := show decode (am_cd (tb_me 112)) 12 = .ok (.iconst 1, 1) from by decide +kernel
theorem k112_13 {L : Nat} {xs : Nat → Int32} : decode (am_cd (am_me (tb_P L xs) 112)) 13 = .ok (.goto 4, 3) := show decode (am_cd (tb_me 112)) 13 = .ok (.goto 4, 3) from by decide +kernel
theorem k112_16 {L : Nat} {xs : Nat → Int32} : decode (am_cd (am_me (tb_P L xs) 112)) 16 = .ok (.iconst 0, 1) := show decode (am_cd (tb_me 112)) 16 = .ok (.iconst 0, 1) from by decide +kernel
theorem k112_17 {L : Nat} {xs : Nat → Int32} : decode (am_cd (am_me (tb_P L xs) 112)) 17 = .ok (.ireturn, 1) := show decode (am_cd (tb_me 112)) 17 = .ok (.ireturn, 1) from by decide +kernel
theorem t112 {L : Nat} {xs : Nat → Int32} : am_rt (am_me (tb_P L xs) 112) = some (.boolean : FieldType) := show am_rt (tb_me 112) = some (.boolean : FieldType) from by decide +kernel
theorem l112 {L : Nat} {xs : Nat → Int32} : am_ml (am_me (tb_P L xs) 112) = 2 := show am_ml (tb_me 112) = 2 from by decide +kernel
theorem o112 {L : Nat} {xs : Nat → Int32} (pc : Nat) : am_no (tb_P L xs) 112 pc = true := show (am_hd (tb_me 112)).all (fun q => !(decide (q.1 ≤ pc) && decide (pc < q.2.1))) = true from by rw [show am_hd (tb_me 112) = [] by decide +kernel]; rfl
theorem k113_0 {L : Nat} {xs : Nat → Int32} : decode (am_cd (am_me (tb_P L xs) 113)) 0 = .ok (.aload_n 0, 1) := show decode (am_cd (tb_me 113)) 0 = .ok (.aload_n 0, 1) from by decide +kernel
theorem k113_1 {L : Nat} {xs : Nat → Int32} : decode (am_cd (am_me (tb_P L xs) 113)) 1 = .ok (.iload_n 1, 1) := show decode (am_cd (tb_me 113)) 1 = .ok (.iload_n 1, 1) from by decide +kernel
theorem k113_2 {L : Nat} {xs : Nat → Int32} : decode (am_cd (am_me (tb_P L xs) 113)) 2 = .ok (.ifCond .lt 27, 3) := show decode (am_cd (tb_me 113)) 2 = .ok (.ifCond .lt 27, 3) from by decide +kernel
theorem k113_5 {L : Nat} {xs : Nat → Int32} : decode (am_cd (am_me (tb_P L xs) 113)) 5 = .ok (.iload_n 1, 1) := show decode (am_cd (tb_me 113)) 5 = .ok (.iload_n 1, 1) from by decide +kernel
theorem k113_6 {L : Nat} {xs : Nat → Int32} : decode (am_cd (am_me (tb_P L xs) 113)) 6 = .ok (.iconst 5, 1) := show decode (am_cd (tb_me 113)) 6 = .ok (.iconst 5, 1) from by decide +kernel
theorem k113_7 {L : Nat} {xs : Nat → Int32} : decode (am_cd (am_me (tb_P L xs) 113)) 7 = .ok (.if_icmp .gt 22, 3) := show decode (am_cd (tb_me 113)) 7 = .ok (.if_icmp .gt 22, 3) from by decide +kernel
theorem k113_10 {L : Nat} {xs : Nat → Int32} : decode (am_cd (am_me (tb_P L xs) 113)) 10 = .ok (.iload_n 2, 1) := show decode (am_cd (tb_me 113)) 10 = .ok (.iload_n 2, 1) from by decide +kernel
theorem k113_11 {L : Nat} {xs : Nat → Int32} : decode (am_cd (am_me (tb_P L xs) 113)) 11 = .ok (.iconst 1, 1) := show decode (am_cd (tb_me 113)) 11 = .ok (.iconst 1, 1) from by decide +kernel
theorem k113_12 {L : Nat} {xs : Nat → Int32} : decode (am_cd (am_me (tb_P L xs) 113)) 12 = .ok (.if_icmp .lt 17, 3) := show decode (am_cd (tb_me 113)) 12 = .ok (.if_icmp .lt 17, 3) from by decide +kernel
theorem k113_15 {L : Nat} {xs : Nat → Int32} : decode (am_cd (am_me (tb_P L xs) 113)) 15 = .ok (.iload_n 2, 1) := show decode (am_cd (tb_me 113)) 15 = .ok (.iload_n 2, 1) from by decide +kernel
theorem k113_16 {L : Nat} {xs : Nat → Int32} : decode (am_cd (am_me (tb_P L xs) 113)) 16 = .ok (.iconst 4, 1) := show decode (am_cd (tb_me 113)) 16 = .ok (.iconst 4, 1) from by decide +kernel
theorem k113_17 {L : Nat} {xs : Nat → Int32} : decode (am_cd (am_me (tb_P L xs) 113)) 17 = .ok (.if_icmp .gt 12, 3) := show decode (am_cd (tb_me 113)) 17 = .ok (.if_icmp .gt 12, 3) from by decide +kernel
theorem k113_20 {L : Nat} {xs : Nat → Int32} : decode (am_cd (am_me (tb_P L xs) 113)) 20 = .ok (.iload_n 3, 1) := show decode (am_cd (tb_me 113)) 20 = .ok (.iload_n 3, 1) from by decide +kernel
theorem k113_21 {L : Nat} {xs : Nat → Int32} : decode (am_cd (am_me (tb_P L xs) 113)) 21 = .ok (.ifCond .lt 8, 3) := show decode (am_cd (tb_me 113)) 21 = .ok (.ifCond .lt 8, 3) from by decide +kernel
theorem k113_24 {L : Nat} {xs : Nat → Int32} : decode (am_cd (am_me (tb_P L xs) 113)) 24 = .ok (.iload_n 3, 1) := show decode (am_cd (tb_me 113)) 24 = .ok (.iload_n 3, 1) from by decide +kernel
theorem k113_25 {L : Nat} {xs : Nat → Int32} : decode (am_cd (am_me (tb_P L xs) 113)) 25 = .ok (.iload_n 2, 1) := show decode (am_cd (tb_me 113)) 25 = .ok (.iload_n 2, 1) from by decide +kernel
theorem k113_26 {L : Nat} {xs : Nat → Int32} : decode (am_cd (am_me (tb_P L xs) 113)) 26 = .ok (.if_icmp .lt 7, 3) := show decode (am_cd (tb_me 113)) 26 = .ok (.if_icmp .lt 7, 3) from by decide +kernel
theorem k113_29 {L : Nat} {xs : Nat → Int32} : decode (am_cd (am_me (tb_P L xs) 113)) 29 = .ok (.iconst 1, 1) := show decode (am_cd (tb_me 113)) 29 = .ok (.iconst 1, 1) from by decide +kernel
theorem k113_30 {L : Nat} {xs : Nat → Int32} : decode (am_cd (am_me (tb_P L xs) 113)) 30 = .ok (.goto 4, 3) := show decode (am_cd (tb_me 113)) 30 = .ok (.goto 4, 3) from by decide +kernel
theorem k113_33 {L : Nat} {xs : Nat → Int32} : decode (am_cd (am_me (tb_P L xs) 113)) 33 = .ok (.iconst 0, 1) := show decode (am_cd (tb_me 113)) 33 = .ok (.iconst 0, 1) from by decide +kernel
theorem k113_34 {L : Nat} {xs : Nat → Int32} : decode (am_cd (am_me (tb_P L xs) 113)) 34 = .ok (.putfield 78, 3) := show decode (am_cd (tb_me 113)) 34 = .ok (.putfield 78, 3) from by decide +kernel
theorem f113_34 {L : Nat} {xs : Nat → Int32} : am_fd (tb_P L xs) 113 78 = some (8, 0, (.int : FieldType), true) := show tb_fdF 113 78 = some (8, 0, (.int : FieldType), true) from by decide +kernel
theorem k113_37 {L : Nat} {xs : Nat → Int32} : decode (am_cd (am_me (tb_P L xs) 113)) 37 = .ok (.aload_n 0, 1) := show decode (am_cd (tb_me 113)) 37 = .ok (.aload_n 0, 1) from by decide +kernel
theorem k113_38 {L : Nat} {xs : Nat → Int32} : decode (am_cd (am_me (tb_P L xs) 113)) 38 = .ok (.getfield 78, 3) := show decode (am_cd (tb_me 113)) 38 = .ok (.getfield 78, 3) from by decide +kernel
theorem f113_38 {L : Nat} {xs : Nat → Int32} : am_fd (tb_P L xs) 113 78 = some (8, 0, (.int : FieldType), true) := show tb_fdF 113 78 = some (8, 0, (.int : FieldType), true) from by decide +kernel
theorem k113_41 {L : Nat} {xs : Nat → Int32} : decode (am_cd (am_me (tb_P L xs) 113)) 41 = .ok (.ifCond .ne 22, 3) := show decode (am_cd (tb_me 113)) 41 = .ok (.ifCond .ne 22, 3) from by decide +kernel
theorem k113_44 {L : Nat} {xs : Nat → Int32} : decode (am_cd (am_me (tb_P L xs) 113)) 44 = .ok (.aload_n 0, 1) := show decode (am_cd (tb_me 113)) 44 = .ok (.aload_n 0, 1) from by decide +kernel
theorem k113_45 {L : Nat} {xs : Nat → Int32} : decode (am_cd (am_me (tb_P L xs) 113)) 45 = .ok (.getfield 7, 3) := show decode (am_cd (tb_me 113)) 45 = .ok (.getfield 7, 3) from by decide +kernel
theorem f113_45 {L : Nat} {xs : Nat → Int32} : am_fd (tb_P L xs) 113 7 = some (8, 1, (.array .int : FieldType), true) := show tb_fdF 113 7 = some (8, 1, (.array .int : FieldType), true) from by decide +kernel
theorem k113_48 {L : Nat} {xs : Nat → Int32} : decode (am_cd (am_me (tb_P L xs) 113)) 48 = .ok (.iload_n 1, 1) := show decode (am_cd (tb_me 113)) 48 = .ok (.iload_n 1, 1) from by decide +kernel
theorem k113_49 {L : Nat} {xs : Nat → Int32} : decode (am_cd (am_me (tb_P L xs) 113)) 49 = .ok (.iload_n 2, 1) := show decode (am_cd (tb_me 113)) 49 = .ok (.iload_n 2, 1) from by decide +kernel
theorem k113_50 {L : Nat} {xs : Nat → Int32} : decode (am_cd (am_me (tb_P L xs) 113)) 50 = .ok (.iastore, 1) := show decode (am_cd (tb_me 113)) 50 = .ok (.iastore, 1) from by decide +kernel
theorem k113_51 {L : Nat} {xs : Nat → Int32} : decode (am_cd (am_me (tb_P L xs) 113)) 51 = .ok (.aload_n 0, 1) := show decode (am_cd (tb_me 113)) 51 = .ok (.aload_n 0, 1) from by decide +kernel
theorem k113_52 {L : Nat} {xs : Nat → Int32} : decode (am_cd (am_me (tb_P L xs) 113)) 52 = .ok (.getfield 13, 3) := show decode (am_cd (tb_me 113)) 52 = .ok (.getfield 13, 3) from by decide +kernel
theorem f113_52 {L : Nat} {xs : Nat → Int32} : am_fd (tb_P L xs) 113 13 = some (8, 2, (.array .int : FieldType), true) := show tb_fdF 113 13 = some (8, 2, (.array .int : FieldType), true) from by decide +kernel
theorem k113_55 {L : Nat} {xs : Nat → Int32} : decode (am_cd (am_me (tb_P L xs) 113)) 55 = .ok (.iload_n 1, 1) := show decode (am_cd (tb_me 113)) 55 = .ok (.iload_n 1, 1) from by decide +kernel
theorem k113_56 {L : Nat} {xs : Nat → Int32} : decode (am_cd (am_me (tb_P L xs) 113)) 56 = .ok (.iload_n 3, 1) := show decode (am_cd (tb_me 113)) 56 = .ok (.iload_n 3, 1) from by decide +kernel
theorem k113_57 {L : Nat} {xs : Nat → Int32} : decode (am_cd (am_me (tb_P L xs) 113)) 57 = .ok (.iastore, 1) := show decode (am_cd (tb_me 113)) 57 = .ok (.iastore, 1) from by decide +kernel
theorem k113_58 {L : Nat} {xs : Nat → Int32} : decode (am_cd (am_me (tb_P L xs) 113)) 58 = .ok (.aload_n 0, 1) := show decode (am_cd (tb_me 113)) 58 = .ok (.aload_n 0, 1) from by decide +kernel
theorem k113_59 {L : Nat} {xs : Nat → Int32} : decode (am_cd (am_me (tb_P L xs) 113)) 59 = .ok (.iconst 0, 1) := show decode (am_cd (tb_me 113)) 59 = .ok (.iconst 0, 1) from by decide +kernel
theorem k113_60 {L : Nat} {xs : Nat → Int32} : decode (am_cd (am_me (tb_P L xs) 113)) 60 = .ok (.putfield 116, 3) := show decode (am_cd (tb_me 113)) 60 = .ok (.putfield 116, 3) from by decide +kernel
theorem f113_60 {L : Nat} {xs : Nat → Int32} : am_fd (tb_P L xs) 113 116 = some (8, 23, (.boolean : FieldType), true) := show tb_fdF 113 116 = some (8, 23, (.boolean : FieldType), true) from by decide +kernel
theorem k113_63 {L : Nat} {xs : Nat → Int32} : decode (am_cd (am_me (tb_P L xs) 113)) 63 = .ok (.return_, 1) := show decode (am_cd (tb_me 113)) 63 = .ok (.return_, 1) from by decide +kernel
theorem t113 {L : Nat} {xs : Nat → Int32} : am_rt (am_me (tb_P L xs) 113) = none := show am_rt (tb_me 113) = none from by decide +kernel
theorem l113 {L : Nat} {xs : Nat → Int32} : am_ml (am_me (tb_P L xs) 113) = 4 := show am_ml (tb_me 113) = 4 from by decide +kernel
theorem o113 {L : Nat} {xs : Nat → Int32} (pc : Nat) : am_no (tb_P L xs) 113 pc = true := show (am_hd (tb_me 113)).all (fun q => !(decide (q.1 ≤ pc) && decide (pc < q.2.1))) = true from by rw [show am_hd (tb_me 113) = [] by decide +kernel]; rfl
theorem k114_0 {L : Nat} {xs : Nat → Int32} : decode (am_cd (am_me (tb_P L xs) 114)) 0 = .ok (.iload_n 1, 1) := show decode (am_cd (tb_me 114)) 0 = .ok (.iload_n 1, 1) from by decide +kernel
theorem k114_1 {L : Nat} {xs : Nat → Int32} : decode (am_cd (am_me (tb_P L xs) 114)) 1 = .ok (.ifCond .lt 18, 3) := show decode (am_cd (tb_me 114)) 1 = .ok (.ifCond .lt 18, 3) from by decide +kernel
theorem k114_4 {L : Nat} {xs : Nat → Int32} : decode (am_cd (am_me (tb_P L xs) 114)) 4 = .ok (.iload_n 1, 1) := show decode (am_cd (tb_me 114)) 4 = .ok (.iload_n 1, 1) from by decide +kernel
theorem k114_5 {L : Nat} {xs : Nat → Int32} : decode (am_cd (am_me (tb_P L xs) 114)) 5 = .ok (.iconst 1, 1) := show decode (am_cd (tb_me 114)) 5 = .ok (.iconst 1, 1) from by decide +kernel
theorem k114_6 {L : Nat} {xs : Nat → Int32} : decode (am_cd (am_me (tb_P L xs) 114)) 6 = .ok (.if_icmp .gt 13, 3) := show decode (am_cd (tb_me 114)) 6 = .ok (.if_icmp .gt 13, 3) from by decide +kernel
theorem k114_9 {L : Nat} {xs : Nat → Int32} : decode (am_cd (am_me (tb_P L xs) 114)) 9 = .ok (.iload_n 2, 1) := show decode (am_cd (tb_me 114)) 9 = .ok (.iload_n 2, 1) from by decide +kernel
theorem k114_10 {L : Nat} {xs : Nat → Int32} : decode (am_cd (am_me (tb_P L xs) 114)) 10 = .ok (.iconst 1, 1) := show decode (am_cd (tb_me 114)) 10 = .ok (.iconst 1, 1) from by decide +kernel
theorem k114_11 {L : Nat} {xs : Nat → Int32} : decode (am_cd (am_me (tb_P L xs) 114)) 11 = .ok (.if_icmp .lt 8, 3) := show decode (am_cd (tb_me 114)) 11 = .ok (.if_icmp .lt 8, 3) from by decide +kernel
theorem k114_14 {L : Nat} {xs : Nat → Int32} : decode (am_cd (am_me (tb_P L xs) 114)) 14 = .ok (.iload_n 2, 1) := show decode (am_cd (tb_me 114)) 14 = .ok (.iload_n 2, 1) from by decide +kernel
theorem k114_15 {L : Nat} {xs : Nat → Int32} : decode (am_cd (am_me (tb_P L xs) 114)) 15 = .ok (.iconst 4, 1) := show decode (am_cd (tb_me 114)) 15 = .ok (.iconst 4, 1) from by decide +kernel
theorem k114_16 {L : Nat} {xs : Nat → Int32} : decode (am_cd (am_me (tb_P L xs) 114)) 16 = .ok (.if_icmp .le 7, 3) := show decode (am_cd (tb_me 114)) 16 = .ok (.if_icmp .le 7, 3) from by decide +kernel
theorem k114_19 {L : Nat} {xs : Nat → Int32} : decode (am_cd (am_me (tb_P L xs) 114)) 19 = .ok (.iconst 1, 1) := show decode (am_cd (tb_me 114)) 19 = .ok (.iconst 1, 1) from by decide +kernel
theorem k114_20 {L : Nat} {xs : Nat → Int32} : decode (am_cd (am_me (tb_P L xs) 114)) 20 = .ok (.goto 4, 3) := show decode (am_cd (tb_me 114)) 20 = .ok (.goto 4, 3) from by decide +kernel
theorem k114_23 {L : Nat} {xs : Nat → Int32} : decode (am_cd (am_me (tb_P L xs) 114)) 23 = .ok (.iconst 0, 1) := show decode (am_cd (tb_me 114)) 23 = .ok (.iconst 0, 1) from by decide +kernel
theorem k114_24 {L : Nat} {xs : Nat → Int32} : decode (am_cd (am_me (tb_P L xs) 114)) 24 = .ok (.istore 4, 2) := show decode (am_cd (tb_me 114)) 24 = .ok (.istore 4, 2) from by decide +kernel
theorem k114_26 {L : Nat} {xs : Nat → Int32} : decode (am_cd (am_me (tb_P L xs) 114)) 26 = .ok (.iload 4, 2) := show decode (am_cd (tb_me 114)) 26 = .ok (.iload 4, 2) from by decide +kernel
theorem k114_28 {L : Nat} {xs : Nat → Int32} : decode (am_cd (am_me (tb_P L xs) 114)) 28 = .ok (.ifCond .ne 29, 3) := show decode (am_cd (tb_me 114)) 28 = .ok (.ifCond .ne 29, 3) from by decide +kernel
theorem k114_31 {L : Nat} {xs : Nat → Int32} : decode (am_cd (am_me (tb_P L xs) 114)) 31 = .ok (.iload_n 3, 1) := show decode (am_cd (tb_me 114)) 31 = .ok (.iload_n 3, 1) from by decide +kernel
theorem k114_32 {L : Nat} {xs : Nat → Int32} : decode (am_cd (am_me (tb_P L xs) 114)) 32 = .ok (.iconst (-1), 1) := show decode (am_cd (tb_me 114)) 32 = .ok (.iconst (-1), 1) from by decide +kernel
theorem k114_33 {L : Nat} {xs : Nat → Int32} : decode (am_cd (am_me (tb_P L xs) 114)) 33 = .ok (.if_icmp .eq 28, 3) := show decode (am_cd (tb_me 114)) 33 = .ok (.if_icmp .eq 28, 3) from by decide +kernel
theorem k114_36 {L : Nat} {xs : Nat → Int32} : decode (am_cd (am_me (tb_P L xs) 114)) 36 = .ok (.iload_n 1, 1) := show decode (am_cd (tb_me 114)) 36 = .ok (.iload_n 1, 1) from by decide +kernel
theorem k114_37 {L : Nat} {xs : Nat → Int32} : decode (am_cd (am_me (tb_P L xs) 114)) 37 = .ok (.ifCond .eq 20, 3) := show decode (am_cd (tb_me 114)) 37 = .ok (.ifCond .eq 20, 3) from by decide +kernel
theorem k114_40 {L : Nat} {xs : Nat → Int32} : decode (am_cd (am_me (tb_P L xs) 114)) 40 = .ok (.aload_n 0, 1) := show decode (am_cd (tb_me 114)) 40 = .ok (.aload_n 0, 1) from by decide +kernel
theorem k114_41 {L : Nat} {xs : Nat → Int32} : decode (am_cd (am_me (tb_P L xs) 114)) 41 = .ok (.iload_n 3, 1) := show decode (am_cd (tb_me 114)) 41 = .ok (.iload_n 3, 1) from by decide +kernel
theorem k114_42 {L : Nat} {xs : Nat → Int32} : decode (am_cd (am_me (tb_P L xs) 114)) 42 = .ok (.invokevirtual 123, 3) := show decode (am_cd (tb_me 114)) 42 = .ok (.invokevirtual 123, 3) from by decide +kernel
theorem s114_42 {L : Nat} {xs : Nat → Int32} : am_sp (tb_P L xs) 114 123 = none := show tb_spF 114 123 = none from by decide +kernel
theorem c114_42 {L : Nat} {xs : Nat → Int32} : am_ca (tb_P L xs) 114 123 = some (115, 1, 1) := show tb_caF 114 123 = some (115, 1, 1) from by decide +kernel
theorem r114_42 {L : Nat} {xs : Nat → Int32} : am_rf (am_me (tb_P L xs) 115) + 1 ≤ am_rf (am_me (tb_P L xs) 114) ∧ 0 + (am_ml (am_me (tb_P L xs) 115) + 11) + am_rl (am_me (tb_P L xs) 115) ≤ am_rl (am_me (tb_P L xs) 114) := show am_rf (tb_me 115) + 1 ≤ am_rf (tb_me 114) ∧ 0 + (am_ml (tb_me 115) + 11) + am_rl (tb_me 115) ≤ am_rl (tb_me 114) from by decide +kernel
theorem k114_45 {L : Nat} {xs : Nat → Int32} : decode (am_cd (am_me (tb_P L xs) 114)) 45 = .ok (.ifCond .ne 12, 3) := show decode (am_cd (tb_me 114)) 45 = .ok (.ifCond .ne 12, 3) from by decide +kernel
theorem k114_48 {L : Nat} {xs : Nat → Int32} : decode (am_cd (am_me (tb_P L xs) 114)) 48 = .ok (.aload_n 0, 1) := show decode (am_cd (tb_me 114)) 48 = .ok (.aload_n 0, 1) from by decide +kernel
theorem k114_49 {L : Nat} {xs : Nat → Int32} : decode (am_cd (am_me (tb_P L xs) 114)) 49 = .ok (.getfield 35, 3) := show decode (am_cd (tb_me 114)) 49 = .ok (.getfield 35, 3) from by decide +kernel
theorem f114_49 {L : Nat} {xs : Nat → Int32} : am_fd (tb_P L xs) 114 35 = some (8, 12, (.array .int : FieldType), true) := show tb_fdF 114 35 = some (8, 12, (.array .int : FieldType), true) from by decide +kernel
theorem k114_52 {L : Nat} {xs : Nat → Int32} : decode (am_cd (am_me (tb_P L xs) 114)) 52 = .ok (.iload_n 3, 1) := show decode (am_cd (tb_me 114)) 52 = .ok (.iload_n 3, 1) from by decide +kernel
theorem k114_53 {L : Nat} {xs : Nat → Int32} : decode (am_cd (am_me (tb_P L xs) 114)) 53 = .ok (.iaload, 1) := show decode (am_cd (tb_me 114)) 53 = .ok (.iaload, 1) from by decide +kernel
theorem k114_54 {L : Nat} {xs : Nat → Int32} : decode (am_cd (am_me (tb_P L xs) 114)) 54 = .ok (.ifCond .eq 7, 3) := show decode (am_cd (tb_me 114)) 54 = .ok (.ifCond .eq 7, 3) from by decide +kernel
theorem k114_57 {L : Nat} {xs : Nat → Int32} : decode (am_cd (am_me (tb_P L xs) 114)) 57 = .ok (.iconst 1, 1) := show decode (am_cd (tb_me 114)) 57 = .ok (.iconst 1, 1) from by decide +kernel
theorem k114_58 {L : Nat} {xs : Nat → Int32} : decode (am_cd (am_me (tb_P L xs) 114)) 58 = .ok (.goto 4, 3) := show decode (am_cd (tb_me 114)) 58 = .ok (.goto 4, 3) from by decide +kernel
theorem k114_61 {L : Nat} {xs : Nat → Int32} : decode (am_cd (am_me (tb_P L xs) 114)) 61 = .ok (.iconst 0, 1) := show decode (am_cd (tb_me 114)) 61 = .ok (.iconst 0, 1) from by decide +kernel
theorem k114_62 {L : Nat} {xs : Nat → Int32} : decode (am_cd (am_me (tb_P L xs) 114)) 62 = .ok (.istore 4, 2) := show decode (am_cd (tb_me 114)) 62 = .ok (.istore 4, 2) from by decide +kernel
theorem k114_64 {L : Nat} {xs : Nat → Int32} : decode (am_cd (am_me (tb_P L xs) 114)) 64 = .ok (.aload_n 0, 1) := show decode (am_cd (tb_me 114)) 64 = .ok (.aload_n 0, 1) from by decide +kernel
theorem k114_65 {L : Nat} {xs : Nat → Int32} : decode (am_cd (am_me (tb_P L xs) 114)) 65 = .ok (.iload 4, 2) := show decode (am_cd (tb_me 114)) 65 = .ok (.iload 4, 2) from by decide +kernel
theorem k114_67 {L : Nat} {xs : Nat → Int32} : decode (am_cd (am_me (tb_P L xs) 114)) 67 = .ok (.ifCond .eq 7, 3) := show decode (am_cd (tb_me 114)) 67 = .ok (.ifCond .eq 7, 3) from by decide +kernel
theorem k114_70 {L : Nat} {xs : Nat → Int32} : decode (am_cd (am_me (tb_P L xs) 114)) 70 = .ok (.iconst 1, 1) := show decode (am_cd (tb_me 114)) 70 = .ok (.iconst 1, 1) from by decide +kernel
theorem k114_71 {L : Nat} {xs : Nat → Int32} : decode (am_cd (am_me (tb_P L xs) 114)) 71 = .ok (.goto 17, 3) := show decode (am_cd (tb_me 114)) 71 = .ok (.goto 17, 3) from by decide +kernel
theorem k114_74 {L : Nat} {xs : Nat → Int32} : decode (am_cd (am_me (tb_P L xs) 114)) 74 = .ok (.aload_n 0, 1) := show decode (am_cd (tb_me 114)) 74 = .ok (.aload_n 0, 1) from by decide +kernel
theorem k114_75 {L : Nat} {xs : Nat → Int32} : decode (am_cd (am_me (tb_P L xs) 114)) 75 = .ok (.getfield 120, 3) := show decode (am_cd (tb_me 114)) 75 = .ok (.getfield 120, 3) from by decide +kernel
theorem f114_75 {L : Nat} {xs : Nat → Int32} : am_fd (tb_P L xs) 114 120 = some (8, 11, (.int : FieldType), true) := show tb_fdF 114 120 = some (8, 11, (.int : FieldType), true) from by decide +kernel
theorem k114_78 {L : Nat} {xs : Nat → Int32} : decode (am_cd (am_me (tb_P L xs) 114)) 78 = .ok (.bipush 12, 2) := show decode (am_cd (tb_me 114)) 78 = .ok (.bipush 12, 2) from by decide +kernel
theorem k114_80 {L : Nat} {xs : Nat → Int32} : decode (am_cd (am_me (tb_P L xs) 114)) 80 = .ok (.if_icmp .ne 7, 3) := show decode (am_cd (tb_me 114)) 80 = .ok (.if_icmp .ne 7, 3) from by decide +kernel
theorem k114_83 {L : Nat} {xs : Nat → Int32} : decode (am_cd (am_me (tb_P L xs) 114)) 83 = .ok (.iconst 2, 1) := show decode (am_cd (tb_me 114)) 83 = .ok (.iconst 2, 1) from by decide +kernel
theorem k114_84 {L : Nat} {xs : Nat → Int32} : decode (am_cd (am_me (tb_P L xs) 114)) 84 = .ok (.goto 4, 3) := show decode (am_cd (tb_me 114)) 84 = .ok (.goto 4, 3) from by decide +kernel
theorem k114_87 {L : Nat} {xs : Nat → Int32} : decode (am_cd (am_me (tb_P L xs) 114)) 87 = .ok (.iconst 0, 1) := show decode (am_cd (tb_me 114)) 87 = .ok (.iconst 0, 1) from by decide +kernel
theorem k114_88 {L : Nat} {xs : Nat → Int32} : decode (am_cd (am_me (tb_P L xs) 114)) 88 = .ok (.putfield 78, 3) := show decode (am_cd (tb_me 114)) 88 = .ok (.putfield 78, 3) from by decide +kernel
theorem f114_88 {L : Nat} {xs : Nat → Int32} : am_fd (tb_P L xs) 114 78 = some (8, 0, (.int : FieldType), true) := show tb_fdF 114 78 = some (8, 0, (.int : FieldType), true) from by decide +kernel
theorem k114_91 {L : Nat} {xs : Nat → Int32} : decode (am_cd (am_me (tb_P L xs) 114)) 91 = .ok (.aload_n 0, 1) := show decode (am_cd (tb_me 114)) 91 = .ok (.aload_n 0, 1) from by decide +kernel
theorem k114_92 {L : Nat} {xs : Nat → Int32} : decode (am_cd (am_me (tb_P L xs) 114)) 92 = .ok (.getfield 78, 3) := show decode (am_cd (tb_me 114)) 92 = .ok (.getfield 78, 3) from by decide +kernel
theorem f114_92 {L : Nat} {xs : Nat → Int32} : am_fd (tb_P L xs) 114 78 = some (8, 0, (.int : FieldType), true) := show tb_fdF 114 78 = some (8, 0, (.int : FieldType), true) from by decide +kernel
theorem k114_95 {L : Nat} {xs : Nat → Int32} : decode (am_cd (am_me (tb_P L xs) 114)) 95 = .ok (.ifCond .eq 5, 3) := show decode (am_cd (tb_me 114)) 95 = .ok (.ifCond .eq 5, 3) from by decide +kernel
theorem k114_98 {L : Nat} {xs : Nat → Int32} : decode (am_cd (am_me (tb_P L xs) 114)) 98 = .ok (.iconst 0, 1) := show decode (am_cd (tb_me 114)) 98 = .ok (.iconst 0, 1) from by decide +kernel
theorem k114_99 {L : Nat} {xs : Nat → Int32} : decode (am_cd (am_me (tb_P L xs) 114)) 99 = .ok (.ireturn, 1) := show decode (am_cd (tb_me 114)) 99 = .ok (.ireturn, 1) from by decide +kernel
theorem k114_100 {L : Nat} {xs : Nat → Int32} : decode (am_cd (am_me (tb_P L xs) 114)) 100 = .ok (.aload_n 0, 1) := show decode (am_cd (tb_me 114)) 100 = .ok (.aload_n 0, 1) from by decide +kernel
theorem k114_101 {L : Nat} {xs : Nat → Int32} : decode (am_cd (am_me (tb_P L xs) 114)) 101 = .ok (.getfield 35, 3) := show decode (am_cd (tb_me 114)) 101 = .ok (.getfield 35, 3) from by decide +kernel
theorem f114_101 {L : Nat} {xs : Nat → Int32} : am_fd (tb_P L xs) 114 35 = some (8, 12, (.array .int : FieldType), true) := show tb_fdF 114 35 = some (8, 12, (.array .int : FieldType), true) from by decide +kernel
theorem k114_104 {L : Nat} {xs : Nat → Int32} : decode (am_cd (am_me (tb_P L xs) 114)) 104 = .ok (.aload_n 0, 1) := show decode (am_cd (tb_me 114)) 104 = .ok (.aload_n 0, 1) from by decide +kernel
theorem k114_105 {L : Nat} {xs : Nat → Int32} : decode (am_cd (am_me (tb_P L xs) 114)) 105 = .ok (.getfield 120, 3) := show decode (am_cd (tb_me 114)) 105 = .ok (.getfield 120, 3) from by decide +kernel
theorem f114_105 {L : Nat} {xs : Nat → Int32} : am_fd (tb_P L xs) 114 120 = some (8, 11, (.int : FieldType), true) := show tb_fdF 114 120 = some (8, 11, (.int : FieldType), true) from by decide +kernel
theorem k114_108 {L : Nat} {xs : Nat → Int32} : decode (am_cd (am_me (tb_P L xs) 114)) 108 = .ok (.iload_n 1, 1) := show decode (am_cd (tb_me 114)) 108 = .ok (.iload_n 1, 1) from by decide +kernel
theorem k114_109 {L : Nat} {xs : Nat → Int32} : decode (am_cd (am_me (tb_P L xs) 114)) 109 = .ok (.iastore, 1) := show decode (am_cd (tb_me 114)) 109 = .ok (.iastore, 1) from by decide +kernel
theorem k114_110 {L : Nat} {xs : Nat → Int32} : decode (am_cd (am_me (tb_P L xs) 114)) 110 = .ok (.aload_n 0, 1) := show decode (am_cd (tb_me 114)) 110 = .ok (.aload_n 0, 1) from by decide +kernel
theorem k114_111 {L : Nat} {xs : Nat → Int32} : decode (am_cd (am_me (tb_P L xs) 114)) 111 = .ok (.getfield 38, 3) := show decode (am_cd (tb_me 114)) 111 = .ok (.getfield 38, 3) from by decide +kernel
theorem f114_111 {L : Nat} {xs : Nat → Int32} : am_fd (tb_P L xs) 114 38 = some (8, 13, (.array .int : FieldType), true) := show tb_fdF 114 38 = some (8, 13, (.array .int : FieldType), true) from by decide +kernel
theorem k114_114 {L : Nat} {xs : Nat → Int32} : decode (am_cd (am_me (tb_P L xs) 114)) 114 = .ok (.aload_n 0, 1) := show decode (am_cd (tb_me 114)) 114 = .ok (.aload_n 0, 1) from by decide +kernel
theorem k114_115 {L : Nat} {xs : Nat → Int32} : decode (am_cd (am_me (tb_P L xs) 114)) 115 = .ok (.getfield 120, 3) := show decode (am_cd (tb_me 114)) 115 = .ok (.getfield 120, 3) from by decide +kernel
theorem f114_115 {L : Nat} {xs : Nat → Int32} : am_fd (tb_P L xs) 114 120 = some (8, 11, (.int : FieldType), true) := show tb_fdF 114 120 = some (8, 11, (.int : FieldType), true) from by decide +kernel
theorem k114_118 {L : Nat} {xs : Nat → Int32} : decode (am_cd (am_me (tb_P L xs) 114)) 118 = .ok (.iload_n 2, 1) := show decode (am_cd (tb_me 114)) 118 = .ok (.iload_n 2, 1) from by decide +kernel
theorem k114_119 {L : Nat} {xs : Nat → Int32} : decode (am_cd (am_me (tb_P L xs) 114)) 119 = .ok (.iastore, 1) := show decode (am_cd (tb_me 114)) 119 = .ok (.iastore, 1) from by decide +kernel
theorem k114_120 {L : Nat} {xs : Nat → Int32} : decode (am_cd (am_me (tb_P L xs) 114)) 120 = .ok (.aload_n 0, 1) := show decode (am_cd (tb_me 114)) 120 = .ok (.aload_n 0, 1) from by decide +kernel
theorem k114_121 {L : Nat} {xs : Nat → Int32} : decode (am_cd (am_me (tb_P L xs) 114)) 121 = .ok (.getfield 41, 3) := show decode (am_cd (tb_me 114)) 121 = .ok (.getfield 41, 3) from by decide +kernel
theorem f114_121 {L : Nat} {xs : Nat → Int32} : am_fd (tb_P L xs) 114 41 = some (8, 14, (.array .int : FieldType), true) := show tb_fdF 114 41 = some (8, 14, (.array .int : FieldType), true) from by decide +kernel
theorem k114_124 {L : Nat} {xs : Nat → Int32} : decode (am_cd (am_me (tb_P L xs) 114)) 124 = .ok (.aload_n 0, 1) := show decode (am_cd (tb_me 114)) 124 = .ok (.aload_n 0, 1) from by decide +kernel
theorem k114_125 {L : Nat} {xs : Nat → Int32} : decode (am_cd (am_me (tb_P L xs) 114)) 125 = .ok (.getfield 120, 3) := show decode (am_cd (tb_me 114)) 125 = .ok (.getfield 120, 3) from by decide +kernel
theorem f114_125 {L : Nat} {xs : Nat → Int32} : am_fd (tb_P L xs) 114 120 = some (8, 11, (.int : FieldType), true) := show tb_fdF 114 120 = some (8, 11, (.int : FieldType), true) from by decide +kernel
theorem k114_128 {L : Nat} {xs : Nat → Int32} : decode (am_cd (am_me (tb_P L xs) 114)) 128 = .ok (.iload_n 3, 1) := show decode (am_cd (tb_me 114)) 128 = .ok (.iload_n 3, 1) from by decide +kernel
theorem k114_129 {L : Nat} {xs : Nat → Int32} : decode (am_cd (am_me (tb_P L xs) 114)) 129 = .ok (.iastore, 1) := show decode (am_cd (tb_me 114)) 129 = .ok (.iastore, 1) from by decide +kernel
theorem k114_130 {L : Nat} {xs : Nat → Int32} : decode (am_cd (am_me (tb_P L xs) 114)) 130 = .ok (.aload_n 0, 1) := show decode (am_cd (tb_me 114)) 130 = .ok (.aload_n 0, 1) from by decide +kernel
theorem k114_131 {L : Nat} {xs : Nat → Int32} : decode (am_cd (am_me (tb_P L xs) 114)) 131 = .ok (.getfield 44, 3) := show decode (am_cd (tb_me 114)) 131 = .ok (.getfield 44, 3) from by decide +kernel
theorem f114_131 {L : Nat} {xs : Nat → Int32} : am_fd (tb_P L xs) 114 44 = some (8, 15, (.array .int : FieldType), true) := show tb_fdF 114 44 = some (8, 15, (.array .int : FieldType), true) from by decide +kernel
theorem k114_134 {L : Nat} {xs : Nat → Int32} : decode (am_cd (am_me (tb_P L xs) 114)) 134 = .ok (.aload_n 0, 1) := show decode (am_cd (tb_me 114)) 134 = .ok (.aload_n 0, 1) from by decide +kernel
theorem k114_135 {L : Nat} {xs : Nat → Int32} : decode (am_cd (am_me (tb_P L xs) 114)) 135 = .ok (.getfield 120, 3) := show decode (am_cd (tb_me 114)) 135 = .ok (.getfield 120, 3) from by decide +kernel
theorem f114_135 {L : Nat} {xs : Nat → Int32} : am_fd (tb_P L xs) 114 120 = some (8, 11, (.int : FieldType), true) := show tb_fdF 114 120 = some (8, 11, (.int : FieldType), true) from by decide +kernel
theorem k114_138 {L : Nat} {xs : Nat → Int32} : decode (am_cd (am_me (tb_P L xs) 114)) 138 = .ok (.iconst (-1), 1) := show decode (am_cd (tb_me 114)) 138 = .ok (.iconst (-1), 1) from by decide +kernel
theorem k114_139 {L : Nat} {xs : Nat → Int32} : decode (am_cd (am_me (tb_P L xs) 114)) 139 = .ok (.iastore, 1) := show decode (am_cd (tb_me 114)) 139 = .ok (.iastore, 1) from by decide +kernel
theorem k114_140 {L : Nat} {xs : Nat → Int32} : decode (am_cd (am_me (tb_P L xs) 114)) 140 = .ok (.aload_n 0, 1) := show decode (am_cd (tb_me 114)) 140 = .ok (.aload_n 0, 1) from by decide +kernel
theorem k114_141 {L : Nat} {xs : Nat → Int32} : decode (am_cd (am_me (tb_P L xs) 114)) 141 = .ok (.getfield 50, 3) := show decode (am_cd (tb_me 114)) 141 = .ok (.getfield 50, 3) from by decide +kernel
theorem f114_141 {L : Nat} {xs : Nat → Int32} : am_fd (tb_P L xs) 114 50 = some (8, 17, (.array .int : FieldType), true) := show tb_fdF 114 50 = some (8, 17, (.array .int : FieldType), true) from by decide +kernel
theorem k114_144 {L : Nat} {xs : Nat → Int32} : decode (am_cd (am_me (tb_P L xs) 114)) 144 = .ok (.aload_n 0, 1) := show decode (am_cd (tb_me 114)) 144 = .ok (.aload_n 0, 1) from by decide +kernel
theorem k114_145 {L : Nat} {xs : Nat → Int32} : decode (am_cd (am_me (tb_P L xs) 114)) 145 = .ok (.getfield 120, 3) := show decode (am_cd (tb_me 114)) 145 = .ok (.getfield 120, 3) from by decide +kernel
theorem f114_145 {L : Nat} {xs : Nat → Int32} : am_fd (tb_P L xs) 114 120 = some (8, 11, (.int : FieldType), true) := show tb_fdF 114 120 = some (8, 11, (.int : FieldType), true) from by decide +kernel
theorem k114_148 {L : Nat} {xs : Nat → Int32} : decode (am_cd (am_me (tb_P L xs) 114)) 148 = .ok (.iconst (-1), 1) := show decode (am_cd (tb_me 114)) 148 = .ok (.iconst (-1), 1) from by decide +kernel
theorem k114_149 {L : Nat} {xs : Nat → Int32} : decode (am_cd (am_me (tb_P L xs) 114)) 149 = .ok (.iastore, 1) := show decode (am_cd (tb_me 114)) 149 = .ok (.iastore, 1) from by decide +kernel
theorem k114_150 {L : Nat} {xs : Nat → Int32} : decode (am_cd (am_me (tb_P L xs) 114)) 150 = .ok (.aload_n 0, 1) := show decode (am_cd (tb_me 114)) 150 = .ok (.aload_n 0, 1) from by decide +kernel
theorem k114_151 {L : Nat} {xs : Nat → Int32} : decode (am_cd (am_me (tb_P L xs) 114)) 151 = .ok (.dup, 1) := show decode (am_cd (tb_me 114)) 151 = .ok (.dup, 1) from by decide +kernel
theorem k114_152 {L : Nat} {xs : Nat → Int32} : decode (am_cd (am_me (tb_P L xs) 114)) 152 = .ok (.getfield 120, 3) := show decode (am_cd (tb_me 114)) 152 = .ok (.getfield 120, 3) from by decide +kernel
theorem f114_152 {L : Nat} {xs : Nat → Int32} : am_fd (tb_P L xs) 114 120 = some (8, 11, (.int : FieldType), true) := show tb_fdF 114 120 = some (8, 11, (.int : FieldType), true) from by decide +kernel
theorem k114_155 {L : Nat} {xs : Nat → Int32} : decode (am_cd (am_me (tb_P L xs) 114)) 155 = .ok (.iconst 1, 1) := show decode (am_cd (tb_me 114)) 155 = .ok (.iconst 1, 1) from by decide +kernel
theorem k114_156 {L : Nat} {xs : Nat → Int32} : decode (am_cd (am_me (tb_P L xs) 114)) 156 = .ok (.iadd, 1) := show decode (am_cd (tb_me 114)) 156 = .ok (.iadd, 1) from by decide +kernel
theorem k114_157 {L : Nat} {xs : Nat → Int32} : decode (am_cd (am_me (tb_P L xs) 114)) 157 = .ok (.putfield 120, 3) := show decode (am_cd (tb_me 114)) 157 = .ok (.putfield 120, 3) from by decide +kernel
theorem f114_157 {L : Nat} {xs : Nat → Int32} : am_fd (tb_P L xs) 114 120 = some (8, 11, (.int : FieldType), true) := show tb_fdF 114 120 = some (8, 11, (.int : FieldType), true) from by decide +kernel
theorem k114_160 {L : Nat} {xs : Nat → Int32} : decode (am_cd (am_me (tb_P L xs) 114)) 160 = .ok (.aload_n 0, 1) := show decode (am_cd (tb_me 114)) 160 = .ok (.aload_n 0, 1) from by decide +kernel
theorem k114_161 {L : Nat} {xs : Nat → Int32} : decode (am_cd (am_me (tb_P L xs) 114)) 161 = .ok (.getfield 120, 3) := show decode (am_cd (tb_me 114)) 161 = .ok (.getfield 120, 3) from by decide +kernel
theorem f114_161 {L : Nat} {xs : Nat → Int32} : am_fd (tb_P L xs) 114 120 = some (8, 11, (.int : FieldType), true) := show tb_fdF 114 120 = some (8, 11, (.int : FieldType), true) from by decide +kernel
theorem k114_164 {L : Nat} {xs : Nat → Int32} : decode (am_cd (am_me (tb_P L xs) 114)) 164 = .ok (.iconst 1, 1) := show decode (am_cd (tb_me 114)) 164 = .ok (.iconst 1, 1) from by decide +kernel
theorem k114_165 {L : Nat} {xs : Nat → Int32} : decode (am_cd (am_me (tb_P L xs) 114)) 165 = .ok (.isub, 1) := show decode (am_cd (tb_me 114)) 165 = .ok (.isub, 1) from by decide +kernel
theorem k114_166 {L : Nat} {xs : Nat → Int32} : decode (am_cd (am_me (tb_P L xs) 114)) 166 = .ok (.ireturn, 1) := show decode (am_cd (tb_me 114)) 166 = .ok (.ireturn, 1) from by decide +kernel
theorem t114 {L : Nat} {xs : Nat → Int32} : am_rt (am_me (tb_P L xs) 114) = some (.int : FieldType) := show am_rt (tb_me 114) = some (.int : FieldType) from by decide +kernel
theorem l114 {L : Nat} {xs : Nat → Int32} : am_ml (am_me (tb_P L xs) 114) = 5 := show am_ml (tb_me 114) = 5 from by decide +kernel
theorem o114 {L : Nat} {xs : Nat → Int32} (pc : Nat) : am_no (tb_P L xs) 114 pc = true := show (am_hd (tb_me 114)).all (fun q => !(decide (q.1 ≤ pc) && decide (pc < q.2.1))) = true from by rw [show am_hd (tb_me 114) = [] by decide +kernel]; rfl
theorem k115_0 {L : Nat} {xs : Nat → Int32} : decode (am_cd (am_me (tb_P L xs) 115)) 0 = .ok (.iload_n 1, 1) := show decode (am_cd (tb_me 115)) 0 = .ok (.iload_n 1, 1) from by decide +kernel
theorem k115_1 {L : Nat} {xs : Nat → Int32} : decode (am_cd (am_me (tb_P L xs) 115)) 1 = .ok (.ifCond .lt 11, 3) := show decode (am_cd (tb_me 115)) 1 = .ok (.ifCond .lt 11, 3) from by decide +kernel
theorem k115_4 {L : Nat} {xs : Nat → Int32} : decode (am_cd (am_me (tb_P L xs) 115)) 4 = .ok (.iload_n 1, 1) := show decode (am_cd (tb_me 115)) 4 = .ok (.iload_n 1, 1) from by decide +kernel
theorem k115_5 {L : Nat} {xs : Nat → Int32} : decode (am_cd (am_me (tb_P L xs) 115)) 5 = .ok (.aload_n 0, 1) := show decode (am_cd (tb_me 115)) 5 = .ok (.aload_n 0, 1) from by decide +kernel
theorem k115_6 {L : Nat} {xs : Nat → Int32} : decode (am_cd (am_me (tb_P L xs) 115)) 6 = .ok (.getfield 120, 3) := show decode (am_cd (tb_me 115)) 6 = .ok (.getfield 120, 3) from by decide +kernel
theorem f115_6 {L : Nat} {xs : Nat → Int32} : am_fd (tb_P L xs) 115 120 = some (8, 11, (.int : FieldType), true) := show tb_fdF 115 120 = some (8, 11, (.int : FieldType), true) from by decide +kernel
theorem k115_9 {L : Nat} {xs : Nat → Int32} : decode (am_cd (am_me (tb_P L xs) 115)) 9 = .ok (.if_icmp .lt 7, 3) := show decode (am_cd (tb_me 115)) 9 = .ok (.if_icmp .lt 7, 3) from by decide +kernel
theorem k115_12 {L : Nat} {xs : Nat → Int32} : decode (am_cd (am_me (tb_P L xs) 115)) 12 = .ok (.iconst 1, 1) := show decode (am_cd (tb_me 115)) 12 = .ok (.iconst 1, 1) from by decide +kernel
theorem k115_13 {L : Nat} {xs : Nat → Int32} : decode (am_cd (am_me (tb_P L xs) 115)) 13 = .ok (.goto 4, 3) := show decode (am_cd (tb_me 115)) 13 = .ok (.goto 4, 3) from by decide +kernel
theorem k115_16 {L : Nat} {xs : Nat → Int32} : decode (am_cd (am_me (tb_P L xs) 115)) 16 = .ok (.iconst 0, 1) := show decode (am_cd (tb_me 115)) 16 = .ok (.iconst 0, 1) from by decide +kernel
theorem k115_17 {L : Nat} {xs : Nat → Int32} : decode (am_cd (am_me (tb_P L xs) 115)) 17 = .ok (.ireturn, 1) := show decode (am_cd (tb_me 115)) 17 = .ok (.ireturn, 1) from by decide +kernel
theorem t115 {L : Nat} {xs : Nat → Int32} : am_rt (am_me (tb_P L xs) 115) = some (.boolean : FieldType) := show am_rt (tb_me 115) = some (.boolean : FieldType) from by decide +kernel
theorem l115 {L : Nat} {xs : Nat → Int32} : am_ml (am_me (tb_P L xs) 115) = 2 := show am_ml (tb_me 115) = 2 from by decide +kernel
theorem o115 {L : Nat} {xs : Nat → Int32} (pc : Nat) : am_no (tb_P L xs) 115 pc = true := show (am_hd (tb_me 115)).all (fun q => !(decide (q.1 ≤ pc) && decide (pc < q.2.1))) = true from by rw [show am_hd (tb_me 115) = [] by decide +kernel]; rfl
theorem k116_0 {L : Nat} {xs : Nat → Int32} : decode (am_cd (am_me (tb_P L xs) 116)) 0 = .ok (.aload_n 0, 1) := show decode (am_cd (tb_me 116)) 0 = .ok (.aload_n 0, 1) from by decide +kernel
theorem k116_1 {L : Nat} {xs : Nat → Int32} : decode (am_cd (am_me (tb_P L xs) 116)) 1 = .ok (.aload_n 0, 1) := show decode (am_cd (tb_me 116)) 1 = .ok (.aload_n 0, 1) from by decide +kernel
theorem k116_2 {L : Nat} {xs : Nat → Int32} : decode (am_cd (am_me (tb_P L xs) 116)) 2 = .ok (.iload_n 1, 1) := show decode (am_cd (tb_me 116)) 2 = .ok (.iload_n 1, 1) from by decide +kernel
theorem k116_3 {L : Nat} {xs : Nat → Int32} : decode (am_cd (am_me (tb_P L xs) 116)) 3 = .ok (.iload_n 2, 1) := show decode (am_cd (tb_me 116)) 3 = .ok (.iload_n 2, 1) from by decide +kernel
theorem k116_4 {L : Nat} {xs : Nat → Int32} : decode (am_cd (am_me (tb_P L xs) 116)) 4 = .ok (.iconst 1, 1) := show decode (am_cd (tb_me 116)) 4 = .ok (.iconst 1, 1) from by decide +kernel
theorem k116_5 {L : Nat} {xs : Nat → Int32} : decode (am_cd (am_me (tb_P L xs) 116)) 5 = .ok (.invokevirtual 129, 3) := show decode (am_cd (tb_me 116)) 5 = .ok (.invokevirtual 129, 3) from by decide +kernel
theorem s116_5 {L : Nat} {xs : Nat → Int32} : am_sp (tb_P L xs) 116 129 = none := show tb_spF 116 129 = none from by decide +kernel
theorem c116_5 {L : Nat} {xs : Nat → Int32} : am_ca (tb_P L xs) 116 129 = some (117, 3, 1) := show tb_caF 116 129 = some (117, 3, 1) from by decide +kernel
theorem r116_5 {L : Nat} {xs : Nat → Int32} : am_rf (am_me (tb_P L xs) 117) + 1 ≤ am_rf (am_me (tb_P L xs) 116) ∧ 1 + (am_ml (am_me (tb_P L xs) 117) + 11) + am_rl (am_me (tb_P L xs) 117) ≤ am_rl (am_me (tb_P L xs) 116) := show am_rf (tb_me 117) + 1 ≤ am_rf (tb_me 116) ∧ 1 + (am_ml (tb_me 117) + 11) + am_rl (tb_me 117) ≤ am_rl (tb_me 116) from by decide +kernel
theorem k116_8 {L : Nat} {xs : Nat → Int32} : decode (am_cd (am_me (tb_P L xs) 116)) 8 = .ok (.ifCond .eq 7, 3) := show decode (am_cd (tb_me 116)) 8 = .ok (.ifCond .eq 7, 3) from by decide +kernel
theorem k116_11 {L : Nat} {xs : Nat → Int32} : decode (am_cd (am_me (tb_P L xs) 116)) 11 = .ok (.iconst 1, 1) := show decode (am_cd (tb_me 116)) 11 = .ok (.iconst 1, 1) from by decide +kernel
theorem k116_12 {L : Nat} {xs : Nat → Int32} : decode (am_cd (am_me (tb_P L xs) 116)) 12 = .ok (.goto 4, 3) := show decode (am_cd (tb_me 116)) 12 = .ok (.goto 4, 3) from by decide +kernel
theorem k116_15 {L : Nat} {xs : Nat → Int32} : decode (am_cd (am_me (tb_P L xs) 116)) 15 = .ok (.iconst 0, 1) := show decode (am_cd (tb_me 116)) 15 = .ok (.iconst 0, 1) from by decide +kernel
theorem k116_16 {L : Nat} {xs : Nat → Int32} : decode (am_cd (am_me (tb_P L xs) 116)) 16 = .ok (.putfield 78, 3) := show decode (am_cd (tb_me 116)) 16 = .ok (.putfield 78, 3) from by decide +kernel
theorem f116_16 {L : Nat} {xs : Nat → Int32} : am_fd (tb_P L xs) 116 78 = some (8, 0, (.int : FieldType), true) := show tb_fdF 116 78 = some (8, 0, (.int : FieldType), true) from by decide +kernel
theorem k116_19 {L : Nat} {xs : Nat → Int32} : decode (am_cd (am_me (tb_P L xs) 116)) 19 = .ok (.aload_n 0, 1) := show decode (am_cd (tb_me 116)) 19 = .ok (.aload_n 0, 1) from by decide +kernel
theorem k116_20 {L : Nat} {xs : Nat → Int32} : decode (am_cd (am_me (tb_P L xs) 116)) 20 = .ok (.getfield 78, 3) := show decode (am_cd (tb_me 116)) 20 = .ok (.getfield 78, 3) from by decide +kernel
theorem f116_20 {L : Nat} {xs : Nat → Int32} : am_fd (tb_P L xs) 116 78 = some (8, 0, (.int : FieldType), true) := show tb_fdF 116 78 = some (8, 0, (.int : FieldType), true) from by decide +kernel
theorem k116_23 {L : Nat} {xs : Nat → Int32} : decode (am_cd (am_me (tb_P L xs) 116)) 23 = .ok (.ifCond .ne 10, 3) := show decode (am_cd (tb_me 116)) 23 = .ok (.ifCond .ne 10, 3) from by decide +kernel
theorem k116_26 {L : Nat} {xs : Nat → Int32} : decode (am_cd (am_me (tb_P L xs) 116)) 26 = .ok (.aload_n 0, 1) := show decode (am_cd (tb_me 116)) 26 = .ok (.aload_n 0, 1) from by decide +kernel
theorem k116_27 {L : Nat} {xs : Nat → Int32} : decode (am_cd (am_me (tb_P L xs) 116)) 27 = .ok (.getfield 44, 3) := show decode (am_cd (tb_me 116)) 27 = .ok (.getfield 44, 3) from by decide +kernel
theorem f116_27 {L : Nat} {xs : Nat → Int32} : am_fd (tb_P L xs) 116 44 = some (8, 15, (.array .int : FieldType), true) := show tb_fdF 116 44 = some (8, 15, (.array .int : FieldType), true) from by decide +kernel
theorem k116_30 {L : Nat} {xs : Nat → Int32} : decode (am_cd (am_me (tb_P L xs) 116)) 30 = .ok (.iload_n 1, 1) := show decode (am_cd (tb_me 116)) 30 = .ok (.iload_n 1, 1) from by decide +kernel
theorem k116_31 {L : Nat} {xs : Nat → Int32} : decode (am_cd (am_me (tb_P L xs) 116)) 31 = .ok (.iload_n 2, 1) := show decode (am_cd (tb_me 116)) 31 = .ok (.iload_n 2, 1) from by decide +kernel
theorem k116_32 {L : Nat} {xs : Nat → Int32} : decode (am_cd (am_me (tb_P L xs) 116)) 32 = .ok (.iastore, 1) := show decode (am_cd (tb_me 116)) 32 = .ok (.iastore, 1) from by decide +kernel
theorem k116_33 {L : Nat} {xs : Nat → Int32} : decode (am_cd (am_me (tb_P L xs) 116)) 33 = .ok (.return_, 1) := show decode (am_cd (tb_me 116)) 33 = .ok (.return_, 1) from by decide +kernel
theorem t116 {L : Nat} {xs : Nat → Int32} : am_rt (am_me (tb_P L xs) 116) = none := show am_rt (tb_me 116) = none from by decide +kernel
theorem l116 {L : Nat} {xs : Nat → Int32} : am_ml (am_me (tb_P L xs) 116) = 3 := show am_ml (tb_me 116) = 3 from by decide +kernel
theorem o116 {L : Nat} {xs : Nat → Int32} (pc : Nat) : am_no (tb_P L xs) 116 pc = true := show (am_hd (tb_me 116)).all (fun q => !(decide (q.1 ≤ pc) && decide (pc < q.2.1))) = true from by rw [show am_hd (tb_me 116) = [] by decide +kernel]; rfl
theorem k117_0 {L : Nat} {xs : Nat → Int32} : decode (am_cd (am_me (tb_P L xs) 117)) 0 = .ok (.aload_n 0, 1) := show decode (am_cd (tb_me 117)) 0 = .ok (.aload_n 0, 1) from by decide +kernel
theorem k117_1 {L : Nat} {xs : Nat → Int32} : decode (am_cd (am_me (tb_P L xs) 117)) 1 = .ok (.iload_n 1, 1) := show decode (am_cd (tb_me 117)) 1 = .ok (.iload_n 1, 1) from by decide +kernel
theorem k117_2 {L : Nat} {xs : Nat → Int32} : decode (am_cd (am_me (tb_P L xs) 117)) 2 = .ok (.invokevirtual 123, 3) := show decode (am_cd (tb_me 117)) 2 = .ok (.invokevirtual 123, 3) from by decide +kernel
theorem s117_2 {L : Nat} {xs : Nat → Int32} : am_sp (tb_P L xs) 117 123 = none := show tb_spF 117 123 = none from by decide +kernel
theorem c117_2 {L : Nat} {xs : Nat → Int32} : am_ca (tb_P L xs) 117 123 = some (115, 1, 1) := show tb_caF 117 123 = some (115, 1, 1) from by decide +kernel
theorem r117_2 {L : Nat} {xs : Nat → Int32} : am_rf (am_me (tb_P L xs) 115) + 1 ≤ am_rf (am_me (tb_P L xs) 117) ∧ 0 + (am_ml (am_me (tb_P L xs) 115) + 11) + am_rl (am_me (tb_P L xs) 115) ≤ am_rl (am_me (tb_P L xs) 117) := show am_rf (tb_me 115) + 1 ≤ am_rf (tb_me 117) ∧ 0 + (am_ml (tb_me 115) + 11) + am_rl (tb_me 115) ≤ am_rl (tb_me 117) from by decide +kernel
theorem k117_5 {L : Nat} {xs : Nat → Int32} : decode (am_cd (am_me (tb_P L xs) 117)) 5 = .ok (.ifCond .ne 39, 3) := show decode (am_cd (tb_me 117)) 5 = .ok (.ifCond .ne 39, 3) from by decide +kernel
theorem k117_8 {L : Nat} {xs : Nat → Int32} : decode (am_cd (am_me (tb_P L xs) 117)) 8 = .ok (.aload_n 0, 1) := show decode (am_cd (tb_me 117)) 8 = .ok (.aload_n 0, 1) from by decide +kernel
theorem k117_9 {L : Nat} {xs : Nat → Int32} : decode (am_cd (am_me (tb_P L xs) 117)) 9 = .ok (.iload_n 2, 1) := show decode (am_cd (tb_me 117)) 9 = .ok (.iload_n 2, 1) from by decide +kernel
theorem k117_10 {L : Nat} {xs : Nat → Int32} : decode (am_cd (am_me (tb_P L xs) 117)) 10 = .ok (.invokevirtual 126, 3) := show decode (am_cd (tb_me 117)) 10 = .ok (.invokevirtual 126, 3) from by decide +kernel
theorem s117_10 {L : Nat} {xs : Nat → Int32} : am_sp (tb_P L xs) 117 126 = none := show tb_spF 117 126 = none from by decide +kernel
theorem c117_10 {L : Nat} {xs : Nat → Int32} : am_ca (tb_P L xs) 117 126 = some (118, 1, 1) := show tb_caF 117 126 = some (118, 1, 1) from by decide +kernel
theorem r117_10 {L : Nat} {xs : Nat → Int32} : am_rf (am_me (tb_P L xs) 118) + 1 ≤ am_rf (am_me (tb_P L xs) 117) ∧ 0 + (am_ml (am_me (tb_P L xs) 118) + 11) + am_rl (am_me (tb_P L xs) 118) ≤ am_rl (am_me (tb_P L xs) 117) := show am_rf (tb_me 118) + 1 ≤ am_rf (tb_me 117) ∧ 0 + (am_ml (tb_me 118) + 11) + am_rl (tb_me 118) ≤ am_rl (tb_me 117) from by decide +kernel
theorem k117_13 {L : Nat} {xs : Nat → Int32} : decode (am_cd (am_me (tb_P L xs) 117)) 13 = .ok (.ifCond .ne 31, 3) := show decode (am_cd (tb_me 117)) 13 = .ok (.ifCond .ne 31, 3) from by decide +kernel
theorem k117_16 {L : Nat} {xs : Nat → Int32} : decode (am_cd (am_me (tb_P L xs) 117)) 16 = .ok (.aload_n 0, 1) := show decode (am_cd (tb_me 117)) 16 = .ok (.aload_n 0, 1) from by decide +kernel
theorem k117_17 {L : Nat} {xs : Nat → Int32} : decode (am_cd (am_me (tb_P L xs) 117)) 17 = .ok (.getfield 25, 3) := show decode (am_cd (tb_me 117)) 17 = .ok (.getfield 25, 3) from by decide +kernel
theorem f117_17 {L : Nat} {xs : Nat → Int32} : am_fd (tb_P L xs) 117 25 = some (8, 8, (.array .boolean : FieldType), true) := show tb_fdF 117 25 = some (8, 8, (.array .boolean : FieldType), true) from by decide +kernel
theorem k117_20 {L : Nat} {xs : Nat → Int32} : decode (am_cd (am_me (tb_P L xs) 117)) 20 = .ok (.iload_n 2, 1) := show decode (am_cd (tb_me 117)) 20 = .ok (.iload_n 2, 1) from by decide +kernel
theorem k117_21 {L : Nat} {xs : Nat → Int32} : decode (am_cd (am_me (tb_P L xs) 117)) 21 = .ok (.baload, 1) := show decode (am_cd (tb_me 117)) 21 = .ok (.baload, 1) from by decide +kernel
theorem k117_22 {L : Nat} {xs : Nat → Int32} : decode (am_cd (am_me (tb_P L xs) 117)) 22 = .ok (.iload_n 3, 1) := show decode (am_cd (tb_me 117)) 22 = .ok (.iload_n 3, 1) from by decide +kernel
theorem k117_23 {L : Nat} {xs : Nat → Int32} : decode (am_cd (am_me (tb_P L xs) 117)) 23 = .ok (.if_icmp .ne 21, 3) := show decode (am_cd (tb_me 117)) 23 = .ok (.if_icmp .ne 21, 3) from by decide +kernel
theorem k117_26 {L : Nat} {xs : Nat → Int32} : decode (am_cd (am_me (tb_P L xs) 117)) 26 = .ok (.aload_n 0, 1) := show decode (am_cd (tb_me 117)) 26 = .ok (.aload_n 0, 1) from by decide +kernel
theorem k117_27 {L : Nat} {xs : Nat → Int32} : decode (am_cd (am_me (tb_P L xs) 117)) 27 = .ok (.getfield 35, 3) := show decode (am_cd (tb_me 117)) 27 = .ok (.getfield 35, 3) from by decide +kernel
theorem f117_27 {L : Nat} {xs : Nat → Int32} : am_fd (tb_P L xs) 117 35 = some (8, 12, (.array .int : FieldType), true) := show tb_fdF 117 35 = some (8, 12, (.array .int : FieldType), true) from by decide +kernel
theorem k117_30 {L : Nat} {xs : Nat → Int32} : decode (am_cd (am_me (tb_P L xs) 117)) 30 = .ok (.iload_n 1, 1) := show decode (am_cd (tb_me 117)) 30 = .ok (.iload_n 1, 1) from by decide +kernel
theorem k117_31 {L : Nat} {xs : Nat → Int32} : decode (am_cd (am_me (tb_P L xs) 117)) 31 = .ok (.iaload, 1) := show decode (am_cd (tb_me 117)) 31 = .ok (.iaload, 1) from by decide +kernel
theorem k117_32 {L : Nat} {xs : Nat → Int32} : decode (am_cd (am_me (tb_P L xs) 117)) 32 = .ok (.ifCond .ne 16, 3) := show decode (am_cd (tb_me 117)) 32 = .ok (.ifCond .ne 16, 3) from by decide +kernel
theorem k117_35 {L : Nat} {xs : Nat → Int32} : decode (am_cd (am_me (tb_P L xs) 117)) 35 = .ok (.aload_n 0, 1) := show decode (am_cd (tb_me 117)) 35 = .ok (.aload_n 0, 1) from by decide +kernel
theorem k117_36 {L : Nat} {xs : Nat → Int32} : decode (am_cd (am_me (tb_P L xs) 117)) 36 = .ok (.getfield 32, 3) := show decode (am_cd (tb_me 117)) 36 = .ok (.getfield 32, 3) from by decide +kernel
theorem f117_36 {L : Nat} {xs : Nat → Int32} : am_fd (tb_P L xs) 117 32 = some (8, 10, (.array .boolean : FieldType), true) := show tb_fdF 117 32 = some (8, 10, (.array .boolean : FieldType), true) from by decide +kernel
theorem k117_39 {L : Nat} {xs : Nat → Int32} : decode (am_cd (am_me (tb_P L xs) 117)) 39 = .ok (.iload_n 2, 1) := show decode (am_cd (tb_me 117)) 39 = .ok (.iload_n 2, 1) from by decide +kernel
theorem k117_40 {L : Nat} {xs : Nat → Int32} : decode (am_cd (am_me (tb_P L xs) 117)) 40 = .ok (.baload, 1) := show decode (am_cd (tb_me 117)) 40 = .ok (.baload, 1) from by decide +kernel
theorem k117_41 {L : Nat} {xs : Nat → Int32} : decode (am_cd (am_me (tb_P L xs) 117)) 41 = .ok (.ifCond .eq 7, 3) := show decode (am_cd (tb_me 117)) 41 = .ok (.ifCond .eq 7, 3) from by decide +kernel
theorem k117_44 {L : Nat} {xs : Nat → Int32} : decode (am_cd (am_me (tb_P L xs) 117)) 44 = .ok (.iconst 1, 1) := show decode (am_cd (tb_me 117)) 44 = .ok (.iconst 1, 1) from by decide +kernel
theorem k117_45 {L : Nat} {xs : Nat → Int32} : decode (am_cd (am_me (tb_P L xs) 117)) 45 = .ok (.goto 4, 3) := show decode (am_cd (tb_me 117)) 45 = .ok (.goto 4, 3) from by decide +kernel
theorem k117_48 {L : Nat} {xs : Nat → Int32} : decode (am_cd (am_me (tb_P L xs) 117)) 48 = .ok (.iconst 0, 1) := show decode (am_cd (tb_me 117)) 48 = .ok (.iconst 0, 1) from by decide +kernel
theorem k117_49 {L : Nat} {xs : Nat → Int32} : decode (am_cd (am_me (tb_P L xs) 117)) 49 = .ok (.ireturn, 1) := show decode (am_cd (tb_me 117)) 49 = .ok (.ireturn, 1) from by decide +kernel
theorem t117 {L : Nat} {xs : Nat → Int32} : am_rt (am_me (tb_P L xs) 117) = some (.boolean : FieldType) := show am_rt (tb_me 117) = some (.boolean : FieldType) from by decide +kernel
theorem l117 {L : Nat} {xs : Nat → Int32} : am_ml (am_me (tb_P L xs) 117) = 4 := show am_ml (tb_me 117) = 4 from by decide +kernel
theorem o117 {L : Nat} {xs : Nat → Int32} (pc : Nat) : am_no (tb_P L xs) 117 pc = true := show (am_hd (tb_me 117)).all (fun q => !(decide (q.1 ≤ pc) && decide (pc < q.2.1))) = true from by rw [show am_hd (tb_me 117) = [] by decide +kernel]; rfl
theorem k118_0 {L : Nat} {xs : Nat → Int32} : decode (am_cd (am_me (tb_P L xs) 118)) 0 = .ok (.iload_n 1, 1) := show decode (am_cd (tb_me 118)) 0 = .ok (.iload_n 1, 1) from by decide +kernel
theorem k118_1 {L : Nat} {xs : Nat → Int32} : decode (am_cd (am_me (tb_P L xs) 118)) 1 = .ok (.ifCond .lt 11, 3) := show decode (am_cd (tb_me 118)) 1 = .ok (.ifCond .lt 11, 3) from by decide +kernel
theorem k118_4 {L : Nat} {xs : Nat → Int32} : decode (am_cd (am_me (tb_P L xs) 118)) 4 = .ok (.iload_n 1, 1) := show decode (am_cd (tb_me 118)) 4 = .ok (.iload_n 1, 1) from by decide +kernel
theorem k118_5 {L : Nat} {xs : Nat → Int32} : decode (am_cd (am_me (tb_P L xs) 118)) 5 = .ok (.aload_n 0, 1) := show decode (am_cd (tb_me 118)) 5 = .ok (.aload_n 0, 1) from by decide +kernel
theorem k118_6 {L : Nat} {xs : Nat → Int32} : decode (am_cd (am_me (tb_P L xs) 118)) 6 = .ok (.getfield 106, 3) := show decode (am_cd (tb_me 118)) 6 = .ok (.getfield 106, 3) from by decide +kernel
theorem f118_6 {L : Nat} {xs : Nat → Int32} : am_fd (tb_P L xs) 118 106 = some (8, 5, (.int : FieldType), true) := show tb_fdF 118 106 = some (8, 5, (.int : FieldType), true) from by decide +kernel
theorem k118_9 {L : Nat} {xs : Nat → Int32} : decode (am_cd (am_me (tb_P L xs) 118)) 9 = .ok (.if_icmp .lt 7, 3) := show decode (am_cd (tb_me 118)) 9 = .ok (.if_icmp .lt 7, 3) from by decide +kernel
theorem k118_12 {L : Nat} {xs : Nat → Int32} : decode (am_cd (am_me (tb_P L xs) 118)) 12 = .ok (.iconst 1, 1) := show decode (am_cd (tb_me 118)) 12 = .ok (.iconst 1, 1) from by decide +kernel
theorem k118_13 {L : Nat} {xs : Nat → Int32} : decode (am_cd (am_me (tb_P L xs) 118)) 13 = .ok (.goto 4, 3) := show decode (am_cd (tb_me 118)) 13 = .ok (.goto 4, 3) from by decide +kernel
theorem k118_16 {L : Nat} {xs : Nat → Int32} : decode (am_cd (am_me (tb_P L xs) 118)) 16 = .ok (.iconst 0, 1) := show decode (am_cd (tb_me 118)) 16 = .ok (.iconst 0, 1) from by decide +kernel
theorem k118_17 {L : Nat} {xs : Nat → Int32} : decode (am_cd (am_me (tb_P L xs) 118)) 17 = .ok (.ireturn, 1) := show decode (am_cd (tb_me 118)) 17 = .ok (.ireturn, 1) from by decide +kernel
theorem t118 {L : Nat} {xs : Nat → Int32} : am_rt (am_me (tb_P L xs) 118) = some (.boolean : FieldType) := show am_rt (tb_me 118) = some (.boolean : FieldType) from by decide +kernel
theorem l118 {L : Nat} {xs : Nat → Int32} : am_ml (am_me (tb_P L xs) 118) = 2 := show am_ml (tb_me 118) = 2 from by decide +kernel
theorem o118 {L : Nat} {xs : Nat → Int32} (pc : Nat) : am_no (tb_P L xs) 118 pc = true := show (am_hd (tb_me 118)).all (fun q => !(decide (q.1 ≤ pc) && decide (pc < q.2.1))) = true from by rw [show am_hd (tb_me 118) = [] by decide +kernel]; rfl
theorem k119_0 {L : Nat} {xs : Nat → Int32} : decode (am_cd (am_me (tb_P L xs) 119)) 0 = .ok (.aload_n 0, 1) := show decode (am_cd (tb_me 119)) 0 = .ok (.aload_n 0, 1) from by decide +kernel
theorem k119_1 {L : Nat} {xs : Nat → Int32} : decode (am_cd (am_me (tb_P L xs) 119)) 1 = .ok (.aload_n 0, 1) := show decode (am_cd (tb_me 119)) 1 = .ok (.aload_n 0, 1) from by decide +kernel
theorem k119_2 {L : Nat} {xs : Nat → Int32} : decode (am_cd (am_me (tb_P L xs) 119)) 2 = .ok (.iload_n 1, 1) := show decode (am_cd (tb_me 119)) 2 = .ok (.iload_n 1, 1) from by decide +kernel
theorem k119_3 {L : Nat} {xs : Nat → Int32} : decode (am_cd (am_me (tb_P L xs) 119)) 3 = .ok (.iload_n 3, 1) := show decode (am_cd (tb_me 119)) 3 = .ok (.iload_n 3, 1) from by decide +kernel
theorem k119_4 {L : Nat} {xs : Nat → Int32} : decode (am_cd (am_me (tb_P L xs) 119)) 4 = .ok (.iconst 0, 1) := show decode (am_cd (tb_me 119)) 4 = .ok (.iconst 0, 1) from by decide +kernel
theorem k119_5 {L : Nat} {xs : Nat → Int32} : decode (am_cd (am_me (tb_P L xs) 119)) 5 = .ok (.invokevirtual 129, 3) := show decode (am_cd (tb_me 119)) 5 = .ok (.invokevirtual 129, 3) from by decide +kernel
theorem s119_5 {L : Nat} {xs : Nat → Int32} : am_sp (tb_P L xs) 119 129 = none := show tb_spF 119 129 = none from by decide +kernel
theorem c119_5 {L : Nat} {xs : Nat → Int32} : am_ca (tb_P L xs) 119 129 = some (117, 3, 1) := show tb_caF 119 129 = some (117, 3, 1) from by decide +kernel
theorem r119_5 {L : Nat} {xs : Nat → Int32} : am_rf (am_me (tb_P L xs) 117) + 1 ≤ am_rf (am_me (tb_P L xs) 119) ∧ 1 + (am_ml (am_me (tb_P L xs) 117) + 11) + am_rl (am_me (tb_P L xs) 117) ≤ am_rl (am_me (tb_P L xs) 119) := show am_rf (tb_me 117) + 1 ≤ am_rf (tb_me 119) ∧ 1 + (am_ml (tb_me 117) + 11) + am_rl (tb_me 117) ≤ am_rl (tb_me 119) from by decide +kernel
theorem k119_8 {L : Nat} {xs : Nat → Int32} : decode (am_cd (am_me (tb_P L xs) 119)) 8 = .ok (.ifCond .ne 24, 3) := show decode (am_cd (tb_me 119)) 8 = .ok (.ifCond .ne 24, 3) from by decide +kernel
theorem k119_11 {L : Nat} {xs : Nat → Int32} : decode (am_cd (am_me (tb_P L xs) 119)) 11 = .ok (.iload_n 2, 1) := show decode (am_cd (tb_me 119)) 11 = .ok (.iload_n 2, 1) from by decide +kernel
theorem k119_12 {L : Nat} {xs : Nat → Int32} : decode (am_cd (am_me (tb_P L xs) 119)) 12 = .ok (.ifCond .lt 20, 3) := show decode (am_cd (tb_me 119)) 12 = .ok (.ifCond .lt 20, 3) from by decide +kernel
theorem k119_15 {L : Nat} {xs : Nat → Int32} : decode (am_cd (am_me (tb_P L xs) 119)) 15 = .ok (.iload_n 2, 1) := show decode (am_cd (tb_me 119)) 15 = .ok (.iload_n 2, 1) from by decide +kernel
theorem k119_16 {L : Nat} {xs : Nat → Int32} : decode (am_cd (am_me (tb_P L xs) 119)) 16 = .ok (.iconst 5, 1) := show decode (am_cd (tb_me 119)) 16 = .ok (.iconst 5, 1) from by decide +kernel
theorem k119_17 {L : Nat} {xs : Nat → Int32} : decode (am_cd (am_me (tb_P L xs) 119)) 17 = .ok (.if_icmp .gt 15, 3) := show decode (am_cd (tb_me 119)) 17 = .ok (.if_icmp .gt 15, 3) from by decide +kernel
theorem k119_20 {L : Nat} {xs : Nat → Int32} : decode (am_cd (am_me (tb_P L xs) 119)) 20 = .ok (.iload_n 2, 1) := show decode (am_cd (tb_me 119)) 20 = .ok (.iload_n 2, 1) from by decide +kernel
theorem k119_21 {L : Nat} {xs : Nat → Int32} : decode (am_cd (am_me (tb_P L xs) 119)) 21 = .ok (.iconst 3, 1) := show decode (am_cd (tb_me 119)) 21 = .ok (.iconst 3, 1) from by decide +kernel
theorem k119_22 {L : Nat} {xs : Nat → Int32} : decode (am_cd (am_me (tb_P L xs) 119)) 22 = .ok (.idiv, 1) := show decode (am_cd (tb_me 119)) 22 = .ok (.idiv, 1) from by decide +kernel
theorem k119_23 {L : Nat} {xs : Nat → Int32} : decode (am_cd (am_me (tb_P L xs) 119)) 23 = .ok (.aload_n 0, 1) := show decode (am_cd (tb_me 119)) 23 = .ok (.aload_n 0, 1) from by decide +kernel
theorem k119_24 {L : Nat} {xs : Nat → Int32} : decode (am_cd (am_me (tb_P L xs) 119)) 24 = .ok (.getfield 35, 3) := show decode (am_cd (tb_me 119)) 24 = .ok (.getfield 35, 3) from by decide +kernel
theorem f119_24 {L : Nat} {xs : Nat → Int32} : am_fd (tb_P L xs) 119 35 = some (8, 12, (.array .int : FieldType), true) := show tb_fdF 119 35 = some (8, 12, (.array .int : FieldType), true) from by decide +kernel
theorem k119_27 {L : Nat} {xs : Nat → Int32} : decode (am_cd (am_me (tb_P L xs) 119)) 27 = .ok (.iload_n 1, 1) := show decode (am_cd (tb_me 119)) 27 = .ok (.iload_n 1, 1) from by decide +kernel
theorem k119_28 {L : Nat} {xs : Nat → Int32} : decode (am_cd (am_me (tb_P L xs) 119)) 28 = .ok (.iaload, 1) := show decode (am_cd (tb_me 119)) 28 = .ok (.iaload, 1) from by decide +kernel
theorem k119_29 {L : Nat} {xs : Nat → Int32} : decode (am_cd (am_me (tb_P L xs) 119)) 29 = .ok (.if_icmp .eq 7, 3) := show decode (am_cd (tb_me 119)) 29 = .ok (.if_icmp .eq 7, 3) from by decide +kernel
theorem k119_32 {L : Nat} {xs : Nat → Int32} : decode (am_cd (am_me (tb_P L xs) 119)) 32 = .ok (.iconst 1, 1) := show decode (am_cd (tb_me 119)) 32 = .ok (.iconst 1, 1) from by decide +kernel
theorem k119_33 {L : Nat} {xs : Nat → Int32} : decode (am_cd (am_me (tb_P L xs) 119)) 33 = .ok (.goto 4, 3) := show decode (am_cd (tb_me 119)) 33 = .ok (.goto 4, 3) from by decide +kernel
theorem k119_36 {L : Nat} {xs : Nat → Int32} : decode (am_cd (am_me (tb_P L xs) 119)) 36 = .ok (.iconst 0, 1) := show decode (am_cd (tb_me 119)) 36 = .ok (.iconst 0, 1) from by decide +kernel
theorem k119_37 {L : Nat} {xs : Nat → Int32} : decode (am_cd (am_me (tb_P L xs) 119)) 37 = .ok (.putfield 78, 3) := show decode (am_cd (tb_me 119)) 37 = .ok (.putfield 78, 3) from by decide +kernel
theorem f119_37 {L : Nat} {xs : Nat → Int32} : am_fd (tb_P L xs) 119 78 = some (8, 0, (.int : FieldType), true) := show tb_fdF 119 78 = some (8, 0, (.int : FieldType), true) from by decide +kernel
theorem k119_40 {L : Nat} {xs : Nat → Int32} : decode (am_cd (am_me (tb_P L xs) 119)) 40 = .ok (.aload_n 0, 1) := show decode (am_cd (tb_me 119)) 40 = .ok (.aload_n 0, 1) from by decide +kernel
theorem k119_41 {L : Nat} {xs : Nat → Int32} : decode (am_cd (am_me (tb_P L xs) 119)) 41 = .ok (.getfield 78, 3) := show decode (am_cd (tb_me 119)) 41 = .ok (.getfield 78, 3) from by decide +kernel
theorem f119_41 {L : Nat} {xs : Nat → Int32} : am_fd (tb_P L xs) 119 78 = some (8, 0, (.int : FieldType), true) := show tb_fdF 119 78 = some (8, 0, (.int : FieldType), true) from by decide +kernel
theorem k119_44 {L : Nat} {xs : Nat → Int32} : decode (am_cd (am_me (tb_P L xs) 119)) 44 = .ok (.ifCond .ne 15, 3) := show decode (am_cd (tb_me 119)) 44 = .ok (.ifCond .ne 15, 3) from by decide +kernel
theorem k119_47 {L : Nat} {xs : Nat → Int32} : decode (am_cd (am_me (tb_P L xs) 119)) 47 = .ok (.aload_n 0, 1) := show decode (am_cd (tb_me 119)) 47 = .ok (.aload_n 0, 1) from by decide +kernel
theorem k119_48 {L : Nat} {xs : Nat → Int32} : decode (am_cd (am_me (tb_P L xs) 119)) 48 = .ok (.getfield 47, 3) := show decode (am_cd (tb_me 119)) 48 = .ok (.getfield 47, 3) from by decide +kernel
theorem f119_48 {L : Nat} {xs : Nat → Int32} : am_fd (tb_P L xs) 119 47 = some (8, 16, (.array .int : FieldType), true) := show tb_fdF 119 47 = some (8, 16, (.array .int : FieldType), true) from by decide +kernel
theorem k119_51 {L : Nat} {xs : Nat → Int32} : decode (am_cd (am_me (tb_P L xs) 119)) 51 = .ok (.bipush 6, 2) := show decode (am_cd (tb_me 119)) 51 = .ok (.bipush 6, 2) from by decide +kernel
theorem k119_53 {L : Nat} {xs : Nat → Int32} : decode (am_cd (am_me (tb_P L xs) 119)) 53 = .ok (.iload_n 1, 1) := show decode (am_cd (tb_me 119)) 53 = .ok (.iload_n 1, 1) from by decide +kernel
theorem k119_54 {L : Nat} {xs : Nat → Int32} : decode (am_cd (am_me (tb_P L xs) 119)) 54 = .ok (.imul, 1) := show decode (am_cd (tb_me 119)) 54 = .ok (.imul, 1) from by decide +kernel
theorem k119_55 {L : Nat} {xs : Nat → Int32} : decode (am_cd (am_me (tb_P L xs) 119)) 55 = .ok (.iload_n 2, 1) := show decode (am_cd (tb_me 119)) 55 = .ok (.iload_n 2, 1) from by decide +kernel
theorem k119_56 {L : Nat} {xs : Nat → Int32} : decode (am_cd (am_me (tb_P L xs) 119)) 56 = .ok (.iadd, 1) := show decode (am_cd (tb_me 119)) 56 = .ok (.iadd, 1) from by decide +kernel
theorem k119_57 {L : Nat} {xs : Nat → Int32} : decode (am_cd (am_me (tb_P L xs) 119)) 57 = .ok (.iload_n 3, 1) := show decode (am_cd (tb_me 119)) 57 = .ok (.iload_n 3, 1) from by decide +kernel
theorem k119_58 {L : Nat} {xs : Nat → Int32} : decode (am_cd (am_me (tb_P L xs) 119)) 58 = .ok (.iastore, 1) := show decode (am_cd (tb_me 119)) 58 = .ok (.iastore, 1) from by decide +kernel
theorem k119_59 {L : Nat} {xs : Nat → Int32} : decode (am_cd (am_me (tb_P L xs) 119)) 59 = .ok (.return_, 1) := show decode (am_cd (tb_me 119)) 59 = .ok (.return_, 1) from by decide +kernel
theorem t119 {L : Nat} {xs : Nat → Int32} : am_rt (am_me (tb_P L xs) 119) = none := show am_rt (tb_me 119) = none from by decide +kernel
theorem l119 {L : Nat} {xs : Nat → Int32} : am_ml (am_me (tb_P L xs) 119) = 4 := show am_ml (tb_me 119) = 4 from by decide +kernel
theorem o119 {L : Nat} {xs : Nat → Int32} (pc : Nat) : am_no (tb_P L xs) 119 pc = true := show (am_hd (tb_me 119)).all (fun q => !(decide (q.1 ≤ pc) && decide (pc < q.2.1))) = true from by rw [show am_hd (tb_me 119) = [] by decide +kernel]; rfl
theorem k120_0 {L : Nat} {xs : Nat → Int32} : decode (am_cd (am_me (tb_P L xs) 120)) 0 = .ok (.aload_n 0, 1) := show decode (am_cd (tb_me 120)) 0 = .ok (.aload_n 0, 1) from by decide +kernel
theorem k120_1 {L : Nat} {xs : Nat → Int32} : decode (am_cd (am_me (tb_P L xs) 120)) 1 = .ok (.aload_n 0, 1) := show decode (am_cd (tb_me 120)) 1 = .ok (.aload_n 0, 1) from by decide +kernel
theorem k120_2 {L : Nat} {xs : Nat → Int32} : decode (am_cd (am_me (tb_P L xs) 120)) 2 = .ok (.iload_n 1, 1) := show decode (am_cd (tb_me 120)) 2 = .ok (.iload_n 1, 1) from by decide +kernel
theorem k120_3 {L : Nat} {xs : Nat → Int32} : decode (am_cd (am_me (tb_P L xs) 120)) 3 = .ok (.iload_n 2, 1) := show decode (am_cd (tb_me 120)) 3 = .ok (.iload_n 2, 1) from by decide +kernel
theorem k120_4 {L : Nat} {xs : Nat → Int32} : decode (am_cd (am_me (tb_P L xs) 120)) 4 = .ok (.iconst 0, 1) := show decode (am_cd (tb_me 120)) 4 = .ok (.iconst 0, 1) from by decide +kernel
theorem k120_5 {L : Nat} {xs : Nat → Int32} : decode (am_cd (am_me (tb_P L xs) 120)) 5 = .ok (.invokevirtual 129, 3) := show decode (am_cd (tb_me 120)) 5 = .ok (.invokevirtual 129, 3) from by decide +kernel
theorem s120_5 {L : Nat} {xs : Nat → Int32} : am_sp (tb_P L xs) 120 129 = none := show tb_spF 120 129 = none from by decide +kernel
theorem c120_5 {L : Nat} {xs : Nat → Int32} : am_ca (tb_P L xs) 120 129 = some (117, 3, 1) := show tb_caF 120 129 = some (117, 3, 1) from by decide +kernel
theorem r120_5 {L : Nat} {xs : Nat → Int32} : am_rf (am_me (tb_P L xs) 117) + 1 ≤ am_rf (am_me (tb_P L xs) 120) ∧ 1 + (am_ml (am_me (tb_P L xs) 117) + 11) + am_rl (am_me (tb_P L xs) 117) ≤ am_rl (am_me (tb_P L xs) 120) := show am_rf (tb_me 117) + 1 ≤ am_rf (tb_me 120) ∧ 1 + (am_ml (tb_me 117) + 11) + am_rl (tb_me 117) ≤ am_rl (tb_me 120) from by decide +kernel
theorem k120_8 {L : Nat} {xs : Nat → Int32} : decode (am_cd (am_me (tb_P L xs) 120)) 8 = .ok (.ifCond .ne 13, 3) := show decode (am_cd (tb_me 120)) 8 = .ok (.ifCond .ne 13, 3) from by decide +kernel
theorem k120_11 {L : Nat} {xs : Nat → Int32} : decode (am_cd (am_me (tb_P L xs) 120)) 11 = .ok (.aload_n 0, 1) := show decode (am_cd (tb_me 120)) 11 = .ok (.aload_n 0, 1) from by decide +kernel
theorem k120_12 {L : Nat} {xs : Nat → Int32} : decode (am_cd (am_me (tb_P L xs) 120)) 12 = .ok (.getfield 41, 3) := show decode (am_cd (tb_me 120)) 12 = .ok (.getfield 41, 3) from by decide +kernel
theorem f120_12 {L : Nat} {xs : Nat → Int32} : am_fd (tb_P L xs) 120 41 = some (8, 14, (.array .int : FieldType), true) := show tb_fdF 120 41 = some (8, 14, (.array .int : FieldType), true) from by decide +kernel
theorem k120_15 {L : Nat} {xs : Nat → Int32} : decode (am_cd (am_me (tb_P L xs) 120)) 15 = .ok (.iload_n 1, 1) := show decode (am_cd (tb_me 120)) 15 = .ok (.iload_n 1, 1) from by decide +kernel
theorem k120_16 {L : Nat} {xs : Nat → Int32} : decode (am_cd (am_me (tb_P L xs) 120)) 16 = .ok (.iaload, 1) := show decode (am_cd (tb_me 120)) 16 = .ok (.iaload, 1) from by decide +kernel
theorem k120_17 {L : Nat} {xs : Nat → Int32} : decode (am_cd (am_me (tb_P L xs) 120)) 17 = .ok (.iconst (-1), 1) := show decode (am_cd (tb_me 120)) 17 = .ok (.iconst (-1), 1) from by decide +kernel
theorem k120_18 {L : Nat} {xs : Nat → Int32} : decode (am_cd (am_me (tb_P L xs) 120)) 18 = .ok (.if_icmp .ne 7, 3) := show decode (am_cd (tb_me 120)) 18 = .ok (.if_icmp .ne 7, 3) from by decide +kernel
theorem k120_21 {L : Nat} {xs : Nat → Int32} : decode (am_cd (am_me (tb_P L xs) 120)) 21 = .ok (.iconst 1, 1) := show decode (am_cd (tb_me 120)) 21 = .ok (.iconst 1, 1) from by decide +kernel
theorem k120_22 {L : Nat} {xs : Nat → Int32} : decode (am_cd (am_me (tb_P L xs) 120)) 22 = .ok (.goto 4, 3) := show decode (am_cd (tb_me 120)) 22 = .ok (.goto 4, 3) from by decide +kernel
theorem k120_25 {L : Nat} {xs : Nat → Int32} : decode (am_cd (am_me (tb_P L xs) 120)) 25 = .ok (.iconst 0, 1) := show decode (am_cd (tb_me 120)) 25 = .ok (.iconst 0, 1) from by decide +kernel
theorem k120_26 {L : Nat} {xs : Nat → Int32} : decode (am_cd (am_me (tb_P L xs) 120)) 26 = .ok (.putfield 78, 3) := show decode (am_cd (tb_me 120)) 26 = .ok (.putfield 78, 3) from by decide +kernel
theorem f120_26 {L : Nat} {xs : Nat → Int32} : am_fd (tb_P L xs) 120 78 = some (8, 0, (.int : FieldType), true) := show tb_fdF 120 78 = some (8, 0, (.int : FieldType), true) from by decide +kernel
theorem k120_29 {L : Nat} {xs : Nat → Int32} : decode (am_cd (am_me (tb_P L xs) 120)) 29 = .ok (.aload_n 0, 1) := show decode (am_cd (tb_me 120)) 29 = .ok (.aload_n 0, 1) from by decide +kernel
theorem k120_30 {L : Nat} {xs : Nat → Int32} : decode (am_cd (am_me (tb_P L xs) 120)) 30 = .ok (.getfield 78, 3) := show decode (am_cd (tb_me 120)) 30 = .ok (.getfield 78, 3) from by decide +kernel
theorem f120_30 {L : Nat} {xs : Nat → Int32} : am_fd (tb_P L xs) 120 78 = some (8, 0, (.int : FieldType), true) := show tb_fdF 120 78 = some (8, 0, (.int : FieldType), true) from by decide +kernel
theorem k120_33 {L : Nat} {xs : Nat → Int32} : decode (am_cd (am_me (tb_P L xs) 120)) 33 = .ok (.ifCond .ne 10, 3) := show decode (am_cd (tb_me 120)) 33 = .ok (.ifCond .ne 10, 3) from by decide +kernel
theorem k120_36 {L : Nat} {xs : Nat → Int32} : decode (am_cd (am_me (tb_P L xs) 120)) 36 = .ok (.aload_n 0, 1) := show decode (am_cd (tb_me 120)) 36 = .ok (.aload_n 0, 1) from by decide +kernel
theorem k120_37 {L : Nat} {xs : Nat → Int32} : decode (am_cd (am_me (tb_P L xs) 120)) 37 = .ok (.getfield 50, 3) := show decode (am_cd (tb_me 120)) 37 = .ok (.getfield 50, 3) from by decide +kernel
theorem f120_37 {L : Nat} {xs : Nat → Int32} : am_fd (tb_P L xs) 120 50 = some (8, 17, (.array .int : FieldType), true) := show tb_fdF 120 50 = some (8, 17, (.array .int : FieldType), true) from by decide +kernel
theorem k120_40 {L : Nat} {xs : Nat → Int32} : decode (am_cd (am_me (tb_P L xs) 120)) 40 = .ok (.iload_n 1, 1) := show decode (am_cd (tb_me 120)) 40 = .ok (.iload_n 1, 1) from by decide +kernel
theorem k120_41 {L : Nat} {xs : Nat → Int32} : decode (am_cd (am_me (tb_P L xs) 120)) 41 = .ok (.iload_n 2, 1) := show decode (am_cd (tb_me 120)) 41 = .ok (.iload_n 2, 1) from by decide +kernel
theorem k120_42 {L : Nat} {xs : Nat → Int32} : decode (am_cd (am_me (tb_P L xs) 120)) 42 = .ok (.iastore, 1) := show decode (am_cd (tb_me 120)) 42 = .ok (.iastore, 1) from by decide +kernel
theorem k120_43 {L : Nat} {xs : Nat → Int32} : decode (am_cd (am_me (tb_P L xs) 120)) 43 = .ok (.return_, 1) := show decode (am_cd (tb_me 120)) 43 = .ok (.return_, 1) from by decide +kernel
theorem t120 {L : Nat} {xs : Nat → Int32} : am_rt (am_me (tb_P L xs) 120) = none := show am_rt (tb_me 120) = none from by decide +kernel
theorem l120 {L : Nat} {xs : Nat → Int32} : am_ml (am_me (tb_P L xs) 120) = 3 := show am_ml (tb_me 120) = 3 from by decide +kernel
theorem o120 {L : Nat} {xs : Nat → Int32} (pc : Nat) : am_no (tb_P L xs) 120 pc = true := show (am_hd (tb_me 120)).all (fun q => !(decide (q.1 ≤ pc) && decide (pc < q.2.1))) = true from by rw [show am_hd (tb_me 120) = [] by decide +kernel]; rfl
theorem k121_0 {L : Nat} {xs : Nat → Int32} : decode (am_cd (am_me (tb_P L xs) 121)) 0 = .ok (.iload_n 1, 1) := show decode (am_cd (tb_me 121)) 0 = .ok (.iload_n 1, 1) from by decide +kernel
theorem k121_1 {L : Nat} {xs : Nat → Int32} : decode (am_cd (am_me (tb_P L xs) 121)) 1 = .ok (.ifCond .lt 16, 3) := show decode (am_cd (tb_me 121)) 1 = .ok (.ifCond .lt 16, 3) from by decide +kernel
theorem k121_4 {L : Nat} {xs : Nat → Int32} : decode (am_cd (am_me (tb_P L xs) 121)) 4 = .ok (.iload_n 1, 1) := show decode (am_cd (tb_me 121)) 4 = .ok (.iload_n 1, 1) from by decide +kernel
theorem k121_5 {L : Nat} {xs : Nat → Int32} : decode (am_cd (am_me (tb_P L xs) 121)) 5 = .ok (.iconst 1, 1) := show decode (am_cd (tb_me 121)) 5 = .ok (.iconst 1, 1) from by decide +kernel
theorem k121_6 {L : Nat} {xs : Nat → Int32} : decode (am_cd (am_me (tb_P L xs) 121)) 6 = .ok (.if_icmp .gt 11, 3) := show decode (am_cd (tb_me 121)) 6 = .ok (.if_icmp .gt 11, 3) from by decide +kernel
theorem k121_9 {L : Nat} {xs : Nat → Int32} : decode (am_cd (am_me (tb_P L xs) 121)) 9 = .ok (.aload_n 0, 1) := show decode (am_cd (tb_me 121)) 9 = .ok (.aload_n 0, 1) from by decide +kernel
theorem k121_10 {L : Nat} {xs : Nat → Int32} : decode (am_cd (am_me (tb_P L xs) 121)) 10 = .ok (.iload_n 2, 1) := show decode (am_cd (tb_me 121)) 10 = .ok (.iload_n 2, 1) from by decide +kernel
theorem k121_11 {L : Nat} {xs : Nat → Int32} : decode (am_cd (am_me (tb_P L xs) 121)) 11 = .ok (.invokevirtual 126, 3) := show decode (am_cd (tb_me 121)) 11 = .ok (.invokevirtual 126, 3) from by decide +kernel
theorem s121_11 {L : Nat} {xs : Nat → Int32} : am_sp (tb_P L xs) 121 126 = none := show tb_spF 121 126 = none from by decide +kernel
theorem c121_11 {L : Nat} {xs : Nat → Int32} : am_ca (tb_P L xs) 121 126 = some (118, 1, 1) := show tb_caF 121 126 = some (118, 1, 1) from by decide +kernel
theorem r121_11 {L : Nat} {xs : Nat → Int32} : am_rf (am_me (tb_P L xs) 118) + 1 ≤ am_rf (am_me (tb_P L xs) 121) ∧ 0 + (am_ml (am_me (tb_P L xs) 118) + 11) + am_rl (am_me (tb_P L xs) 118) ≤ am_rl (am_me (tb_P L xs) 121) := show am_rf (tb_me 118) + 1 ≤ am_rf (tb_me 121) ∧ 0 + (am_ml (tb_me 118) + 11) + am_rl (tb_me 118) ≤ am_rl (tb_me 121) from by decide +kernel
theorem k121_14 {L : Nat} {xs : Nat → Int32} : decode (am_cd (am_me (tb_P L xs) 121)) 14 = .ok (.ifCond .eq 7, 3) := show decode (am_cd (tb_me 121)) 14 = .ok (.ifCond .eq 7, 3) from by decide +kernel
theorem k121_17 {L : Nat} {xs : Nat → Int32} : decode (am_cd (am_me (tb_P L xs) 121)) 17 = .ok (.iconst 1, 1) := show decode (am_cd (tb_me 121)) 17 = .ok (.iconst 1, 1) from by decide +kernel
theorem k121_18 {L : Nat} {xs : Nat → Int32} : decode (am_cd (am_me (tb_P L xs) 121)) 18 = .ok (.goto 4, 3) := show decode (am_cd (tb_me 121)) 18 = .ok (.goto 4, 3) from by decide +kernel
theorem k121_21 {L : Nat} {xs : Nat → Int32} : decode (am_cd (am_me (tb_P L xs) 121)) 21 = .ok (.iconst 0, 1) := show decode (am_cd (tb_me 121)) 21 = .ok (.iconst 0, 1) from by decide +kernel
theorem k121_22 {L : Nat} {xs : Nat → Int32} : decode (am_cd (am_me (tb_P L xs) 121)) 22 = .ok (.istore_n 3, 1) := show decode (am_cd (tb_me 121)) 22 = .ok (.istore_n 3, 1) from by decide +kernel
theorem k121_23 {L : Nat} {xs : Nat → Int32} : decode (am_cd (am_me (tb_P L xs) 121)) 23 = .ok (.iload_n 3, 1) := show decode (am_cd (tb_me 121)) 23 = .ok (.iload_n 3, 1) from by decide +kernel
theorem k121_24 {L : Nat} {xs : Nat → Int32} : decode (am_cd (am_me (tb_P L xs) 121)) 24 = .ok (.ifCond .ne 34, 3) := show decode (am_cd (tb_me 121)) 24 = .ok (.ifCond .ne 34, 3) from by decide +kernel
theorem k121_27 {L : Nat} {xs : Nat → Int32} : decode (am_cd (am_me (tb_P L xs) 121)) 27 = .ok (.aload_n 0, 1) := show decode (am_cd (tb_me 121)) 27 = .ok (.aload_n 0, 1) from by decide +kernel
theorem k121_28 {L : Nat} {xs : Nat → Int32} : decode (am_cd (am_me (tb_P L xs) 121)) 28 = .ok (.getfield 25, 3) := show decode (am_cd (tb_me 121)) 28 = .ok (.getfield 25, 3) from by decide +kernel
theorem f121_28 {L : Nat} {xs : Nat → Int32} : am_fd (tb_P L xs) 121 25 = some (8, 8, (.array .boolean : FieldType), true) := show tb_fdF 121 25 = some (8, 8, (.array .boolean : FieldType), true) from by decide +kernel
theorem k121_31 {L : Nat} {xs : Nat → Int32} : decode (am_cd (am_me (tb_P L xs) 121)) 31 = .ok (.iload_n 2, 1) := show decode (am_cd (tb_me 121)) 31 = .ok (.iload_n 2, 1) from by decide +kernel
theorem k121_32 {L : Nat} {xs : Nat → Int32} : decode (am_cd (am_me (tb_P L xs) 121)) 32 = .ok (.baload, 1) := show decode (am_cd (tb_me 121)) 32 = .ok (.baload, 1) from by decide +kernel
theorem k121_33 {L : Nat} {xs : Nat → Int32} : decode (am_cd (am_me (tb_P L xs) 121)) 33 = .ok (.ifCond .eq 25, 3) := show decode (am_cd (tb_me 121)) 33 = .ok (.ifCond .eq 25, 3) from by decide +kernel
theorem k121_36 {L : Nat} {xs : Nat → Int32} : decode (am_cd (am_me (tb_P L xs) 121)) 36 = .ok (.aload_n 0, 1) := show decode (am_cd (tb_me 121)) 36 = .ok (.aload_n 0, 1) from by decide +kernel
theorem k121_37 {L : Nat} {xs : Nat → Int32} : decode (am_cd (am_me (tb_P L xs) 121)) 37 = .ok (.getfield 29, 3) := show decode (am_cd (tb_me 121)) 37 = .ok (.getfield 29, 3) from by decide +kernel
theorem f121_37 {L : Nat} {xs : Nat → Int32} : am_fd (tb_P L xs) 121 29 = some (8, 9, (.array .boolean : FieldType), true) := show tb_fdF 121 29 = some (8, 9, (.array .boolean : FieldType), true) from by decide +kernel
theorem k121_40 {L : Nat} {xs : Nat → Int32} : decode (am_cd (am_me (tb_P L xs) 121)) 40 = .ok (.iload_n 2, 1) := show decode (am_cd (tb_me 121)) 40 = .ok (.iload_n 2, 1) from by decide +kernel
theorem k121_41 {L : Nat} {xs : Nat → Int32} : decode (am_cd (am_me (tb_P L xs) 121)) 41 = .ok (.baload, 1) := show decode (am_cd (tb_me 121)) 41 = .ok (.baload, 1) from by decide +kernel
theorem k121_42 {L : Nat} {xs : Nat → Int32} : decode (am_cd (am_me (tb_P L xs) 121)) 42 = .ok (.ifCond .ne 16, 3) := show decode (am_cd (tb_me 121)) 42 = .ok (.ifCond .ne 16, 3) from by decide +kernel
theorem k121_45 {L : Nat} {xs : Nat → Int32} : decode (am_cd (am_me (tb_P L xs) 121)) 45 = .ok (.iload_n 1, 1) := show decode (am_cd (tb_me 121)) 45 = .ok (.iload_n 1, 1) from by decide +kernel
theorem k121_46 {L : Nat} {xs : Nat → Int32} : decode (am_cd (am_me (tb_P L xs) 121)) 46 = .ok (.ifCond .ne 16, 3) := show decode (am_cd (tb_me 121)) 46 = .ok (.ifCond .ne 16, 3) from by decide +kernel
theorem k121_49 {L : Nat} {xs : Nat → Int32} : decode (am_cd (am_me (tb_P L xs) 121)) 49 = .ok (.aload_n 0, 1) := show decode (am_cd (tb_me 121)) 49 = .ok (.aload_n 0, 1) from by decide +kernel
theorem k121_50 {L : Nat} {xs : Nat → Int32} : decode (am_cd (am_me (tb_P L xs) 121)) 50 = .ok (.getfield 32, 3) := show decode (am_cd (tb_me 121)) 50 = .ok (.getfield 32, 3) from by decide +kernel
theorem f121_50 {L : Nat} {xs : Nat → Int32} : am_fd (tb_P L xs) 121 32 = some (8, 10, (.array .boolean : FieldType), true) := show tb_fdF 121 32 = some (8, 10, (.array .boolean : FieldType), true) from by decide +kernel
theorem k121_53 {L : Nat} {xs : Nat → Int32} : decode (am_cd (am_me (tb_P L xs) 121)) 53 = .ok (.iload_n 2, 1) := show decode (am_cd (tb_me 121)) 53 = .ok (.iload_n 2, 1) from by decide +kernel
theorem k121_54 {L : Nat} {xs : Nat → Int32} : decode (am_cd (am_me (tb_P L xs) 121)) 54 = .ok (.baload, 1) := show decode (am_cd (tb_me 121)) 54 = .ok (.baload, 1) from by decide +kernel
theorem k121_55 {L : Nat} {xs : Nat → Int32} : decode (am_cd (am_me (tb_P L xs) 121)) 55 = .ok (.ifCond .eq 7, 3) := show decode (am_cd (tb_me 121)) 55 = .ok (.ifCond .eq 7, 3) from by decide +kernel
theorem k121_58 {L : Nat} {xs : Nat → Int32} : decode (am_cd (am_me (tb_P L xs) 121)) 58 = .ok (.iconst 1, 1) := show decode (am_cd (tb_me 121)) 58 = .ok (.iconst 1, 1) from by decide +kernel
theorem k121_59 {L : Nat} {xs : Nat → Int32} : decode (am_cd (am_me (tb_P L xs) 121)) 59 = .ok (.goto 4, 3) := show decode (am_cd (tb_me 121)) 59 = .ok (.goto 4, 3) from by decide +kernel
theorem k121_62 {L : Nat} {xs : Nat → Int32} : decode (am_cd (am_me (tb_P L xs) 121)) 62 = .ok (.iconst 0, 1) := show decode (am_cd (tb_me 121)) 62 = .ok (.iconst 0, 1) from by decide +kernel
theorem k121_63 {L : Nat} {xs : Nat → Int32} : decode (am_cd (am_me (tb_P L xs) 121)) 63 = .ok (.istore_n 3, 1) := show decode (am_cd (tb_me 121)) 63 = .ok (.istore_n 3, 1) from by decide +kernel
theorem k121_64 {L : Nat} {xs : Nat → Int32} : decode (am_cd (am_me (tb_P L xs) 121)) 64 = .ok (.aload_n 0, 1) := show decode (am_cd (tb_me 121)) 64 = .ok (.aload_n 0, 1) from by decide +kernel
theorem k121_65 {L : Nat} {xs : Nat → Int32} : decode (am_cd (am_me (tb_P L xs) 121)) 65 = .ok (.iload_n 3, 1) := show decode (am_cd (tb_me 121)) 65 = .ok (.iload_n 3, 1) from by decide +kernel
theorem k121_66 {L : Nat} {xs : Nat → Int32} : decode (am_cd (am_me (tb_P L xs) 121)) 66 = .ok (.ifCond .eq 7, 3) := show decode (am_cd (tb_me 121)) 66 = .ok (.ifCond .eq 7, 3) from by decide +kernel
theorem k121_69 {L : Nat} {xs : Nat → Int32} : decode (am_cd (am_me (tb_P L xs) 121)) 69 = .ok (.iconst 1, 1) := show decode (am_cd (tb_me 121)) 69 = .ok (.iconst 1, 1) from by decide +kernel
theorem k121_70 {L : Nat} {xs : Nat → Int32} : decode (am_cd (am_me (tb_P L xs) 121)) 70 = .ok (.goto 19, 3) := show decode (am_cd (tb_me 121)) 70 = .ok (.goto 19, 3) from by decide +kernel
theorem k121_73 {L : Nat} {xs : Nat → Int32} : decode (am_cd (am_me (tb_P L xs) 121)) 73 = .ok (.aload_n 0, 1) := show decode (am_cd (tb_me 121)) 73 = .ok (.aload_n 0, 1) from by decide +kernel
theorem k121_74 {L : Nat} {xs : Nat → Int32} : decode (am_cd (am_me (tb_P L xs) 121)) 74 = .ok (.getfield 53, 3) := show decode (am_cd (tb_me 121)) 74 = .ok (.getfield 53, 3) from by decide +kernel
theorem f121_74 {L : Nat} {xs : Nat → Int32} : am_fd (tb_P L xs) 121 53 = some (8, 18, (.array .int : FieldType), true) := show tb_fdF 121 53 = some (8, 18, (.array .int : FieldType), true) from by decide +kernel
theorem k121_77 {L : Nat} {xs : Nat → Int32} : decode (am_cd (am_me (tb_P L xs) 121)) 77 = .ok (.iload_n 1, 1) := show decode (am_cd (tb_me 121)) 77 = .ok (.iload_n 1, 1) from by decide +kernel
theorem k121_78 {L : Nat} {xs : Nat → Int32} : decode (am_cd (am_me (tb_P L xs) 121)) 78 = .ok (.iaload, 1) := show decode (am_cd (tb_me 121)) 78 = .ok (.iaload, 1) from by decide +kernel
theorem k121_79 {L : Nat} {xs : Nat → Int32} : decode (am_cd (am_me (tb_P L xs) 121)) 79 = .ok (.bipush 6, 2) := show decode (am_cd (tb_me 121)) 79 = .ok (.bipush 6, 2) from by decide +kernel
theorem k121_81 {L : Nat} {xs : Nat → Int32} : decode (am_cd (am_me (tb_P L xs) 121)) 81 = .ok (.if_icmp .ne 7, 3) := show decode (am_cd (tb_me 121)) 81 = .ok (.if_icmp .ne 7, 3) from by decide +kernel
theorem k121_84 {L : Nat} {xs : Nat → Int32} : decode (am_cd (am_me (tb_P L xs) 121)) 84 = .ok (.iconst 2, 1) := show decode (am_cd (tb_me 121)) 84 = .ok (.iconst 2, 1) from by decide +kernel
theorem k121_85 {L : Nat} {xs : Nat → Int32} : decode (am_cd (am_me (tb_P L xs) 121)) 85 = .ok (.goto 4, 3) := show decode (am_cd (tb_me 121)) 85 = .ok (.goto 4, 3) from by decide +kernel
theorem k121_88 {L : Nat} {xs : Nat → Int32} : decode (am_cd (am_me (tb_P L xs) 121)) 88 = .ok (.iconst 0, 1) := show decode (am_cd (tb_me 121)) 88 = .ok (.iconst 0, 1) from by decide +kernel
theorem k121_89 {L : Nat} {xs : Nat → Int32} : decode (am_cd (am_me (tb_P L xs) 121)) 89 = .ok (.putfield 78, 3) := show decode (am_cd (tb_me 121)) 89 = .ok (.putfield 78, 3) from by decide +kernel
theorem f121_89 {L : Nat} {xs : Nat → Int32} : am_fd (tb_P L xs) 121 78 = some (8, 0, (.int : FieldType), true) := show tb_fdF 121 78 = some (8, 0, (.int : FieldType), true) from by decide +kernel
theorem k121_92 {L : Nat} {xs : Nat → Int32} : decode (am_cd (am_me (tb_P L xs) 121)) 92 = .ok (.aload_n 0, 1) := show decode (am_cd (tb_me 121)) 92 = .ok (.aload_n 0, 1) from by decide +kernel
theorem k121_93 {L : Nat} {xs : Nat → Int32} : decode (am_cd (am_me (tb_P L xs) 121)) 93 = .ok (.getfield 78, 3) := show decode (am_cd (tb_me 121)) 93 = .ok (.getfield 78, 3) from by decide +kernel
theorem f121_93 {L : Nat} {xs : Nat → Int32} : am_fd (tb_P L xs) 121 78 = some (8, 0, (.int : FieldType), true) := show tb_fdF 121 78 = some (8, 0, (.int : FieldType), true) from by decide +kernel
theorem k121_96 {L : Nat} {xs : Nat → Int32} : decode (am_cd (am_me (tb_P L xs) 121)) 96 = .ok (.ifCond .eq 5, 3) := show decode (am_cd (tb_me 121)) 96 = .ok (.ifCond .eq 5, 3) from by decide +kernel
theorem k121_99 {L : Nat} {xs : Nat → Int32} : decode (am_cd (am_me (tb_P L xs) 121)) 99 = .ok (.iconst 0, 1) := show decode (am_cd (tb_me 121)) 99 = .ok (.iconst 0, 1) from by decide +kernel
theorem k121_100 {L : Nat} {xs : Nat → Int32} : decode (am_cd (am_me (tb_P L xs) 121)) 100 = .ok (.ireturn, 1) := show decode (am_cd (tb_me 121)) 100 = .ok (.ireturn, 1) from by decide +kernel
theorem k121_101 {L : Nat} {xs : Nat → Int32} : decode (am_cd (am_me (tb_P L xs) 121)) 101 = .ok (.aload_n 0, 1) := show decode (am_cd (tb_me 121)) 101 = .ok (.aload_n 0, 1) from by decide +kernel
theorem k121_102 {L : Nat} {xs : Nat → Int32} : decode (am_cd (am_me (tb_P L xs) 121)) 102 = .ok (.getfield 56, 3) := show decode (am_cd (tb_me 121)) 102 = .ok (.getfield 56, 3) from by decide +kernel
theorem f121_102 {L : Nat} {xs : Nat → Int32} : am_fd (tb_P L xs) 121 56 = some (8, 19, (.array .int : FieldType), true) := show tb_fdF 121 56 = some (8, 19, (.array .int : FieldType), true) from by decide +kernel
theorem k121_105 {L : Nat} {xs : Nat → Int32} : decode (am_cd (am_me (tb_P L xs) 121)) 105 = .ok (.bipush 6, 2) := show decode (am_cd (tb_me 121)) 105 = .ok (.bipush 6, 2) from by decide +kernel
theorem k121_107 {L : Nat} {xs : Nat → Int32} : decode (am_cd (am_me (tb_P L xs) 121)) 107 = .ok (.iload_n 1, 1) := show decode (am_cd (tb_me 121)) 107 = .ok (.iload_n 1, 1) from by decide +kernel
theorem k121_108 {L : Nat} {xs : Nat → Int32} : decode (am_cd (am_me (tb_P L xs) 121)) 108 = .ok (.imul, 1) := show decode (am_cd (tb_me 121)) 108 = .ok (.imul, 1) from by decide +kernel
theorem k121_109 {L : Nat} {xs : Nat → Int32} : decode (am_cd (am_me (tb_P L xs) 121)) 109 = .ok (.aload_n 0, 1) := show decode (am_cd (tb_me 121)) 109 = .ok (.aload_n 0, 1) from by decide +kernel
theorem k121_110 {L : Nat} {xs : Nat → Int32} : decode (am_cd (am_me (tb_P L xs) 121)) 110 = .ok (.getfield 53, 3) := show decode (am_cd (tb_me 121)) 110 = .ok (.getfield 53, 3) from by decide +kernel
theorem f121_110 {L : Nat} {xs : Nat → Int32} : am_fd (tb_P L xs) 121 53 = some (8, 18, (.array .int : FieldType), true) := show tb_fdF 121 53 = some (8, 18, (.array .int : FieldType), true) from by decide +kernel
theorem k121_113 {L : Nat} {xs : Nat → Int32} : decode (am_cd (am_me (tb_P L xs) 121)) 113 = .ok (.iload_n 1, 1) := show decode (am_cd (tb_me 121)) 113 = .ok (.iload_n 1, 1) from by decide +kernel
theorem k121_114 {L : Nat} {xs : Nat → Int32} : decode (am_cd (am_me (tb_P L xs) 121)) 114 = .ok (.iaload, 1) := show decode (am_cd (tb_me 121)) 114 = .ok (.iaload, 1) from by decide +kernel
theorem k121_115 {L : Nat} {xs : Nat → Int32} : decode (am_cd (am_me (tb_P L xs) 121)) 115 = .ok (.iadd, 1) := show decode (am_cd (tb_me 121)) 115 = .ok (.iadd, 1) from by decide +kernel
theorem k121_116 {L : Nat} {xs : Nat → Int32} : decode (am_cd (am_me (tb_P L xs) 121)) 116 = .ok (.iload_n 2, 1) := show decode (am_cd (tb_me 121)) 116 = .ok (.iload_n 2, 1) from by decide +kernel
theorem k121_117 {L : Nat} {xs : Nat → Int32} : decode (am_cd (am_me (tb_P L xs) 121)) 117 = .ok (.iastore, 1) := show decode (am_cd (tb_me 121)) 117 = .ok (.iastore, 1) from by decide +kernel
theorem k121_118 {L : Nat} {xs : Nat → Int32} : decode (am_cd (am_me (tb_P L xs) 121)) 118 = .ok (.aload_n 0, 1) := show decode (am_cd (tb_me 121)) 118 = .ok (.aload_n 0, 1) from by decide +kernel
theorem k121_119 {L : Nat} {xs : Nat → Int32} : decode (am_cd (am_me (tb_P L xs) 121)) 119 = .ok (.getfield 53, 3) := show decode (am_cd (tb_me 121)) 119 = .ok (.getfield 53, 3) from by decide +kernel
theorem f121_119 {L : Nat} {xs : Nat → Int32} : am_fd (tb_P L xs) 121 53 = some (8, 18, (.array .int : FieldType), true) := show tb_fdF 121 53 = some (8, 18, (.array .int : FieldType), true) from by decide +kernel
theorem k121_122 {L : Nat} {xs : Nat → Int32} : decode (am_cd (am_me (tb_P L xs) 121)) 122 = .ok (.iload_n 1, 1) := show decode (am_cd (tb_me 121)) 122 = .ok (.iload_n 1, 1) from by decide +kernel
theorem k121_123 {L : Nat} {xs : Nat → Int32} : decode (am_cd (am_me (tb_P L xs) 121)) 123 = .ok (.dup2, 1) := show decode (am_cd (tb_me 121)) 123 = .ok (.dup2, 1) from by decide +kernel
theorem k121_124 {L : Nat} {xs : Nat → Int32} : decode (am_cd (am_me (tb_P L xs) 121)) 124 = .ok (.iaload, 1) := show decode (am_cd (tb_me 121)) 124 = .ok (.iaload, 1) from by decide +kernel
theorem k121_125 {L : Nat} {xs : Nat → Int32} : decode (am_cd (am_me (tb_P L xs) 121)) 125 = .ok (.iconst 1, 1) := show decode (am_cd (tb_me 121)) 125 = .ok (.iconst 1, 1) from by decide +kernel
theorem k121_126 {L : Nat} {xs : Nat → Int32} : decode (am_cd (am_me (tb_P L xs) 121)) 126 = .ok (.iadd, 1) := show decode (am_cd (tb_me 121)) 126 = .ok (.iadd, 1) from by decide +kernel
theorem k121_127 {L : Nat} {xs : Nat → Int32} : decode (am_cd (am_me (tb_P L xs) 121)) 127 = .ok (.iastore, 1) := show decode (am_cd (tb_me 121)) 127 = .ok (.iastore, 1) from by decide +kernel
theorem k121_128 {L : Nat} {xs : Nat → Int32} : decode (am_cd (am_me (tb_P L xs) 121)) 128 = .ok (.aload_n 0, 1) := show decode (am_cd (tb_me 121)) 128 = .ok (.aload_n 0, 1) from by decide +kernel
theorem k121_129 {L : Nat} {xs : Nat → Int32} : decode (am_cd (am_me (tb_P L xs) 121)) 129 = .ok (.getfield 53, 3) := show decode (am_cd (tb_me 121)) 129 = .ok (.getfield 53, 3) from by decide +kernel
theorem f121_129 {L : Nat} {xs : Nat → Int32} : am_fd (tb_P L xs) 121 53 = some (8, 18, (.array .int : FieldType), true) := show tb_fdF 121 53 = some (8, 18, (.array .int : FieldType), true) from by decide +kernel
theorem k121_132 {L : Nat} {xs : Nat → Int32} : decode (am_cd (am_me (tb_P L xs) 121)) 132 = .ok (.iload_n 1, 1) := show decode (am_cd (tb_me 121)) 132 = .ok (.iload_n 1, 1) from by decide +kernel
theorem k121_133 {L : Nat} {xs : Nat → Int32} : decode (am_cd (am_me (tb_P L xs) 121)) 133 = .ok (.iaload, 1) := show decode (am_cd (tb_me 121)) 133 = .ok (.iaload, 1) from by decide +kernel
theorem k121_134 {L : Nat} {xs : Nat → Int32} : decode (am_cd (am_me (tb_P L xs) 121)) 134 = .ok (.ireturn, 1) := show decode (am_cd (tb_me 121)) 134 = .ok (.ireturn, 1) from by decide +kernel
theorem t121 {L : Nat} {xs : Nat → Int32} : am_rt (am_me (tb_P L xs) 121) = some (.int : FieldType) := show am_rt (tb_me 121) = some (.int : FieldType) from by decide +kernel
theorem l121 {L : Nat} {xs : Nat → Int32} : am_ml (am_me (tb_P L xs) 121) = 4 := show am_ml (tb_me 121) = 4 from by decide +kernel
theorem o121 {L : Nat} {xs : Nat → Int32} (pc : Nat) : am_no (tb_P L xs) 121 pc = true := show (am_hd (tb_me 121)).all (fun q => !(decide (q.1 ≤ pc) && decide (pc < q.2.1))) = true from by rw [show am_hd (tb_me 121) = [] by decide +kernel]; rfl
theorem k122_0 {L : Nat} {xs : Nat → Int32} : decode (am_cd (am_me (tb_P L xs) 122)) 0 = .ok (.aload_n 0, 1) := show decode (am_cd (tb_me 122)) 0 = .ok (.aload_n 0, 1) from by decide +kernel
theorem k122_1 {L : Nat} {xs : Nat → Int32} : decode (am_cd (am_me (tb_P L xs) 122)) 1 = .ok (.aload_n 0, 1) := show decode (am_cd (tb_me 122)) 1 = .ok (.aload_n 0, 1) from by decide +kernel
theorem k122_2 {L : Nat} {xs : Nat → Int32} : decode (am_cd (am_me (tb_P L xs) 122)) 2 = .ok (.iload_n 1, 1) := show decode (am_cd (tb_me 122)) 2 = .ok (.iload_n 1, 1) from by decide +kernel
theorem k122_3 {L : Nat} {xs : Nat → Int32} : decode (am_cd (am_me (tb_P L xs) 122)) 3 = .ok (.invokevirtual 126, 3) := show decode (am_cd (tb_me 122)) 3 = .ok (.invokevirtual 126, 3) from by decide +kernel
theorem s122_3 {L : Nat} {xs : Nat → Int32} : am_sp (tb_P L xs) 122 126 = none := show tb_spF 122 126 = none from by decide +kernel
theorem c122_3 {L : Nat} {xs : Nat → Int32} : am_ca (tb_P L xs) 122 126 = some (118, 1, 1) := show tb_caF 122 126 = some (118, 1, 1) from by decide +kernel
theorem r122_3 {L : Nat} {xs : Nat → Int32} : am_rf (am_me (tb_P L xs) 118) + 1 ≤ am_rf (am_me (tb_P L xs) 122) ∧ 1 + (am_ml (am_me (tb_P L xs) 118) + 11) + am_rl (am_me (tb_P L xs) 118) ≤ am_rl (am_me (tb_P L xs) 122) := show am_rf (tb_me 118) + 1 ≤ am_rf (tb_me 122) ∧ 1 + (am_ml (tb_me 118) + 11) + am_rl (tb_me 118) ≤ am_rl (tb_me 122) from by decide +kernel
theorem k122_6 {L : Nat} {xs : Nat → Int32} : decode (am_cd (am_me (tb_P L xs) 122)) 6 = .ok (.ifCond .ne 21, 3) := show decode (am_cd (tb_me 122)) 6 = .ok (.ifCond .ne 21, 3) from by decide +kernel
theorem k122_9 {L : Nat} {xs : Nat → Int32} : decode (am_cd (am_me (tb_P L xs) 122)) 9 = .ok (.aload_n 0, 1) := show decode (am_cd (tb_me 122)) 9 = .ok (.aload_n 0, 1) from by decide +kernel
theorem k122_10 {L : Nat} {xs : Nat → Int32} : decode (am_cd (am_me (tb_P L xs) 122)) 10 = .ok (.getfield 25, 3) := show decode (am_cd (tb_me 122)) 10 = .ok (.getfield 25, 3) from by decide +kernel
theorem f122_10 {L : Nat} {xs : Nat → Int32} : am_fd (tb_P L xs) 122 25 = some (8, 8, (.array .boolean : FieldType), true) := show tb_fdF 122 25 = some (8, 8, (.array .boolean : FieldType), true) from by decide +kernel
theorem k122_13 {L : Nat} {xs : Nat → Int32} : decode (am_cd (am_me (tb_P L xs) 122)) 13 = .ok (.iload_n 1, 1) := show decode (am_cd (tb_me 122)) 13 = .ok (.iload_n 1, 1) from by decide +kernel
theorem k122_14 {L : Nat} {xs : Nat → Int32} : decode (am_cd (am_me (tb_P L xs) 122)) 14 = .ok (.baload, 1) := show decode (am_cd (tb_me 122)) 14 = .ok (.baload, 1) from by decide +kernel
theorem k122_15 {L : Nat} {xs : Nat → Int32} : decode (am_cd (am_me (tb_P L xs) 122)) 15 = .ok (.ifCond .ne 12, 3) := show decode (am_cd (tb_me 122)) 15 = .ok (.ifCond .ne 12, 3) from by decide +kernel
theorem k122_18 {L : Nat} {xs : Nat → Int32} : decode (am_cd (am_me (tb_P L xs) 122)) 18 = .ok (.aload_n 0, 1) := show decode (am_cd (tb_me 122)) 18 = .ok (.aload_n 0, 1) from by decide +kernel
theorem k122_19 {L : Nat} {xs : Nat → Int32} : decode (am_cd (am_me (tb_P L xs) 122)) 19 = .ok (.getfield 29, 3) := show decode (am_cd (tb_me 122)) 19 = .ok (.getfield 29, 3) from by decide +kernel
theorem f122_19 {L : Nat} {xs : Nat → Int32} : am_fd (tb_P L xs) 122 29 = some (8, 9, (.array .boolean : FieldType), true) := show tb_fdF 122 29 = some (8, 9, (.array .boolean : FieldType), true) from by decide +kernel
theorem k122_22 {L : Nat} {xs : Nat → Int32} : decode (am_cd (am_me (tb_P L xs) 122)) 22 = .ok (.iload_n 1, 1) := show decode (am_cd (tb_me 122)) 22 = .ok (.iload_n 1, 1) from by decide +kernel
theorem k122_23 {L : Nat} {xs : Nat → Int32} : decode (am_cd (am_me (tb_P L xs) 122)) 23 = .ok (.baload, 1) := show decode (am_cd (tb_me 122)) 23 = .ok (.baload, 1) from by decide +kernel
theorem k122_24 {L : Nat} {xs : Nat → Int32} : decode (am_cd (am_me (tb_P L xs) 122)) 24 = .ok (.ifCond .eq 7, 3) := show decode (am_cd (tb_me 122)) 24 = .ok (.ifCond .eq 7, 3) from by decide +kernel
theorem k122_27 {L : Nat} {xs : Nat → Int32} : decode (am_cd (am_me (tb_P L xs) 122)) 27 = .ok (.iconst 1, 1) := show decode (am_cd (tb_me 122)) 27 = .ok (.iconst 1, 1) from by decide +kernel
theorem k122_28 {L : Nat} {xs : Nat → Int32} : decode (am_cd (am_me (tb_P L xs) 122)) 28 = .ok (.goto 4, 3) := show decode (am_cd (tb_me 122)) 28 = .ok (.goto 4, 3) from by decide +kernel
theorem k122_31 {L : Nat} {xs : Nat → Int32} : decode (am_cd (am_me (tb_P L xs) 122)) 31 = .ok (.iconst 0, 1) := show decode (am_cd (tb_me 122)) 31 = .ok (.iconst 0, 1) from by decide +kernel
theorem k122_32 {L : Nat} {xs : Nat → Int32} : decode (am_cd (am_me (tb_P L xs) 122)) 32 = .ok (.putfield 78, 3) := show decode (am_cd (tb_me 122)) 32 = .ok (.putfield 78, 3) from by decide +kernel
theorem f122_32 {L : Nat} {xs : Nat → Int32} : am_fd (tb_P L xs) 122 78 = some (8, 0, (.int : FieldType), true) := show tb_fdF 122 78 = some (8, 0, (.int : FieldType), true) from by decide +kernel
theorem k122_35 {L : Nat} {xs : Nat → Int32} : decode (am_cd (am_me (tb_P L xs) 122)) 35 = .ok (.aload_n 0, 1) := show decode (am_cd (tb_me 122)) 35 = .ok (.aload_n 0, 1) from by decide +kernel
theorem k122_36 {L : Nat} {xs : Nat → Int32} : decode (am_cd (am_me (tb_P L xs) 122)) 36 = .ok (.getfield 78, 3) := show decode (am_cd (tb_me 122)) 36 = .ok (.getfield 78, 3) from by decide +kernel
theorem f122_36 {L : Nat} {xs : Nat → Int32} : am_fd (tb_P L xs) 122 78 = some (8, 0, (.int : FieldType), true) := show tb_fdF 122 78 = some (8, 0, (.int : FieldType), true) from by decide +kernel
theorem k122_39 {L : Nat} {xs : Nat → Int32} : decode (am_cd (am_me (tb_P L xs) 122)) 39 = .ok (.ifCond .ne 8, 3) := show decode (am_cd (tb_me 122)) 39 = .ok (.ifCond .ne 8, 3) from by decide +kernel
theorem k122_42 {L : Nat} {xs : Nat → Int32} : decode (am_cd (am_me (tb_P L xs) 122)) 42 = .ok (.aload_n 0, 1) := show decode (am_cd (tb_me 122)) 42 = .ok (.aload_n 0, 1) from by decide +kernel
theorem k122_43 {L : Nat} {xs : Nat → Int32} : decode (am_cd (am_me (tb_P L xs) 122)) 43 = .ok (.iload_n 1, 1) := show decode (am_cd (tb_me 122)) 43 = .ok (.iload_n 1, 1) from by decide +kernel
theorem k122_44 {L : Nat} {xs : Nat → Int32} : decode (am_cd (am_me (tb_P L xs) 122)) 44 = .ok (.putfield 59, 3) := show decode (am_cd (tb_me 122)) 44 = .ok (.putfield 59, 3) from by decide +kernel
theorem f122_44 {L : Nat} {xs : Nat → Int32} : am_fd (tb_P L xs) 122 59 = some (8, 20, (.int : FieldType), true) := show tb_fdF 122 59 = some (8, 20, (.int : FieldType), true) from by decide +kernel
theorem k122_47 {L : Nat} {xs : Nat → Int32} : decode (am_cd (am_me (tb_P L xs) 122)) 47 = .ok (.return_, 1) := show decode (am_cd (tb_me 122)) 47 = .ok (.return_, 1) from by decide +kernel
theorem t122 {L : Nat} {xs : Nat → Int32} : am_rt (am_me (tb_P L xs) 122) = none := show am_rt (tb_me 122) = none from by decide +kernel
theorem l122 {L : Nat} {xs : Nat → Int32} : am_ml (am_me (tb_P L xs) 122) = 2 := show am_ml (tb_me 122) = 2 from by decide +kernel
theorem o122 {L : Nat} {xs : Nat → Int32} (pc : Nat) : am_no (tb_P L xs) 122 pc = true := show (am_hd (tb_me 122)).all (fun q => !(decide (q.1 ≤ pc) && decide (pc < q.2.1))) = true from by rw [show am_hd (tb_me 122) = [] by decide +kernel]; rfl
theorem k123_0 {L : Nat} {xs : Nat → Int32} : decode (am_cd (am_me (tb_P L xs) 123)) 0 = .ok (.aload_n 0, 1) := show decode (am_cd (tb_me 123)) 0 = .ok (.aload_n 0, 1) from by decide +kernel
theorem k123_1 {L : Nat} {xs : Nat → Int32} : decode (am_cd (am_me (tb_P L xs) 123)) 1 = .ok (.aload_n 0, 1) := show decode (am_cd (tb_me 123)) 1 = .ok (.aload_n 0, 1) from by decide +kernel
theorem k123_2 {L : Nat} {xs : Nat → Int32} : decode (am_cd (am_me (tb_P L xs) 123)) 2 = .ok (.iload_n 1, 1) := show decode (am_cd (tb_me 123)) 2 = .ok (.iload_n 1, 1) from by decide +kernel
theorem k123_3 {L : Nat} {xs : Nat → Int32} : decode (am_cd (am_me (tb_P L xs) 123)) 3 = .ok (.iload_n 2, 1) := show decode (am_cd (tb_me 123)) 3 = .ok (.iload_n 2, 1) from by decide +kernel
theorem k123_4 {L : Nat} {xs : Nat → Int32} : decode (am_cd (am_me (tb_P L xs) 123)) 4 = .ok (.invokevirtual 178, 3) := show decode (am_cd (tb_me 123)) 4 = .ok (.invokevirtual 178, 3) from by decide +kernel
theorem s123_4 {L : Nat} {xs : Nat → Int32} : am_sp (tb_P L xs) 123 178 = none := show tb_spF 123 178 = none from by decide +kernel
theorem c123_4 {L : Nat} {xs : Nat → Int32} : am_ca (tb_P L xs) 123 178 = some (124, 2, 1) := show tb_caF 123 178 = some (124, 2, 1) from by decide +kernel
theorem r123_4 {L : Nat} {xs : Nat → Int32} : am_rf (am_me (tb_P L xs) 124) + 1 ≤ am_rf (am_me (tb_P L xs) 123) ∧ 1 + (am_ml (am_me (tb_P L xs) 124) + 11) + am_rl (am_me (tb_P L xs) 124) ≤ am_rl (am_me (tb_P L xs) 123) := show am_rf (tb_me 124) + 1 ≤ am_rf (tb_me 123) ∧ 1 + (am_ml (tb_me 124) + 11) + am_rl (tb_me 124) ≤ am_rl (tb_me 123) from by decide +kernel
theorem k123_7 {L : Nat} {xs : Nat → Int32} : decode (am_cd (am_me (tb_P L xs) 123)) 7 = .ok (.ifCond .eq 7, 3) := show decode (am_cd (tb_me 123)) 7 = .ok (.ifCond .eq 7, 3) from by decide +kernel
theorem k123_10 {L : Nat} {xs : Nat → Int32} : decode (am_cd (am_me (tb_P L xs) 123)) 10 = .ok (.iconst 1, 1) := show decode (am_cd (tb_me 123)) 10 = .ok (.iconst 1, 1) from by decide +kernel
theorem k123_11 {L : Nat} {xs : Nat → Int32} : decode (am_cd (am_me (tb_P L xs) 123)) 11 = .ok (.goto 4, 3) := show decode (am_cd (tb_me 123)) 11 = .ok (.goto 4, 3) from by decide +kernel
theorem k123_14 {L : Nat} {xs : Nat → Int32} : decode (am_cd (am_me (tb_P L xs) 123)) 14 = .ok (.iconst 0, 1) := show decode (am_cd (tb_me 123)) 14 = .ok (.iconst 0, 1) from by decide +kernel
theorem k123_15 {L : Nat} {xs : Nat → Int32} : decode (am_cd (am_me (tb_P L xs) 123)) 15 = .ok (.putfield 78, 3) := show decode (am_cd (tb_me 123)) 15 = .ok (.putfield 78, 3) from by decide +kernel
theorem f123_15 {L : Nat} {xs : Nat → Int32} : am_fd (tb_P L xs) 123 78 = some (8, 0, (.int : FieldType), true) := show tb_fdF 123 78 = some (8, 0, (.int : FieldType), true) from by decide +kernel
theorem k123_18 {L : Nat} {xs : Nat → Int32} : decode (am_cd (am_me (tb_P L xs) 123)) 18 = .ok (.aload_n 0, 1) := show decode (am_cd (tb_me 123)) 18 = .ok (.aload_n 0, 1) from by decide +kernel
theorem k123_19 {L : Nat} {xs : Nat → Int32} : decode (am_cd (am_me (tb_P L xs) 123)) 19 = .ok (.getfield 78, 3) := show decode (am_cd (tb_me 123)) 19 = .ok (.getfield 78, 3) from by decide +kernel
theorem f123_19 {L : Nat} {xs : Nat → Int32} : am_fd (tb_P L xs) 123 78 = some (8, 0, (.int : FieldType), true) := show tb_fdF 123 78 = some (8, 0, (.int : FieldType), true) from by decide +kernel
theorem k123_22 {L : Nat} {xs : Nat → Int32} : decode (am_cd (am_me (tb_P L xs) 123)) 22 = .ok (.ifCond .eq 5, 3) := show decode (am_cd (tb_me 123)) 22 = .ok (.ifCond .eq 5, 3) from by decide +kernel
theorem k123_25 {L : Nat} {xs : Nat → Int32} : decode (am_cd (am_me (tb_P L xs) 123)) 25 = .ok (.iconst 0, 1) := show decode (am_cd (tb_me 123)) 25 = .ok (.iconst 0, 1) from by decide +kernel
theorem k123_26 {L : Nat} {xs : Nat → Int32} : decode (am_cd (am_me (tb_P L xs) 123)) 26 = .ok (.ireturn, 1) := show decode (am_cd (tb_me 123)) 26 = .ok (.ireturn, 1) from by decide +kernel
theorem k123_27 {L : Nat} {xs : Nat → Int32} : decode (am_cd (am_me (tb_P L xs) 123)) 27 = .ok (.aload_n 0, 1) := show decode (am_cd (tb_me 123)) 27 = .ok (.aload_n 0, 1) from by decide +kernel
theorem k123_28 {L : Nat} {xs : Nat → Int32} : decode (am_cd (am_me (tb_P L xs) 123)) 28 = .ok (.iload_n 1, 1) := show decode (am_cd (tb_me 123)) 28 = .ok (.iload_n 1, 1) from by decide +kernel
theorem k123_29 {L : Nat} {xs : Nat → Int32} : decode (am_cd (am_me (tb_P L xs) 123)) 29 = .ok (.iload_n 2, 1) := show decode (am_cd (tb_me 123)) 29 = .ok (.iload_n 2, 1) from by decide +kernel
theorem k123_30 {L : Nat} {xs : Nat → Int32} : decode (am_cd (am_me (tb_P L xs) 123)) 30 = .ok (.invokevirtual 181, 3) := show decode (am_cd (tb_me 123)) 30 = .ok (.invokevirtual 181, 3) from by decide +kernel
theorem s123_30 {L : Nat} {xs : Nat → Int32} : am_sp (tb_P L xs) 123 181 = none := show tb_spF 123 181 = none from by decide +kernel
theorem c123_30 {L : Nat} {xs : Nat → Int32} : am_ca (tb_P L xs) 123 181 = some (125, 2, 1) := show tb_caF 123 181 = some (125, 2, 1) from by decide +kernel
theorem r123_30 {L : Nat} {xs : Nat → Int32} : am_rf (am_me (tb_P L xs) 125) + 1 ≤ am_rf (am_me (tb_P L xs) 123) ∧ 0 + (am_ml (am_me (tb_P L xs) 125) + 11) + am_rl (am_me (tb_P L xs) 125) ≤ am_rl (am_me (tb_P L xs) 123) := show am_rf (tb_me 125) + 1 ≤ am_rf (tb_me 123) ∧ 0 + (am_ml (tb_me 125) + 11) + am_rl (tb_me 125) ≤ am_rl (tb_me 123) from by decide +kernel
theorem k123_33 {L : Nat} {xs : Nat → Int32} : decode (am_cd (am_me (tb_P L xs) 123)) 33 = .ok (.istore_n 3, 1) := show decode (am_cd (tb_me 123)) 33 = .ok (.istore_n 3, 1) from by decide +kernel
theorem k123_34 {L : Nat} {xs : Nat → Int32} : decode (am_cd (am_me (tb_P L xs) 123)) 34 = .ok (.aload_n 0, 1) := show decode (am_cd (tb_me 123)) 34 = .ok (.aload_n 0, 1) from by decide +kernel
theorem k123_35 {L : Nat} {xs : Nat → Int32} : decode (am_cd (am_me (tb_P L xs) 123)) 35 = .ok (.iload_n 3, 1) := show decode (am_cd (tb_me 123)) 35 = .ok (.iload_n 3, 1) from by decide +kernel
theorem k123_36 {L : Nat} {xs : Nat → Int32} : decode (am_cd (am_me (tb_P L xs) 123)) 36 = .ok (.ifCond .ne 7, 3) := show decode (am_cd (tb_me 123)) 36 = .ok (.ifCond .ne 7, 3) from by decide +kernel
theorem k123_39 {L : Nat} {xs : Nat → Int32} : decode (am_cd (am_me (tb_P L xs) 123)) 39 = .ok (.iconst 1, 1) := show decode (am_cd (tb_me 123)) 39 = .ok (.iconst 1, 1) from by decide +kernel
theorem k123_40 {L : Nat} {xs : Nat → Int32} : decode (am_cd (am_me (tb_P L xs) 123)) 40 = .ok (.goto 4, 3) := show decode (am_cd (tb_me 123)) 40 = .ok (.goto 4, 3) from by decide +kernel
theorem k123_43 {L : Nat} {xs : Nat → Int32} : decode (am_cd (am_me (tb_P L xs) 123)) 43 = .ok (.iconst 0, 1) := show decode (am_cd (tb_me 123)) 43 = .ok (.iconst 0, 1) from by decide +kernel
theorem k123_44 {L : Nat} {xs : Nat → Int32} : decode (am_cd (am_me (tb_P L xs) 123)) 44 = .ok (.putfield 184, 3) := show decode (am_cd (tb_me 123)) 44 = .ok (.putfield 184, 3) from by decide +kernel
theorem f123_44 {L : Nat} {xs : Nat → Int32} : am_fd (tb_P L xs) 123 184 = some (8, 27, (.boolean : FieldType), true) := show tb_fdF 123 184 = some (8, 27, (.boolean : FieldType), true) from by decide +kernel
theorem k123_47 {L : Nat} {xs : Nat → Int32} : decode (am_cd (am_me (tb_P L xs) 123)) 47 = .ok (.iconst 0, 1) := show decode (am_cd (tb_me 123)) 47 = .ok (.iconst 0, 1) from by decide +kernel
theorem k123_48 {L : Nat} {xs : Nat → Int32} : decode (am_cd (am_me (tb_P L xs) 123)) 48 = .ok (.istore 4, 2) := show decode (am_cd (tb_me 123)) 48 = .ok (.istore 4, 2) from by decide +kernel
theorem k123_50 {L : Nat} {xs : Nat → Int32} : decode (am_cd (am_me (tb_P L xs) 123)) 50 = .ok (.iload 4, 2) := show decode (am_cd (tb_me 123)) 50 = .ok (.iload 4, 2) from by decide +kernel
theorem k123_52 {L : Nat} {xs : Nat → Int32} : decode (am_cd (am_me (tb_P L xs) 123)) 52 = .ok (.bipush 6, 2) := show decode (am_cd (tb_me 123)) 52 = .ok (.bipush 6, 2) from by decide +kernel
theorem k123_54 {L : Nat} {xs : Nat → Int32} : decode (am_cd (am_me (tb_P L xs) 123)) 54 = .ok (.if_icmp .ge 23, 3) := show decode (am_cd (tb_me 123)) 54 = .ok (.if_icmp .ge 23, 3) from by decide +kernel
theorem k123_57 {L : Nat} {xs : Nat → Int32} : decode (am_cd (am_me (tb_P L xs) 123)) 57 = .ok (.aload_n 0, 1) := show decode (am_cd (tb_me 123)) 57 = .ok (.aload_n 0, 1) from by decide +kernel
theorem k123_58 {L : Nat} {xs : Nat → Int32} : decode (am_cd (am_me (tb_P L xs) 123)) 58 = .ok (.getfield 72, 3) := show decode (am_cd (tb_me 123)) 58 = .ok (.getfield 72, 3) from by decide +kernel
theorem f123_58 {L : Nat} {xs : Nat → Int32} : am_fd (tb_P L xs) 123 72 = some (8, 28, (.array .int : FieldType), true) := show tb_fdF 123 72 = some (8, 28, (.array .int : FieldType), true) from by decide +kernel
theorem k123_61 {L : Nat} {xs : Nat → Int32} : decode (am_cd (am_me (tb_P L xs) 123)) 61 = .ok (.iload 4, 2) := show decode (am_cd (tb_me 123)) 61 = .ok (.iload 4, 2) from by decide +kernel
theorem k123_63 {L : Nat} {xs : Nat → Int32} : decode (am_cd (am_me (tb_P L xs) 123)) 63 = .ok (.aload_n 0, 1) := show decode (am_cd (tb_me 123)) 63 = .ok (.aload_n 0, 1) from by decide +kernel
theorem k123_64 {L : Nat} {xs : Nat → Int32} : decode (am_cd (am_me (tb_P L xs) 123)) 64 = .ok (.getfield 63, 3) := show decode (am_cd (tb_me 123)) 64 = .ok (.getfield 63, 3) from by decide +kernel
theorem f123_64 {L : Nat} {xs : Nat → Int32} : am_fd (tb_P L xs) 123 63 = some (8, 21, (.array .int : FieldType), true) := show tb_fdF 123 63 = some (8, 21, (.array .int : FieldType), true) from by decide +kernel
theorem k123_67 {L : Nat} {xs : Nat → Int32} : decode (am_cd (am_me (tb_P L xs) 123)) 67 = .ok (.iload 4, 2) := show decode (am_cd (tb_me 123)) 67 = .ok (.iload 4, 2) from by decide +kernel
theorem k123_69 {L : Nat} {xs : Nat → Int32} : decode (am_cd (am_me (tb_P L xs) 123)) 69 = .ok (.iaload, 1) := show decode (am_cd (tb_me 123)) 69 = .ok (.iaload, 1) from by decide +kernel
theorem k123_70 {L : Nat} {xs : Nat → Int32} : decode (am_cd (am_me (tb_P L xs) 123)) 70 = .ok (.iastore, 1) := show decode (am_cd (tb_me 123)) 70 = .ok (.iastore, 1) from by decide +kernel
theorem k123_71 {L : Nat} {xs : Nat → Int32} : decode (am_cd (am_me (tb_P L xs) 123)) 71 = .ok (.iinc 4 1, 3) := show decode (am_cd (tb_me 123)) 71 = .ok (.iinc 4 1, 3) from by decide +kernel
theorem k123_74 {L : Nat} {xs : Nat → Int32} : decode (am_cd (am_me (tb_P L xs) 123)) 74 = .ok (.goto (-24), 3) := show decode (am_cd (tb_me 123)) 74 = .ok (.goto (-24), 3) from by decide +kernel
theorem k123_77 {L : Nat} {xs : Nat → Int32} : decode (am_cd (am_me (tb_P L xs) 123)) 77 = .ok (.aload_n 0, 1) := show decode (am_cd (tb_me 123)) 77 = .ok (.aload_n 0, 1) from by decide +kernel
theorem k123_78 {L : Nat} {xs : Nat → Int32} : decode (am_cd (am_me (tb_P L xs) 123)) 78 = .ok (.getfield 72, 3) := show decode (am_cd (tb_me 123)) 78 = .ok (.getfield 72, 3) from by decide +kernel
theorem f123_78 {L : Nat} {xs : Nat → Int32} : am_fd (tb_P L xs) 123 72 = some (8, 28, (.array .int : FieldType), true) := show tb_fdF 123 72 = some (8, 28, (.array .int : FieldType), true) from by decide +kernel
theorem k123_81 {L : Nat} {xs : Nat → Int32} : decode (am_cd (am_me (tb_P L xs) 123)) 81 = .ok (.bipush 6, 2) := show decode (am_cd (tb_me 123)) 81 = .ok (.bipush 6, 2) from by decide +kernel
theorem k123_83 {L : Nat} {xs : Nat → Int32} : decode (am_cd (am_me (tb_P L xs) 123)) 83 = .ok (.aload_n 0, 1) := show decode (am_cd (tb_me 123)) 83 = .ok (.aload_n 0, 1) from by decide +kernel
theorem k123_84 {L : Nat} {xs : Nat → Int32} : decode (am_cd (am_me (tb_P L xs) 123)) 84 = .ok (.getfield 165, 3) := show decode (am_cd (tb_me 123)) 84 = .ok (.getfield 165, 3) from by decide +kernel
theorem f123_84 {L : Nat} {xs : Nat → Int32} : am_fd (tb_P L xs) 123 165 = some (8, 32, (.int : FieldType), true) := show tb_fdF 123 165 = some (8, 32, (.int : FieldType), true) from by decide +kernel
theorem k123_87 {L : Nat} {xs : Nat → Int32} : decode (am_cd (am_me (tb_P L xs) 123)) 87 = .ok (.iastore, 1) := show decode (am_cd (tb_me 123)) 87 = .ok (.iastore, 1) from by decide +kernel
theorem k123_88 {L : Nat} {xs : Nat → Int32} : decode (am_cd (am_me (tb_P L xs) 123)) 88 = .ok (.iload_n 3, 1) := show decode (am_cd (tb_me 123)) 88 = .ok (.iload_n 3, 1) from by decide +kernel
theorem k123_89 {L : Nat} {xs : Nat → Int32} : decode (am_cd (am_me (tb_P L xs) 123)) 89 = .ok (.ireturn, 1) := show decode (am_cd (tb_me 123)) 89 = .ok (.ireturn, 1) from by decide +kernel
theorem t123 {L : Nat} {xs : Nat → Int32} : am_rt (am_me (tb_P L xs) 123) = some (.boolean : FieldType) := show am_rt (tb_me 123) = some (.boolean : FieldType) from by decide +kernel
theorem l123 {L : Nat} {xs : Nat → Int32} : am_ml (am_me (tb_P L xs) 123) = 5 := show am_ml (tb_me 123) = 5 from by decide +kernel
theorem o123 {L : Nat} {xs : Nat → Int32} (pc : Nat) : am_no (tb_P L xs) 123 pc = true := show (am_hd (tb_me 123)).all (fun q => !(decide (q.1 ≤ pc) && decide (pc < q.2.1))) = true from by rw [show am_hd (tb_me 123) = [] by decide +kernel]; rfl
theorem k124_0 {L : Nat} {xs : Nat → Int32} : decode (am_cd (am_me (tb_P L xs) 124)) 0 = .ok (.iload_n 1, 1) := show decode (am_cd (tb_me 124)) 0 = .ok (.iload_n 1, 1) from by decide +kernel
theorem k124_1 {L : Nat} {xs : Nat → Int32} : decode (am_cd (am_me (tb_P L xs) 124)) 1 = .ok (.ifCond .lt 9, 3) := show decode (am_cd (tb_me 124)) 1 = .ok (.ifCond .lt 9, 3) from by decide +kernel
theorem k124_4 {L : Nat} {xs : Nat → Int32} : decode (am_cd (am_me (tb_P L xs) 124)) 4 = .ok (.iload_n 1, 1) := show decode (am_cd (tb_me 124)) 4 = .ok (.iload_n 1, 1) from by decide +kernel
theorem k124_5 {L : Nat} {xs : Nat → Int32} : decode (am_cd (am_me (tb_P L xs) 124)) 5 = .ok (.bipush 6, 2) := show decode (am_cd (tb_me 124)) 5 = .ok (.bipush 6, 2) from by decide +kernel
theorem k124_7 {L : Nat} {xs : Nat → Int32} : decode (am_cd (am_me (tb_P L xs) 124)) 7 = .ok (.if_icmp .le 5, 3) := show decode (am_cd (tb_me 124)) 7 = .ok (.if_icmp .le 5, 3) from by decide +kernel
theorem k124_10 {L : Nat} {xs : Nat → Int32} : decode (am_cd (am_me (tb_P L xs) 124)) 10 = .ok (.iconst 1, 1) := show decode (am_cd (tb_me 124)) 10 = .ok (.iconst 1, 1) from by decide +kernel
theorem k124_11 {L : Nat} {xs : Nat → Int32} : decode (am_cd (am_me (tb_P L xs) 124)) 11 = .ok (.ireturn, 1) := show decode (am_cd (tb_me 124)) 11 = .ok (.ireturn, 1) from by decide +kernel
theorem k124_12 {L : Nat} {xs : Nat → Int32} : decode (am_cd (am_me (tb_P L xs) 124)) 12 = .ok (.iload_n 1, 1) := show decode (am_cd (tb_me 124)) 12 = .ok (.iload_n 1, 1) from by decide +kernel
theorem k124_13 {L : Nat} {xs : Nat → Int32} : decode (am_cd (am_me (tb_P L xs) 124)) 13 = .ok (.ifCond .eq 9, 3) := show decode (am_cd (tb_me 124)) 13 = .ok (.ifCond .eq 9, 3) from by decide +kernel
theorem k124_16 {L : Nat} {xs : Nat → Int32} : decode (am_cd (am_me (tb_P L xs) 124)) 16 = .ok (.iload_n 1, 1) := show decode (am_cd (tb_me 124)) 16 = .ok (.iload_n 1, 1) from by decide +kernel
theorem k124_17 {L : Nat} {xs : Nat → Int32} : decode (am_cd (am_me (tb_P L xs) 124)) 17 = .ok (.bipush 6, 2) := show decode (am_cd (tb_me 124)) 17 = .ok (.bipush 6, 2) from by decide +kernel
theorem k124_19 {L : Nat} {xs : Nat → Int32} : decode (am_cd (am_me (tb_P L xs) 124)) 19 = .ok (.if_icmp .ne 13, 3) := show decode (am_cd (tb_me 124)) 19 = .ok (.if_icmp .ne 13, 3) from by decide +kernel
theorem k124_22 {L : Nat} {xs : Nat → Int32} : decode (am_cd (am_me (tb_P L xs) 124)) 22 = .ok (.iload_n 2, 1) := show decode (am_cd (tb_me 124)) 22 = .ok (.iload_n 2, 1) from by decide +kernel
theorem k124_23 {L : Nat} {xs : Nat → Int32} : decode (am_cd (am_me (tb_P L xs) 124)) 23 = .ok (.ifCond .eq 7, 3) := show decode (am_cd (tb_me 124)) 23 = .ok (.ifCond .eq 7, 3) from by decide +kernel
theorem k124_26 {L : Nat} {xs : Nat → Int32} : decode (am_cd (am_me (tb_P L xs) 124)) 26 = .ok (.iconst 1, 1) := show decode (am_cd (tb_me 124)) 26 = .ok (.iconst 1, 1) from by decide +kernel
theorem k124_27 {L : Nat} {xs : Nat → Int32} : decode (am_cd (am_me (tb_P L xs) 124)) 27 = .ok (.goto 4, 3) := show decode (am_cd (tb_me 124)) 27 = .ok (.goto 4, 3) from by decide +kernel
theorem k124_30 {L : Nat} {xs : Nat → Int32} : decode (am_cd (am_me (tb_P L xs) 124)) 30 = .ok (.iconst 0, 1) := show decode (am_cd (tb_me 124)) 30 = .ok (.iconst 0, 1) from by decide +kernel
theorem k124_31 {L : Nat} {xs : Nat → Int32} : decode (am_cd (am_me (tb_P L xs) 124)) 31 = .ok (.ireturn, 1) := show decode (am_cd (tb_me 124)) 31 = .ok (.ireturn, 1) from by decide +kernel
theorem k124_32 {L : Nat} {xs : Nat → Int32} : decode (am_cd (am_me (tb_P L xs) 124)) 32 = .ok (.aload_n 0, 1) := show decode (am_cd (tb_me 124)) 32 = .ok (.aload_n 0, 1) from by decide +kernel
theorem k124_33 {L : Nat} {xs : Nat → Int32} : decode (am_cd (am_me (tb_P L xs) 124)) 33 = .ok (.iload_n 2, 1) := show decode (am_cd (tb_me 124)) 33 = .ok (.iload_n 2, 1) from by decide +kernel
theorem k124_34 {L : Nat} {xs : Nat → Int32} : decode (am_cd (am_me (tb_P L xs) 124)) 34 = .ok (.invokevirtual 123, 3) := show decode (am_cd (tb_me 124)) 34 = .ok (.invokevirtual 123, 3) from by decide +kernel
theorem s124_34 {L : Nat} {xs : Nat → Int32} : am_sp (tb_P L xs) 124 123 = none := show tb_spF 124 123 = none from by decide +kernel
theorem c124_34 {L : Nat} {xs : Nat → Int32} : am_ca (tb_P L xs) 124 123 = some (115, 1, 1) := show tb_caF 124 123 = some (115, 1, 1) from by decide +kernel
theorem r124_34 {L : Nat} {xs : Nat → Int32} : am_rf (am_me (tb_P L xs) 115) + 1 ≤ am_rf (am_me (tb_P L xs) 124) ∧ 0 + (am_ml (am_me (tb_P L xs) 115) + 11) + am_rl (am_me (tb_P L xs) 115) ≤ am_rl (am_me (tb_P L xs) 124) := show am_rf (tb_me 115) + 1 ≤ am_rf (tb_me 124) ∧ 0 + (am_ml (tb_me 115) + 11) + am_rl (tb_me 115) ≤ am_rl (tb_me 124) from by decide +kernel
theorem k124_37 {L : Nat} {xs : Nat → Int32} : decode (am_cd (am_me (tb_P L xs) 124)) 37 = .ok (.ifCond .eq 5, 3) := show decode (am_cd (tb_me 124)) 37 = .ok (.ifCond .eq 5, 3) from by decide +kernel
theorem k124_40 {L : Nat} {xs : Nat → Int32} : decode (am_cd (am_me (tb_P L xs) 124)) 40 = .ok (.iconst 1, 1) := show decode (am_cd (tb_me 124)) 40 = .ok (.iconst 1, 1) from by decide +kernel
theorem k124_41 {L : Nat} {xs : Nat → Int32} : decode (am_cd (am_me (tb_P L xs) 124)) 41 = .ok (.ireturn, 1) := show decode (am_cd (tb_me 124)) 41 = .ok (.ireturn, 1) from by decide +kernel
theorem k124_42 {L : Nat} {xs : Nat → Int32} : decode (am_cd (am_me (tb_P L xs) 124)) 42 = .ok (.iload_n 1, 1) := show decode (am_cd (tb_me 124)) 42 = .ok (.iload_n 1, 1) from by decide +kernel
theorem k124_43 {L : Nat} {xs : Nat → Int32} : decode (am_cd (am_me (tb_P L xs) 124)) 43 = .ok (.iconst 2, 1) := show decode (am_cd (tb_me 124)) 43 = .ok (.iconst 2, 1) from by decide +kernel
theorem k124_44 {L : Nat} {xs : Nat → Int32} : decode (am_cd (am_me (tb_P L xs) 124)) 44 = .ok (.if_icmp .ne 21, 3) := show decode (am_cd (tb_me 124)) 44 = .ok (.if_icmp .ne 21, 3) from by decide +kernel
theorem k124_47 {L : Nat} {xs : Nat → Int32} : decode (am_cd (am_me (tb_P L xs) 124)) 47 = .ok (.aload_n 0, 1) := show decode (am_cd (tb_me 124)) 47 = .ok (.aload_n 0, 1) from by decide +kernel
theorem k124_48 {L : Nat} {xs : Nat → Int32} : decode (am_cd (am_me (tb_P L xs) 124)) 48 = .ok (.getfield 35, 3) := show decode (am_cd (tb_me 124)) 48 = .ok (.getfield 35, 3) from by decide +kernel
theorem f124_48 {L : Nat} {xs : Nat → Int32} : am_fd (tb_P L xs) 124 35 = some (8, 12, (.array .int : FieldType), true) := show tb_fdF 124 35 = some (8, 12, (.array .int : FieldType), true) from by decide +kernel
theorem k124_51 {L : Nat} {xs : Nat → Int32} : decode (am_cd (am_me (tb_P L xs) 124)) 51 = .ok (.iload_n 2, 1) := show decode (am_cd (tb_me 124)) 51 = .ok (.iload_n 2, 1) from by decide +kernel
theorem k124_52 {L : Nat} {xs : Nat → Int32} : decode (am_cd (am_me (tb_P L xs) 124)) 52 = .ok (.iaload, 1) := show decode (am_cd (tb_me 124)) 52 = .ok (.iaload, 1) from by decide +kernel
theorem k124_53 {L : Nat} {xs : Nat → Int32} : decode (am_cd (am_me (tb_P L xs) 124)) 53 = .ok (.iconst 1, 1) := show decode (am_cd (tb_me 124)) 53 = .ok (.iconst 1, 1) from by decide +kernel
theorem k124_54 {L : Nat} {xs : Nat → Int32} : decode (am_cd (am_me (tb_P L xs) 124)) 54 = .ok (.if_icmp .ne 7, 3) := show decode (am_cd (tb_me 124)) 54 = .ok (.if_icmp .ne 7, 3) from by decide +kernel
theorem k124_57 {L : Nat} {xs : Nat → Int32} : decode (am_cd (am_me (tb_P L xs) 124)) 57 = .ok (.iconst 1, 1) := show decode (am_cd (tb_me 124)) 57 = .ok (.iconst 1, 1) from by decide +kernel
theorem k124_58 {L : Nat} {xs : Nat → Int32} : decode (am_cd (am_me (tb_P L xs) 124)) 58 = .ok (.goto 56, 3) := show decode (am_cd (tb_me 124)) 58 = .ok (.goto 56, 3) from by decide +kernel
theorem k124_61 {L : Nat} {xs : Nat → Int32} : decode (am_cd (am_me (tb_P L xs) 124)) 61 = .ok (.iconst 0, 1) := show decode (am_cd (tb_me 124)) 61 = .ok (.iconst 0, 1) from by decide +kernel
theorem k124_62 {L : Nat} {xs : Nat → Int32} : decode (am_cd (am_me (tb_P L xs) 124)) 62 = .ok (.goto 52, 3) := show decode (am_cd (tb_me 124)) 62 = .ok (.goto 52, 3) from by decide +kernel
theorem k124_65 {L : Nat} {xs : Nat → Int32} : decode (am_cd (am_me (tb_P L xs) 124)) 65 = .ok (.iload_n 1, 1) := show decode (am_cd (tb_me 124)) 65 = .ok (.iload_n 1, 1) from by decide +kernel
theorem k124_66 {L : Nat} {xs : Nat → Int32} : decode (am_cd (am_me (tb_P L xs) 124)) 66 = .ok (.iconst 2, 1) := show decode (am_cd (tb_me 124)) 66 = .ok (.iconst 2, 1) from by decide +kernel
theorem k124_67 {L : Nat} {xs : Nat → Int32} : decode (am_cd (am_me (tb_P L xs) 124)) 67 = .ok (.if_icmp .le 46, 3) := show decode (am_cd (tb_me 124)) 67 = .ok (.if_icmp .le 46, 3) from by decide +kernel
theorem k124_70 {L : Nat} {xs : Nat → Int32} : decode (am_cd (am_me (tb_P L xs) 124)) 70 = .ok (.aload_n 0, 1) := show decode (am_cd (tb_me 124)) 70 = .ok (.aload_n 0, 1) from by decide +kernel
theorem k124_71 {L : Nat} {xs : Nat → Int32} : decode (am_cd (am_me (tb_P L xs) 124)) 71 = .ok (.getfield 35, 3) := show decode (am_cd (tb_me 124)) 71 = .ok (.getfield 35, 3) from by decide +kernel
theorem f124_71 {L : Nat} {xs : Nat → Int32} : am_fd (tb_P L xs) 124 35 = some (8, 12, (.array .int : FieldType), true) := show tb_fdF 124 35 = some (8, 12, (.array .int : FieldType), true) from by decide +kernel
theorem k124_74 {L : Nat} {xs : Nat → Int32} : decode (am_cd (am_me (tb_P L xs) 124)) 74 = .ok (.iload_n 2, 1) := show decode (am_cd (tb_me 124)) 74 = .ok (.iload_n 2, 1) from by decide +kernel
theorem k124_75 {L : Nat} {xs : Nat → Int32} : decode (am_cd (am_me (tb_P L xs) 124)) 75 = .ok (.iaload, 1) := show decode (am_cd (tb_me 124)) 75 = .ok (.iaload, 1) from by decide +kernel
theorem k124_76 {L : Nat} {xs : Nat → Int32} : decode (am_cd (am_me (tb_P L xs) 124)) 76 = .ok (.ifCond .eq 33, 3) := show decode (am_cd (tb_me 124)) 76 = .ok (.ifCond .eq 33, 3) from by decide +kernel
theorem k124_79 {L : Nat} {xs : Nat → Int32} : decode (am_cd (am_me (tb_P L xs) 124)) 79 = .ok (.iload_n 1, 1) := show decode (am_cd (tb_me 124)) 79 = .ok (.iload_n 1, 1) from by decide +kernel
theorem k124_80 {L : Nat} {xs : Nat → Int32} : decode (am_cd (am_me (tb_P L xs) 124)) 80 = .ok (.iconst 4, 1) := show decode (am_cd (tb_me 124)) 80 = .ok (.iconst 4, 1) from by decide +kernel
theorem k124_81 {L : Nat} {xs : Nat → Int32} : decode (am_cd (am_me (tb_P L xs) 124)) 81 = .ok (.if_icmp .ne 13, 3) := show decode (am_cd (tb_me 124)) 81 = .ok (.if_icmp .ne 13, 3) from by decide +kernel
theorem k124_84 {L : Nat} {xs : Nat → Int32} : decode (am_cd (am_me (tb_P L xs) 124)) 84 = .ok (.aload_n 0, 1) := show decode (am_cd (tb_me 124)) 84 = .ok (.aload_n 0, 1) from by decide +kernel
theorem k124_85 {L : Nat} {xs : Nat → Int32} : decode (am_cd (am_me (tb_P L xs) 124)) 85 = .ok (.getfield 41, 3) := show decode (am_cd (tb_me 124)) 85 = .ok (.getfield 41, 3) from by decide +kernel
theorem f124_85 {L : Nat} {xs : Nat → Int32} : am_fd (tb_P L xs) 124 41 = some (8, 14, (.array .int : FieldType), true) := show tb_fdF 124 41 = some (8, 14, (.array .int : FieldType), true) from by decide +kernel
theorem k124_88 {L : Nat} {xs : Nat → Int32} : decode (am_cd (am_me (tb_P L xs) 124)) 88 = .ok (.iload_n 2, 1) := show decode (am_cd (tb_me 124)) 88 = .ok (.iload_n 2, 1) from by decide +kernel
theorem k124_89 {L : Nat} {xs : Nat → Int32} : decode (am_cd (am_me (tb_P L xs) 124)) 89 = .ok (.iaload, 1) := show decode (am_cd (tb_me 124)) 89 = .ok (.iaload, 1) from by decide +kernel
theorem k124_90 {L : Nat} {xs : Nat → Int32} : decode (am_cd (am_me (tb_P L xs) 124)) 90 = .ok (.iconst (-1), 1) := show decode (am_cd (tb_me 124)) 90 = .ok (.iconst (-1), 1) from by decide +kernel
theorem k124_91 {L : Nat} {xs : Nat → Int32} : decode (am_cd (am_me (tb_P L xs) 124)) 91 = .ok (.if_icmp .eq 18, 3) := show decode (am_cd (tb_me 124)) 91 = .ok (.if_icmp .eq 18, 3) from by decide +kernel
theorem k124_94 {L : Nat} {xs : Nat → Int32} : decode (am_cd (am_me (tb_P L xs) 124)) 94 = .ok (.iload_n 1, 1) := show decode (am_cd (tb_me 124)) 94 = .ok (.iload_n 1, 1) from by decide +kernel
theorem k124_95 {L : Nat} {xs : Nat → Int32} : decode (am_cd (am_me (tb_P L xs) 124)) 95 = .ok (.iconst 5, 1) := show decode (am_cd (tb_me 124)) 95 = .ok (.iconst 5, 1) from by decide +kernel
theorem k124_96 {L : Nat} {xs : Nat → Int32} : decode (am_cd (am_me (tb_P L xs) 124)) 96 = .ok (.if_icmp .ne 17, 3) := show decode (am_cd (tb_me 124)) 96 = .ok (.if_icmp .ne 17, 3) from by decide +kernel
theorem k124_99 {L : Nat} {xs : Nat → Int32} : decode (am_cd (am_me (tb_P L xs) 124)) 99 = .ok (.aload_n 0, 1) := show decode (am_cd (tb_me 124)) 99 = .ok (.aload_n 0, 1) from by decide +kernel
theorem k124_100 {L : Nat} {xs : Nat → Int32} : decode (am_cd (am_me (tb_P L xs) 124)) 100 = .ok (.getfield 41, 3) := show decode (am_cd (tb_me 124)) 100 = .ok (.getfield 41, 3) from by decide +kernel
theorem f124_100 {L : Nat} {xs : Nat → Int32} : am_fd (tb_P L xs) 124 41 = some (8, 14, (.array .int : FieldType), true) := show tb_fdF 124 41 = some (8, 14, (.array .int : FieldType), true) from by decide +kernel
theorem k124_103 {L : Nat} {xs : Nat → Int32} : decode (am_cd (am_me (tb_P L xs) 124)) 103 = .ok (.iload_n 2, 1) := show decode (am_cd (tb_me 124)) 103 = .ok (.iload_n 2, 1) from by decide +kernel
theorem k124_104 {L : Nat} {xs : Nat → Int32} : decode (am_cd (am_me (tb_P L xs) 124)) 104 = .ok (.iaload, 1) := show decode (am_cd (tb_me 124)) 104 = .ok (.iaload, 1) from by decide +kernel
theorem k124_105 {L : Nat} {xs : Nat → Int32} : decode (am_cd (am_me (tb_P L xs) 124)) 105 = .ok (.iconst (-1), 1) := show decode (am_cd (tb_me 124)) 105 = .ok (.iconst (-1), 1) from by decide +kernel
theorem k124_106 {L : Nat} {xs : Nat → Int32} : decode (am_cd (am_me (tb_P L xs) 124)) 106 = .ok (.if_icmp .eq 7, 3) := show decode (am_cd (tb_me 124)) 106 = .ok (.if_icmp .eq 7, 3) from by decide +kernel
theorem k124_109 {L : Nat} {xs : Nat → Int32} : decode (am_cd (am_me (tb_P L xs) 124)) 109 = .ok (.iconst 1, 1) := show decode (am_cd (tb_me 124)) 109 = .ok (.iconst 1, 1) from by decide +kernel
theorem k124_110 {L : Nat} {xs : Nat → Int32} : decode (am_cd (am_me (tb_P L xs) 124)) 110 = .ok (.goto 4, 3) := show decode (am_cd (tb_me 124)) 110 = .ok (.goto 4, 3) from by decide +kernel
theorem k124_113 {L : Nat} {xs : Nat → Int32} : decode (am_cd (am_me (tb_P L xs) 124)) 113 = .ok (.iconst 0, 1) := show decode (am_cd (tb_me 124)) 113 = .ok (.iconst 0, 1) from by decide +kernel
theorem k124_114 {L : Nat} {xs : Nat → Int32} : decode (am_cd (am_me (tb_P L xs) 124)) 114 = .ok (.ireturn, 1) := show decode (am_cd (tb_me 124)) 114 = .ok (.ireturn, 1) from by decide +kernel
theorem t124 {L : Nat} {xs : Nat → Int32} : am_rt (am_me (tb_P L xs) 124) = some (.boolean : FieldType) := show am_rt (tb_me 124) = some (.boolean : FieldType) from by decide +kernel
theorem l124 {L : Nat} {xs : Nat → Int32} : am_ml (am_me (tb_P L xs) 124) = 3 := show am_ml (tb_me 124) = 3 from by decide +kernel
theorem o124 {L : Nat} {xs : Nat → Int32} (pc : Nat) : am_no (tb_P L xs) 124 pc = true := show (am_hd (tb_me 124)).all (fun q => !(decide (q.1 ≤ pc) && decide (pc < q.2.1))) = true from by rw [show am_hd (tb_me 124) = [] by decide +kernel]; rfl
