/-! decode rows of OriginRallyModel -/
theorem dX6_init_0 : decode cX6_init 0 = .ok (.aload_n 0, 1) := by decide +kernel
theorem dX6_init_1 : decode cX6_init 1 = .ok (.invokespecial 1, 3) := by decide +kernel
theorem dX6_init_4 : decode cX6_init 4 = .ok (.aload_n 0, 1) := by decide +kernel
theorem dX6_init_5 : decode cX6_init 5 = .ok (.bipush 30, 2) := by decide +kernel
theorem dX6_init_7 : decode cX6_init 7 = .ok (.newarray .int, 2) := by decide +kernel
theorem dX6_init_9 : decode cX6_init 9 = .ok (.putfield 7, 3) := by decide +kernel
theorem dX6_init_12 : decode cX6_init 12 = .ok (.aload_n 0, 1) := by decide +kernel
theorem dX6_init_13 : decode cX6_init 13 = .ok (.bipush 30, 2) := by decide +kernel
theorem dX6_init_15 : decode cX6_init 15 = .ok (.newarray .int, 2) := by decide +kernel
theorem dX6_init_17 : decode cX6_init 17 = .ok (.putfield 13, 3) := by decide +kernel
theorem dX6_init_20 : decode cX6_init 20 = .ok (.aload_n 0, 1) := by decide +kernel
theorem dX6_init_21 : decode cX6_init 21 = .ok (.bipush 10, 2) := by decide +kernel
theorem dX6_init_23 : decode cX6_init 23 = .ok (.newarray .int, 2) := by decide +kernel
theorem dX6_init_25 : decode cX6_init 25 = .ok (.putfield 16, 3) := by decide +kernel
theorem dX6_init_28 : decode cX6_init 28 = .ok (.aload_n 0, 1) := by decide +kernel
theorem dX6_init_29 : decode cX6_init 29 = .ok (.bipush 10, 2) := by decide +kernel
theorem dX6_init_31 : decode cX6_init 31 = .ok (.newarray .int, 2) := by decide +kernel
theorem dX6_init_33 : decode cX6_init 33 = .ok (.putfield 19, 3) := by decide +kernel
theorem dX6_init_36 : decode cX6_init 36 = .ok (.aload_n 0, 1) := by decide +kernel
theorem dX6_init_37 : decode cX6_init 37 = .ok (.bipush 10, 2) := by decide +kernel
theorem dX6_init_39 : decode cX6_init 39 = .ok (.putfield 22, 3) := by decide +kernel
theorem dX6_init_42 : decode cX6_init 42 = .ok (.aload_n 0, 1) := by decide +kernel
theorem dX6_init_43 : decode cX6_init 43 = .ok (.bipush 8, 2) := by decide +kernel
theorem dX6_init_45 : decode cX6_init 45 = .ok (.newarray .int, 2) := by decide +kernel
theorem dX6_init_47 : decode cX6_init 47 = .ok (.putfield 26, 3) := by decide +kernel
theorem dX6_init_50 : decode cX6_init 50 = .ok (.aload_n 0, 1) := by decide +kernel
theorem dX6_init_51 : decode cX6_init 51 = .ok (.sipush 480, 3) := by decide +kernel
theorem dX6_init_54 : decode cX6_init 54 = .ok (.newarray .int, 2) := by decide +kernel
theorem dX6_init_56 : decode cX6_init 56 = .ok (.putfield 29, 3) := by decide +kernel
theorem dX6_init_59 : decode cX6_init 59 = .ok (.aload_n 0, 1) := by decide +kernel
theorem dX6_init_60 : decode cX6_init 60 = .ok (.sipush 480, 3) := by decide +kernel
theorem dX6_init_63 : decode cX6_init 63 = .ok (.newarray .int, 2) := by decide +kernel
theorem dX6_init_65 : decode cX6_init 65 = .ok (.putfield 32, 3) := by decide +kernel
theorem dX6_init_68 : decode cX6_init 68 = .ok (.aload_n 0, 1) := by decide +kernel
theorem dX6_init_69 : decode cX6_init 69 = .ok (.sipush 480, 3) := by decide +kernel
theorem dX6_init_72 : decode cX6_init 72 = .ok (.newarray .int, 2) := by decide +kernel
theorem dX6_init_74 : decode cX6_init 74 = .ok (.putfield 35, 3) := by decide +kernel
theorem dX6_init_77 : decode cX6_init 77 = .ok (.aload_n 0, 1) := by decide +kernel
theorem dX6_init_78 : decode cX6_init 78 = .ok (.bipush 8, 2) := by decide +kernel
theorem dX6_init_80 : decode cX6_init 80 = .ok (.newarray .int, 2) := by decide +kernel
theorem dX6_init_82 : decode cX6_init 82 = .ok (.dup, 1) := by decide +kernel
theorem dX6_init_83 : decode cX6_init 83 = .ok (.iconst 0, 1) := by decide +kernel
theorem dX6_init_84 : decode cX6_init 84 = .ok (.iconst (-1), 1) := by decide +kernel
theorem dX6_init_85 : decode cX6_init 85 = .ok (.iastore, 1) := by decide +kernel
theorem dX6_init_86 : decode cX6_init 86 = .ok (.dup, 1) := by decide +kernel
theorem dX6_init_87 : decode cX6_init 87 = .ok (.iconst 1, 1) := by decide +kernel
theorem dX6_init_88 : decode cX6_init 88 = .ok (.iconst (-1), 1) := by decide +kernel
theorem dX6_init_89 : decode cX6_init 89 = .ok (.iastore, 1) := by decide +kernel
theorem dX6_init_90 : decode cX6_init 90 = .ok (.dup, 1) := by decide +kernel
theorem dX6_init_91 : decode cX6_init 91 = .ok (.iconst 2, 1) := by decide +kernel
theorem dX6_init_92 : decode cX6_init 92 = .ok (.iconst (-1), 1) := by decide +kernel
theorem dX6_init_93 : decode cX6_init 93 = .ok (.iastore, 1) := by decide +kernel
theorem dX6_init_94 : decode cX6_init 94 = .ok (.dup, 1) := by decide +kernel
theorem dX6_init_95 : decode cX6_init 95 = .ok (.iconst 3, 1) := by decide +kernel
theorem dX6_init_96 : decode cX6_init 96 = .ok (.iconst (-1), 1) := by decide +kernel
theorem dX6_init_97 : decode cX6_init 97 = .ok (.iastore, 1) := by decide +kernel
theorem dX6_init_98 : decode cX6_init 98 = .ok (.dup, 1) := by decide +kernel
theorem dX6_init_99 : decode cX6_init 99 = .ok (.iconst 4, 1) := by decide +kernel
theorem dX6_init_100 : decode cX6_init 100 = .ok (.iconst (-1), 1) := by decide +kernel
theorem dX6_init_101 : decode cX6_init 101 = .ok (.iastore, 1) := by decide +kernel
theorem dX6_init_102 : decode cX6_init 102 = .ok (.dup, 1) := by decide +kernel
theorem dX6_init_103 : decode cX6_init 103 = .ok (.iconst 5, 1) := by decide +kernel
theorem dX6_init_104 : decode cX6_init 104 = .ok (.iconst (-1), 1) := by decide +kernel
theorem dX6_init_105 : decode cX6_init 105 = .ok (.iastore, 1) := by decide +kernel
theorem dX6_init_106 : decode cX6_init 106 = .ok (.dup, 1) := by decide +kernel
theorem dX6_init_107 : decode cX6_init 107 = .ok (.bipush 6, 2) := by decide +kernel
theorem dX6_init_109 : decode cX6_init 109 = .ok (.iconst (-1), 1) := by decide +kernel
theorem dX6_init_110 : decode cX6_init 110 = .ok (.iastore, 1) := by decide +kernel
theorem dX6_init_111 : decode cX6_init 111 = .ok (.dup, 1) := by decide +kernel
theorem dX6_init_112 : decode cX6_init 112 = .ok (.bipush 7, 2) := by decide +kernel
theorem dX6_init_114 : decode cX6_init 114 = .ok (.iconst (-1), 1) := by decide +kernel
theorem dX6_init_115 : decode cX6_init 115 = .ok (.iastore, 1) := by decide +kernel
theorem dX6_init_116 : decode cX6_init 116 = .ok (.putfield 38, 3) := by decide +kernel
theorem dX6_init_119 : decode cX6_init 119 = .ok (.aload_n 0, 1) := by decide +kernel
theorem dX6_init_120 : decode cX6_init 120 = .ok (.bipush 8, 2) := by decide +kernel
theorem dX6_init_122 : decode cX6_init 122 = .ok (.newarray .int, 2) := by decide +kernel
theorem dX6_init_124 : decode cX6_init 124 = .ok (.putfield 41, 3) := by decide +kernel
theorem dX6_init_127 : decode cX6_init 127 = .ok (.aload_n 0, 1) := by decide +kernel
theorem dX6_init_128 : decode cX6_init 128 = .ok (.bipush 80, 2) := by decide +kernel
theorem dX6_init_130 : decode cX6_init 130 = .ok (.newarray .int, 2) := by decide +kernel
theorem dX6_init_132 : decode cX6_init 132 = .ok (.putfield 44, 3) := by decide +kernel
theorem dX6_init_135 : decode cX6_init 135 = .ok (.aload_n 0, 1) := by decide +kernel
theorem dX6_init_136 : decode cX6_init 136 = .ok (.bipush 40, 2) := by decide +kernel
theorem dX6_init_138 : decode cX6_init 138 = .ok (.newarray .int, 2) := by decide +kernel
theorem dX6_init_140 : decode cX6_init 140 = .ok (.putfield 47, 3) := by decide +kernel
theorem dX6_init_143 : decode cX6_init 143 = .ok (.aload_n 0, 1) := by decide +kernel
theorem dX6_init_144 : decode cX6_init 144 = .ok (.bipush 40, 2) := by decide +kernel
theorem dX6_init_146 : decode cX6_init 146 = .ok (.newarray .int, 2) := by decide +kernel
theorem dX6_init_148 : decode cX6_init 148 = .ok (.putfield 50, 3) := by decide +kernel
theorem dX6_init_151 : decode cX6_init 151 = .ok (.aload_n 0, 1) := by decide +kernel
theorem dX6_init_152 : decode cX6_init 152 = .ok (.bipush 40, 2) := by decide +kernel
theorem dX6_init_154 : decode cX6_init 154 = .ok (.newarray .int, 2) := by decide +kernel
theorem dX6_init_156 : decode cX6_init 156 = .ok (.putfield 53, 3) := by decide +kernel
theorem dX6_init_159 : decode cX6_init 159 = .ok (.aload_n 0, 1) := by decide +kernel
theorem dX6_init_160 : decode cX6_init 160 = .ok (.bipush 40, 2) := by decide +kernel
theorem dX6_init_162 : decode cX6_init 162 = .ok (.newarray .int, 2) := by decide +kernel
theorem dX6_init_164 : decode cX6_init 164 = .ok (.putfield 56, 3) := by decide +kernel
theorem dX6_init_167 : decode cX6_init 167 = .ok (.aload_n 0, 1) := by decide +kernel
theorem dX6_init_168 : decode cX6_init 168 = .ok (.bipush 8, 2) := by decide +kernel
theorem dX6_init_170 : decode cX6_init 170 = .ok (.newarray .int, 2) := by decide +kernel
theorem dX6_init_172 : decode cX6_init 172 = .ok (.putfield 59, 3) := by decide +kernel
theorem dX6_init_175 : decode cX6_init 175 = .ok (.iconst 0, 1) := by decide +kernel
theorem dX6_init_176 : decode cX6_init 176 = .ok (.istore_n 1, 1) := by decide +kernel
theorem dX6_init_177 : decode cX6_init 177 = .ok (.iload_n 1, 1) := by decide +kernel
theorem dX6_init_178 : decode cX6_init 178 = .ok (.bipush 80, 2) := by decide +kernel
theorem dX6_init_180 : decode cX6_init 180 = .ok (.if_icmp .ge 16, 3) := by decide +kernel
theorem dX6_init_183 : decode cX6_init 183 = .ok (.aload_n 0, 1) := by decide +kernel
theorem dX6_init_184 : decode cX6_init 184 = .ok (.getfield 44, 3) := by decide +kernel
theorem dX6_init_187 : decode cX6_init 187 = .ok (.iload_n 1, 1) := by decide +kernel
theorem dX6_init_188 : decode cX6_init 188 = .ok (.iconst (-1), 1) := by decide +kernel
theorem dX6_init_189 : decode cX6_init 189 = .ok (.iastore, 1) := by decide +kernel
theorem dX6_init_190 : decode cX6_init 190 = .ok (.iinc 1 1, 3) := by decide +kernel
theorem dX6_init_193 : decode cX6_init 193 = .ok (.goto (-16), 3) := by decide +kernel
theorem dX6_init_196 : decode cX6_init 196 = .ok (.return_, 1) := by decide +kernel
theorem dX6_thrown_0 : decode cX6_thrown 0 = .ok (.aload_n 0, 1) := by decide +kernel
theorem dX6_thrown_1 : decode cX6_thrown 1 = .ok (.getfield 62, 3) := by decide +kernel
theorem dX6_thrown_4 : decode cX6_thrown 4 = .ok (.ireturn, 1) := by decide +kernel
theorem dX6_goesWell_0 : decode cX6_goesWell 0 = .ok (.aload_n 0, 1) := by decide +kernel
theorem dX6_goesWell_1 : decode cX6_goesWell 1 = .ok (.iload_n 1, 1) := by decide +kernel
theorem dX6_goesWell_2 : decode cX6_goesWell 2 = .ok (.putfield 62, 3) := by decide +kernel
theorem dX6_goesWell_5 : decode cX6_goesWell 5 = .ok (.iload_n 1, 1) := by decide +kernel
theorem dX6_goesWell_6 : decode cX6_goesWell 6 = .ok (.ifCond .ne 7, 3) := by decide +kernel
theorem dX6_goesWell_9 : decode cX6_goesWell 9 = .ok (.iconst 1, 1) := by decide +kernel
theorem dX6_goesWell_10 : decode cX6_goesWell 10 = .ok (.goto 4, 3) := by decide +kernel
theorem dX6_goesWell_13 : decode cX6_goesWell 13 = .ok (.iconst 0, 1) := by decide +kernel
theorem dX6_goesWell_14 : decode cX6_goesWell 14 = .ok (.ireturn, 1) := by decide +kernel
theorem dX6_in_0 : decode cX6_in 0 = .ok (.iload_n 0, 1) := by decide +kernel
theorem dX6_in_1 : decode cX6_in 1 = .ok (.iload_n 1, 1) := by decide +kernel
theorem dX6_in_2 : decode cX6_in 2 = .ok (.if_icmp .lt 12, 3) := by decide +kernel
theorem dX6_in_5 : decode cX6_in 5 = .ok (.iload_n 0, 1) := by decide +kernel
theorem dX6_in_6 : decode cX6_in 6 = .ok (.iload_n 2, 1) := by decide +kernel
theorem dX6_in_7 : decode cX6_in 7 = .ok (.if_icmp .gt 7, 3) := by decide +kernel
theorem dX6_in_10 : decode cX6_in 10 = .ok (.iconst 1, 1) := by decide +kernel
theorem dX6_in_11 : decode cX6_in 11 = .ok (.goto 4, 3) := by decide +kernel
theorem dX6_in_14 : decode cX6_in 14 = .ok (.iconst 0, 1) := by decide +kernel
theorem dX6_in_15 : decode cX6_in 15 = .ok (.ireturn, 1) := by decide +kernel
theorem dX6_isCar_0 : decode cX6_isCar 0 = .ok (.iload_n 1, 1) := by decide +kernel
theorem dX6_isCar_1 : decode cX6_isCar 1 = .ok (.iconst 0, 1) := by decide +kernel
theorem dX6_isCar_2 : decode cX6_isCar 2 = .ok (.aload_n 0, 1) := by decide +kernel
theorem dX6_isCar_3 : decode cX6_isCar 3 = .ok (.getfield 65, 3) := by decide +kernel
theorem dX6_isCar_6 : decode cX6_isCar 6 = .ok (.iconst 1, 1) := by decide +kernel
theorem dX6_isCar_7 : decode cX6_isCar 7 = .ok (.isub, 1) := by decide +kernel
theorem dX6_isCar_8 : decode cX6_isCar 8 = .ok (.invokestatic 68, 3) := by decide +kernel
theorem dX6_isCar_11 : decode cX6_isCar 11 = .ok (.ireturn, 1) := by decide +kernel
theorem dX6_isGate_0 : decode cX6_isGate 0 = .ok (.iload_n 1, 1) := by decide +kernel
theorem dX6_isGate_1 : decode cX6_isGate 1 = .ok (.iconst 0, 1) := by decide +kernel
theorem dX6_isGate_2 : decode cX6_isGate 2 = .ok (.aload_n 0, 1) := by decide +kernel
theorem dX6_isGate_3 : decode cX6_isGate 3 = .ok (.getfield 72, 3) := by decide +kernel
theorem dX6_isGate_6 : decode cX6_isGate 6 = .ok (.iconst 1, 1) := by decide +kernel
theorem dX6_isGate_7 : decode cX6_isGate 7 = .ok (.isub, 1) := by decide +kernel
theorem dX6_isGate_8 : decode cX6_isGate 8 = .ok (.invokestatic 68, 3) := by decide +kernel
theorem dX6_isGate_11 : decode cX6_isGate 11 = .ok (.ireturn, 1) := by decide +kernel
theorem dX6_begin_0 : decode cX6_begin 0 = .ok (.aload_n 0, 1) := by decide +kernel
theorem dX6_begin_1 : decode cX6_begin 1 = .ok (.aload_n 0, 1) := by decide +kernel
theorem dX6_begin_2 : decode cX6_begin 2 = .ok (.getfield 75, 3) := by decide +kernel
theorem dX6_begin_5 : decode cX6_begin 5 = .ok (.bipush 16, 2) := by decide +kernel
theorem dX6_begin_7 : decode cX6_begin 7 = .ok (.idiv, 1) := by decide +kernel
theorem dX6_begin_8 : decode cX6_begin 8 = .ok (.putfield 78, 3) := by decide +kernel
theorem dX6_begin_11 : decode cX6_begin 11 = .ok (.aload_n 0, 1) := by decide +kernel
theorem dX6_begin_12 : decode cX6_begin 12 = .ok (.aload_n 0, 1) := by decide +kernel
theorem dX6_begin_13 : decode cX6_begin 13 = .ok (.getfield 75, 3) := by decide +kernel
theorem dX6_begin_16 : decode cX6_begin 16 = .ok (.bipush 16, 2) := by decide +kernel
theorem dX6_begin_18 : decode cX6_begin 18 = .ok (.irem, 1) := by decide +kernel
theorem dX6_begin_19 : decode cX6_begin 19 = .ok (.putfield 81, 3) := by decide +kernel
theorem dX6_begin_22 : decode cX6_begin 22 = .ok (.aload_n 0, 1) := by decide +kernel
theorem dX6_begin_23 : decode cX6_begin 23 = .ok (.iconst 0, 1) := by decide +kernel
theorem dX6_begin_24 : decode cX6_begin 24 = .ok (.putfield 84, 3) := by decide +kernel
theorem dX6_begin_27 : decode cX6_begin 27 = .ok (.return_, 1) := by decide +kernel
theorem dX6_goOn_0 : decode cX6_goOn 0 = .ok (.aload_n 0, 1) := by decide +kernel
theorem dX6_goOn_1 : decode cX6_goOn 1 = .ok (.dup, 1) := by decide +kernel
theorem dX6_goOn_2 : decode cX6_goOn 2 = .ok (.getfield 78, 3) := by decide +kernel
theorem dX6_goOn_5 : decode cX6_goOn 5 = .ok (.aload_n 0, 1) := by decide +kernel
theorem dX6_goOn_6 : decode cX6_goOn 6 = .ok (.getfield 84, 3) := by decide +kernel
theorem dX6_goOn_9 : decode cX6_goOn 9 = .ok (.iconst 1, 1) := by decide +kernel
theorem dX6_goOn_10 : decode cX6_goOn 10 = .ok (.if_icmp .ne 7, 3) := by decide +kernel
theorem dX6_goOn_13 : decode cX6_goOn 13 = .ok (.iload_n 1, 1) := by decide +kernel
theorem dX6_goOn_14 : decode cX6_goOn 14 = .ok (.goto 17, 3) := by decide +kernel
theorem dX6_goOn_17 : decode cX6_goOn 17 = .ok (.aload_n 0, 1) := by decide +kernel
theorem dX6_goOn_18 : decode cX6_goOn 18 = .ok (.getfield 84, 3) := by decide +kernel
theorem dX6_goOn_21 : decode cX6_goOn 21 = .ok (.iconst 3, 1) := by decide +kernel
theorem dX6_goOn_22 : decode cX6_goOn 22 = .ok (.if_icmp .ne 8, 3) := by decide +kernel
theorem dX6_goOn_25 : decode cX6_goOn 25 = .ok (.iload_n 1, 1) := by decide +kernel
theorem dX6_goOn_26 : decode cX6_goOn 26 = .ok (.ineg, 1) := by decide +kernel
theorem dX6_goOn_27 : decode cX6_goOn 27 = .ok (.goto 4, 3) := by decide +kernel
theorem dX6_goOn_30 : decode cX6_goOn 30 = .ok (.iconst 0, 1) := by decide +kernel
theorem dX6_goOn_31 : decode cX6_goOn 31 = .ok (.iadd, 1) := by decide +kernel
theorem dX6_goOn_32 : decode cX6_goOn 32 = .ok (.putfield 78, 3) := by decide +kernel
theorem dX6_goOn_35 : decode cX6_goOn 35 = .ok (.aload_n 0, 1) := by decide +kernel
theorem dX6_goOn_36 : decode cX6_goOn 36 = .ok (.dup, 1) := by decide +kernel
theorem dX6_goOn_37 : decode cX6_goOn 37 = .ok (.getfield 81, 3) := by decide +kernel
theorem dX6_goOn_40 : decode cX6_goOn 40 = .ok (.aload_n 0, 1) := by decide +kernel
theorem dX6_goOn_41 : decode cX6_goOn 41 = .ok (.getfield 84, 3) := by decide +kernel
theorem dX6_goOn_44 : decode cX6_goOn 44 = .ok (.ifCond .ne 7, 3) := by decide +kernel
theorem dX6_goOn_47 : decode cX6_goOn 47 = .ok (.iload_n 1, 1) := by decide +kernel
theorem dX6_goOn_48 : decode cX6_goOn 48 = .ok (.goto 17, 3) := by decide +kernel
theorem dX6_goOn_51 : decode cX6_goOn 51 = .ok (.aload_n 0, 1) := by decide +kernel
theorem dX6_goOn_52 : decode cX6_goOn 52 = .ok (.getfield 84, 3) := by decide +kernel
theorem dX6_goOn_55 : decode cX6_goOn 55 = .ok (.iconst 2, 1) := by decide +kernel
theorem dX6_goOn_56 : decode cX6_goOn 56 = .ok (.if_icmp .ne 8, 3) := by decide +kernel
theorem dX6_goOn_59 : decode cX6_goOn 59 = .ok (.iload_n 1, 1) := by decide +kernel
theorem dX6_goOn_60 : decode cX6_goOn 60 = .ok (.ineg, 1) := by decide +kernel
theorem dX6_goOn_61 : decode cX6_goOn 61 = .ok (.goto 4, 3) := by decide +kernel
theorem dX6_goOn_64 : decode cX6_goOn 64 = .ok (.iconst 0, 1) := by decide +kernel
theorem dX6_goOn_65 : decode cX6_goOn 65 = .ok (.iadd, 1) := by decide +kernel
theorem dX6_goOn_66 : decode cX6_goOn 66 = .ok (.putfield 81, 3) := by decide +kernel
theorem dX6_goOn_69 : decode cX6_goOn 69 = .ok (.return_, 1) := by decide +kernel
theorem dX6_cell_0 : decode cX6_cell 0 = .ok (.bipush 16, 2) := by decide +kernel
theorem dX6_cell_2 : decode cX6_cell 2 = .ok (.aload_n 0, 1) := by decide +kernel
theorem dX6_cell_3 : decode cX6_cell 3 = .ok (.getfield 78, 3) := by decide +kernel
theorem dX6_cell_6 : decode cX6_cell 6 = .ok (.imul, 1) := by decide +kernel
theorem dX6_cell_7 : decode cX6_cell 7 = .ok (.aload_n 0, 1) := by decide +kernel
theorem dX6_cell_8 : decode cX6_cell 8 = .ok (.getfield 81, 3) := by decide +kernel
theorem dX6_cell_11 : decode cX6_cell 11 = .ok (.iadd, 1) := by decide +kernel
theorem dX6_cell_12 : decode cX6_cell 12 = .ok (.ireturn, 1) := by decide +kernel
theorem dX6_isOnGround_0 : decode cX6_isOnGround 0 = .ok (.aload_n 0, 1) := by decide +kernel
theorem dX6_isOnGround_1 : decode cX6_isOnGround 1 = .ok (.getfield 78, 3) := by decide +kernel
theorem dX6_isOnGround_4 : decode cX6_isOnGround 4 = .ok (.iconst 0, 1) := by decide +kernel
theorem dX6_isOnGround_5 : decode cX6_isOnGround 5 = .ok (.bipush 15, 2) := by decide +kernel
theorem dX6_isOnGround_7 : decode cX6_isOnGround 7 = .ok (.invokestatic 68, 3) := by decide +kernel
theorem dX6_isOnGround_10 : decode cX6_isOnGround 10 = .ok (.ifCond .eq 20, 3) := by decide +kernel
theorem dX6_isOnGround_13 : decode cX6_isOnGround 13 = .ok (.aload_n 0, 1) := by decide +kernel
theorem dX6_isOnGround_14 : decode cX6_isOnGround 14 = .ok (.getfield 81, 3) := by decide +kernel
theorem dX6_isOnGround_17 : decode cX6_isOnGround 17 = .ok (.iconst 0, 1) := by decide +kernel
theorem dX6_isOnGround_18 : decode cX6_isOnGround 18 = .ok (.bipush 15, 2) := by decide +kernel
theorem dX6_isOnGround_20 : decode cX6_isOnGround 20 = .ok (.invokestatic 68, 3) := by decide +kernel
theorem dX6_isOnGround_23 : decode cX6_isOnGround 23 = .ok (.ifCond .eq 7, 3) := by decide +kernel
theorem dX6_isOnGround_26 : decode cX6_isOnGround 26 = .ok (.iconst 1, 1) := by decide +kernel
theorem dX6_isOnGround_27 : decode cX6_isOnGround 27 = .ok (.goto 4, 3) := by decide +kernel
theorem dX6_isOnGround_30 : decode cX6_isOnGround 30 = .ok (.iconst 0, 1) := by decide +kernel
theorem dX6_isOnGround_31 : decode cX6_isOnGround 31 = .ok (.ireturn, 1) := by decide +kernel
theorem dX6_followBook_0 : decode cX6_followBook 0 = .ok (.aload_n 0, 1) := by decide +kernel
theorem dX6_followBook_1 : decode cX6_followBook 1 = .ok (.invokevirtual 87, 3) := by decide +kernel
theorem dX6_followBook_4 : decode cX6_followBook 4 = .ok (.iconst 0, 1) := by decide +kernel
theorem dX6_followBook_5 : decode cX6_followBook 5 = .ok (.istore_n 2, 1) := by decide +kernel
theorem dX6_followBook_6 : decode cX6_followBook 6 = .ok (.iload_n 2, 1) := by decide +kernel
theorem dX6_followBook_7 : decode cX6_followBook 7 = .ok (.iload_n 1, 1) := by decide +kernel
theorem dX6_followBook_8 : decode cX6_followBook 8 = .ok (.if_icmp .ge 36, 3) := by decide +kernel
theorem dX6_followBook_11 : decode cX6_followBook 11 = .ok (.aload_n 0, 1) := by decide +kernel
theorem dX6_followBook_12 : decode cX6_followBook 12 = .ok (.aload_n 0, 1) := by decide +kernel
theorem dX6_followBook_13 : decode cX6_followBook 13 = .ok (.getfield 7, 3) := by decide +kernel
theorem dX6_followBook_16 : decode cX6_followBook 16 = .ok (.iload_n 2, 1) := by decide +kernel
theorem dX6_followBook_17 : decode cX6_followBook 17 = .ok (.iaload, 1) := by decide +kernel
theorem dX6_followBook_18 : decode cX6_followBook 18 = .ok (.invokevirtual 90, 3) := by decide +kernel
theorem dX6_followBook_21 : decode cX6_followBook 21 = .ok (.aload_n 0, 1) := by decide +kernel
theorem dX6_followBook_22 : decode cX6_followBook 22 = .ok (.aload_n 0, 1) := by decide +kernel
theorem dX6_followBook_23 : decode cX6_followBook 23 = .ok (.getfield 84, 3) := by decide +kernel
theorem dX6_followBook_26 : decode cX6_followBook 26 = .ok (.aload_n 0, 1) := by decide +kernel
theorem dX6_followBook_27 : decode cX6_followBook 27 = .ok (.getfield 13, 3) := by decide +kernel
theorem dX6_followBook_30 : decode cX6_followBook 30 = .ok (.iload_n 2, 1) := by decide +kernel
theorem dX6_followBook_31 : decode cX6_followBook 31 = .ok (.iaload, 1) := by decide +kernel
theorem dX6_followBook_32 : decode cX6_followBook 32 = .ok (.iadd, 1) := by decide +kernel
theorem dX6_followBook_33 : decode cX6_followBook 33 = .ok (.iconst 4, 1) := by decide +kernel
theorem dX6_followBook_34 : decode cX6_followBook 34 = .ok (.irem, 1) := by decide +kernel
theorem dX6_followBook_35 : decode cX6_followBook 35 = .ok (.putfield 84, 3) := by decide +kernel
theorem dX6_followBook_38 : decode cX6_followBook 38 = .ok (.iinc 2 1, 3) := by decide +kernel
theorem dX6_followBook_41 : decode cX6_followBook 41 = .ok (.goto (-35), 3) := by decide +kernel
theorem dX6_followBook_44 : decode cX6_followBook 44 = .ok (.return_, 1) := by decide +kernel
theorem dX6_followTrack_0 : decode cX6_followTrack 0 = .ok (.aload_n 0, 1) := by decide +kernel
theorem dX6_followTrack_1 : decode cX6_followTrack 1 = .ok (.invokevirtual 87, 3) := by decide +kernel
theorem dX6_followTrack_4 : decode cX6_followTrack 4 = .ok (.iload_n 2, 1) := by decide +kernel
theorem dX6_followTrack_5 : decode cX6_followTrack 5 = .ok (.istore_n 3, 1) := by decide +kernel
theorem dX6_followTrack_6 : decode cX6_followTrack 6 = .ok (.bipush 60, 2) := by decide +kernel
theorem dX6_followTrack_8 : decode cX6_followTrack 8 = .ok (.iload_n 1, 1) := by decide +kernel
theorem dX6_followTrack_9 : decode cX6_followTrack 9 = .ok (.imul, 1) := by decide +kernel
theorem dX6_followTrack_10 : decode cX6_followTrack 10 = .ok (.istore 4, 2) := by decide +kernel
theorem dX6_followTrack_12 : decode cX6_followTrack 12 = .ok (.iload 4, 2) := by decide +kernel
theorem dX6_followTrack_14 : decode cX6_followTrack 14 = .ok (.bipush 60, 2) := by decide +kernel
theorem dX6_followTrack_16 : decode cX6_followTrack 16 = .ok (.iload_n 1, 1) := by decide +kernel
theorem dX6_followTrack_17 : decode cX6_followTrack 17 = .ok (.imul, 1) := by decide +kernel
theorem dX6_followTrack_18 : decode cX6_followTrack 18 = .ok (.aload_n 0, 1) := by decide +kernel
theorem dX6_followTrack_19 : decode cX6_followTrack 19 = .ok (.getfield 26, 3) := by decide +kernel
theorem dX6_followTrack_22 : decode cX6_followTrack 22 = .ok (.iload_n 1, 1) := by decide +kernel
theorem dX6_followTrack_23 : decode cX6_followTrack 23 = .ok (.iaload, 1) := by decide +kernel
theorem dX6_followTrack_24 : decode cX6_followTrack 24 = .ok (.iadd, 1) := by decide +kernel
theorem dX6_followTrack_25 : decode cX6_followTrack 25 = .ok (.if_icmp .ge 86, 3) := by decide +kernel
theorem dX6_followTrack_28 : decode cX6_followTrack 28 = .ok (.iload_n 3, 1) := by decide +kernel
theorem dX6_followTrack_29 : decode cX6_followTrack 29 = .ok (.ifCond .lt 82, 3) := by decide +kernel
theorem dX6_followTrack_32 : decode cX6_followTrack 32 = .ok (.iload_n 3, 1) := by decide +kernel
theorem dX6_followTrack_33 : decode cX6_followTrack 33 = .ok (.aload_n 0, 1) := by decide +kernel
theorem dX6_followTrack_34 : decode cX6_followTrack 34 = .ok (.getfield 32, 3) := by decide +kernel
theorem dX6_followTrack_37 : decode cX6_followTrack 37 = .ok (.iload 4, 2) := by decide +kernel
theorem dX6_followTrack_39 : decode cX6_followTrack 39 = .ok (.iaload, 1) := by decide +kernel
theorem dX6_followTrack_40 : decode cX6_followTrack 40 = .ok (.if_icmp .ge 7, 3) := by decide +kernel
theorem dX6_followTrack_43 : decode cX6_followTrack 43 = .ok (.iload_n 3, 1) := by decide +kernel
theorem dX6_followTrack_44 : decode cX6_followTrack 44 = .ok (.goto 10, 3) := by decide +kernel
theorem dX6_followTrack_47 : decode cX6_followTrack 47 = .ok (.aload_n 0, 1) := by decide +kernel
theorem dX6_followTrack_48 : decode cX6_followTrack 48 = .ok (.getfield 32, 3) := by decide +kernel
theorem dX6_followTrack_51 : decode cX6_followTrack 51 = .ok (.iload 4, 2) := by decide +kernel
theorem dX6_followTrack_53 : decode cX6_followTrack 53 = .ok (.iaload, 1) := by decide +kernel
theorem dX6_followTrack_54 : decode cX6_followTrack 54 = .ok (.istore 5, 2) := by decide +kernel
theorem dX6_followTrack_56 : decode cX6_followTrack 56 = .ok (.aload_n 0, 1) := by decide +kernel
theorem dX6_followTrack_57 : decode cX6_followTrack 57 = .ok (.aload_n 0, 1) := by decide +kernel
theorem dX6_followTrack_58 : decode cX6_followTrack 58 = .ok (.getfield 29, 3) := by decide +kernel
theorem dX6_followTrack_61 : decode cX6_followTrack 61 = .ok (.iload 4, 2) := by decide +kernel
theorem dX6_followTrack_63 : decode cX6_followTrack 63 = .ok (.iaload, 1) := by decide +kernel
theorem dX6_followTrack_64 : decode cX6_followTrack 64 = .ok (.iconst (-1), 1) := by decide +kernel
theorem dX6_followTrack_65 : decode cX6_followTrack 65 = .ok (.if_icmp .ne 7, 3) := by decide +kernel
theorem dX6_followTrack_68 : decode cX6_followTrack 68 = .ok (.iconst 0, 1) := by decide +kernel
theorem dX6_followTrack_69 : decode cX6_followTrack 69 = .ok (.goto 5, 3) := by decide +kernel
theorem dX6_followTrack_72 : decode cX6_followTrack 72 = .ok (.iload 5, 2) := by decide +kernel
theorem dX6_followTrack_74 : decode cX6_followTrack 74 = .ok (.invokevirtual 90, 3) := by decide +kernel
theorem dX6_followTrack_77 : decode cX6_followTrack 77 = .ok (.aload_n 0, 1) := by decide +kernel
theorem dX6_followTrack_78 : decode cX6_followTrack 78 = .ok (.aload_n 0, 1) := by decide +kernel
theorem dX6_followTrack_79 : decode cX6_followTrack 79 = .ok (.getfield 84, 3) := by decide +kernel
theorem dX6_followTrack_82 : decode cX6_followTrack 82 = .ok (.aload_n 0, 1) := by decide +kernel
theorem dX6_followTrack_83 : decode cX6_followTrack 83 = .ok (.getfield 35, 3) := by decide +kernel
theorem dX6_followTrack_86 : decode cX6_followTrack 86 = .ok (.iload 4, 2) := by decide +kernel
theorem dX6_followTrack_88 : decode cX6_followTrack 88 = .ok (.iaload, 1) := by decide +kernel
theorem dX6_followTrack_89 : decode cX6_followTrack 89 = .ok (.iadd, 1) := by decide +kernel
theorem dX6_followTrack_90 : decode cX6_followTrack 90 = .ok (.iconst 4, 1) := by decide +kernel
theorem dX6_followTrack_91 : decode cX6_followTrack 91 = .ok (.irem, 1) := by decide +kernel
theorem dX6_followTrack_92 : decode cX6_followTrack 92 = .ok (.putfield 84, 3) := by decide +kernel
theorem dX6_followTrack_95 : decode cX6_followTrack 95 = .ok (.iload_n 3, 1) := by decide +kernel
theorem dX6_followTrack_96 : decode cX6_followTrack 96 = .ok (.aload_n 0, 1) := by decide +kernel
theorem dX6_followTrack_97 : decode cX6_followTrack 97 = .ok (.getfield 32, 3) := by decide +kernel
theorem dX6_followTrack_100 : decode cX6_followTrack 100 = .ok (.iload 4, 2) := by decide +kernel
theorem dX6_followTrack_102 : decode cX6_followTrack 102 = .ok (.iaload, 1) := by decide +kernel
theorem dX6_followTrack_103 : decode cX6_followTrack 103 = .ok (.isub, 1) := by decide +kernel
theorem dX6_followTrack_104 : decode cX6_followTrack 104 = .ok (.istore_n 3, 1) := by decide +kernel
theorem dX6_followTrack_105 : decode cX6_followTrack 105 = .ok (.iinc 4 1, 3) := by decide +kernel
theorem dX6_followTrack_108 : decode cX6_followTrack 108 = .ok (.goto (-96), 3) := by decide +kernel
theorem dX6_followTrack_111 : decode cX6_followTrack 111 = .ok (.return_, 1) := by decide +kernel
theorem dX6_clockOf_0 : decode cX6_clockOf 0 = .ok (.iconst 0, 1) := by decide +kernel
theorem dX6_clockOf_1 : decode cX6_clockOf 1 = .ok (.istore_n 2, 1) := by decide +kernel
theorem dX6_clockOf_2 : decode cX6_clockOf 2 = .ok (.bipush 60, 2) := by decide +kernel
theorem dX6_clockOf_4 : decode cX6_clockOf 4 = .ok (.iload_n 1, 1) := by decide +kernel
theorem dX6_clockOf_5 : decode cX6_clockOf 5 = .ok (.imul, 1) := by decide +kernel
theorem dX6_clockOf_6 : decode cX6_clockOf 6 = .ok (.istore_n 3, 1) := by decide +kernel
theorem dX6_clockOf_7 : decode cX6_clockOf 7 = .ok (.iload_n 3, 1) := by decide +kernel
theorem dX6_clockOf_8 : decode cX6_clockOf 8 = .ok (.bipush 60, 2) := by decide +kernel
theorem dX6_clockOf_10 : decode cX6_clockOf 10 = .ok (.iload_n 1, 1) := by decide +kernel
theorem dX6_clockOf_11 : decode cX6_clockOf 11 = .ok (.imul, 1) := by decide +kernel
theorem dX6_clockOf_12 : decode cX6_clockOf 12 = .ok (.aload_n 0, 1) := by decide +kernel
theorem dX6_clockOf_13 : decode cX6_clockOf 13 = .ok (.getfield 26, 3) := by decide +kernel
theorem dX6_clockOf_16 : decode cX6_clockOf 16 = .ok (.iload_n 1, 1) := by decide +kernel
theorem dX6_clockOf_17 : decode cX6_clockOf 17 = .ok (.iaload, 1) := by decide +kernel
theorem dX6_clockOf_18 : decode cX6_clockOf 18 = .ok (.iadd, 1) := by decide +kernel
theorem dX6_clockOf_19 : decode cX6_clockOf 19 = .ok (.if_icmp .ge 18, 3) := by decide +kernel
theorem dX6_clockOf_22 : decode cX6_clockOf 22 = .ok (.iload_n 2, 1) := by decide +kernel
theorem dX6_clockOf_23 : decode cX6_clockOf 23 = .ok (.aload_n 0, 1) := by decide +kernel
theorem dX6_clockOf_24 : decode cX6_clockOf 24 = .ok (.getfield 32, 3) := by decide +kernel
theorem dX6_clockOf_27 : decode cX6_clockOf 27 = .ok (.iload_n 3, 1) := by decide +kernel
theorem dX6_clockOf_28 : decode cX6_clockOf 28 = .ok (.iaload, 1) := by decide +kernel
theorem dX6_clockOf_29 : decode cX6_clockOf 29 = .ok (.iadd, 1) := by decide +kernel
theorem dX6_clockOf_30 : decode cX6_clockOf 30 = .ok (.istore_n 2, 1) := by decide +kernel
theorem dX6_clockOf_31 : decode cX6_clockOf 31 = .ok (.iinc 3 1, 3) := by decide +kernel
theorem dX6_clockOf_34 : decode cX6_clockOf 34 = .ok (.goto (-27), 3) := by decide +kernel
theorem dX6_clockOf_37 : decode cX6_clockOf 37 = .ok (.iload_n 2, 1) := by decide +kernel
theorem dX6_clockOf_38 : decode cX6_clockOf 38 = .ok (.ireturn, 1) := by decide +kernel
theorem dX6_cellNow_0 : decode cX6_cellNow 0 = .ok (.aload_n 0, 1) := by decide +kernel
theorem dX6_cellNow_1 : decode cX6_cellNow 1 = .ok (.iload_n 1, 1) := by decide +kernel
theorem dX6_cellNow_2 : decode cX6_cellNow 2 = .ok (.aload_n 0, 1) := by decide +kernel
theorem dX6_cellNow_3 : decode cX6_cellNow 3 = .ok (.iload_n 1, 1) := by decide +kernel
theorem dX6_cellNow_4 : decode cX6_cellNow 4 = .ok (.invokevirtual 94, 3) := by decide +kernel
theorem dX6_cellNow_7 : decode cX6_cellNow 7 = .ok (.invokevirtual 98, 3) := by decide +kernel
theorem dX6_cellNow_10 : decode cX6_cellNow 10 = .ok (.aload_n 0, 1) := by decide +kernel
theorem dX6_cellNow_11 : decode cX6_cellNow 11 = .ok (.invokevirtual 102, 3) := by decide +kernel
theorem dX6_cellNow_14 : decode cX6_cellNow 14 = .ok (.ireturn, 1) := by decide +kernel
theorem dX6_cellOfGate_0 : decode cX6_cellOfGate 0 = .ok (.aload_n 0, 1) := by decide +kernel
theorem dX6_cellOfGate_1 : decode cX6_cellOfGate 1 = .ok (.aload_n 0, 1) := by decide +kernel
theorem dX6_cellOfGate_2 : decode cX6_cellOfGate 2 = .ok (.getfield 16, 3) := by decide +kernel
theorem dX6_cellOfGate_5 : decode cX6_cellOfGate 5 = .ok (.iload_n 1, 1) := by decide +kernel
theorem dX6_cellOfGate_6 : decode cX6_cellOfGate 6 = .ok (.iaload, 1) := by decide +kernel
theorem dX6_cellOfGate_7 : decode cX6_cellOfGate 7 = .ok (.iconst 1, 1) := by decide +kernel
theorem dX6_cellOfGate_8 : decode cX6_cellOfGate 8 = .ok (.iadd, 1) := by decide +kernel
theorem dX6_cellOfGate_9 : decode cX6_cellOfGate 9 = .ok (.invokevirtual 106, 3) := by decide +kernel
theorem dX6_cellOfGate_12 : decode cX6_cellOfGate 12 = .ok (.aload_n 0, 1) := by decide +kernel
theorem dX6_cellOfGate_13 : decode cX6_cellOfGate 13 = .ok (.invokevirtual 102, 3) := by decide +kernel
theorem dX6_cellOfGate_16 : decode cX6_cellOfGate 16 = .ok (.ireturn, 1) := by decide +kernel
theorem dX6_firstIn_0 : decode cX6_firstIn 0 = .ok (.aload_n 0, 1) := by decide +kernel
theorem dX6_firstIn_1 : decode cX6_firstIn 1 = .ok (.invokevirtual 87, 3) := by decide +kernel
theorem dX6_firstIn_4 : decode cX6_firstIn 4 = .ok (.iconst 0, 1) := by decide +kernel
theorem dX6_firstIn_5 : decode cX6_firstIn 5 = .ok (.istore 4, 2) := by decide +kernel
theorem dX6_firstIn_7 : decode cX6_firstIn 7 = .ok (.iload_n 3, 1) := by decide +kernel
theorem dX6_firstIn_8 : decode cX6_firstIn 8 = .ok (.ifCond .ne 13, 3) := by decide +kernel
theorem dX6_firstIn_11 : decode cX6_firstIn 11 = .ok (.aload_n 0, 1) := by decide +kernel
theorem dX6_firstIn_12 : decode cX6_firstIn 12 = .ok (.invokevirtual 102, 3) := by decide +kernel
theorem dX6_firstIn_15 : decode cX6_firstIn 15 = .ok (.iload_n 2, 1) := by decide +kernel
theorem dX6_firstIn_16 : decode cX6_firstIn 16 = .ok (.if_icmp .ne 5, 3) := by decide +kernel
theorem dX6_firstIn_19 : decode cX6_firstIn 19 = .ok (.iconst 0, 1) := by decide +kernel
theorem dX6_firstIn_20 : decode cX6_firstIn 20 = .ok (.ireturn, 1) := by decide +kernel
theorem dX6_firstIn_21 : decode cX6_firstIn 21 = .ok (.bipush 60, 2) := by decide +kernel
theorem dX6_firstIn_23 : decode cX6_firstIn 23 = .ok (.iload_n 1, 1) := by decide +kernel
theorem dX6_firstIn_24 : decode cX6_firstIn 24 = .ok (.imul, 1) := by decide +kernel
theorem dX6_firstIn_25 : decode cX6_firstIn 25 = .ok (.istore 5, 2) := by decide +kernel
theorem dX6_firstIn_27 : decode cX6_firstIn 27 = .ok (.iload 5, 2) := by decide +kernel
theorem dX6_firstIn_29 : decode cX6_firstIn 29 = .ok (.bipush 60, 2) := by decide +kernel
theorem dX6_firstIn_31 : decode cX6_firstIn 31 = .ok (.iload_n 1, 1) := by decide +kernel
theorem dX6_firstIn_32 : decode cX6_firstIn 32 = .ok (.imul, 1) := by decide +kernel
theorem dX6_firstIn_33 : decode cX6_firstIn 33 = .ok (.aload_n 0, 1) := by decide +kernel
theorem dX6_firstIn_34 : decode cX6_firstIn 34 = .ok (.getfield 26, 3) := by decide +kernel
theorem dX6_firstIn_37 : decode cX6_firstIn 37 = .ok (.iload_n 1, 1) := by decide +kernel
theorem dX6_firstIn_38 : decode cX6_firstIn 38 = .ok (.iaload, 1) := by decide +kernel
theorem dX6_firstIn_39 : decode cX6_firstIn 39 = .ok (.iadd, 1) := by decide +kernel
theorem dX6_firstIn_40 : decode cX6_firstIn 40 = .ok (.if_icmp .ge 108, 3) := by decide +kernel
theorem dX6_firstIn_43 : decode cX6_firstIn 43 = .ok (.iconst 0, 1) := by decide +kernel
theorem dX6_firstIn_44 : decode cX6_firstIn 44 = .ok (.istore 6, 2) := by decide +kernel
theorem dX6_firstIn_46 : decode cX6_firstIn 46 = .ok (.iload 6, 2) := by decide +kernel
theorem dX6_firstIn_48 : decode cX6_firstIn 48 = .ok (.aload_n 0, 1) := by decide +kernel
theorem dX6_firstIn_49 : decode cX6_firstIn 49 = .ok (.getfield 32, 3) := by decide +kernel
theorem dX6_firstIn_52 : decode cX6_firstIn 52 = .ok (.iload 5, 2) := by decide +kernel
theorem dX6_firstIn_54 : decode cX6_firstIn 54 = .ok (.iaload, 1) := by decide +kernel
theorem dX6_firstIn_55 : decode cX6_firstIn 55 = .ok (.if_icmp .gt 57, 3) := by decide +kernel
theorem dX6_firstIn_58 : decode cX6_firstIn 58 = .ok (.iload 6, 2) := by decide +kernel
theorem dX6_firstIn_60 : decode cX6_firstIn 60 = .ok (.ifCond .le 23, 3) := by decide +kernel
theorem dX6_firstIn_63 : decode cX6_firstIn 63 = .ok (.aload_n 0, 1) := by decide +kernel
theorem dX6_firstIn_64 : decode cX6_firstIn 64 = .ok (.aload_n 0, 1) := by decide +kernel
theorem dX6_firstIn_65 : decode cX6_firstIn 65 = .ok (.getfield 29, 3) := by decide +kernel
theorem dX6_firstIn_68 : decode cX6_firstIn 68 = .ok (.iload 5, 2) := by decide +kernel
theorem dX6_firstIn_70 : decode cX6_firstIn 70 = .ok (.iaload, 1) := by decide +kernel
theorem dX6_firstIn_71 : decode cX6_firstIn 71 = .ok (.iconst (-1), 1) := by decide +kernel
theorem dX6_firstIn_72 : decode cX6_firstIn 72 = .ok (.if_icmp .ne 7, 3) := by decide +kernel
theorem dX6_firstIn_75 : decode cX6_firstIn 75 = .ok (.iconst 0, 1) := by decide +kernel
theorem dX6_firstIn_76 : decode cX6_firstIn 76 = .ok (.goto 4, 3) := by decide +kernel
theorem dX6_firstIn_79 : decode cX6_firstIn 79 = .ok (.iconst 1, 1) := by decide +kernel
theorem dX6_firstIn_80 : decode cX6_firstIn 80 = .ok (.invokevirtual 90, 3) := by decide +kernel
theorem dX6_firstIn_83 : decode cX6_firstIn 83 = .ok (.iload 4, 2) := by decide +kernel
theorem dX6_firstIn_85 : decode cX6_firstIn 85 = .ok (.iload 6, 2) := by decide +kernel
theorem dX6_firstIn_87 : decode cX6_firstIn 87 = .ok (.iadd, 1) := by decide +kernel
theorem dX6_firstIn_88 : decode cX6_firstIn 88 = .ok (.iload_n 3, 1) := by decide +kernel
theorem dX6_firstIn_89 : decode cX6_firstIn 89 = .ok (.if_icmp .lt 17, 3) := by decide +kernel
theorem dX6_firstIn_92 : decode cX6_firstIn 92 = .ok (.aload_n 0, 1) := by decide +kernel
theorem dX6_firstIn_93 : decode cX6_firstIn 93 = .ok (.invokevirtual 102, 3) := by decide +kernel
theorem dX6_firstIn_96 : decode cX6_firstIn 96 = .ok (.iload_n 2, 1) := by decide +kernel
theorem dX6_firstIn_97 : decode cX6_firstIn 97 = .ok (.if_icmp .ne 9, 3) := by decide +kernel
theorem dX6_firstIn_100 : decode cX6_firstIn 100 = .ok (.iload 4, 2) := by decide +kernel
theorem dX6_firstIn_102 : decode cX6_firstIn 102 = .ok (.iload 6, 2) := by decide +kernel
theorem dX6_firstIn_104 : decode cX6_firstIn 104 = .ok (.iadd, 1) := by decide +kernel
theorem dX6_firstIn_105 : decode cX6_firstIn 105 = .ok (.ireturn, 1) := by decide +kernel
theorem dX6_firstIn_106 : decode cX6_firstIn 106 = .ok (.iinc 6 1, 3) := by decide +kernel
theorem dX6_firstIn_109 : decode cX6_firstIn 109 = .ok (.goto (-63), 3) := by decide +kernel
theorem dX6_firstIn_112 : decode cX6_firstIn 112 = .ok (.iload 4, 2) := by decide +kernel
theorem dX6_firstIn_114 : decode cX6_firstIn 114 = .ok (.aload_n 0, 1) := by decide +kernel
theorem dX6_firstIn_115 : decode cX6_firstIn 115 = .ok (.getfield 32, 3) := by decide +kernel
theorem dX6_firstIn_118 : decode cX6_firstIn 118 = .ok (.iload 5, 2) := by decide +kernel
theorem dX6_firstIn_120 : decode cX6_firstIn 120 = .ok (.iaload, 1) := by decide +kernel
theorem dX6_firstIn_121 : decode cX6_firstIn 121 = .ok (.iadd, 1) := by decide +kernel
theorem dX6_firstIn_122 : decode cX6_firstIn 122 = .ok (.istore 4, 2) := by decide +kernel
theorem dX6_firstIn_124 : decode cX6_firstIn 124 = .ok (.aload_n 0, 1) := by decide +kernel
theorem dX6_firstIn_125 : decode cX6_firstIn 125 = .ok (.aload_n 0, 1) := by decide +kernel
theorem dX6_firstIn_126 : decode cX6_firstIn 126 = .ok (.getfield 84, 3) := by decide +kernel
theorem dX6_firstIn_129 : decode cX6_firstIn 129 = .ok (.aload_n 0, 1) := by decide +kernel
theorem dX6_firstIn_130 : decode cX6_firstIn 130 = .ok (.getfield 35, 3) := by decide +kernel
theorem dX6_firstIn_133 : decode cX6_firstIn 133 = .ok (.iload 5, 2) := by decide +kernel
theorem dX6_firstIn_135 : decode cX6_firstIn 135 = .ok (.iaload, 1) := by decide +kernel
theorem dX6_firstIn_136 : decode cX6_firstIn 136 = .ok (.iadd, 1) := by decide +kernel
theorem dX6_firstIn_137 : decode cX6_firstIn 137 = .ok (.iconst 4, 1) := by decide +kernel
theorem dX6_firstIn_138 : decode cX6_firstIn 138 = .ok (.irem, 1) := by decide +kernel
theorem dX6_firstIn_139 : decode cX6_firstIn 139 = .ok (.putfield 84, 3) := by decide +kernel
theorem dX6_firstIn_142 : decode cX6_firstIn 142 = .ok (.iinc 5 1, 3) := by decide +kernel
theorem dX6_firstIn_145 : decode cX6_firstIn 145 = .ok (.goto (-118), 3) := by decide +kernel
theorem dX6_firstIn_148 : decode cX6_firstIn 148 = .ok (.iconst (-1), 1) := by decide +kernel
theorem dX6_firstIn_149 : decode cX6_firstIn 149 = .ok (.ireturn, 1) := by decide +kernel
theorem dX6_passedAt_0 : decode cX6_passedAt 0 = .ok (.iconst 0, 1) := by decide +kernel
theorem dX6_passedAt_1 : decode cX6_passedAt 1 = .ok (.istore_n 3, 1) := by decide +kernel
theorem dX6_passedAt_2 : decode cX6_passedAt 2 = .ok (.iconst (-1), 1) := by decide +kernel
theorem dX6_passedAt_3 : decode cX6_passedAt 3 = .ok (.istore 4, 2) := by decide +kernel
theorem dX6_passedAt_5 : decode cX6_passedAt 5 = .ok (.iconst 0, 1) := by decide +kernel
theorem dX6_passedAt_6 : decode cX6_passedAt 6 = .ok (.istore 5, 2) := by decide +kernel
theorem dX6_passedAt_8 : decode cX6_passedAt 8 = .ok (.iload 5, 2) := by decide +kernel
theorem dX6_passedAt_10 : decode cX6_passedAt 10 = .ok (.iload_n 2, 1) := by decide +kernel
theorem dX6_passedAt_11 : decode cX6_passedAt 11 = .ok (.if_icmp .gt 36, 3) := by decide +kernel
theorem dX6_passedAt_14 : decode cX6_passedAt 14 = .ok (.aload_n 0, 1) := by decide +kernel
theorem dX6_passedAt_15 : decode cX6_passedAt 15 = .ok (.iload_n 1, 1) := by decide +kernel
theorem dX6_passedAt_16 : decode cX6_passedAt 16 = .ok (.aload_n 0, 1) := by decide +kernel
theorem dX6_passedAt_17 : decode cX6_passedAt 17 = .ok (.iload 5, 2) := by decide +kernel
theorem dX6_passedAt_19 : decode cX6_passedAt 19 = .ok (.invokevirtual 109, 3) := by decide +kernel
theorem dX6_passedAt_22 : decode cX6_passedAt 22 = .ok (.iload_n 3, 1) := by decide +kernel
theorem dX6_passedAt_23 : decode cX6_passedAt 23 = .ok (.invokevirtual 112, 3) := by decide +kernel
theorem dX6_passedAt_26 : decode cX6_passedAt 26 = .ok (.istore 4, 2) := by decide +kernel
theorem dX6_passedAt_28 : decode cX6_passedAt 28 = .ok (.iload 4, 2) := by decide +kernel
theorem dX6_passedAt_30 : decode cX6_passedAt 30 = .ok (.iconst (-1), 1) := by decide +kernel
theorem dX6_passedAt_31 : decode cX6_passedAt 31 = .ok (.if_icmp .ne 7, 3) := by decide +kernel
theorem dX6_passedAt_34 : decode cX6_passedAt 34 = .ok (.iload_n 3, 1) := by decide +kernel
theorem dX6_passedAt_35 : decode cX6_passedAt 35 = .ok (.goto 5, 3) := by decide +kernel
theorem dX6_passedAt_38 : decode cX6_passedAt 38 = .ok (.iload 4, 2) := by decide +kernel
theorem dX6_passedAt_40 : decode cX6_passedAt 40 = .ok (.istore_n 3, 1) := by decide +kernel
theorem dX6_passedAt_41 : decode cX6_passedAt 41 = .ok (.iinc 5 1, 3) := by decide +kernel
theorem dX6_passedAt_44 : decode cX6_passedAt 44 = .ok (.goto (-36), 3) := by decide +kernel
theorem dX6_passedAt_47 : decode cX6_passedAt 47 = .ok (.iload 4, 2) := by decide +kernel
theorem dX6_passedAt_49 : decode cX6_passedAt 49 = .ok (.ireturn, 1) := by decide +kernel
theorem dX6_setStart_0 : decode cX6_setStart 0 = .ok (.aload_n 0, 1) := by decide +kernel
theorem dX6_setStart_1 : decode cX6_setStart 1 = .ok (.iload_n 1, 1) := by decide +kernel
theorem dX6_setStart_2 : decode cX6_setStart 2 = .ok (.iconst 0, 1) := by decide +kernel
theorem dX6_setStart_3 : decode cX6_setStart 3 = .ok (.sipush 255, 3) := by decide +kernel
theorem dX6_setStart_6 : decode cX6_setStart 6 = .ok (.invokestatic 68, 3) := by decide +kernel
theorem dX6_setStart_9 : decode cX6_setStart 9 = .ok (.ifCond .ne 7, 3) := by decide +kernel
theorem dX6_setStart_12 : decode cX6_setStart 12 = .ok (.iconst 1, 1) := by decide +kernel
theorem dX6_setStart_13 : decode cX6_setStart 13 = .ok (.goto 22, 3) := by decide +kernel
theorem dX6_setStart_16 : decode cX6_setStart 16 = .ok (.aload_n 0, 1) := by decide +kernel
theorem dX6_setStart_17 : decode cX6_setStart 17 = .ok (.getfield 116, 3) := by decide +kernel
theorem dX6_setStart_20 : decode cX6_setStart 20 = .ok (.ifCond .gt 10, 3) := by decide +kernel
theorem dX6_setStart_23 : decode cX6_setStart 23 = .ok (.aload_n 0, 1) := by decide +kernel
theorem dX6_setStart_24 : decode cX6_setStart 24 = .ok (.getfield 65, 3) := by decide +kernel
theorem dX6_setStart_27 : decode cX6_setStart 27 = .ok (.ifCond .le 7, 3) := by decide +kernel
theorem dX6_setStart_30 : decode cX6_setStart 30 = .ok (.iconst 2, 1) := by decide +kernel
theorem dX6_setStart_31 : decode cX6_setStart 31 = .ok (.goto 4, 3) := by decide +kernel
theorem dX6_setStart_34 : decode cX6_setStart 34 = .ok (.iconst 0, 1) := by decide +kernel
theorem dX6_setStart_35 : decode cX6_setStart 35 = .ok (.invokevirtual 119, 3) := by decide +kernel
theorem dX6_setStart_38 : decode cX6_setStart 38 = .ok (.ifCond .ne 5, 3) := by decide +kernel
theorem dX6_setStart_41 : decode cX6_setStart 41 = .ok (.iconst 0, 1) := by decide +kernel
theorem dX6_setStart_42 : decode cX6_setStart 42 = .ok (.ireturn, 1) := by decide +kernel
theorem dX6_setStart_43 : decode cX6_setStart 43 = .ok (.aload_n 0, 1) := by decide +kernel
theorem dX6_setStart_44 : decode cX6_setStart 44 = .ok (.getfield 75, 3) := by decide +kernel
theorem dX6_setStart_47 : decode cX6_setStart 47 = .ok (.istore_n 2, 1) := by decide +kernel
theorem dX6_setStart_48 : decode cX6_setStart 48 = .ok (.aload_n 0, 1) := by decide +kernel
theorem dX6_setStart_49 : decode cX6_setStart 49 = .ok (.iload_n 1, 1) := by decide +kernel
theorem dX6_setStart_50 : decode cX6_setStart 50 = .ok (.putfield 75, 3) := by decide +kernel
theorem dX6_setStart_53 : decode cX6_setStart 53 = .ok (.iload_n 2, 1) := by decide +kernel
theorem dX6_setStart_54 : decode cX6_setStart 54 = .ok (.ireturn, 1) := by decide +kernel
theorem dX6_addEntry_0 : decode cX6_addEntry 0 = .ok (.iload_n 1, 1) := by decide +kernel
theorem dX6_addEntry_1 : decode cX6_addEntry 1 = .ok (.iconst 1, 1) := by decide +kernel
theorem dX6_addEntry_2 : decode cX6_addEntry 2 = .ok (.bipush 15, 2) := by decide +kernel
theorem dX6_addEntry_4 : decode cX6_addEntry 4 = .ok (.invokestatic 68, 3) := by decide +kernel
theorem dX6_addEntry_7 : decode cX6_addEntry 7 = .ok (.ifCond .eq 16, 3) := by decide +kernel
theorem dX6_addEntry_10 : decode cX6_addEntry 10 = .ok (.iload_n 2, 1) := by decide +kernel
theorem dX6_addEntry_11 : decode cX6_addEntry 11 = .ok (.iconst 0, 1) := by decide +kernel
theorem dX6_addEntry_12 : decode cX6_addEntry 12 = .ok (.iconst 3, 1) := by decide +kernel
theorem dX6_addEntry_13 : decode cX6_addEntry 13 = .ok (.invokestatic 68, 3) := by decide +kernel
theorem dX6_addEntry_16 : decode cX6_addEntry 16 = .ok (.ifCond .eq 7, 3) := by decide +kernel
theorem dX6_addEntry_19 : decode cX6_addEntry 19 = .ok (.iconst 1, 1) := by decide +kernel
theorem dX6_addEntry_20 : decode cX6_addEntry 20 = .ok (.goto 4, 3) := by decide +kernel
theorem dX6_addEntry_23 : decode cX6_addEntry 23 = .ok (.iconst 0, 1) := by decide +kernel
theorem dX6_addEntry_24 : decode cX6_addEntry 24 = .ok (.istore_n 3, 1) := by decide +kernel
theorem dX6_addEntry_25 : decode cX6_addEntry 25 = .ok (.aload_n 0, 1) := by decide +kernel
theorem dX6_addEntry_26 : decode cX6_addEntry 26 = .ok (.aload_n 0, 1) := by decide +kernel
theorem dX6_addEntry_27 : decode cX6_addEntry 27 = .ok (.getfield 116, 3) := by decide +kernel
theorem dX6_addEntry_30 : decode cX6_addEntry 30 = .ok (.invokevirtual 106, 3) := by decide +kernel
theorem dX6_addEntry_33 : decode cX6_addEntry 33 = .ok (.aload_n 0, 1) := by decide +kernel
theorem dX6_addEntry_34 : decode cX6_addEntry 34 = .ok (.iload_n 3, 1) := by decide +kernel
theorem dX6_addEntry_35 : decode cX6_addEntry 35 = .ok (.ifCond .eq 7, 3) := by decide +kernel
theorem dX6_addEntry_38 : decode cX6_addEntry 38 = .ok (.iload_n 1, 1) := by decide +kernel
theorem dX6_addEntry_39 : decode cX6_addEntry 39 = .ok (.goto 4, 3) := by decide +kernel
theorem dX6_addEntry_42 : decode cX6_addEntry 42 = .ok (.iconst 0, 1) := by decide +kernel
theorem dX6_addEntry_43 : decode cX6_addEntry 43 = .ok (.invokevirtual 90, 3) := by decide +kernel
theorem dX6_addEntry_46 : decode cX6_addEntry 46 = .ok (.aload_n 0, 1) := by decide +kernel
theorem dX6_addEntry_47 : decode cX6_addEntry 47 = .ok (.iload_n 3, 1) := by decide +kernel
theorem dX6_addEntry_48 : decode cX6_addEntry 48 = .ok (.ifCond .ne 7, 3) := by decide +kernel
theorem dX6_addEntry_51 : decode cX6_addEntry 51 = .ok (.iconst 1, 1) := by decide +kernel
theorem dX6_addEntry_52 : decode cX6_addEntry 52 = .ok (.goto 24, 3) := by decide +kernel
theorem dX6_addEntry_55 : decode cX6_addEntry 55 = .ok (.aload_n 0, 1) := by decide +kernel
theorem dX6_addEntry_56 : decode cX6_addEntry 56 = .ok (.getfield 116, 3) := by decide +kernel
theorem dX6_addEntry_59 : decode cX6_addEntry 59 = .ok (.bipush 30, 2) := by decide +kernel
theorem dX6_addEntry_61 : decode cX6_addEntry 61 = .ok (.if_icmp .eq 10, 3) := by decide +kernel
theorem dX6_addEntry_64 : decode cX6_addEntry 64 = .ok (.aload_n 0, 1) := by decide +kernel
theorem dX6_addEntry_65 : decode cX6_addEntry 65 = .ok (.invokevirtual 123, 3) := by decide +kernel
theorem dX6_addEntry_68 : decode cX6_addEntry 68 = .ok (.ifCond .ne 7, 3) := by decide +kernel
theorem dX6_addEntry_71 : decode cX6_addEntry 71 = .ok (.iconst 2, 1) := by decide +kernel
theorem dX6_addEntry_72 : decode cX6_addEntry 72 = .ok (.goto 4, 3) := by decide +kernel
theorem dX6_addEntry_75 : decode cX6_addEntry 75 = .ok (.iconst 0, 1) := by decide +kernel
theorem dX6_addEntry_76 : decode cX6_addEntry 76 = .ok (.invokevirtual 119, 3) := by decide +kernel
theorem dX6_addEntry_79 : decode cX6_addEntry 79 = .ok (.ifCond .ne 5, 3) := by decide +kernel
theorem dX6_addEntry_82 : decode cX6_addEntry 82 = .ok (.iconst 0, 1) := by decide +kernel
theorem dX6_addEntry_83 : decode cX6_addEntry 83 = .ok (.ireturn, 1) := by decide +kernel
theorem dX6_addEntry_84 : decode cX6_addEntry 84 = .ok (.aload_n 0, 1) := by decide +kernel
theorem dX6_addEntry_85 : decode cX6_addEntry 85 = .ok (.getfield 7, 3) := by decide +kernel
theorem dX6_addEntry_88 : decode cX6_addEntry 88 = .ok (.aload_n 0, 1) := by decide +kernel
theorem dX6_addEntry_89 : decode cX6_addEntry 89 = .ok (.getfield 116, 3) := by decide +kernel
theorem dX6_addEntry_92 : decode cX6_addEntry 92 = .ok (.iload_n 1, 1) := by decide +kernel
theorem dX6_addEntry_93 : decode cX6_addEntry 93 = .ok (.iastore, 1) := by decide +kernel
theorem dX6_addEntry_94 : decode cX6_addEntry 94 = .ok (.aload_n 0, 1) := by decide +kernel
theorem dX6_addEntry_95 : decode cX6_addEntry 95 = .ok (.getfield 13, 3) := by decide +kernel
theorem dX6_addEntry_98 : decode cX6_addEntry 98 = .ok (.aload_n 0, 1) := by decide +kernel
theorem dX6_addEntry_99 : decode cX6_addEntry 99 = .ok (.getfield 116, 3) := by decide +kernel
theorem dX6_addEntry_102 : decode cX6_addEntry 102 = .ok (.iload_n 2, 1) := by decide +kernel
theorem dX6_addEntry_103 : decode cX6_addEntry 103 = .ok (.iastore, 1) := by decide +kernel
theorem dX6_addEntry_104 : decode cX6_addEntry 104 = .ok (.aload_n 0, 1) := by decide +kernel
theorem dX6_addEntry_105 : decode cX6_addEntry 105 = .ok (.dup, 1) := by decide +kernel
theorem dX6_addEntry_106 : decode cX6_addEntry 106 = .ok (.getfield 116, 3) := by decide +kernel
theorem dX6_addEntry_109 : decode cX6_addEntry 109 = .ok (.iconst 1, 1) := by decide +kernel
theorem dX6_addEntry_110 : decode cX6_addEntry 110 = .ok (.iadd, 1) := by decide +kernel
theorem dX6_addEntry_111 : decode cX6_addEntry 111 = .ok (.putfield 116, 3) := by decide +kernel
theorem dX6_addEntry_114 : decode cX6_addEntry 114 = .ok (.aload_n 0, 1) := by decide +kernel
theorem dX6_addEntry_115 : decode cX6_addEntry 115 = .ok (.invokevirtual 102, 3) := by decide +kernel
theorem dX6_addEntry_118 : decode cX6_addEntry 118 = .ok (.ireturn, 1) := by decide +kernel
theorem dX6_addGate_0 : decode cX6_addGate 0 = .ok (.iload_n 1, 1) := by decide +kernel
theorem dX6_addGate_1 : decode cX6_addGate 1 = .ok (.iconst 0, 1) := by decide +kernel
theorem dX6_addGate_2 : decode cX6_addGate 2 = .ok (.aload_n 0, 1) := by decide +kernel
theorem dX6_addGate_3 : decode cX6_addGate 3 = .ok (.getfield 116, 3) := by decide +kernel
theorem dX6_addGate_6 : decode cX6_addGate 6 = .ok (.iconst 1, 1) := by decide +kernel
theorem dX6_addGate_7 : decode cX6_addGate 7 = .ok (.isub, 1) := by decide +kernel
theorem dX6_addGate_8 : decode cX6_addGate 8 = .ok (.invokestatic 68, 3) := by decide +kernel
theorem dX6_addGate_11 : decode cX6_addGate 11 = .ok (.istore_n 3, 1) := by decide +kernel
theorem dX6_addGate_12 : decode cX6_addGate 12 = .ok (.iload_n 2, 1) := by decide +kernel
theorem dX6_addGate_13 : decode cX6_addGate 13 = .ok (.iconst 0, 1) := by decide +kernel
theorem dX6_addGate_14 : decode cX6_addGate 14 = .ok (.bipush 100, 2) := by decide +kernel
theorem dX6_addGate_16 : decode cX6_addGate 16 = .ok (.invokestatic 68, 3) := by decide +kernel
theorem dX6_addGate_19 : decode cX6_addGate 19 = .ok (.ifCond .eq 29, 3) := by decide +kernel
theorem dX6_addGate_22 : decode cX6_addGate 22 = .ok (.aload_n 0, 1) := by decide +kernel
theorem dX6_addGate_23 : decode cX6_addGate 23 = .ok (.getfield 72, 3) := by decide +kernel
theorem dX6_addGate_26 : decode cX6_addGate 26 = .ok (.ifCond .eq 18, 3) := by decide +kernel
theorem dX6_addGate_29 : decode cX6_addGate 29 = .ok (.iload_n 1, 1) := by decide +kernel
theorem dX6_addGate_30 : decode cX6_addGate 30 = .ok (.aload_n 0, 1) := by decide +kernel
theorem dX6_addGate_31 : decode cX6_addGate 31 = .ok (.getfield 16, 3) := by decide +kernel
theorem dX6_addGate_34 : decode cX6_addGate 34 = .ok (.aload_n 0, 1) := by decide +kernel
theorem dX6_addGate_35 : decode cX6_addGate 35 = .ok (.getfield 72, 3) := by decide +kernel
theorem dX6_addGate_38 : decode cX6_addGate 38 = .ok (.iconst 1, 1) := by decide +kernel
theorem dX6_addGate_39 : decode cX6_addGate 39 = .ok (.isub, 1) := by decide +kernel
theorem dX6_addGate_40 : decode cX6_addGate 40 = .ok (.iaload, 1) := by decide +kernel
theorem dX6_addGate_41 : decode cX6_addGate 41 = .ok (.if_icmp .le 7, 3) := by decide +kernel
theorem dX6_addGate_44 : decode cX6_addGate 44 = .ok (.iconst 1, 1) := by decide +kernel
theorem dX6_addGate_45 : decode cX6_addGate 45 = .ok (.goto 4, 3) := by decide +kernel
theorem dX6_addGate_48 : decode cX6_addGate 48 = .ok (.iconst 0, 1) := by decide +kernel
theorem dX6_addGate_49 : decode cX6_addGate 49 = .ok (.istore 4, 2) := by decide +kernel
theorem dX6_addGate_51 : decode cX6_addGate 51 = .ok (.aload_n 0, 1) := by decide +kernel
theorem dX6_addGate_52 : decode cX6_addGate 52 = .ok (.iload_n 3, 1) := by decide +kernel
theorem dX6_addGate_53 : decode cX6_addGate 53 = .ok (.ifCond .ne 7, 3) := by decide +kernel
theorem dX6_addGate_56 : decode cX6_addGate 56 = .ok (.iconst 1, 1) := by decide +kernel
theorem dX6_addGate_57 : decode cX6_addGate 57 = .ok (.goto 26, 3) := by decide +kernel
theorem dX6_addGate_60 : decode cX6_addGate 60 = .ok (.iload 4, 2) := by decide +kernel
theorem dX6_addGate_62 : decode cX6_addGate 62 = .ok (.ifCond .ne 7, 3) := by decide +kernel
theorem dX6_addGate_65 : decode cX6_addGate 65 = .ok (.iconst 2, 1) := by decide +kernel
theorem dX6_addGate_66 : decode cX6_addGate 66 = .ok (.goto 17, 3) := by decide +kernel
theorem dX6_addGate_69 : decode cX6_addGate 69 = .ok (.aload_n 0, 1) := by decide +kernel
theorem dX6_addGate_70 : decode cX6_addGate 70 = .ok (.getfield 72, 3) := by decide +kernel
theorem dX6_addGate_73 : decode cX6_addGate 73 = .ok (.bipush 10, 2) := by decide +kernel
theorem dX6_addGate_75 : decode cX6_addGate 75 = .ok (.if_icmp .ne 7, 3) := by decide +kernel
theorem dX6_addGate_78 : decode cX6_addGate 78 = .ok (.iconst 3, 1) := by decide +kernel
theorem dX6_addGate_79 : decode cX6_addGate 79 = .ok (.goto 4, 3) := by decide +kernel
theorem dX6_addGate_82 : decode cX6_addGate 82 = .ok (.iconst 0, 1) := by decide +kernel
theorem dX6_addGate_83 : decode cX6_addGate 83 = .ok (.invokevirtual 119, 3) := by decide +kernel
theorem dX6_addGate_86 : decode cX6_addGate 86 = .ok (.ifCond .ne 5, 3) := by decide +kernel
theorem dX6_addGate_89 : decode cX6_addGate 89 = .ok (.iconst 0, 1) := by decide +kernel
theorem dX6_addGate_90 : decode cX6_addGate 90 = .ok (.ireturn, 1) := by decide +kernel
theorem dX6_addGate_91 : decode cX6_addGate 91 = .ok (.aload_n 0, 1) := by decide +kernel
theorem dX6_addGate_92 : decode cX6_addGate 92 = .ok (.getfield 16, 3) := by decide +kernel
theorem dX6_addGate_95 : decode cX6_addGate 95 = .ok (.aload_n 0, 1) := by decide +kernel
theorem dX6_addGate_96 : decode cX6_addGate 96 = .ok (.getfield 72, 3) := by decide +kernel
theorem dX6_addGate_99 : decode cX6_addGate 99 = .ok (.iload_n 1, 1) := by decide +kernel
theorem dX6_addGate_100 : decode cX6_addGate 100 = .ok (.iastore, 1) := by decide +kernel
theorem dX6_addGate_101 : decode cX6_addGate 101 = .ok (.aload_n 0, 1) := by decide +kernel
theorem dX6_addGate_102 : decode cX6_addGate 102 = .ok (.getfield 19, 3) := by decide +kernel
theorem dX6_addGate_105 : decode cX6_addGate 105 = .ok (.aload_n 0, 1) := by decide +kernel
theorem dX6_addGate_106 : decode cX6_addGate 106 = .ok (.getfield 72, 3) := by decide +kernel
theorem dX6_addGate_109 : decode cX6_addGate 109 = .ok (.iload_n 2, 1) := by decide +kernel
theorem dX6_addGate_110 : decode cX6_addGate 110 = .ok (.iastore, 1) := by decide +kernel
theorem dX6_addGate_111 : decode cX6_addGate 111 = .ok (.aload_n 0, 1) := by decide +kernel
theorem dX6_addGate_112 : decode cX6_addGate 112 = .ok (.dup, 1) := by decide +kernel
theorem dX6_addGate_113 : decode cX6_addGate 113 = .ok (.getfield 72, 3) := by decide +kernel
theorem dX6_addGate_116 : decode cX6_addGate 116 = .ok (.iconst 1, 1) := by decide +kernel
theorem dX6_addGate_117 : decode cX6_addGate 117 = .ok (.iadd, 1) := by decide +kernel
theorem dX6_addGate_118 : decode cX6_addGate 118 = .ok (.putfield 72, 3) := by decide +kernel
theorem dX6_addGate_121 : decode cX6_addGate 121 = .ok (.aload_n 0, 1) := by decide +kernel
theorem dX6_addGate_122 : decode cX6_addGate 122 = .ok (.getfield 72, 3) := by decide +kernel
theorem dX6_addGate_125 : decode cX6_addGate 125 = .ok (.iconst 1, 1) := by decide +kernel
theorem dX6_addGate_126 : decode cX6_addGate 126 = .ok (.isub, 1) := by decide +kernel
theorem dX6_addGate_127 : decode cX6_addGate 127 = .ok (.ireturn, 1) := by decide +kernel
theorem dX6_cut_0 : decode cX6_cut 0 = .ok (.aload_n 0, 1) := by decide +kernel
theorem dX6_cut_1 : decode cX6_cut 1 = .ok (.iload_n 1, 1) := by decide +kernel
theorem dX6_cut_2 : decode cX6_cut 2 = .ok (.iconst 0, 1) := by decide +kernel
theorem dX6_cut_3 : decode cX6_cut 3 = .ok (.bipush 10, 2) := by decide +kernel
theorem dX6_cut_5 : decode cX6_cut 5 = .ok (.invokestatic 68, 3) := by decide +kernel
theorem dX6_cut_8 : decode cX6_cut 8 = .ok (.ifCond .eq 7, 3) := by decide +kernel
theorem dX6_cut_11 : decode cX6_cut 11 = .ok (.iconst 0, 1) := by decide +kernel
theorem dX6_cut_12 : decode cX6_cut 12 = .ok (.goto 4, 3) := by decide +kernel
theorem dX6_cut_15 : decode cX6_cut 15 = .ok (.iconst 1, 1) := by decide +kernel
theorem dX6_cut_16 : decode cX6_cut 16 = .ok (.invokevirtual 119, 3) := by decide +kernel
theorem dX6_cut_19 : decode cX6_cut 19 = .ok (.ifCond .ne 5, 3) := by decide +kernel
theorem dX6_cut_22 : decode cX6_cut 22 = .ok (.iconst 0, 1) := by decide +kernel
theorem dX6_cut_23 : decode cX6_cut 23 = .ok (.ireturn, 1) := by decide +kernel
theorem dX6_cut_24 : decode cX6_cut 24 = .ok (.aload_n 0, 1) := by decide +kernel
theorem dX6_cut_25 : decode cX6_cut 25 = .ok (.getfield 22, 3) := by decide +kernel
theorem dX6_cut_28 : decode cX6_cut 28 = .ok (.istore_n 2, 1) := by decide +kernel
theorem dX6_cut_29 : decode cX6_cut 29 = .ok (.aload_n 0, 1) := by decide +kernel
theorem dX6_cut_30 : decode cX6_cut 30 = .ok (.iload_n 1, 1) := by decide +kernel
theorem dX6_cut_31 : decode cX6_cut 31 = .ok (.putfield 22, 3) := by decide +kernel
theorem dX6_cut_34 : decode cX6_cut 34 = .ok (.iload_n 2, 1) := by decide +kernel
theorem dX6_cut_35 : decode cX6_cut 35 = .ok (.ireturn, 1) := by decide +kernel
theorem dX6_enter_0 : decode cX6_enter 0 = .ok (.aload_n 0, 1) := by decide +kernel
theorem dX6_enter_1 : decode cX6_enter 1 = .ok (.aload_n 0, 1) := by decide +kernel
theorem dX6_enter_2 : decode cX6_enter 2 = .ok (.getfield 65, 3) := by decide +kernel
theorem dX6_enter_5 : decode cX6_enter 5 = .ok (.bipush 8, 2) := by decide +kernel
theorem dX6_enter_7 : decode cX6_enter 7 = .ok (.if_icmp .ne 7, 3) := by decide +kernel
theorem dX6_enter_10 : decode cX6_enter 10 = .ok (.iconst 1, 1) := by decide +kernel
theorem dX6_enter_11 : decode cX6_enter 11 = .ok (.goto 4, 3) := by decide +kernel
theorem dX6_enter_14 : decode cX6_enter 14 = .ok (.iconst 0, 1) := by decide +kernel
theorem dX6_enter_15 : decode cX6_enter 15 = .ok (.invokevirtual 119, 3) := by decide +kernel
theorem dX6_enter_18 : decode cX6_enter 18 = .ok (.ifCond .ne 5, 3) := by decide +kernel
theorem dX6_enter_21 : decode cX6_enter 21 = .ok (.iconst 0, 1) := by decide +kernel
theorem dX6_enter_22 : decode cX6_enter 22 = .ok (.ireturn, 1) := by decide +kernel
theorem dX6_enter_23 : decode cX6_enter 23 = .ok (.aload_n 0, 1) := by decide +kernel
theorem dX6_enter_24 : decode cX6_enter 24 = .ok (.dup, 1) := by decide +kernel
theorem dX6_enter_25 : decode cX6_enter 25 = .ok (.getfield 65, 3) := by decide +kernel
theorem dX6_enter_28 : decode cX6_enter 28 = .ok (.iconst 1, 1) := by decide +kernel
theorem dX6_enter_29 : decode cX6_enter 29 = .ok (.iadd, 1) := by decide +kernel
theorem dX6_enter_30 : decode cX6_enter 30 = .ok (.putfield 65, 3) := by decide +kernel
theorem dX6_enter_33 : decode cX6_enter 33 = .ok (.aload_n 0, 1) := by decide +kernel
theorem dX6_enter_34 : decode cX6_enter 34 = .ok (.getfield 65, 3) := by decide +kernel
theorem dX6_enter_37 : decode cX6_enter 37 = .ok (.iconst 1, 1) := by decide +kernel
theorem dX6_enter_38 : decode cX6_enter 38 = .ok (.isub, 1) := by decide +kernel
theorem dX6_enter_39 : decode cX6_enter 39 = .ok (.ireturn, 1) := by decide +kernel
theorem dX6_addPiece_0 : decode cX6_addPiece 0 = .ok (.bipush 60, 2) := by decide +kernel
theorem dX6_addPiece_2 : decode cX6_addPiece 2 = .ok (.iload_n 1, 1) := by decide +kernel
theorem dX6_addPiece_3 : decode cX6_addPiece 3 = .ok (.imul, 1) := by decide +kernel
theorem dX6_addPiece_4 : decode cX6_addPiece 4 = .ok (.aload_n 0, 1) := by decide +kernel
theorem dX6_addPiece_5 : decode cX6_addPiece 5 = .ok (.getfield 26, 3) := by decide +kernel
theorem dX6_addPiece_8 : decode cX6_addPiece 8 = .ok (.iload_n 1, 1) := by decide +kernel
theorem dX6_addPiece_9 : decode cX6_addPiece 9 = .ok (.iaload, 1) := by decide +kernel
theorem dX6_addPiece_10 : decode cX6_addPiece 10 = .ok (.iadd, 1) := by decide +kernel
theorem dX6_addPiece_11 : decode cX6_addPiece 11 = .ok (.istore 5, 2) := by decide +kernel
theorem dX6_addPiece_13 : decode cX6_addPiece 13 = .ok (.aload_n 0, 1) := by decide +kernel
theorem dX6_addPiece_14 : decode cX6_addPiece 14 = .ok (.getfield 29, 3) := by decide +kernel
theorem dX6_addPiece_17 : decode cX6_addPiece 17 = .ok (.iload 5, 2) := by decide +kernel
theorem dX6_addPiece_19 : decode cX6_addPiece 19 = .ok (.iload_n 2, 1) := by decide +kernel
theorem dX6_addPiece_20 : decode cX6_addPiece 20 = .ok (.iastore, 1) := by decide +kernel
theorem dX6_addPiece_21 : decode cX6_addPiece 21 = .ok (.aload_n 0, 1) := by decide +kernel
theorem dX6_addPiece_22 : decode cX6_addPiece 22 = .ok (.getfield 32, 3) := by decide +kernel
theorem dX6_addPiece_25 : decode cX6_addPiece 25 = .ok (.iload 5, 2) := by decide +kernel
theorem dX6_addPiece_27 : decode cX6_addPiece 27 = .ok (.iload_n 3, 1) := by decide +kernel
theorem dX6_addPiece_28 : decode cX6_addPiece 28 = .ok (.iastore, 1) := by decide +kernel
theorem dX6_addPiece_29 : decode cX6_addPiece 29 = .ok (.aload_n 0, 1) := by decide +kernel
theorem dX6_addPiece_30 : decode cX6_addPiece 30 = .ok (.getfield 35, 3) := by decide +kernel
theorem dX6_addPiece_33 : decode cX6_addPiece 33 = .ok (.iload 5, 2) := by decide +kernel
theorem dX6_addPiece_35 : decode cX6_addPiece 35 = .ok (.iload 4, 2) := by decide +kernel
theorem dX6_addPiece_37 : decode cX6_addPiece 37 = .ok (.iastore, 1) := by decide +kernel
theorem dX6_addPiece_38 : decode cX6_addPiece 38 = .ok (.aload_n 0, 1) := by decide +kernel
theorem dX6_addPiece_39 : decode cX6_addPiece 39 = .ok (.getfield 26, 3) := by decide +kernel
theorem dX6_addPiece_42 : decode cX6_addPiece 42 = .ok (.iload_n 1, 1) := by decide +kernel
theorem dX6_addPiece_43 : decode cX6_addPiece 43 = .ok (.dup2, 1) := by decide +kernel
theorem dX6_addPiece_44 : decode cX6_addPiece 44 = .ok (.iaload, 1) := by decide +kernel
theorem dX6_addPiece_45 : decode cX6_addPiece 45 = .ok (.iconst 1, 1) := by decide +kernel
theorem dX6_addPiece_46 : decode cX6_addPiece 46 = .ok (.iadd, 1) := by decide +kernel
theorem dX6_addPiece_47 : decode cX6_addPiece 47 = .ok (.iastore, 1) := by decide +kernel
theorem dX6_addPiece_48 : decode cX6_addPiece 48 = .ok (.aload_n 0, 1) := by decide +kernel
theorem dX6_addPiece_49 : decode cX6_addPiece 49 = .ok (.iload_n 1, 1) := by decide +kernel
theorem dX6_addPiece_50 : decode cX6_addPiece 50 = .ok (.invokevirtual 94, 3) := by decide +kernel
theorem dX6_addPiece_53 : decode cX6_addPiece 53 = .ok (.ireturn, 1) := by decide +kernel
theorem dX6_drive_0 : decode cX6_drive 0 = .ok (.aload_n 0, 1) := by decide +kernel
theorem dX6_drive_1 : decode cX6_drive 1 = .ok (.iload_n 1, 1) := by decide +kernel
theorem dX6_drive_2 : decode cX6_drive 2 = .ok (.invokevirtual 127, 3) := by decide +kernel
theorem dX6_drive_5 : decode cX6_drive 5 = .ok (.istore 4, 2) := by decide +kernel
theorem dX6_drive_7 : decode cX6_drive 7 = .ok (.iload_n 2, 1) := by decide +kernel
theorem dX6_drive_8 : decode cX6_drive 8 = .ok (.iconst 0, 1) := by decide +kernel
theorem dX6_drive_9 : decode cX6_drive 9 = .ok (.bipush 15, 2) := by decide +kernel
theorem dX6_drive_11 : decode cX6_drive 11 = .ok (.invokestatic 68, 3) := by decide +kernel
theorem dX6_drive_14 : decode cX6_drive 14 = .ok (.ifCond .eq 16, 3) := by decide +kernel
theorem dX6_drive_17 : decode cX6_drive 17 = .ok (.iload_n 3, 1) := by decide +kernel
theorem dX6_drive_18 : decode cX6_drive 18 = .ok (.iconst 0, 1) := by decide +kernel
theorem dX6_drive_19 : decode cX6_drive 19 = .ok (.iconst 3, 1) := by decide +kernel
theorem dX6_drive_20 : decode cX6_drive 20 = .ok (.invokestatic 68, 3) := by decide +kernel
theorem dX6_drive_23 : decode cX6_drive 23 = .ok (.ifCond .eq 7, 3) := by decide +kernel
theorem dX6_drive_26 : decode cX6_drive 26 = .ok (.iconst 1, 1) := by decide +kernel
theorem dX6_drive_27 : decode cX6_drive 27 = .ok (.goto 4, 3) := by decide +kernel
theorem dX6_drive_30 : decode cX6_drive 30 = .ok (.iconst 0, 1) := by decide +kernel
theorem dX6_drive_31 : decode cX6_drive 31 = .ok (.istore 5, 2) := by decide +kernel
theorem dX6_drive_33 : decode cX6_drive 33 = .ok (.iload 4, 2) := by decide +kernel
theorem dX6_drive_35 : decode cX6_drive 35 = .ok (.ifCond .eq 33, 3) := by decide +kernel
theorem dX6_drive_38 : decode cX6_drive 38 = .ok (.iload 5, 2) := by decide +kernel
theorem dX6_drive_40 : decode cX6_drive 40 = .ok (.ifCond .eq 28, 3) := by decide +kernel
theorem dX6_drive_43 : decode cX6_drive 43 = .ok (.aload_n 0, 1) := by decide +kernel
theorem dX6_drive_44 : decode cX6_drive 44 = .ok (.getfield 38, 3) := by decide +kernel
theorem dX6_drive_47 : decode cX6_drive 47 = .ok (.iload_n 1, 1) := by decide +kernel
theorem dX6_drive_48 : decode cX6_drive 48 = .ok (.iaload, 1) := by decide +kernel
theorem dX6_drive_49 : decode cX6_drive 49 = .ok (.iconst (-1), 1) := by decide +kernel
theorem dX6_drive_50 : decode cX6_drive 50 = .ok (.if_icmp .ne 18, 3) := by decide +kernel
theorem dX6_drive_53 : decode cX6_drive 53 = .ok (.aload_n 0, 1) := by decide +kernel
theorem dX6_drive_54 : decode cX6_drive 54 = .ok (.getfield 26, 3) := by decide +kernel
theorem dX6_drive_57 : decode cX6_drive 57 = .ok (.iload_n 1, 1) := by decide +kernel
theorem dX6_drive_58 : decode cX6_drive 58 = .ok (.iaload, 1) := by decide +kernel
theorem dX6_drive_59 : decode cX6_drive 59 = .ok (.bipush 60, 2) := by decide +kernel
theorem dX6_drive_61 : decode cX6_drive 61 = .ok (.if_icmp .ge 7, 3) := by decide +kernel
theorem dX6_drive_64 : decode cX6_drive 64 = .ok (.iconst 1, 1) := by decide +kernel
theorem dX6_drive_65 : decode cX6_drive 65 = .ok (.goto 4, 3) := by decide +kernel
theorem dX6_drive_68 : decode cX6_drive 68 = .ok (.iconst 0, 1) := by decide +kernel
theorem dX6_drive_69 : decode cX6_drive 69 = .ok (.istore 6, 2) := by decide +kernel
theorem dX6_drive_71 : decode cX6_drive 71 = .ok (.iload 6, 2) := by decide +kernel
theorem dX6_drive_73 : decode cX6_drive 73 = .ok (.ifCond .eq 24, 3) := by decide +kernel
theorem dX6_drive_76 : decode cX6_drive 76 = .ok (.aload_n 0, 1) := by decide +kernel
theorem dX6_drive_77 : decode cX6_drive 77 = .ok (.iload_n 1, 1) := by decide +kernel
theorem dX6_drive_78 : decode cX6_drive 78 = .ok (.aload_n 0, 1) := by decide +kernel
theorem dX6_drive_79 : decode cX6_drive 79 = .ok (.iload_n 1, 1) := by decide +kernel
theorem dX6_drive_80 : decode cX6_drive 80 = .ok (.invokevirtual 94, 3) := by decide +kernel
theorem dX6_drive_83 : decode cX6_drive 83 = .ok (.invokevirtual 98, 3) := by decide +kernel
theorem dX6_drive_86 : decode cX6_drive 86 = .ok (.aload_n 0, 1) := by decide +kernel
theorem dX6_drive_87 : decode cX6_drive 87 = .ok (.iload_n 2, 1) := by decide +kernel
theorem dX6_drive_88 : decode cX6_drive 88 = .ok (.invokevirtual 90, 3) := by decide +kernel
theorem dX6_drive_91 : decode cX6_drive 91 = .ok (.aload_n 0, 1) := by decide +kernel
theorem dX6_drive_92 : decode cX6_drive 92 = .ok (.invokevirtual 123, 3) := by decide +kernel
theorem dX6_drive_95 : decode cX6_drive 95 = .ok (.istore 6, 2) := by decide +kernel
theorem dX6_drive_97 : decode cX6_drive 97 = .ok (.aload_n 0, 1) := by decide +kernel
theorem dX6_drive_98 : decode cX6_drive 98 = .ok (.iload 4, 2) := by decide +kernel
theorem dX6_drive_100 : decode cX6_drive 100 = .ok (.ifCond .ne 7, 3) := by decide +kernel
theorem dX6_drive_103 : decode cX6_drive 103 = .ok (.iconst 1, 1) := by decide +kernel
theorem dX6_drive_104 : decode cX6_drive 104 = .ok (.goto 22, 3) := by decide +kernel
theorem dX6_drive_107 : decode cX6_drive 107 = .ok (.iload 5, 2) := by decide +kernel
theorem dX6_drive_109 : decode cX6_drive 109 = .ok (.ifCond .ne 7, 3) := by decide +kernel
theorem dX6_drive_112 : decode cX6_drive 112 = .ok (.iconst 2, 1) := by decide +kernel
theorem dX6_drive_113 : decode cX6_drive 113 = .ok (.goto 13, 3) := by decide +kernel
theorem dX6_drive_116 : decode cX6_drive 116 = .ok (.iload 6, 2) := by decide +kernel
theorem dX6_drive_118 : decode cX6_drive 118 = .ok (.ifCond .eq 7, 3) := by decide +kernel
theorem dX6_drive_121 : decode cX6_drive 121 = .ok (.iconst 0, 1) := by decide +kernel
theorem dX6_drive_122 : decode cX6_drive 122 = .ok (.goto 4, 3) := by decide +kernel
theorem dX6_drive_125 : decode cX6_drive 125 = .ok (.iconst 3, 1) := by decide +kernel
theorem dX6_drive_126 : decode cX6_drive 126 = .ok (.invokevirtual 119, 3) := by decide +kernel
theorem dX6_drive_129 : decode cX6_drive 129 = .ok (.ifCond .eq 14, 3) := by decide +kernel
theorem dX6_drive_132 : decode cX6_drive 132 = .ok (.aload_n 0, 1) := by decide +kernel
theorem dX6_drive_133 : decode cX6_drive 133 = .ok (.iload_n 1, 1) := by decide +kernel
theorem dX6_drive_134 : decode cX6_drive 134 = .ok (.iload_n 2, 1) := by decide +kernel
theorem dX6_drive_135 : decode cX6_drive 135 = .ok (.iload_n 2, 1) := by decide +kernel
theorem dX6_drive_136 : decode cX6_drive 136 = .ok (.iload_n 3, 1) := by decide +kernel
theorem dX6_drive_137 : decode cX6_drive 137 = .ok (.invokevirtual 130, 3) := by decide +kernel
theorem dX6_drive_140 : decode cX6_drive 140 = .ok (.goto 4, 3) := by decide +kernel
theorem dX6_drive_143 : decode cX6_drive 143 = .ok (.iconst 0, 1) := by decide +kernel
theorem dX6_drive_144 : decode cX6_drive 144 = .ok (.ireturn, 1) := by decide +kernel
theorem dX6_stand_0 : decode cX6_stand 0 = .ok (.aload_n 0, 1) := by decide +kernel
theorem dX6_stand_1 : decode cX6_stand 1 = .ok (.iload_n 1, 1) := by decide +kernel
theorem dX6_stand_2 : decode cX6_stand 2 = .ok (.invokevirtual 127, 3) := by decide +kernel
theorem dX6_stand_5 : decode cX6_stand 5 = .ok (.istore_n 3, 1) := by decide +kernel
theorem dX6_stand_6 : decode cX6_stand 6 = .ok (.iload_n 2, 1) := by decide +kernel
theorem dX6_stand_7 : decode cX6_stand 7 = .ok (.iconst 1, 1) := by decide +kernel
theorem dX6_stand_8 : decode cX6_stand 8 = .ok (.bipush 100, 2) := by decide +kernel
theorem dX6_stand_10 : decode cX6_stand 10 = .ok (.invokestatic 68, 3) := by decide +kernel
theorem dX6_stand_13 : decode cX6_stand 13 = .ok (.istore 4, 2) := by decide +kernel
theorem dX6_stand_15 : decode cX6_stand 15 = .ok (.aload_n 0, 1) := by decide +kernel
theorem dX6_stand_16 : decode cX6_stand 16 = .ok (.iload_n 3, 1) := by decide +kernel
theorem dX6_stand_17 : decode cX6_stand 17 = .ok (.ifCond .ne 7, 3) := by decide +kernel
theorem dX6_stand_20 : decode cX6_stand 20 = .ok (.iconst 1, 1) := by decide +kernel
theorem dX6_stand_21 : decode cX6_stand 21 = .ok (.goto 28, 3) := by decide +kernel
theorem dX6_stand_24 : decode cX6_stand 24 = .ok (.iload 4, 2) := by decide +kernel
theorem dX6_stand_26 : decode cX6_stand 26 = .ok (.ifCond .ne 7, 3) := by decide +kernel
theorem dX6_stand_29 : decode cX6_stand 29 = .ok (.iconst 2, 1) := by decide +kernel
theorem dX6_stand_30 : decode cX6_stand 30 = .ok (.goto 19, 3) := by decide +kernel
theorem dX6_stand_33 : decode cX6_stand 33 = .ok (.aload_n 0, 1) := by decide +kernel
theorem dX6_stand_34 : decode cX6_stand 34 = .ok (.getfield 26, 3) := by decide +kernel
theorem dX6_stand_37 : decode cX6_stand 37 = .ok (.iload_n 1, 1) := by decide +kernel
theorem dX6_stand_38 : decode cX6_stand 38 = .ok (.iaload, 1) := by decide +kernel
theorem dX6_stand_39 : decode cX6_stand 39 = .ok (.bipush 60, 2) := by decide +kernel
theorem dX6_stand_41 : decode cX6_stand 41 = .ok (.if_icmp .ne 7, 3) := by decide +kernel
theorem dX6_stand_44 : decode cX6_stand 44 = .ok (.iconst 3, 1) := by decide +kernel
theorem dX6_stand_45 : decode cX6_stand 45 = .ok (.goto 4, 3) := by decide +kernel
theorem dX6_stand_48 : decode cX6_stand 48 = .ok (.iconst 0, 1) := by decide +kernel
theorem dX6_stand_49 : decode cX6_stand 49 = .ok (.invokevirtual 119, 3) := by decide +kernel
theorem dX6_stand_52 : decode cX6_stand 52 = .ok (.ifCond .eq 14, 3) := by decide +kernel
theorem dX6_stand_55 : decode cX6_stand 55 = .ok (.aload_n 0, 1) := by decide +kernel
theorem dX6_stand_56 : decode cX6_stand 56 = .ok (.iload_n 1, 1) := by decide +kernel
theorem dX6_stand_57 : decode cX6_stand 57 = .ok (.iconst (-1), 1) := by decide +kernel
theorem dX6_stand_58 : decode cX6_stand 58 = .ok (.iload_n 2, 1) := by decide +kernel
theorem dX6_stand_59 : decode cX6_stand 59 = .ok (.iconst 0, 1) := by decide +kernel
theorem dX6_stand_60 : decode cX6_stand 60 = .ok (.invokevirtual 130, 3) := by decide +kernel
theorem dX6_stand_63 : decode cX6_stand 63 = .ok (.goto 4, 3) := by decide +kernel
theorem dX6_stand_66 : decode cX6_stand 66 = .ok (.iconst 0, 1) := by decide +kernel
theorem dX6_stand_67 : decode cX6_stand 67 = .ok (.ireturn, 1) := by decide +kernel
theorem dX6_breakDown_0 : decode cX6_breakDown 0 = .ok (.aload_n 0, 1) := by decide +kernel
theorem dX6_breakDown_1 : decode cX6_breakDown 1 = .ok (.iload_n 1, 1) := by decide +kernel
theorem dX6_breakDown_2 : decode cX6_breakDown 2 = .ok (.invokevirtual 127, 3) := by decide +kernel
theorem dX6_breakDown_5 : decode cX6_breakDown 5 = .ok (.ifCond .eq 16, 3) := by decide +kernel
theorem dX6_breakDown_8 : decode cX6_breakDown 8 = .ok (.iload_n 2, 1) := by decide +kernel
theorem dX6_breakDown_9 : decode cX6_breakDown 9 = .ok (.iconst 0, 1) := by decide +kernel
theorem dX6_breakDown_10 : decode cX6_breakDown 10 = .ok (.iconst 3, 1) := by decide +kernel
theorem dX6_breakDown_11 : decode cX6_breakDown 11 = .ok (.invokestatic 68, 3) := by decide +kernel
theorem dX6_breakDown_14 : decode cX6_breakDown 14 = .ok (.ifCond .eq 7, 3) := by decide +kernel
theorem dX6_breakDown_17 : decode cX6_breakDown 17 = .ok (.iconst 1, 1) := by decide +kernel
theorem dX6_breakDown_18 : decode cX6_breakDown 18 = .ok (.goto 4, 3) := by decide +kernel
theorem dX6_breakDown_21 : decode cX6_breakDown 21 = .ok (.iconst 0, 1) := by decide +kernel
theorem dX6_breakDown_22 : decode cX6_breakDown 22 = .ok (.istore_n 3, 1) := by decide +kernel
theorem dX6_breakDown_23 : decode cX6_breakDown 23 = .ok (.aload_n 0, 1) := by decide +kernel
theorem dX6_breakDown_24 : decode cX6_breakDown 24 = .ok (.iload_n 3, 1) := by decide +kernel
theorem dX6_breakDown_25 : decode cX6_breakDown 25 = .ok (.ifCond .ne 7, 3) := by decide +kernel
theorem dX6_breakDown_28 : decode cX6_breakDown 28 = .ok (.iconst 1, 1) := by decide +kernel
theorem dX6_breakDown_29 : decode cX6_breakDown 29 = .ok (.goto 18, 3) := by decide +kernel
theorem dX6_breakDown_32 : decode cX6_breakDown 32 = .ok (.aload_n 0, 1) := by decide +kernel
theorem dX6_breakDown_33 : decode cX6_breakDown 33 = .ok (.getfield 38, 3) := by decide +kernel
theorem dX6_breakDown_36 : decode cX6_breakDown 36 = .ok (.iload_n 1, 1) := by decide +kernel
theorem dX6_breakDown_37 : decode cX6_breakDown 37 = .ok (.iaload, 1) := by decide +kernel
theorem dX6_breakDown_38 : decode cX6_breakDown 38 = .ok (.iconst (-1), 1) := by decide +kernel
theorem dX6_breakDown_39 : decode cX6_breakDown 39 = .ok (.if_icmp .ne 7, 3) := by decide +kernel
theorem dX6_breakDown_42 : decode cX6_breakDown 42 = .ok (.iconst 0, 1) := by decide +kernel
theorem dX6_breakDown_43 : decode cX6_breakDown 43 = .ok (.goto 4, 3) := by decide +kernel
theorem dX6_breakDown_46 : decode cX6_breakDown 46 = .ok (.iconst 2, 1) := by decide +kernel
theorem dX6_breakDown_47 : decode cX6_breakDown 47 = .ok (.invokevirtual 119, 3) := by decide +kernel
theorem dX6_breakDown_50 : decode cX6_breakDown 50 = .ok (.ifCond .eq 10, 3) := by decide +kernel
theorem dX6_breakDown_53 : decode cX6_breakDown 53 = .ok (.aload_n 0, 1) := by decide +kernel
theorem dX6_breakDown_54 : decode cX6_breakDown 54 = .ok (.getfield 38, 3) := by decide +kernel
theorem dX6_breakDown_57 : decode cX6_breakDown 57 = .ok (.iload_n 1, 1) := by decide +kernel
theorem dX6_breakDown_58 : decode cX6_breakDown 58 = .ok (.iload_n 2, 1) := by decide +kernel
theorem dX6_breakDown_59 : decode cX6_breakDown 59 = .ok (.iastore, 1) := by decide +kernel
theorem dX6_breakDown_60 : decode cX6_breakDown 60 = .ok (.return_, 1) := by decide +kernel
theorem dX6_mend_0 : decode cX6_mend 0 = .ok (.aload_n 0, 1) := by decide +kernel
theorem dX6_mend_1 : decode cX6_mend 1 = .ok (.iload_n 1, 1) := by decide +kernel
theorem dX6_mend_2 : decode cX6_mend 2 = .ok (.invokevirtual 127, 3) := by decide +kernel
theorem dX6_mend_5 : decode cX6_mend 5 = .ok (.istore_n 2, 1) := by decide +kernel
theorem dX6_mend_6 : decode cX6_mend 6 = .ok (.iload_n 2, 1) := by decide +kernel
theorem dX6_mend_7 : decode cX6_mend 7 = .ok (.ifCond .eq 28, 3) := by decide +kernel
theorem dX6_mend_10 : decode cX6_mend 10 = .ok (.aload_n 0, 1) := by decide +kernel
theorem dX6_mend_11 : decode cX6_mend 11 = .ok (.getfield 38, 3) := by decide +kernel
theorem dX6_mend_14 : decode cX6_mend 14 = .ok (.iload_n 1, 1) := by decide +kernel
theorem dX6_mend_15 : decode cX6_mend 15 = .ok (.iaload, 1) := by decide +kernel
theorem dX6_mend_16 : decode cX6_mend 16 = .ok (.iconst (-1), 1) := by decide +kernel
theorem dX6_mend_17 : decode cX6_mend 17 = .ok (.if_icmp .eq 18, 3) := by decide +kernel
theorem dX6_mend_20 : decode cX6_mend 20 = .ok (.aload_n 0, 1) := by decide +kernel
theorem dX6_mend_21 : decode cX6_mend 21 = .ok (.getfield 26, 3) := by decide +kernel
theorem dX6_mend_24 : decode cX6_mend 24 = .ok (.iload_n 1, 1) := by decide +kernel
theorem dX6_mend_25 : decode cX6_mend 25 = .ok (.iaload, 1) := by decide +kernel
theorem dX6_mend_26 : decode cX6_mend 26 = .ok (.bipush 60, 2) := by decide +kernel
theorem dX6_mend_28 : decode cX6_mend 28 = .ok (.if_icmp .ge 7, 3) := by decide +kernel
theorem dX6_mend_31 : decode cX6_mend 31 = .ok (.iconst 1, 1) := by decide +kernel
theorem dX6_mend_32 : decode cX6_mend 32 = .ok (.goto 4, 3) := by decide +kernel
theorem dX6_mend_35 : decode cX6_mend 35 = .ok (.iconst 0, 1) := by decide +kernel
theorem dX6_mend_36 : decode cX6_mend 36 = .ok (.istore_n 3, 1) := by decide +kernel
theorem dX6_mend_37 : decode cX6_mend 37 = .ok (.iconst (-1), 1) := by decide +kernel
theorem dX6_mend_38 : decode cX6_mend 38 = .ok (.istore 4, 2) := by decide +kernel
theorem dX6_mend_40 : decode cX6_mend 40 = .ok (.aload_n 0, 1) := by decide +kernel
theorem dX6_mend_41 : decode cX6_mend 41 = .ok (.getfield 134, 3) := by decide +kernel
theorem dX6_mend_44 : decode cX6_mend 44 = .ok (.iconst 1, 1) := by decide +kernel
theorem dX6_mend_45 : decode cX6_mend 45 = .ok (.isub, 1) := by decide +kernel
theorem dX6_mend_46 : decode cX6_mend 46 = .ok (.istore 5, 2) := by decide +kernel
theorem dX6_mend_48 : decode cX6_mend 48 = .ok (.iload 5, 2) := by decide +kernel
theorem dX6_mend_50 : decode cX6_mend 50 = .ok (.ifCond .lt 49, 3) := by decide +kernel
theorem dX6_mend_53 : decode cX6_mend 53 = .ok (.iload_n 3, 1) := by decide +kernel
theorem dX6_mend_54 : decode cX6_mend 54 = .ok (.ifCond .eq 45, 3) := by decide +kernel
theorem dX6_mend_57 : decode cX6_mend 57 = .ok (.aload_n 0, 1) := by decide +kernel
theorem dX6_mend_58 : decode cX6_mend 58 = .ok (.getfield 53, 3) := by decide +kernel
theorem dX6_mend_61 : decode cX6_mend 61 = .ok (.iload 5, 2) := by decide +kernel
theorem dX6_mend_63 : decode cX6_mend 63 = .ok (.iaload, 1) := by decide +kernel
theorem dX6_mend_64 : decode cX6_mend 64 = .ok (.iload_n 1, 1) := by decide +kernel
theorem dX6_mend_65 : decode cX6_mend 65 = .ok (.if_icmp .ne 24, 3) := by decide +kernel
theorem dX6_mend_68 : decode cX6_mend 68 = .ok (.aload_n 0, 1) := by decide +kernel
theorem dX6_mend_69 : decode cX6_mend 69 = .ok (.getfield 47, 3) := by decide +kernel
theorem dX6_mend_72 : decode cX6_mend 72 = .ok (.iload 5, 2) := by decide +kernel
theorem dX6_mend_74 : decode cX6_mend 74 = .ok (.iaload, 1) := by decide +kernel
theorem dX6_mend_75 : decode cX6_mend 75 = .ok (.aload_n 0, 1) := by decide +kernel
theorem dX6_mend_76 : decode cX6_mend 76 = .ok (.getfield 38, 3) := by decide +kernel
theorem dX6_mend_79 : decode cX6_mend 79 = .ok (.iload_n 1, 1) := by decide +kernel
theorem dX6_mend_80 : decode cX6_mend 80 = .ok (.iaload, 1) := by decide +kernel
theorem dX6_mend_81 : decode cX6_mend 81 = .ok (.if_icmp .ne 8, 3) := by decide +kernel
theorem dX6_mend_84 : decode cX6_mend 84 = .ok (.iload 5, 2) := by decide +kernel
theorem dX6_mend_86 : decode cX6_mend 86 = .ok (.goto 5, 3) := by decide +kernel
theorem dX6_mend_89 : decode cX6_mend 89 = .ok (.iload 4, 2) := by decide +kernel
theorem dX6_mend_91 : decode cX6_mend 91 = .ok (.istore 4, 2) := by decide +kernel
theorem dX6_mend_93 : decode cX6_mend 93 = .ok (.iinc 5 (-1), 3) := by decide +kernel
theorem dX6_mend_96 : decode cX6_mend 96 = .ok (.goto (-48), 3) := by decide +kernel
theorem dX6_mend_99 : decode cX6_mend 99 = .ok (.aload_n 0, 1) := by decide +kernel
theorem dX6_mend_100 : decode cX6_mend 100 = .ok (.iload_n 2, 1) := by decide +kernel
theorem dX6_mend_101 : decode cX6_mend 101 = .ok (.ifCond .ne 7, 3) := by decide +kernel
theorem dX6_mend_104 : decode cX6_mend 104 = .ok (.iconst 1, 1) := by decide +kernel
theorem dX6_mend_105 : decode cX6_mend 105 = .ok (.goto 22, 3) := by decide +kernel
theorem dX6_mend_108 : decode cX6_mend 108 = .ok (.iload_n 3, 1) := by decide +kernel
theorem dX6_mend_109 : decode cX6_mend 109 = .ok (.ifCond .ne 7, 3) := by decide +kernel
theorem dX6_mend_112 : decode cX6_mend 112 = .ok (.iconst 2, 1) := by decide +kernel
theorem dX6_mend_113 : decode cX6_mend 113 = .ok (.goto 14, 3) := by decide +kernel
theorem dX6_mend_116 : decode cX6_mend 116 = .ok (.iload 4, 2) := by decide +kernel
theorem dX6_mend_118 : decode cX6_mend 118 = .ok (.iconst (-1), 1) := by decide +kernel
theorem dX6_mend_119 : decode cX6_mend 119 = .ok (.if_icmp .ne 7, 3) := by decide +kernel
theorem dX6_mend_122 : decode cX6_mend 122 = .ok (.iconst 3, 1) := by decide +kernel
theorem dX6_mend_123 : decode cX6_mend 123 = .ok (.goto 4, 3) := by decide +kernel
theorem dX6_mend_126 : decode cX6_mend 126 = .ok (.iconst 0, 1) := by decide +kernel
theorem dX6_mend_127 : decode cX6_mend 127 = .ok (.invokevirtual 119, 3) := by decide +kernel
theorem dX6_mend_130 : decode cX6_mend 130 = .ok (.ifCond .ne 5, 3) := by decide +kernel
theorem dX6_mend_133 : decode cX6_mend 133 = .ok (.iconst 0, 1) := by decide +kernel
theorem dX6_mend_134 : decode cX6_mend 134 = .ok (.ireturn, 1) := by decide +kernel
theorem dX6_mend_135 : decode cX6_mend 135 = .ok (.aload_n 0, 1) := by decide +kernel
theorem dX6_mend_136 : decode cX6_mend 136 = .ok (.getfield 53, 3) := by decide +kernel
theorem dX6_mend_139 : decode cX6_mend 139 = .ok (.iload 4, 2) := by decide +kernel
theorem dX6_mend_141 : decode cX6_mend 141 = .ok (.bipush (-2), 2) := by decide +kernel
theorem dX6_mend_143 : decode cX6_mend 143 = .ok (.iastore, 1) := by decide +kernel
theorem dX6_mend_144 : decode cX6_mend 144 = .ok (.aload_n 0, 1) := by decide +kernel
theorem dX6_mend_145 : decode cX6_mend 145 = .ok (.getfield 56, 3) := by decide +kernel
theorem dX6_mend_148 : decode cX6_mend 148 = .ok (.iload 4, 2) := by decide +kernel
theorem dX6_mend_150 : decode cX6_mend 150 = .ok (.iload_n 1, 1) := by decide +kernel
theorem dX6_mend_151 : decode cX6_mend 151 = .ok (.iastore, 1) := by decide +kernel
theorem dX6_mend_152 : decode cX6_mend 152 = .ok (.aload_n 0, 1) := by decide +kernel
theorem dX6_mend_153 : decode cX6_mend 153 = .ok (.iload_n 1, 1) := by decide +kernel
theorem dX6_mend_154 : decode cX6_mend 154 = .ok (.iconst (-1), 1) := by decide +kernel
theorem dX6_mend_155 : decode cX6_mend 155 = .ok (.iconst 3, 1) := by decide +kernel
theorem dX6_mend_156 : decode cX6_mend 156 = .ok (.aload_n 0, 1) := by decide +kernel
theorem dX6_mend_157 : decode cX6_mend 157 = .ok (.getfield 38, 3) := by decide +kernel
theorem dX6_mend_160 : decode cX6_mend 160 = .ok (.iload_n 1, 1) := by decide +kernel
theorem dX6_mend_161 : decode cX6_mend 161 = .ok (.iaload, 1) := by decide +kernel
theorem dX6_mend_162 : decode cX6_mend 162 = .ok (.iconst 1, 1) := by decide +kernel
theorem dX6_mend_163 : decode cX6_mend 163 = .ok (.iadd, 1) := by decide +kernel
theorem dX6_mend_164 : decode cX6_mend 164 = .ok (.imul, 1) := by decide +kernel
theorem dX6_mend_165 : decode cX6_mend 165 = .ok (.iconst 0, 1) := by decide +kernel
theorem dX6_mend_166 : decode cX6_mend 166 = .ok (.invokevirtual 130, 3) := by decide +kernel
theorem dX6_mend_169 : decode cX6_mend 169 = .ok (.istore 5, 2) := by decide +kernel
theorem dX6_mend_171 : decode cX6_mend 171 = .ok (.aload_n 0, 1) := by decide +kernel
theorem dX6_mend_172 : decode cX6_mend 172 = .ok (.getfield 38, 3) := by decide +kernel
theorem dX6_mend_175 : decode cX6_mend 175 = .ok (.iload_n 1, 1) := by decide +kernel
theorem dX6_mend_176 : decode cX6_mend 176 = .ok (.iconst (-1), 1) := by decide +kernel
theorem dX6_mend_177 : decode cX6_mend 177 = .ok (.iastore, 1) := by decide +kernel
theorem dX6_mend_178 : decode cX6_mend 178 = .ok (.iload 4, 2) := by decide +kernel
theorem dX6_mend_180 : decode cX6_mend 180 = .ok (.ireturn, 1) := by decide +kernel
theorem dX6_bring_0 : decode cX6_bring 0 = .ok (.iload_n 1, 1) := by decide +kernel
theorem dX6_bring_1 : decode cX6_bring 1 = .ok (.iconst 0, 1) := by decide +kernel
theorem dX6_bring_2 : decode cX6_bring 2 = .ok (.iconst 3, 1) := by decide +kernel
theorem dX6_bring_3 : decode cX6_bring 3 = .ok (.invokestatic 68, 3) := by decide +kernel
theorem dX6_bring_6 : decode cX6_bring 6 = .ok (.ifCond .eq 20, 3) := by decide +kernel
theorem dX6_bring_9 : decode cX6_bring 9 = .ok (.iload_n 2, 1) := by decide +kernel
theorem dX6_bring_10 : decode cX6_bring 10 = .ok (.iconst (-1), 1) := by decide +kernel
theorem dX6_bring_11 : decode cX6_bring 11 = .ok (.if_icmp .eq 11, 3) := by decide +kernel
theorem dX6_bring_14 : decode cX6_bring 14 = .ok (.aload_n 0, 1) := by decide +kernel
theorem dX6_bring_15 : decode cX6_bring 15 = .ok (.iload_n 2, 1) := by decide +kernel
theorem dX6_bring_16 : decode cX6_bring 16 = .ok (.invokevirtual 127, 3) := by decide +kernel
theorem dX6_bring_19 : decode cX6_bring 19 = .ok (.ifCond .eq 7, 3) := by decide +kernel
theorem dX6_bring_22 : decode cX6_bring 22 = .ok (.iconst 1, 1) := by decide +kernel
theorem dX6_bring_23 : decode cX6_bring 23 = .ok (.goto 4, 3) := by decide +kernel
theorem dX6_bring_26 : decode cX6_bring 26 = .ok (.iconst 0, 1) := by decide +kernel
theorem dX6_bring_27 : decode cX6_bring 27 = .ok (.istore_n 3, 1) := by decide +kernel
theorem dX6_bring_28 : decode cX6_bring 28 = .ok (.aload_n 0, 1) := by decide +kernel
theorem dX6_bring_29 : decode cX6_bring 29 = .ok (.iload_n 3, 1) := by decide +kernel
theorem dX6_bring_30 : decode cX6_bring 30 = .ok (.ifCond .ne 7, 3) := by decide +kernel
theorem dX6_bring_33 : decode cX6_bring 33 = .ok (.iconst 1, 1) := by decide +kernel
theorem dX6_bring_34 : decode cX6_bring 34 = .ok (.goto 17, 3) := by decide +kernel
theorem dX6_bring_37 : decode cX6_bring 37 = .ok (.aload_n 0, 1) := by decide +kernel
theorem dX6_bring_38 : decode cX6_bring 38 = .ok (.getfield 134, 3) := by decide +kernel
theorem dX6_bring_41 : decode cX6_bring 41 = .ok (.bipush 40, 2) := by decide +kernel
theorem dX6_bring_43 : decode cX6_bring 43 = .ok (.if_icmp .ne 7, 3) := by decide +kernel
theorem dX6_bring_46 : decode cX6_bring 46 = .ok (.iconst 2, 1) := by decide +kernel
theorem dX6_bring_47 : decode cX6_bring 47 = .ok (.goto 4, 3) := by decide +kernel
theorem dX6_bring_50 : decode cX6_bring 50 = .ok (.iconst 0, 1) := by decide +kernel
theorem dX6_bring_51 : decode cX6_bring 51 = .ok (.invokevirtual 119, 3) := by decide +kernel
theorem dX6_bring_54 : decode cX6_bring 54 = .ok (.ifCond .ne 5, 3) := by decide +kernel
theorem dX6_bring_57 : decode cX6_bring 57 = .ok (.iconst 0, 1) := by decide +kernel
theorem dX6_bring_58 : decode cX6_bring 58 = .ok (.ireturn, 1) := by decide +kernel
theorem dX6_bring_59 : decode cX6_bring 59 = .ok (.aload_n 0, 1) := by decide +kernel
theorem dX6_bring_60 : decode cX6_bring 60 = .ok (.getfield 47, 3) := by decide +kernel
theorem dX6_bring_63 : decode cX6_bring 63 = .ok (.aload_n 0, 1) := by decide +kernel
theorem dX6_bring_64 : decode cX6_bring 64 = .ok (.getfield 134, 3) := by decide +kernel
theorem dX6_bring_67 : decode cX6_bring 67 = .ok (.iload_n 1, 1) := by decide +kernel
theorem dX6_bring_68 : decode cX6_bring 68 = .ok (.iastore, 1) := by decide +kernel
theorem dX6_bring_69 : decode cX6_bring 69 = .ok (.aload_n 0, 1) := by decide +kernel
theorem dX6_bring_70 : decode cX6_bring 70 = .ok (.getfield 50, 3) := by decide +kernel
theorem dX6_bring_73 : decode cX6_bring 73 = .ok (.aload_n 0, 1) := by decide +kernel
theorem dX6_bring_74 : decode cX6_bring 74 = .ok (.getfield 134, 3) := by decide +kernel
theorem dX6_bring_77 : decode cX6_bring 77 = .ok (.iload_n 2, 1) := by decide +kernel
theorem dX6_bring_78 : decode cX6_bring 78 = .ok (.iastore, 1) := by decide +kernel
theorem dX6_bring_79 : decode cX6_bring 79 = .ok (.aload_n 0, 1) := by decide +kernel
theorem dX6_bring_80 : decode cX6_bring 80 = .ok (.getfield 53, 3) := by decide +kernel
theorem dX6_bring_83 : decode cX6_bring 83 = .ok (.aload_n 0, 1) := by decide +kernel
theorem dX6_bring_84 : decode cX6_bring 84 = .ok (.getfield 134, 3) := by decide +kernel
theorem dX6_bring_87 : decode cX6_bring 87 = .ok (.iload_n 2, 1) := by decide +kernel
theorem dX6_bring_88 : decode cX6_bring 88 = .ok (.iastore, 1) := by decide +kernel
theorem dX6_bring_89 : decode cX6_bring 89 = .ok (.aload_n 0, 1) := by decide +kernel
theorem dX6_bring_90 : decode cX6_bring 90 = .ok (.dup, 1) := by decide +kernel
theorem dX6_bring_91 : decode cX6_bring 91 = .ok (.getfield 134, 3) := by decide +kernel
theorem dX6_bring_94 : decode cX6_bring 94 = .ok (.iconst 1, 1) := by decide +kernel
theorem dX6_bring_95 : decode cX6_bring 95 = .ok (.iadd, 1) := by decide +kernel
theorem dX6_bring_96 : decode cX6_bring 96 = .ok (.putfield 134, 3) := by decide +kernel
theorem dX6_bring_99 : decode cX6_bring 99 = .ok (.aload_n 0, 1) := by decide +kernel
theorem dX6_bring_100 : decode cX6_bring 100 = .ok (.getfield 134, 3) := by decide +kernel
theorem dX6_bring_103 : decode cX6_bring 103 = .ok (.iconst 1, 1) := by decide +kernel
theorem dX6_bring_104 : decode cX6_bring 104 = .ok (.isub, 1) := by decide +kernel
theorem dX6_bring_105 : decode cX6_bring 105 = .ok (.ireturn, 1) := by decide +kernel
theorem dX6_cellOfPlace_0 : decode cX6_cellOfPlace 0 = .ok (.iload_n 1, 1) := by decide +kernel
theorem dX6_cellOfPlace_1 : decode cX6_cellOfPlace 1 = .ok (.iconst (-1), 1) := by decide +kernel
theorem dX6_cellOfPlace_2 : decode cX6_cellOfPlace 2 = .ok (.if_icmp .ne 10, 3) := by decide +kernel
theorem dX6_cellOfPlace_5 : decode cX6_cellOfPlace 5 = .ok (.aload_n 0, 1) := by decide +kernel
theorem dX6_cellOfPlace_6 : decode cX6_cellOfPlace 6 = .ok (.getfield 75, 3) := by decide +kernel
theorem dX6_cellOfPlace_9 : decode cX6_cellOfPlace 9 = .ok (.goto 8, 3) := by decide +kernel
theorem dX6_cellOfPlace_12 : decode cX6_cellOfPlace 12 = .ok (.aload_n 0, 1) := by decide +kernel
theorem dX6_cellOfPlace_13 : decode cX6_cellOfPlace 13 = .ok (.iload_n 1, 1) := by decide +kernel
theorem dX6_cellOfPlace_14 : decode cX6_cellOfPlace 14 = .ok (.invokevirtual 137, 3) := by decide +kernel
theorem dX6_cellOfPlace_17 : decode cX6_cellOfPlace 17 = .ok (.ireturn, 1) := by decide +kernel
theorem dX6_hand_0 : decode cX6_hand 0 = .ok (.iload_n 1, 1) := by decide +kernel
theorem dX6_hand_1 : decode cX6_hand 1 = .ok (.iconst 0, 1) := by decide +kernel
theorem dX6_hand_2 : decode cX6_hand 2 = .ok (.aload_n 0, 1) := by decide +kernel
theorem dX6_hand_3 : decode cX6_hand 3 = .ok (.getfield 134, 3) := by decide +kernel
theorem dX6_hand_6 : decode cX6_hand 6 = .ok (.iconst 1, 1) := by decide +kernel
theorem dX6_hand_7 : decode cX6_hand 7 = .ok (.isub, 1) := by decide +kernel
theorem dX6_hand_8 : decode cX6_hand 8 = .ok (.invokestatic 68, 3) := by decide +kernel
theorem dX6_hand_11 : decode cX6_hand 11 = .ok (.ifCond .eq 20, 3) := by decide +kernel
theorem dX6_hand_14 : decode cX6_hand 14 = .ok (.iload_n 2, 1) := by decide +kernel
theorem dX6_hand_15 : decode cX6_hand 15 = .ok (.iconst (-1), 1) := by decide +kernel
theorem dX6_hand_16 : decode cX6_hand 16 = .ok (.if_icmp .eq 11, 3) := by decide +kernel
theorem dX6_hand_19 : decode cX6_hand 19 = .ok (.aload_n 0, 1) := by decide +kernel
theorem dX6_hand_20 : decode cX6_hand 20 = .ok (.iload_n 2, 1) := by decide +kernel
theorem dX6_hand_21 : decode cX6_hand 21 = .ok (.invokevirtual 127, 3) := by decide +kernel
theorem dX6_hand_24 : decode cX6_hand 24 = .ok (.ifCond .eq 7, 3) := by decide +kernel
theorem dX6_hand_27 : decode cX6_hand 27 = .ok (.iconst 1, 1) := by decide +kernel
theorem dX6_hand_28 : decode cX6_hand 28 = .ok (.goto 4, 3) := by decide +kernel
theorem dX6_hand_31 : decode cX6_hand 31 = .ok (.iconst 0, 1) := by decide +kernel
theorem dX6_hand_32 : decode cX6_hand 32 = .ok (.istore_n 3, 1) := by decide +kernel
theorem dX6_hand_33 : decode cX6_hand 33 = .ok (.iload_n 3, 1) := by decide +kernel
theorem dX6_hand_34 : decode cX6_hand 34 = .ok (.ifCond .eq 28, 3) := by decide +kernel
theorem dX6_hand_37 : decode cX6_hand 37 = .ok (.aload_n 0, 1) := by decide +kernel
theorem dX6_hand_38 : decode cX6_hand 38 = .ok (.getfield 53, 3) := by decide +kernel
theorem dX6_hand_41 : decode cX6_hand 41 = .ok (.iload_n 1, 1) := by decide +kernel
theorem dX6_hand_42 : decode cX6_hand 42 = .ok (.iaload, 1) := by decide +kernel
theorem dX6_hand_43 : decode cX6_hand 43 = .ok (.bipush (-2), 2) := by decide +kernel
theorem dX6_hand_45 : decode cX6_hand 45 = .ok (.if_icmp .eq 17, 3) := by decide +kernel
theorem dX6_hand_48 : decode cX6_hand 48 = .ok (.aload_n 0, 1) := by decide +kernel
theorem dX6_hand_49 : decode cX6_hand 49 = .ok (.getfield 53, 3) := by decide +kernel
theorem dX6_hand_52 : decode cX6_hand 52 = .ok (.iload_n 1, 1) := by decide +kernel
theorem dX6_hand_53 : decode cX6_hand 53 = .ok (.iaload, 1) := by decide +kernel
theorem dX6_hand_54 : decode cX6_hand 54 = .ok (.iload_n 2, 1) := by decide +kernel
theorem dX6_hand_55 : decode cX6_hand 55 = .ok (.if_icmp .eq 7, 3) := by decide +kernel
theorem dX6_hand_58 : decode cX6_hand 58 = .ok (.iconst 1, 1) := by decide +kernel
theorem dX6_hand_59 : decode cX6_hand 59 = .ok (.goto 4, 3) := by decide +kernel
theorem dX6_hand_62 : decode cX6_hand 62 = .ok (.iconst 0, 1) := by decide +kernel
theorem dX6_hand_63 : decode cX6_hand 63 = .ok (.istore 4, 2) := by decide +kernel
theorem dX6_hand_65 : decode cX6_hand 65 = .ok (.iload 4, 2) := by decide +kernel
theorem dX6_hand_67 : decode cX6_hand 67 = .ok (.ifCond .eq 32, 3) := by decide +kernel
theorem dX6_hand_70 : decode cX6_hand 70 = .ok (.aload_n 0, 1) := by decide +kernel
theorem dX6_hand_71 : decode cX6_hand 71 = .ok (.aload_n 0, 1) := by decide +kernel
theorem dX6_hand_72 : decode cX6_hand 72 = .ok (.getfield 53, 3) := by decide +kernel
theorem dX6_hand_75 : decode cX6_hand 75 = .ok (.iload_n 1, 1) := by decide +kernel
theorem dX6_hand_76 : decode cX6_hand 76 = .ok (.iaload, 1) := by decide +kernel
theorem dX6_hand_77 : decode cX6_hand 77 = .ok (.invokevirtual 140, 3) := by decide +kernel
theorem dX6_hand_80 : decode cX6_hand 80 = .ok (.istore 5, 2) := by decide +kernel
theorem dX6_hand_82 : decode cX6_hand 82 = .ok (.iload 5, 2) := by decide +kernel
theorem dX6_hand_84 : decode cX6_hand 84 = .ok (.aload_n 0, 1) := by decide +kernel
theorem dX6_hand_85 : decode cX6_hand 85 = .ok (.iload_n 2, 1) := by decide +kernel
theorem dX6_hand_86 : decode cX6_hand 86 = .ok (.invokevirtual 140, 3) := by decide +kernel
theorem dX6_hand_89 : decode cX6_hand 89 = .ok (.if_icmp .ne 7, 3) := by decide +kernel
theorem dX6_hand_92 : decode cX6_hand 92 = .ok (.iconst 1, 1) := by decide +kernel
theorem dX6_hand_93 : decode cX6_hand 93 = .ok (.goto 4, 3) := by decide +kernel
theorem dX6_hand_96 : decode cX6_hand 96 = .ok (.iconst 0, 1) := by decide +kernel
theorem dX6_hand_97 : decode cX6_hand 97 = .ok (.istore 4, 2) := by decide +kernel
theorem dX6_hand_99 : decode cX6_hand 99 = .ok (.aload_n 0, 1) := by decide +kernel
theorem dX6_hand_100 : decode cX6_hand 100 = .ok (.iload_n 3, 1) := by decide +kernel
theorem dX6_hand_101 : decode cX6_hand 101 = .ok (.ifCond .ne 7, 3) := by decide +kernel
theorem dX6_hand_104 : decode cX6_hand 104 = .ok (.iconst 1, 1) := by decide +kernel
theorem dX6_hand_105 : decode cX6_hand 105 = .ok (.goto 13, 3) := by decide +kernel
theorem dX6_hand_108 : decode cX6_hand 108 = .ok (.iload 4, 2) := by decide +kernel
theorem dX6_hand_110 : decode cX6_hand 110 = .ok (.ifCond .eq 7, 3) := by decide +kernel
theorem dX6_hand_113 : decode cX6_hand 113 = .ok (.iconst 0, 1) := by decide +kernel
theorem dX6_hand_114 : decode cX6_hand 114 = .ok (.goto 4, 3) := by decide +kernel
theorem dX6_hand_117 : decode cX6_hand 117 = .ok (.iconst 2, 1) := by decide +kernel
theorem dX6_hand_118 : decode cX6_hand 118 = .ok (.invokevirtual 119, 3) := by decide +kernel
theorem dX6_hand_121 : decode cX6_hand 121 = .ok (.ifCond .ne 5, 3) := by decide +kernel
theorem dX6_hand_124 : decode cX6_hand 124 = .ok (.iconst 0, 1) := by decide +kernel
theorem dX6_hand_125 : decode cX6_hand 125 = .ok (.ireturn, 1) := by decide +kernel
theorem dX6_hand_126 : decode cX6_hand 126 = .ok (.aload_n 0, 1) := by decide +kernel
theorem dX6_hand_127 : decode cX6_hand 127 = .ok (.getfield 53, 3) := by decide +kernel
theorem dX6_hand_130 : decode cX6_hand 130 = .ok (.iload_n 1, 1) := by decide +kernel
theorem dX6_hand_131 : decode cX6_hand 131 = .ok (.iaload, 1) := by decide +kernel
theorem dX6_hand_132 : decode cX6_hand 132 = .ok (.istore 5, 2) := by decide +kernel
theorem dX6_hand_134 : decode cX6_hand 134 = .ok (.aload_n 0, 1) := by decide +kernel
theorem dX6_hand_135 : decode cX6_hand 135 = .ok (.getfield 53, 3) := by decide +kernel
theorem dX6_hand_138 : decode cX6_hand 138 = .ok (.iload_n 1, 1) := by decide +kernel
theorem dX6_hand_139 : decode cX6_hand 139 = .ok (.iload_n 2, 1) := by decide +kernel
theorem dX6_hand_140 : decode cX6_hand 140 = .ok (.iastore, 1) := by decide +kernel
theorem dX6_hand_141 : decode cX6_hand 141 = .ok (.iload 5, 2) := by decide +kernel
theorem dX6_hand_143 : decode cX6_hand 143 = .ok (.ireturn, 1) := by decide +kernel
theorem dX6_timeOf_0 : decode cX6_timeOf 0 = .ok (.aload_n 0, 1) := by decide +kernel
theorem dX6_timeOf_1 : decode cX6_timeOf 1 = .ok (.getfield 44, 3) := by decide +kernel
theorem dX6_timeOf_4 : decode cX6_timeOf 4 = .ok (.bipush 10, 2) := by decide +kernel
theorem dX6_timeOf_6 : decode cX6_timeOf 6 = .ok (.iload_n 1, 1) := by decide +kernel
theorem dX6_timeOf_7 : decode cX6_timeOf 7 = .ok (.imul, 1) := by decide +kernel
theorem dX6_timeOf_8 : decode cX6_timeOf 8 = .ok (.iload_n 2, 1) := by decide +kernel
theorem dX6_timeOf_9 : decode cX6_timeOf 9 = .ok (.iadd, 1) := by decide +kernel
theorem dX6_timeOf_10 : decode cX6_timeOf 10 = .ok (.iaload, 1) := by decide +kernel
theorem dX6_timeOf_11 : decode cX6_timeOf 11 = .ok (.istore_n 3, 1) := by decide +kernel
theorem dX6_timeOf_12 : decode cX6_timeOf 12 = .ok (.iload_n 3, 1) := by decide +kernel
theorem dX6_timeOf_13 : decode cX6_timeOf 13 = .ok (.iconst (-1), 1) := by decide +kernel
theorem dX6_timeOf_14 : decode cX6_timeOf 14 = .ok (.if_icmp .ne 12, 3) := by decide +kernel
theorem dX6_timeOf_17 : decode cX6_timeOf 17 = .ok (.aload_n 0, 1) := by decide +kernel
theorem dX6_timeOf_18 : decode cX6_timeOf 18 = .ok (.iload_n 1, 1) := by decide +kernel
theorem dX6_timeOf_19 : decode cX6_timeOf 19 = .ok (.iload_n 2, 1) := by decide +kernel
theorem dX6_timeOf_20 : decode cX6_timeOf 20 = .ok (.invokevirtual 143, 3) := by decide +kernel
theorem dX6_timeOf_23 : decode cX6_timeOf 23 = .ok (.goto 4, 3) := by decide +kernel
theorem dX6_timeOf_26 : decode cX6_timeOf 26 = .ok (.iload_n 3, 1) := by decide +kernel
theorem dX6_timeOf_27 : decode cX6_timeOf 27 = .ok (.ireturn, 1) := by decide +kernel
theorem dX6_record_0 : decode cX6_record 0 = .ok (.aload_n 0, 1) := by decide +kernel
theorem dX6_record_1 : decode cX6_record 1 = .ok (.iload_n 1, 1) := by decide +kernel
theorem dX6_record_2 : decode cX6_record 2 = .ok (.invokevirtual 127, 3) := by decide +kernel
theorem dX6_record_5 : decode cX6_record 5 = .ok (.ifCond .eq 15, 3) := by decide +kernel
theorem dX6_record_8 : decode cX6_record 8 = .ok (.aload_n 0, 1) := by decide +kernel
theorem dX6_record_9 : decode cX6_record 9 = .ok (.iload_n 2, 1) := by decide +kernel
theorem dX6_record_10 : decode cX6_record 10 = .ok (.invokevirtual 147, 3) := by decide +kernel
theorem dX6_record_13 : decode cX6_record 13 = .ok (.ifCond .eq 7, 3) := by decide +kernel
theorem dX6_record_16 : decode cX6_record 16 = .ok (.iconst 1, 1) := by decide +kernel
theorem dX6_record_17 : decode cX6_record 17 = .ok (.goto 4, 3) := by decide +kernel
theorem dX6_record_20 : decode cX6_record 20 = .ok (.iconst 0, 1) := by decide +kernel
theorem dX6_record_21 : decode cX6_record 21 = .ok (.istore 4, 2) := by decide +kernel
theorem dX6_record_23 : decode cX6_record 23 = .ok (.aload_n 0, 1) := by decide +kernel
theorem dX6_record_24 : decode cX6_record 24 = .ok (.iload 4, 2) := by decide +kernel
theorem dX6_record_26 : decode cX6_record 26 = .ok (.ifCond .ne 7, 3) := by decide +kernel
theorem dX6_record_29 : decode cX6_record 29 = .ok (.iconst 1, 1) := by decide +kernel
theorem dX6_record_30 : decode cX6_record 30 = .ok (.goto 19, 3) := by decide +kernel
theorem dX6_record_33 : decode cX6_record 33 = .ok (.iload_n 3, 1) := by decide +kernel
theorem dX6_record_34 : decode cX6_record 34 = .ok (.iconst 0, 1) := by decide +kernel
theorem dX6_record_35 : decode cX6_record 35 = .ok (.sipush 10000, 3) := by decide +kernel
theorem dX6_record_38 : decode cX6_record 38 = .ok (.invokestatic 68, 3) := by decide +kernel
theorem dX6_record_41 : decode cX6_record 41 = .ok (.ifCond .eq 7, 3) := by decide +kernel
theorem dX6_record_44 : decode cX6_record 44 = .ok (.iconst 0, 1) := by decide +kernel
theorem dX6_record_45 : decode cX6_record 45 = .ok (.goto 4, 3) := by decide +kernel
theorem dX6_record_48 : decode cX6_record 48 = .ok (.iconst 2, 1) := by decide +kernel
theorem dX6_record_49 : decode cX6_record 49 = .ok (.invokevirtual 119, 3) := by decide +kernel
theorem dX6_record_52 : decode cX6_record 52 = .ok (.ifCond .ne 5, 3) := by decide +kernel
theorem dX6_record_55 : decode cX6_record 55 = .ok (.iconst 0, 1) := by decide +kernel
theorem dX6_record_56 : decode cX6_record 56 = .ok (.ireturn, 1) := by decide +kernel
theorem dX6_record_57 : decode cX6_record 57 = .ok (.aload_n 0, 1) := by decide +kernel
theorem dX6_record_58 : decode cX6_record 58 = .ok (.iload_n 1, 1) := by decide +kernel
theorem dX6_record_59 : decode cX6_record 59 = .ok (.iload_n 2, 1) := by decide +kernel
theorem dX6_record_60 : decode cX6_record 60 = .ok (.invokevirtual 150, 3) := by decide +kernel
theorem dX6_record_63 : decode cX6_record 63 = .ok (.istore 5, 2) := by decide +kernel
theorem dX6_record_65 : decode cX6_record 65 = .ok (.aload_n 0, 1) := by decide +kernel
theorem dX6_record_66 : decode cX6_record 66 = .ok (.getfield 44, 3) := by decide +kernel
theorem dX6_record_69 : decode cX6_record 69 = .ok (.bipush 10, 2) := by decide +kernel
theorem dX6_record_71 : decode cX6_record 71 = .ok (.iload_n 1, 1) := by decide +kernel
theorem dX6_record_72 : decode cX6_record 72 = .ok (.imul, 1) := by decide +kernel
theorem dX6_record_73 : decode cX6_record 73 = .ok (.iload_n 2, 1) := by decide +kernel
theorem dX6_record_74 : decode cX6_record 74 = .ok (.iadd, 1) := by decide +kernel
theorem dX6_record_75 : decode cX6_record 75 = .ok (.iload_n 3, 1) := by decide +kernel
theorem dX6_record_76 : decode cX6_record 76 = .ok (.iastore, 1) := by decide +kernel
theorem dX6_record_77 : decode cX6_record 77 = .ok (.iload 5, 2) := by decide +kernel
theorem dX6_record_79 : decode cX6_record 79 = .ok (.ireturn, 1) := by decide +kernel
theorem dX6_appeal_0 : decode cX6_appeal 0 = .ok (.aload_n 0, 1) := by decide +kernel
theorem dX6_appeal_1 : decode cX6_appeal 1 = .ok (.iload_n 1, 1) := by decide +kernel
theorem dX6_appeal_2 : decode cX6_appeal 2 = .ok (.invokevirtual 127, 3) := by decide +kernel
theorem dX6_appeal_5 : decode cX6_appeal 5 = .ok (.ifCond .eq 15, 3) := by decide +kernel
theorem dX6_appeal_8 : decode cX6_appeal 8 = .ok (.aload_n 0, 1) := by decide +kernel
theorem dX6_appeal_9 : decode cX6_appeal 9 = .ok (.iload_n 2, 1) := by decide +kernel
theorem dX6_appeal_10 : decode cX6_appeal 10 = .ok (.invokevirtual 147, 3) := by decide +kernel
theorem dX6_appeal_13 : decode cX6_appeal 13 = .ok (.ifCond .eq 7, 3) := by decide +kernel
theorem dX6_appeal_16 : decode cX6_appeal 16 = .ok (.iconst 1, 1) := by decide +kernel
theorem dX6_appeal_17 : decode cX6_appeal 17 = .ok (.goto 4, 3) := by decide +kernel
theorem dX6_appeal_20 : decode cX6_appeal 20 = .ok (.iconst 0, 1) := by decide +kernel
theorem dX6_appeal_21 : decode cX6_appeal 21 = .ok (.istore_n 3, 1) := by decide +kernel
theorem dX6_appeal_22 : decode cX6_appeal 22 = .ok (.aload_n 0, 1) := by decide +kernel
theorem dX6_appeal_23 : decode cX6_appeal 23 = .ok (.iload_n 3, 1) := by decide +kernel
theorem dX6_appeal_24 : decode cX6_appeal 24 = .ok (.ifCond .ne 7, 3) := by decide +kernel
theorem dX6_appeal_27 : decode cX6_appeal 27 = .ok (.iconst 1, 1) := by decide +kernel
theorem dX6_appeal_28 : decode cX6_appeal 28 = .ok (.goto 23, 3) := by decide +kernel
theorem dX6_appeal_31 : decode cX6_appeal 31 = .ok (.aload_n 0, 1) := by decide +kernel
theorem dX6_appeal_32 : decode cX6_appeal 32 = .ok (.getfield 44, 3) := by decide +kernel
theorem dX6_appeal_35 : decode cX6_appeal 35 = .ok (.bipush 10, 2) := by decide +kernel
theorem dX6_appeal_37 : decode cX6_appeal 37 = .ok (.iload_n 1, 1) := by decide +kernel
theorem dX6_appeal_38 : decode cX6_appeal 38 = .ok (.imul, 1) := by decide +kernel
theorem dX6_appeal_39 : decode cX6_appeal 39 = .ok (.iload_n 2, 1) := by decide +kernel
theorem dX6_appeal_40 : decode cX6_appeal 40 = .ok (.iadd, 1) := by decide +kernel
theorem dX6_appeal_41 : decode cX6_appeal 41 = .ok (.iaload, 1) := by decide +kernel
theorem dX6_appeal_42 : decode cX6_appeal 42 = .ok (.iconst (-1), 1) := by decide +kernel
theorem dX6_appeal_43 : decode cX6_appeal 43 = .ok (.if_icmp .ne 7, 3) := by decide +kernel
theorem dX6_appeal_46 : decode cX6_appeal 46 = .ok (.iconst 2, 1) := by decide +kernel
theorem dX6_appeal_47 : decode cX6_appeal 47 = .ok (.goto 4, 3) := by decide +kernel
theorem dX6_appeal_50 : decode cX6_appeal 50 = .ok (.iconst 0, 1) := by decide +kernel
theorem dX6_appeal_51 : decode cX6_appeal 51 = .ok (.invokevirtual 119, 3) := by decide +kernel
theorem dX6_appeal_54 : decode cX6_appeal 54 = .ok (.ifCond .ne 5, 3) := by decide +kernel
theorem dX6_appeal_57 : decode cX6_appeal 57 = .ok (.iconst 0, 1) := by decide +kernel
theorem dX6_appeal_58 : decode cX6_appeal 58 = .ok (.ireturn, 1) := by decide +kernel
theorem dX6_appeal_59 : decode cX6_appeal 59 = .ok (.aload_n 0, 1) := by decide +kernel
theorem dX6_appeal_60 : decode cX6_appeal 60 = .ok (.getfield 44, 3) := by decide +kernel
theorem dX6_appeal_63 : decode cX6_appeal 63 = .ok (.bipush 10, 2) := by decide +kernel
theorem dX6_appeal_65 : decode cX6_appeal 65 = .ok (.iload_n 1, 1) := by decide +kernel
theorem dX6_appeal_66 : decode cX6_appeal 66 = .ok (.imul, 1) := by decide +kernel
theorem dX6_appeal_67 : decode cX6_appeal 67 = .ok (.iload_n 2, 1) := by decide +kernel
theorem dX6_appeal_68 : decode cX6_appeal 68 = .ok (.iadd, 1) := by decide +kernel
theorem dX6_appeal_69 : decode cX6_appeal 69 = .ok (.iaload, 1) := by decide +kernel
theorem dX6_appeal_70 : decode cX6_appeal 70 = .ok (.aload_n 0, 1) := by decide +kernel
theorem dX6_appeal_71 : decode cX6_appeal 71 = .ok (.iload_n 1, 1) := by decide +kernel
theorem dX6_appeal_72 : decode cX6_appeal 72 = .ok (.iload_n 2, 1) := by decide +kernel
theorem dX6_appeal_73 : decode cX6_appeal 73 = .ok (.invokevirtual 143, 3) := by decide +kernel
theorem dX6_appeal_76 : decode cX6_appeal 76 = .ok (.if_icmp .eq 7, 3) := by decide +kernel
theorem dX6_appeal_79 : decode cX6_appeal 79 = .ok (.iconst 1, 1) := by decide +kernel
theorem dX6_appeal_80 : decode cX6_appeal 80 = .ok (.goto 4, 3) := by decide +kernel
theorem dX6_appeal_83 : decode cX6_appeal 83 = .ok (.iconst 0, 1) := by decide +kernel
theorem dX6_appeal_84 : decode cX6_appeal 84 = .ok (.istore 4, 2) := by decide +kernel
theorem dX6_appeal_86 : decode cX6_appeal 86 = .ok (.aload_n 0, 1) := by decide +kernel
theorem dX6_appeal_87 : decode cX6_appeal 87 = .ok (.getfield 44, 3) := by decide +kernel
theorem dX6_appeal_90 : decode cX6_appeal 90 = .ok (.bipush 10, 2) := by decide +kernel
theorem dX6_appeal_92 : decode cX6_appeal 92 = .ok (.iload_n 1, 1) := by decide +kernel
theorem dX6_appeal_93 : decode cX6_appeal 93 = .ok (.imul, 1) := by decide +kernel
theorem dX6_appeal_94 : decode cX6_appeal 94 = .ok (.iload_n 2, 1) := by decide +kernel
theorem dX6_appeal_95 : decode cX6_appeal 95 = .ok (.iadd, 1) := by decide +kernel
theorem dX6_appeal_96 : decode cX6_appeal 96 = .ok (.iload 4, 2) := by decide +kernel
theorem dX6_appeal_98 : decode cX6_appeal 98 = .ok (.ifCond .eq 7, 3) := by decide +kernel
theorem dX6_appeal_101 : decode cX6_appeal 101 = .ok (.iconst (-1), 1) := by decide +kernel
theorem dX6_appeal_102 : decode cX6_appeal 102 = .ok (.goto 14, 3) := by decide +kernel
theorem dX6_appeal_105 : decode cX6_appeal 105 = .ok (.aload_n 0, 1) := by decide +kernel
theorem dX6_appeal_106 : decode cX6_appeal 106 = .ok (.getfield 44, 3) := by decide +kernel
theorem dX6_appeal_109 : decode cX6_appeal 109 = .ok (.bipush 10, 2) := by decide +kernel
theorem dX6_appeal_111 : decode cX6_appeal 111 = .ok (.iload_n 1, 1) := by decide +kernel
theorem dX6_appeal_112 : decode cX6_appeal 112 = .ok (.imul, 1) := by decide +kernel
theorem dX6_appeal_113 : decode cX6_appeal 113 = .ok (.iload_n 2, 1) := by decide +kernel
theorem dX6_appeal_114 : decode cX6_appeal 114 = .ok (.iadd, 1) := by decide +kernel
theorem dX6_appeal_115 : decode cX6_appeal 115 = .ok (.iaload, 1) := by decide +kernel
theorem dX6_appeal_116 : decode cX6_appeal 116 = .ok (.iastore, 1) := by decide +kernel
theorem dX6_appeal_117 : decode cX6_appeal 117 = .ok (.aload_n 0, 1) := by decide +kernel
theorem dX6_appeal_118 : decode cX6_appeal 118 = .ok (.getfield 41, 3) := by decide +kernel
theorem dX6_appeal_121 : decode cX6_appeal 121 = .ok (.iload_n 1, 1) := by decide +kernel
theorem dX6_appeal_122 : decode cX6_appeal 122 = .ok (.dup2, 1) := by decide +kernel
theorem dX6_appeal_123 : decode cX6_appeal 123 = .ok (.iaload, 1) := by decide +kernel
theorem dX6_appeal_124 : decode cX6_appeal 124 = .ok (.iload 4, 2) := by decide +kernel
theorem dX6_appeal_126 : decode cX6_appeal 126 = .ok (.ifCond .eq 7, 3) := by decide +kernel
theorem dX6_appeal_129 : decode cX6_appeal 129 = .ok (.iconst 0, 1) := by decide +kernel
theorem dX6_appeal_130 : decode cX6_appeal 130 = .ok (.goto 4, 3) := by decide +kernel
theorem dX6_appeal_133 : decode cX6_appeal 133 = .ok (.iconst 1, 1) := by decide +kernel
theorem dX6_appeal_134 : decode cX6_appeal 134 = .ok (.iadd, 1) := by decide +kernel
theorem dX6_appeal_135 : decode cX6_appeal 135 = .ok (.iastore, 1) := by decide +kernel
theorem dX6_appeal_136 : decode cX6_appeal 136 = .ok (.iload 4, 2) := by decide +kernel
theorem dX6_appeal_138 : decode cX6_appeal 138 = .ok (.ireturn, 1) := by decide +kernel
theorem dX6_gates_0 : decode cX6_gates 0 = .ok (.aload_n 0, 1) := by decide +kernel
theorem dX6_gates_1 : decode cX6_gates 1 = .ok (.iconst 0, 1) := by decide +kernel
theorem dX6_gates_2 : decode cX6_gates 2 = .ok (.putfield 62, 3) := by decide +kernel
theorem dX6_gates_5 : decode cX6_gates 5 = .ok (.aload_n 0, 1) := by decide +kernel
theorem dX6_gates_6 : decode cX6_gates 6 = .ok (.getfield 72, 3) := by decide +kernel
theorem dX6_gates_9 : decode cX6_gates 9 = .ok (.ireturn, 1) := by decide +kernel
theorem dX6_cellOf_0 : decode cX6_cellOf 0 = .ok (.aload_n 0, 1) := by decide +kernel
theorem dX6_cellOf_1 : decode cX6_cellOf 1 = .ok (.aload_n 0, 1) := by decide +kernel
theorem dX6_cellOf_2 : decode cX6_cellOf 2 = .ok (.iload_n 1, 1) := by decide +kernel
theorem dX6_cellOf_3 : decode cX6_cellOf 3 = .ok (.invokevirtual 147, 3) := by decide +kernel
theorem dX6_cellOf_6 : decode cX6_cellOf 6 = .ok (.ifCond .eq 7, 3) := by decide +kernel
theorem dX6_cellOf_9 : decode cX6_cellOf 9 = .ok (.iconst 0, 1) := by decide +kernel
theorem dX6_cellOf_10 : decode cX6_cellOf 10 = .ok (.goto 4, 3) := by decide +kernel
theorem dX6_cellOf_13 : decode cX6_cellOf 13 = .ok (.iconst 1, 1) := by decide +kernel
theorem dX6_cellOf_14 : decode cX6_cellOf 14 = .ok (.invokevirtual 119, 3) := by decide +kernel
theorem dX6_cellOf_17 : decode cX6_cellOf 17 = .ok (.ifCond .eq 11, 3) := by decide +kernel
theorem dX6_cellOf_20 : decode cX6_cellOf 20 = .ok (.aload_n 0, 1) := by decide +kernel
theorem dX6_cellOf_21 : decode cX6_cellOf 21 = .ok (.iload_n 1, 1) := by decide +kernel
theorem dX6_cellOf_22 : decode cX6_cellOf 22 = .ok (.invokevirtual 109, 3) := by decide +kernel
theorem dX6_cellOf_25 : decode cX6_cellOf 25 = .ok (.goto 4, 3) := by decide +kernel
theorem dX6_cellOf_28 : decode cX6_cellOf 28 = .ok (.iconst 0, 1) := by decide +kernel
theorem dX6_cellOf_29 : decode cX6_cellOf 29 = .ok (.ireturn, 1) := by decide +kernel
theorem dX6_dueAt_0 : decode cX6_dueAt 0 = .ok (.aload_n 0, 1) := by decide +kernel
theorem dX6_dueAt_1 : decode cX6_dueAt 1 = .ok (.getfield 19, 3) := by decide +kernel
theorem dX6_dueAt_4 : decode cX6_dueAt 4 = .ok (.iload_n 1, 1) := by decide +kernel
theorem dX6_dueAt_5 : decode cX6_dueAt 5 = .ok (.iaload, 1) := by decide +kernel
theorem dX6_dueAt_6 : decode cX6_dueAt 6 = .ok (.istore_n 2, 1) := by decide +kernel
theorem dX6_dueAt_7 : decode cX6_dueAt 7 = .ok (.iconst 0, 1) := by decide +kernel
theorem dX6_dueAt_8 : decode cX6_dueAt 8 = .ok (.istore_n 3, 1) := by decide +kernel
theorem dX6_dueAt_9 : decode cX6_dueAt 9 = .ok (.iload_n 3, 1) := by decide +kernel
theorem dX6_dueAt_10 : decode cX6_dueAt 10 = .ok (.aload_n 0, 1) := by decide +kernel
theorem dX6_dueAt_11 : decode cX6_dueAt 11 = .ok (.getfield 16, 3) := by decide +kernel
theorem dX6_dueAt_14 : decode cX6_dueAt 14 = .ok (.iload_n 1, 1) := by decide +kernel
theorem dX6_dueAt_15 : decode cX6_dueAt 15 = .ok (.iaload, 1) := by decide +kernel
theorem dX6_dueAt_16 : decode cX6_dueAt 16 = .ok (.if_icmp .gt 18, 3) := by decide +kernel
theorem dX6_dueAt_19 : decode cX6_dueAt 19 = .ok (.iload_n 2, 1) := by decide +kernel
theorem dX6_dueAt_20 : decode cX6_dueAt 20 = .ok (.aload_n 0, 1) := by decide +kernel
theorem dX6_dueAt_21 : decode cX6_dueAt 21 = .ok (.getfield 7, 3) := by decide +kernel
theorem dX6_dueAt_24 : decode cX6_dueAt 24 = .ok (.iload_n 3, 1) := by decide +kernel
theorem dX6_dueAt_25 : decode cX6_dueAt 25 = .ok (.iaload, 1) := by decide +kernel
theorem dX6_dueAt_26 : decode cX6_dueAt 26 = .ok (.iadd, 1) := by decide +kernel
theorem dX6_dueAt_27 : decode cX6_dueAt 27 = .ok (.istore_n 2, 1) := by decide +kernel
theorem dX6_dueAt_28 : decode cX6_dueAt 28 = .ok (.iinc 3 1, 3) := by decide +kernel
theorem dX6_dueAt_31 : decode cX6_dueAt 31 = .ok (.goto (-22), 3) := by decide +kernel
theorem dX6_dueAt_34 : decode cX6_dueAt 34 = .ok (.iload_n 2, 1) := by decide +kernel
theorem dX6_dueAt_35 : decode cX6_dueAt 35 = .ok (.ireturn, 1) := by decide +kernel
theorem dX6_due_0 : decode cX6_due 0 = .ok (.aload_n 0, 1) := by decide +kernel
theorem dX6_due_1 : decode cX6_due 1 = .ok (.aload_n 0, 1) := by decide +kernel
theorem dX6_due_2 : decode cX6_due 2 = .ok (.iload_n 1, 1) := by decide +kernel
theorem dX6_due_3 : decode cX6_due 3 = .ok (.invokevirtual 147, 3) := by decide +kernel
theorem dX6_due_6 : decode cX6_due 6 = .ok (.ifCond .eq 7, 3) := by decide +kernel
theorem dX6_due_9 : decode cX6_due 9 = .ok (.iconst 0, 1) := by decide +kernel
theorem dX6_due_10 : decode cX6_due 10 = .ok (.goto 4, 3) := by decide +kernel
theorem dX6_due_13 : decode cX6_due 13 = .ok (.iconst 1, 1) := by decide +kernel
theorem dX6_due_14 : decode cX6_due 14 = .ok (.invokevirtual 119, 3) := by decide +kernel
theorem dX6_due_17 : decode cX6_due 17 = .ok (.ifCond .eq 11, 3) := by decide +kernel
theorem dX6_due_20 : decode cX6_due 20 = .ok (.aload_n 0, 1) := by decide +kernel
theorem dX6_due_21 : decode cX6_due 21 = .ok (.iload_n 1, 1) := by decide +kernel
theorem dX6_due_22 : decode cX6_due 22 = .ok (.invokevirtual 153, 3) := by decide +kernel
theorem dX6_due_25 : decode cX6_due 25 = .ok (.goto 4, 3) := by decide +kernel
theorem dX6_due_28 : decode cX6_due 28 = .ok (.iconst 0, 1) := by decide +kernel
theorem dX6_due_29 : decode cX6_due 29 = .ok (.ireturn, 1) := by decide +kernel
theorem dX6_followed_0 : decode cX6_followed 0 = .ok (.aload_n 0, 1) := by decide +kernel
theorem dX6_followed_1 : decode cX6_followed 1 = .ok (.aload_n 0, 1) := by decide +kernel
theorem dX6_followed_2 : decode cX6_followed 2 = .ok (.iload_n 1, 1) := by decide +kernel
theorem dX6_followed_3 : decode cX6_followed 3 = .ok (.invokevirtual 127, 3) := by decide +kernel
theorem dX6_followed_6 : decode cX6_followed 6 = .ok (.ifCond .eq 7, 3) := by decide +kernel
theorem dX6_followed_9 : decode cX6_followed 9 = .ok (.iconst 0, 1) := by decide +kernel
theorem dX6_followed_10 : decode cX6_followed 10 = .ok (.goto 4, 3) := by decide +kernel
theorem dX6_followed_13 : decode cX6_followed 13 = .ok (.iconst 1, 1) := by decide +kernel
theorem dX6_followed_14 : decode cX6_followed 14 = .ok (.invokevirtual 119, 3) := by decide +kernel
theorem dX6_followed_17 : decode cX6_followed 17 = .ok (.ifCond .ne 5, 3) := by decide +kernel
theorem dX6_followed_20 : decode cX6_followed 20 = .ok (.iconst 0, 1) := by decide +kernel
theorem dX6_followed_21 : decode cX6_followed 21 = .ok (.ireturn, 1) := by decide +kernel
theorem dX6_followed_22 : decode cX6_followed 22 = .ok (.iconst 0, 1) := by decide +kernel
theorem dX6_followed_23 : decode cX6_followed 23 = .ok (.istore_n 2, 1) := by decide +kernel
theorem dX6_followed_24 : decode cX6_followed 24 = .ok (.iconst 0, 1) := by decide +kernel
theorem dX6_followed_25 : decode cX6_followed 25 = .ok (.istore_n 3, 1) := by decide +kernel
theorem dX6_followed_26 : decode cX6_followed 26 = .ok (.bipush 60, 2) := by decide +kernel
theorem dX6_followed_28 : decode cX6_followed 28 = .ok (.iload_n 1, 1) := by decide +kernel
theorem dX6_followed_29 : decode cX6_followed 29 = .ok (.imul, 1) := by decide +kernel
theorem dX6_followed_30 : decode cX6_followed 30 = .ok (.istore 4, 2) := by decide +kernel
theorem dX6_followed_32 : decode cX6_followed 32 = .ok (.iload 4, 2) := by decide +kernel
theorem dX6_followed_34 : decode cX6_followed 34 = .ok (.bipush 60, 2) := by decide +kernel
theorem dX6_followed_36 : decode cX6_followed 36 = .ok (.iload_n 1, 1) := by decide +kernel
theorem dX6_followed_37 : decode cX6_followed 37 = .ok (.imul, 1) := by decide +kernel
theorem dX6_followed_38 : decode cX6_followed 38 = .ok (.aload_n 0, 1) := by decide +kernel
theorem dX6_followed_39 : decode cX6_followed 39 = .ok (.getfield 26, 3) := by decide +kernel
theorem dX6_followed_42 : decode cX6_followed 42 = .ok (.iload_n 1, 1) := by decide +kernel
theorem dX6_followed_43 : decode cX6_followed 43 = .ok (.iaload, 1) := by decide +kernel
theorem dX6_followed_44 : decode cX6_followed 44 = .ok (.iadd, 1) := by decide +kernel
theorem dX6_followed_45 : decode cX6_followed 45 = .ok (.if_icmp .ge 82, 3) := by decide +kernel
theorem dX6_followed_48 : decode cX6_followed 48 = .ok (.aload_n 0, 1) := by decide +kernel
theorem dX6_followed_49 : decode cX6_followed 49 = .ok (.getfield 29, 3) := by decide +kernel
theorem dX6_followed_52 : decode cX6_followed 52 = .ok (.iload 4, 2) := by decide +kernel
theorem dX6_followed_54 : decode cX6_followed 54 = .ok (.iaload, 1) := by decide +kernel
theorem dX6_followed_55 : decode cX6_followed 55 = .ok (.iconst (-1), 1) := by decide +kernel
theorem dX6_followed_56 : decode cX6_followed 56 = .ok (.if_icmp .eq 65, 3) := by decide +kernel
theorem dX6_followed_59 : decode cX6_followed 59 = .ok (.iload_n 3, 1) := by decide +kernel
theorem dX6_followed_60 : decode cX6_followed 60 = .ok (.ifCond .ne 61, 3) := by decide +kernel
theorem dX6_followed_63 : decode cX6_followed 63 = .ok (.iload_n 2, 1) := by decide +kernel
theorem dX6_followed_64 : decode cX6_followed 64 = .ok (.aload_n 0, 1) := by decide +kernel
theorem dX6_followed_65 : decode cX6_followed 65 = .ok (.getfield 116, 3) := by decide +kernel
theorem dX6_followed_68 : decode cX6_followed 68 = .ok (.if_icmp .eq 35, 3) := by decide +kernel
theorem dX6_followed_71 : decode cX6_followed 71 = .ok (.aload_n 0, 1) := by decide +kernel
theorem dX6_followed_72 : decode cX6_followed 72 = .ok (.getfield 29, 3) := by decide +kernel
theorem dX6_followed_75 : decode cX6_followed 75 = .ok (.iload 4, 2) := by decide +kernel
theorem dX6_followed_77 : decode cX6_followed 77 = .ok (.iaload, 1) := by decide +kernel
theorem dX6_followed_78 : decode cX6_followed 78 = .ok (.aload_n 0, 1) := by decide +kernel
theorem dX6_followed_79 : decode cX6_followed 79 = .ok (.getfield 7, 3) := by decide +kernel
theorem dX6_followed_82 : decode cX6_followed 82 = .ok (.iload_n 2, 1) := by decide +kernel
theorem dX6_followed_83 : decode cX6_followed 83 = .ok (.iaload, 1) := by decide +kernel
theorem dX6_followed_84 : decode cX6_followed 84 = .ok (.if_icmp .ne 19, 3) := by decide +kernel
theorem dX6_followed_87 : decode cX6_followed 87 = .ok (.aload_n 0, 1) := by decide +kernel
theorem dX6_followed_88 : decode cX6_followed 88 = .ok (.getfield 35, 3) := by decide +kernel
theorem dX6_followed_91 : decode cX6_followed 91 = .ok (.iload 4, 2) := by decide +kernel
theorem dX6_followed_93 : decode cX6_followed 93 = .ok (.iaload, 1) := by decide +kernel
theorem dX6_followed_94 : decode cX6_followed 94 = .ok (.aload_n 0, 1) := by decide +kernel
theorem dX6_followed_95 : decode cX6_followed 95 = .ok (.getfield 13, 3) := by decide +kernel
theorem dX6_followed_98 : decode cX6_followed 98 = .ok (.iload_n 2, 1) := by decide +kernel
theorem dX6_followed_99 : decode cX6_followed 99 = .ok (.iaload, 1) := by decide +kernel
theorem dX6_followed_100 : decode cX6_followed 100 = .ok (.if_icmp .eq 7, 3) := by decide +kernel
theorem dX6_followed_103 : decode cX6_followed 103 = .ok (.iconst 1, 1) := by decide +kernel
theorem dX6_followed_104 : decode cX6_followed 104 = .ok (.goto 4, 3) := by decide +kernel
theorem dX6_followed_107 : decode cX6_followed 107 = .ok (.iconst 0, 1) := by decide +kernel
theorem dX6_followed_108 : decode cX6_followed 108 = .ok (.istore_n 3, 1) := by decide +kernel
theorem dX6_followed_109 : decode cX6_followed 109 = .ok (.iload_n 2, 1) := by decide +kernel
theorem dX6_followed_110 : decode cX6_followed 110 = .ok (.iload_n 3, 1) := by decide +kernel
theorem dX6_followed_111 : decode cX6_followed 111 = .ok (.ifCond .eq 7, 3) := by decide +kernel
theorem dX6_followed_114 : decode cX6_followed 114 = .ok (.iconst 0, 1) := by decide +kernel
theorem dX6_followed_115 : decode cX6_followed 115 = .ok (.goto 4, 3) := by decide +kernel
theorem dX6_followed_118 : decode cX6_followed 118 = .ok (.iconst 1, 1) := by decide +kernel
theorem dX6_followed_119 : decode cX6_followed 119 = .ok (.iadd, 1) := by decide +kernel
theorem dX6_followed_120 : decode cX6_followed 120 = .ok (.istore_n 2, 1) := by decide +kernel
theorem dX6_followed_121 : decode cX6_followed 121 = .ok (.iinc 4 1, 3) := by decide +kernel
theorem dX6_followed_124 : decode cX6_followed 124 = .ok (.goto (-92), 3) := by decide +kernel
theorem dX6_followed_127 : decode cX6_followed 127 = .ok (.iload_n 2, 1) := by decide +kernel
theorem dX6_followed_128 : decode cX6_followed 128 = .ok (.ireturn, 1) := by decide +kernel
theorem dX6_cellAt_0 : decode cX6_cellAt 0 = .ok (.aload_n 0, 1) := by decide +kernel
theorem dX6_cellAt_1 : decode cX6_cellAt 1 = .ok (.iload_n 1, 1) := by decide +kernel
theorem dX6_cellAt_2 : decode cX6_cellAt 2 = .ok (.invokevirtual 127, 3) := by decide +kernel
theorem dX6_cellAt_5 : decode cX6_cellAt 5 = .ok (.istore_n 3, 1) := by decide +kernel
theorem dX6_cellAt_6 : decode cX6_cellAt 6 = .ok (.aload_n 0, 1) := by decide +kernel
theorem dX6_cellAt_7 : decode cX6_cellAt 7 = .ok (.iload_n 3, 1) := by decide +kernel
theorem dX6_cellAt_8 : decode cX6_cellAt 8 = .ok (.ifCond .ne 7, 3) := by decide +kernel
theorem dX6_cellAt_11 : decode cX6_cellAt 11 = .ok (.iconst 1, 1) := by decide +kernel
theorem dX6_cellAt_12 : decode cX6_cellAt 12 = .ok (.goto 21, 3) := by decide +kernel
theorem dX6_cellAt_15 : decode cX6_cellAt 15 = .ok (.iload_n 2, 1) := by decide +kernel
theorem dX6_cellAt_16 : decode cX6_cellAt 16 = .ok (.iconst 0, 1) := by decide +kernel
theorem dX6_cellAt_17 : decode cX6_cellAt 17 = .ok (.aload_n 0, 1) := by decide +kernel
theorem dX6_cellAt_18 : decode cX6_cellAt 18 = .ok (.iload_n 1, 1) := by decide +kernel
theorem dX6_cellAt_19 : decode cX6_cellAt 19 = .ok (.invokevirtual 94, 3) := by decide +kernel
theorem dX6_cellAt_22 : decode cX6_cellAt 22 = .ok (.invokestatic 68, 3) := by decide +kernel
theorem dX6_cellAt_25 : decode cX6_cellAt 25 = .ok (.ifCond .eq 7, 3) := by decide +kernel
theorem dX6_cellAt_28 : decode cX6_cellAt 28 = .ok (.iconst 0, 1) := by decide +kernel
theorem dX6_cellAt_29 : decode cX6_cellAt 29 = .ok (.goto 4, 3) := by decide +kernel
theorem dX6_cellAt_32 : decode cX6_cellAt 32 = .ok (.iconst 2, 1) := by decide +kernel
theorem dX6_cellAt_33 : decode cX6_cellAt 33 = .ok (.invokevirtual 119, 3) := by decide +kernel
theorem dX6_cellAt_36 : decode cX6_cellAt 36 = .ok (.ifCond .ne 5, 3) := by decide +kernel
theorem dX6_cellAt_39 : decode cX6_cellAt 39 = .ok (.iconst 0, 1) := by decide +kernel
theorem dX6_cellAt_40 : decode cX6_cellAt 40 = .ok (.ireturn, 1) := by decide +kernel
theorem dX6_cellAt_41 : decode cX6_cellAt 41 = .ok (.aload_n 0, 1) := by decide +kernel
theorem dX6_cellAt_42 : decode cX6_cellAt 42 = .ok (.iload_n 1, 1) := by decide +kernel
theorem dX6_cellAt_43 : decode cX6_cellAt 43 = .ok (.iload_n 2, 1) := by decide +kernel
theorem dX6_cellAt_44 : decode cX6_cellAt 44 = .ok (.invokevirtual 98, 3) := by decide +kernel
theorem dX6_cellAt_47 : decode cX6_cellAt 47 = .ok (.aload_n 0, 1) := by decide +kernel
theorem dX6_cellAt_48 : decode cX6_cellAt 48 = .ok (.invokevirtual 102, 3) := by decide +kernel
theorem dX6_cellAt_51 : decode cX6_cellAt 51 = .ok (.ireturn, 1) := by decide +kernel
theorem dX6_clock_0 : decode cX6_clock 0 = .ok (.aload_n 0, 1) := by decide +kernel
theorem dX6_clock_1 : decode cX6_clock 1 = .ok (.aload_n 0, 1) := by decide +kernel
theorem dX6_clock_2 : decode cX6_clock 2 = .ok (.iload_n 1, 1) := by decide +kernel
theorem dX6_clock_3 : decode cX6_clock 3 = .ok (.invokevirtual 127, 3) := by decide +kernel
theorem dX6_clock_6 : decode cX6_clock 6 = .ok (.ifCond .eq 7, 3) := by decide +kernel
theorem dX6_clock_9 : decode cX6_clock 9 = .ok (.iconst 0, 1) := by decide +kernel
theorem dX6_clock_10 : decode cX6_clock 10 = .ok (.goto 4, 3) := by decide +kernel
theorem dX6_clock_13 : decode cX6_clock 13 = .ok (.iconst 1, 1) := by decide +kernel
theorem dX6_clock_14 : decode cX6_clock 14 = .ok (.invokevirtual 119, 3) := by decide +kernel
theorem dX6_clock_17 : decode cX6_clock 17 = .ok (.ifCond .eq 11, 3) := by decide +kernel
theorem dX6_clock_20 : decode cX6_clock 20 = .ok (.aload_n 0, 1) := by decide +kernel
theorem dX6_clock_21 : decode cX6_clock 21 = .ok (.iload_n 1, 1) := by decide +kernel
theorem dX6_clock_22 : decode cX6_clock 22 = .ok (.invokevirtual 94, 3) := by decide +kernel
theorem dX6_clock_25 : decode cX6_clock 25 = .ok (.goto 4, 3) := by decide +kernel
theorem dX6_clock_28 : decode cX6_clock 28 = .ok (.iconst 0, 1) := by decide +kernel
theorem dX6_clock_29 : decode cX6_clock 29 = .ok (.ireturn, 1) := by decide +kernel
theorem dX6_byTrack_0 : decode cX6_byTrack 0 = .ok (.aload_n 0, 1) := by decide +kernel
theorem dX6_byTrack_1 : decode cX6_byTrack 1 = .ok (.iload_n 1, 1) := by decide +kernel
theorem dX6_byTrack_2 : decode cX6_byTrack 2 = .ok (.iload_n 2, 1) := by decide +kernel
theorem dX6_byTrack_3 : decode cX6_byTrack 3 = .ok (.invokevirtual 156, 3) := by decide +kernel
theorem dX6_byTrack_6 : decode cX6_byTrack 6 = .ok (.ireturn, 1) := by decide +kernel
theorem dX6_byMinutes_0 : decode cX6_byMinutes 0 = .ok (.aload_n 0, 1) := by decide +kernel
theorem dX6_byMinutes_1 : decode cX6_byMinutes 1 = .ok (.aload_n 0, 1) := by decide +kernel
theorem dX6_byMinutes_2 : decode cX6_byMinutes 2 = .ok (.iload_n 1, 1) := by decide +kernel
theorem dX6_byMinutes_3 : decode cX6_byMinutes 3 = .ok (.invokevirtual 127, 3) := by decide +kernel
theorem dX6_byMinutes_6 : decode cX6_byMinutes 6 = .ok (.ifCond .eq 15, 3) := by decide +kernel
theorem dX6_byMinutes_9 : decode cX6_byMinutes 9 = .ok (.aload_n 0, 1) := by decide +kernel
theorem dX6_byMinutes_10 : decode cX6_byMinutes 10 = .ok (.iload_n 2, 1) := by decide +kernel
theorem dX6_byMinutes_11 : decode cX6_byMinutes 11 = .ok (.invokevirtual 147, 3) := by decide +kernel
theorem dX6_byMinutes_14 : decode cX6_byMinutes 14 = .ok (.ifCond .eq 7, 3) := by decide +kernel
theorem dX6_byMinutes_17 : decode cX6_byMinutes 17 = .ok (.iconst 0, 1) := by decide +kernel
theorem dX6_byMinutes_18 : decode cX6_byMinutes 18 = .ok (.goto 4, 3) := by decide +kernel
theorem dX6_byMinutes_21 : decode cX6_byMinutes 21 = .ok (.iconst 1, 1) := by decide +kernel
theorem dX6_byMinutes_22 : decode cX6_byMinutes 22 = .ok (.invokevirtual 119, 3) := by decide +kernel
theorem dX6_byMinutes_25 : decode cX6_byMinutes 25 = .ok (.ifCond .eq 12, 3) := by decide +kernel
theorem dX6_byMinutes_28 : decode cX6_byMinutes 28 = .ok (.aload_n 0, 1) := by decide +kernel
theorem dX6_byMinutes_29 : decode cX6_byMinutes 29 = .ok (.iload_n 1, 1) := by decide +kernel
theorem dX6_byMinutes_30 : decode cX6_byMinutes 30 = .ok (.iload_n 2, 1) := by decide +kernel
theorem dX6_byMinutes_31 : decode cX6_byMinutes 31 = .ok (.invokevirtual 143, 3) := by decide +kernel
theorem dX6_byMinutes_34 : decode cX6_byMinutes 34 = .ok (.goto 4, 3) := by decide +kernel
theorem dX6_byMinutes_37 : decode cX6_byMinutes 37 = .ok (.iconst 0, 1) := by decide +kernel
theorem dX6_byMinutes_38 : decode cX6_byMinutes 38 = .ok (.ireturn, 1) := by decide +kernel
theorem dX6_time_0 : decode cX6_time 0 = .ok (.aload_n 0, 1) := by decide +kernel
theorem dX6_time_1 : decode cX6_time 1 = .ok (.aload_n 0, 1) := by decide +kernel
theorem dX6_time_2 : decode cX6_time 2 = .ok (.iload_n 1, 1) := by decide +kernel
theorem dX6_time_3 : decode cX6_time 3 = .ok (.invokevirtual 127, 3) := by decide +kernel
theorem dX6_time_6 : decode cX6_time 6 = .ok (.ifCond .eq 15, 3) := by decide +kernel
theorem dX6_time_9 : decode cX6_time 9 = .ok (.aload_n 0, 1) := by decide +kernel
theorem dX6_time_10 : decode cX6_time 10 = .ok (.iload_n 2, 1) := by decide +kernel
theorem dX6_time_11 : decode cX6_time 11 = .ok (.invokevirtual 147, 3) := by decide +kernel
theorem dX6_time_14 : decode cX6_time 14 = .ok (.ifCond .eq 7, 3) := by decide +kernel
theorem dX6_time_17 : decode cX6_time 17 = .ok (.iconst 0, 1) := by decide +kernel
theorem dX6_time_18 : decode cX6_time 18 = .ok (.goto 4, 3) := by decide +kernel
theorem dX6_time_21 : decode cX6_time 21 = .ok (.iconst 1, 1) := by decide +kernel
theorem dX6_time_22 : decode cX6_time 22 = .ok (.invokevirtual 119, 3) := by decide +kernel
theorem dX6_time_25 : decode cX6_time 25 = .ok (.ifCond .eq 12, 3) := by decide +kernel
theorem dX6_time_28 : decode cX6_time 28 = .ok (.aload_n 0, 1) := by decide +kernel
theorem dX6_time_29 : decode cX6_time 29 = .ok (.iload_n 1, 1) := by decide +kernel
theorem dX6_time_30 : decode cX6_time 30 = .ok (.iload_n 2, 1) := by decide +kernel
theorem dX6_time_31 : decode cX6_time 31 = .ok (.invokevirtual 150, 3) := by decide +kernel
theorem dX6_time_34 : decode cX6_time 34 = .ok (.goto 4, 3) := by decide +kernel
theorem dX6_time_37 : decode cX6_time 37 = .ok (.iconst 0, 1) := by decide +kernel
theorem dX6_time_38 : decode cX6_time 38 = .ok (.ireturn, 1) := by decide +kernel
theorem dX6_pointsOf_0 : decode cX6_pointsOf 0 = .ok (.bipush 10, 2) := by decide +kernel
theorem dX6_pointsOf_2 : decode cX6_pointsOf 2 = .ok (.aload_n 0, 1) := by decide +kernel
theorem dX6_pointsOf_3 : decode cX6_pointsOf 3 = .ok (.getfield 41, 3) := by decide +kernel
theorem dX6_pointsOf_6 : decode cX6_pointsOf 6 = .ok (.iload_n 1, 1) := by decide +kernel
theorem dX6_pointsOf_7 : decode cX6_pointsOf 7 = .ok (.iaload, 1) := by decide +kernel
theorem dX6_pointsOf_8 : decode cX6_pointsOf 8 = .ok (.imul, 1) := by decide +kernel
theorem dX6_pointsOf_9 : decode cX6_pointsOf 9 = .ok (.istore_n 2, 1) := by decide +kernel
theorem dX6_pointsOf_10 : decode cX6_pointsOf 10 = .ok (.iconst 0, 1) := by decide +kernel
theorem dX6_pointsOf_11 : decode cX6_pointsOf 11 = .ok (.istore_n 3, 1) := by decide +kernel
theorem dX6_pointsOf_12 : decode cX6_pointsOf 12 = .ok (.iconst 0, 1) := by decide +kernel
theorem dX6_pointsOf_13 : decode cX6_pointsOf 13 = .ok (.istore 4, 2) := by decide +kernel
theorem dX6_pointsOf_15 : decode cX6_pointsOf 15 = .ok (.iload 4, 2) := by decide +kernel
theorem dX6_pointsOf_17 : decode cX6_pointsOf 17 = .ok (.aload_n 0, 1) := by decide +kernel
theorem dX6_pointsOf_18 : decode cX6_pointsOf 18 = .ok (.getfield 72, 3) := by decide +kernel
theorem dX6_pointsOf_21 : decode cX6_pointsOf 21 = .ok (.if_icmp .ge 130, 3) := by decide +kernel
theorem dX6_pointsOf_24 : decode cX6_pointsOf 24 = .ok (.iload 4, 2) := by decide +kernel
theorem dX6_pointsOf_26 : decode cX6_pointsOf 26 = .ok (.aload_n 0, 1) := by decide +kernel
theorem dX6_pointsOf_27 : decode cX6_pointsOf 27 = .ok (.getfield 22, 3) := by decide +kernel
theorem dX6_pointsOf_30 : decode cX6_pointsOf 30 = .ok (.if_icmp .ge 121, 3) := by decide +kernel
theorem dX6_pointsOf_33 : decode cX6_pointsOf 33 = .ok (.aload_n 0, 1) := by decide +kernel
theorem dX6_pointsOf_34 : decode cX6_pointsOf 34 = .ok (.iload_n 1, 1) := by decide +kernel
theorem dX6_pointsOf_35 : decode cX6_pointsOf 35 = .ok (.aload_n 0, 1) := by decide +kernel
theorem dX6_pointsOf_36 : decode cX6_pointsOf 36 = .ok (.iload 4, 2) := by decide +kernel
theorem dX6_pointsOf_38 : decode cX6_pointsOf 38 = .ok (.invokevirtual 109, 3) := by decide +kernel
theorem dX6_pointsOf_41 : decode cX6_pointsOf 41 = .ok (.iload_n 3, 1) := by decide +kernel
theorem dX6_pointsOf_42 : decode cX6_pointsOf 42 = .ok (.invokevirtual 112, 3) := by decide +kernel
theorem dX6_pointsOf_45 : decode cX6_pointsOf 45 = .ok (.istore 5, 2) := by decide +kernel
theorem dX6_pointsOf_47 : decode cX6_pointsOf 47 = .ok (.iload 5, 2) := by decide +kernel
theorem dX6_pointsOf_49 : decode cX6_pointsOf 49 = .ok (.iconst (-1), 1) := by decide +kernel
theorem dX6_pointsOf_50 : decode cX6_pointsOf 50 = .ok (.if_icmp .ne 7, 3) := by decide +kernel
theorem dX6_pointsOf_53 : decode cX6_pointsOf 53 = .ok (.iload_n 3, 1) := by decide +kernel
theorem dX6_pointsOf_54 : decode cX6_pointsOf 54 = .ok (.goto 5, 3) := by decide +kernel
theorem dX6_pointsOf_57 : decode cX6_pointsOf 57 = .ok (.iload 5, 2) := by decide +kernel
theorem dX6_pointsOf_59 : decode cX6_pointsOf 59 = .ok (.istore_n 3, 1) := by decide +kernel
theorem dX6_pointsOf_60 : decode cX6_pointsOf 60 = .ok (.aload_n 0, 1) := by decide +kernel
theorem dX6_pointsOf_61 : decode cX6_pointsOf 61 = .ok (.getfield 44, 3) := by decide +kernel
theorem dX6_pointsOf_64 : decode cX6_pointsOf 64 = .ok (.bipush 10, 2) := by decide +kernel
theorem dX6_pointsOf_66 : decode cX6_pointsOf 66 = .ok (.iload_n 1, 1) := by decide +kernel
theorem dX6_pointsOf_67 : decode cX6_pointsOf 67 = .ok (.imul, 1) := by decide +kernel
theorem dX6_pointsOf_68 : decode cX6_pointsOf 68 = .ok (.iload 4, 2) := by decide +kernel
theorem dX6_pointsOf_70 : decode cX6_pointsOf 70 = .ok (.iadd, 1) := by decide +kernel
theorem dX6_pointsOf_71 : decode cX6_pointsOf 71 = .ok (.iaload, 1) := by decide +kernel
theorem dX6_pointsOf_72 : decode cX6_pointsOf 72 = .ok (.istore 6, 2) := by decide +kernel
theorem dX6_pointsOf_74 : decode cX6_pointsOf 74 = .ok (.iload 6, 2) := by decide +kernel
theorem dX6_pointsOf_76 : decode cX6_pointsOf 76 = .ok (.iconst (-1), 1) := by decide +kernel
theorem dX6_pointsOf_77 : decode cX6_pointsOf 77 = .ok (.if_icmp .ne 8, 3) := by decide +kernel
theorem dX6_pointsOf_80 : decode cX6_pointsOf 80 = .ok (.iload 5, 2) := by decide +kernel
theorem dX6_pointsOf_82 : decode cX6_pointsOf 82 = .ok (.goto 5, 3) := by decide +kernel
theorem dX6_pointsOf_85 : decode cX6_pointsOf 85 = .ok (.iload 6, 2) := by decide +kernel
theorem dX6_pointsOf_87 : decode cX6_pointsOf 87 = .ok (.istore 7, 2) := by decide +kernel
theorem dX6_pointsOf_89 : decode cX6_pointsOf 89 = .ok (.iload 7, 2) := by decide +kernel
theorem dX6_pointsOf_91 : decode cX6_pointsOf 91 = .ok (.aload_n 0, 1) := by decide +kernel
theorem dX6_pointsOf_92 : decode cX6_pointsOf 92 = .ok (.iload 4, 2) := by decide +kernel
theorem dX6_pointsOf_94 : decode cX6_pointsOf 94 = .ok (.invokevirtual 153, 3) := by decide +kernel
theorem dX6_pointsOf_97 : decode cX6_pointsOf 97 = .ok (.isub, 1) := by decide +kernel
theorem dX6_pointsOf_98 : decode cX6_pointsOf 98 = .ok (.istore 8, 2) := by decide +kernel
theorem dX6_pointsOf_100 : decode cX6_pointsOf 100 = .ok (.iload 7, 2) := by decide +kernel
theorem dX6_pointsOf_102 : decode cX6_pointsOf 102 = .ok (.iconst (-1), 1) := by decide +kernel
theorem dX6_pointsOf_103 : decode cX6_pointsOf 103 = .ok (.if_icmp .ne 8, 3) := by decide +kernel
theorem dX6_pointsOf_106 : decode cX6_pointsOf 106 = .ok (.bipush 60, 2) := by decide +kernel
theorem dX6_pointsOf_108 : decode cX6_pointsOf 108 = .ok (.goto 18, 3) := by decide +kernel
theorem dX6_pointsOf_111 : decode cX6_pointsOf 111 = .ok (.iload 8, 2) := by decide +kernel
theorem dX6_pointsOf_113 : decode cX6_pointsOf 113 = .ok (.ifCond .ge 11, 3) := by decide +kernel
theorem dX6_pointsOf_116 : decode cX6_pointsOf 116 = .ok (.bipush (-2), 2) := by decide +kernel
theorem dX6_pointsOf_118 : decode cX6_pointsOf 118 = .ok (.iload 8, 2) := by decide +kernel
theorem dX6_pointsOf_120 : decode cX6_pointsOf 120 = .ok (.imul, 1) := by decide +kernel
theorem dX6_pointsOf_121 : decode cX6_pointsOf 121 = .ok (.goto 5, 3) := by decide +kernel
theorem dX6_pointsOf_124 : decode cX6_pointsOf 124 = .ok (.iload 8, 2) := by decide +kernel
theorem dX6_pointsOf_126 : decode cX6_pointsOf 126 = .ok (.istore 9, 2) := by decide +kernel
theorem dX6_pointsOf_128 : decode cX6_pointsOf 128 = .ok (.iload_n 2, 1) := by decide +kernel
theorem dX6_pointsOf_129 : decode cX6_pointsOf 129 = .ok (.iload 9, 2) := by decide +kernel
theorem dX6_pointsOf_131 : decode cX6_pointsOf 131 = .ok (.bipush 60, 2) := by decide +kernel
theorem dX6_pointsOf_133 : decode cX6_pointsOf 133 = .ok (.if_icmp .le 8, 3) := by decide +kernel
theorem dX6_pointsOf_136 : decode cX6_pointsOf 136 = .ok (.bipush 60, 2) := by decide +kernel
theorem dX6_pointsOf_138 : decode cX6_pointsOf 138 = .ok (.goto 5, 3) := by decide +kernel
theorem dX6_pointsOf_141 : decode cX6_pointsOf 141 = .ok (.iload 9, 2) := by decide +kernel
theorem dX6_pointsOf_143 : decode cX6_pointsOf 143 = .ok (.iadd, 1) := by decide +kernel
theorem dX6_pointsOf_144 : decode cX6_pointsOf 144 = .ok (.istore_n 2, 1) := by decide +kernel
theorem dX6_pointsOf_145 : decode cX6_pointsOf 145 = .ok (.iinc 4 1, 3) := by decide +kernel
theorem dX6_pointsOf_148 : decode cX6_pointsOf 148 = .ok (.goto (-133), 3) := by decide +kernel
theorem dX6_pointsOf_151 : decode cX6_pointsOf 151 = .ok (.iload_n 2, 1) := by decide +kernel
theorem dX6_pointsOf_152 : decode cX6_pointsOf 152 = .ok (.ireturn, 1) := by decide +kernel
theorem dX6_points_0 : decode cX6_points 0 = .ok (.aload_n 0, 1) := by decide +kernel
theorem dX6_points_1 : decode cX6_points 1 = .ok (.aload_n 0, 1) := by decide +kernel
theorem dX6_points_2 : decode cX6_points 2 = .ok (.iload_n 1, 1) := by decide +kernel
theorem dX6_points_3 : decode cX6_points 3 = .ok (.invokevirtual 127, 3) := by decide +kernel
theorem dX6_points_6 : decode cX6_points 6 = .ok (.ifCond .eq 7, 3) := by decide +kernel
theorem dX6_points_9 : decode cX6_points 9 = .ok (.iconst 0, 1) := by decide +kernel
theorem dX6_points_10 : decode cX6_points 10 = .ok (.goto 4, 3) := by decide +kernel
theorem dX6_points_13 : decode cX6_points 13 = .ok (.iconst 1, 1) := by decide +kernel
theorem dX6_points_14 : decode cX6_points 14 = .ok (.invokevirtual 119, 3) := by decide +kernel
theorem dX6_points_17 : decode cX6_points 17 = .ok (.ifCond .eq 11, 3) := by decide +kernel
theorem dX6_points_20 : decode cX6_points 20 = .ok (.aload_n 0, 1) := by decide +kernel
theorem dX6_points_21 : decode cX6_points 21 = .ok (.iload_n 1, 1) := by decide +kernel
theorem dX6_points_22 : decode cX6_points 22 = .ok (.invokevirtual 159, 3) := by decide +kernel
theorem dX6_points_25 : decode cX6_points 25 = .ok (.goto 4, 3) := by decide +kernel
theorem dX6_points_28 : decode cX6_points 28 = .ok (.iconst 0, 1) := by decide +kernel
theorem dX6_points_29 : decode cX6_points 29 = .ok (.ireturn, 1) := by decide +kernel
theorem dX6_table_0 : decode cX6_table 0 = .ok (.aload_n 0, 1) := by decide +kernel
theorem dX6_table_1 : decode cX6_table 1 = .ok (.iload_n 1, 1) := by decide +kernel
theorem dX6_table_2 : decode cX6_table 2 = .ok (.iconst 0, 1) := by decide +kernel
theorem dX6_table_3 : decode cX6_table 3 = .ok (.aload_n 0, 1) := by decide +kernel
theorem dX6_table_4 : decode cX6_table 4 = .ok (.getfield 65, 3) := by decide +kernel
theorem dX6_table_7 : decode cX6_table 7 = .ok (.iconst 1, 1) := by decide +kernel
theorem dX6_table_8 : decode cX6_table 8 = .ok (.isub, 1) := by decide +kernel
theorem dX6_table_9 : decode cX6_table 9 = .ok (.invokestatic 68, 3) := by decide +kernel
theorem dX6_table_12 : decode cX6_table 12 = .ok (.ifCond .eq 7, 3) := by decide +kernel
theorem dX6_table_15 : decode cX6_table 15 = .ok (.iconst 0, 1) := by decide +kernel
theorem dX6_table_16 : decode cX6_table 16 = .ok (.goto 4, 3) := by decide +kernel
theorem dX6_table_19 : decode cX6_table 19 = .ok (.iconst 1, 1) := by decide +kernel
theorem dX6_table_20 : decode cX6_table 20 = .ok (.invokevirtual 119, 3) := by decide +kernel
theorem dX6_table_23 : decode cX6_table 23 = .ok (.ifCond .ne 5, 3) := by decide +kernel
theorem dX6_table_26 : decode cX6_table 26 = .ok (.iconst 0, 1) := by decide +kernel
theorem dX6_table_27 : decode cX6_table 27 = .ok (.ireturn, 1) := by decide +kernel
theorem dX6_table_28 : decode cX6_table 28 = .ok (.iconst 0, 1) := by decide +kernel
theorem dX6_table_29 : decode cX6_table 29 = .ok (.istore_n 2, 1) := by decide +kernel
theorem dX6_table_30 : decode cX6_table 30 = .ok (.iload_n 2, 1) := by decide +kernel
theorem dX6_table_31 : decode cX6_table 31 = .ok (.aload_n 0, 1) := by decide +kernel
theorem dX6_table_32 : decode cX6_table 32 = .ok (.getfield 65, 3) := by decide +kernel
theorem dX6_table_35 : decode cX6_table 35 = .ok (.if_icmp .ge 20, 3) := by decide +kernel
theorem dX6_table_38 : decode cX6_table 38 = .ok (.aload_n 0, 1) := by decide +kernel
theorem dX6_table_39 : decode cX6_table 39 = .ok (.getfield 59, 3) := by decide +kernel
theorem dX6_table_42 : decode cX6_table 42 = .ok (.iload_n 2, 1) := by decide +kernel
theorem dX6_table_43 : decode cX6_table 43 = .ok (.aload_n 0, 1) := by decide +kernel
theorem dX6_table_44 : decode cX6_table 44 = .ok (.iload_n 2, 1) := by decide +kernel
theorem dX6_table_45 : decode cX6_table 45 = .ok (.invokevirtual 159, 3) := by decide +kernel
theorem dX6_table_48 : decode cX6_table 48 = .ok (.iastore, 1) := by decide +kernel
theorem dX6_table_49 : decode cX6_table 49 = .ok (.iinc 2 1, 3) := by decide +kernel
theorem dX6_table_52 : decode cX6_table 52 = .ok (.goto (-22), 3) := by decide +kernel
theorem dX6_table_55 : decode cX6_table 55 = .ok (.iconst 0, 1) := by decide +kernel
theorem dX6_table_56 : decode cX6_table 56 = .ok (.istore_n 2, 1) := by decide +kernel
theorem dX6_table_57 : decode cX6_table 57 = .ok (.iload_n 2, 1) := by decide +kernel
theorem dX6_table_58 : decode cX6_table 58 = .ok (.aload_n 0, 1) := by decide +kernel
theorem dX6_table_59 : decode cX6_table 59 = .ok (.getfield 65, 3) := by decide +kernel
theorem dX6_table_62 : decode cX6_table 62 = .ok (.if_icmp .ge 76, 3) := by decide +kernel
theorem dX6_table_65 : decode cX6_table 65 = .ok (.iconst 0, 1) := by decide +kernel
theorem dX6_table_66 : decode cX6_table 66 = .ok (.istore_n 3, 1) := by decide +kernel
theorem dX6_table_67 : decode cX6_table 67 = .ok (.iconst 0, 1) := by decide +kernel
theorem dX6_table_68 : decode cX6_table 68 = .ok (.istore 4, 2) := by decide +kernel
theorem dX6_table_70 : decode cX6_table 70 = .ok (.iload 4, 2) := by decide +kernel
theorem dX6_table_72 : decode cX6_table 72 = .ok (.aload_n 0, 1) := by decide +kernel
theorem dX6_table_73 : decode cX6_table 73 = .ok (.getfield 65, 3) := by decide +kernel
theorem dX6_table_76 : decode cX6_table 76 = .ok (.if_icmp .ge 49, 3) := by decide +kernel
theorem dX6_table_79 : decode cX6_table 79 = .ok (.aload_n 0, 1) := by decide +kernel
theorem dX6_table_80 : decode cX6_table 80 = .ok (.getfield 59, 3) := by decide +kernel
theorem dX6_table_83 : decode cX6_table 83 = .ok (.iload 4, 2) := by decide +kernel
theorem dX6_table_85 : decode cX6_table 85 = .ok (.iaload, 1) := by decide +kernel
theorem dX6_table_86 : decode cX6_table 86 = .ok (.aload_n 0, 1) := by decide +kernel
theorem dX6_table_87 : decode cX6_table 87 = .ok (.getfield 59, 3) := by decide +kernel
theorem dX6_table_90 : decode cX6_table 90 = .ok (.iload_n 2, 1) := by decide +kernel
theorem dX6_table_91 : decode cX6_table 91 = .ok (.iaload, 1) := by decide +kernel
theorem dX6_table_92 : decode cX6_table 92 = .ok (.isub, 1) := by decide +kernel
theorem dX6_table_93 : decode cX6_table 93 = .ok (.istore 5, 2) := by decide +kernel
theorem dX6_table_95 : decode cX6_table 95 = .ok (.iload_n 3, 1) := by decide +kernel
theorem dX6_table_96 : decode cX6_table 96 = .ok (.iload 5, 2) := by decide +kernel
theorem dX6_table_98 : decode cX6_table 98 = .ok (.ifCond .lt 14, 3) := by decide +kernel
theorem dX6_table_101 : decode cX6_table 101 = .ok (.iload 5, 2) := by decide +kernel
theorem dX6_table_103 : decode cX6_table 103 = .ok (.ifCond .ne 13, 3) := by decide +kernel
theorem dX6_table_106 : decode cX6_table 106 = .ok (.iload 4, 2) := by decide +kernel
theorem dX6_table_108 : decode cX6_table 108 = .ok (.iload_n 2, 1) := by decide +kernel
theorem dX6_table_109 : decode cX6_table 109 = .ok (.if_icmp .ge 7, 3) := by decide +kernel
theorem dX6_table_112 : decode cX6_table 112 = .ok (.iconst 1, 1) := by decide +kernel
theorem dX6_table_113 : decode cX6_table 113 = .ok (.goto 4, 3) := by decide +kernel
theorem dX6_table_116 : decode cX6_table 116 = .ok (.iconst 0, 1) := by decide +kernel
theorem dX6_table_117 : decode cX6_table 117 = .ok (.iadd, 1) := by decide +kernel
theorem dX6_table_118 : decode cX6_table 118 = .ok (.istore_n 3, 1) := by decide +kernel
theorem dX6_table_119 : decode cX6_table 119 = .ok (.iinc 4 1, 3) := by decide +kernel
theorem dX6_table_122 : decode cX6_table 122 = .ok (.goto (-52), 3) := by decide +kernel
theorem dX6_table_125 : decode cX6_table 125 = .ok (.iload_n 3, 1) := by decide +kernel
theorem dX6_table_126 : decode cX6_table 126 = .ok (.iload_n 1, 1) := by decide +kernel
theorem dX6_table_127 : decode cX6_table 127 = .ok (.if_icmp .ne 5, 3) := by decide +kernel
theorem dX6_table_130 : decode cX6_table 130 = .ok (.iload_n 2, 1) := by decide +kernel
theorem dX6_table_131 : decode cX6_table 131 = .ok (.ireturn, 1) := by decide +kernel
theorem dX6_table_132 : decode cX6_table 132 = .ok (.iinc 2 1, 3) := by decide +kernel
theorem dX6_table_135 : decode cX6_table 135 = .ok (.goto (-78), 3) := by decide +kernel
theorem dX6_table_138 : decode cX6_table 138 = .ok (.iconst 0, 1) := by decide +kernel
theorem dX6_table_139 : decode cX6_table 139 = .ok (.ireturn, 1) := by decide +kernel
theorem dX6_isPart_0 : decode cX6_isPart 0 = .ok (.iload_n 1, 1) := by decide +kernel
theorem dX6_isPart_1 : decode cX6_isPart 1 = .ok (.iconst 0, 1) := by decide +kernel
theorem dX6_isPart_2 : decode cX6_isPart 2 = .ok (.aload_n 0, 1) := by decide +kernel
theorem dX6_isPart_3 : decode cX6_isPart 3 = .ok (.getfield 134, 3) := by decide +kernel
theorem dX6_isPart_6 : decode cX6_isPart 6 = .ok (.iconst 1, 1) := by decide +kernel
theorem dX6_isPart_7 : decode cX6_isPart 7 = .ok (.isub, 1) := by decide +kernel
theorem dX6_isPart_8 : decode cX6_isPart 8 = .ok (.invokestatic 68, 3) := by decide +kernel
theorem dX6_isPart_11 : decode cX6_isPart 11 = .ok (.ireturn, 1) := by decide +kernel
theorem dX6_where_0 : decode cX6_where 0 = .ok (.aload_n 0, 1) := by decide +kernel
theorem dX6_where_1 : decode cX6_where 1 = .ok (.aload_n 0, 1) := by decide +kernel
theorem dX6_where_2 : decode cX6_where 2 = .ok (.iload_n 1, 1) := by decide +kernel
theorem dX6_where_3 : decode cX6_where 3 = .ok (.invokevirtual 162, 3) := by decide +kernel
theorem dX6_where_6 : decode cX6_where 6 = .ok (.ifCond .eq 7, 3) := by decide +kernel
theorem dX6_where_9 : decode cX6_where 9 = .ok (.iconst 0, 1) := by decide +kernel
theorem dX6_where_10 : decode cX6_where 10 = .ok (.goto 4, 3) := by decide +kernel
theorem dX6_where_13 : decode cX6_where 13 = .ok (.iconst 1, 1) := by decide +kernel
theorem dX6_where_14 : decode cX6_where 14 = .ok (.invokevirtual 119, 3) := by decide +kernel
theorem dX6_where_17 : decode cX6_where 17 = .ok (.ifCond .eq 12, 3) := by decide +kernel
theorem dX6_where_20 : decode cX6_where 20 = .ok (.aload_n 0, 1) := by decide +kernel
theorem dX6_where_21 : decode cX6_where 21 = .ok (.getfield 53, 3) := by decide +kernel
theorem dX6_where_24 : decode cX6_where 24 = .ok (.iload_n 1, 1) := by decide +kernel
theorem dX6_where_25 : decode cX6_where 25 = .ok (.iaload, 1) := by decide +kernel
theorem dX6_where_26 : decode cX6_where 26 = .ok (.goto 4, 3) := by decide +kernel
theorem dX6_where_29 : decode cX6_where 29 = .ok (.iconst 0, 1) := by decide +kernel
theorem dX6_where_30 : decode cX6_where 30 = .ok (.ireturn, 1) := by decide +kernel
theorem dX6_lent_0 : decode cX6_lent 0 = .ok (.aload_n 0, 1) := by decide +kernel
theorem dX6_lent_1 : decode cX6_lent 1 = .ok (.aload_n 0, 1) := by decide +kernel
theorem dX6_lent_2 : decode cX6_lent 2 = .ok (.iload_n 1, 1) := by decide +kernel
theorem dX6_lent_3 : decode cX6_lent 3 = .ok (.invokevirtual 127, 3) := by decide +kernel
theorem dX6_lent_6 : decode cX6_lent 6 = .ok (.ifCond .eq 7, 3) := by decide +kernel
theorem dX6_lent_9 : decode cX6_lent 9 = .ok (.iconst 0, 1) := by decide +kernel
theorem dX6_lent_10 : decode cX6_lent 10 = .ok (.goto 4, 3) := by decide +kernel
theorem dX6_lent_13 : decode cX6_lent 13 = .ok (.iconst 1, 1) := by decide +kernel
theorem dX6_lent_14 : decode cX6_lent 14 = .ok (.invokevirtual 119, 3) := by decide +kernel
theorem dX6_lent_17 : decode cX6_lent 17 = .ok (.ifCond .ne 5, 3) := by decide +kernel
theorem dX6_lent_20 : decode cX6_lent 20 = .ok (.iconst 0, 1) := by decide +kernel
theorem dX6_lent_21 : decode cX6_lent 21 = .ok (.ireturn, 1) := by decide +kernel
theorem dX6_lent_22 : decode cX6_lent 22 = .ok (.iconst 0, 1) := by decide +kernel
theorem dX6_lent_23 : decode cX6_lent 23 = .ok (.istore_n 2, 1) := by decide +kernel
theorem dX6_lent_24 : decode cX6_lent 24 = .ok (.iconst 0, 1) := by decide +kernel
theorem dX6_lent_25 : decode cX6_lent 25 = .ok (.istore_n 3, 1) := by decide +kernel
theorem dX6_lent_26 : decode cX6_lent 26 = .ok (.iload_n 3, 1) := by decide +kernel
theorem dX6_lent_27 : decode cX6_lent 27 = .ok (.aload_n 0, 1) := by decide +kernel
theorem dX6_lent_28 : decode cX6_lent 28 = .ok (.getfield 134, 3) := by decide +kernel
theorem dX6_lent_31 : decode cX6_lent 31 = .ok (.if_icmp .ge 78, 3) := by decide +kernel
theorem dX6_lent_34 : decode cX6_lent 34 = .ok (.aload_n 0, 1) := by decide +kernel
theorem dX6_lent_35 : decode cX6_lent 35 = .ok (.getfield 53, 3) := by decide +kernel
theorem dX6_lent_38 : decode cX6_lent 38 = .ok (.iload_n 3, 1) := by decide +kernel
theorem dX6_lent_39 : decode cX6_lent 39 = .ok (.iaload, 1) := by decide +kernel
theorem dX6_lent_40 : decode cX6_lent 40 = .ok (.bipush (-2), 2) := by decide +kernel
theorem dX6_lent_42 : decode cX6_lent 42 = .ok (.if_icmp .ne 21, 3) := by decide +kernel
theorem dX6_lent_45 : decode cX6_lent 45 = .ok (.aload_n 0, 1) := by decide +kernel
theorem dX6_lent_46 : decode cX6_lent 46 = .ok (.getfield 56, 3) := by decide +kernel
theorem dX6_lent_49 : decode cX6_lent 49 = .ok (.iload_n 3, 1) := by decide +kernel
theorem dX6_lent_50 : decode cX6_lent 50 = .ok (.iaload, 1) := by decide +kernel
theorem dX6_lent_51 : decode cX6_lent 51 = .ok (.iload_n 1, 1) := by decide +kernel
theorem dX6_lent_52 : decode cX6_lent 52 = .ok (.if_icmp .eq 7, 3) := by decide +kernel
theorem dX6_lent_55 : decode cX6_lent 55 = .ok (.iconst 1, 1) := by decide +kernel
theorem dX6_lent_56 : decode cX6_lent 56 = .ok (.goto 22, 3) := by decide +kernel
theorem dX6_lent_59 : decode cX6_lent 59 = .ok (.iconst 0, 1) := by decide +kernel
theorem dX6_lent_60 : decode cX6_lent 60 = .ok (.goto 18, 3) := by decide +kernel
theorem dX6_lent_63 : decode cX6_lent 63 = .ok (.aload_n 0, 1) := by decide +kernel
theorem dX6_lent_64 : decode cX6_lent 64 = .ok (.getfield 53, 3) := by decide +kernel
theorem dX6_lent_67 : decode cX6_lent 67 = .ok (.iload_n 3, 1) := by decide +kernel
theorem dX6_lent_68 : decode cX6_lent 68 = .ok (.iaload, 1) := by decide +kernel
theorem dX6_lent_69 : decode cX6_lent 69 = .ok (.iload_n 1, 1) := by decide +kernel
theorem dX6_lent_70 : decode cX6_lent 70 = .ok (.if_icmp .eq 7, 3) := by decide +kernel
theorem dX6_lent_73 : decode cX6_lent 73 = .ok (.iconst 1, 1) := by decide +kernel
theorem dX6_lent_74 : decode cX6_lent 74 = .ok (.goto 4, 3) := by decide +kernel
theorem dX6_lent_77 : decode cX6_lent 77 = .ok (.iconst 0, 1) := by decide +kernel
theorem dX6_lent_78 : decode cX6_lent 78 = .ok (.istore 4, 2) := by decide +kernel
theorem dX6_lent_80 : decode cX6_lent 80 = .ok (.iload_n 2, 1) := by decide +kernel
theorem dX6_lent_81 : decode cX6_lent 81 = .ok (.aload_n 0, 1) := by decide +kernel
theorem dX6_lent_82 : decode cX6_lent 82 = .ok (.getfield 50, 3) := by decide +kernel
theorem dX6_lent_85 : decode cX6_lent 85 = .ok (.iload_n 3, 1) := by decide +kernel
theorem dX6_lent_86 : decode cX6_lent 86 = .ok (.iaload, 1) := by decide +kernel
theorem dX6_lent_87 : decode cX6_lent 87 = .ok (.iload_n 1, 1) := by decide +kernel
theorem dX6_lent_88 : decode cX6_lent 88 = .ok (.if_icmp .ne 12, 3) := by decide +kernel
theorem dX6_lent_91 : decode cX6_lent 91 = .ok (.iload 4, 2) := by decide +kernel
theorem dX6_lent_93 : decode cX6_lent 93 = .ok (.ifCond .eq 7, 3) := by decide +kernel
theorem dX6_lent_96 : decode cX6_lent 96 = .ok (.iconst 1, 1) := by decide +kernel
theorem dX6_lent_97 : decode cX6_lent 97 = .ok (.goto 4, 3) := by decide +kernel
theorem dX6_lent_100 : decode cX6_lent 100 = .ok (.iconst 0, 1) := by decide +kernel
theorem dX6_lent_101 : decode cX6_lent 101 = .ok (.iadd, 1) := by decide +kernel
theorem dX6_lent_102 : decode cX6_lent 102 = .ok (.istore_n 2, 1) := by decide +kernel
theorem dX6_lent_103 : decode cX6_lent 103 = .ok (.iinc 3 1, 3) := by decide +kernel
theorem dX6_lent_106 : decode cX6_lent 106 = .ok (.goto (-80), 3) := by decide +kernel
theorem dX6_lent_109 : decode cX6_lent 109 = .ok (.iload_n 2, 1) := by decide +kernel
theorem dX6_lent_110 : decode cX6_lent 110 = .ok (.ireturn, 1) := by decide +kernel
theorem dX6_isBroken_0 : decode cX6_isBroken 0 = .ok (.aload_n 0, 1) := by decide +kernel
theorem dX6_isBroken_1 : decode cX6_isBroken 1 = .ok (.aload_n 0, 1) := by decide +kernel
theorem dX6_isBroken_2 : decode cX6_isBroken 2 = .ok (.iload_n 1, 1) := by decide +kernel
theorem dX6_isBroken_3 : decode cX6_isBroken 3 = .ok (.invokevirtual 127, 3) := by decide +kernel
theorem dX6_isBroken_6 : decode cX6_isBroken 6 = .ok (.ifCond .eq 7, 3) := by decide +kernel
theorem dX6_isBroken_9 : decode cX6_isBroken 9 = .ok (.iconst 0, 1) := by decide +kernel
theorem dX6_isBroken_10 : decode cX6_isBroken 10 = .ok (.goto 4, 3) := by decide +kernel
theorem dX6_isBroken_13 : decode cX6_isBroken 13 = .ok (.iconst 1, 1) := by decide +kernel
theorem dX6_isBroken_14 : decode cX6_isBroken 14 = .ok (.invokevirtual 119, 3) := by decide +kernel
theorem dX6_isBroken_17 : decode cX6_isBroken 17 = .ok (.ifCond .eq 17, 3) := by decide +kernel
theorem dX6_isBroken_20 : decode cX6_isBroken 20 = .ok (.aload_n 0, 1) := by decide +kernel
theorem dX6_isBroken_21 : decode cX6_isBroken 21 = .ok (.getfield 38, 3) := by decide +kernel
theorem dX6_isBroken_24 : decode cX6_isBroken 24 = .ok (.iload_n 1, 1) := by decide +kernel
theorem dX6_isBroken_25 : decode cX6_isBroken 25 = .ok (.iaload, 1) := by decide +kernel
theorem dX6_isBroken_26 : decode cX6_isBroken 26 = .ok (.iconst (-1), 1) := by decide +kernel
theorem dX6_isBroken_27 : decode cX6_isBroken 27 = .ok (.if_icmp .eq 7, 3) := by decide +kernel
theorem dX6_isBroken_30 : decode cX6_isBroken 30 = .ok (.iconst 1, 1) := by decide +kernel
theorem dX6_isBroken_31 : decode cX6_isBroken 31 = .ok (.goto 4, 3) := by decide +kernel
theorem dX6_isBroken_34 : decode cX6_isBroken 34 = .ok (.iconst 0, 1) := by decide +kernel
theorem dX6_isBroken_35 : decode cX6_isBroken 35 = .ok (.ireturn, 1) := by decide +kernel
