theorem d_M_init_0 : decode b_M_init 0 = .ok (.aload_n 0, 1) := by decide +kernel
theorem d_M_init_1 : decode b_M_init 1 = .ok (.invokespecial 1, 3) := by decide +kernel
theorem d_M_init_4 : decode b_M_init 4 = .ok (.aload_n 0, 1) := by decide +kernel
theorem d_M_init_5 : decode b_M_init 5 = .ok (.sipush 600, 3) := by decide +kernel
theorem d_M_init_8 : decode b_M_init 8 = .ok (.putfield 7, 3) := by decide +kernel
theorem d_M_init_11 : decode b_M_init 11 = .ok (.aload_n 0, 1) := by decide +kernel
theorem d_M_init_12 : decode b_M_init 12 = .ok (.bipush 24, 2) := by decide +kernel
theorem d_M_init_14 : decode b_M_init 14 = .ok (.newarray .int, 2) := by decide +kernel
theorem d_M_init_16 : decode b_M_init 16 = .ok (.putfield 13, 3) := by decide +kernel
theorem d_M_init_19 : decode b_M_init 19 = .ok (.aload_n 0, 1) := by decide +kernel
theorem d_M_init_20 : decode b_M_init 20 = .ok (.bipush 24, 2) := by decide +kernel
theorem d_M_init_22 : decode b_M_init 22 = .ok (.newarray .int, 2) := by decide +kernel
theorem d_M_init_24 : decode b_M_init 24 = .ok (.putfield 17, 3) := by decide +kernel
theorem d_M_init_27 : decode b_M_init 27 = .ok (.aload_n 0, 1) := by decide +kernel
theorem d_M_init_28 : decode b_M_init 28 = .ok (.bipush 24, 2) := by decide +kernel
theorem d_M_init_30 : decode b_M_init 30 = .ok (.newarray .int, 2) := by decide +kernel
theorem d_M_init_32 : decode b_M_init 32 = .ok (.putfield 20, 3) := by decide +kernel
theorem d_M_init_35 : decode b_M_init 35 = .ok (.aload_n 0, 1) := by decide +kernel
theorem d_M_init_36 : decode b_M_init 36 = .ok (.bipush 24, 2) := by decide +kernel
theorem d_M_init_38 : decode b_M_init 38 = .ok (.newarray .int, 2) := by decide +kernel
theorem d_M_init_40 : decode b_M_init 40 = .ok (.putfield 23, 3) := by decide +kernel
theorem d_M_init_43 : decode b_M_init 43 = .ok (.aload_n 0, 1) := by decide +kernel
theorem d_M_init_44 : decode b_M_init 44 = .ok (.bipush 24, 2) := by decide +kernel
theorem d_M_init_46 : decode b_M_init 46 = .ok (.newarray .int, 2) := by decide +kernel
theorem d_M_init_48 : decode b_M_init 48 = .ok (.putfield 26, 3) := by decide +kernel
theorem d_M_init_51 : decode b_M_init 51 = .ok (.aload_n 0, 1) := by decide +kernel
theorem d_M_init_52 : decode b_M_init 52 = .ok (.bipush 24, 2) := by decide +kernel
theorem d_M_init_54 : decode b_M_init 54 = .ok (.newarray .int, 2) := by decide +kernel
theorem d_M_init_56 : decode b_M_init 56 = .ok (.putfield 29, 3) := by decide +kernel
theorem d_M_init_59 : decode b_M_init 59 = .ok (.aload_n 0, 1) := by decide +kernel
theorem d_M_init_60 : decode b_M_init 60 = .ok (.bipush 24, 2) := by decide +kernel
theorem d_M_init_62 : decode b_M_init 62 = .ok (.newarray .int, 2) := by decide +kernel
theorem d_M_init_64 : decode b_M_init 64 = .ok (.putfield 32, 3) := by decide +kernel
theorem d_M_init_67 : decode b_M_init 67 = .ok (.aload_n 0, 1) := by decide +kernel
theorem d_M_init_68 : decode b_M_init 68 = .ok (.bipush 24, 2) := by decide +kernel
theorem d_M_init_70 : decode b_M_init 70 = .ok (.newarray .int, 2) := by decide +kernel
theorem d_M_init_72 : decode b_M_init 72 = .ok (.putfield 35, 3) := by decide +kernel
theorem d_M_init_75 : decode b_M_init 75 = .ok (.aload_n 0, 1) := by decide +kernel
theorem d_M_init_76 : decode b_M_init 76 = .ok (.bipush 24, 2) := by decide +kernel
theorem d_M_init_78 : decode b_M_init 78 = .ok (.newarray .int, 2) := by decide +kernel
theorem d_M_init_80 : decode b_M_init 80 = .ok (.putfield 38, 3) := by decide +kernel
theorem d_M_init_83 : decode b_M_init 83 = .ok (.aload_n 0, 1) := by decide +kernel
theorem d_M_init_84 : decode b_M_init 84 = .ok (.sipush 144, 3) := by decide +kernel
theorem d_M_init_87 : decode b_M_init 87 = .ok (.newarray .int, 2) := by decide +kernel
theorem d_M_init_89 : decode b_M_init 89 = .ok (.putfield 41, 3) := by decide +kernel
theorem d_M_init_92 : decode b_M_init 92 = .ok (.aload_n 0, 1) := by decide +kernel
theorem d_M_init_93 : decode b_M_init 93 = .ok (.bipush 6, 2) := by decide +kernel
theorem d_M_init_95 : decode b_M_init 95 = .ok (.newarray .int, 2) := by decide +kernel
theorem d_M_init_97 : decode b_M_init 97 = .ok (.putfield 44, 3) := by decide +kernel
theorem d_M_init_100 : decode b_M_init 100 = .ok (.aload_n 0, 1) := by decide +kernel
theorem d_M_init_101 : decode b_M_init 101 = .ok (.bipush 20, 2) := by decide +kernel
theorem d_M_init_103 : decode b_M_init 103 = .ok (.newarray .int, 2) := by decide +kernel
theorem d_M_init_105 : decode b_M_init 105 = .ok (.putfield 47, 3) := by decide +kernel
theorem d_M_init_108 : decode b_M_init 108 = .ok (.aload_n 0, 1) := by decide +kernel
theorem d_M_init_109 : decode b_M_init 109 = .ok (.bipush 20, 2) := by decide +kernel
theorem d_M_init_111 : decode b_M_init 111 = .ok (.newarray .boolean, 2) := by decide +kernel
theorem d_M_init_113 : decode b_M_init 113 = .ok (.putfield 50, 3) := by decide +kernel
theorem d_M_init_116 : decode b_M_init 116 = .ok (.aload_n 0, 1) := by decide +kernel
theorem d_M_init_117 : decode b_M_init 117 = .ok (.bipush 20, 2) := by decide +kernel
theorem d_M_init_119 : decode b_M_init 119 = .ok (.newarray .boolean, 2) := by decide +kernel
theorem d_M_init_121 : decode b_M_init 121 = .ok (.putfield 54, 3) := by decide +kernel
theorem d_M_init_124 : decode b_M_init 124 = .ok (.aload_n 0, 1) := by decide +kernel
theorem d_M_init_125 : decode b_M_init 125 = .ok (.bipush 20, 2) := by decide +kernel
theorem d_M_init_127 : decode b_M_init 127 = .ok (.newarray .int, 2) := by decide +kernel
theorem d_M_init_129 : decode b_M_init 129 = .ok (.putfield 57, 3) := by decide +kernel
theorem d_M_init_132 : decode b_M_init 132 = .ok (.aload_n 0, 1) := by decide +kernel
theorem d_M_init_133 : decode b_M_init 133 = .ok (.bipush 20, 2) := by decide +kernel
theorem d_M_init_135 : decode b_M_init 135 = .ok (.newarray .int, 2) := by decide +kernel
theorem d_M_init_137 : decode b_M_init 137 = .ok (.putfield 60, 3) := by decide +kernel
theorem d_M_init_140 : decode b_M_init 140 = .ok (.aload_n 0, 1) := by decide +kernel
theorem d_M_init_141 : decode b_M_init 141 = .ok (.bipush 20, 2) := by decide +kernel
theorem d_M_init_143 : decode b_M_init 143 = .ok (.newarray .int, 2) := by decide +kernel
theorem d_M_init_145 : decode b_M_init 145 = .ok (.putfield 63, 3) := by decide +kernel
theorem d_M_init_148 : decode b_M_init 148 = .ok (.aload_n 0, 1) := by decide +kernel
theorem d_M_init_149 : decode b_M_init 149 = .ok (.bipush 20, 2) := by decide +kernel
theorem d_M_init_151 : decode b_M_init 151 = .ok (.newarray .int, 2) := by decide +kernel
theorem d_M_init_153 : decode b_M_init 153 = .ok (.putfield 66, 3) := by decide +kernel
theorem d_M_init_156 : decode b_M_init 156 = .ok (.aload_n 0, 1) := by decide +kernel
theorem d_M_init_157 : decode b_M_init 157 = .ok (.bipush 20, 2) := by decide +kernel
theorem d_M_init_159 : decode b_M_init 159 = .ok (.newarray .int, 2) := by decide +kernel
theorem d_M_init_161 : decode b_M_init 161 = .ok (.putfield 69, 3) := by decide +kernel
theorem d_M_init_164 : decode b_M_init 164 = .ok (.aload_n 0, 1) := by decide +kernel
theorem d_M_init_165 : decode b_M_init 165 = .ok (.bipush 20, 2) := by decide +kernel
theorem d_M_init_167 : decode b_M_init 167 = .ok (.newarray .int, 2) := by decide +kernel
theorem d_M_init_169 : decode b_M_init 169 = .ok (.putfield 72, 3) := by decide +kernel
theorem d_M_init_172 : decode b_M_init 172 = .ok (.aload_n 0, 1) := by decide +kernel
theorem d_M_init_173 : decode b_M_init 173 = .ok (.bipush 30, 2) := by decide +kernel
theorem d_M_init_175 : decode b_M_init 175 = .ok (.newarray .int, 2) := by decide +kernel
theorem d_M_init_177 : decode b_M_init 177 = .ok (.putfield 75, 3) := by decide +kernel
theorem d_M_init_180 : decode b_M_init 180 = .ok (.return_, 1) := by decide +kernel
theorem d_M_thrown_0 : decode b_M_thrown 0 = .ok (.aload_n 0, 1) := by decide +kernel
theorem d_M_thrown_1 : decode b_M_thrown 1 = .ok (.getfield 78, 3) := by decide +kernel
theorem d_M_thrown_4 : decode b_M_thrown 4 = .ok (.ireturn, 1) := by decide +kernel
theorem d_M_throwing_0 : decode b_M_throwing 0 = .ok (.aload_n 0, 1) := by decide +kernel
theorem d_M_throwing_1 : decode b_M_throwing 1 = .ok (.iload_n 1, 1) := by decide +kernel
theorem d_M_throwing_2 : decode b_M_throwing 2 = .ok (.ifCond .eq 7, 3) := by decide +kernel
theorem d_M_throwing_5 : decode b_M_throwing 5 = .ok (.iconst 1, 1) := by decide +kernel
theorem d_M_throwing_6 : decode b_M_throwing 6 = .ok (.goto 29, 3) := by decide +kernel
theorem d_M_throwing_9 : decode b_M_throwing 9 = .ok (.iload_n 2, 1) := by decide +kernel
theorem d_M_throwing_10 : decode b_M_throwing 10 = .ok (.ifCond .eq 7, 3) := by decide +kernel
theorem d_M_throwing_13 : decode b_M_throwing 13 = .ok (.iconst 2, 1) := by decide +kernel
theorem d_M_throwing_14 : decode b_M_throwing 14 = .ok (.goto 21, 3) := by decide +kernel
theorem d_M_throwing_17 : decode b_M_throwing 17 = .ok (.iload_n 3, 1) := by decide +kernel
theorem d_M_throwing_18 : decode b_M_throwing 18 = .ok (.ifCond .eq 7, 3) := by decide +kernel
theorem d_M_throwing_21 : decode b_M_throwing 21 = .ok (.iconst 3, 1) := by decide +kernel
theorem d_M_throwing_22 : decode b_M_throwing 22 = .ok (.goto 13, 3) := by decide +kernel
theorem d_M_throwing_25 : decode b_M_throwing 25 = .ok (.iload 4, 2) := by decide +kernel
theorem d_M_throwing_27 : decode b_M_throwing 27 = .ok (.ifCond .eq 7, 3) := by decide +kernel
theorem d_M_throwing_30 : decode b_M_throwing 30 = .ok (.iconst 4, 1) := by decide +kernel
theorem d_M_throwing_31 : decode b_M_throwing 31 = .ok (.goto 4, 3) := by decide +kernel
theorem d_M_throwing_34 : decode b_M_throwing 34 = .ok (.iconst 0, 1) := by decide +kernel
theorem d_M_throwing_35 : decode b_M_throwing 35 = .ok (.putfield 78, 3) := by decide +kernel
theorem d_M_throwing_38 : decode b_M_throwing 38 = .ok (.aload_n 0, 1) := by decide +kernel
theorem d_M_throwing_39 : decode b_M_throwing 39 = .ok (.getfield 78, 3) := by decide +kernel
theorem d_M_throwing_42 : decode b_M_throwing 42 = .ok (.ifCond .le 7, 3) := by decide +kernel
theorem d_M_throwing_45 : decode b_M_throwing 45 = .ok (.iconst 1, 1) := by decide +kernel
theorem d_M_throwing_46 : decode b_M_throwing 46 = .ok (.goto 4, 3) := by decide +kernel
theorem d_M_throwing_49 : decode b_M_throwing 49 = .ok (.iconst 0, 1) := by decide +kernel
theorem d_M_throwing_50 : decode b_M_throwing 50 = .ok (.ireturn, 1) := by decide +kernel
theorem d_M_in_0 : decode b_M_in 0 = .ok (.iload_n 0, 1) := by decide +kernel
theorem d_M_in_1 : decode b_M_in 1 = .ok (.iload_n 1, 1) := by decide +kernel
theorem d_M_in_2 : decode b_M_in 2 = .ok (.if_icmp .lt 12, 3) := by decide +kernel
theorem d_M_in_5 : decode b_M_in 5 = .ok (.iload_n 0, 1) := by decide +kernel
theorem d_M_in_6 : decode b_M_in 6 = .ok (.iload_n 2, 1) := by decide +kernel
theorem d_M_in_7 : decode b_M_in 7 = .ok (.if_icmp .gt 7, 3) := by decide +kernel
theorem d_M_in_10 : decode b_M_in 10 = .ok (.iconst 1, 1) := by decide +kernel
theorem d_M_in_11 : decode b_M_in 11 = .ok (.goto 4, 3) := by decide +kernel
theorem d_M_in_14 : decode b_M_in 14 = .ok (.iconst 0, 1) := by decide +kernel
theorem d_M_in_15 : decode b_M_in 15 = .ok (.ireturn, 1) := by decide +kernel
theorem d_M_isUnit_0 : decode b_M_isUnit 0 = .ok (.iload_n 1, 1) := by decide +kernel
theorem d_M_isUnit_1 : decode b_M_isUnit 1 = .ok (.iconst 0, 1) := by decide +kernel
theorem d_M_isUnit_2 : decode b_M_isUnit 2 = .ok (.aload_n 0, 1) := by decide +kernel
theorem d_M_isUnit_3 : decode b_M_isUnit 3 = .ok (.getfield 81, 3) := by decide +kernel
theorem d_M_isUnit_6 : decode b_M_isUnit 6 = .ok (.iconst 1, 1) := by decide +kernel
theorem d_M_isUnit_7 : decode b_M_isUnit 7 = .ok (.isub, 1) := by decide +kernel
theorem d_M_isUnit_8 : decode b_M_isUnit 8 = .ok (.invokestatic 84, 3) := by decide +kernel
theorem d_M_isUnit_11 : decode b_M_isUnit 11 = .ok (.ireturn, 1) := by decide +kernel
theorem d_M_isIncident_0 : decode b_M_isIncident 0 = .ok (.iload_n 1, 1) := by decide +kernel
theorem d_M_isIncident_1 : decode b_M_isIncident 1 = .ok (.iconst 0, 1) := by decide +kernel
theorem d_M_isIncident_2 : decode b_M_isIncident 2 = .ok (.aload_n 0, 1) := by decide +kernel
theorem d_M_isIncident_3 : decode b_M_isIncident 3 = .ok (.getfield 88, 3) := by decide +kernel
theorem d_M_isIncident_6 : decode b_M_isIncident 6 = .ok (.iconst 1, 1) := by decide +kernel
theorem d_M_isIncident_7 : decode b_M_isIncident 7 = .ok (.isub, 1) := by decide +kernel
theorem d_M_isIncident_8 : decode b_M_isIncident 8 = .ok (.invokestatic 84, 3) := by decide +kernel
theorem d_M_isIncident_11 : decode b_M_isIncident 11 = .ok (.ireturn, 1) := by decide +kernel
theorem d_M_isShut_0 : decode b_M_isShut 0 = .ok (.aload_n 0, 1) := by decide +kernel
theorem d_M_isShut_1 : decode b_M_isShut 1 = .ok (.iload_n 1, 1) := by decide +kernel
theorem d_M_isShut_2 : decode b_M_isShut 2 = .ok (.invokevirtual 91, 3) := by decide +kernel
theorem d_M_isShut_5 : decode b_M_isShut 5 = .ok (.ifCond .eq 16, 3) := by decide +kernel
theorem d_M_isShut_8 : decode b_M_isShut 8 = .ok (.aload_n 0, 1) := by decide +kernel
theorem d_M_isShut_9 : decode b_M_isShut 9 = .ok (.getfield 50, 3) := by decide +kernel
theorem d_M_isShut_12 : decode b_M_isShut 12 = .ok (.iload_n 1, 1) := by decide +kernel
theorem d_M_isShut_13 : decode b_M_isShut 13 = .ok (.baload, 1) := by decide +kernel
theorem d_M_isShut_14 : decode b_M_isShut 14 = .ok (.ifCond .ne 7, 3) := by decide +kernel
theorem d_M_isShut_17 : decode b_M_isShut 17 = .ok (.iconst 1, 1) := by decide +kernel
theorem d_M_isShut_18 : decode b_M_isShut 18 = .ok (.goto 4, 3) := by decide +kernel
theorem d_M_isShut_21 : decode b_M_isShut 21 = .ok (.iconst 0, 1) := by decide +kernel
theorem d_M_isShut_22 : decode b_M_isShut 22 = .ok (.ireturn, 1) := by decide +kernel
theorem d_M_isGood_0 : decode b_M_isGood 0 = .ok (.iload_n 0, 1) := by decide +kernel
theorem d_M_isGood_1 : decode b_M_isGood 1 = .ok (.iconst 0, 1) := by decide +kernel
theorem d_M_isGood_2 : decode b_M_isGood 2 = .ok (.iconst 5, 1) := by decide +kernel
theorem d_M_isGood_3 : decode b_M_isGood 3 = .ok (.invokestatic 84, 3) := by decide +kernel
theorem d_M_isGood_6 : decode b_M_isGood 6 = .ok (.ireturn, 1) := by decide +kernel
theorem d_M_unit_0 : decode b_M_unit 0 = .ok (.iload_n 1, 1) := by decide +kernel
theorem d_M_unit_1 : decode b_M_unit 1 = .ok (.iconst 0, 1) := by decide +kernel
theorem d_M_unit_2 : decode b_M_unit 2 = .ok (.ldc 95, 2) := by decide +kernel
theorem d_M_unit_4 : decode b_M_unit 4 = .ok (.invokestatic 84, 3) := by decide +kernel
theorem d_M_unit_7 : decode b_M_unit 7 = .ok (.ifCond .eq 37, 3) := by decide +kernel
theorem d_M_unit_10 : decode b_M_unit 10 = .ok (.iload_n 2, 1) := by decide +kernel
theorem d_M_unit_11 : decode b_M_unit 11 = .ok (.iconst 0, 1) := by decide +kernel
theorem d_M_unit_12 : decode b_M_unit 12 = .ok (.sipush 10000, 3) := by decide +kernel
theorem d_M_unit_15 : decode b_M_unit 15 = .ok (.invokestatic 84, 3) := by decide +kernel
theorem d_M_unit_18 : decode b_M_unit 18 = .ok (.ifCond .eq 26, 3) := by decide +kernel
theorem d_M_unit_21 : decode b_M_unit 21 = .ok (.iload_n 3, 1) := by decide +kernel
theorem d_M_unit_22 : decode b_M_unit 22 = .ok (.iconst 0, 1) := by decide +kernel
theorem d_M_unit_23 : decode b_M_unit 23 = .ok (.sipush 10000, 3) := by decide +kernel
theorem d_M_unit_26 : decode b_M_unit 26 = .ok (.invokestatic 84, 3) := by decide +kernel
theorem d_M_unit_29 : decode b_M_unit 29 = .ok (.ifCond .eq 15, 3) := by decide +kernel
theorem d_M_unit_32 : decode b_M_unit 32 = .ok (.iload 4, 2) := by decide +kernel
theorem d_M_unit_34 : decode b_M_unit 34 = .ok (.iconst 0, 1) := by decide +kernel
theorem d_M_unit_35 : decode b_M_unit 35 = .ok (.sipush 255, 3) := by decide +kernel
theorem d_M_unit_38 : decode b_M_unit 38 = .ok (.invokestatic 84, 3) := by decide +kernel
theorem d_M_unit_41 : decode b_M_unit 41 = .ok (.ifCond .ne 7, 3) := by decide +kernel
theorem d_M_unit_44 : decode b_M_unit 44 = .ok (.iconst 1, 1) := by decide +kernel
theorem d_M_unit_45 : decode b_M_unit 45 = .ok (.goto 4, 3) := by decide +kernel
theorem d_M_unit_48 : decode b_M_unit 48 = .ok (.iconst 0, 1) := by decide +kernel
theorem d_M_unit_49 : decode b_M_unit 49 = .ok (.istore 5, 2) := by decide +kernel
theorem d_M_unit_51 : decode b_M_unit 51 = .ok (.aload_n 0, 1) := by decide +kernel
theorem d_M_unit_52 : decode b_M_unit 52 = .ok (.iload 5, 2) := by decide +kernel
theorem d_M_unit_54 : decode b_M_unit 54 = .ok (.aload_n 0, 1) := by decide +kernel
theorem d_M_unit_55 : decode b_M_unit 55 = .ok (.getfield 81, 3) := by decide +kernel
theorem d_M_unit_58 : decode b_M_unit 58 = .ok (.bipush 24, 2) := by decide +kernel
theorem d_M_unit_60 : decode b_M_unit 60 = .ok (.if_icmp .ne 7, 3) := by decide +kernel
theorem d_M_unit_63 : decode b_M_unit 63 = .ok (.iconst 1, 1) := by decide +kernel
theorem d_M_unit_64 : decode b_M_unit 64 = .ok (.goto 4, 3) := by decide +kernel
theorem d_M_unit_67 : decode b_M_unit 67 = .ok (.iconst 0, 1) := by decide +kernel
theorem d_M_unit_68 : decode b_M_unit 68 = .ok (.iconst 0, 1) := by decide +kernel
theorem d_M_unit_69 : decode b_M_unit 69 = .ok (.iconst 0, 1) := by decide +kernel
theorem d_M_unit_70 : decode b_M_unit 70 = .ok (.invokevirtual 96, 3) := by decide +kernel
theorem d_M_unit_73 : decode b_M_unit 73 = .ok (.ifCond .eq 5, 3) := by decide +kernel
theorem d_M_unit_76 : decode b_M_unit 76 = .ok (.iconst 0, 1) := by decide +kernel
theorem d_M_unit_77 : decode b_M_unit 77 = .ok (.ireturn, 1) := by decide +kernel
theorem d_M_unit_78 : decode b_M_unit 78 = .ok (.aload_n 0, 1) := by decide +kernel
theorem d_M_unit_79 : decode b_M_unit 79 = .ok (.getfield 13, 3) := by decide +kernel
theorem d_M_unit_82 : decode b_M_unit 82 = .ok (.aload_n 0, 1) := by decide +kernel
theorem d_M_unit_83 : decode b_M_unit 83 = .ok (.getfield 81, 3) := by decide +kernel
theorem d_M_unit_86 : decode b_M_unit 86 = .ok (.iload_n 1, 1) := by decide +kernel
theorem d_M_unit_87 : decode b_M_unit 87 = .ok (.iastore, 1) := by decide +kernel
theorem d_M_unit_88 : decode b_M_unit 88 = .ok (.aload_n 0, 1) := by decide +kernel
theorem d_M_unit_89 : decode b_M_unit 89 = .ok (.getfield 17, 3) := by decide +kernel
theorem d_M_unit_92 : decode b_M_unit 92 = .ok (.aload_n 0, 1) := by decide +kernel
theorem d_M_unit_93 : decode b_M_unit 93 = .ok (.getfield 81, 3) := by decide +kernel
theorem d_M_unit_96 : decode b_M_unit 96 = .ok (.iload_n 2, 1) := by decide +kernel
theorem d_M_unit_97 : decode b_M_unit 97 = .ok (.iastore, 1) := by decide +kernel
theorem d_M_unit_98 : decode b_M_unit 98 = .ok (.aload_n 0, 1) := by decide +kernel
theorem d_M_unit_99 : decode b_M_unit 99 = .ok (.getfield 20, 3) := by decide +kernel
theorem d_M_unit_102 : decode b_M_unit 102 = .ok (.aload_n 0, 1) := by decide +kernel
theorem d_M_unit_103 : decode b_M_unit 103 = .ok (.getfield 81, 3) := by decide +kernel
theorem d_M_unit_106 : decode b_M_unit 106 = .ok (.iload_n 3, 1) := by decide +kernel
theorem d_M_unit_107 : decode b_M_unit 107 = .ok (.iastore, 1) := by decide +kernel
theorem d_M_unit_108 : decode b_M_unit 108 = .ok (.aload_n 0, 1) := by decide +kernel
theorem d_M_unit_109 : decode b_M_unit 109 = .ok (.getfield 23, 3) := by decide +kernel
theorem d_M_unit_112 : decode b_M_unit 112 = .ok (.aload_n 0, 1) := by decide +kernel
theorem d_M_unit_113 : decode b_M_unit 113 = .ok (.getfield 81, 3) := by decide +kernel
theorem d_M_unit_116 : decode b_M_unit 116 = .ok (.iload 4, 2) := by decide +kernel
theorem d_M_unit_118 : decode b_M_unit 118 = .ok (.iastore, 1) := by decide +kernel
theorem d_M_unit_119 : decode b_M_unit 119 = .ok (.aload_n 0, 1) := by decide +kernel
theorem d_M_unit_120 : decode b_M_unit 120 = .ok (.getfield 29, 3) := by decide +kernel
theorem d_M_unit_123 : decode b_M_unit 123 = .ok (.aload_n 0, 1) := by decide +kernel
theorem d_M_unit_124 : decode b_M_unit 124 = .ok (.getfield 81, 3) := by decide +kernel
theorem d_M_unit_127 : decode b_M_unit 127 = .ok (.iconst (-1), 1) := by decide +kernel
theorem d_M_unit_128 : decode b_M_unit 128 = .ok (.iastore, 1) := by decide +kernel
theorem d_M_unit_129 : decode b_M_unit 129 = .ok (.aload_n 0, 1) := by decide +kernel
theorem d_M_unit_130 : decode b_M_unit 130 = .ok (.getfield 32, 3) := by decide +kernel
theorem d_M_unit_133 : decode b_M_unit 133 = .ok (.aload_n 0, 1) := by decide +kernel
theorem d_M_unit_134 : decode b_M_unit 134 = .ok (.getfield 81, 3) := by decide +kernel
theorem d_M_unit_137 : decode b_M_unit 137 = .ok (.aload_n 0, 1) := by decide +kernel
theorem d_M_unit_138 : decode b_M_unit 138 = .ok (.getfield 100, 3) := by decide +kernel
theorem d_M_unit_141 : decode b_M_unit 141 = .ok (.iastore, 1) := by decide +kernel
theorem d_M_unit_142 : decode b_M_unit 142 = .ok (.aload_n 0, 1) := by decide +kernel
theorem d_M_unit_143 : decode b_M_unit 143 = .ok (.dup, 1) := by decide +kernel
theorem d_M_unit_144 : decode b_M_unit 144 = .ok (.getfield 81, 3) := by decide +kernel
theorem d_M_unit_147 : decode b_M_unit 147 = .ok (.iconst 1, 1) := by decide +kernel
theorem d_M_unit_148 : decode b_M_unit 148 = .ok (.iadd, 1) := by decide +kernel
theorem d_M_unit_149 : decode b_M_unit 149 = .ok (.putfield 81, 3) := by decide +kernel
theorem d_M_unit_152 : decode b_M_unit 152 = .ok (.aload_n 0, 1) := by decide +kernel
theorem d_M_unit_153 : decode b_M_unit 153 = .ok (.invokevirtual 103, 3) := by decide +kernel
theorem d_M_unit_156 : decode b_M_unit 156 = .ok (.pop, 1) := by decide +kernel
theorem d_M_unit_157 : decode b_M_unit 157 = .ok (.aload_n 0, 1) := by decide +kernel
theorem d_M_unit_158 : decode b_M_unit 158 = .ok (.getfield 81, 3) := by decide +kernel
theorem d_M_unit_161 : decode b_M_unit 161 = .ok (.iconst 1, 1) := by decide +kernel
theorem d_M_unit_162 : decode b_M_unit 162 = .ok (.isub, 1) := by decide +kernel
theorem d_M_unit_163 : decode b_M_unit 163 = .ok (.ireturn, 1) := by decide +kernel
theorem d_M_home_0 : decode b_M_home 0 = .ok (.aload_n 0, 1) := by decide +kernel
theorem d_M_home_1 : decode b_M_home 1 = .ok (.aload_n 0, 1) := by decide +kernel
theorem d_M_home_2 : decode b_M_home 2 = .ok (.iload_n 1, 1) := by decide +kernel
theorem d_M_home_3 : decode b_M_home 3 = .ok (.invokevirtual 107, 3) := by decide +kernel
theorem d_M_home_6 : decode b_M_home 6 = .ok (.ifCond .ne 7, 3) := by decide +kernel
theorem d_M_home_9 : decode b_M_home 9 = .ok (.iconst 1, 1) := by decide +kernel
theorem d_M_home_10 : decode b_M_home 10 = .ok (.goto 4, 3) := by decide +kernel
theorem d_M_home_13 : decode b_M_home 13 = .ok (.iconst 0, 1) := by decide +kernel
theorem d_M_home_14 : decode b_M_home 14 = .ok (.iload_n 2, 1) := by decide +kernel
theorem d_M_home_15 : decode b_M_home 15 = .ok (.iconst 0, 1) := by decide +kernel
theorem d_M_home_16 : decode b_M_home 16 = .ok (.ldc 95, 2) := by decide +kernel
theorem d_M_home_18 : decode b_M_home 18 = .ok (.invokestatic 84, 3) := by decide +kernel
theorem d_M_home_21 : decode b_M_home 21 = .ok (.ifCond .ne 7, 3) := by decide +kernel
theorem d_M_home_24 : decode b_M_home 24 = .ok (.iconst 1, 1) := by decide +kernel
theorem d_M_home_25 : decode b_M_home 25 = .ok (.goto 4, 3) := by decide +kernel
theorem d_M_home_28 : decode b_M_home 28 = .ok (.iconst 0, 1) := by decide +kernel
theorem d_M_home_29 : decode b_M_home 29 = .ok (.iconst 0, 1) := by decide +kernel
theorem d_M_home_30 : decode b_M_home 30 = .ok (.iconst 0, 1) := by decide +kernel
theorem d_M_home_31 : decode b_M_home 31 = .ok (.invokevirtual 96, 3) := by decide +kernel
theorem d_M_home_34 : decode b_M_home 34 = .ok (.ifCond .eq 4, 3) := by decide +kernel
theorem d_M_home_37 : decode b_M_home 37 = .ok (.return_, 1) := by decide +kernel
theorem d_M_home_38 : decode b_M_home 38 = .ok (.aload_n 0, 1) := by decide +kernel
theorem d_M_home_39 : decode b_M_home 39 = .ok (.getfield 13, 3) := by decide +kernel
theorem d_M_home_42 : decode b_M_home 42 = .ok (.iload_n 1, 1) := by decide +kernel
theorem d_M_home_43 : decode b_M_home 43 = .ok (.iload_n 2, 1) := by decide +kernel
theorem d_M_home_44 : decode b_M_home 44 = .ok (.iastore, 1) := by decide +kernel
theorem d_M_home_45 : decode b_M_home 45 = .ok (.return_, 1) := by decide +kernel
theorem d_M_span_0 : decode b_M_span 0 = .ok (.aload_n 0, 1) := by decide +kernel
theorem d_M_span_1 : decode b_M_span 1 = .ok (.iload_n 1, 1) := by decide +kernel
theorem d_M_span_2 : decode b_M_span 2 = .ok (.iconst 0, 1) := by decide +kernel
theorem d_M_span_3 : decode b_M_span 3 = .ok (.ldc 110, 2) := by decide +kernel
theorem d_M_span_5 : decode b_M_span 5 = .ok (.invokestatic 84, 3) := by decide +kernel
theorem d_M_span_8 : decode b_M_span 8 = .ok (.ifCond .ne 7, 3) := by decide +kernel
theorem d_M_span_11 : decode b_M_span 11 = .ok (.iconst 1, 1) := by decide +kernel
theorem d_M_span_12 : decode b_M_span 12 = .ok (.goto 4, 3) := by decide +kernel
theorem d_M_span_15 : decode b_M_span 15 = .ok (.iconst 0, 1) := by decide +kernel
theorem d_M_span_16 : decode b_M_span 16 = .ok (.iconst 0, 1) := by decide +kernel
theorem d_M_span_17 : decode b_M_span 17 = .ok (.iconst 0, 1) := by decide +kernel
theorem d_M_span_18 : decode b_M_span 18 = .ok (.iconst 0, 1) := by decide +kernel
theorem d_M_span_19 : decode b_M_span 19 = .ok (.invokevirtual 96, 3) := by decide +kernel
theorem d_M_span_22 : decode b_M_span 22 = .ok (.ifCond .eq 4, 3) := by decide +kernel
theorem d_M_span_25 : decode b_M_span 25 = .ok (.return_, 1) := by decide +kernel
theorem d_M_span_26 : decode b_M_span 26 = .ok (.aload_n 0, 1) := by decide +kernel
theorem d_M_span_27 : decode b_M_span 27 = .ok (.iload_n 1, 1) := by decide +kernel
theorem d_M_span_28 : decode b_M_span 28 = .ok (.putfield 7, 3) := by decide +kernel
theorem d_M_span_31 : decode b_M_span 31 = .ok (.return_, 1) := by decide +kernel
theorem d_M_become_0 : decode b_M_become 0 = .ok (.aload_n 0, 1) := by decide +kernel
theorem d_M_become_1 : decode b_M_become 1 = .ok (.getfield 26, 3) := by decide +kernel
theorem d_M_become_4 : decode b_M_become 4 = .ok (.iload_n 1, 1) := by decide +kernel
theorem d_M_become_5 : decode b_M_become 5 = .ok (.iload_n 2, 1) := by decide +kernel
theorem d_M_become_6 : decode b_M_become 6 = .ok (.iastore, 1) := by decide +kernel
theorem d_M_become_7 : decode b_M_become 7 = .ok (.aload_n 0, 1) := by decide +kernel
theorem d_M_become_8 : decode b_M_become 8 = .ok (.getfield 29, 3) := by decide +kernel
theorem d_M_become_11 : decode b_M_become 11 = .ok (.iload_n 1, 1) := by decide +kernel
theorem d_M_become_12 : decode b_M_become 12 = .ok (.iload_n 3, 1) := by decide +kernel
theorem d_M_become_13 : decode b_M_become 13 = .ok (.iastore, 1) := by decide +kernel
theorem d_M_become_14 : decode b_M_become 14 = .ok (.aload_n 0, 1) := by decide +kernel
theorem d_M_become_15 : decode b_M_become 15 = .ok (.getfield 32, 3) := by decide +kernel
theorem d_M_become_18 : decode b_M_become 18 = .ok (.iload_n 1, 1) := by decide +kernel
theorem d_M_become_19 : decode b_M_become 19 = .ok (.aload_n 0, 1) := by decide +kernel
theorem d_M_become_20 : decode b_M_become 20 = .ok (.getfield 100, 3) := by decide +kernel
theorem d_M_become_23 : decode b_M_become 23 = .ok (.iastore, 1) := by decide +kernel
theorem d_M_become_24 : decode b_M_become 24 = .ok (.return_, 1) := by decide +kernel
theorem d_M_hasStock_0 : decode b_M_hasStock 0 = .ok (.iconst 1, 1) := by decide +kernel
theorem d_M_hasStock_1 : decode b_M_hasStock 1 = .ok (.istore_n 2, 1) := by decide +kernel
theorem d_M_hasStock_2 : decode b_M_hasStock 2 = .ok (.iconst 0, 1) := by decide +kernel
theorem d_M_hasStock_3 : decode b_M_hasStock 3 = .ok (.istore_n 3, 1) := by decide +kernel
theorem d_M_hasStock_4 : decode b_M_hasStock 4 = .ok (.iload_n 3, 1) := by decide +kernel
theorem d_M_hasStock_5 : decode b_M_hasStock 5 = .ok (.bipush 6, 2) := by decide +kernel
theorem d_M_hasStock_7 : decode b_M_hasStock 7 = .ok (.if_icmp .ge 39, 3) := by decide +kernel
theorem d_M_hasStock_10 : decode b_M_hasStock 10 = .ok (.iload_n 2, 1) := by decide +kernel
theorem d_M_hasStock_11 : decode b_M_hasStock 11 = .ok (.ifCond .eq 27, 3) := by decide +kernel
theorem d_M_hasStock_14 : decode b_M_hasStock 14 = .ok (.aload_n 0, 1) := by decide +kernel
theorem d_M_hasStock_15 : decode b_M_hasStock 15 = .ok (.getfield 44, 3) := by decide +kernel
theorem d_M_hasStock_18 : decode b_M_hasStock 18 = .ok (.iload_n 3, 1) := by decide +kernel
theorem d_M_hasStock_19 : decode b_M_hasStock 19 = .ok (.iaload, 1) := by decide +kernel
theorem d_M_hasStock_20 : decode b_M_hasStock 20 = .ok (.aload_n 0, 1) := by decide +kernel
theorem d_M_hasStock_21 : decode b_M_hasStock 21 = .ok (.getfield 41, 3) := by decide +kernel
theorem d_M_hasStock_24 : decode b_M_hasStock 24 = .ok (.bipush 6, 2) := by decide +kernel
theorem d_M_hasStock_26 : decode b_M_hasStock 26 = .ok (.iload_n 1, 1) := by decide +kernel
theorem d_M_hasStock_27 : decode b_M_hasStock 27 = .ok (.imul, 1) := by decide +kernel
theorem d_M_hasStock_28 : decode b_M_hasStock 28 = .ok (.iload_n 3, 1) := by decide +kernel
theorem d_M_hasStock_29 : decode b_M_hasStock 29 = .ok (.iadd, 1) := by decide +kernel
theorem d_M_hasStock_30 : decode b_M_hasStock 30 = .ok (.iaload, 1) := by decide +kernel
theorem d_M_hasStock_31 : decode b_M_hasStock 31 = .ok (.if_icmp .lt 7, 3) := by decide +kernel
theorem d_M_hasStock_34 : decode b_M_hasStock 34 = .ok (.iconst 1, 1) := by decide +kernel
theorem d_M_hasStock_35 : decode b_M_hasStock 35 = .ok (.goto 4, 3) := by decide +kernel
theorem d_M_hasStock_38 : decode b_M_hasStock 38 = .ok (.iconst 0, 1) := by decide +kernel
theorem d_M_hasStock_39 : decode b_M_hasStock 39 = .ok (.istore_n 2, 1) := by decide +kernel
theorem d_M_hasStock_40 : decode b_M_hasStock 40 = .ok (.iinc 3 1, 3) := by decide +kernel
theorem d_M_hasStock_43 : decode b_M_hasStock 43 = .ok (.goto (-39), 3) := by decide +kernel
theorem d_M_hasStock_46 : decode b_M_hasStock 46 = .ok (.iload_n 2, 1) := by decide +kernel
theorem d_M_hasStock_47 : decode b_M_hasStock 47 = .ok (.ireturn, 1) := by decide +kernel
theorem d_M_goesOn_0 : decode b_M_goesOn 0 = .ok (.aload_n 0, 1) := by decide +kernel
theorem d_M_goesOn_1 : decode b_M_goesOn 1 = .ok (.getfield 26, 3) := by decide +kernel
theorem d_M_goesOn_4 : decode b_M_goesOn 4 = .ok (.iload_n 1, 1) := by decide +kernel
theorem d_M_goesOn_5 : decode b_M_goesOn 5 = .ok (.iaload, 1) := by decide +kernel
theorem d_M_goesOn_6 : decode b_M_goesOn 6 = .ok (.iconst 3, 1) := by decide +kernel
theorem d_M_goesOn_7 : decode b_M_goesOn 7 = .ok (.if_icmp .ne 32, 3) := by decide +kernel
theorem d_M_goesOn_10 : decode b_M_goesOn 10 = .ok (.aload_n 0, 1) := by decide +kernel
theorem d_M_goesOn_11 : decode b_M_goesOn 11 = .ok (.getfield 100, 3) := by decide +kernel
theorem d_M_goesOn_14 : decode b_M_goesOn 14 = .ok (.aload_n 0, 1) := by decide +kernel
theorem d_M_goesOn_15 : decode b_M_goesOn 15 = .ok (.getfield 32, 3) := by decide +kernel
theorem d_M_goesOn_18 : decode b_M_goesOn 18 = .ok (.iload_n 1, 1) := by decide +kernel
theorem d_M_goesOn_19 : decode b_M_goesOn 19 = .ok (.iaload, 1) := by decide +kernel
theorem d_M_goesOn_20 : decode b_M_goesOn 20 = .ok (.aload_n 0, 1) := by decide +kernel
theorem d_M_goesOn_21 : decode b_M_goesOn 21 = .ok (.getfield 17, 3) := by decide +kernel
theorem d_M_goesOn_24 : decode b_M_goesOn 24 = .ok (.iload_n 1, 1) := by decide +kernel
theorem d_M_goesOn_25 : decode b_M_goesOn 25 = .ok (.iaload, 1) := by decide +kernel
theorem d_M_goesOn_26 : decode b_M_goesOn 26 = .ok (.iadd, 1) := by decide +kernel
theorem d_M_goesOn_27 : decode b_M_goesOn 27 = .ok (.if_icmp .lt 12, 3) := by decide +kernel
theorem d_M_goesOn_30 : decode b_M_goesOn 30 = .ok (.aload_n 0, 1) := by decide +kernel
theorem d_M_goesOn_31 : decode b_M_goesOn 31 = .ok (.iload_n 1, 1) := by decide +kernel
theorem d_M_goesOn_32 : decode b_M_goesOn 32 = .ok (.iconst 4, 1) := by decide +kernel
theorem d_M_goesOn_33 : decode b_M_goesOn 33 = .ok (.iconst (-1), 1) := by decide +kernel
theorem d_M_goesOn_34 : decode b_M_goesOn 34 = .ok (.invokevirtual 111, 3) := by decide +kernel
theorem d_M_goesOn_37 : decode b_M_goesOn 37 = .ok (.iconst 1, 1) := by decide +kernel
theorem d_M_goesOn_38 : decode b_M_goesOn 38 = .ok (.ireturn, 1) := by decide +kernel
theorem d_M_goesOn_39 : decode b_M_goesOn 39 = .ok (.aload_n 0, 1) := by decide +kernel
theorem d_M_goesOn_40 : decode b_M_goesOn 40 = .ok (.getfield 26, 3) := by decide +kernel
theorem d_M_goesOn_43 : decode b_M_goesOn 43 = .ok (.iload_n 1, 1) := by decide +kernel
theorem d_M_goesOn_44 : decode b_M_goesOn 44 = .ok (.iaload, 1) := by decide +kernel
theorem d_M_goesOn_45 : decode b_M_goesOn 45 = .ok (.iconst 4, 1) := by decide +kernel
theorem d_M_goesOn_46 : decode b_M_goesOn 46 = .ok (.if_icmp .ne 93, 3) := by decide +kernel
theorem d_M_goesOn_49 : decode b_M_goesOn 49 = .ok (.aload_n 0, 1) := by decide +kernel
theorem d_M_goesOn_50 : decode b_M_goesOn 50 = .ok (.getfield 100, 3) := by decide +kernel
theorem d_M_goesOn_53 : decode b_M_goesOn 53 = .ok (.aload_n 0, 1) := by decide +kernel
theorem d_M_goesOn_54 : decode b_M_goesOn 54 = .ok (.getfield 32, 3) := by decide +kernel
theorem d_M_goesOn_57 : decode b_M_goesOn 57 = .ok (.iload_n 1, 1) := by decide +kernel
theorem d_M_goesOn_58 : decode b_M_goesOn 58 = .ok (.iaload, 1) := by decide +kernel
theorem d_M_goesOn_59 : decode b_M_goesOn 59 = .ok (.aload_n 0, 1) := by decide +kernel
theorem d_M_goesOn_60 : decode b_M_goesOn 60 = .ok (.getfield 20, 3) := by decide +kernel
theorem d_M_goesOn_63 : decode b_M_goesOn 63 = .ok (.iload_n 1, 1) := by decide +kernel
theorem d_M_goesOn_64 : decode b_M_goesOn 64 = .ok (.iaload, 1) := by decide +kernel
theorem d_M_goesOn_65 : decode b_M_goesOn 65 = .ok (.iadd, 1) := by decide +kernel
theorem d_M_goesOn_66 : decode b_M_goesOn 66 = .ok (.if_icmp .lt 73, 3) := by decide +kernel
theorem d_M_goesOn_69 : decode b_M_goesOn 69 = .ok (.aload_n 0, 1) := by decide +kernel
theorem d_M_goesOn_70 : decode b_M_goesOn 70 = .ok (.iload_n 1, 1) := by decide +kernel
theorem d_M_goesOn_71 : decode b_M_goesOn 71 = .ok (.invokevirtual 115, 3) := by decide +kernel
theorem d_M_goesOn_74 : decode b_M_goesOn 74 = .ok (.ifCond .eq 65, 3) := by decide +kernel
theorem d_M_goesOn_77 : decode b_M_goesOn 77 = .ok (.iconst 0, 1) := by decide +kernel
theorem d_M_goesOn_78 : decode b_M_goesOn 78 = .ok (.istore_n 2, 1) := by decide +kernel
theorem d_M_goesOn_79 : decode b_M_goesOn 79 = .ok (.iload_n 2, 1) := by decide +kernel
theorem d_M_goesOn_80 : decode b_M_goesOn 80 = .ok (.bipush 6, 2) := by decide +kernel
theorem d_M_goesOn_82 : decode b_M_goesOn 82 = .ok (.if_icmp .ge 41, 3) := by decide +kernel
theorem d_M_goesOn_85 : decode b_M_goesOn 85 = .ok (.aload_n 0, 1) := by decide +kernel
theorem d_M_goesOn_86 : decode b_M_goesOn 86 = .ok (.getfield 44, 3) := by decide +kernel
theorem d_M_goesOn_89 : decode b_M_goesOn 89 = .ok (.iload_n 2, 1) := by decide +kernel
theorem d_M_goesOn_90 : decode b_M_goesOn 90 = .ok (.dup2, 1) := by decide +kernel
theorem d_M_goesOn_91 : decode b_M_goesOn 91 = .ok (.iaload, 1) := by decide +kernel
theorem d_M_goesOn_92 : decode b_M_goesOn 92 = .ok (.aload_n 0, 1) := by decide +kernel
theorem d_M_goesOn_93 : decode b_M_goesOn 93 = .ok (.getfield 41, 3) := by decide +kernel
theorem d_M_goesOn_96 : decode b_M_goesOn 96 = .ok (.bipush 6, 2) := by decide +kernel
theorem d_M_goesOn_98 : decode b_M_goesOn 98 = .ok (.iload_n 1, 1) := by decide +kernel
theorem d_M_goesOn_99 : decode b_M_goesOn 99 = .ok (.imul, 1) := by decide +kernel
theorem d_M_goesOn_100 : decode b_M_goesOn 100 = .ok (.iload_n 2, 1) := by decide +kernel
theorem d_M_goesOn_101 : decode b_M_goesOn 101 = .ok (.iadd, 1) := by decide +kernel
theorem d_M_goesOn_102 : decode b_M_goesOn 102 = .ok (.iaload, 1) := by decide +kernel
theorem d_M_goesOn_103 : decode b_M_goesOn 103 = .ok (.isub, 1) := by decide +kernel
theorem d_M_goesOn_104 : decode b_M_goesOn 104 = .ok (.iastore, 1) := by decide +kernel
theorem d_M_goesOn_105 : decode b_M_goesOn 105 = .ok (.aload_n 0, 1) := by decide +kernel
theorem d_M_goesOn_106 : decode b_M_goesOn 106 = .ok (.getfield 41, 3) := by decide +kernel
theorem d_M_goesOn_109 : decode b_M_goesOn 109 = .ok (.bipush 6, 2) := by decide +kernel
theorem d_M_goesOn_111 : decode b_M_goesOn 111 = .ok (.iload_n 1, 1) := by decide +kernel
theorem d_M_goesOn_112 : decode b_M_goesOn 112 = .ok (.imul, 1) := by decide +kernel
theorem d_M_goesOn_113 : decode b_M_goesOn 113 = .ok (.iload_n 2, 1) := by decide +kernel
theorem d_M_goesOn_114 : decode b_M_goesOn 114 = .ok (.iadd, 1) := by decide +kernel
theorem d_M_goesOn_115 : decode b_M_goesOn 115 = .ok (.iconst 0, 1) := by decide +kernel
theorem d_M_goesOn_116 : decode b_M_goesOn 116 = .ok (.iastore, 1) := by decide +kernel
theorem d_M_goesOn_117 : decode b_M_goesOn 117 = .ok (.iinc 2 1, 3) := by decide +kernel
theorem d_M_goesOn_120 : decode b_M_goesOn 120 = .ok (.goto (-41), 3) := by decide +kernel
theorem d_M_goesOn_123 : decode b_M_goesOn 123 = .ok (.aload_n 0, 1) := by decide +kernel
theorem d_M_goesOn_124 : decode b_M_goesOn 124 = .ok (.getfield 35, 3) := by decide +kernel
theorem d_M_goesOn_127 : decode b_M_goesOn 127 = .ok (.iload_n 1, 1) := by decide +kernel
theorem d_M_goesOn_128 : decode b_M_goesOn 128 = .ok (.iconst 0, 1) := by decide +kernel
theorem d_M_goesOn_129 : decode b_M_goesOn 129 = .ok (.iastore, 1) := by decide +kernel
theorem d_M_goesOn_130 : decode b_M_goesOn 130 = .ok (.aload_n 0, 1) := by decide +kernel
theorem d_M_goesOn_131 : decode b_M_goesOn 131 = .ok (.iload_n 1, 1) := by decide +kernel
theorem d_M_goesOn_132 : decode b_M_goesOn 132 = .ok (.iconst 5, 1) := by decide +kernel
theorem d_M_goesOn_133 : decode b_M_goesOn 133 = .ok (.iconst (-1), 1) := by decide +kernel
theorem d_M_goesOn_134 : decode b_M_goesOn 134 = .ok (.invokevirtual 111, 3) := by decide +kernel
theorem d_M_goesOn_137 : decode b_M_goesOn 137 = .ok (.iconst 1, 1) := by decide +kernel
theorem d_M_goesOn_138 : decode b_M_goesOn 138 = .ok (.ireturn, 1) := by decide +kernel
theorem d_M_goesOn_139 : decode b_M_goesOn 139 = .ok (.aload_n 0, 1) := by decide +kernel
theorem d_M_goesOn_140 : decode b_M_goesOn 140 = .ok (.getfield 26, 3) := by decide +kernel
theorem d_M_goesOn_143 : decode b_M_goesOn 143 = .ok (.iload_n 1, 1) := by decide +kernel
theorem d_M_goesOn_144 : decode b_M_goesOn 144 = .ok (.iaload, 1) := by decide +kernel
theorem d_M_goesOn_145 : decode b_M_goesOn 145 = .ok (.iconst 5, 1) := by decide +kernel
theorem d_M_goesOn_146 : decode b_M_goesOn 146 = .ok (.if_icmp .ne 34, 3) := by decide +kernel
theorem d_M_goesOn_149 : decode b_M_goesOn 149 = .ok (.aload_n 0, 1) := by decide +kernel
theorem d_M_goesOn_150 : decode b_M_goesOn 150 = .ok (.getfield 35, 3) := by decide +kernel
theorem d_M_goesOn_153 : decode b_M_goesOn 153 = .ok (.iload_n 1, 1) := by decide +kernel
theorem d_M_goesOn_154 : decode b_M_goesOn 154 = .ok (.iaload, 1) := by decide +kernel
theorem d_M_goesOn_155 : decode b_M_goesOn 155 = .ok (.aload_n 0, 1) := by decide +kernel
theorem d_M_goesOn_156 : decode b_M_goesOn 156 = .ok (.getfield 23, 3) := by decide +kernel
theorem d_M_goesOn_159 : decode b_M_goesOn 159 = .ok (.iload_n 1, 1) := by decide +kernel
theorem d_M_goesOn_160 : decode b_M_goesOn 160 = .ok (.iaload, 1) := by decide +kernel
theorem d_M_goesOn_161 : decode b_M_goesOn 161 = .ok (.iand, 1) := by decide +kernel
theorem d_M_goesOn_162 : decode b_M_goesOn 162 = .ok (.aload_n 0, 1) := by decide +kernel
theorem d_M_goesOn_163 : decode b_M_goesOn 163 = .ok (.getfield 23, 3) := by decide +kernel
theorem d_M_goesOn_166 : decode b_M_goesOn 166 = .ok (.iload_n 1, 1) := by decide +kernel
theorem d_M_goesOn_167 : decode b_M_goesOn 167 = .ok (.iaload, 1) := by decide +kernel
theorem d_M_goesOn_168 : decode b_M_goesOn 168 = .ok (.if_icmp .ne 12, 3) := by decide +kernel
theorem d_M_goesOn_171 : decode b_M_goesOn 171 = .ok (.aload_n 0, 1) := by decide +kernel
theorem d_M_goesOn_172 : decode b_M_goesOn 172 = .ok (.iload_n 1, 1) := by decide +kernel
theorem d_M_goesOn_173 : decode b_M_goesOn 173 = .ok (.iconst 0, 1) := by decide +kernel
theorem d_M_goesOn_174 : decode b_M_goesOn 174 = .ok (.iconst (-1), 1) := by decide +kernel
theorem d_M_goesOn_175 : decode b_M_goesOn 175 = .ok (.invokevirtual 111, 3) := by decide +kernel
theorem d_M_goesOn_178 : decode b_M_goesOn 178 = .ok (.iconst 1, 1) := by decide +kernel
theorem d_M_goesOn_179 : decode b_M_goesOn 179 = .ok (.ireturn, 1) := by decide +kernel
theorem d_M_goesOn_180 : decode b_M_goesOn 180 = .ok (.iconst 0, 1) := by decide +kernel
theorem d_M_goesOn_181 : decode b_M_goesOn 181 = .ok (.ireturn, 1) := by decide +kernel
theorem d_M_put_0 : decode b_M_put 0 = .ok (.aload_n 0, 1) := by decide +kernel
theorem d_M_put_1 : decode b_M_put 1 = .ok (.iload_n 1, 1) := by decide +kernel
theorem d_M_put_2 : decode b_M_put 2 = .ok (.iconst 1, 1) := by decide +kernel
theorem d_M_put_3 : decode b_M_put 3 = .ok (.iload_n 2, 1) := by decide +kernel
theorem d_M_put_4 : decode b_M_put 4 = .ok (.invokevirtual 111, 3) := by decide +kernel
theorem d_M_put_7 : decode b_M_put 7 = .ok (.aload_n 0, 1) := by decide +kernel
theorem d_M_put_8 : decode b_M_put 8 = .ok (.getfield 54, 3) := by decide +kernel
theorem d_M_put_11 : decode b_M_put 11 = .ok (.iload_n 2, 1) := by decide +kernel
theorem d_M_put_12 : decode b_M_put 12 = .ok (.iconst 1, 1) := by decide +kernel
theorem d_M_put_13 : decode b_M_put 13 = .ok (.bastore, 1) := by decide +kernel
theorem d_M_put_14 : decode b_M_put 14 = .ok (.aload_n 0, 1) := by decide +kernel
theorem d_M_put_15 : decode b_M_put 15 = .ok (.getfield 38, 3) := by decide +kernel
theorem d_M_put_18 : decode b_M_put 18 = .ok (.iload_n 1, 1) := by decide +kernel
theorem d_M_put_19 : decode b_M_put 19 = .ok (.dup2, 1) := by decide +kernel
theorem d_M_put_20 : decode b_M_put 20 = .ok (.iaload, 1) := by decide +kernel
theorem d_M_put_21 : decode b_M_put 21 = .ok (.iconst 1, 1) := by decide +kernel
theorem d_M_put_22 : decode b_M_put 22 = .ok (.iadd, 1) := by decide +kernel
theorem d_M_put_23 : decode b_M_put 23 = .ok (.iastore, 1) := by decide +kernel
theorem d_M_put_24 : decode b_M_put 24 = .ok (.return_, 1) := by decide +kernel
theorem d_M_nearest_0 : decode b_M_nearest 0 = .ok (.iconst (-1), 1) := by decide +kernel
theorem d_M_nearest_1 : decode b_M_nearest 1 = .ok (.istore_n 1, 1) := by decide +kernel
theorem d_M_nearest_2 : decode b_M_nearest 2 = .ok (.iconst 0, 1) := by decide +kernel
theorem d_M_nearest_3 : decode b_M_nearest 3 = .ok (.istore_n 2, 1) := by decide +kernel
theorem d_M_nearest_4 : decode b_M_nearest 4 = .ok (.iload_n 2, 1) := by decide +kernel
theorem d_M_nearest_5 : decode b_M_nearest 5 = .ok (.aload_n 0, 1) := by decide +kernel
theorem d_M_nearest_6 : decode b_M_nearest 6 = .ok (.getfield 81, 3) := by decide +kernel
theorem d_M_nearest_9 : decode b_M_nearest 9 = .ok (.if_icmp .ge 39, 3) := by decide +kernel
theorem d_M_nearest_12 : decode b_M_nearest 12 = .ok (.aload_n 0, 1) := by decide +kernel
theorem d_M_nearest_13 : decode b_M_nearest 13 = .ok (.getfield 26, 3) := by decide +kernel
theorem d_M_nearest_16 : decode b_M_nearest 16 = .ok (.iload_n 2, 1) := by decide +kernel
theorem d_M_nearest_17 : decode b_M_nearest 17 = .ok (.iaload, 1) := by decide +kernel
theorem d_M_nearest_18 : decode b_M_nearest 18 = .ok (.ifCond .ne 24, 3) := by decide +kernel
theorem d_M_nearest_21 : decode b_M_nearest 21 = .ok (.iload_n 1, 1) := by decide +kernel
theorem d_M_nearest_22 : decode b_M_nearest 22 = .ok (.ifCond .lt 18, 3) := by decide +kernel
theorem d_M_nearest_25 : decode b_M_nearest 25 = .ok (.aload_n 0, 1) := by decide +kernel
theorem d_M_nearest_26 : decode b_M_nearest 26 = .ok (.getfield 13, 3) := by decide +kernel
theorem d_M_nearest_29 : decode b_M_nearest 29 = .ok (.iload_n 2, 1) := by decide +kernel
theorem d_M_nearest_30 : decode b_M_nearest 30 = .ok (.iaload, 1) := by decide +kernel
theorem d_M_nearest_31 : decode b_M_nearest 31 = .ok (.aload_n 0, 1) := by decide +kernel
theorem d_M_nearest_32 : decode b_M_nearest 32 = .ok (.getfield 13, 3) := by decide +kernel
theorem d_M_nearest_35 : decode b_M_nearest 35 = .ok (.iload_n 1, 1) := by decide +kernel
theorem d_M_nearest_36 : decode b_M_nearest 36 = .ok (.iaload, 1) := by decide +kernel
theorem d_M_nearest_37 : decode b_M_nearest 37 = .ok (.if_icmp .ge 5, 3) := by decide +kernel
theorem d_M_nearest_40 : decode b_M_nearest 40 = .ok (.iload_n 2, 1) := by decide +kernel
theorem d_M_nearest_41 : decode b_M_nearest 41 = .ok (.istore_n 1, 1) := by decide +kernel
theorem d_M_nearest_42 : decode b_M_nearest 42 = .ok (.iinc 2 1, 3) := by decide +kernel
theorem d_M_nearest_45 : decode b_M_nearest 45 = .ok (.goto (-41), 3) := by decide +kernel
theorem d_M_nearest_48 : decode b_M_nearest 48 = .ok (.iload_n 1, 1) := by decide +kernel
theorem d_M_nearest_49 : decode b_M_nearest 49 = .ok (.ireturn, 1) := by decide +kernel
theorem d_M_serves_0 : decode b_M_serves 0 = .ok (.aload_n 0, 1) := by decide +kernel
theorem d_M_serves_1 : decode b_M_serves 1 = .ok (.invokevirtual 118, 3) := by decide +kernel
theorem d_M_serves_4 : decode b_M_serves 4 = .ok (.istore_n 1, 1) := by decide +kernel
theorem d_M_serves_5 : decode b_M_serves 5 = .ok (.aload_n 0, 1) := by decide +kernel
theorem d_M_serves_6 : decode b_M_serves 6 = .ok (.getfield 121, 3) := by decide +kernel
theorem d_M_serves_9 : decode b_M_serves 9 = .ok (.ifCond .eq 7, 3) := by decide +kernel
theorem d_M_serves_12 : decode b_M_serves 12 = .ok (.iload_n 1, 1) := by decide +kernel
theorem d_M_serves_13 : decode b_M_serves 13 = .ok (.ifCond .ge 5, 3) := by decide +kernel
theorem d_M_serves_16 : decode b_M_serves 16 = .ok (.iconst 0, 1) := by decide +kernel
theorem d_M_serves_17 : decode b_M_serves 17 = .ok (.ireturn, 1) := by decide +kernel
theorem d_M_serves_18 : decode b_M_serves 18 = .ok (.aload_n 0, 1) := by decide +kernel
theorem d_M_serves_19 : decode b_M_serves 19 = .ok (.iload_n 1, 1) := by decide +kernel
theorem d_M_serves_20 : decode b_M_serves 20 = .ok (.aload_n 0, 1) := by decide +kernel
theorem d_M_serves_21 : decode b_M_serves 21 = .ok (.getfield 75, 3) := by decide +kernel
theorem d_M_serves_24 : decode b_M_serves 24 = .ok (.iconst 0, 1) := by decide +kernel
theorem d_M_serves_25 : decode b_M_serves 25 = .ok (.iaload, 1) := by decide +kernel
theorem d_M_serves_26 : decode b_M_serves 26 = .ok (.invokevirtual 124, 3) := by decide +kernel
theorem d_M_serves_29 : decode b_M_serves 29 = .ok (.aload_n 0, 1) := by decide +kernel
theorem d_M_serves_30 : decode b_M_serves 30 = .ok (.dup, 1) := by decide +kernel
theorem d_M_serves_31 : decode b_M_serves 31 = .ok (.getfield 121, 3) := by decide +kernel
theorem d_M_serves_34 : decode b_M_serves 34 = .ok (.iconst 1, 1) := by decide +kernel
theorem d_M_serves_35 : decode b_M_serves 35 = .ok (.isub, 1) := by decide +kernel
theorem d_M_serves_36 : decode b_M_serves 36 = .ok (.putfield 121, 3) := by decide +kernel
theorem d_M_serves_39 : decode b_M_serves 39 = .ok (.iconst 0, 1) := by decide +kernel
theorem d_M_serves_40 : decode b_M_serves 40 = .ok (.istore_n 2, 1) := by decide +kernel
theorem d_M_serves_41 : decode b_M_serves 41 = .ok (.iload_n 2, 1) := by decide +kernel
theorem d_M_serves_42 : decode b_M_serves 42 = .ok (.aload_n 0, 1) := by decide +kernel
theorem d_M_serves_43 : decode b_M_serves 43 = .ok (.getfield 121, 3) := by decide +kernel
theorem d_M_serves_46 : decode b_M_serves 46 = .ok (.if_icmp .ge 23, 3) := by decide +kernel
theorem d_M_serves_49 : decode b_M_serves 49 = .ok (.aload_n 0, 1) := by decide +kernel
theorem d_M_serves_50 : decode b_M_serves 50 = .ok (.getfield 75, 3) := by decide +kernel
theorem d_M_serves_53 : decode b_M_serves 53 = .ok (.iload_n 2, 1) := by decide +kernel
theorem d_M_serves_54 : decode b_M_serves 54 = .ok (.aload_n 0, 1) := by decide +kernel
theorem d_M_serves_55 : decode b_M_serves 55 = .ok (.getfield 75, 3) := by decide +kernel
theorem d_M_serves_58 : decode b_M_serves 58 = .ok (.iload_n 2, 1) := by decide +kernel
theorem d_M_serves_59 : decode b_M_serves 59 = .ok (.iconst 1, 1) := by decide +kernel
theorem d_M_serves_60 : decode b_M_serves 60 = .ok (.iadd, 1) := by decide +kernel
theorem d_M_serves_61 : decode b_M_serves 61 = .ok (.iaload, 1) := by decide +kernel
theorem d_M_serves_62 : decode b_M_serves 62 = .ok (.iastore, 1) := by decide +kernel
theorem d_M_serves_63 : decode b_M_serves 63 = .ok (.iinc 2 1, 3) := by decide +kernel
theorem d_M_serves_66 : decode b_M_serves 66 = .ok (.goto (-25), 3) := by decide +kernel
theorem d_M_serves_69 : decode b_M_serves 69 = .ok (.iconst 1, 1) := by decide +kernel
theorem d_M_serves_70 : decode b_M_serves 70 = .ok (.ireturn, 1) := by decide +kernel
theorem d_M_there_0 : decode b_M_there 0 = .ok (.iconst 0, 1) := by decide +kernel
theorem d_M_there_1 : decode b_M_there 1 = .ok (.istore_n 2, 1) := by decide +kernel
theorem d_M_there_2 : decode b_M_there 2 = .ok (.iconst 0, 1) := by decide +kernel
theorem d_M_there_3 : decode b_M_there 3 = .ok (.istore_n 3, 1) := by decide +kernel
theorem d_M_there_4 : decode b_M_there 4 = .ok (.iload_n 3, 1) := by decide +kernel
theorem d_M_there_5 : decode b_M_there 5 = .ok (.aload_n 0, 1) := by decide +kernel
theorem d_M_there_6 : decode b_M_there 6 = .ok (.getfield 81, 3) := by decide +kernel
theorem d_M_there_9 : decode b_M_there 9 = .ok (.if_icmp .ge 37, 3) := by decide +kernel
theorem d_M_there_12 : decode b_M_there 12 = .ok (.iload_n 2, 1) := by decide +kernel
theorem d_M_there_13 : decode b_M_there 13 = .ok (.aload_n 0, 1) := by decide +kernel
theorem d_M_there_14 : decode b_M_there 14 = .ok (.getfield 26, 3) := by decide +kernel
theorem d_M_there_17 : decode b_M_there 17 = .ok (.iload_n 3, 1) := by decide +kernel
theorem d_M_there_18 : decode b_M_there 18 = .ok (.iaload, 1) := by decide +kernel
theorem d_M_there_19 : decode b_M_there 19 = .ok (.iconst 1, 1) := by decide +kernel
theorem d_M_there_20 : decode b_M_there 20 = .ok (.if_icmp .ne 17, 3) := by decide +kernel
theorem d_M_there_23 : decode b_M_there 23 = .ok (.aload_n 0, 1) := by decide +kernel
theorem d_M_there_24 : decode b_M_there 24 = .ok (.getfield 29, 3) := by decide +kernel
theorem d_M_there_27 : decode b_M_there 27 = .ok (.iload_n 3, 1) := by decide +kernel
theorem d_M_there_28 : decode b_M_there 28 = .ok (.iaload, 1) := by decide +kernel
theorem d_M_there_29 : decode b_M_there 29 = .ok (.iload_n 1, 1) := by decide +kernel
theorem d_M_there_30 : decode b_M_there 30 = .ok (.if_icmp .ne 7, 3) := by decide +kernel
theorem d_M_there_33 : decode b_M_there 33 = .ok (.iconst 1, 1) := by decide +kernel
theorem d_M_there_34 : decode b_M_there 34 = .ok (.goto 4, 3) := by decide +kernel
theorem d_M_there_37 : decode b_M_there 37 = .ok (.iconst 0, 1) := by decide +kernel
theorem d_M_there_38 : decode b_M_there 38 = .ok (.iadd, 1) := by decide +kernel
theorem d_M_there_39 : decode b_M_there 39 = .ok (.istore_n 2, 1) := by decide +kernel
theorem d_M_there_40 : decode b_M_there 40 = .ok (.iinc 3 1, 3) := by decide +kernel
theorem d_M_there_43 : decode b_M_there 43 = .ok (.goto (-39), 3) := by decide +kernel
theorem d_M_there_46 : decode b_M_there 46 = .ok (.iload_n 2, 1) := by decide +kernel
theorem d_M_there_47 : decode b_M_there 47 = .ok (.ireturn, 1) := by decide +kernel
theorem d_M_waitingFor_0 : decode b_M_waitingFor 0 = .ok (.iconst 0, 1) := by decide +kernel
theorem d_M_waitingFor_1 : decode b_M_waitingFor 1 = .ok (.istore_n 2, 1) := by decide +kernel
theorem d_M_waitingFor_2 : decode b_M_waitingFor 2 = .ok (.iconst 0, 1) := by decide +kernel
theorem d_M_waitingFor_3 : decode b_M_waitingFor 3 = .ok (.istore_n 3, 1) := by decide +kernel
theorem d_M_waitingFor_4 : decode b_M_waitingFor 4 = .ok (.iload_n 3, 1) := by decide +kernel
theorem d_M_waitingFor_5 : decode b_M_waitingFor 5 = .ok (.aload_n 0, 1) := by decide +kernel
theorem d_M_waitingFor_6 : decode b_M_waitingFor 6 = .ok (.getfield 121, 3) := by decide +kernel
theorem d_M_waitingFor_9 : decode b_M_waitingFor 9 = .ok (.if_icmp .ge 27, 3) := by decide +kernel
theorem d_M_waitingFor_12 : decode b_M_waitingFor 12 = .ok (.iload_n 2, 1) := by decide +kernel
theorem d_M_waitingFor_13 : decode b_M_waitingFor 13 = .ok (.aload_n 0, 1) := by decide +kernel
theorem d_M_waitingFor_14 : decode b_M_waitingFor 14 = .ok (.getfield 75, 3) := by decide +kernel
theorem d_M_waitingFor_17 : decode b_M_waitingFor 17 = .ok (.iload_n 3, 1) := by decide +kernel
theorem d_M_waitingFor_18 : decode b_M_waitingFor 18 = .ok (.iaload, 1) := by decide +kernel
theorem d_M_waitingFor_19 : decode b_M_waitingFor 19 = .ok (.iload_n 1, 1) := by decide +kernel
theorem d_M_waitingFor_20 : decode b_M_waitingFor 20 = .ok (.if_icmp .ne 7, 3) := by decide +kernel
theorem d_M_waitingFor_23 : decode b_M_waitingFor 23 = .ok (.iconst 1, 1) := by decide +kernel
theorem d_M_waitingFor_24 : decode b_M_waitingFor 24 = .ok (.goto 4, 3) := by decide +kernel
theorem d_M_waitingFor_27 : decode b_M_waitingFor 27 = .ok (.iconst 0, 1) := by decide +kernel
theorem d_M_waitingFor_28 : decode b_M_waitingFor 28 = .ok (.iadd, 1) := by decide +kernel
theorem d_M_waitingFor_29 : decode b_M_waitingFor 29 = .ok (.istore_n 2, 1) := by decide +kernel
theorem d_M_waitingFor_30 : decode b_M_waitingFor 30 = .ok (.iinc 3 1, 3) := by decide +kernel
theorem d_M_waitingFor_33 : decode b_M_waitingFor 33 = .ok (.goto (-29), 3) := by decide +kernel
theorem d_M_waitingFor_36 : decode b_M_waitingFor 36 = .ok (.iload_n 2, 1) := by decide +kernel
theorem d_M_waitingFor_37 : decode b_M_waitingFor 37 = .ok (.ireturn, 1) := by decide +kernel
theorem d_M_ends_0 : decode b_M_ends 0 = .ok (.aload_n 0, 1) := by decide +kernel
theorem d_M_ends_1 : decode b_M_ends 1 = .ok (.getfield 50, 3) := by decide +kernel
theorem d_M_ends_4 : decode b_M_ends 4 = .ok (.iload_n 1, 1) := by decide +kernel
theorem d_M_ends_5 : decode b_M_ends 5 = .ok (.baload, 1) := by decide +kernel
theorem d_M_ends_6 : decode b_M_ends 6 = .ok (.ifCond .eq 77, 3) := by decide +kernel
theorem d_M_ends_9 : decode b_M_ends 9 = .ok (.aload_n 0, 1) := by decide +kernel
theorem d_M_ends_10 : decode b_M_ends 10 = .ok (.getfield 54, 3) := by decide +kernel
theorem d_M_ends_13 : decode b_M_ends 13 = .ok (.iload_n 1, 1) := by decide +kernel
theorem d_M_ends_14 : decode b_M_ends 14 = .ok (.baload, 1) := by decide +kernel
theorem d_M_ends_15 : decode b_M_ends 15 = .ok (.ifCond .eq 68, 3) := by decide +kernel
theorem d_M_ends_18 : decode b_M_ends 18 = .ok (.aload_n 0, 1) := by decide +kernel
theorem d_M_ends_19 : decode b_M_ends 19 = .ok (.iload_n 1, 1) := by decide +kernel
theorem d_M_ends_20 : decode b_M_ends 20 = .ok (.invokevirtual 128, 3) := by decide +kernel
theorem d_M_ends_23 : decode b_M_ends 23 = .ok (.ifCond .ne 60, 3) := by decide +kernel
theorem d_M_ends_26 : decode b_M_ends 26 = .ok (.aload_n 0, 1) := by decide +kernel
theorem d_M_ends_27 : decode b_M_ends 27 = .ok (.iload_n 1, 1) := by decide +kernel
theorem d_M_ends_28 : decode b_M_ends 28 = .ok (.invokevirtual 132, 3) := by decide +kernel
theorem d_M_ends_31 : decode b_M_ends 31 = .ok (.ifCond .ne 52, 3) := by decide +kernel
theorem d_M_ends_34 : decode b_M_ends 34 = .ok (.aload_n 0, 1) := by decide +kernel
theorem d_M_ends_35 : decode b_M_ends 35 = .ok (.getfield 60, 3) := by decide +kernel
theorem d_M_ends_38 : decode b_M_ends 38 = .ok (.iload_n 1, 1) := by decide +kernel
theorem d_M_ends_39 : decode b_M_ends 39 = .ok (.iaload, 1) := by decide +kernel
theorem d_M_ends_40 : decode b_M_ends 40 = .ok (.ifCond .ne 43, 3) := by decide +kernel
theorem d_M_ends_43 : decode b_M_ends 43 = .ok (.aload_n 0, 1) := by decide +kernel
theorem d_M_ends_44 : decode b_M_ends 44 = .ok (.getfield 57, 3) := by decide +kernel
theorem d_M_ends_47 : decode b_M_ends 47 = .ok (.iload_n 1, 1) := by decide +kernel
theorem d_M_ends_48 : decode b_M_ends 48 = .ok (.iaload, 1) := by decide +kernel
theorem d_M_ends_49 : decode b_M_ends 49 = .ok (.bipush 8, 2) := by decide +kernel
theorem d_M_ends_51 : decode b_M_ends 51 = .ok (.irem, 1) := by decide +kernel
theorem d_M_ends_52 : decode b_M_ends 52 = .ok (.bipush 7, 2) := by decide +kernel
theorem d_M_ends_54 : decode b_M_ends 54 = .ok (.if_icmp .ne 29, 3) := by decide +kernel
theorem d_M_ends_57 : decode b_M_ends 57 = .ok (.aload_n 0, 1) := by decide +kernel
theorem d_M_ends_58 : decode b_M_ends 58 = .ok (.getfield 63, 3) := by decide +kernel
theorem d_M_ends_61 : decode b_M_ends 61 = .ok (.iload_n 1, 1) := by decide +kernel
theorem d_M_ends_62 : decode b_M_ends 62 = .ok (.iaload, 1) := by decide +kernel
theorem d_M_ends_63 : decode b_M_ends 63 = .ok (.ifCond .lt 16, 3) := by decide +kernel
theorem d_M_ends_66 : decode b_M_ends 66 = .ok (.aload_n 0, 1) := by decide +kernel
theorem d_M_ends_67 : decode b_M_ends 67 = .ok (.getfield 100, 3) := by decide +kernel
theorem d_M_ends_70 : decode b_M_ends 70 = .ok (.aload_n 0, 1) := by decide +kernel
theorem d_M_ends_71 : decode b_M_ends 71 = .ok (.getfield 63, 3) := by decide +kernel
theorem d_M_ends_74 : decode b_M_ends 74 = .ok (.iload_n 1, 1) := by decide +kernel
theorem d_M_ends_75 : decode b_M_ends 75 = .ok (.iaload, 1) := by decide +kernel
theorem d_M_ends_76 : decode b_M_ends 76 = .ok (.if_icmp .lt 7, 3) := by decide +kernel
theorem d_M_ends_79 : decode b_M_ends 79 = .ok (.iconst 1, 1) := by decide +kernel
theorem d_M_ends_80 : decode b_M_ends 80 = .ok (.goto 4, 3) := by decide +kernel
theorem d_M_ends_83 : decode b_M_ends 83 = .ok (.iconst 0, 1) := by decide +kernel
theorem d_M_ends_84 : decode b_M_ends 84 = .ok (.ireturn, 1) := by decide +kernel
theorem d_M_settle_0 : decode b_M_settle 0 = .ok (.iconst 0, 1) := by decide +kernel
theorem d_M_settle_1 : decode b_M_settle 1 = .ok (.istore_n 1, 1) := by decide +kernel
theorem d_M_settle_2 : decode b_M_settle 2 = .ok (.iconst 1, 1) := by decide +kernel
theorem d_M_settle_3 : decode b_M_settle 3 = .ok (.istore_n 2, 1) := by decide +kernel
theorem d_M_settle_4 : decode b_M_settle 4 = .ok (.iload_n 2, 1) := by decide +kernel
theorem d_M_settle_5 : decode b_M_settle 5 = .ok (.ifCond .eq 105, 3) := by decide +kernel
theorem d_M_settle_8 : decode b_M_settle 8 = .ok (.iconst 0, 1) := by decide +kernel
theorem d_M_settle_9 : decode b_M_settle 9 = .ok (.istore_n 2, 1) := by decide +kernel
theorem d_M_settle_10 : decode b_M_settle 10 = .ok (.iconst 0, 1) := by decide +kernel
theorem d_M_settle_11 : decode b_M_settle 11 = .ok (.istore_n 3, 1) := by decide +kernel
theorem d_M_settle_12 : decode b_M_settle 12 = .ok (.iload_n 3, 1) := by decide +kernel
theorem d_M_settle_13 : decode b_M_settle 13 = .ok (.aload_n 0, 1) := by decide +kernel
theorem d_M_settle_14 : decode b_M_settle 14 = .ok (.getfield 81, 3) := by decide +kernel
theorem d_M_settle_17 : decode b_M_settle 17 = .ok (.if_icmp .ge 22, 3) := by decide +kernel
theorem d_M_settle_20 : decode b_M_settle 20 = .ok (.aload_n 0, 1) := by decide +kernel
theorem d_M_settle_21 : decode b_M_settle 21 = .ok (.iload_n 3, 1) := by decide +kernel
theorem d_M_settle_22 : decode b_M_settle 22 = .ok (.invokevirtual 135, 3) := by decide +kernel
theorem d_M_settle_25 : decode b_M_settle 25 = .ok (.ifCond .eq 8, 3) := by decide +kernel
theorem d_M_settle_28 : decode b_M_settle 28 = .ok (.iconst 1, 1) := by decide +kernel
theorem d_M_settle_29 : decode b_M_settle 29 = .ok (.istore_n 2, 1) := by decide +kernel
theorem d_M_settle_30 : decode b_M_settle 30 = .ok (.goto (-10), 3) := by decide +kernel
theorem d_M_settle_33 : decode b_M_settle 33 = .ok (.iinc 3 1, 3) := by decide +kernel
theorem d_M_settle_36 : decode b_M_settle 36 = .ok (.goto (-24), 3) := by decide +kernel
theorem d_M_settle_39 : decode b_M_settle 39 = .ok (.aload_n 0, 1) := by decide +kernel
theorem d_M_settle_40 : decode b_M_settle 40 = .ok (.invokevirtual 138, 3) := by decide +kernel
theorem d_M_settle_43 : decode b_M_settle 43 = .ok (.ifCond .eq 8, 3) := by decide +kernel
theorem d_M_settle_46 : decode b_M_settle 46 = .ok (.iconst 1, 1) := by decide +kernel
theorem d_M_settle_47 : decode b_M_settle 47 = .ok (.istore_n 2, 1) := by decide +kernel
theorem d_M_settle_48 : decode b_M_settle 48 = .ok (.goto (-9), 3) := by decide +kernel
theorem d_M_settle_51 : decode b_M_settle 51 = .ok (.iconst 0, 1) := by decide +kernel
theorem d_M_settle_52 : decode b_M_settle 52 = .ok (.istore_n 3, 1) := by decide +kernel
theorem d_M_settle_53 : decode b_M_settle 53 = .ok (.iload_n 3, 1) := by decide +kernel
theorem d_M_settle_54 : decode b_M_settle 54 = .ok (.aload_n 0, 1) := by decide +kernel
theorem d_M_settle_55 : decode b_M_settle 55 = .ok (.getfield 88, 3) := by decide +kernel
theorem d_M_settle_58 : decode b_M_settle 58 = .ok (.if_icmp .ge 49, 3) := by decide +kernel
theorem d_M_settle_61 : decode b_M_settle 61 = .ok (.aload_n 0, 1) := by decide +kernel
theorem d_M_settle_62 : decode b_M_settle 62 = .ok (.iload_n 3, 1) := by decide +kernel
theorem d_M_settle_63 : decode b_M_settle 63 = .ok (.invokevirtual 142, 3) := by decide +kernel
theorem d_M_settle_66 : decode b_M_settle 66 = .ok (.ifCond .eq 35, 3) := by decide +kernel
theorem d_M_settle_69 : decode b_M_settle 69 = .ok (.aload_n 0, 1) := by decide +kernel
theorem d_M_settle_70 : decode b_M_settle 70 = .ok (.getfield 50, 3) := by decide +kernel
theorem d_M_settle_73 : decode b_M_settle 73 = .ok (.iload_n 3, 1) := by decide +kernel
theorem d_M_settle_74 : decode b_M_settle 74 = .ok (.iconst 0, 1) := by decide +kernel
theorem d_M_settle_75 : decode b_M_settle 75 = .ok (.bastore, 1) := by decide +kernel
theorem d_M_settle_76 : decode b_M_settle 76 = .ok (.aload_n 0, 1) := by decide +kernel
theorem d_M_settle_77 : decode b_M_settle 77 = .ok (.getfield 69, 3) := by decide +kernel
theorem d_M_settle_80 : decode b_M_settle 80 = .ok (.iload_n 3, 1) := by decide +kernel
theorem d_M_settle_81 : decode b_M_settle 81 = .ok (.dup2, 1) := by decide +kernel
theorem d_M_settle_82 : decode b_M_settle 82 = .ok (.iaload, 1) := by decide +kernel
theorem d_M_settle_83 : decode b_M_settle 83 = .ok (.iconst 1, 1) := by decide +kernel
theorem d_M_settle_84 : decode b_M_settle 84 = .ok (.iadd, 1) := by decide +kernel
theorem d_M_settle_85 : decode b_M_settle 85 = .ok (.iastore, 1) := by decide +kernel
theorem d_M_settle_86 : decode b_M_settle 86 = .ok (.aload_n 0, 1) := by decide +kernel
theorem d_M_settle_87 : decode b_M_settle 87 = .ok (.getfield 72, 3) := by decide +kernel
theorem d_M_settle_90 : decode b_M_settle 90 = .ok (.iload_n 3, 1) := by decide +kernel
theorem d_M_settle_91 : decode b_M_settle 91 = .ok (.aload_n 0, 1) := by decide +kernel
theorem d_M_settle_92 : decode b_M_settle 92 = .ok (.getfield 100, 3) := by decide +kernel
theorem d_M_settle_95 : decode b_M_settle 95 = .ok (.iastore, 1) := by decide +kernel
theorem d_M_settle_96 : decode b_M_settle 96 = .ok (.iinc 1 1, 3) := by decide +kernel
theorem d_M_settle_99 : decode b_M_settle 99 = .ok (.iconst 1, 1) := by decide +kernel
theorem d_M_settle_100 : decode b_M_settle 100 = .ok (.istore_n 2, 1) := by decide +kernel
theorem d_M_settle_101 : decode b_M_settle 101 = .ok (.iinc 3 1, 3) := by decide +kernel
theorem d_M_settle_104 : decode b_M_settle 104 = .ok (.goto (-51), 3) := by decide +kernel
theorem d_M_settle_107 : decode b_M_settle 107 = .ok (.goto (-103), 3) := by decide +kernel
theorem d_M_settle_110 : decode b_M_settle 110 = .ok (.iload_n 1, 1) := by decide +kernel
theorem d_M_settle_111 : decode b_M_settle 111 = .ok (.ireturn, 1) := by decide +kernel
theorem d_M_tick_0 : decode b_M_tick 0 = .ok (.aload_n 0, 1) := by decide +kernel
theorem d_M_tick_1 : decode b_M_tick 1 = .ok (.iload_n 1, 1) := by decide +kernel
theorem d_M_tick_2 : decode b_M_tick 2 = .ok (.iconst 1, 1) := by decide +kernel
theorem d_M_tick_3 : decode b_M_tick 3 = .ok (.sipush 5000, 3) := by decide +kernel
theorem d_M_tick_6 : decode b_M_tick 6 = .ok (.invokestatic 84, 3) := by decide +kernel
theorem d_M_tick_9 : decode b_M_tick 9 = .ok (.ifCond .eq 14, 3) := by decide +kernel
theorem d_M_tick_12 : decode b_M_tick 12 = .ok (.aload_n 0, 1) := by decide +kernel
theorem d_M_tick_13 : decode b_M_tick 13 = .ok (.getfield 100, 3) := by decide +kernel
theorem d_M_tick_16 : decode b_M_tick 16 = .ok (.iload_n 1, 1) := by decide +kernel
theorem d_M_tick_17 : decode b_M_tick 17 = .ok (.iadd, 1) := by decide +kernel
theorem d_M_tick_18 : decode b_M_tick 18 = .ok (.ldc 145, 2) := by decide +kernel
theorem d_M_tick_20 : decode b_M_tick 20 = .ok (.if_icmp .le 7, 3) := by decide +kernel
theorem d_M_tick_23 : decode b_M_tick 23 = .ok (.iconst 1, 1) := by decide +kernel
theorem d_M_tick_24 : decode b_M_tick 24 = .ok (.goto 4, 3) := by decide +kernel
theorem d_M_tick_27 : decode b_M_tick 27 = .ok (.iconst 0, 1) := by decide +kernel
theorem d_M_tick_28 : decode b_M_tick 28 = .ok (.iconst 0, 1) := by decide +kernel
theorem d_M_tick_29 : decode b_M_tick 29 = .ok (.iconst 0, 1) := by decide +kernel
theorem d_M_tick_30 : decode b_M_tick 30 = .ok (.iconst 0, 1) := by decide +kernel
theorem d_M_tick_31 : decode b_M_tick 31 = .ok (.invokevirtual 96, 3) := by decide +kernel
theorem d_M_tick_34 : decode b_M_tick 34 = .ok (.ifCond .eq 5, 3) := by decide +kernel
theorem d_M_tick_37 : decode b_M_tick 37 = .ok (.iconst 0, 1) := by decide +kernel
theorem d_M_tick_38 : decode b_M_tick 38 = .ok (.ireturn, 1) := by decide +kernel
theorem d_M_tick_39 : decode b_M_tick 39 = .ok (.iconst 0, 1) := by decide +kernel
theorem d_M_tick_40 : decode b_M_tick 40 = .ok (.istore_n 2, 1) := by decide +kernel
theorem d_M_tick_41 : decode b_M_tick 41 = .ok (.iconst 0, 1) := by decide +kernel
theorem d_M_tick_42 : decode b_M_tick 42 = .ok (.istore_n 3, 1) := by decide +kernel
theorem d_M_tick_43 : decode b_M_tick 43 = .ok (.iload_n 3, 1) := by decide +kernel
theorem d_M_tick_44 : decode b_M_tick 44 = .ok (.iload_n 1, 1) := by decide +kernel
theorem d_M_tick_45 : decode b_M_tick 45 = .ok (.if_icmp .ge 26, 3) := by decide +kernel
theorem d_M_tick_48 : decode b_M_tick 48 = .ok (.aload_n 0, 1) := by decide +kernel
theorem d_M_tick_49 : decode b_M_tick 49 = .ok (.dup, 1) := by decide +kernel
theorem d_M_tick_50 : decode b_M_tick 50 = .ok (.getfield 100, 3) := by decide +kernel
theorem d_M_tick_53 : decode b_M_tick 53 = .ok (.iconst 1, 1) := by decide +kernel
theorem d_M_tick_54 : decode b_M_tick 54 = .ok (.iadd, 1) := by decide +kernel
theorem d_M_tick_55 : decode b_M_tick 55 = .ok (.putfield 100, 3) := by decide +kernel
theorem d_M_tick_58 : decode b_M_tick 58 = .ok (.iload_n 2, 1) := by decide +kernel
theorem d_M_tick_59 : decode b_M_tick 59 = .ok (.aload_n 0, 1) := by decide +kernel
theorem d_M_tick_60 : decode b_M_tick 60 = .ok (.invokevirtual 103, 3) := by decide +kernel
theorem d_M_tick_63 : decode b_M_tick 63 = .ok (.iadd, 1) := by decide +kernel
theorem d_M_tick_64 : decode b_M_tick 64 = .ok (.istore_n 2, 1) := by decide +kernel
theorem d_M_tick_65 : decode b_M_tick 65 = .ok (.iinc 3 1, 3) := by decide +kernel
theorem d_M_tick_68 : decode b_M_tick 68 = .ok (.goto (-25), 3) := by decide +kernel
theorem d_M_tick_71 : decode b_M_tick 71 = .ok (.iload_n 2, 1) := by decide +kernel
theorem d_M_tick_72 : decode b_M_tick 72 = .ok (.ireturn, 1) := by decide +kernel
theorem d_M_found_0 : decode b_M_found 0 = .ok (.iconst (-1), 1) := by decide +kernel
theorem d_M_found_1 : decode b_M_found 1 = .ok (.istore_n 3, 1) := by decide +kernel
theorem d_M_found_2 : decode b_M_found 2 = .ok (.iconst 0, 1) := by decide +kernel
theorem d_M_found_3 : decode b_M_found 3 = .ok (.istore 4, 2) := by decide +kernel
theorem d_M_found_5 : decode b_M_found 5 = .ok (.iload 4, 2) := by decide +kernel
theorem d_M_found_7 : decode b_M_found 7 = .ok (.aload_n 0, 1) := by decide +kernel
theorem d_M_found_8 : decode b_M_found 8 = .ok (.getfield 88, 3) := by decide +kernel
theorem d_M_found_11 : decode b_M_found 11 = .ok (.if_icmp .ge 93, 3) := by decide +kernel
theorem d_M_found_14 : decode b_M_found 14 = .ok (.aload_n 0, 1) := by decide +kernel
theorem d_M_found_15 : decode b_M_found 15 = .ok (.getfield 47, 3) := by decide +kernel
theorem d_M_found_18 : decode b_M_found 18 = .ok (.iload 4, 2) := by decide +kernel
theorem d_M_found_20 : decode b_M_found 20 = .ok (.iaload, 1) := by decide +kernel
theorem d_M_found_21 : decode b_M_found 21 = .ok (.iload_n 1, 1) := by decide +kernel
theorem d_M_found_22 : decode b_M_found 22 = .ok (.if_icmp .ne 41, 3) := by decide +kernel
theorem d_M_found_25 : decode b_M_found 25 = .ok (.aload_n 0, 1) := by decide +kernel
theorem d_M_found_26 : decode b_M_found 26 = .ok (.getfield 50, 3) := by decide +kernel
theorem d_M_found_29 : decode b_M_found 29 = .ok (.iload 4, 2) := by decide +kernel
theorem d_M_found_31 : decode b_M_found 31 = .ok (.baload, 1) := by decide +kernel
theorem d_M_found_32 : decode b_M_found 32 = .ok (.iload_n 2, 1) := by decide +kernel
theorem d_M_found_33 : decode b_M_found 33 = .ok (.if_icmp .ne 30, 3) := by decide +kernel
theorem d_M_found_36 : decode b_M_found 36 = .ok (.iload_n 2, 1) := by decide +kernel
theorem d_M_found_37 : decode b_M_found 37 = .ok (.ifCond .ne 22, 3) := by decide +kernel
theorem d_M_found_40 : decode b_M_found 40 = .ok (.aload_n 0, 1) := by decide +kernel
theorem d_M_found_41 : decode b_M_found 41 = .ok (.getfield 100, 3) := by decide +kernel
theorem d_M_found_44 : decode b_M_found 44 = .ok (.aload_n 0, 1) := by decide +kernel
theorem d_M_found_45 : decode b_M_found 45 = .ok (.getfield 72, 3) := by decide +kernel
theorem d_M_found_48 : decode b_M_found 48 = .ok (.iload 4, 2) := by decide +kernel
theorem d_M_found_50 : decode b_M_found 50 = .ok (.iaload, 1) := by decide +kernel
theorem d_M_found_51 : decode b_M_found 51 = .ok (.isub, 1) := by decide +kernel
theorem d_M_found_52 : decode b_M_found 52 = .ok (.aload_n 0, 1) := by decide +kernel
theorem d_M_found_53 : decode b_M_found 53 = .ok (.getfield 7, 3) := by decide +kernel
theorem d_M_found_56 : decode b_M_found 56 = .ok (.if_icmp .gt 7, 3) := by decide +kernel
theorem d_M_found_59 : decode b_M_found 59 = .ok (.iconst 1, 1) := by decide +kernel
theorem d_M_found_60 : decode b_M_found 60 = .ok (.goto 4, 3) := by decide +kernel
theorem d_M_found_63 : decode b_M_found 63 = .ok (.iconst 0, 1) := by decide +kernel
theorem d_M_found_64 : decode b_M_found 64 = .ok (.istore 5, 2) := by decide +kernel
theorem d_M_found_66 : decode b_M_found 66 = .ok (.iload 5, 2) := by decide +kernel
theorem d_M_found_68 : decode b_M_found 68 = .ok (.ifCond .eq 30, 3) := by decide +kernel
theorem d_M_found_71 : decode b_M_found 71 = .ok (.iload_n 3, 1) := by decide +kernel
theorem d_M_found_72 : decode b_M_found 72 = .ok (.ifCond .lt 23, 3) := by decide +kernel
theorem d_M_found_75 : decode b_M_found 75 = .ok (.iload_n 2, 1) := by decide +kernel
theorem d_M_found_76 : decode b_M_found 76 = .ok (.ifCond .ne 19, 3) := by decide +kernel
theorem d_M_found_79 : decode b_M_found 79 = .ok (.aload_n 0, 1) := by decide +kernel
theorem d_M_found_80 : decode b_M_found 80 = .ok (.getfield 72, 3) := by decide +kernel
theorem d_M_found_83 : decode b_M_found 83 = .ok (.iload 4, 2) := by decide +kernel
theorem d_M_found_85 : decode b_M_found 85 = .ok (.iaload, 1) := by decide +kernel
theorem d_M_found_86 : decode b_M_found 86 = .ok (.aload_n 0, 1) := by decide +kernel
theorem d_M_found_87 : decode b_M_found 87 = .ok (.getfield 72, 3) := by decide +kernel
theorem d_M_found_90 : decode b_M_found 90 = .ok (.iload_n 3, 1) := by decide +kernel
theorem d_M_found_91 : decode b_M_found 91 = .ok (.iaload, 1) := by decide +kernel
theorem d_M_found_92 : decode b_M_found 92 = .ok (.if_icmp .lt 6, 3) := by decide +kernel
theorem d_M_found_95 : decode b_M_found 95 = .ok (.iload 4, 2) := by decide +kernel
theorem d_M_found_97 : decode b_M_found 97 = .ok (.istore_n 3, 1) := by decide +kernel
theorem d_M_found_98 : decode b_M_found 98 = .ok (.iinc 4 1, 3) := by decide +kernel
theorem d_M_found_101 : decode b_M_found 101 = .ok (.goto (-96), 3) := by decide +kernel
theorem d_M_found_104 : decode b_M_found 104 = .ok (.iload_n 3, 1) := by decide +kernel
theorem d_M_found_105 : decode b_M_found 105 = .ok (.ireturn, 1) := by decide +kernel
theorem d_M_call_0 : decode b_M_call 0 = .ok (.iload_n 1, 1) := by decide +kernel
theorem d_M_call_1 : decode b_M_call 1 = .ok (.iconst 0, 1) := by decide +kernel
theorem d_M_call_2 : decode b_M_call 2 = .ok (.bipush 99, 2) := by decide +kernel
theorem d_M_call_4 : decode b_M_call 4 = .ok (.invokestatic 84, 3) := by decide +kernel
theorem d_M_call_7 : decode b_M_call 7 = .ok (.ifCond .ne 7, 3) := by decide +kernel
theorem d_M_call_10 : decode b_M_call 10 = .ok (.iconst 1, 1) := by decide +kernel
theorem d_M_call_11 : decode b_M_call 11 = .ok (.goto 4, 3) := by decide +kernel
theorem d_M_call_14 : decode b_M_call 14 = .ok (.iconst 0, 1) := by decide +kernel
theorem d_M_call_15 : decode b_M_call 15 = .ok (.istore_n 3, 1) := by decide +kernel
theorem d_M_call_16 : decode b_M_call 16 = .ok (.aload_n 0, 1) := by decide +kernel
theorem d_M_call_17 : decode b_M_call 17 = .ok (.iload_n 1, 1) := by decide +kernel
theorem d_M_call_18 : decode b_M_call 18 = .ok (.iconst 1, 1) := by decide +kernel
theorem d_M_call_19 : decode b_M_call 19 = .ok (.invokevirtual 146, 3) := by decide +kernel
theorem d_M_call_22 : decode b_M_call 22 = .ok (.istore 4, 2) := by decide +kernel
theorem d_M_call_24 : decode b_M_call 24 = .ok (.iload 4, 2) := by decide +kernel
theorem d_M_call_26 : decode b_M_call 26 = .ok (.ifCond .ge 12, 3) := by decide +kernel
theorem d_M_call_29 : decode b_M_call 29 = .ok (.aload_n 0, 1) := by decide +kernel
theorem d_M_call_30 : decode b_M_call 30 = .ok (.iload_n 1, 1) := by decide +kernel
theorem d_M_call_31 : decode b_M_call 31 = .ok (.iconst 0, 1) := by decide +kernel
theorem d_M_call_32 : decode b_M_call 32 = .ok (.invokevirtual 146, 3) := by decide +kernel
theorem d_M_call_35 : decode b_M_call 35 = .ok (.goto 4, 3) := by decide +kernel
theorem d_M_call_38 : decode b_M_call 38 = .ok (.iconst (-1), 1) := by decide +kernel
theorem d_M_call_39 : decode b_M_call 39 = .ok (.istore 5, 2) := by decide +kernel
theorem d_M_call_41 : decode b_M_call 41 = .ok (.iload 4, 2) := by decide +kernel
theorem d_M_call_43 : decode b_M_call 43 = .ok (.ifCond .ge 17, 3) := by decide +kernel
theorem d_M_call_46 : decode b_M_call 46 = .ok (.iload 5, 2) := by decide +kernel
theorem d_M_call_48 : decode b_M_call 48 = .ok (.ifCond .ge 12, 3) := by decide +kernel
theorem d_M_call_51 : decode b_M_call 51 = .ok (.aload_n 0, 1) := by decide +kernel
theorem d_M_call_52 : decode b_M_call 52 = .ok (.getfield 88, 3) := by decide +kernel
theorem d_M_call_55 : decode b_M_call 55 = .ok (.bipush 20, 2) := by decide +kernel
theorem d_M_call_57 : decode b_M_call 57 = .ok (.if_icmp .ge 7, 3) := by decide +kernel
theorem d_M_call_60 : decode b_M_call 60 = .ok (.iconst 1, 1) := by decide +kernel
theorem d_M_call_61 : decode b_M_call 61 = .ok (.goto 4, 3) := by decide +kernel
theorem d_M_call_64 : decode b_M_call 64 = .ok (.iconst 0, 1) := by decide +kernel
theorem d_M_call_65 : decode b_M_call 65 = .ok (.istore 6, 2) := by decide +kernel
theorem d_M_call_67 : decode b_M_call 67 = .ok (.aload_n 0, 1) := by decide +kernel
theorem d_M_call_68 : decode b_M_call 68 = .ok (.iload_n 3, 1) := by decide +kernel
theorem d_M_call_69 : decode b_M_call 69 = .ok (.iload 6, 2) := by decide +kernel
theorem d_M_call_71 : decode b_M_call 71 = .ok (.ifCond .eq 16, 3) := by decide +kernel
theorem d_M_call_74 : decode b_M_call 74 = .ok (.iload_n 2, 1) := by decide +kernel
theorem d_M_call_75 : decode b_M_call 75 = .ok (.ifCond .eq 16, 3) := by decide +kernel
theorem d_M_call_78 : decode b_M_call 78 = .ok (.aload_n 0, 1) := by decide +kernel
theorem d_M_call_79 : decode b_M_call 79 = .ok (.getfield 121, 3) := by decide +kernel
theorem d_M_call_82 : decode b_M_call 82 = .ok (.bipush 30, 2) := by decide +kernel
theorem d_M_call_84 : decode b_M_call 84 = .ok (.if_icmp .ne 7, 3) := by decide +kernel
theorem d_M_call_87 : decode b_M_call 87 = .ok (.iconst 1, 1) := by decide +kernel
theorem d_M_call_88 : decode b_M_call 88 = .ok (.goto 4, 3) := by decide +kernel
theorem d_M_call_91 : decode b_M_call 91 = .ok (.iconst 0, 1) := by decide +kernel
theorem d_M_call_92 : decode b_M_call 92 = .ok (.iconst 0, 1) := by decide +kernel
theorem d_M_call_93 : decode b_M_call 93 = .ok (.iconst 0, 1) := by decide +kernel
theorem d_M_call_94 : decode b_M_call 94 = .ok (.invokevirtual 96, 3) := by decide +kernel
theorem d_M_call_97 : decode b_M_call 97 = .ok (.ifCond .eq 5, 3) := by decide +kernel
theorem d_M_call_100 : decode b_M_call 100 = .ok (.iconst 0, 1) := by decide +kernel
theorem d_M_call_101 : decode b_M_call 101 = .ok (.ireturn, 1) := by decide +kernel
theorem d_M_call_102 : decode b_M_call 102 = .ok (.iload 4, 2) := by decide +kernel
theorem d_M_call_104 : decode b_M_call 104 = .ok (.ifCond .ge 101, 3) := by decide +kernel
theorem d_M_call_107 : decode b_M_call 107 = .ok (.iload 5, 2) := by decide +kernel
theorem d_M_call_109 : decode b_M_call 109 = .ok (.ifCond .lt 8, 3) := by decide +kernel
theorem d_M_call_112 : decode b_M_call 112 = .ok (.iload 5, 2) := by decide +kernel
theorem d_M_call_114 : decode b_M_call 114 = .ok (.goto 7, 3) := by decide +kernel
theorem d_M_call_117 : decode b_M_call 117 = .ok (.aload_n 0, 1) := by decide +kernel
theorem d_M_call_118 : decode b_M_call 118 = .ok (.getfield 88, 3) := by decide +kernel
theorem d_M_call_121 : decode b_M_call 121 = .ok (.istore 4, 2) := by decide +kernel
theorem d_M_call_123 : decode b_M_call 123 = .ok (.iload 5, 2) := by decide +kernel
theorem d_M_call_125 : decode b_M_call 125 = .ok (.ifCond .ge 29, 3) := by decide +kernel
theorem d_M_call_128 : decode b_M_call 128 = .ok (.aload_n 0, 1) := by decide +kernel
theorem d_M_call_129 : decode b_M_call 129 = .ok (.getfield 47, 3) := by decide +kernel
theorem d_M_call_132 : decode b_M_call 132 = .ok (.iload 4, 2) := by decide +kernel
theorem d_M_call_134 : decode b_M_call 134 = .ok (.iload_n 1, 1) := by decide +kernel
theorem d_M_call_135 : decode b_M_call 135 = .ok (.iastore, 1) := by decide +kernel
theorem d_M_call_136 : decode b_M_call 136 = .ok (.aload_n 0, 1) := by decide +kernel
theorem d_M_call_137 : decode b_M_call 137 = .ok (.getfield 72, 3) := by decide +kernel
theorem d_M_call_140 : decode b_M_call 140 = .ok (.iload 4, 2) := by decide +kernel
theorem d_M_call_142 : decode b_M_call 142 = .ok (.iconst (-1), 1) := by decide +kernel
theorem d_M_call_143 : decode b_M_call 143 = .ok (.iastore, 1) := by decide +kernel
theorem d_M_call_144 : decode b_M_call 144 = .ok (.aload_n 0, 1) := by decide +kernel
theorem d_M_call_145 : decode b_M_call 145 = .ok (.dup, 1) := by decide +kernel
theorem d_M_call_146 : decode b_M_call 146 = .ok (.getfield 88, 3) := by decide +kernel
theorem d_M_call_149 : decode b_M_call 149 = .ok (.iconst 1, 1) := by decide +kernel
theorem d_M_call_150 : decode b_M_call 150 = .ok (.iadd, 1) := by decide +kernel
theorem d_M_call_151 : decode b_M_call 151 = .ok (.putfield 88, 3) := by decide +kernel
theorem d_M_call_154 : decode b_M_call 154 = .ok (.aload_n 0, 1) := by decide +kernel
theorem d_M_call_155 : decode b_M_call 155 = .ok (.getfield 50, 3) := by decide +kernel
theorem d_M_call_158 : decode b_M_call 158 = .ok (.iload 4, 2) := by decide +kernel
theorem d_M_call_160 : decode b_M_call 160 = .ok (.iconst 1, 1) := by decide +kernel
theorem d_M_call_161 : decode b_M_call 161 = .ok (.bastore, 1) := by decide +kernel
theorem d_M_call_162 : decode b_M_call 162 = .ok (.aload_n 0, 1) := by decide +kernel
theorem d_M_call_163 : decode b_M_call 163 = .ok (.getfield 54, 3) := by decide +kernel
theorem d_M_call_166 : decode b_M_call 166 = .ok (.iload 4, 2) := by decide +kernel
theorem d_M_call_168 : decode b_M_call 168 = .ok (.iconst 0, 1) := by decide +kernel
theorem d_M_call_169 : decode b_M_call 169 = .ok (.bastore, 1) := by decide +kernel
theorem d_M_call_170 : decode b_M_call 170 = .ok (.aload_n 0, 1) := by decide +kernel
theorem d_M_call_171 : decode b_M_call 171 = .ok (.getfield 57, 3) := by decide +kernel
theorem d_M_call_174 : decode b_M_call 174 = .ok (.iload 4, 2) := by decide +kernel
theorem d_M_call_176 : decode b_M_call 176 = .ok (.iconst 0, 1) := by decide +kernel
theorem d_M_call_177 : decode b_M_call 177 = .ok (.iastore, 1) := by decide +kernel
theorem d_M_call_178 : decode b_M_call 178 = .ok (.aload_n 0, 1) := by decide +kernel
theorem d_M_call_179 : decode b_M_call 179 = .ok (.getfield 60, 3) := by decide +kernel
theorem d_M_call_182 : decode b_M_call 182 = .ok (.iload 4, 2) := by decide +kernel
theorem d_M_call_184 : decode b_M_call 184 = .ok (.iconst 0, 1) := by decide +kernel
theorem d_M_call_185 : decode b_M_call 185 = .ok (.iastore, 1) := by decide +kernel
theorem d_M_call_186 : decode b_M_call 186 = .ok (.aload_n 0, 1) := by decide +kernel
theorem d_M_call_187 : decode b_M_call 187 = .ok (.getfield 63, 3) := by decide +kernel
theorem d_M_call_190 : decode b_M_call 190 = .ok (.iload 4, 2) := by decide +kernel
theorem d_M_call_192 : decode b_M_call 192 = .ok (.iconst (-1), 1) := by decide +kernel
theorem d_M_call_193 : decode b_M_call 193 = .ok (.iastore, 1) := by decide +kernel
theorem d_M_call_194 : decode b_M_call 194 = .ok (.aload_n 0, 1) := by decide +kernel
theorem d_M_call_195 : decode b_M_call 195 = .ok (.getfield 66, 3) := by decide +kernel
theorem d_M_call_198 : decode b_M_call 198 = .ok (.iload 4, 2) := by decide +kernel
theorem d_M_call_200 : decode b_M_call 200 = .ok (.dup2, 1) := by decide +kernel
theorem d_M_call_201 : decode b_M_call 201 = .ok (.iaload, 1) := by decide +kernel
theorem d_M_call_202 : decode b_M_call 202 = .ok (.iconst 1, 1) := by decide +kernel
theorem d_M_call_203 : decode b_M_call 203 = .ok (.iadd, 1) := by decide +kernel
theorem d_M_call_204 : decode b_M_call 204 = .ok (.iastore, 1) := by decide +kernel
theorem d_M_call_205 : decode b_M_call 205 = .ok (.iload_n 2, 1) := by decide +kernel
theorem d_M_call_206 : decode b_M_call 206 = .ok (.ifCond .eq 24, 3) := by decide +kernel
theorem d_M_call_209 : decode b_M_call 209 = .ok (.aload_n 0, 1) := by decide +kernel
theorem d_M_call_210 : decode b_M_call 210 = .ok (.getfield 75, 3) := by decide +kernel
theorem d_M_call_213 : decode b_M_call 213 = .ok (.aload_n 0, 1) := by decide +kernel
theorem d_M_call_214 : decode b_M_call 214 = .ok (.getfield 121, 3) := by decide +kernel
theorem d_M_call_217 : decode b_M_call 217 = .ok (.iload 4, 2) := by decide +kernel
theorem d_M_call_219 : decode b_M_call 219 = .ok (.iastore, 1) := by decide +kernel
theorem d_M_call_220 : decode b_M_call 220 = .ok (.aload_n 0, 1) := by decide +kernel
theorem d_M_call_221 : decode b_M_call 221 = .ok (.dup, 1) := by decide +kernel
theorem d_M_call_222 : decode b_M_call 222 = .ok (.getfield 121, 3) := by decide +kernel
theorem d_M_call_225 : decode b_M_call 225 = .ok (.iconst 1, 1) := by decide +kernel
theorem d_M_call_226 : decode b_M_call 226 = .ok (.iadd, 1) := by decide +kernel
theorem d_M_call_227 : decode b_M_call 227 = .ok (.putfield 121, 3) := by decide +kernel
theorem d_M_call_230 : decode b_M_call 230 = .ok (.aload_n 0, 1) := by decide +kernel
theorem d_M_call_231 : decode b_M_call 231 = .ok (.invokevirtual 103, 3) := by decide +kernel
theorem d_M_call_234 : decode b_M_call 234 = .ok (.pop, 1) := by decide +kernel
theorem d_M_call_235 : decode b_M_call 235 = .ok (.iload 4, 2) := by decide +kernel
theorem d_M_call_237 : decode b_M_call 237 = .ok (.ireturn, 1) := by decide +kernel
theorem d_M_send_0 : decode b_M_send 0 = .ok (.aload_n 0, 1) := by decide +kernel
theorem d_M_send_1 : decode b_M_send 1 = .ok (.iload_n 1, 1) := by decide +kernel
theorem d_M_send_2 : decode b_M_send 2 = .ok (.invokevirtual 107, 3) := by decide +kernel
theorem d_M_send_5 : decode b_M_send 5 = .ok (.ifCond .eq 11, 3) := by decide +kernel
theorem d_M_send_8 : decode b_M_send 8 = .ok (.aload_n 0, 1) := by decide +kernel
theorem d_M_send_9 : decode b_M_send 9 = .ok (.iload_n 2, 1) := by decide +kernel
theorem d_M_send_10 : decode b_M_send 10 = .ok (.invokevirtual 91, 3) := by decide +kernel
theorem d_M_send_13 : decode b_M_send 13 = .ok (.ifCond .ne 7, 3) := by decide +kernel
theorem d_M_send_16 : decode b_M_send 16 = .ok (.iconst 1, 1) := by decide +kernel
theorem d_M_send_17 : decode b_M_send 17 = .ok (.goto 4, 3) := by decide +kernel
theorem d_M_send_20 : decode b_M_send 20 = .ok (.iconst 0, 1) := by decide +kernel
theorem d_M_send_21 : decode b_M_send 21 = .ok (.istore_n 3, 1) := by decide +kernel
theorem d_M_send_22 : decode b_M_send 22 = .ok (.aload_n 0, 1) := by decide +kernel
theorem d_M_send_23 : decode b_M_send 23 = .ok (.iload_n 3, 1) := by decide +kernel
theorem d_M_send_24 : decode b_M_send 24 = .ok (.iload_n 3, 1) := by decide +kernel
theorem d_M_send_25 : decode b_M_send 25 = .ok (.ifCond .ne 25, 3) := by decide +kernel
theorem d_M_send_28 : decode b_M_send 28 = .ok (.aload_n 0, 1) := by decide +kernel
theorem d_M_send_29 : decode b_M_send 29 = .ok (.getfield 26, 3) := by decide +kernel
theorem d_M_send_32 : decode b_M_send 32 = .ok (.iload_n 1, 1) := by decide +kernel
theorem d_M_send_33 : decode b_M_send 33 = .ok (.iaload, 1) := by decide +kernel
theorem d_M_send_34 : decode b_M_send 34 = .ok (.ifCond .ne 12, 3) := by decide +kernel
theorem d_M_send_37 : decode b_M_send 37 = .ok (.aload_n 0, 1) := by decide +kernel
theorem d_M_send_38 : decode b_M_send 38 = .ok (.getfield 50, 3) := by decide +kernel
theorem d_M_send_41 : decode b_M_send 41 = .ok (.iload_n 2, 1) := by decide +kernel
theorem d_M_send_42 : decode b_M_send 42 = .ok (.baload, 1) := by decide +kernel
theorem d_M_send_43 : decode b_M_send 43 = .ok (.ifCond .ne 7, 3) := by decide +kernel
theorem d_M_send_46 : decode b_M_send 46 = .ok (.iconst 1, 1) := by decide +kernel
theorem d_M_send_47 : decode b_M_send 47 = .ok (.goto 4, 3) := by decide +kernel
theorem d_M_send_50 : decode b_M_send 50 = .ok (.iconst 0, 1) := by decide +kernel
theorem d_M_send_51 : decode b_M_send 51 = .ok (.iconst 0, 1) := by decide +kernel
theorem d_M_send_52 : decode b_M_send 52 = .ok (.iconst 0, 1) := by decide +kernel
theorem d_M_send_53 : decode b_M_send 53 = .ok (.invokevirtual 96, 3) := by decide +kernel
theorem d_M_send_56 : decode b_M_send 56 = .ok (.ifCond .eq 4, 3) := by decide +kernel
theorem d_M_send_59 : decode b_M_send 59 = .ok (.return_, 1) := by decide +kernel
theorem d_M_send_60 : decode b_M_send 60 = .ok (.aload_n 0, 1) := by decide +kernel
theorem d_M_send_61 : decode b_M_send 61 = .ok (.iload_n 1, 1) := by decide +kernel
theorem d_M_send_62 : decode b_M_send 62 = .ok (.iload_n 2, 1) := by decide +kernel
theorem d_M_send_63 : decode b_M_send 63 = .ok (.invokevirtual 124, 3) := by decide +kernel
theorem d_M_send_66 : decode b_M_send 66 = .ok (.aload_n 0, 1) := by decide +kernel
theorem d_M_send_67 : decode b_M_send 67 = .ok (.invokevirtual 103, 3) := by decide +kernel
theorem d_M_send_70 : decode b_M_send 70 = .ok (.pop, 1) := by decide +kernel
theorem d_M_send_71 : decode b_M_send 71 = .ok (.return_, 1) := by decide +kernel
theorem d_M_release_0 : decode b_M_release 0 = .ok (.aload_n 0, 1) := by decide +kernel
theorem d_M_release_1 : decode b_M_release 1 = .ok (.aload_n 0, 1) := by decide +kernel
theorem d_M_release_2 : decode b_M_release 2 = .ok (.iload_n 1, 1) := by decide +kernel
theorem d_M_release_3 : decode b_M_release 3 = .ok (.invokevirtual 91, 3) := by decide +kernel
theorem d_M_release_6 : decode b_M_release 6 = .ok (.ifCond .ne 7, 3) := by decide +kernel
theorem d_M_release_9 : decode b_M_release 9 = .ok (.iconst 1, 1) := by decide +kernel
theorem d_M_release_10 : decode b_M_release 10 = .ok (.goto 4, 3) := by decide +kernel
theorem d_M_release_13 : decode b_M_release 13 = .ok (.iconst 0, 1) := by decide +kernel
theorem d_M_release_14 : decode b_M_release 14 = .ok (.iload_n 2, 1) := by decide +kernel
theorem d_M_release_15 : decode b_M_release 15 = .ok (.iconst 1, 1) := by decide +kernel
theorem d_M_release_16 : decode b_M_release 16 = .ok (.bipush 24, 2) := by decide +kernel
theorem d_M_release_18 : decode b_M_release 18 = .ok (.invokestatic 84, 3) := by decide +kernel
theorem d_M_release_21 : decode b_M_release 21 = .ok (.ifCond .ne 7, 3) := by decide +kernel
theorem d_M_release_24 : decode b_M_release 24 = .ok (.iconst 1, 1) := by decide +kernel
theorem d_M_release_25 : decode b_M_release 25 = .ok (.goto 4, 3) := by decide +kernel
theorem d_M_release_28 : decode b_M_release 28 = .ok (.iconst 0, 1) := by decide +kernel
theorem d_M_release_29 : decode b_M_release 29 = .ok (.aload_n 0, 1) := by decide +kernel
theorem d_M_release_30 : decode b_M_release 30 = .ok (.iload_n 1, 1) := by decide +kernel
theorem d_M_release_31 : decode b_M_release 31 = .ok (.invokevirtual 150, 3) := by decide +kernel
theorem d_M_release_34 : decode b_M_release 34 = .ok (.iconst 0, 1) := by decide +kernel
theorem d_M_release_35 : decode b_M_release 35 = .ok (.invokevirtual 96, 3) := by decide +kernel
theorem d_M_release_38 : decode b_M_release 38 = .ok (.ifCond .eq 5, 3) := by decide +kernel
theorem d_M_release_41 : decode b_M_release 41 = .ok (.iconst 0, 1) := by decide +kernel
theorem d_M_release_42 : decode b_M_release 42 = .ok (.ireturn, 1) := by decide +kernel
theorem d_M_release_43 : decode b_M_release 43 = .ok (.iconst 0, 1) := by decide +kernel
theorem d_M_release_44 : decode b_M_release 44 = .ok (.istore_n 3, 1) := by decide +kernel
theorem d_M_release_45 : decode b_M_release 45 = .ok (.iconst 0, 1) := by decide +kernel
theorem d_M_release_46 : decode b_M_release 46 = .ok (.istore 4, 2) := by decide +kernel
theorem d_M_release_48 : decode b_M_release 48 = .ok (.iload_n 3, 1) := by decide +kernel
theorem d_M_release_49 : decode b_M_release 49 = .ok (.iload_n 2, 1) := by decide +kernel
theorem d_M_release_50 : decode b_M_release 50 = .ok (.if_icmp .ge 96, 3) := by decide +kernel
theorem d_M_release_53 : decode b_M_release 53 = .ok (.iload 4, 2) := by decide +kernel
theorem d_M_release_55 : decode b_M_release 55 = .ok (.ifCond .lt 91, 3) := by decide +kernel
theorem d_M_release_58 : decode b_M_release 58 = .ok (.iconst (-1), 1) := by decide +kernel
theorem d_M_release_59 : decode b_M_release 59 = .ok (.istore 4, 2) := by decide +kernel
theorem d_M_release_61 : decode b_M_release 61 = .ok (.iconst 0, 1) := by decide +kernel
theorem d_M_release_62 : decode b_M_release 62 = .ok (.istore 5, 2) := by decide +kernel
theorem d_M_release_64 : decode b_M_release 64 = .ok (.iload 5, 2) := by decide +kernel
theorem d_M_release_66 : decode b_M_release 66 = .ok (.aload_n 0, 1) := by decide +kernel
theorem d_M_release_67 : decode b_M_release 67 = .ok (.getfield 81, 3) := by decide +kernel
theorem d_M_release_70 : decode b_M_release 70 = .ok (.if_icmp .ge 57, 3) := by decide +kernel
theorem d_M_release_73 : decode b_M_release 73 = .ok (.aload_n 0, 1) := by decide +kernel
theorem d_M_release_74 : decode b_M_release 74 = .ok (.getfield 26, 3) := by decide +kernel
theorem d_M_release_77 : decode b_M_release 77 = .ok (.iload 5, 2) := by decide +kernel
theorem d_M_release_79 : decode b_M_release 79 = .ok (.iaload, 1) := by decide +kernel
theorem d_M_release_80 : decode b_M_release 80 = .ok (.iconst 1, 1) := by decide +kernel
theorem d_M_release_81 : decode b_M_release 81 = .ok (.if_icmp .ne 40, 3) := by decide +kernel
theorem d_M_release_84 : decode b_M_release 84 = .ok (.aload_n 0, 1) := by decide +kernel
theorem d_M_release_85 : decode b_M_release 85 = .ok (.getfield 29, 3) := by decide +kernel
theorem d_M_release_88 : decode b_M_release 88 = .ok (.iload 5, 2) := by decide +kernel
theorem d_M_release_90 : decode b_M_release 90 = .ok (.iaload, 1) := by decide +kernel
theorem d_M_release_91 : decode b_M_release 91 = .ok (.iload_n 1, 1) := by decide +kernel
theorem d_M_release_92 : decode b_M_release 92 = .ok (.if_icmp .ne 29, 3) := by decide +kernel
theorem d_M_release_95 : decode b_M_release 95 = .ok (.iload 4, 2) := by decide +kernel
theorem d_M_release_97 : decode b_M_release 97 = .ok (.ifCond .lt 20, 3) := by decide +kernel
theorem d_M_release_100 : decode b_M_release 100 = .ok (.aload_n 0, 1) := by decide +kernel
theorem d_M_release_101 : decode b_M_release 101 = .ok (.getfield 13, 3) := by decide +kernel
theorem d_M_release_104 : decode b_M_release 104 = .ok (.iload 5, 2) := by decide +kernel
theorem d_M_release_106 : decode b_M_release 106 = .ok (.iaload, 1) := by decide +kernel
theorem d_M_release_107 : decode b_M_release 107 = .ok (.aload_n 0, 1) := by decide +kernel
theorem d_M_release_108 : decode b_M_release 108 = .ok (.getfield 13, 3) := by decide +kernel
theorem d_M_release_111 : decode b_M_release 111 = .ok (.iload 4, 2) := by decide +kernel
theorem d_M_release_113 : decode b_M_release 113 = .ok (.iaload, 1) := by decide +kernel
theorem d_M_release_114 : decode b_M_release 114 = .ok (.if_icmp .le 7, 3) := by decide +kernel
theorem d_M_release_117 : decode b_M_release 117 = .ok (.iload 5, 2) := by decide +kernel
theorem d_M_release_119 : decode b_M_release 119 = .ok (.istore 4, 2) := by decide +kernel
theorem d_M_release_121 : decode b_M_release 121 = .ok (.iinc 5 1, 3) := by decide +kernel
theorem d_M_release_124 : decode b_M_release 124 = .ok (.goto (-60), 3) := by decide +kernel
theorem d_M_release_127 : decode b_M_release 127 = .ok (.iload 4, 2) := by decide +kernel
theorem d_M_release_129 : decode b_M_release 129 = .ok (.ifCond .lt (-81), 3) := by decide +kernel
theorem d_M_release_132 : decode b_M_release 132 = .ok (.aload_n 0, 1) := by decide +kernel
theorem d_M_release_133 : decode b_M_release 133 = .ok (.iload 4, 2) := by decide +kernel
theorem d_M_release_135 : decode b_M_release 135 = .ok (.iconst 2, 1) := by decide +kernel
theorem d_M_release_136 : decode b_M_release 136 = .ok (.iconst (-1), 1) := by decide +kernel
theorem d_M_release_137 : decode b_M_release 137 = .ok (.invokevirtual 111, 3) := by decide +kernel
theorem d_M_release_140 : decode b_M_release 140 = .ok (.iinc 3 1, 3) := by decide +kernel
theorem d_M_release_143 : decode b_M_release 143 = .ok (.goto (-95), 3) := by decide +kernel
theorem d_M_release_146 : decode b_M_release 146 = .ok (.aload_n 0, 1) := by decide +kernel
theorem d_M_release_147 : decode b_M_release 147 = .ok (.invokevirtual 103, 3) := by decide +kernel
theorem d_M_release_150 : decode b_M_release 150 = .ok (.pop, 1) := by decide +kernel
theorem d_M_release_151 : decode b_M_release 151 = .ok (.iload_n 3, 1) := by decide +kernel
theorem d_M_release_152 : decode b_M_release 152 = .ok (.ireturn, 1) := by decide +kernel
theorem d_M_back_0 : decode b_M_back 0 = .ok (.aload_n 0, 1) := by decide +kernel
theorem d_M_back_1 : decode b_M_back 1 = .ok (.iload_n 1, 1) := by decide +kernel
theorem d_M_back_2 : decode b_M_back 2 = .ok (.invokevirtual 107, 3) := by decide +kernel
theorem d_M_back_5 : decode b_M_back 5 = .ok (.ifCond .ne 7, 3) := by decide +kernel
theorem d_M_back_8 : decode b_M_back 8 = .ok (.iconst 1, 1) := by decide +kernel
theorem d_M_back_9 : decode b_M_back 9 = .ok (.goto 4, 3) := by decide +kernel
theorem d_M_back_12 : decode b_M_back 12 = .ok (.iconst 0, 1) := by decide +kernel
theorem d_M_back_13 : decode b_M_back 13 = .ok (.istore_n 2, 1) := by decide +kernel
theorem d_M_back_14 : decode b_M_back 14 = .ok (.aload_n 0, 1) := by decide +kernel
theorem d_M_back_15 : decode b_M_back 15 = .ok (.iload_n 2, 1) := by decide +kernel
theorem d_M_back_16 : decode b_M_back 16 = .ok (.iload_n 2, 1) := by decide +kernel
theorem d_M_back_17 : decode b_M_back 17 = .ok (.ifCond .ne 17, 3) := by decide +kernel
theorem d_M_back_20 : decode b_M_back 20 = .ok (.aload_n 0, 1) := by decide +kernel
theorem d_M_back_21 : decode b_M_back 21 = .ok (.getfield 26, 3) := by decide +kernel
theorem d_M_back_24 : decode b_M_back 24 = .ok (.iload_n 1, 1) := by decide +kernel
theorem d_M_back_25 : decode b_M_back 25 = .ok (.iaload, 1) := by decide +kernel
theorem d_M_back_26 : decode b_M_back 26 = .ok (.iconst 2, 1) := by decide +kernel
theorem d_M_back_27 : decode b_M_back 27 = .ok (.if_icmp .eq 7, 3) := by decide +kernel
theorem d_M_back_30 : decode b_M_back 30 = .ok (.iconst 1, 1) := by decide +kernel
theorem d_M_back_31 : decode b_M_back 31 = .ok (.goto 4, 3) := by decide +kernel
theorem d_M_back_34 : decode b_M_back 34 = .ok (.iconst 0, 1) := by decide +kernel
theorem d_M_back_35 : decode b_M_back 35 = .ok (.iconst 0, 1) := by decide +kernel
theorem d_M_back_36 : decode b_M_back 36 = .ok (.iconst 0, 1) := by decide +kernel
theorem d_M_back_37 : decode b_M_back 37 = .ok (.invokevirtual 96, 3) := by decide +kernel
theorem d_M_back_40 : decode b_M_back 40 = .ok (.ifCond .eq 4, 3) := by decide +kernel
theorem d_M_back_43 : decode b_M_back 43 = .ok (.return_, 1) := by decide +kernel
theorem d_M_back_44 : decode b_M_back 44 = .ok (.aload_n 0, 1) := by decide +kernel
theorem d_M_back_45 : decode b_M_back 45 = .ok (.iload_n 1, 1) := by decide +kernel
theorem d_M_back_46 : decode b_M_back 46 = .ok (.iconst 3, 1) := by decide +kernel
theorem d_M_back_47 : decode b_M_back 47 = .ok (.iconst (-1), 1) := by decide +kernel
theorem d_M_back_48 : decode b_M_back 48 = .ok (.invokevirtual 111, 3) := by decide +kernel
theorem d_M_back_51 : decode b_M_back 51 = .ok (.aload_n 0, 1) := by decide +kernel
theorem d_M_back_52 : decode b_M_back 52 = .ok (.invokevirtual 103, 3) := by decide +kernel
theorem d_M_back_55 : decode b_M_back 55 = .ok (.pop, 1) := by decide +kernel
theorem d_M_back_56 : decode b_M_back 56 = .ok (.return_, 1) := by decide +kernel
theorem d_M_use_0 : decode b_M_use 0 = .ok (.aload_n 0, 1) := by decide +kernel
theorem d_M_use_1 : decode b_M_use 1 = .ok (.iload_n 1, 1) := by decide +kernel
theorem d_M_use_2 : decode b_M_use 2 = .ok (.invokevirtual 107, 3) := by decide +kernel
theorem d_M_use_5 : decode b_M_use 5 = .ok (.ifCond .eq 10, 3) := by decide +kernel
theorem d_M_use_8 : decode b_M_use 8 = .ok (.iload_n 2, 1) := by decide +kernel
theorem d_M_use_9 : decode b_M_use 9 = .ok (.invokestatic 153, 3) := by decide +kernel
theorem d_M_use_12 : decode b_M_use 12 = .ok (.ifCond .ne 7, 3) := by decide +kernel
theorem d_M_use_15 : decode b_M_use 15 = .ok (.iconst 1, 1) := by decide +kernel
theorem d_M_use_16 : decode b_M_use 16 = .ok (.goto 4, 3) := by decide +kernel
theorem d_M_use_19 : decode b_M_use 19 = .ok (.iconst 0, 1) := by decide +kernel
theorem d_M_use_20 : decode b_M_use 20 = .ok (.istore 4, 2) := by decide +kernel
theorem d_M_use_22 : decode b_M_use 22 = .ok (.iload_n 3, 1) := by decide +kernel
theorem d_M_use_23 : decode b_M_use 23 = .ok (.iconst 1, 1) := by decide +kernel
theorem d_M_use_24 : decode b_M_use 24 = .ok (.sipush 1000, 3) := by decide +kernel
theorem d_M_use_27 : decode b_M_use 27 = .ok (.invokestatic 84, 3) := by decide +kernel
theorem d_M_use_30 : decode b_M_use 30 = .ok (.ifCond .ne 7, 3) := by decide +kernel
theorem d_M_use_33 : decode b_M_use 33 = .ok (.iconst 1, 1) := by decide +kernel
theorem d_M_use_34 : decode b_M_use 34 = .ok (.goto 4, 3) := by decide +kernel
theorem d_M_use_37 : decode b_M_use 37 = .ok (.iconst 0, 1) := by decide +kernel
theorem d_M_use_38 : decode b_M_use 38 = .ok (.istore 5, 2) := by decide +kernel
theorem d_M_use_40 : decode b_M_use 40 = .ok (.iload 4, 2) := by decide +kernel
theorem d_M_use_42 : decode b_M_use 42 = .ok (.ifCond .ne 27, 3) := by decide +kernel
theorem d_M_use_45 : decode b_M_use 45 = .ok (.aload_n 0, 1) := by decide +kernel
theorem d_M_use_46 : decode b_M_use 46 = .ok (.getfield 26, 3) := by decide +kernel
theorem d_M_use_49 : decode b_M_use 49 = .ok (.iload_n 1, 1) := by decide +kernel
theorem d_M_use_50 : decode b_M_use 50 = .ok (.iaload, 1) := by decide +kernel
theorem d_M_use_51 : decode b_M_use 51 = .ok (.iconst 1, 1) := by decide +kernel
theorem d_M_use_52 : decode b_M_use 52 = .ok (.if_icmp .eq 17, 3) := by decide +kernel
theorem d_M_use_55 : decode b_M_use 55 = .ok (.aload_n 0, 1) := by decide +kernel
theorem d_M_use_56 : decode b_M_use 56 = .ok (.getfield 26, 3) := by decide +kernel
theorem d_M_use_59 : decode b_M_use 59 = .ok (.iload_n 1, 1) := by decide +kernel
theorem d_M_use_60 : decode b_M_use 60 = .ok (.iaload, 1) := by decide +kernel
theorem d_M_use_61 : decode b_M_use 61 = .ok (.iconst 2, 1) := by decide +kernel
theorem d_M_use_62 : decode b_M_use 62 = .ok (.if_icmp .eq 7, 3) := by decide +kernel
theorem d_M_use_65 : decode b_M_use 65 = .ok (.iconst 1, 1) := by decide +kernel
theorem d_M_use_66 : decode b_M_use 66 = .ok (.goto 4, 3) := by decide +kernel
theorem d_M_use_69 : decode b_M_use 69 = .ok (.iconst 0, 1) := by decide +kernel
theorem d_M_use_70 : decode b_M_use 70 = .ok (.istore 6, 2) := by decide +kernel
theorem d_M_use_72 : decode b_M_use 72 = .ok (.aload_n 0, 1) := by decide +kernel
theorem d_M_use_73 : decode b_M_use 73 = .ok (.iload 4, 2) := by decide +kernel
theorem d_M_use_75 : decode b_M_use 75 = .ok (.iload 5, 2) := by decide +kernel
theorem d_M_use_77 : decode b_M_use 77 = .ok (.iload 6, 2) := by decide +kernel
theorem d_M_use_79 : decode b_M_use 79 = .ok (.iload 4, 2) := by decide +kernel
theorem d_M_use_81 : decode b_M_use 81 = .ok (.ifCond .ne 30, 3) := by decide +kernel
theorem d_M_use_84 : decode b_M_use 84 = .ok (.iload 5, 2) := by decide +kernel
theorem d_M_use_86 : decode b_M_use 86 = .ok (.ifCond .ne 25, 3) := by decide +kernel
theorem d_M_use_89 : decode b_M_use 89 = .ok (.aload_n 0, 1) := by decide +kernel
theorem d_M_use_90 : decode b_M_use 90 = .ok (.getfield 41, 3) := by decide +kernel
theorem d_M_use_93 : decode b_M_use 93 = .ok (.bipush 6, 2) := by decide +kernel
theorem d_M_use_95 : decode b_M_use 95 = .ok (.iload_n 1, 1) := by decide +kernel
theorem d_M_use_96 : decode b_M_use 96 = .ok (.imul, 1) := by decide +kernel
theorem d_M_use_97 : decode b_M_use 97 = .ok (.iload_n 2, 1) := by decide +kernel
theorem d_M_use_98 : decode b_M_use 98 = .ok (.iadd, 1) := by decide +kernel
theorem d_M_use_99 : decode b_M_use 99 = .ok (.iaload, 1) := by decide +kernel
theorem d_M_use_100 : decode b_M_use 100 = .ok (.iload_n 3, 1) := by decide +kernel
theorem d_M_use_101 : decode b_M_use 101 = .ok (.iadd, 1) := by decide +kernel
theorem d_M_use_102 : decode b_M_use 102 = .ok (.ldc 110, 2) := by decide +kernel
theorem d_M_use_104 : decode b_M_use 104 = .ok (.if_icmp .le 7, 3) := by decide +kernel
theorem d_M_use_107 : decode b_M_use 107 = .ok (.iconst 1, 1) := by decide +kernel
theorem d_M_use_108 : decode b_M_use 108 = .ok (.goto 4, 3) := by decide +kernel
theorem d_M_use_111 : decode b_M_use 111 = .ok (.iconst 0, 1) := by decide +kernel
theorem d_M_use_112 : decode b_M_use 112 = .ok (.invokevirtual 96, 3) := by decide +kernel
theorem d_M_use_115 : decode b_M_use 115 = .ok (.ifCond .eq 5, 3) := by decide +kernel
theorem d_M_use_118 : decode b_M_use 118 = .ok (.iconst 0, 1) := by decide +kernel
theorem d_M_use_119 : decode b_M_use 119 = .ok (.ireturn, 1) := by decide +kernel
theorem d_M_use_120 : decode b_M_use 120 = .ok (.aload_n 0, 1) := by decide +kernel
theorem d_M_use_121 : decode b_M_use 121 = .ok (.getfield 41, 3) := by decide +kernel
theorem d_M_use_124 : decode b_M_use 124 = .ok (.bipush 6, 2) := by decide +kernel
theorem d_M_use_126 : decode b_M_use 126 = .ok (.iload_n 1, 1) := by decide +kernel
theorem d_M_use_127 : decode b_M_use 127 = .ok (.imul, 1) := by decide +kernel
theorem d_M_use_128 : decode b_M_use 128 = .ok (.iload_n 2, 1) := by decide +kernel
theorem d_M_use_129 : decode b_M_use 129 = .ok (.iadd, 1) := by decide +kernel
theorem d_M_use_130 : decode b_M_use 130 = .ok (.dup2, 1) := by decide +kernel
theorem d_M_use_131 : decode b_M_use 131 = .ok (.iaload, 1) := by decide +kernel
theorem d_M_use_132 : decode b_M_use 132 = .ok (.iload_n 3, 1) := by decide +kernel
theorem d_M_use_133 : decode b_M_use 133 = .ok (.iadd, 1) := by decide +kernel
theorem d_M_use_134 : decode b_M_use 134 = .ok (.iastore, 1) := by decide +kernel
theorem d_M_use_135 : decode b_M_use 135 = .ok (.aload_n 0, 1) := by decide +kernel
theorem d_M_use_136 : decode b_M_use 136 = .ok (.getfield 41, 3) := by decide +kernel
theorem d_M_use_139 : decode b_M_use 139 = .ok (.bipush 6, 2) := by decide +kernel
theorem d_M_use_141 : decode b_M_use 141 = .ok (.iload_n 1, 1) := by decide +kernel
theorem d_M_use_142 : decode b_M_use 142 = .ok (.imul, 1) := by decide +kernel
theorem d_M_use_143 : decode b_M_use 143 = .ok (.iload_n 2, 1) := by decide +kernel
theorem d_M_use_144 : decode b_M_use 144 = .ok (.iadd, 1) := by decide +kernel
theorem d_M_use_145 : decode b_M_use 145 = .ok (.iaload, 1) := by decide +kernel
theorem d_M_use_146 : decode b_M_use 146 = .ok (.ireturn, 1) := by decide +kernel
theorem d_M_deliver_0 : decode b_M_deliver 0 = .ok (.iload_n 1, 1) := by decide +kernel
theorem d_M_deliver_1 : decode b_M_deliver 1 = .ok (.invokestatic 153, 3) := by decide +kernel
theorem d_M_deliver_4 : decode b_M_deliver 4 = .ok (.ifCond .ne 7, 3) := by decide +kernel
theorem d_M_deliver_7 : decode b_M_deliver 7 = .ok (.iconst 1, 1) := by decide +kernel
theorem d_M_deliver_8 : decode b_M_deliver 8 = .ok (.goto 4, 3) := by decide +kernel
theorem d_M_deliver_11 : decode b_M_deliver 11 = .ok (.iconst 0, 1) := by decide +kernel
theorem d_M_deliver_12 : decode b_M_deliver 12 = .ok (.istore_n 3, 1) := by decide +kernel
theorem d_M_deliver_13 : decode b_M_deliver 13 = .ok (.iload_n 2, 1) := by decide +kernel
theorem d_M_deliver_14 : decode b_M_deliver 14 = .ok (.iconst 0, 1) := by decide +kernel
theorem d_M_deliver_15 : decode b_M_deliver 15 = .ok (.ldc 110, 2) := by decide +kernel
theorem d_M_deliver_17 : decode b_M_deliver 17 = .ok (.invokestatic 84, 3) := by decide +kernel
theorem d_M_deliver_20 : decode b_M_deliver 20 = .ok (.ifCond .ne 7, 3) := by decide +kernel
theorem d_M_deliver_23 : decode b_M_deliver 23 = .ok (.iconst 1, 1) := by decide +kernel
theorem d_M_deliver_24 : decode b_M_deliver 24 = .ok (.goto 4, 3) := by decide +kernel
theorem d_M_deliver_27 : decode b_M_deliver 27 = .ok (.iconst 0, 1) := by decide +kernel
theorem d_M_deliver_28 : decode b_M_deliver 28 = .ok (.istore 4, 2) := by decide +kernel
theorem d_M_deliver_30 : decode b_M_deliver 30 = .ok (.aload_n 0, 1) := by decide +kernel
theorem d_M_deliver_31 : decode b_M_deliver 31 = .ok (.iload_n 3, 1) := by decide +kernel
theorem d_M_deliver_32 : decode b_M_deliver 32 = .ok (.iload 4, 2) := by decide +kernel
theorem d_M_deliver_34 : decode b_M_deliver 34 = .ok (.iload_n 3, 1) := by decide +kernel
theorem d_M_deliver_35 : decode b_M_deliver 35 = .ok (.ifCond .ne 25, 3) := by decide +kernel
theorem d_M_deliver_38 : decode b_M_deliver 38 = .ok (.iload 4, 2) := by decide +kernel
theorem d_M_deliver_40 : decode b_M_deliver 40 = .ok (.ifCond .ne 20, 3) := by decide +kernel
theorem d_M_deliver_43 : decode b_M_deliver 43 = .ok (.aload_n 0, 1) := by decide +kernel
theorem d_M_deliver_44 : decode b_M_deliver 44 = .ok (.getfield 44, 3) := by decide +kernel
theorem d_M_deliver_47 : decode b_M_deliver 47 = .ok (.iload_n 1, 1) := by decide +kernel
theorem d_M_deliver_48 : decode b_M_deliver 48 = .ok (.iaload, 1) := by decide +kernel
theorem d_M_deliver_49 : decode b_M_deliver 49 = .ok (.iload_n 2, 1) := by decide +kernel
theorem d_M_deliver_50 : decode b_M_deliver 50 = .ok (.iadd, 1) := by decide +kernel
theorem d_M_deliver_51 : decode b_M_deliver 51 = .ok (.ldc 156, 2) := by decide +kernel
theorem d_M_deliver_53 : decode b_M_deliver 53 = .ok (.if_icmp .le 7, 3) := by decide +kernel
theorem d_M_deliver_56 : decode b_M_deliver 56 = .ok (.iconst 1, 1) := by decide +kernel
theorem d_M_deliver_57 : decode b_M_deliver 57 = .ok (.goto 4, 3) := by decide +kernel
theorem d_M_deliver_60 : decode b_M_deliver 60 = .ok (.iconst 0, 1) := by decide +kernel
theorem d_M_deliver_61 : decode b_M_deliver 61 = .ok (.iconst 0, 1) := by decide +kernel
theorem d_M_deliver_62 : decode b_M_deliver 62 = .ok (.invokevirtual 96, 3) := by decide +kernel
theorem d_M_deliver_65 : decode b_M_deliver 65 = .ok (.ifCond .eq 5, 3) := by decide +kernel
theorem d_M_deliver_68 : decode b_M_deliver 68 = .ok (.iconst 0, 1) := by decide +kernel
theorem d_M_deliver_69 : decode b_M_deliver 69 = .ok (.ireturn, 1) := by decide +kernel
theorem d_M_deliver_70 : decode b_M_deliver 70 = .ok (.aload_n 0, 1) := by decide +kernel
theorem d_M_deliver_71 : decode b_M_deliver 71 = .ok (.getfield 44, 3) := by decide +kernel
theorem d_M_deliver_74 : decode b_M_deliver 74 = .ok (.iload_n 1, 1) := by decide +kernel
theorem d_M_deliver_75 : decode b_M_deliver 75 = .ok (.dup2, 1) := by decide +kernel
theorem d_M_deliver_76 : decode b_M_deliver 76 = .ok (.iaload, 1) := by decide +kernel
theorem d_M_deliver_77 : decode b_M_deliver 77 = .ok (.iload_n 2, 1) := by decide +kernel
theorem d_M_deliver_78 : decode b_M_deliver 78 = .ok (.iadd, 1) := by decide +kernel
theorem d_M_deliver_79 : decode b_M_deliver 79 = .ok (.iastore, 1) := by decide +kernel
theorem d_M_deliver_80 : decode b_M_deliver 80 = .ok (.aload_n 0, 1) := by decide +kernel
theorem d_M_deliver_81 : decode b_M_deliver 81 = .ok (.getfield 44, 3) := by decide +kernel
theorem d_M_deliver_84 : decode b_M_deliver 84 = .ok (.iload_n 1, 1) := by decide +kernel
theorem d_M_deliver_85 : decode b_M_deliver 85 = .ok (.iaload, 1) := by decide +kernel
theorem d_M_deliver_86 : decode b_M_deliver 86 = .ok (.istore 5, 2) := by decide +kernel
theorem d_M_deliver_88 : decode b_M_deliver 88 = .ok (.aload_n 0, 1) := by decide +kernel
theorem d_M_deliver_89 : decode b_M_deliver 89 = .ok (.invokevirtual 103, 3) := by decide +kernel
theorem d_M_deliver_92 : decode b_M_deliver 92 = .ok (.pop, 1) := by decide +kernel
theorem d_M_deliver_93 : decode b_M_deliver 93 = .ok (.iload 5, 2) := by decide +kernel
theorem d_M_deliver_95 : decode b_M_deliver 95 = .ok (.ireturn, 1) := by decide +kernel
theorem d_M_check_0 : decode b_M_check 0 = .ok (.aload_n 0, 1) := by decide +kernel
theorem d_M_check_1 : decode b_M_check 1 = .ok (.iload_n 1, 1) := by decide +kernel
theorem d_M_check_2 : decode b_M_check 2 = .ok (.invokevirtual 107, 3) := by decide +kernel
theorem d_M_check_5 : decode b_M_check 5 = .ok (.ifCond .ne 7, 3) := by decide +kernel
theorem d_M_check_8 : decode b_M_check 8 = .ok (.iconst 1, 1) := by decide +kernel
theorem d_M_check_9 : decode b_M_check 9 = .ok (.goto 4, 3) := by decide +kernel
theorem d_M_check_12 : decode b_M_check 12 = .ok (.iconst 0, 1) := by decide +kernel
theorem d_M_check_13 : decode b_M_check 13 = .ok (.istore_n 3, 1) := by decide +kernel
theorem d_M_check_14 : decode b_M_check 14 = .ok (.aload_n 0, 1) := by decide +kernel
theorem d_M_check_15 : decode b_M_check 15 = .ok (.iload_n 3, 1) := by decide +kernel
theorem d_M_check_16 : decode b_M_check 16 = .ok (.iload_n 2, 1) := by decide +kernel
theorem d_M_check_17 : decode b_M_check 17 = .ok (.iconst 0, 1) := by decide +kernel
theorem d_M_check_18 : decode b_M_check 18 = .ok (.sipush 255, 3) := by decide +kernel
theorem d_M_check_21 : decode b_M_check 21 = .ok (.invokestatic 84, 3) := by decide +kernel
theorem d_M_check_24 : decode b_M_check 24 = .ok (.ifCond .ne 7, 3) := by decide +kernel
theorem d_M_check_27 : decode b_M_check 27 = .ok (.iconst 1, 1) := by decide +kernel
theorem d_M_check_28 : decode b_M_check 28 = .ok (.goto 4, 3) := by decide +kernel
theorem d_M_check_31 : decode b_M_check 31 = .ok (.iconst 0, 1) := by decide +kernel
theorem d_M_check_32 : decode b_M_check 32 = .ok (.iload_n 3, 1) := by decide +kernel
theorem d_M_check_33 : decode b_M_check 33 = .ok (.ifCond .ne 17, 3) := by decide +kernel
theorem d_M_check_36 : decode b_M_check 36 = .ok (.aload_n 0, 1) := by decide +kernel
theorem d_M_check_37 : decode b_M_check 37 = .ok (.getfield 26, 3) := by decide +kernel
theorem d_M_check_40 : decode b_M_check 40 = .ok (.iload_n 1, 1) := by decide +kernel
theorem d_M_check_41 : decode b_M_check 41 = .ok (.iaload, 1) := by decide +kernel
theorem d_M_check_42 : decode b_M_check 42 = .ok (.iconst 5, 1) := by decide +kernel
theorem d_M_check_43 : decode b_M_check 43 = .ok (.if_icmp .eq 7, 3) := by decide +kernel
theorem d_M_check_46 : decode b_M_check 46 = .ok (.iconst 1, 1) := by decide +kernel
theorem d_M_check_47 : decode b_M_check 47 = .ok (.goto 4, 3) := by decide +kernel
theorem d_M_check_50 : decode b_M_check 50 = .ok (.iconst 0, 1) := by decide +kernel
theorem d_M_check_51 : decode b_M_check 51 = .ok (.iconst 0, 1) := by decide +kernel
theorem d_M_check_52 : decode b_M_check 52 = .ok (.invokevirtual 96, 3) := by decide +kernel
theorem d_M_check_55 : decode b_M_check 55 = .ok (.ifCond .eq 4, 3) := by decide +kernel
theorem d_M_check_58 : decode b_M_check 58 = .ok (.return_, 1) := by decide +kernel
theorem d_M_check_59 : decode b_M_check 59 = .ok (.aload_n 0, 1) := by decide +kernel
theorem d_M_check_60 : decode b_M_check 60 = .ok (.getfield 35, 3) := by decide +kernel
theorem d_M_check_63 : decode b_M_check 63 = .ok (.iload_n 1, 1) := by decide +kernel
theorem d_M_check_64 : decode b_M_check 64 = .ok (.dup2, 1) := by decide +kernel
theorem d_M_check_65 : decode b_M_check 65 = .ok (.iaload, 1) := by decide +kernel
theorem d_M_check_66 : decode b_M_check 66 = .ok (.iload_n 2, 1) := by decide +kernel
theorem d_M_check_67 : decode b_M_check 67 = .ok (.ior, 1) := by decide +kernel
theorem d_M_check_68 : decode b_M_check 68 = .ok (.iastore, 1) := by decide +kernel
theorem d_M_check_69 : decode b_M_check 69 = .ok (.aload_n 0, 1) := by decide +kernel
theorem d_M_check_70 : decode b_M_check 70 = .ok (.invokevirtual 103, 3) := by decide +kernel
theorem d_M_check_73 : decode b_M_check 73 = .ok (.pop, 1) := by decide +kernel
theorem d_M_check_74 : decode b_M_check 74 = .ok (.return_, 1) := by decide +kernel
theorem d_M_inside_0 : decode b_M_inside 0 = .ok (.aload_n 0, 1) := by decide +kernel
theorem d_M_inside_1 : decode b_M_inside 1 = .ok (.aload_n 0, 1) := by decide +kernel
theorem d_M_inside_2 : decode b_M_inside 2 = .ok (.iload_n 1, 1) := by decide +kernel
theorem d_M_inside_3 : decode b_M_inside 3 = .ok (.invokevirtual 91, 3) := by decide +kernel
theorem d_M_inside_6 : decode b_M_inside 6 = .ok (.ifCond .ne 7, 3) := by decide +kernel
theorem d_M_inside_9 : decode b_M_inside 9 = .ok (.iconst 1, 1) := by decide +kernel
theorem d_M_inside_10 : decode b_M_inside 10 = .ok (.goto 4, 3) := by decide +kernel
theorem d_M_inside_13 : decode b_M_inside 13 = .ok (.iconst 0, 1) := by decide +kernel
theorem d_M_inside_14 : decode b_M_inside 14 = .ok (.iload_n 2, 1) := by decide +kernel
theorem d_M_inside_15 : decode b_M_inside 15 = .ok (.iconst 0, 1) := by decide +kernel
theorem d_M_inside_16 : decode b_M_inside 16 = .ok (.sipush 1000, 3) := by decide +kernel
theorem d_M_inside_19 : decode b_M_inside 19 = .ok (.invokestatic 84, 3) := by decide +kernel
theorem d_M_inside_22 : decode b_M_inside 22 = .ok (.ifCond .ne 7, 3) := by decide +kernel
theorem d_M_inside_25 : decode b_M_inside 25 = .ok (.iconst 1, 1) := by decide +kernel
theorem d_M_inside_26 : decode b_M_inside 26 = .ok (.goto 4, 3) := by decide +kernel
theorem d_M_inside_29 : decode b_M_inside 29 = .ok (.iconst 0, 1) := by decide +kernel
theorem d_M_inside_30 : decode b_M_inside 30 = .ok (.aload_n 0, 1) := by decide +kernel
theorem d_M_inside_31 : decode b_M_inside 31 = .ok (.iload_n 1, 1) := by decide +kernel
theorem d_M_inside_32 : decode b_M_inside 32 = .ok (.invokevirtual 150, 3) := by decide +kernel
theorem d_M_inside_35 : decode b_M_inside 35 = .ok (.iconst 0, 1) := by decide +kernel
theorem d_M_inside_36 : decode b_M_inside 36 = .ok (.invokevirtual 96, 3) := by decide +kernel
theorem d_M_inside_39 : decode b_M_inside 39 = .ok (.ifCond .eq 4, 3) := by decide +kernel
theorem d_M_inside_42 : decode b_M_inside 42 = .ok (.return_, 1) := by decide +kernel
theorem d_M_inside_43 : decode b_M_inside 43 = .ok (.aload_n 0, 1) := by decide +kernel
theorem d_M_inside_44 : decode b_M_inside 44 = .ok (.getfield 60, 3) := by decide +kernel
theorem d_M_inside_47 : decode b_M_inside 47 = .ok (.iload_n 1, 1) := by decide +kernel
theorem d_M_inside_48 : decode b_M_inside 48 = .ok (.iload_n 2, 1) := by decide +kernel
theorem d_M_inside_49 : decode b_M_inside 49 = .ok (.iastore, 1) := by decide +kernel
theorem d_M_inside_50 : decode b_M_inside 50 = .ok (.aload_n 0, 1) := by decide +kernel
theorem d_M_inside_51 : decode b_M_inside 51 = .ok (.invokevirtual 103, 3) := by decide +kernel
theorem d_M_inside_54 : decode b_M_inside 54 = .ok (.pop, 1) := by decide +kernel
theorem d_M_inside_55 : decode b_M_inside 55 = .ok (.return_, 1) := by decide +kernel
theorem d_M_report_0 : decode b_M_report 0 = .ok (.aload_n 0, 1) := by decide +kernel
theorem d_M_report_1 : decode b_M_report 1 = .ok (.iload_n 1, 1) := by decide +kernel
theorem d_M_report_2 : decode b_M_report 2 = .ok (.invokevirtual 91, 3) := by decide +kernel
theorem d_M_report_5 : decode b_M_report 5 = .ok (.ifCond .eq 13, 3) := by decide +kernel
theorem d_M_report_8 : decode b_M_report 8 = .ok (.iload_n 2, 1) := by decide +kernel
theorem d_M_report_9 : decode b_M_report 9 = .ok (.iconst 0, 1) := by decide +kernel
theorem d_M_report_10 : decode b_M_report 10 = .ok (.bipush 7, 2) := by decide +kernel
theorem d_M_report_12 : decode b_M_report 12 = .ok (.invokestatic 84, 3) := by decide +kernel
theorem d_M_report_15 : decode b_M_report 15 = .ok (.ifCond .ne 7, 3) := by decide +kernel
theorem d_M_report_18 : decode b_M_report 18 = .ok (.iconst 1, 1) := by decide +kernel
theorem d_M_report_19 : decode b_M_report 19 = .ok (.goto 4, 3) := by decide +kernel
theorem d_M_report_22 : decode b_M_report 22 = .ok (.iconst 0, 1) := by decide +kernel
theorem d_M_report_23 : decode b_M_report 23 = .ok (.istore_n 3, 1) := by decide +kernel
theorem d_M_report_24 : decode b_M_report 24 = .ok (.aload_n 0, 1) := by decide +kernel
theorem d_M_report_25 : decode b_M_report 25 = .ok (.iload_n 3, 1) := by decide +kernel
theorem d_M_report_26 : decode b_M_report 26 = .ok (.iload_n 3, 1) := by decide +kernel
theorem d_M_report_27 : decode b_M_report 27 = .ok (.ifCond .ne 16, 3) := by decide +kernel
theorem d_M_report_30 : decode b_M_report 30 = .ok (.aload_n 0, 1) := by decide +kernel
theorem d_M_report_31 : decode b_M_report 31 = .ok (.getfield 50, 3) := by decide +kernel
theorem d_M_report_34 : decode b_M_report 34 = .ok (.iload_n 1, 1) := by decide +kernel
theorem d_M_report_35 : decode b_M_report 35 = .ok (.baload, 1) := by decide +kernel
theorem d_M_report_36 : decode b_M_report 36 = .ok (.ifCond .ne 7, 3) := by decide +kernel
theorem d_M_report_39 : decode b_M_report 39 = .ok (.iconst 1, 1) := by decide +kernel
theorem d_M_report_40 : decode b_M_report 40 = .ok (.goto 4, 3) := by decide +kernel
theorem d_M_report_43 : decode b_M_report 43 = .ok (.iconst 0, 1) := by decide +kernel
theorem d_M_report_44 : decode b_M_report 44 = .ok (.iconst 0, 1) := by decide +kernel
theorem d_M_report_45 : decode b_M_report 45 = .ok (.iconst 0, 1) := by decide +kernel
theorem d_M_report_46 : decode b_M_report 46 = .ok (.invokevirtual 96, 3) := by decide +kernel
theorem d_M_report_49 : decode b_M_report 49 = .ok (.ifCond .eq 4, 3) := by decide +kernel
theorem d_M_report_52 : decode b_M_report 52 = .ok (.return_, 1) := by decide +kernel
theorem d_M_report_53 : decode b_M_report 53 = .ok (.aload_n 0, 1) := by decide +kernel
theorem d_M_report_54 : decode b_M_report 54 = .ok (.getfield 57, 3) := by decide +kernel
theorem d_M_report_57 : decode b_M_report 57 = .ok (.iload_n 1, 1) := by decide +kernel
theorem d_M_report_58 : decode b_M_report 58 = .ok (.dup2, 1) := by decide +kernel
theorem d_M_report_59 : decode b_M_report 59 = .ok (.iaload, 1) := by decide +kernel
theorem d_M_report_60 : decode b_M_report 60 = .ok (.iconst 1, 1) := by decide +kernel
theorem d_M_report_61 : decode b_M_report 61 = .ok (.iload_n 2, 1) := by decide +kernel
theorem d_M_report_62 : decode b_M_report 62 = .ok (.ishl, 1) := by decide +kernel
theorem d_M_report_63 : decode b_M_report 63 = .ok (.ior, 1) := by decide +kernel
theorem d_M_report_64 : decode b_M_report 64 = .ok (.iastore, 1) := by decide +kernel
theorem d_M_report_65 : decode b_M_report 65 = .ok (.aload_n 0, 1) := by decide +kernel
theorem d_M_report_66 : decode b_M_report 66 = .ok (.invokevirtual 103, 3) := by decide +kernel
theorem d_M_report_69 : decode b_M_report 69 = .ok (.pop, 1) := by decide +kernel
theorem d_M_report_70 : decode b_M_report 70 = .ok (.return_, 1) := by decide +kernel
theorem d_M_watch_0 : decode b_M_watch 0 = .ok (.aload_n 0, 1) := by decide +kernel
theorem d_M_watch_1 : decode b_M_watch 1 = .ok (.aload_n 0, 1) := by decide +kernel
theorem d_M_watch_2 : decode b_M_watch 2 = .ok (.iload_n 1, 1) := by decide +kernel
theorem d_M_watch_3 : decode b_M_watch 3 = .ok (.invokevirtual 91, 3) := by decide +kernel
theorem d_M_watch_6 : decode b_M_watch 6 = .ok (.ifCond .ne 7, 3) := by decide +kernel
theorem d_M_watch_9 : decode b_M_watch 9 = .ok (.iconst 1, 1) := by decide +kernel
theorem d_M_watch_10 : decode b_M_watch 10 = .ok (.goto 4, 3) := by decide +kernel
theorem d_M_watch_13 : decode b_M_watch 13 = .ok (.iconst 0, 1) := by decide +kernel
theorem d_M_watch_14 : decode b_M_watch 14 = .ok (.iload_n 2, 1) := by decide +kernel
theorem d_M_watch_15 : decode b_M_watch 15 = .ok (.iconst (-1), 1) := by decide +kernel
theorem d_M_watch_16 : decode b_M_watch 16 = .ok (.ldc 145, 2) := by decide +kernel
theorem d_M_watch_18 : decode b_M_watch 18 = .ok (.invokestatic 84, 3) := by decide +kernel
theorem d_M_watch_21 : decode b_M_watch 21 = .ok (.ifCond .ne 7, 3) := by decide +kernel
theorem d_M_watch_24 : decode b_M_watch 24 = .ok (.iconst 1, 1) := by decide +kernel
theorem d_M_watch_25 : decode b_M_watch 25 = .ok (.goto 4, 3) := by decide +kernel
theorem d_M_watch_28 : decode b_M_watch 28 = .ok (.iconst 0, 1) := by decide +kernel
theorem d_M_watch_29 : decode b_M_watch 29 = .ok (.aload_n 0, 1) := by decide +kernel
theorem d_M_watch_30 : decode b_M_watch 30 = .ok (.iload_n 1, 1) := by decide +kernel
theorem d_M_watch_31 : decode b_M_watch 31 = .ok (.invokevirtual 150, 3) := by decide +kernel
theorem d_M_watch_34 : decode b_M_watch 34 = .ok (.iconst 0, 1) := by decide +kernel
theorem d_M_watch_35 : decode b_M_watch 35 = .ok (.invokevirtual 96, 3) := by decide +kernel
theorem d_M_watch_38 : decode b_M_watch 38 = .ok (.ifCond .eq 4, 3) := by decide +kernel
theorem d_M_watch_41 : decode b_M_watch 41 = .ok (.return_, 1) := by decide +kernel
theorem d_M_watch_42 : decode b_M_watch 42 = .ok (.aload_n 0, 1) := by decide +kernel
theorem d_M_watch_43 : decode b_M_watch 43 = .ok (.getfield 63, 3) := by decide +kernel
theorem d_M_watch_46 : decode b_M_watch 46 = .ok (.iload_n 1, 1) := by decide +kernel
theorem d_M_watch_47 : decode b_M_watch 47 = .ok (.iload_n 2, 1) := by decide +kernel
theorem d_M_watch_48 : decode b_M_watch 48 = .ok (.iastore, 1) := by decide +kernel
theorem d_M_watch_49 : decode b_M_watch 49 = .ok (.aload_n 0, 1) := by decide +kernel
theorem d_M_watch_50 : decode b_M_watch 50 = .ok (.invokevirtual 103, 3) := by decide +kernel
theorem d_M_watch_53 : decode b_M_watch 53 = .ok (.pop, 1) := by decide +kernel
theorem d_M_watch_54 : decode b_M_watch 54 = .ok (.return_, 1) := by decide +kernel
theorem d_M_unitAt_0 : decode b_M_unitAt 0 = .ok (.aload_n 0, 1) := by decide +kernel
theorem d_M_unitAt_1 : decode b_M_unitAt 1 = .ok (.aload_n 0, 1) := by decide +kernel
theorem d_M_unitAt_2 : decode b_M_unitAt 2 = .ok (.iload_n 1, 1) := by decide +kernel
theorem d_M_unitAt_3 : decode b_M_unitAt 3 = .ok (.invokevirtual 107, 3) := by decide +kernel
theorem d_M_unitAt_6 : decode b_M_unitAt 6 = .ok (.ifCond .eq 12, 3) := by decide +kernel
theorem d_M_unitAt_9 : decode b_M_unitAt 9 = .ok (.iload_n 2, 1) := by decide +kernel
theorem d_M_unitAt_10 : decode b_M_unitAt 10 = .ok (.iconst 0, 1) := by decide +kernel
theorem d_M_unitAt_11 : decode b_M_unitAt 11 = .ok (.iconst 4, 1) := by decide +kernel
theorem d_M_unitAt_12 : decode b_M_unitAt 12 = .ok (.invokestatic 84, 3) := by decide +kernel
theorem d_M_unitAt_15 : decode b_M_unitAt 15 = .ok (.ifCond .ne 7, 3) := by decide +kernel
theorem d_M_unitAt_18 : decode b_M_unitAt 18 = .ok (.iconst 1, 1) := by decide +kernel
theorem d_M_unitAt_19 : decode b_M_unitAt 19 = .ok (.goto 4, 3) := by decide +kernel
theorem d_M_unitAt_22 : decode b_M_unitAt 22 = .ok (.iconst 0, 1) := by decide +kernel
theorem d_M_unitAt_23 : decode b_M_unitAt 23 = .ok (.iconst 0, 1) := by decide +kernel
theorem d_M_unitAt_24 : decode b_M_unitAt 24 = .ok (.iconst 0, 1) := by decide +kernel
theorem d_M_unitAt_25 : decode b_M_unitAt 25 = .ok (.iconst 0, 1) := by decide +kernel
theorem d_M_unitAt_26 : decode b_M_unitAt 26 = .ok (.invokevirtual 96, 3) := by decide +kernel
theorem d_M_unitAt_29 : decode b_M_unitAt 29 = .ok (.ifCond .eq 5, 3) := by decide +kernel
theorem d_M_unitAt_32 : decode b_M_unitAt 32 = .ok (.iconst 0, 1) := by decide +kernel
theorem d_M_unitAt_33 : decode b_M_unitAt 33 = .ok (.ireturn, 1) := by decide +kernel
theorem d_M_unitAt_34 : decode b_M_unitAt 34 = .ok (.iload_n 2, 1) := by decide +kernel
theorem d_M_unitAt_35 : decode b_M_unitAt 35 = .ok (.tableswitch 80 0 3 #[29, 36, 43, 50], 29) := by decide +kernel
theorem d_M_unitAt_64 : decode b_M_unitAt 64 = .ok (.aload_n 0, 1) := by decide +kernel
theorem d_M_unitAt_65 : decode b_M_unitAt 65 = .ok (.getfield 26, 3) := by decide +kernel
theorem d_M_unitAt_68 : decode b_M_unitAt 68 = .ok (.iload_n 1, 1) := by decide +kernel
theorem d_M_unitAt_69 : decode b_M_unitAt 69 = .ok (.iaload, 1) := by decide +kernel
theorem d_M_unitAt_70 : decode b_M_unitAt 70 = .ok (.ireturn, 1) := by decide +kernel
theorem d_M_unitAt_71 : decode b_M_unitAt 71 = .ok (.aload_n 0, 1) := by decide +kernel
theorem d_M_unitAt_72 : decode b_M_unitAt 72 = .ok (.getfield 29, 3) := by decide +kernel
theorem d_M_unitAt_75 : decode b_M_unitAt 75 = .ok (.iload_n 1, 1) := by decide +kernel
theorem d_M_unitAt_76 : decode b_M_unitAt 76 = .ok (.iaload, 1) := by decide +kernel
theorem d_M_unitAt_77 : decode b_M_unitAt 77 = .ok (.ireturn, 1) := by decide +kernel
theorem d_M_unitAt_78 : decode b_M_unitAt 78 = .ok (.aload_n 0, 1) := by decide +kernel
theorem d_M_unitAt_79 : decode b_M_unitAt 79 = .ok (.getfield 32, 3) := by decide +kernel
theorem d_M_unitAt_82 : decode b_M_unitAt 82 = .ok (.iload_n 1, 1) := by decide +kernel
theorem d_M_unitAt_83 : decode b_M_unitAt 83 = .ok (.iaload, 1) := by decide +kernel
theorem d_M_unitAt_84 : decode b_M_unitAt 84 = .ok (.ireturn, 1) := by decide +kernel
theorem d_M_unitAt_85 : decode b_M_unitAt 85 = .ok (.aload_n 0, 1) := by decide +kernel
theorem d_M_unitAt_86 : decode b_M_unitAt 86 = .ok (.getfield 26, 3) := by decide +kernel
theorem d_M_unitAt_89 : decode b_M_unitAt 89 = .ok (.iload_n 1, 1) := by decide +kernel
theorem d_M_unitAt_90 : decode b_M_unitAt 90 = .ok (.iaload, 1) := by decide +kernel
theorem d_M_unitAt_91 : decode b_M_unitAt 91 = .ok (.iconst 5, 1) := by decide +kernel
theorem d_M_unitAt_92 : decode b_M_unitAt 92 = .ok (.if_icmp .ne 21, 3) := by decide +kernel
theorem d_M_unitAt_95 : decode b_M_unitAt 95 = .ok (.aload_n 0, 1) := by decide +kernel
theorem d_M_unitAt_96 : decode b_M_unitAt 96 = .ok (.getfield 23, 3) := by decide +kernel
theorem d_M_unitAt_99 : decode b_M_unitAt 99 = .ok (.iload_n 1, 1) := by decide +kernel
theorem d_M_unitAt_100 : decode b_M_unitAt 100 = .ok (.iaload, 1) := by decide +kernel
theorem d_M_unitAt_101 : decode b_M_unitAt 101 = .ok (.aload_n 0, 1) := by decide +kernel
theorem d_M_unitAt_102 : decode b_M_unitAt 102 = .ok (.getfield 35, 3) := by decide +kernel
theorem d_M_unitAt_105 : decode b_M_unitAt 105 = .ok (.iload_n 1, 1) := by decide +kernel
theorem d_M_unitAt_106 : decode b_M_unitAt 106 = .ok (.iaload, 1) := by decide +kernel
theorem d_M_unitAt_107 : decode b_M_unitAt 107 = .ok (.iconst (-1), 1) := by decide +kernel
theorem d_M_unitAt_108 : decode b_M_unitAt 108 = .ok (.ixor, 1) := by decide +kernel
theorem d_M_unitAt_109 : decode b_M_unitAt 109 = .ok (.iand, 1) := by decide +kernel
theorem d_M_unitAt_110 : decode b_M_unitAt 110 = .ok (.goto 4, 3) := by decide +kernel
theorem d_M_unitAt_113 : decode b_M_unitAt 113 = .ok (.iconst 0, 1) := by decide +kernel
theorem d_M_unitAt_114 : decode b_M_unitAt 114 = .ok (.ireturn, 1) := by decide +kernel
theorem d_M_unitAt_115 : decode b_M_unitAt 115 = .ok (.aload_n 0, 1) := by decide +kernel
theorem d_M_unitAt_116 : decode b_M_unitAt 116 = .ok (.getfield 38, 3) := by decide +kernel
theorem d_M_unitAt_119 : decode b_M_unitAt 119 = .ok (.iload_n 1, 1) := by decide +kernel
theorem d_M_unitAt_120 : decode b_M_unitAt 120 = .ok (.iaload, 1) := by decide +kernel
theorem d_M_unitAt_121 : decode b_M_unitAt 121 = .ok (.ireturn, 1) := by decide +kernel
theorem d_M_incidentAt_0 : decode b_M_incidentAt 0 = .ok (.aload_n 0, 1) := by decide +kernel
theorem d_M_incidentAt_1 : decode b_M_incidentAt 1 = .ok (.aload_n 0, 1) := by decide +kernel
theorem d_M_incidentAt_2 : decode b_M_incidentAt 2 = .ok (.iload_n 1, 1) := by decide +kernel
theorem d_M_incidentAt_3 : decode b_M_incidentAt 3 = .ok (.invokevirtual 91, 3) := by decide +kernel
theorem d_M_incidentAt_6 : decode b_M_incidentAt 6 = .ok (.ifCond .eq 13, 3) := by decide +kernel
theorem d_M_incidentAt_9 : decode b_M_incidentAt 9 = .ok (.iload_n 2, 1) := by decide +kernel
theorem d_M_incidentAt_10 : decode b_M_incidentAt 10 = .ok (.iconst 0, 1) := by decide +kernel
theorem d_M_incidentAt_11 : decode b_M_incidentAt 11 = .ok (.bipush 7, 2) := by decide +kernel
theorem d_M_incidentAt_13 : decode b_M_incidentAt 13 = .ok (.invokestatic 84, 3) := by decide +kernel
theorem d_M_incidentAt_16 : decode b_M_incidentAt 16 = .ok (.ifCond .ne 7, 3) := by decide +kernel
theorem d_M_incidentAt_19 : decode b_M_incidentAt 19 = .ok (.iconst 1, 1) := by decide +kernel
theorem d_M_incidentAt_20 : decode b_M_incidentAt 20 = .ok (.goto 4, 3) := by decide +kernel
theorem d_M_incidentAt_23 : decode b_M_incidentAt 23 = .ok (.iconst 0, 1) := by decide +kernel
theorem d_M_incidentAt_24 : decode b_M_incidentAt 24 = .ok (.iconst 0, 1) := by decide +kernel
theorem d_M_incidentAt_25 : decode b_M_incidentAt 25 = .ok (.iconst 0, 1) := by decide +kernel
theorem d_M_incidentAt_26 : decode b_M_incidentAt 26 = .ok (.iconst 0, 1) := by decide +kernel
theorem d_M_incidentAt_27 : decode b_M_incidentAt 27 = .ok (.invokevirtual 96, 3) := by decide +kernel
theorem d_M_incidentAt_30 : decode b_M_incidentAt 30 = .ok (.ifCond .eq 5, 3) := by decide +kernel
theorem d_M_incidentAt_33 : decode b_M_incidentAt 33 = .ok (.iconst 0, 1) := by decide +kernel
theorem d_M_incidentAt_34 : decode b_M_incidentAt 34 = .ok (.ireturn, 1) := by decide +kernel
theorem d_M_incidentAt_35 : decode b_M_incidentAt 35 = .ok (.iload_n 2, 1) := by decide +kernel
theorem d_M_incidentAt_36 : decode b_M_incidentAt 36 = .ok (.tableswitch 99 0 6 #[44, 59, 65, 71, 78, 85, 92], 44) := by decide +kernel
theorem d_M_incidentAt_80 : decode b_M_incidentAt 80 = .ok (.aload_n 0, 1) := by decide +kernel
theorem d_M_incidentAt_81 : decode b_M_incidentAt 81 = .ok (.getfield 50, 3) := by decide +kernel
theorem d_M_incidentAt_84 : decode b_M_incidentAt 84 = .ok (.iload_n 1, 1) := by decide +kernel
theorem d_M_incidentAt_85 : decode b_M_incidentAt 85 = .ok (.baload, 1) := by decide +kernel
theorem d_M_incidentAt_86 : decode b_M_incidentAt 86 = .ok (.ifCond .eq 7, 3) := by decide +kernel
theorem d_M_incidentAt_89 : decode b_M_incidentAt 89 = .ok (.iconst 1, 1) := by decide +kernel
theorem d_M_incidentAt_90 : decode b_M_incidentAt 90 = .ok (.goto 4, 3) := by decide +kernel
theorem d_M_incidentAt_93 : decode b_M_incidentAt 93 = .ok (.iconst 0, 1) := by decide +kernel
theorem d_M_incidentAt_94 : decode b_M_incidentAt 94 = .ok (.ireturn, 1) := by decide +kernel
theorem d_M_incidentAt_95 : decode b_M_incidentAt 95 = .ok (.aload_n 0, 1) := by decide +kernel
theorem d_M_incidentAt_96 : decode b_M_incidentAt 96 = .ok (.iload_n 1, 1) := by decide +kernel
theorem d_M_incidentAt_97 : decode b_M_incidentAt 97 = .ok (.invokevirtual 128, 3) := by decide +kernel
theorem d_M_incidentAt_100 : decode b_M_incidentAt 100 = .ok (.ireturn, 1) := by decide +kernel
theorem d_M_incidentAt_101 : decode b_M_incidentAt 101 = .ok (.aload_n 0, 1) := by decide +kernel
theorem d_M_incidentAt_102 : decode b_M_incidentAt 102 = .ok (.iload_n 1, 1) := by decide +kernel
theorem d_M_incidentAt_103 : decode b_M_incidentAt 103 = .ok (.invokevirtual 132, 3) := by decide +kernel
theorem d_M_incidentAt_106 : decode b_M_incidentAt 106 = .ok (.ireturn, 1) := by decide +kernel
theorem d_M_incidentAt_107 : decode b_M_incidentAt 107 = .ok (.aload_n 0, 1) := by decide +kernel
theorem d_M_incidentAt_108 : decode b_M_incidentAt 108 = .ok (.getfield 66, 3) := by decide +kernel
theorem d_M_incidentAt_111 : decode b_M_incidentAt 111 = .ok (.iload_n 1, 1) := by decide +kernel
theorem d_M_incidentAt_112 : decode b_M_incidentAt 112 = .ok (.iaload, 1) := by decide +kernel
theorem d_M_incidentAt_113 : decode b_M_incidentAt 113 = .ok (.ireturn, 1) := by decide +kernel
theorem d_M_incidentAt_114 : decode b_M_incidentAt 114 = .ok (.aload_n 0, 1) := by decide +kernel
theorem d_M_incidentAt_115 : decode b_M_incidentAt 115 = .ok (.getfield 69, 3) := by decide +kernel
theorem d_M_incidentAt_118 : decode b_M_incidentAt 118 = .ok (.iload_n 1, 1) := by decide +kernel
theorem d_M_incidentAt_119 : decode b_M_incidentAt 119 = .ok (.iaload, 1) := by decide +kernel
theorem d_M_incidentAt_120 : decode b_M_incidentAt 120 = .ok (.ireturn, 1) := by decide +kernel
theorem d_M_incidentAt_121 : decode b_M_incidentAt 121 = .ok (.aload_n 0, 1) := by decide +kernel
theorem d_M_incidentAt_122 : decode b_M_incidentAt 122 = .ok (.getfield 72, 3) := by decide +kernel
theorem d_M_incidentAt_125 : decode b_M_incidentAt 125 = .ok (.iload_n 1, 1) := by decide +kernel
theorem d_M_incidentAt_126 : decode b_M_incidentAt 126 = .ok (.iaload, 1) := by decide +kernel
theorem d_M_incidentAt_127 : decode b_M_incidentAt 127 = .ok (.ireturn, 1) := by decide +kernel
theorem d_M_incidentAt_128 : decode b_M_incidentAt 128 = .ok (.aload_n 0, 1) := by decide +kernel
theorem d_M_incidentAt_129 : decode b_M_incidentAt 129 = .ok (.getfield 57, 3) := by decide +kernel
theorem d_M_incidentAt_132 : decode b_M_incidentAt 132 = .ok (.iload_n 1, 1) := by decide +kernel
theorem d_M_incidentAt_133 : decode b_M_incidentAt 133 = .ok (.iaload, 1) := by decide +kernel
theorem d_M_incidentAt_134 : decode b_M_incidentAt 134 = .ok (.ireturn, 1) := by decide +kernel
theorem d_M_incidentAt_135 : decode b_M_incidentAt 135 = .ok (.aload_n 0, 1) := by decide +kernel
theorem d_M_incidentAt_136 : decode b_M_incidentAt 136 = .ok (.getfield 50, 3) := by decide +kernel
theorem d_M_incidentAt_139 : decode b_M_incidentAt 139 = .ok (.iload_n 1, 1) := by decide +kernel
theorem d_M_incidentAt_140 : decode b_M_incidentAt 140 = .ok (.baload, 1) := by decide +kernel
theorem d_M_incidentAt_141 : decode b_M_incidentAt 141 = .ok (.ifCond .eq 29, 3) := by decide +kernel
theorem d_M_incidentAt_144 : decode b_M_incidentAt 144 = .ok (.aload_n 0, 1) := by decide +kernel
theorem d_M_incidentAt_145 : decode b_M_incidentAt 145 = .ok (.getfield 63, 3) := by decide +kernel
theorem d_M_incidentAt_148 : decode b_M_incidentAt 148 = .ok (.iload_n 1, 1) := by decide +kernel
theorem d_M_incidentAt_149 : decode b_M_incidentAt 149 = .ok (.iaload, 1) := by decide +kernel
theorem d_M_incidentAt_150 : decode b_M_incidentAt 150 = .ok (.ifCond .lt 20, 3) := by decide +kernel
theorem d_M_incidentAt_153 : decode b_M_incidentAt 153 = .ok (.aload_n 0, 1) := by decide +kernel
theorem d_M_incidentAt_154 : decode b_M_incidentAt 154 = .ok (.getfield 100, 3) := by decide +kernel
theorem d_M_incidentAt_157 : decode b_M_incidentAt 157 = .ok (.aload_n 0, 1) := by decide +kernel
theorem d_M_incidentAt_158 : decode b_M_incidentAt 158 = .ok (.getfield 63, 3) := by decide +kernel
theorem d_M_incidentAt_161 : decode b_M_incidentAt 161 = .ok (.iload_n 1, 1) := by decide +kernel
theorem d_M_incidentAt_162 : decode b_M_incidentAt 162 = .ok (.iaload, 1) := by decide +kernel
theorem d_M_incidentAt_163 : decode b_M_incidentAt 163 = .ok (.if_icmp .lt 7, 3) := by decide +kernel
theorem d_M_incidentAt_166 : decode b_M_incidentAt 166 = .ok (.iconst 1, 1) := by decide +kernel
theorem d_M_incidentAt_167 : decode b_M_incidentAt 167 = .ok (.goto 4, 3) := by decide +kernel
theorem d_M_incidentAt_170 : decode b_M_incidentAt 170 = .ok (.iconst 0, 1) := by decide +kernel
theorem d_M_incidentAt_171 : decode b_M_incidentAt 171 = .ok (.ireturn, 1) := by decide +kernel
theorem d_M_count_0 : decode b_M_count 0 = .ok (.aload_n 0, 1) := by decide +kernel
theorem d_M_count_1 : decode b_M_count 1 = .ok (.iload_n 1, 1) := by decide +kernel
theorem d_M_count_2 : decode b_M_count 2 = .ok (.iconst 0, 1) := by decide +kernel
theorem d_M_count_3 : decode b_M_count 3 = .ok (.iconst 3, 1) := by decide +kernel
theorem d_M_count_4 : decode b_M_count 4 = .ok (.invokestatic 84, 3) := by decide +kernel
theorem d_M_count_7 : decode b_M_count 7 = .ok (.ifCond .ne 18, 3) := by decide +kernel
theorem d_M_count_10 : decode b_M_count 10 = .ok (.iload_n 1, 1) := by decide +kernel
theorem d_M_count_11 : decode b_M_count 11 = .ok (.bipush 10, 2) := by decide +kernel
theorem d_M_count_13 : decode b_M_count 13 = .ok (.bipush 15, 2) := by decide +kernel
theorem d_M_count_15 : decode b_M_count 15 = .ok (.invokestatic 84, 3) := by decide +kernel
theorem d_M_count_18 : decode b_M_count 18 = .ok (.ifCond .ne 7, 3) := by decide +kernel
theorem d_M_count_21 : decode b_M_count 21 = .ok (.iconst 1, 1) := by decide +kernel
theorem d_M_count_22 : decode b_M_count 22 = .ok (.goto 4, 3) := by decide +kernel
theorem d_M_count_25 : decode b_M_count 25 = .ok (.iconst 0, 1) := by decide +kernel
theorem d_M_count_26 : decode b_M_count 26 = .ok (.iconst 0, 1) := by decide +kernel
theorem d_M_count_27 : decode b_M_count 27 = .ok (.iconst 0, 1) := by decide +kernel
theorem d_M_count_28 : decode b_M_count 28 = .ok (.iconst 0, 1) := by decide +kernel
theorem d_M_count_29 : decode b_M_count 29 = .ok (.invokevirtual 96, 3) := by decide +kernel
theorem d_M_count_32 : decode b_M_count 32 = .ok (.ifCond .eq 5, 3) := by decide +kernel
theorem d_M_count_35 : decode b_M_count 35 = .ok (.iconst 0, 1) := by decide +kernel
theorem d_M_count_36 : decode b_M_count 36 = .ok (.ireturn, 1) := by decide +kernel
theorem d_M_count_37 : decode b_M_count 37 = .ok (.iload_n 1, 1) := by decide +kernel
theorem d_M_count_38 : decode b_M_count 38 = .ok (.bipush 9, 2) := by decide +kernel
theorem d_M_count_40 : decode b_M_count 40 = .ok (.if_icmp .le 13, 3) := by decide +kernel
theorem d_M_count_43 : decode b_M_count 43 = .ok (.aload_n 0, 1) := by decide +kernel
theorem d_M_count_44 : decode b_M_count 44 = .ok (.getfield 44, 3) := by decide +kernel
theorem d_M_count_47 : decode b_M_count 47 = .ok (.iload_n 1, 1) := by decide +kernel
theorem d_M_count_48 : decode b_M_count 48 = .ok (.bipush 10, 2) := by decide +kernel
theorem d_M_count_50 : decode b_M_count 50 = .ok (.isub, 1) := by decide +kernel
theorem d_M_count_51 : decode b_M_count 51 = .ok (.iaload, 1) := by decide +kernel
theorem d_M_count_52 : decode b_M_count 52 = .ok (.ireturn, 1) := by decide +kernel
theorem d_M_count_53 : decode b_M_count 53 = .ok (.iconst 0, 1) := by decide +kernel
theorem d_M_count_54 : decode b_M_count 54 = .ok (.istore_n 2, 1) := by decide +kernel
theorem d_M_count_55 : decode b_M_count 55 = .ok (.iconst 0, 1) := by decide +kernel
theorem d_M_count_56 : decode b_M_count 56 = .ok (.istore_n 3, 1) := by decide +kernel
theorem d_M_count_57 : decode b_M_count 57 = .ok (.iload_n 3, 1) := by decide +kernel
theorem d_M_count_58 : decode b_M_count 58 = .ok (.aload_n 0, 1) := by decide +kernel
theorem d_M_count_59 : decode b_M_count 59 = .ok (.getfield 81, 3) := by decide +kernel
theorem d_M_count_62 : decode b_M_count 62 = .ok (.if_icmp .ge 31, 3) := by decide +kernel
theorem d_M_count_65 : decode b_M_count 65 = .ok (.iload_n 1, 1) := by decide +kernel
theorem d_M_count_66 : decode b_M_count 66 = .ok (.iconst 1, 1) := by decide +kernel
theorem d_M_count_67 : decode b_M_count 67 = .ok (.if_icmp .ne 26, 3) := by decide +kernel
theorem d_M_count_70 : decode b_M_count 70 = .ok (.iload_n 2, 1) := by decide +kernel
theorem d_M_count_71 : decode b_M_count 71 = .ok (.aload_n 0, 1) := by decide +kernel
theorem d_M_count_72 : decode b_M_count 72 = .ok (.getfield 26, 3) := by decide +kernel
theorem d_M_count_75 : decode b_M_count 75 = .ok (.iload_n 3, 1) := by decide +kernel
theorem d_M_count_76 : decode b_M_count 76 = .ok (.iaload, 1) := by decide +kernel
theorem d_M_count_77 : decode b_M_count 77 = .ok (.ifCond .ne 7, 3) := by decide +kernel
theorem d_M_count_80 : decode b_M_count 80 = .ok (.iconst 1, 1) := by decide +kernel
theorem d_M_count_81 : decode b_M_count 81 = .ok (.goto 4, 3) := by decide +kernel
theorem d_M_count_84 : decode b_M_count 84 = .ok (.iconst 0, 1) := by decide +kernel
theorem d_M_count_85 : decode b_M_count 85 = .ok (.iadd, 1) := by decide +kernel
theorem d_M_count_86 : decode b_M_count 86 = .ok (.istore_n 2, 1) := by decide +kernel
theorem d_M_count_87 : decode b_M_count 87 = .ok (.iinc 3 1, 3) := by decide +kernel
theorem d_M_count_90 : decode b_M_count 90 = .ok (.goto (-33), 3) := by decide +kernel
theorem d_M_count_93 : decode b_M_count 93 = .ok (.iconst 0, 1) := by decide +kernel
theorem d_M_count_94 : decode b_M_count 94 = .ok (.istore_n 3, 1) := by decide +kernel
theorem d_M_count_95 : decode b_M_count 95 = .ok (.iload_n 3, 1) := by decide +kernel
theorem d_M_count_96 : decode b_M_count 96 = .ok (.aload_n 0, 1) := by decide +kernel
theorem d_M_count_97 : decode b_M_count 97 = .ok (.getfield 88, 3) := by decide +kernel
theorem d_M_count_100 : decode b_M_count 100 = .ok (.if_icmp .ge 31, 3) := by decide +kernel
theorem d_M_count_103 : decode b_M_count 103 = .ok (.iload_n 1, 1) := by decide +kernel
theorem d_M_count_104 : decode b_M_count 104 = .ok (.iconst 3, 1) := by decide +kernel
theorem d_M_count_105 : decode b_M_count 105 = .ok (.if_icmp .ne 26, 3) := by decide +kernel
theorem d_M_count_108 : decode b_M_count 108 = .ok (.iload_n 2, 1) := by decide +kernel
theorem d_M_count_109 : decode b_M_count 109 = .ok (.aload_n 0, 1) := by decide +kernel
theorem d_M_count_110 : decode b_M_count 110 = .ok (.getfield 50, 3) := by decide +kernel
theorem d_M_count_113 : decode b_M_count 113 = .ok (.iload_n 3, 1) := by decide +kernel
theorem d_M_count_114 : decode b_M_count 114 = .ok (.baload, 1) := by decide +kernel
theorem d_M_count_115 : decode b_M_count 115 = .ok (.ifCond .eq 7, 3) := by decide +kernel
theorem d_M_count_118 : decode b_M_count 118 = .ok (.iconst 1, 1) := by decide +kernel
theorem d_M_count_119 : decode b_M_count 119 = .ok (.goto 4, 3) := by decide +kernel
theorem d_M_count_122 : decode b_M_count 122 = .ok (.iconst 0, 1) := by decide +kernel
theorem d_M_count_123 : decode b_M_count 123 = .ok (.iadd, 1) := by decide +kernel
theorem d_M_count_124 : decode b_M_count 124 = .ok (.istore_n 2, 1) := by decide +kernel
theorem d_M_count_125 : decode b_M_count 125 = .ok (.iinc 3 1, 3) := by decide +kernel
theorem d_M_count_128 : decode b_M_count 128 = .ok (.goto (-33), 3) := by decide +kernel
theorem d_M_count_131 : decode b_M_count 131 = .ok (.iload_n 1, 1) := by decide +kernel
theorem d_M_count_132 : decode b_M_count 132 = .ok (.ifCond .ne 10, 3) := by decide +kernel
theorem d_M_count_135 : decode b_M_count 135 = .ok (.aload_n 0, 1) := by decide +kernel
theorem d_M_count_136 : decode b_M_count 136 = .ok (.getfield 100, 3) := by decide +kernel
theorem d_M_count_139 : decode b_M_count 139 = .ok (.goto 16, 3) := by decide +kernel
theorem d_M_count_142 : decode b_M_count 142 = .ok (.iload_n 1, 1) := by decide +kernel
theorem d_M_count_143 : decode b_M_count 143 = .ok (.iconst 2, 1) := by decide +kernel
theorem d_M_count_144 : decode b_M_count 144 = .ok (.if_icmp .ne 10, 3) := by decide +kernel
theorem d_M_count_147 : decode b_M_count 147 = .ok (.aload_n 0, 1) := by decide +kernel
theorem d_M_count_148 : decode b_M_count 148 = .ok (.getfield 121, 3) := by decide +kernel
theorem d_M_count_151 : decode b_M_count 151 = .ok (.goto 4, 3) := by decide +kernel
theorem d_M_count_154 : decode b_M_count 154 = .ok (.iload_n 2, 1) := by decide +kernel
theorem d_M_count_155 : decode b_M_count 155 = .ok (.ireturn, 1) := by decide +kernel
