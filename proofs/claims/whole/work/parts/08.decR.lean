theorem d_R_init_0 : decode b_R_init 0 = .ok (.aload_n 0, 1) := by decide +kernel
theorem d_R_init_1 : decode b_R_init 1 = .ok (.invokespecial 1, 3) := by decide +kernel
theorem d_R_init_4 : decode b_R_init 4 = .ok (.aload_n 0, 1) := by decide +kernel
theorem d_R_init_5 : decode b_R_init 5 = .ok (.new 7, 3) := by decide +kernel
theorem d_R_init_8 : decode b_R_init 8 = .ok (.dup, 1) := by decide +kernel
theorem d_R_init_9 : decode b_R_init 9 = .ok (.invokespecial 9, 3) := by decide +kernel
theorem d_R_init_12 : decode b_R_init 12 = .ok (.putfield 10, 3) := by decide +kernel
theorem d_R_init_15 : decode b_R_init 15 = .ok (.aload_n 0, 1) := by decide +kernel
theorem d_R_init_16 : decode b_R_init 16 = .ok (.new 16, 3) := by decide +kernel
theorem d_R_init_19 : decode b_R_init 19 = .ok (.dup, 1) := by decide +kernel
theorem d_R_init_20 : decode b_R_init 20 = .ok (.invokespecial 18, 3) := by decide +kernel
theorem d_R_init_23 : decode b_R_init 23 = .ok (.putfield 19, 3) := by decide +kernel
theorem d_R_init_26 : decode b_R_init 26 = .ok (.aload_n 0, 1) := by decide +kernel
theorem d_R_init_27 : decode b_R_init 27 = .ok (.new 23, 3) := by decide +kernel
theorem d_R_init_30 : decode b_R_init 30 = .ok (.dup, 1) := by decide +kernel
theorem d_R_init_31 : decode b_R_init 31 = .ok (.invokespecial 25, 3) := by decide +kernel
theorem d_R_init_34 : decode b_R_init 34 = .ok (.putfield 26, 3) := by decide +kernel
theorem d_R_init_37 : decode b_R_init 37 = .ok (.aload_n 0, 1) := by decide +kernel
theorem d_R_init_38 : decode b_R_init 38 = .ok (.bipush 6, 2) := by decide +kernel
theorem d_R_init_40 : decode b_R_init 40 = .ok (.newarray .int, 2) := by decide +kernel
theorem d_R_init_42 : decode b_R_init 42 = .ok (.putfield 30, 3) := by decide +kernel
theorem d_R_init_45 : decode b_R_init 45 = .ok (.aload_n 0, 1) := by decide +kernel
theorem d_R_init_46 : decode b_R_init 46 = .ok (.iconst 0, 1) := by decide +kernel
theorem d_R_init_47 : decode b_R_init 47 = .ok (.putfield 34, 3) := by decide +kernel
theorem d_R_init_50 : decode b_R_init 50 = .ok (.aload_n 0, 1) := by decide +kernel
theorem d_R_init_51 : decode b_R_init 51 = .ok (.sipush 600, 3) := by decide +kernel
theorem d_R_init_54 : decode b_R_init 54 = .ok (.putfield 38, 3) := by decide +kernel
theorem d_R_init_57 : decode b_R_init 57 = .ok (.return_, 1) := by decide +kernel
theorem d_R_unit_0 : decode b_R_unit 0 = .ok (.iload_n 1, 1) := by decide +kernel
theorem d_R_unit_1 : decode b_R_unit 1 = .ok (.iconst 0, 1) := by decide +kernel
theorem d_R_unit_2 : decode b_R_unit 2 = .ok (.ldc 41, 2) := by decide +kernel
theorem d_R_unit_4 : decode b_R_unit 4 = .ok (.invokestatic 42, 3) := by decide +kernel
theorem d_R_unit_7 : decode b_R_unit 7 = .ok (.iload_n 2, 1) := by decide +kernel
theorem d_R_unit_8 : decode b_R_unit 8 = .ok (.iconst 0, 1) := by decide +kernel
theorem d_R_unit_9 : decode b_R_unit 9 = .ok (.sipush 10000, 3) := by decide +kernel
theorem d_R_unit_12 : decode b_R_unit 12 = .ok (.invokestatic 42, 3) := by decide +kernel
theorem d_R_unit_15 : decode b_R_unit 15 = .ok (.iload_n 3, 1) := by decide +kernel
theorem d_R_unit_16 : decode b_R_unit 16 = .ok (.iconst 0, 1) := by decide +kernel
theorem d_R_unit_17 : decode b_R_unit 17 = .ok (.sipush 10000, 3) := by decide +kernel
theorem d_R_unit_20 : decode b_R_unit 20 = .ok (.invokestatic 42, 3) := by decide +kernel
theorem d_R_unit_23 : decode b_R_unit 23 = .ok (.iload 4, 2) := by decide +kernel
theorem d_R_unit_25 : decode b_R_unit 25 = .ok (.iconst 0, 1) := by decide +kernel
theorem d_R_unit_26 : decode b_R_unit 26 = .ok (.sipush 255, 3) := by decide +kernel
theorem d_R_unit_29 : decode b_R_unit 29 = .ok (.invokestatic 42, 3) := by decide +kernel
theorem d_R_unit_32 : decode b_R_unit 32 = .ok (.aload_n 0, 1) := by decide +kernel
theorem d_R_unit_33 : decode b_R_unit 33 = .ok (.getfield 10, 3) := by decide +kernel
theorem d_R_unit_36 : decode b_R_unit 36 = .ok (.getfield 46, 3) := by decide +kernel
theorem d_R_unit_39 : decode b_R_unit 39 = .ok (.bipush 24, 2) := by decide +kernel
theorem d_R_unit_41 : decode b_R_unit 41 = .ok (.if_icmp .ge 7, 3) := by decide +kernel
theorem d_R_unit_44 : decode b_R_unit 44 = .ok (.iconst 1, 1) := by decide +kernel
theorem d_R_unit_45 : decode b_R_unit 45 = .ok (.goto 4, 3) := by decide +kernel
theorem d_R_unit_48 : decode b_R_unit 48 = .ok (.iconst 0, 1) := by decide +kernel
theorem d_R_unit_49 : decode b_R_unit 49 = .ok (.invokestatic 49, 3) := by decide +kernel
theorem d_R_unit_52 : decode b_R_unit 52 = .ok (.aload_n 0, 1) := by decide +kernel
theorem d_R_unit_53 : decode b_R_unit 53 = .ok (.getfield 10, 3) := by decide +kernel
theorem d_R_unit_56 : decode b_R_unit 56 = .ok (.iload_n 1, 1) := by decide +kernel
theorem d_R_unit_57 : decode b_R_unit 57 = .ok (.aload_n 0, 1) := by decide +kernel
theorem d_R_unit_58 : decode b_R_unit 58 = .ok (.getfield 34, 3) := by decide +kernel
theorem d_R_unit_61 : decode b_R_unit 61 = .ok (.invokevirtual 53, 3) := by decide +kernel
theorem d_R_unit_64 : decode b_R_unit 64 = .ok (.istore 5, 2) := by decide +kernel
theorem d_R_unit_66 : decode b_R_unit 66 = .ok (.aload_n 0, 1) := by decide +kernel
theorem d_R_unit_67 : decode b_R_unit 67 = .ok (.getfield 10, 3) := by decide +kernel
theorem d_R_unit_70 : decode b_R_unit 70 = .ok (.iload 5, 2) := by decide +kernel
theorem d_R_unit_72 : decode b_R_unit 72 = .ok (.iload_n 2, 1) := by decide +kernel
theorem d_R_unit_73 : decode b_R_unit 73 = .ok (.iload_n 3, 1) := by decide +kernel
theorem d_R_unit_74 : decode b_R_unit 74 = .ok (.iload 4, 2) := by decide +kernel
theorem d_R_unit_76 : decode b_R_unit 76 = .ok (.invokevirtual 57, 3) := by decide +kernel
theorem d_R_unit_79 : decode b_R_unit 79 = .ok (.aload_n 0, 1) := by decide +kernel
theorem d_R_unit_80 : decode b_R_unit 80 = .ok (.invokevirtual 61, 3) := by decide +kernel
theorem d_R_unit_83 : decode b_R_unit 83 = .ok (.pop, 1) := by decide +kernel
theorem d_R_unit_84 : decode b_R_unit 84 = .ok (.iload 5, 2) := by decide +kernel
theorem d_R_unit_86 : decode b_R_unit 86 = .ok (.ireturn, 1) := by decide +kernel
theorem d_R_home_0 : decode b_R_home 0 = .ok (.aload_n 0, 1) := by decide +kernel
theorem d_R_home_1 : decode b_R_home 1 = .ok (.getfield 10, 3) := by decide +kernel
theorem d_R_home_4 : decode b_R_home 4 = .ok (.iload_n 1, 1) := by decide +kernel
theorem d_R_home_5 : decode b_R_home 5 = .ok (.invokevirtual 65, 3) := by decide +kernel
theorem d_R_home_8 : decode b_R_home 8 = .ok (.invokestatic 69, 3) := by decide +kernel
theorem d_R_home_11 : decode b_R_home 11 = .ok (.iload_n 2, 1) := by decide +kernel
theorem d_R_home_12 : decode b_R_home 12 = .ok (.iconst 0, 1) := by decide +kernel
theorem d_R_home_13 : decode b_R_home 13 = .ok (.ldc 41, 2) := by decide +kernel
theorem d_R_home_15 : decode b_R_home 15 = .ok (.invokestatic 42, 3) := by decide +kernel
theorem d_R_home_18 : decode b_R_home 18 = .ok (.aload_n 0, 1) := by decide +kernel
theorem d_R_home_19 : decode b_R_home 19 = .ok (.getfield 10, 3) := by decide +kernel
theorem d_R_home_22 : decode b_R_home 22 = .ok (.getfield 72, 3) := by decide +kernel
theorem d_R_home_25 : decode b_R_home 25 = .ok (.iload_n 1, 1) := by decide +kernel
theorem d_R_home_26 : decode b_R_home 26 = .ok (.iload_n 2, 1) := by decide +kernel
theorem d_R_home_27 : decode b_R_home 27 = .ok (.iastore, 1) := by decide +kernel
theorem d_R_home_28 : decode b_R_home 28 = .ok (.return_, 1) := by decide +kernel
theorem d_R_span_0 : decode b_R_span 0 = .ok (.iload_n 1, 1) := by decide +kernel
theorem d_R_span_1 : decode b_R_span 1 = .ok (.iconst 0, 1) := by decide +kernel
theorem d_R_span_2 : decode b_R_span 2 = .ok (.ldc 75, 2) := by decide +kernel
theorem d_R_span_4 : decode b_R_span 4 = .ok (.invokestatic 42, 3) := by decide +kernel
theorem d_R_span_7 : decode b_R_span 7 = .ok (.aload_n 0, 1) := by decide +kernel
theorem d_R_span_8 : decode b_R_span 8 = .ok (.iload_n 1, 1) := by decide +kernel
theorem d_R_span_9 : decode b_R_span 9 = .ok (.putfield 38, 3) := by decide +kernel
theorem d_R_span_12 : decode b_R_span 12 = .ok (.return_, 1) := by decide +kernel
theorem d_R_call_0 : decode b_R_call 0 = .ok (.iload_n 1, 1) := by decide +kernel
theorem d_R_call_1 : decode b_R_call 1 = .ok (.iconst 0, 1) := by decide +kernel
theorem d_R_call_2 : decode b_R_call 2 = .ok (.bipush 99, 2) := by decide +kernel
theorem d_R_call_4 : decode b_R_call 4 = .ok (.invokestatic 42, 3) := by decide +kernel
theorem d_R_call_7 : decode b_R_call 7 = .ok (.iload_n 2, 1) := by decide +kernel
theorem d_R_call_8 : decode b_R_call 8 = .ok (.ifCond .eq 15, 3) := by decide +kernel
theorem d_R_call_11 : decode b_R_call 11 = .ok (.aload_n 0, 1) := by decide +kernel
theorem d_R_call_12 : decode b_R_call 12 = .ok (.getfield 26, 3) := by decide +kernel
theorem d_R_call_15 : decode b_R_call 15 = .ok (.getfield 76, 3) := by decide +kernel
theorem d_R_call_18 : decode b_R_call 18 = .ok (.bipush 30, 2) := by decide +kernel
theorem d_R_call_20 : decode b_R_call 20 = .ok (.if_icmp .ge 7, 3) := by decide +kernel
theorem d_R_call_23 : decode b_R_call 23 = .ok (.iconst 1, 1) := by decide +kernel
theorem d_R_call_24 : decode b_R_call 24 = .ok (.goto 4, 3) := by decide +kernel
theorem d_R_call_27 : decode b_R_call 27 = .ok (.iconst 0, 1) := by decide +kernel
theorem d_R_call_28 : decode b_R_call 28 = .ok (.invokestatic 49, 3) := by decide +kernel
theorem d_R_call_31 : decode b_R_call 31 = .ok (.aload_n 0, 1) := by decide +kernel
theorem d_R_call_32 : decode b_R_call 32 = .ok (.getfield 19, 3) := by decide +kernel
theorem d_R_call_35 : decode b_R_call 35 = .ok (.iload_n 1, 1) := by decide +kernel
theorem d_R_call_36 : decode b_R_call 36 = .ok (.invokevirtual 77, 3) := by decide +kernel
theorem d_R_call_39 : decode b_R_call 39 = .ok (.istore_n 3, 1) := by decide +kernel
theorem d_R_call_40 : decode b_R_call 40 = .ok (.iload_n 3, 1) := by decide +kernel
theorem d_R_call_41 : decode b_R_call 41 = .ok (.iconst (-1), 1) := by decide +kernel
theorem d_R_call_42 : decode b_R_call 42 = .ok (.if_icmp .eq 11, 3) := by decide +kernel
theorem d_R_call_45 : decode b_R_call 45 = .ok (.aload_n 0, 1) := by decide +kernel
theorem d_R_call_46 : decode b_R_call 46 = .ok (.iload_n 3, 1) := by decide +kernel
theorem d_R_call_47 : decode b_R_call 47 = .ok (.invokevirtual 81, 3) := by decide +kernel
theorem d_R_call_50 : decode b_R_call 50 = .ok (.ifCond .eq 32, 3) := by decide +kernel
theorem d_R_call_53 : decode b_R_call 53 = .ok (.aload_n 0, 1) := by decide +kernel
theorem d_R_call_54 : decode b_R_call 54 = .ok (.getfield 19, 3) := by decide +kernel
theorem d_R_call_57 : decode b_R_call 57 = .ok (.getfield 84, 3) := by decide +kernel
theorem d_R_call_60 : decode b_R_call 60 = .ok (.bipush 20, 2) := by decide +kernel
theorem d_R_call_62 : decode b_R_call 62 = .ok (.if_icmp .ge 7, 3) := by decide +kernel
theorem d_R_call_65 : decode b_R_call 65 = .ok (.iconst 1, 1) := by decide +kernel
theorem d_R_call_66 : decode b_R_call 66 = .ok (.goto 4, 3) := by decide +kernel
theorem d_R_call_69 : decode b_R_call 69 = .ok (.iconst 0, 1) := by decide +kernel
theorem d_R_call_70 : decode b_R_call 70 = .ok (.invokestatic 49, 3) := by decide +kernel
theorem d_R_call_73 : decode b_R_call 73 = .ok (.aload_n 0, 1) := by decide +kernel
theorem d_R_call_74 : decode b_R_call 74 = .ok (.getfield 19, 3) := by decide +kernel
theorem d_R_call_77 : decode b_R_call 77 = .ok (.iload_n 1, 1) := by decide +kernel
theorem d_R_call_78 : decode b_R_call 78 = .ok (.invokevirtual 85, 3) := by decide +kernel
theorem d_R_call_81 : decode b_R_call 81 = .ok (.istore_n 3, 1) := by decide +kernel
theorem d_R_call_82 : decode b_R_call 82 = .ok (.aload_n 0, 1) := by decide +kernel
theorem d_R_call_83 : decode b_R_call 83 = .ok (.getfield 19, 3) := by decide +kernel
theorem d_R_call_86 : decode b_R_call 86 = .ok (.getfield 88, 3) := by decide +kernel
theorem d_R_call_89 : decode b_R_call 89 = .ok (.iload_n 3, 1) := by decide +kernel
theorem d_R_call_90 : decode b_R_call 90 = .ok (.baload, 1) := by decide +kernel
theorem d_R_call_91 : decode b_R_call 91 = .ok (.ifCond .ne 11, 3) := by decide +kernel
theorem d_R_call_94 : decode b_R_call 94 = .ok (.aload_n 0, 1) := by decide +kernel
theorem d_R_call_95 : decode b_R_call 95 = .ok (.getfield 19, 3) := by decide +kernel
theorem d_R_call_98 : decode b_R_call 98 = .ok (.iload_n 3, 1) := by decide +kernel
theorem d_R_call_99 : decode b_R_call 99 = .ok (.invokevirtual 92, 3) := by decide +kernel
theorem d_R_call_102 : decode b_R_call 102 = .ok (.iload_n 2, 1) := by decide +kernel
theorem d_R_call_103 : decode b_R_call 103 = .ok (.ifCond .eq 11, 3) := by decide +kernel
theorem d_R_call_106 : decode b_R_call 106 = .ok (.aload_n 0, 1) := by decide +kernel
theorem d_R_call_107 : decode b_R_call 107 = .ok (.getfield 26, 3) := by decide +kernel
theorem d_R_call_110 : decode b_R_call 110 = .ok (.iload_n 3, 1) := by decide +kernel
theorem d_R_call_111 : decode b_R_call 111 = .ok (.invokevirtual 96, 3) := by decide +kernel
theorem d_R_call_114 : decode b_R_call 114 = .ok (.aload_n 0, 1) := by decide +kernel
theorem d_R_call_115 : decode b_R_call 115 = .ok (.invokevirtual 61, 3) := by decide +kernel
theorem d_R_call_118 : decode b_R_call 118 = .ok (.pop, 1) := by decide +kernel
theorem d_R_call_119 : decode b_R_call 119 = .ok (.iload_n 3, 1) := by decide +kernel
theorem d_R_call_120 : decode b_R_call 120 = .ok (.ireturn, 1) := by decide +kernel
theorem d_R_send_0 : decode b_R_send 0 = .ok (.aload_n 0, 1) := by decide +kernel
theorem d_R_send_1 : decode b_R_send 1 = .ok (.getfield 10, 3) := by decide +kernel
theorem d_R_send_4 : decode b_R_send 4 = .ok (.iload_n 1, 1) := by decide +kernel
theorem d_R_send_5 : decode b_R_send 5 = .ok (.invokevirtual 65, 3) := by decide +kernel
theorem d_R_send_8 : decode b_R_send 8 = .ok (.ifCond .eq 18, 3) := by decide +kernel
theorem d_R_send_11 : decode b_R_send 11 = .ok (.aload_n 0, 1) := by decide +kernel
theorem d_R_send_12 : decode b_R_send 12 = .ok (.getfield 19, 3) := by decide +kernel
theorem d_R_send_15 : decode b_R_send 15 = .ok (.iload_n 2, 1) := by decide +kernel
theorem d_R_send_16 : decode b_R_send 16 = .ok (.invokevirtual 99, 3) := by decide +kernel
theorem d_R_send_19 : decode b_R_send 19 = .ok (.ifCond .eq 7, 3) := by decide +kernel
theorem d_R_send_22 : decode b_R_send 22 = .ok (.iconst 1, 1) := by decide +kernel
theorem d_R_send_23 : decode b_R_send 23 = .ok (.goto 4, 3) := by decide +kernel
theorem d_R_send_26 : decode b_R_send 26 = .ok (.iconst 0, 1) := by decide +kernel
theorem d_R_send_27 : decode b_R_send 27 = .ok (.invokestatic 69, 3) := by decide +kernel
theorem d_R_send_30 : decode b_R_send 30 = .ok (.aload_n 0, 1) := by decide +kernel
theorem d_R_send_31 : decode b_R_send 31 = .ok (.getfield 10, 3) := by decide +kernel
theorem d_R_send_34 : decode b_R_send 34 = .ok (.getfield 100, 3) := by decide +kernel
theorem d_R_send_37 : decode b_R_send 37 = .ok (.iload_n 1, 1) := by decide +kernel
theorem d_R_send_38 : decode b_R_send 38 = .ok (.iaload, 1) := by decide +kernel
theorem d_R_send_39 : decode b_R_send 39 = .ok (.ifCond .ne 19, 3) := by decide +kernel
theorem d_R_send_42 : decode b_R_send 42 = .ok (.aload_n 0, 1) := by decide +kernel
theorem d_R_send_43 : decode b_R_send 43 = .ok (.getfield 19, 3) := by decide +kernel
theorem d_R_send_46 : decode b_R_send 46 = .ok (.getfield 88, 3) := by decide +kernel
theorem d_R_send_49 : decode b_R_send 49 = .ok (.iload_n 2, 1) := by decide +kernel
theorem d_R_send_50 : decode b_R_send 50 = .ok (.baload, 1) := by decide +kernel
theorem d_R_send_51 : decode b_R_send 51 = .ok (.ifCond .eq 7, 3) := by decide +kernel
theorem d_R_send_54 : decode b_R_send 54 = .ok (.iconst 1, 1) := by decide +kernel
theorem d_R_send_55 : decode b_R_send 55 = .ok (.goto 4, 3) := by decide +kernel
theorem d_R_send_58 : decode b_R_send 58 = .ok (.iconst 0, 1) := by decide +kernel
theorem d_R_send_59 : decode b_R_send 59 = .ok (.invokestatic 103, 3) := by decide +kernel
theorem d_R_send_62 : decode b_R_send 62 = .ok (.aload_n 0, 1) := by decide +kernel
theorem d_R_send_63 : decode b_R_send 63 = .ok (.iload_n 1, 1) := by decide +kernel
theorem d_R_send_64 : decode b_R_send 64 = .ok (.iload_n 2, 1) := by decide +kernel
theorem d_R_send_65 : decode b_R_send 65 = .ok (.invokevirtual 106, 3) := by decide +kernel
theorem d_R_send_68 : decode b_R_send 68 = .ok (.aload_n 0, 1) := by decide +kernel
theorem d_R_send_69 : decode b_R_send 69 = .ok (.invokevirtual 61, 3) := by decide +kernel
theorem d_R_send_72 : decode b_R_send 72 = .ok (.pop, 1) := by decide +kernel
theorem d_R_send_73 : decode b_R_send 73 = .ok (.return_, 1) := by decide +kernel
theorem d_R_release_0 : decode b_R_release 0 = .ok (.aload_n 0, 1) := by decide +kernel
theorem d_R_release_1 : decode b_R_release 1 = .ok (.getfield 19, 3) := by decide +kernel
theorem d_R_release_4 : decode b_R_release 4 = .ok (.iload_n 1, 1) := by decide +kernel
theorem d_R_release_5 : decode b_R_release 5 = .ok (.invokevirtual 99, 3) := by decide +kernel
theorem d_R_release_8 : decode b_R_release 8 = .ok (.invokestatic 69, 3) := by decide +kernel
theorem d_R_release_11 : decode b_R_release 11 = .ok (.iload_n 2, 1) := by decide +kernel
theorem d_R_release_12 : decode b_R_release 12 = .ok (.iconst 1, 1) := by decide +kernel
theorem d_R_release_13 : decode b_R_release 13 = .ok (.bipush 24, 2) := by decide +kernel
theorem d_R_release_15 : decode b_R_release 15 = .ok (.invokestatic 42, 3) := by decide +kernel
theorem d_R_release_18 : decode b_R_release 18 = .ok (.aload_n 0, 1) := by decide +kernel
theorem d_R_release_19 : decode b_R_release 19 = .ok (.getfield 19, 3) := by decide +kernel
theorem d_R_release_22 : decode b_R_release 22 = .ok (.getfield 88, 3) := by decide +kernel
theorem d_R_release_25 : decode b_R_release 25 = .ok (.iload_n 1, 1) := by decide +kernel
theorem d_R_release_26 : decode b_R_release 26 = .ok (.baload, 1) := by decide +kernel
theorem d_R_release_27 : decode b_R_release 27 = .ok (.invokestatic 103, 3) := by decide +kernel
theorem d_R_release_30 : decode b_R_release 30 = .ok (.iconst 0, 1) := by decide +kernel
theorem d_R_release_31 : decode b_R_release 31 = .ok (.istore_n 3, 1) := by decide +kernel
theorem d_R_release_32 : decode b_R_release 32 = .ok (.iconst 0, 1) := by decide +kernel
theorem d_R_release_33 : decode b_R_release 33 = .ok (.istore 4, 2) := by decide +kernel
theorem d_R_release_35 : decode b_R_release 35 = .ok (.iload 4, 2) := by decide +kernel
theorem d_R_release_37 : decode b_R_release 37 = .ok (.iload_n 2, 1) := by decide +kernel
theorem d_R_release_38 : decode b_R_release 38 = .ok (.if_icmp .ge 45, 3) := by decide +kernel
theorem d_R_release_41 : decode b_R_release 41 = .ok (.aload_n 0, 1) := by decide +kernel
theorem d_R_release_42 : decode b_R_release 42 = .ok (.getfield 10, 3) := by decide +kernel
theorem d_R_release_45 : decode b_R_release 45 = .ok (.iload_n 1, 1) := by decide +kernel
theorem d_R_release_46 : decode b_R_release 46 = .ok (.invokevirtual 110, 3) := by decide +kernel
theorem d_R_release_49 : decode b_R_release 49 = .ok (.istore 5, 2) := by decide +kernel
theorem d_R_release_51 : decode b_R_release 51 = .ok (.iload 5, 2) := by decide +kernel
theorem d_R_release_53 : decode b_R_release 53 = .ok (.iconst (-1), 1) := by decide +kernel
theorem d_R_release_54 : decode b_R_release 54 = .ok (.if_icmp .ne 6, 3) := by decide +kernel
theorem d_R_release_57 : decode b_R_release 57 = .ok (.goto 26, 3) := by decide +kernel
theorem d_R_release_60 : decode b_R_release 60 = .ok (.aload_n 0, 1) := by decide +kernel
theorem d_R_release_61 : decode b_R_release 61 = .ok (.getfield 10, 3) := by decide +kernel
theorem d_R_release_64 : decode b_R_release 64 = .ok (.iload 5, 2) := by decide +kernel
theorem d_R_release_66 : decode b_R_release 66 = .ok (.iconst 2, 1) := by decide +kernel
theorem d_R_release_67 : decode b_R_release 67 = .ok (.aload_n 0, 1) := by decide +kernel
theorem d_R_release_68 : decode b_R_release 68 = .ok (.getfield 34, 3) := by decide +kernel
theorem d_R_release_71 : decode b_R_release 71 = .ok (.invokevirtual 113, 3) := by decide +kernel
theorem d_R_release_74 : decode b_R_release 74 = .ok (.iinc 3 1, 3) := by decide +kernel
theorem d_R_release_77 : decode b_R_release 77 = .ok (.iinc 4 1, 3) := by decide +kernel
theorem d_R_release_80 : decode b_R_release 80 = .ok (.goto (-45), 3) := by decide +kernel
theorem d_R_release_83 : decode b_R_release 83 = .ok (.aload_n 0, 1) := by decide +kernel
theorem d_R_release_84 : decode b_R_release 84 = .ok (.invokevirtual 61, 3) := by decide +kernel
theorem d_R_release_87 : decode b_R_release 87 = .ok (.pop, 1) := by decide +kernel
theorem d_R_release_88 : decode b_R_release 88 = .ok (.iload_n 3, 1) := by decide +kernel
theorem d_R_release_89 : decode b_R_release 89 = .ok (.ireturn, 1) := by decide +kernel
theorem d_R_back_0 : decode b_R_back 0 = .ok (.aload_n 0, 1) := by decide +kernel
theorem d_R_back_1 : decode b_R_back 1 = .ok (.getfield 10, 3) := by decide +kernel
theorem d_R_back_4 : decode b_R_back 4 = .ok (.iload_n 1, 1) := by decide +kernel
theorem d_R_back_5 : decode b_R_back 5 = .ok (.invokevirtual 65, 3) := by decide +kernel
theorem d_R_back_8 : decode b_R_back 8 = .ok (.invokestatic 69, 3) := by decide +kernel
theorem d_R_back_11 : decode b_R_back 11 = .ok (.aload_n 0, 1) := by decide +kernel
theorem d_R_back_12 : decode b_R_back 12 = .ok (.getfield 10, 3) := by decide +kernel
theorem d_R_back_15 : decode b_R_back 15 = .ok (.getfield 100, 3) := by decide +kernel
theorem d_R_back_18 : decode b_R_back 18 = .ok (.iload_n 1, 1) := by decide +kernel
theorem d_R_back_19 : decode b_R_back 19 = .ok (.iaload, 1) := by decide +kernel
theorem d_R_back_20 : decode b_R_back 20 = .ok (.iconst 2, 1) := by decide +kernel
theorem d_R_back_21 : decode b_R_back 21 = .ok (.if_icmp .ne 7, 3) := by decide +kernel
theorem d_R_back_24 : decode b_R_back 24 = .ok (.iconst 1, 1) := by decide +kernel
theorem d_R_back_25 : decode b_R_back 25 = .ok (.goto 4, 3) := by decide +kernel
theorem d_R_back_28 : decode b_R_back 28 = .ok (.iconst 0, 1) := by decide +kernel
theorem d_R_back_29 : decode b_R_back 29 = .ok (.invokestatic 103, 3) := by decide +kernel
theorem d_R_back_32 : decode b_R_back 32 = .ok (.aload_n 0, 1) := by decide +kernel
theorem d_R_back_33 : decode b_R_back 33 = .ok (.getfield 10, 3) := by decide +kernel
theorem d_R_back_36 : decode b_R_back 36 = .ok (.iload_n 1, 1) := by decide +kernel
theorem d_R_back_37 : decode b_R_back 37 = .ok (.iconst 3, 1) := by decide +kernel
theorem d_R_back_38 : decode b_R_back 38 = .ok (.aload_n 0, 1) := by decide +kernel
theorem d_R_back_39 : decode b_R_back 39 = .ok (.getfield 34, 3) := by decide +kernel
theorem d_R_back_42 : decode b_R_back 42 = .ok (.invokevirtual 113, 3) := by decide +kernel
theorem d_R_back_45 : decode b_R_back 45 = .ok (.aload_n 0, 1) := by decide +kernel
theorem d_R_back_46 : decode b_R_back 46 = .ok (.invokevirtual 61, 3) := by decide +kernel
theorem d_R_back_49 : decode b_R_back 49 = .ok (.pop, 1) := by decide +kernel
theorem d_R_back_50 : decode b_R_back 50 = .ok (.return_, 1) := by decide +kernel
theorem d_R_use_0 : decode b_R_use 0 = .ok (.aload_n 0, 1) := by decide +kernel
theorem d_R_use_1 : decode b_R_use 1 = .ok (.getfield 10, 3) := by decide +kernel
theorem d_R_use_4 : decode b_R_use 4 = .ok (.iload_n 1, 1) := by decide +kernel
theorem d_R_use_5 : decode b_R_use 5 = .ok (.invokevirtual 65, 3) := by decide +kernel
theorem d_R_use_8 : decode b_R_use 8 = .ok (.ifCond .eq 14, 3) := by decide +kernel
theorem d_R_use_11 : decode b_R_use 11 = .ok (.iload_n 2, 1) := by decide +kernel
theorem d_R_use_12 : decode b_R_use 12 = .ok (.invokestatic 116, 3) := by decide +kernel
theorem d_R_use_15 : decode b_R_use 15 = .ok (.ifCond .eq 7, 3) := by decide +kernel
theorem d_R_use_18 : decode b_R_use 18 = .ok (.iconst 1, 1) := by decide +kernel
theorem d_R_use_19 : decode b_R_use 19 = .ok (.goto 4, 3) := by decide +kernel
theorem d_R_use_22 : decode b_R_use 22 = .ok (.iconst 0, 1) := by decide +kernel
theorem d_R_use_23 : decode b_R_use 23 = .ok (.invokestatic 69, 3) := by decide +kernel
theorem d_R_use_26 : decode b_R_use 26 = .ok (.iload_n 3, 1) := by decide +kernel
theorem d_R_use_27 : decode b_R_use 27 = .ok (.iconst 1, 1) := by decide +kernel
theorem d_R_use_28 : decode b_R_use 28 = .ok (.sipush 1000, 3) := by decide +kernel
theorem d_R_use_31 : decode b_R_use 31 = .ok (.invokestatic 42, 3) := by decide +kernel
theorem d_R_use_34 : decode b_R_use 34 = .ok (.aload_n 0, 1) := by decide +kernel
theorem d_R_use_35 : decode b_R_use 35 = .ok (.getfield 10, 3) := by decide +kernel
theorem d_R_use_38 : decode b_R_use 38 = .ok (.getfield 100, 3) := by decide +kernel
theorem d_R_use_41 : decode b_R_use 41 = .ok (.iload_n 1, 1) := by decide +kernel
theorem d_R_use_42 : decode b_R_use 42 = .ok (.iaload, 1) := by decide +kernel
theorem d_R_use_43 : decode b_R_use 43 = .ok (.iconst 1, 1) := by decide +kernel
theorem d_R_use_44 : decode b_R_use 44 = .ok (.if_icmp .eq 16, 3) := by decide +kernel
theorem d_R_use_47 : decode b_R_use 47 = .ok (.aload_n 0, 1) := by decide +kernel
theorem d_R_use_48 : decode b_R_use 48 = .ok (.getfield 10, 3) := by decide +kernel
theorem d_R_use_51 : decode b_R_use 51 = .ok (.getfield 100, 3) := by decide +kernel
theorem d_R_use_54 : decode b_R_use 54 = .ok (.iload_n 1, 1) := by decide +kernel
theorem d_R_use_55 : decode b_R_use 55 = .ok (.iaload, 1) := by decide +kernel
theorem d_R_use_56 : decode b_R_use 56 = .ok (.iconst 2, 1) := by decide +kernel
theorem d_R_use_57 : decode b_R_use 57 = .ok (.if_icmp .ne 7, 3) := by decide +kernel
theorem d_R_use_60 : decode b_R_use 60 = .ok (.iconst 1, 1) := by decide +kernel
theorem d_R_use_61 : decode b_R_use 61 = .ok (.goto 4, 3) := by decide +kernel
theorem d_R_use_64 : decode b_R_use 64 = .ok (.iconst 0, 1) := by decide +kernel
theorem d_R_use_65 : decode b_R_use 65 = .ok (.invokestatic 103, 3) := by decide +kernel
theorem d_R_use_68 : decode b_R_use 68 = .ok (.aload_n 0, 1) := by decide +kernel
theorem d_R_use_69 : decode b_R_use 69 = .ok (.getfield 10, 3) := by decide +kernel
theorem d_R_use_72 : decode b_R_use 72 = .ok (.getfield 119, 3) := by decide +kernel
theorem d_R_use_75 : decode b_R_use 75 = .ok (.iload_n 1, 1) := by decide +kernel
theorem d_R_use_76 : decode b_R_use 76 = .ok (.bipush 6, 2) := by decide +kernel
theorem d_R_use_78 : decode b_R_use 78 = .ok (.imul, 1) := by decide +kernel
theorem d_R_use_79 : decode b_R_use 79 = .ok (.iload_n 2, 1) := by decide +kernel
theorem d_R_use_80 : decode b_R_use 80 = .ok (.iadd, 1) := by decide +kernel
theorem d_R_use_81 : decode b_R_use 81 = .ok (.iaload, 1) := by decide +kernel
theorem d_R_use_82 : decode b_R_use 82 = .ok (.iload_n 3, 1) := by decide +kernel
theorem d_R_use_83 : decode b_R_use 83 = .ok (.iadd, 1) := by decide +kernel
theorem d_R_use_84 : decode b_R_use 84 = .ok (.istore 4, 2) := by decide +kernel
theorem d_R_use_86 : decode b_R_use 86 = .ok (.iload 4, 2) := by decide +kernel
theorem d_R_use_88 : decode b_R_use 88 = .ok (.ldc 75, 2) := by decide +kernel
theorem d_R_use_90 : decode b_R_use 90 = .ok (.if_icmp .gt 7, 3) := by decide +kernel
theorem d_R_use_93 : decode b_R_use 93 = .ok (.iconst 1, 1) := by decide +kernel
theorem d_R_use_94 : decode b_R_use 94 = .ok (.goto 4, 3) := by decide +kernel
theorem d_R_use_97 : decode b_R_use 97 = .ok (.iconst 0, 1) := by decide +kernel
theorem d_R_use_98 : decode b_R_use 98 = .ok (.invokestatic 49, 3) := by decide +kernel
theorem d_R_use_101 : decode b_R_use 101 = .ok (.aload_n 0, 1) := by decide +kernel
theorem d_R_use_102 : decode b_R_use 102 = .ok (.getfield 10, 3) := by decide +kernel
theorem d_R_use_105 : decode b_R_use 105 = .ok (.getfield 119, 3) := by decide +kernel
theorem d_R_use_108 : decode b_R_use 108 = .ok (.iload_n 1, 1) := by decide +kernel
theorem d_R_use_109 : decode b_R_use 109 = .ok (.bipush 6, 2) := by decide +kernel
theorem d_R_use_111 : decode b_R_use 111 = .ok (.imul, 1) := by decide +kernel
theorem d_R_use_112 : decode b_R_use 112 = .ok (.iload_n 2, 1) := by decide +kernel
theorem d_R_use_113 : decode b_R_use 113 = .ok (.iadd, 1) := by decide +kernel
theorem d_R_use_114 : decode b_R_use 114 = .ok (.iload 4, 2) := by decide +kernel
theorem d_R_use_116 : decode b_R_use 116 = .ok (.iastore, 1) := by decide +kernel
theorem d_R_use_117 : decode b_R_use 117 = .ok (.iload 4, 2) := by decide +kernel
theorem d_R_use_119 : decode b_R_use 119 = .ok (.ireturn, 1) := by decide +kernel
theorem d_R_deliver_0 : decode b_R_deliver 0 = .ok (.iload_n 1, 1) := by decide +kernel
theorem d_R_deliver_1 : decode b_R_deliver 1 = .ok (.invokestatic 116, 3) := by decide +kernel
theorem d_R_deliver_4 : decode b_R_deliver 4 = .ok (.invokestatic 69, 3) := by decide +kernel
theorem d_R_deliver_7 : decode b_R_deliver 7 = .ok (.iload_n 2, 1) := by decide +kernel
theorem d_R_deliver_8 : decode b_R_deliver 8 = .ok (.iconst 0, 1) := by decide +kernel
theorem d_R_deliver_9 : decode b_R_deliver 9 = .ok (.ldc 75, 2) := by decide +kernel
theorem d_R_deliver_11 : decode b_R_deliver 11 = .ok (.invokestatic 42, 3) := by decide +kernel
theorem d_R_deliver_14 : decode b_R_deliver 14 = .ok (.aload_n 0, 1) := by decide +kernel
theorem d_R_deliver_15 : decode b_R_deliver 15 = .ok (.getfield 30, 3) := by decide +kernel
theorem d_R_deliver_18 : decode b_R_deliver 18 = .ok (.iload_n 1, 1) := by decide +kernel
theorem d_R_deliver_19 : decode b_R_deliver 19 = .ok (.iaload, 1) := by decide +kernel
theorem d_R_deliver_20 : decode b_R_deliver 20 = .ok (.iload_n 2, 1) := by decide +kernel
theorem d_R_deliver_21 : decode b_R_deliver 21 = .ok (.iadd, 1) := by decide +kernel
theorem d_R_deliver_22 : decode b_R_deliver 22 = .ok (.istore_n 3, 1) := by decide +kernel
theorem d_R_deliver_23 : decode b_R_deliver 23 = .ok (.iload_n 3, 1) := by decide +kernel
theorem d_R_deliver_24 : decode b_R_deliver 24 = .ok (.ldc 122, 2) := by decide +kernel
theorem d_R_deliver_26 : decode b_R_deliver 26 = .ok (.if_icmp .gt 7, 3) := by decide +kernel
theorem d_R_deliver_29 : decode b_R_deliver 29 = .ok (.iconst 1, 1) := by decide +kernel
theorem d_R_deliver_30 : decode b_R_deliver 30 = .ok (.goto 4, 3) := by decide +kernel
theorem d_R_deliver_33 : decode b_R_deliver 33 = .ok (.iconst 0, 1) := by decide +kernel
theorem d_R_deliver_34 : decode b_R_deliver 34 = .ok (.invokestatic 49, 3) := by decide +kernel
theorem d_R_deliver_37 : decode b_R_deliver 37 = .ok (.aload_n 0, 1) := by decide +kernel
theorem d_R_deliver_38 : decode b_R_deliver 38 = .ok (.getfield 30, 3) := by decide +kernel
theorem d_R_deliver_41 : decode b_R_deliver 41 = .ok (.iload_n 1, 1) := by decide +kernel
theorem d_R_deliver_42 : decode b_R_deliver 42 = .ok (.iload_n 3, 1) := by decide +kernel
theorem d_R_deliver_43 : decode b_R_deliver 43 = .ok (.iastore, 1) := by decide +kernel
theorem d_R_deliver_44 : decode b_R_deliver 44 = .ok (.aload_n 0, 1) := by decide +kernel
theorem d_R_deliver_45 : decode b_R_deliver 45 = .ok (.invokevirtual 61, 3) := by decide +kernel
theorem d_R_deliver_48 : decode b_R_deliver 48 = .ok (.pop, 1) := by decide +kernel
theorem d_R_deliver_49 : decode b_R_deliver 49 = .ok (.iload_n 3, 1) := by decide +kernel
theorem d_R_deliver_50 : decode b_R_deliver 50 = .ok (.ireturn, 1) := by decide +kernel
theorem d_R_check_0 : decode b_R_check 0 = .ok (.aload_n 0, 1) := by decide +kernel
theorem d_R_check_1 : decode b_R_check 1 = .ok (.getfield 10, 3) := by decide +kernel
theorem d_R_check_4 : decode b_R_check 4 = .ok (.iload_n 1, 1) := by decide +kernel
theorem d_R_check_5 : decode b_R_check 5 = .ok (.invokevirtual 65, 3) := by decide +kernel
theorem d_R_check_8 : decode b_R_check 8 = .ok (.invokestatic 69, 3) := by decide +kernel
theorem d_R_check_11 : decode b_R_check 11 = .ok (.iload_n 2, 1) := by decide +kernel
theorem d_R_check_12 : decode b_R_check 12 = .ok (.iconst 0, 1) := by decide +kernel
theorem d_R_check_13 : decode b_R_check 13 = .ok (.sipush 255, 3) := by decide +kernel
theorem d_R_check_16 : decode b_R_check 16 = .ok (.invokestatic 42, 3) := by decide +kernel
theorem d_R_check_19 : decode b_R_check 19 = .ok (.aload_n 0, 1) := by decide +kernel
theorem d_R_check_20 : decode b_R_check 20 = .ok (.getfield 10, 3) := by decide +kernel
theorem d_R_check_23 : decode b_R_check 23 = .ok (.getfield 100, 3) := by decide +kernel
theorem d_R_check_26 : decode b_R_check 26 = .ok (.iload_n 1, 1) := by decide +kernel
theorem d_R_check_27 : decode b_R_check 27 = .ok (.iaload, 1) := by decide +kernel
theorem d_R_check_28 : decode b_R_check 28 = .ok (.iconst 5, 1) := by decide +kernel
theorem d_R_check_29 : decode b_R_check 29 = .ok (.if_icmp .ne 7, 3) := by decide +kernel
theorem d_R_check_32 : decode b_R_check 32 = .ok (.iconst 1, 1) := by decide +kernel
theorem d_R_check_33 : decode b_R_check 33 = .ok (.goto 4, 3) := by decide +kernel
theorem d_R_check_36 : decode b_R_check 36 = .ok (.iconst 0, 1) := by decide +kernel
theorem d_R_check_37 : decode b_R_check 37 = .ok (.invokestatic 103, 3) := by decide +kernel
theorem d_R_check_40 : decode b_R_check 40 = .ok (.aload_n 0, 1) := by decide +kernel
theorem d_R_check_41 : decode b_R_check 41 = .ok (.getfield 10, 3) := by decide +kernel
theorem d_R_check_44 : decode b_R_check 44 = .ok (.getfield 123, 3) := by decide +kernel
theorem d_R_check_47 : decode b_R_check 47 = .ok (.iload_n 1, 1) := by decide +kernel
theorem d_R_check_48 : decode b_R_check 48 = .ok (.dup2, 1) := by decide +kernel
theorem d_R_check_49 : decode b_R_check 49 = .ok (.iaload, 1) := by decide +kernel
theorem d_R_check_50 : decode b_R_check 50 = .ok (.iload_n 2, 1) := by decide +kernel
theorem d_R_check_51 : decode b_R_check 51 = .ok (.ior, 1) := by decide +kernel
theorem d_R_check_52 : decode b_R_check 52 = .ok (.iastore, 1) := by decide +kernel
theorem d_R_check_53 : decode b_R_check 53 = .ok (.aload_n 0, 1) := by decide +kernel
theorem d_R_check_54 : decode b_R_check 54 = .ok (.invokevirtual 61, 3) := by decide +kernel
theorem d_R_check_57 : decode b_R_check 57 = .ok (.pop, 1) := by decide +kernel
theorem d_R_check_58 : decode b_R_check 58 = .ok (.return_, 1) := by decide +kernel
theorem d_R_inside_0 : decode b_R_inside 0 = .ok (.aload_n 0, 1) := by decide +kernel
theorem d_R_inside_1 : decode b_R_inside 1 = .ok (.getfield 19, 3) := by decide +kernel
theorem d_R_inside_4 : decode b_R_inside 4 = .ok (.iload_n 1, 1) := by decide +kernel
theorem d_R_inside_5 : decode b_R_inside 5 = .ok (.invokevirtual 99, 3) := by decide +kernel
theorem d_R_inside_8 : decode b_R_inside 8 = .ok (.invokestatic 69, 3) := by decide +kernel
theorem d_R_inside_11 : decode b_R_inside 11 = .ok (.iload_n 2, 1) := by decide +kernel
theorem d_R_inside_12 : decode b_R_inside 12 = .ok (.iconst 0, 1) := by decide +kernel
theorem d_R_inside_13 : decode b_R_inside 13 = .ok (.sipush 1000, 3) := by decide +kernel
theorem d_R_inside_16 : decode b_R_inside 16 = .ok (.invokestatic 42, 3) := by decide +kernel
theorem d_R_inside_19 : decode b_R_inside 19 = .ok (.aload_n 0, 1) := by decide +kernel
theorem d_R_inside_20 : decode b_R_inside 20 = .ok (.getfield 19, 3) := by decide +kernel
theorem d_R_inside_23 : decode b_R_inside 23 = .ok (.getfield 88, 3) := by decide +kernel
theorem d_R_inside_26 : decode b_R_inside 26 = .ok (.iload_n 1, 1) := by decide +kernel
theorem d_R_inside_27 : decode b_R_inside 27 = .ok (.baload, 1) := by decide +kernel
theorem d_R_inside_28 : decode b_R_inside 28 = .ok (.invokestatic 103, 3) := by decide +kernel
theorem d_R_inside_31 : decode b_R_inside 31 = .ok (.aload_n 0, 1) := by decide +kernel
theorem d_R_inside_32 : decode b_R_inside 32 = .ok (.getfield 19, 3) := by decide +kernel
theorem d_R_inside_35 : decode b_R_inside 35 = .ok (.getfield 126, 3) := by decide +kernel
theorem d_R_inside_38 : decode b_R_inside 38 = .ok (.iload_n 1, 1) := by decide +kernel
theorem d_R_inside_39 : decode b_R_inside 39 = .ok (.iload_n 2, 1) := by decide +kernel
theorem d_R_inside_40 : decode b_R_inside 40 = .ok (.iastore, 1) := by decide +kernel
theorem d_R_inside_41 : decode b_R_inside 41 = .ok (.aload_n 0, 1) := by decide +kernel
theorem d_R_inside_42 : decode b_R_inside 42 = .ok (.invokevirtual 61, 3) := by decide +kernel
theorem d_R_inside_45 : decode b_R_inside 45 = .ok (.pop, 1) := by decide +kernel
theorem d_R_inside_46 : decode b_R_inside 46 = .ok (.return_, 1) := by decide +kernel
theorem d_R_report_0 : decode b_R_report 0 = .ok (.aload_n 0, 1) := by decide +kernel
theorem d_R_report_1 : decode b_R_report 1 = .ok (.getfield 19, 3) := by decide +kernel
theorem d_R_report_4 : decode b_R_report 4 = .ok (.iload_n 1, 1) := by decide +kernel
theorem d_R_report_5 : decode b_R_report 5 = .ok (.invokevirtual 99, 3) := by decide +kernel
theorem d_R_report_8 : decode b_R_report 8 = .ok (.ifCond .eq 17, 3) := by decide +kernel
theorem d_R_report_11 : decode b_R_report 11 = .ok (.iload_n 2, 1) := by decide +kernel
theorem d_R_report_12 : decode b_R_report 12 = .ok (.ifCond .lt 13, 3) := by decide +kernel
theorem d_R_report_15 : decode b_R_report 15 = .ok (.iload_n 2, 1) := by decide +kernel
theorem d_R_report_16 : decode b_R_report 16 = .ok (.bipush 7, 2) := by decide +kernel
theorem d_R_report_18 : decode b_R_report 18 = .ok (.if_icmp .gt 7, 3) := by decide +kernel
theorem d_R_report_21 : decode b_R_report 21 = .ok (.iconst 1, 1) := by decide +kernel
theorem d_R_report_22 : decode b_R_report 22 = .ok (.goto 4, 3) := by decide +kernel
theorem d_R_report_25 : decode b_R_report 25 = .ok (.iconst 0, 1) := by decide +kernel
theorem d_R_report_26 : decode b_R_report 26 = .ok (.invokestatic 69, 3) := by decide +kernel
theorem d_R_report_29 : decode b_R_report 29 = .ok (.aload_n 0, 1) := by decide +kernel
theorem d_R_report_30 : decode b_R_report 30 = .ok (.getfield 19, 3) := by decide +kernel
theorem d_R_report_33 : decode b_R_report 33 = .ok (.getfield 88, 3) := by decide +kernel
theorem d_R_report_36 : decode b_R_report 36 = .ok (.iload_n 1, 1) := by decide +kernel
theorem d_R_report_37 : decode b_R_report 37 = .ok (.baload, 1) := by decide +kernel
theorem d_R_report_38 : decode b_R_report 38 = .ok (.invokestatic 103, 3) := by decide +kernel
theorem d_R_report_41 : decode b_R_report 41 = .ok (.aload_n 0, 1) := by decide +kernel
theorem d_R_report_42 : decode b_R_report 42 = .ok (.getfield 19, 3) := by decide +kernel
theorem d_R_report_45 : decode b_R_report 45 = .ok (.getfield 129, 3) := by decide +kernel
theorem d_R_report_48 : decode b_R_report 48 = .ok (.iload_n 1, 1) := by decide +kernel
theorem d_R_report_49 : decode b_R_report 49 = .ok (.dup2, 1) := by decide +kernel
theorem d_R_report_50 : decode b_R_report 50 = .ok (.iaload, 1) := by decide +kernel
theorem d_R_report_51 : decode b_R_report 51 = .ok (.iconst 1, 1) := by decide +kernel
theorem d_R_report_52 : decode b_R_report 52 = .ok (.iload_n 2, 1) := by decide +kernel
theorem d_R_report_53 : decode b_R_report 53 = .ok (.ishl, 1) := by decide +kernel
theorem d_R_report_54 : decode b_R_report 54 = .ok (.ior, 1) := by decide +kernel
theorem d_R_report_55 : decode b_R_report 55 = .ok (.iastore, 1) := by decide +kernel
theorem d_R_report_56 : decode b_R_report 56 = .ok (.aload_n 0, 1) := by decide +kernel
theorem d_R_report_57 : decode b_R_report 57 = .ok (.invokevirtual 61, 3) := by decide +kernel
theorem d_R_report_60 : decode b_R_report 60 = .ok (.pop, 1) := by decide +kernel
theorem d_R_report_61 : decode b_R_report 61 = .ok (.return_, 1) := by decide +kernel
theorem d_R_watch_0 : decode b_R_watch 0 = .ok (.aload_n 0, 1) := by decide +kernel
theorem d_R_watch_1 : decode b_R_watch 1 = .ok (.getfield 19, 3) := by decide +kernel
theorem d_R_watch_4 : decode b_R_watch 4 = .ok (.iload_n 1, 1) := by decide +kernel
theorem d_R_watch_5 : decode b_R_watch 5 = .ok (.invokevirtual 99, 3) := by decide +kernel
theorem d_R_watch_8 : decode b_R_watch 8 = .ok (.invokestatic 69, 3) := by decide +kernel
theorem d_R_watch_11 : decode b_R_watch 11 = .ok (.iload_n 2, 1) := by decide +kernel
theorem d_R_watch_12 : decode b_R_watch 12 = .ok (.iconst (-1), 1) := by decide +kernel
theorem d_R_watch_13 : decode b_R_watch 13 = .ok (.ldc 132, 2) := by decide +kernel
theorem d_R_watch_15 : decode b_R_watch 15 = .ok (.invokestatic 42, 3) := by decide +kernel
theorem d_R_watch_18 : decode b_R_watch 18 = .ok (.aload_n 0, 1) := by decide +kernel
theorem d_R_watch_19 : decode b_R_watch 19 = .ok (.getfield 19, 3) := by decide +kernel
theorem d_R_watch_22 : decode b_R_watch 22 = .ok (.getfield 88, 3) := by decide +kernel
theorem d_R_watch_25 : decode b_R_watch 25 = .ok (.iload_n 1, 1) := by decide +kernel
theorem d_R_watch_26 : decode b_R_watch 26 = .ok (.baload, 1) := by decide +kernel
theorem d_R_watch_27 : decode b_R_watch 27 = .ok (.invokestatic 103, 3) := by decide +kernel
theorem d_R_watch_30 : decode b_R_watch 30 = .ok (.aload_n 0, 1) := by decide +kernel
theorem d_R_watch_31 : decode b_R_watch 31 = .ok (.getfield 19, 3) := by decide +kernel
theorem d_R_watch_34 : decode b_R_watch 34 = .ok (.getfield 133, 3) := by decide +kernel
theorem d_R_watch_37 : decode b_R_watch 37 = .ok (.iload_n 1, 1) := by decide +kernel
theorem d_R_watch_38 : decode b_R_watch 38 = .ok (.iload_n 2, 1) := by decide +kernel
theorem d_R_watch_39 : decode b_R_watch 39 = .ok (.iastore, 1) := by decide +kernel
theorem d_R_watch_40 : decode b_R_watch 40 = .ok (.aload_n 0, 1) := by decide +kernel
theorem d_R_watch_41 : decode b_R_watch 41 = .ok (.invokevirtual 61, 3) := by decide +kernel
theorem d_R_watch_44 : decode b_R_watch 44 = .ok (.pop, 1) := by decide +kernel
theorem d_R_watch_45 : decode b_R_watch 45 = .ok (.return_, 1) := by decide +kernel
theorem d_R_tick_0 : decode b_R_tick 0 = .ok (.iload_n 1, 1) := by decide +kernel
theorem d_R_tick_1 : decode b_R_tick 1 = .ok (.iconst 1, 1) := by decide +kernel
theorem d_R_tick_2 : decode b_R_tick 2 = .ok (.sipush 5000, 3) := by decide +kernel
theorem d_R_tick_5 : decode b_R_tick 5 = .ok (.invokestatic 42, 3) := by decide +kernel
theorem d_R_tick_8 : decode b_R_tick 8 = .ok (.iload_n 1, 1) := by decide +kernel
theorem d_R_tick_9 : decode b_R_tick 9 = .ok (.iconst 1, 1) := by decide +kernel
theorem d_R_tick_10 : decode b_R_tick 10 = .ok (.ldc 132, 2) := by decide +kernel
theorem d_R_tick_12 : decode b_R_tick 12 = .ok (.aload_n 0, 1) := by decide +kernel
theorem d_R_tick_13 : decode b_R_tick 13 = .ok (.getfield 34, 3) := by decide +kernel
theorem d_R_tick_16 : decode b_R_tick 16 = .ok (.isub, 1) := by decide +kernel
theorem d_R_tick_17 : decode b_R_tick 17 = .ok (.invokestatic 42, 3) := by decide +kernel
theorem d_R_tick_20 : decode b_R_tick 20 = .ok (.aload_n 0, 1) := by decide +kernel
theorem d_R_tick_21 : decode b_R_tick 21 = .ok (.getfield 34, 3) := by decide +kernel
theorem d_R_tick_24 : decode b_R_tick 24 = .ok (.iload_n 1, 1) := by decide +kernel
theorem d_R_tick_25 : decode b_R_tick 25 = .ok (.iadd, 1) := by decide +kernel
theorem d_R_tick_26 : decode b_R_tick 26 = .ok (.istore_n 2, 1) := by decide +kernel
theorem d_R_tick_27 : decode b_R_tick 27 = .ok (.iconst 0, 1) := by decide +kernel
theorem d_R_tick_28 : decode b_R_tick 28 = .ok (.istore_n 3, 1) := by decide +kernel
theorem d_R_tick_29 : decode b_R_tick 29 = .ok (.iconst 0, 1) := by decide +kernel
theorem d_R_tick_30 : decode b_R_tick 30 = .ok (.istore 4, 2) := by decide +kernel
theorem d_R_tick_32 : decode b_R_tick 32 = .ok (.iload 4, 2) := by decide +kernel
theorem d_R_tick_34 : decode b_R_tick 34 = .ok (.iload_n 1, 1) := by decide +kernel
theorem d_R_tick_35 : decode b_R_tick 35 = .ok (.if_icmp .ge 33, 3) := by decide +kernel
theorem d_R_tick_38 : decode b_R_tick 38 = .ok (.aload_n 0, 1) := by decide +kernel
theorem d_R_tick_39 : decode b_R_tick 39 = .ok (.getfield 34, 3) := by decide +kernel
theorem d_R_tick_42 : decode b_R_tick 42 = .ok (.iload_n 2, 1) := by decide +kernel
theorem d_R_tick_43 : decode b_R_tick 43 = .ok (.if_icmp .ge 25, 3) := by decide +kernel
theorem d_R_tick_46 : decode b_R_tick 46 = .ok (.aload_n 0, 1) := by decide +kernel
theorem d_R_tick_47 : decode b_R_tick 47 = .ok (.aload_n 0, 1) := by decide +kernel
theorem d_R_tick_48 : decode b_R_tick 48 = .ok (.iload_n 2, 1) := by decide +kernel
theorem d_R_tick_49 : decode b_R_tick 49 = .ok (.invokevirtual 136, 3) := by decide +kernel
theorem d_R_tick_52 : decode b_R_tick 52 = .ok (.putfield 34, 3) := by decide +kernel
theorem d_R_tick_55 : decode b_R_tick 55 = .ok (.iload_n 3, 1) := by decide +kernel
theorem d_R_tick_56 : decode b_R_tick 56 = .ok (.aload_n 0, 1) := by decide +kernel
theorem d_R_tick_57 : decode b_R_tick 57 = .ok (.invokevirtual 61, 3) := by decide +kernel
theorem d_R_tick_60 : decode b_R_tick 60 = .ok (.iadd, 1) := by decide +kernel
theorem d_R_tick_61 : decode b_R_tick 61 = .ok (.istore_n 3, 1) := by decide +kernel
theorem d_R_tick_62 : decode b_R_tick 62 = .ok (.iinc 4 1, 3) := by decide +kernel
theorem d_R_tick_65 : decode b_R_tick 65 = .ok (.goto (-33), 3) := by decide +kernel
theorem d_R_tick_68 : decode b_R_tick 68 = .ok (.iload_n 3, 1) := by decide +kernel
theorem d_R_tick_69 : decode b_R_tick 69 = .ok (.ireturn, 1) := by decide +kernel
theorem d_R_unitAt_0 : decode b_R_unitAt 0 = .ok (.aload_n 0, 1) := by decide +kernel
theorem d_R_unitAt_1 : decode b_R_unitAt 1 = .ok (.getfield 10, 3) := by decide +kernel
theorem d_R_unitAt_4 : decode b_R_unitAt 4 = .ok (.iload_n 1, 1) := by decide +kernel
theorem d_R_unitAt_5 : decode b_R_unitAt 5 = .ok (.invokevirtual 65, 3) := by decide +kernel
theorem d_R_unitAt_8 : decode b_R_unitAt 8 = .ok (.invokestatic 69, 3) := by decide +kernel
theorem d_R_unitAt_11 : decode b_R_unitAt 11 = .ok (.iload_n 2, 1) := by decide +kernel
theorem d_R_unitAt_12 : decode b_R_unitAt 12 = .ok (.tableswitch 102 0 4 #[36, 46, 56, 66, 92], 36) := by decide +kernel
theorem d_R_unitAt_48 : decode b_R_unitAt 48 = .ok (.aload_n 0, 1) := by decide +kernel
theorem d_R_unitAt_49 : decode b_R_unitAt 49 = .ok (.getfield 10, 3) := by decide +kernel
theorem d_R_unitAt_52 : decode b_R_unitAt 52 = .ok (.getfield 100, 3) := by decide +kernel
theorem d_R_unitAt_55 : decode b_R_unitAt 55 = .ok (.iload_n 1, 1) := by decide +kernel
theorem d_R_unitAt_56 : decode b_R_unitAt 56 = .ok (.iaload, 1) := by decide +kernel
theorem d_R_unitAt_57 : decode b_R_unitAt 57 = .ok (.ireturn, 1) := by decide +kernel
theorem d_R_unitAt_58 : decode b_R_unitAt 58 = .ok (.aload_n 0, 1) := by decide +kernel
theorem d_R_unitAt_59 : decode b_R_unitAt 59 = .ok (.getfield 10, 3) := by decide +kernel
theorem d_R_unitAt_62 : decode b_R_unitAt 62 = .ok (.getfield 139, 3) := by decide +kernel
theorem d_R_unitAt_65 : decode b_R_unitAt 65 = .ok (.iload_n 1, 1) := by decide +kernel
theorem d_R_unitAt_66 : decode b_R_unitAt 66 = .ok (.iaload, 1) := by decide +kernel
theorem d_R_unitAt_67 : decode b_R_unitAt 67 = .ok (.ireturn, 1) := by decide +kernel
theorem d_R_unitAt_68 : decode b_R_unitAt 68 = .ok (.aload_n 0, 1) := by decide +kernel
theorem d_R_unitAt_69 : decode b_R_unitAt 69 = .ok (.getfield 10, 3) := by decide +kernel
theorem d_R_unitAt_72 : decode b_R_unitAt 72 = .ok (.getfield 142, 3) := by decide +kernel
theorem d_R_unitAt_75 : decode b_R_unitAt 75 = .ok (.iload_n 1, 1) := by decide +kernel
theorem d_R_unitAt_76 : decode b_R_unitAt 76 = .ok (.iaload, 1) := by decide +kernel
theorem d_R_unitAt_77 : decode b_R_unitAt 77 = .ok (.ireturn, 1) := by decide +kernel
theorem d_R_unitAt_78 : decode b_R_unitAt 78 = .ok (.aload_n 0, 1) := by decide +kernel
theorem d_R_unitAt_79 : decode b_R_unitAt 79 = .ok (.getfield 10, 3) := by decide +kernel
theorem d_R_unitAt_82 : decode b_R_unitAt 82 = .ok (.getfield 100, 3) := by decide +kernel
theorem d_R_unitAt_85 : decode b_R_unitAt 85 = .ok (.iload_n 1, 1) := by decide +kernel
theorem d_R_unitAt_86 : decode b_R_unitAt 86 = .ok (.iaload, 1) := by decide +kernel
theorem d_R_unitAt_87 : decode b_R_unitAt 87 = .ok (.iconst 5, 1) := by decide +kernel
theorem d_R_unitAt_88 : decode b_R_unitAt 88 = .ok (.if_icmp .ne 14, 3) := by decide +kernel
theorem d_R_unitAt_91 : decode b_R_unitAt 91 = .ok (.aload_n 0, 1) := by decide +kernel
theorem d_R_unitAt_92 : decode b_R_unitAt 92 = .ok (.getfield 10, 3) := by decide +kernel
theorem d_R_unitAt_95 : decode b_R_unitAt 95 = .ok (.iload_n 1, 1) := by decide +kernel
theorem d_R_unitAt_96 : decode b_R_unitAt 96 = .ok (.invokevirtual 145, 3) := by decide +kernel
theorem d_R_unitAt_99 : decode b_R_unitAt 99 = .ok (.goto 4, 3) := by decide +kernel
theorem d_R_unitAt_102 : decode b_R_unitAt 102 = .ok (.iconst 0, 1) := by decide +kernel
theorem d_R_unitAt_103 : decode b_R_unitAt 103 = .ok (.ireturn, 1) := by decide +kernel
theorem d_R_unitAt_104 : decode b_R_unitAt 104 = .ok (.aload_n 0, 1) := by decide +kernel
theorem d_R_unitAt_105 : decode b_R_unitAt 105 = .ok (.getfield 10, 3) := by decide +kernel
theorem d_R_unitAt_108 : decode b_R_unitAt 108 = .ok (.getfield 148, 3) := by decide +kernel
theorem d_R_unitAt_111 : decode b_R_unitAt 111 = .ok (.iload_n 1, 1) := by decide +kernel
theorem d_R_unitAt_112 : decode b_R_unitAt 112 = .ok (.iaload, 1) := by decide +kernel
theorem d_R_unitAt_113 : decode b_R_unitAt 113 = .ok (.ireturn, 1) := by decide +kernel
theorem d_R_unitAt_114 : decode b_R_unitAt 114 = .ok (.new 151, 3) := by decide +kernel
theorem d_R_unitAt_117 : decode b_R_unitAt 117 = .ok (.dup, 1) := by decide +kernel
theorem d_R_unitAt_118 : decode b_R_unitAt 118 = .ok (.ldc 153, 2) := by decide +kernel
theorem d_R_unitAt_120 : decode b_R_unitAt 120 = .ok (.invokespecial 155, 3) := by decide +kernel
theorem d_R_unitAt_123 : decode b_R_unitAt 123 = .ok (.athrow, 1) := by decide +kernel
theorem d_R_incidentAt_0 : decode b_R_incidentAt 0 = .ok (.aload_n 0, 1) := by decide +kernel
theorem d_R_incidentAt_1 : decode b_R_incidentAt 1 = .ok (.getfield 19, 3) := by decide +kernel
theorem d_R_incidentAt_4 : decode b_R_incidentAt 4 = .ok (.iload_n 1, 1) := by decide +kernel
theorem d_R_incidentAt_5 : decode b_R_incidentAt 5 = .ok (.invokevirtual 99, 3) := by decide +kernel
theorem d_R_incidentAt_8 : decode b_R_incidentAt 8 = .ok (.invokestatic 69, 3) := by decide +kernel
theorem d_R_incidentAt_11 : decode b_R_incidentAt 11 = .ok (.iload_n 2, 1) := by decide +kernel
theorem d_R_incidentAt_12 : decode b_R_incidentAt 12 = .ok (.tableswitch 145 0 7 #[48, 66, 75, 84, 94, 104, 114, 124], 48) := by decide +kernel
theorem d_R_incidentAt_60 : decode b_R_incidentAt 60 = .ok (.aload_n 0, 1) := by decide +kernel
theorem d_R_incidentAt_61 : decode b_R_incidentAt 61 = .ok (.getfield 19, 3) := by decide +kernel
theorem d_R_incidentAt_64 : decode b_R_incidentAt 64 = .ok (.getfield 88, 3) := by decide +kernel
theorem d_R_incidentAt_67 : decode b_R_incidentAt 67 = .ok (.iload_n 1, 1) := by decide +kernel
theorem d_R_incidentAt_68 : decode b_R_incidentAt 68 = .ok (.baload, 1) := by decide +kernel
theorem d_R_incidentAt_69 : decode b_R_incidentAt 69 = .ok (.ifCond .eq 7, 3) := by decide +kernel
theorem d_R_incidentAt_72 : decode b_R_incidentAt 72 = .ok (.iconst 1, 1) := by decide +kernel
theorem d_R_incidentAt_73 : decode b_R_incidentAt 73 = .ok (.goto 4, 3) := by decide +kernel
theorem d_R_incidentAt_76 : decode b_R_incidentAt 76 = .ok (.iconst 0, 1) := by decide +kernel
theorem d_R_incidentAt_77 : decode b_R_incidentAt 77 = .ok (.ireturn, 1) := by decide +kernel
theorem d_R_incidentAt_78 : decode b_R_incidentAt 78 = .ok (.aload_n 0, 1) := by decide +kernel
theorem d_R_incidentAt_79 : decode b_R_incidentAt 79 = .ok (.getfield 10, 3) := by decide +kernel
theorem d_R_incidentAt_82 : decode b_R_incidentAt 82 = .ok (.iload_n 1, 1) := by decide +kernel
theorem d_R_incidentAt_83 : decode b_R_incidentAt 83 = .ok (.invokevirtual 158, 3) := by decide +kernel
theorem d_R_incidentAt_86 : decode b_R_incidentAt 86 = .ok (.ireturn, 1) := by decide +kernel
theorem d_R_incidentAt_87 : decode b_R_incidentAt 87 = .ok (.aload_n 0, 1) := by decide +kernel
theorem d_R_incidentAt_88 : decode b_R_incidentAt 88 = .ok (.getfield 26, 3) := by decide +kernel
theorem d_R_incidentAt_91 : decode b_R_incidentAt 91 = .ok (.iload_n 1, 1) := by decide +kernel
theorem d_R_incidentAt_92 : decode b_R_incidentAt 92 = .ok (.invokevirtual 161, 3) := by decide +kernel
theorem d_R_incidentAt_95 : decode b_R_incidentAt 95 = .ok (.ireturn, 1) := by decide +kernel
theorem d_R_incidentAt_96 : decode b_R_incidentAt 96 = .ok (.aload_n 0, 1) := by decide +kernel
theorem d_R_incidentAt_97 : decode b_R_incidentAt 97 = .ok (.getfield 19, 3) := by decide +kernel
theorem d_R_incidentAt_100 : decode b_R_incidentAt 100 = .ok (.getfield 164, 3) := by decide +kernel
theorem d_R_incidentAt_103 : decode b_R_incidentAt 103 = .ok (.iload_n 1, 1) := by decide +kernel
theorem d_R_incidentAt_104 : decode b_R_incidentAt 104 = .ok (.iaload, 1) := by decide +kernel
theorem d_R_incidentAt_105 : decode b_R_incidentAt 105 = .ok (.ireturn, 1) := by decide +kernel
theorem d_R_incidentAt_106 : decode b_R_incidentAt 106 = .ok (.aload_n 0, 1) := by decide +kernel
theorem d_R_incidentAt_107 : decode b_R_incidentAt 107 = .ok (.getfield 19, 3) := by decide +kernel
theorem d_R_incidentAt_110 : decode b_R_incidentAt 110 = .ok (.getfield 167, 3) := by decide +kernel
theorem d_R_incidentAt_113 : decode b_R_incidentAt 113 = .ok (.iload_n 1, 1) := by decide +kernel
theorem d_R_incidentAt_114 : decode b_R_incidentAt 114 = .ok (.iaload, 1) := by decide +kernel
theorem d_R_incidentAt_115 : decode b_R_incidentAt 115 = .ok (.ireturn, 1) := by decide +kernel
theorem d_R_incidentAt_116 : decode b_R_incidentAt 116 = .ok (.aload_n 0, 1) := by decide +kernel
theorem d_R_incidentAt_117 : decode b_R_incidentAt 117 = .ok (.getfield 19, 3) := by decide +kernel
theorem d_R_incidentAt_120 : decode b_R_incidentAt 120 = .ok (.getfield 170, 3) := by decide +kernel
theorem d_R_incidentAt_123 : decode b_R_incidentAt 123 = .ok (.iload_n 1, 1) := by decide +kernel
theorem d_R_incidentAt_124 : decode b_R_incidentAt 124 = .ok (.iaload, 1) := by decide +kernel
theorem d_R_incidentAt_125 : decode b_R_incidentAt 125 = .ok (.ireturn, 1) := by decide +kernel
theorem d_R_incidentAt_126 : decode b_R_incidentAt 126 = .ok (.aload_n 0, 1) := by decide +kernel
theorem d_R_incidentAt_127 : decode b_R_incidentAt 127 = .ok (.getfield 19, 3) := by decide +kernel
theorem d_R_incidentAt_130 : decode b_R_incidentAt 130 = .ok (.getfield 129, 3) := by decide +kernel
theorem d_R_incidentAt_133 : decode b_R_incidentAt 133 = .ok (.iload_n 1, 1) := by decide +kernel
theorem d_R_incidentAt_134 : decode b_R_incidentAt 134 = .ok (.iaload, 1) := by decide +kernel
theorem d_R_incidentAt_135 : decode b_R_incidentAt 135 = .ok (.ireturn, 1) := by decide +kernel
theorem d_R_incidentAt_136 : decode b_R_incidentAt 136 = .ok (.aload_n 0, 1) := by decide +kernel
theorem d_R_incidentAt_137 : decode b_R_incidentAt 137 = .ok (.getfield 19, 3) := by decide +kernel
theorem d_R_incidentAt_140 : decode b_R_incidentAt 140 = .ok (.iload_n 1, 1) := by decide +kernel
theorem d_R_incidentAt_141 : decode b_R_incidentAt 141 = .ok (.aload_n 0, 1) := by decide +kernel
theorem d_R_incidentAt_142 : decode b_R_incidentAt 142 = .ok (.getfield 34, 3) := by decide +kernel
theorem d_R_incidentAt_145 : decode b_R_incidentAt 145 = .ok (.invokevirtual 173, 3) := by decide +kernel
theorem d_R_incidentAt_148 : decode b_R_incidentAt 148 = .ok (.ifCond .eq 7, 3) := by decide +kernel
theorem d_R_incidentAt_151 : decode b_R_incidentAt 151 = .ok (.iconst 1, 1) := by decide +kernel
theorem d_R_incidentAt_152 : decode b_R_incidentAt 152 = .ok (.goto 4, 3) := by decide +kernel
theorem d_R_incidentAt_155 : decode b_R_incidentAt 155 = .ok (.iconst 0, 1) := by decide +kernel
theorem d_R_incidentAt_156 : decode b_R_incidentAt 156 = .ok (.ireturn, 1) := by decide +kernel
theorem d_R_incidentAt_157 : decode b_R_incidentAt 157 = .ok (.new 151, 3) := by decide +kernel
theorem d_R_incidentAt_160 : decode b_R_incidentAt 160 = .ok (.dup, 1) := by decide +kernel
theorem d_R_incidentAt_161 : decode b_R_incidentAt 161 = .ok (.ldc 153, 2) := by decide +kernel
theorem d_R_incidentAt_163 : decode b_R_incidentAt 163 = .ok (.invokespecial 155, 3) := by decide +kernel
theorem d_R_incidentAt_166 : decode b_R_incidentAt 166 = .ok (.athrow, 1) := by decide +kernel
theorem d_R_count_0 : decode b_R_count 0 = .ok (.iload_n 1, 1) := by decide +kernel
theorem d_R_count_1 : decode b_R_count 1 = .ok (.tableswitch 60 0 3 #[31, 36, 44, 52], 31) := by decide +kernel
theorem d_R_count_32 : decode b_R_count 32 = .ok (.aload_n 0, 1) := by decide +kernel
theorem d_R_count_33 : decode b_R_count 33 = .ok (.getfield 34, 3) := by decide +kernel
theorem d_R_count_36 : decode b_R_count 36 = .ok (.ireturn, 1) := by decide +kernel
theorem d_R_count_37 : decode b_R_count 37 = .ok (.aload_n 0, 1) := by decide +kernel
theorem d_R_count_38 : decode b_R_count 38 = .ok (.getfield 10, 3) := by decide +kernel
theorem d_R_count_41 : decode b_R_count 41 = .ok (.invokevirtual 177, 3) := by decide +kernel
theorem d_R_count_44 : decode b_R_count 44 = .ok (.ireturn, 1) := by decide +kernel
theorem d_R_count_45 : decode b_R_count 45 = .ok (.aload_n 0, 1) := by decide +kernel
theorem d_R_count_46 : decode b_R_count 46 = .ok (.getfield 26, 3) := by decide +kernel
theorem d_R_count_49 : decode b_R_count 49 = .ok (.getfield 76, 3) := by decide +kernel
theorem d_R_count_52 : decode b_R_count 52 = .ok (.ireturn, 1) := by decide +kernel
theorem d_R_count_53 : decode b_R_count 53 = .ok (.aload_n 0, 1) := by decide +kernel
theorem d_R_count_54 : decode b_R_count 54 = .ok (.getfield 19, 3) := by decide +kernel
theorem d_R_count_57 : decode b_R_count 57 = .ok (.invokevirtual 180, 3) := by decide +kernel
theorem d_R_count_60 : decode b_R_count 60 = .ok (.ireturn, 1) := by decide +kernel
theorem d_R_count_61 : decode b_R_count 61 = .ok (.iload_n 1, 1) := by decide +kernel
theorem d_R_count_62 : decode b_R_count 62 = .ok (.bipush 10, 2) := by decide +kernel
theorem d_R_count_64 : decode b_R_count 64 = .ok (.if_icmp .lt 17, 3) := by decide +kernel
theorem d_R_count_67 : decode b_R_count 67 = .ok (.iload_n 1, 1) := by decide +kernel
theorem d_R_count_68 : decode b_R_count 68 = .ok (.bipush 10, 2) := by decide +kernel
theorem d_R_count_70 : decode b_R_count 70 = .ok (.isub, 1) := by decide +kernel
theorem d_R_count_71 : decode b_R_count 71 = .ok (.invokestatic 116, 3) := by decide +kernel
theorem d_R_count_74 : decode b_R_count 74 = .ok (.ifCond .eq 7, 3) := by decide +kernel
theorem d_R_count_77 : decode b_R_count 77 = .ok (.iconst 1, 1) := by decide +kernel
theorem d_R_count_78 : decode b_R_count 78 = .ok (.goto 4, 3) := by decide +kernel
theorem d_R_count_81 : decode b_R_count 81 = .ok (.iconst 0, 1) := by decide +kernel
theorem d_R_count_82 : decode b_R_count 82 = .ok (.invokestatic 69, 3) := by decide +kernel
theorem d_R_count_85 : decode b_R_count 85 = .ok (.aload_n 0, 1) := by decide +kernel
theorem d_R_count_86 : decode b_R_count 86 = .ok (.getfield 30, 3) := by decide +kernel
theorem d_R_count_89 : decode b_R_count 89 = .ok (.iload_n 1, 1) := by decide +kernel
theorem d_R_count_90 : decode b_R_count 90 = .ok (.bipush 10, 2) := by decide +kernel
theorem d_R_count_92 : decode b_R_count 92 = .ok (.isub, 1) := by decide +kernel
theorem d_R_count_93 : decode b_R_count 93 = .ok (.iaload, 1) := by decide +kernel
theorem d_R_count_94 : decode b_R_count 94 = .ok (.ireturn, 1) := by decide +kernel
theorem d_R_needKnown_0 : decode b_R_needKnown 0 = .ok (.iload_n 0, 1) := by decide +kernel
theorem d_R_needKnown_1 : decode b_R_needKnown 1 = .ok (.ifCond .ne 13, 3) := by decide +kernel
theorem d_R_needKnown_4 : decode b_R_needKnown 4 = .ok (.new 151, 3) := by decide +kernel
theorem d_R_needKnown_7 : decode b_R_needKnown 7 = .ok (.dup, 1) := by decide +kernel
theorem d_R_needKnown_8 : decode b_R_needKnown 8 = .ok (.ldc 183, 2) := by decide +kernel
theorem d_R_needKnown_10 : decode b_R_needKnown 10 = .ok (.invokespecial 155, 3) := by decide +kernel
theorem d_R_needKnown_13 : decode b_R_needKnown 13 = .ok (.athrow, 1) := by decide +kernel
theorem d_R_needKnown_14 : decode b_R_needKnown 14 = .ok (.return_, 1) := by decide +kernel
theorem d_R_needRange_0 : decode b_R_needRange 0 = .ok (.iload_n 0, 1) := by decide +kernel
theorem d_R_needRange_1 : decode b_R_needRange 1 = .ok (.iload_n 1, 1) := by decide +kernel
theorem d_R_needRange_2 : decode b_R_needRange 2 = .ok (.if_icmp .lt 8, 3) := by decide +kernel
theorem d_R_needRange_5 : decode b_R_needRange 5 = .ok (.iload_n 0, 1) := by decide +kernel
theorem d_R_needRange_6 : decode b_R_needRange 6 = .ok (.iload_n 2, 1) := by decide +kernel
theorem d_R_needRange_7 : decode b_R_needRange 7 = .ok (.if_icmp .le 13, 3) := by decide +kernel
theorem d_R_needRange_10 : decode b_R_needRange 10 = .ok (.new 185, 3) := by decide +kernel
theorem d_R_needRange_13 : decode b_R_needRange 13 = .ok (.dup, 1) := by decide +kernel
theorem d_R_needRange_14 : decode b_R_needRange 14 = .ok (.ldc 187, 2) := by decide +kernel
theorem d_R_needRange_16 : decode b_R_needRange 16 = .ok (.invokespecial 189, 3) := by decide +kernel
theorem d_R_needRange_19 : decode b_R_needRange 19 = .ok (.athrow, 1) := by decide +kernel
theorem d_R_needRange_20 : decode b_R_needRange 20 = .ok (.return_, 1) := by decide +kernel
theorem d_R_needState_0 : decode b_R_needState 0 = .ok (.iload_n 0, 1) := by decide +kernel
theorem d_R_needState_1 : decode b_R_needState 1 = .ok (.ifCond .ne 13, 3) := by decide +kernel
theorem d_R_needState_4 : decode b_R_needState 4 = .ok (.new 190, 3) := by decide +kernel
theorem d_R_needState_7 : decode b_R_needState 7 = .ok (.dup, 1) := by decide +kernel
theorem d_R_needState_8 : decode b_R_needState 8 = .ok (.ldc 192, 2) := by decide +kernel
theorem d_R_needState_10 : decode b_R_needState 10 = .ok (.invokespecial 194, 3) := by decide +kernel
theorem d_R_needState_13 : decode b_R_needState 13 = .ok (.athrow, 1) := by decide +kernel
theorem d_R_needState_14 : decode b_R_needState 14 = .ok (.return_, 1) := by decide +kernel
theorem d_R_needRoom_0 : decode b_R_needRoom 0 = .ok (.iload_n 0, 1) := by decide +kernel
theorem d_R_needRoom_1 : decode b_R_needRoom 1 = .ok (.ifCond .ne 13, 3) := by decide +kernel
theorem d_R_needRoom_4 : decode b_R_needRoom 4 = .ok (.new 195, 3) := by decide +kernel
theorem d_R_needRoom_7 : decode b_R_needRoom 7 = .ok (.dup, 1) := by decide +kernel
theorem d_R_needRoom_8 : decode b_R_needRoom 8 = .ok (.ldc 197, 2) := by decide +kernel
theorem d_R_needRoom_10 : decode b_R_needRoom 10 = .ok (.invokespecial 199, 3) := by decide +kernel
theorem d_R_needRoom_13 : decode b_R_needRoom 13 = .ok (.athrow, 1) := by decide +kernel
theorem d_R_needRoom_14 : decode b_R_needRoom 14 = .ok (.return_, 1) := by decide +kernel
theorem d_R_isGood_0 : decode b_R_isGood 0 = .ok (.iload_n 0, 1) := by decide +kernel
theorem d_R_isGood_1 : decode b_R_isGood 1 = .ok (.ifCond .lt 13, 3) := by decide +kernel
theorem d_R_isGood_4 : decode b_R_isGood 4 = .ok (.iload_n 0, 1) := by decide +kernel
theorem d_R_isGood_5 : decode b_R_isGood 5 = .ok (.bipush 6, 2) := by decide +kernel
theorem d_R_isGood_7 : decode b_R_isGood 7 = .ok (.if_icmp .ge 7, 3) := by decide +kernel
theorem d_R_isGood_10 : decode b_R_isGood 10 = .ok (.iconst 1, 1) := by decide +kernel
theorem d_R_isGood_11 : decode b_R_isGood 11 = .ok (.goto 4, 3) := by decide +kernel
theorem d_R_isGood_14 : decode b_R_isGood 14 = .ok (.iconst 0, 1) := by decide +kernel
theorem d_R_isGood_15 : decode b_R_isGood 15 = .ok (.ireturn, 1) := by decide +kernel
theorem d_R_isPast_0 : decode b_R_isPast 0 = .ok (.aload_n 0, 1) := by decide +kernel
theorem d_R_isPast_1 : decode b_R_isPast 1 = .ok (.getfield 19, 3) := by decide +kernel
theorem d_R_isPast_4 : decode b_R_isPast 4 = .ok (.getfield 88, 3) := by decide +kernel
theorem d_R_isPast_7 : decode b_R_isPast 7 = .ok (.iload_n 1, 1) := by decide +kernel
theorem d_R_isPast_8 : decode b_R_isPast 8 = .ok (.baload, 1) := by decide +kernel
theorem d_R_isPast_9 : decode b_R_isPast 9 = .ok (.ifCond .ne 28, 3) := by decide +kernel
theorem d_R_isPast_12 : decode b_R_isPast 12 = .ok (.aload_n 0, 1) := by decide +kernel
theorem d_R_isPast_13 : decode b_R_isPast 13 = .ok (.getfield 34, 3) := by decide +kernel
theorem d_R_isPast_16 : decode b_R_isPast 16 = .ok (.aload_n 0, 1) := by decide +kernel
theorem d_R_isPast_17 : decode b_R_isPast 17 = .ok (.getfield 19, 3) := by decide +kernel
theorem d_R_isPast_20 : decode b_R_isPast 20 = .ok (.getfield 170, 3) := by decide +kernel
theorem d_R_isPast_23 : decode b_R_isPast 23 = .ok (.iload_n 1, 1) := by decide +kernel
theorem d_R_isPast_24 : decode b_R_isPast 24 = .ok (.iaload, 1) := by decide +kernel
theorem d_R_isPast_25 : decode b_R_isPast 25 = .ok (.isub, 1) := by decide +kernel
theorem d_R_isPast_26 : decode b_R_isPast 26 = .ok (.aload_n 0, 1) := by decide +kernel
theorem d_R_isPast_27 : decode b_R_isPast 27 = .ok (.getfield 38, 3) := by decide +kernel
theorem d_R_isPast_30 : decode b_R_isPast 30 = .ok (.if_icmp .le 7, 3) := by decide +kernel
theorem d_R_isPast_33 : decode b_R_isPast 33 = .ok (.iconst 1, 1) := by decide +kernel
theorem d_R_isPast_34 : decode b_R_isPast 34 = .ok (.goto 4, 3) := by decide +kernel
theorem d_R_isPast_37 : decode b_R_isPast 37 = .ok (.iconst 0, 1) := by decide +kernel
theorem d_R_isPast_38 : decode b_R_isPast 38 = .ok (.ireturn, 1) := by decide +kernel
theorem d_R_bring_0 : decode b_R_bring 0 = .ok (.aload_n 0, 1) := by decide +kernel
theorem d_R_bring_1 : decode b_R_bring 1 = .ok (.getfield 10, 3) := by decide +kernel
theorem d_R_bring_4 : decode b_R_bring 4 = .ok (.iload_n 1, 1) := by decide +kernel
theorem d_R_bring_5 : decode b_R_bring 5 = .ok (.iload_n 2, 1) := by decide +kernel
theorem d_R_bring_6 : decode b_R_bring 6 = .ok (.aload_n 0, 1) := by decide +kernel
theorem d_R_bring_7 : decode b_R_bring 7 = .ok (.getfield 34, 3) := by decide +kernel
theorem d_R_bring_10 : decode b_R_bring 10 = .ok (.invokevirtual 200, 3) := by decide +kernel
theorem d_R_bring_13 : decode b_R_bring 13 = .ok (.aload_n 0, 1) := by decide +kernel
theorem d_R_bring_14 : decode b_R_bring 14 = .ok (.getfield 19, 3) := by decide +kernel
theorem d_R_bring_17 : decode b_R_bring 17 = .ok (.getfield 203, 3) := by decide +kernel
theorem d_R_bring_20 : decode b_R_bring 20 = .ok (.iload_n 2, 1) := by decide +kernel
theorem d_R_bring_21 : decode b_R_bring 21 = .ok (.iconst 1, 1) := by decide +kernel
theorem d_R_bring_22 : decode b_R_bring 22 = .ok (.bastore, 1) := by decide +kernel
theorem d_R_bring_23 : decode b_R_bring 23 = .ok (.return_, 1) := by decide +kernel
theorem d_R_settle_0 : decode b_R_settle 0 = .ok (.iconst 0, 1) := by decide +kernel
theorem d_R_settle_1 : decode b_R_settle 1 = .ok (.istore_n 1, 1) := by decide +kernel
theorem d_R_settle_2 : decode b_R_settle 2 = .ok (.iload_n 1, 1) := by decide +kernel
theorem d_R_settle_3 : decode b_R_settle 3 = .ok (.aload_n 0, 1) := by decide +kernel
theorem d_R_settle_4 : decode b_R_settle 4 = .ok (.getfield 10, 3) := by decide +kernel
theorem d_R_settle_7 : decode b_R_settle 7 = .ok (.getfield 46, 3) := by decide +kernel
theorem d_R_settle_10 : decode b_R_settle 10 = .ok (.if_icmp .ge 25, 3) := by decide +kernel
theorem d_R_settle_13 : decode b_R_settle 13 = .ok (.aload_n 0, 1) := by decide +kernel
theorem d_R_settle_14 : decode b_R_settle 14 = .ok (.getfield 10, 3) := by decide +kernel
theorem d_R_settle_17 : decode b_R_settle 17 = .ok (.iload_n 1, 1) := by decide +kernel
theorem d_R_settle_18 : decode b_R_settle 18 = .ok (.aload_n 0, 1) := by decide +kernel
theorem d_R_settle_19 : decode b_R_settle 19 = .ok (.getfield 30, 3) := by decide +kernel
theorem d_R_settle_22 : decode b_R_settle 22 = .ok (.aload_n 0, 1) := by decide +kernel
theorem d_R_settle_23 : decode b_R_settle 23 = .ok (.getfield 34, 3) := by decide +kernel
theorem d_R_settle_26 : decode b_R_settle 26 = .ok (.invokevirtual 206, 3) := by decide +kernel
theorem d_R_settle_29 : decode b_R_settle 29 = .ok (.iinc 1 1, 3) := by decide +kernel
theorem d_R_settle_32 : decode b_R_settle 32 = .ok (.goto (-30), 3) := by decide +kernel
theorem d_R_settle_35 : decode b_R_settle 35 = .ok (.aload_n 0, 1) := by decide +kernel
theorem d_R_settle_36 : decode b_R_settle 36 = .ok (.invokevirtual 210, 3) := by decide +kernel
theorem d_R_settle_39 : decode b_R_settle 39 = .ok (.aload_n 0, 1) := by decide +kernel
theorem d_R_settle_40 : decode b_R_settle 40 = .ok (.invokevirtual 213, 3) := by decide +kernel
theorem d_R_settle_43 : decode b_R_settle 43 = .ok (.ireturn, 1) := by decide +kernel
theorem d_R_giveUnitsToCalls_0 : decode b_R_giveUnitsToCalls 0 = .ok (.iconst 0, 1) := by decide +kernel
theorem d_R_giveUnitsToCalls_1 : decode b_R_giveUnitsToCalls 1 = .ok (.istore_n 1, 1) := by decide +kernel
theorem d_R_giveUnitsToCalls_2 : decode b_R_giveUnitsToCalls 2 = .ok (.iload_n 1, 1) := by decide +kernel
theorem d_R_giveUnitsToCalls_3 : decode b_R_giveUnitsToCalls 3 = .ok (.bipush 30, 2) := by decide +kernel
theorem d_R_giveUnitsToCalls_5 : decode b_R_giveUnitsToCalls 5 = .ok (.if_icmp .ge 45, 3) := by decide +kernel
theorem d_R_giveUnitsToCalls_8 : decode b_R_giveUnitsToCalls 8 = .ok (.aload_n 0, 1) := by decide +kernel
theorem d_R_giveUnitsToCalls_9 : decode b_R_giveUnitsToCalls 9 = .ok (.getfield 26, 3) := by decide +kernel
theorem d_R_giveUnitsToCalls_12 : decode b_R_giveUnitsToCalls 12 = .ok (.getfield 76, 3) := by decide +kernel
theorem d_R_giveUnitsToCalls_15 : decode b_R_giveUnitsToCalls 15 = .ok (.ifCond .le 35, 3) := by decide +kernel
theorem d_R_giveUnitsToCalls_18 : decode b_R_giveUnitsToCalls 18 = .ok (.aload_n 0, 1) := by decide +kernel
theorem d_R_giveUnitsToCalls_19 : decode b_R_giveUnitsToCalls 19 = .ok (.getfield 10, 3) := by decide +kernel
theorem d_R_giveUnitsToCalls_22 : decode b_R_giveUnitsToCalls 22 = .ok (.invokevirtual 216, 3) := by decide +kernel
theorem d_R_giveUnitsToCalls_25 : decode b_R_giveUnitsToCalls 25 = .ok (.istore_n 2, 1) := by decide +kernel
theorem d_R_giveUnitsToCalls_26 : decode b_R_giveUnitsToCalls 26 = .ok (.iload_n 2, 1) := by decide +kernel
theorem d_R_giveUnitsToCalls_27 : decode b_R_giveUnitsToCalls 27 = .ok (.iconst (-1), 1) := by decide +kernel
theorem d_R_giveUnitsToCalls_28 : decode b_R_giveUnitsToCalls 28 = .ok (.if_icmp .ne 4, 3) := by decide +kernel
theorem d_R_giveUnitsToCalls_31 : decode b_R_giveUnitsToCalls 31 = .ok (.return_, 1) := by decide +kernel
theorem d_R_giveUnitsToCalls_32 : decode b_R_giveUnitsToCalls 32 = .ok (.aload_n 0, 1) := by decide +kernel
theorem d_R_giveUnitsToCalls_33 : decode b_R_giveUnitsToCalls 33 = .ok (.iload_n 2, 1) := by decide +kernel
theorem d_R_giveUnitsToCalls_34 : decode b_R_giveUnitsToCalls 34 = .ok (.aload_n 0, 1) := by decide +kernel
theorem d_R_giveUnitsToCalls_35 : decode b_R_giveUnitsToCalls 35 = .ok (.getfield 26, 3) := by decide +kernel
theorem d_R_giveUnitsToCalls_38 : decode b_R_giveUnitsToCalls 38 = .ok (.invokevirtual 219, 3) := by decide +kernel
theorem d_R_giveUnitsToCalls_41 : decode b_R_giveUnitsToCalls 41 = .ok (.invokevirtual 106, 3) := by decide +kernel
theorem d_R_giveUnitsToCalls_44 : decode b_R_giveUnitsToCalls 44 = .ok (.iinc 1 1, 3) := by decide +kernel
theorem d_R_giveUnitsToCalls_47 : decode b_R_giveUnitsToCalls 47 = .ok (.goto (-45), 3) := by decide +kernel
theorem d_R_giveUnitsToCalls_50 : decode b_R_giveUnitsToCalls 50 = .ok (.return_, 1) := by decide +kernel
theorem d_R_closeIncidents_0 : decode b_R_closeIncidents 0 = .ok (.iconst 0, 1) := by decide +kernel
theorem d_R_closeIncidents_1 : decode b_R_closeIncidents 1 = .ok (.istore_n 1, 1) := by decide +kernel
theorem d_R_closeIncidents_2 : decode b_R_closeIncidents 2 = .ok (.iconst 0, 1) := by decide +kernel
theorem d_R_closeIncidents_3 : decode b_R_closeIncidents 3 = .ok (.istore_n 2, 1) := by decide +kernel
theorem d_R_closeIncidents_4 : decode b_R_closeIncidents 4 = .ok (.iload_n 2, 1) := by decide +kernel
theorem d_R_closeIncidents_5 : decode b_R_closeIncidents 5 = .ok (.aload_n 0, 1) := by decide +kernel
theorem d_R_closeIncidents_6 : decode b_R_closeIncidents 6 = .ok (.getfield 19, 3) := by decide +kernel
theorem d_R_closeIncidents_9 : decode b_R_closeIncidents 9 = .ok (.getfield 84, 3) := by decide +kernel
theorem d_R_closeIncidents_12 : decode b_R_closeIncidents 12 = .ok (.if_icmp .ge 61, 3) := by decide +kernel
theorem d_R_closeIncidents_15 : decode b_R_closeIncidents 15 = .ok (.aload_n 0, 1) := by decide +kernel
theorem d_R_closeIncidents_16 : decode b_R_closeIncidents 16 = .ok (.getfield 19, 3) := by decide +kernel
theorem d_R_closeIncidents_19 : decode b_R_closeIncidents 19 = .ok (.iload_n 2, 1) := by decide +kernel
theorem d_R_closeIncidents_20 : decode b_R_closeIncidents 20 = .ok (.aload_n 0, 1) := by decide +kernel
theorem d_R_closeIncidents_21 : decode b_R_closeIncidents 21 = .ok (.getfield 34, 3) := by decide +kernel
theorem d_R_closeIncidents_24 : decode b_R_closeIncidents 24 = .ok (.invokevirtual 222, 3) := by decide +kernel
theorem d_R_closeIncidents_27 : decode b_R_closeIncidents 27 = .ok (.ifCond .eq 40, 3) := by decide +kernel
theorem d_R_closeIncidents_30 : decode b_R_closeIncidents 30 = .ok (.aload_n 0, 1) := by decide +kernel
theorem d_R_closeIncidents_31 : decode b_R_closeIncidents 31 = .ok (.getfield 10, 3) := by decide +kernel
theorem d_R_closeIncidents_34 : decode b_R_closeIncidents 34 = .ok (.iload_n 2, 1) := by decide +kernel
theorem d_R_closeIncidents_35 : decode b_R_closeIncidents 35 = .ok (.invokevirtual 158, 3) := by decide +kernel
theorem d_R_closeIncidents_38 : decode b_R_closeIncidents 38 = .ok (.ifCond .ne 29, 3) := by decide +kernel
theorem d_R_closeIncidents_41 : decode b_R_closeIncidents 41 = .ok (.aload_n 0, 1) := by decide +kernel
theorem d_R_closeIncidents_42 : decode b_R_closeIncidents 42 = .ok (.getfield 26, 3) := by decide +kernel
theorem d_R_closeIncidents_45 : decode b_R_closeIncidents 45 = .ok (.iload_n 2, 1) := by decide +kernel
theorem d_R_closeIncidents_46 : decode b_R_closeIncidents 46 = .ok (.invokevirtual 161, 3) := by decide +kernel
theorem d_R_closeIncidents_49 : decode b_R_closeIncidents 49 = .ok (.ifCond .ne 18, 3) := by decide +kernel
theorem d_R_closeIncidents_52 : decode b_R_closeIncidents 52 = .ok (.aload_n 0, 1) := by decide +kernel
theorem d_R_closeIncidents_53 : decode b_R_closeIncidents 53 = .ok (.getfield 19, 3) := by decide +kernel
theorem d_R_closeIncidents_56 : decode b_R_closeIncidents 56 = .ok (.iload_n 2, 1) := by decide +kernel
theorem d_R_closeIncidents_57 : decode b_R_closeIncidents 57 = .ok (.aload_n 0, 1) := by decide +kernel
theorem d_R_closeIncidents_58 : decode b_R_closeIncidents 58 = .ok (.getfield 34, 3) := by decide +kernel
theorem d_R_closeIncidents_61 : decode b_R_closeIncidents 61 = .ok (.invokevirtual 225, 3) := by decide +kernel
theorem d_R_closeIncidents_64 : decode b_R_closeIncidents 64 = .ok (.iinc 1 1, 3) := by decide +kernel
theorem d_R_closeIncidents_67 : decode b_R_closeIncidents 67 = .ok (.iinc 2 1, 3) := by decide +kernel
theorem d_R_closeIncidents_70 : decode b_R_closeIncidents 70 = .ok (.goto (-66), 3) := by decide +kernel
theorem d_R_closeIncidents_73 : decode b_R_closeIncidents 73 = .ok (.iload_n 1, 1) := by decide +kernel
theorem d_R_closeIncidents_74 : decode b_R_closeIncidents 74 = .ok (.ireturn, 1) := by decide +kernel
theorem d_R_nextChange_0 : decode b_R_nextChange 0 = .ok (.iload_n 1, 1) := by decide +kernel
theorem d_R_nextChange_1 : decode b_R_nextChange 1 = .ok (.istore_n 2, 1) := by decide +kernel
theorem d_R_nextChange_2 : decode b_R_nextChange 2 = .ok (.iconst 0, 1) := by decide +kernel
theorem d_R_nextChange_3 : decode b_R_nextChange 3 = .ok (.istore_n 3, 1) := by decide +kernel
theorem d_R_nextChange_4 : decode b_R_nextChange 4 = .ok (.iload_n 3, 1) := by decide +kernel
theorem d_R_nextChange_5 : decode b_R_nextChange 5 = .ok (.aload_n 0, 1) := by decide +kernel
theorem d_R_nextChange_6 : decode b_R_nextChange 6 = .ok (.getfield 10, 3) := by decide +kernel
theorem d_R_nextChange_9 : decode b_R_nextChange 9 = .ok (.getfield 46, 3) := by decide +kernel
theorem d_R_nextChange_12 : decode b_R_nextChange 12 = .ok (.if_icmp .ge 23, 3) := by decide +kernel
theorem d_R_nextChange_15 : decode b_R_nextChange 15 = .ok (.aload_n 0, 1) := by decide +kernel
theorem d_R_nextChange_16 : decode b_R_nextChange 16 = .ok (.aload_n 0, 1) := by decide +kernel
theorem d_R_nextChange_17 : decode b_R_nextChange 17 = .ok (.getfield 10, 3) := by decide +kernel
theorem d_R_nextChange_20 : decode b_R_nextChange 20 = .ok (.iload_n 3, 1) := by decide +kernel
theorem d_R_nextChange_21 : decode b_R_nextChange 21 = .ok (.invokevirtual 228, 3) := by decide +kernel
theorem d_R_nextChange_24 : decode b_R_nextChange 24 = .ok (.iload_n 2, 1) := by decide +kernel
theorem d_R_nextChange_25 : decode b_R_nextChange 25 = .ok (.invokevirtual 231, 3) := by decide +kernel
theorem d_R_nextChange_28 : decode b_R_nextChange 28 = .ok (.istore_n 2, 1) := by decide +kernel
theorem d_R_nextChange_29 : decode b_R_nextChange 29 = .ok (.iinc 3 1, 3) := by decide +kernel
theorem d_R_nextChange_32 : decode b_R_nextChange 32 = .ok (.goto (-28), 3) := by decide +kernel
theorem d_R_nextChange_35 : decode b_R_nextChange 35 = .ok (.iconst 0, 1) := by decide +kernel
theorem d_R_nextChange_36 : decode b_R_nextChange 36 = .ok (.istore_n 3, 1) := by decide +kernel
theorem d_R_nextChange_37 : decode b_R_nextChange 37 = .ok (.iload_n 3, 1) := by decide +kernel
theorem d_R_nextChange_38 : decode b_R_nextChange 38 = .ok (.aload_n 0, 1) := by decide +kernel
theorem d_R_nextChange_39 : decode b_R_nextChange 39 = .ok (.getfield 19, 3) := by decide +kernel
theorem d_R_nextChange_42 : decode b_R_nextChange 42 = .ok (.getfield 84, 3) := by decide +kernel
theorem d_R_nextChange_45 : decode b_R_nextChange 45 = .ok (.if_icmp .ge 36, 3) := by decide +kernel
theorem d_R_nextChange_48 : decode b_R_nextChange 48 = .ok (.aload_n 0, 1) := by decide +kernel
theorem d_R_nextChange_49 : decode b_R_nextChange 49 = .ok (.getfield 19, 3) := by decide +kernel
theorem d_R_nextChange_52 : decode b_R_nextChange 52 = .ok (.getfield 88, 3) := by decide +kernel
theorem d_R_nextChange_55 : decode b_R_nextChange 55 = .ok (.iload_n 3, 1) := by decide +kernel
theorem d_R_nextChange_56 : decode b_R_nextChange 56 = .ok (.baload, 1) := by decide +kernel
theorem d_R_nextChange_57 : decode b_R_nextChange 57 = .ok (.ifCond .eq 18, 3) := by decide +kernel
theorem d_R_nextChange_60 : decode b_R_nextChange 60 = .ok (.aload_n 0, 1) := by decide +kernel
theorem d_R_nextChange_61 : decode b_R_nextChange 61 = .ok (.aload_n 0, 1) := by decide +kernel
theorem d_R_nextChange_62 : decode b_R_nextChange 62 = .ok (.getfield 19, 3) := by decide +kernel
theorem d_R_nextChange_65 : decode b_R_nextChange 65 = .ok (.getfield 133, 3) := by decide +kernel
theorem d_R_nextChange_68 : decode b_R_nextChange 68 = .ok (.iload_n 3, 1) := by decide +kernel
theorem d_R_nextChange_69 : decode b_R_nextChange 69 = .ok (.iaload, 1) := by decide +kernel
theorem d_R_nextChange_70 : decode b_R_nextChange 70 = .ok (.iload_n 2, 1) := by decide +kernel
theorem d_R_nextChange_71 : decode b_R_nextChange 71 = .ok (.invokevirtual 231, 3) := by decide +kernel
theorem d_R_nextChange_74 : decode b_R_nextChange 74 = .ok (.istore_n 2, 1) := by decide +kernel
theorem d_R_nextChange_75 : decode b_R_nextChange 75 = .ok (.iinc 3 1, 3) := by decide +kernel
theorem d_R_nextChange_78 : decode b_R_nextChange 78 = .ok (.goto (-41), 3) := by decide +kernel
theorem d_R_nextChange_81 : decode b_R_nextChange 81 = .ok (.iload_n 2, 1) := by decide +kernel
theorem d_R_nextChange_82 : decode b_R_nextChange 82 = .ok (.ireturn, 1) := by decide +kernel
theorem d_R_earlierAhead_0 : decode b_R_earlierAhead 0 = .ok (.iload_n 1, 1) := by decide +kernel
theorem d_R_earlierAhead_1 : decode b_R_earlierAhead 1 = .ok (.aload_n 0, 1) := by decide +kernel
theorem d_R_earlierAhead_2 : decode b_R_earlierAhead 2 = .ok (.getfield 34, 3) := by decide +kernel
theorem d_R_earlierAhead_5 : decode b_R_earlierAhead 5 = .ok (.if_icmp .le 12, 3) := by decide +kernel
theorem d_R_earlierAhead_8 : decode b_R_earlierAhead 8 = .ok (.iload_n 1, 1) := by decide +kernel
theorem d_R_earlierAhead_9 : decode b_R_earlierAhead 9 = .ok (.iload_n 2, 1) := by decide +kernel
theorem d_R_earlierAhead_10 : decode b_R_earlierAhead 10 = .ok (.if_icmp .ge 7, 3) := by decide +kernel
theorem d_R_earlierAhead_13 : decode b_R_earlierAhead 13 = .ok (.iload_n 1, 1) := by decide +kernel
theorem d_R_earlierAhead_14 : decode b_R_earlierAhead 14 = .ok (.goto 4, 3) := by decide +kernel
theorem d_R_earlierAhead_17 : decode b_R_earlierAhead 17 = .ok (.iload_n 2, 1) := by decide +kernel
theorem d_R_earlierAhead_18 : decode b_R_earlierAhead 18 = .ok (.ireturn, 1) := by decide +kernel
