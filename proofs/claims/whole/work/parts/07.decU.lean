theorem d_I_init_0 : decode b_I_init 0 = .ok (.aload_n 0, 1) := by decide +kernel
theorem d_I_init_1 : decode b_I_init 1 = .ok (.invokespecial 3, 3) := by decide +kernel
theorem d_I_init_4 : decode b_I_init 4 = .ok (.aload_n 0, 1) := by decide +kernel
theorem d_I_init_5 : decode b_I_init 5 = .ok (.bipush 20, 2) := by decide +kernel
theorem d_I_init_7 : decode b_I_init 7 = .ok (.newarray .int, 2) := by decide +kernel
theorem d_I_init_9 : decode b_I_init 9 = .ok (.putfield 9, 3) := by decide +kernel
theorem d_I_init_12 : decode b_I_init 12 = .ok (.aload_n 0, 1) := by decide +kernel
theorem d_I_init_13 : decode b_I_init 13 = .ok (.bipush 20, 2) := by decide +kernel
theorem d_I_init_15 : decode b_I_init 15 = .ok (.newarray .boolean, 2) := by decide +kernel
theorem d_I_init_17 : decode b_I_init 17 = .ok (.putfield 15, 3) := by decide +kernel
theorem d_I_init_20 : decode b_I_init 20 = .ok (.aload_n 0, 1) := by decide +kernel
theorem d_I_init_21 : decode b_I_init 21 = .ok (.bipush 20, 2) := by decide +kernel
theorem d_I_init_23 : decode b_I_init 23 = .ok (.newarray .boolean, 2) := by decide +kernel
theorem d_I_init_25 : decode b_I_init 25 = .ok (.putfield 19, 3) := by decide +kernel
theorem d_I_init_28 : decode b_I_init 28 = .ok (.aload_n 0, 1) := by decide +kernel
theorem d_I_init_29 : decode b_I_init 29 = .ok (.bipush 20, 2) := by decide +kernel
theorem d_I_init_31 : decode b_I_init 31 = .ok (.newarray .int, 2) := by decide +kernel
theorem d_I_init_33 : decode b_I_init 33 = .ok (.putfield 22, 3) := by decide +kernel
theorem d_I_init_36 : decode b_I_init 36 = .ok (.aload_n 0, 1) := by decide +kernel
theorem d_I_init_37 : decode b_I_init 37 = .ok (.bipush 20, 2) := by decide +kernel
theorem d_I_init_39 : decode b_I_init 39 = .ok (.newarray .int, 2) := by decide +kernel
theorem d_I_init_41 : decode b_I_init 41 = .ok (.putfield 25, 3) := by decide +kernel
theorem d_I_init_44 : decode b_I_init 44 = .ok (.aload_n 0, 1) := by decide +kernel
theorem d_I_init_45 : decode b_I_init 45 = .ok (.bipush 20, 2) := by decide +kernel
theorem d_I_init_47 : decode b_I_init 47 = .ok (.newarray .int, 2) := by decide +kernel
theorem d_I_init_49 : decode b_I_init 49 = .ok (.putfield 28, 3) := by decide +kernel
theorem d_I_init_52 : decode b_I_init 52 = .ok (.aload_n 0, 1) := by decide +kernel
theorem d_I_init_53 : decode b_I_init 53 = .ok (.bipush 20, 2) := by decide +kernel
theorem d_I_init_55 : decode b_I_init 55 = .ok (.newarray .int, 2) := by decide +kernel
theorem d_I_init_57 : decode b_I_init 57 = .ok (.putfield 31, 3) := by decide +kernel
theorem d_I_init_60 : decode b_I_init 60 = .ok (.aload_n 0, 1) := by decide +kernel
theorem d_I_init_61 : decode b_I_init 61 = .ok (.bipush 20, 2) := by decide +kernel
theorem d_I_init_63 : decode b_I_init 63 = .ok (.newarray .int, 2) := by decide +kernel
theorem d_I_init_65 : decode b_I_init 65 = .ok (.putfield 34, 3) := by decide +kernel
theorem d_I_init_68 : decode b_I_init 68 = .ok (.aload_n 0, 1) := by decide +kernel
theorem d_I_init_69 : decode b_I_init 69 = .ok (.bipush 20, 2) := by decide +kernel
theorem d_I_init_71 : decode b_I_init 71 = .ok (.newarray .int, 2) := by decide +kernel
theorem d_I_init_73 : decode b_I_init 73 = .ok (.putfield 37, 3) := by decide +kernel
theorem d_I_init_76 : decode b_I_init 76 = .ok (.aload_n 0, 1) := by decide +kernel
theorem d_I_init_77 : decode b_I_init 77 = .ok (.iconst 0, 1) := by decide +kernel
theorem d_I_init_78 : decode b_I_init 78 = .ok (.putfield 40, 3) := by decide +kernel
theorem d_I_init_81 : decode b_I_init 81 = .ok (.return_, 1) := by decide +kernel
theorem d_I_has_0 : decode b_I_has 0 = .ok (.iload_n 1, 1) := by decide +kernel
theorem d_I_has_1 : decode b_I_has 1 = .ok (.ifCond .lt 15, 3) := by decide +kernel
theorem d_I_has_4 : decode b_I_has 4 = .ok (.iload_n 1, 1) := by decide +kernel
theorem d_I_has_5 : decode b_I_has 5 = .ok (.aload_n 0, 1) := by decide +kernel
theorem d_I_has_6 : decode b_I_has 6 = .ok (.getfield 40, 3) := by decide +kernel
theorem d_I_has_9 : decode b_I_has 9 = .ok (.if_icmp .ge 7, 3) := by decide +kernel
theorem d_I_has_12 : decode b_I_has 12 = .ok (.iconst 1, 1) := by decide +kernel
theorem d_I_has_13 : decode b_I_has 13 = .ok (.goto 4, 3) := by decide +kernel
theorem d_I_has_16 : decode b_I_has 16 = .ok (.iconst 0, 1) := by decide +kernel
theorem d_I_has_17 : decode b_I_has 17 = .ok (.ireturn, 1) := by decide +kernel
theorem d_I_addIncident_0 : decode b_I_addIncident 0 = .ok (.aload_n 0, 1) := by decide +kernel
theorem d_I_addIncident_1 : decode b_I_addIncident 1 = .ok (.getfield 40, 3) := by decide +kernel
theorem d_I_addIncident_4 : decode b_I_addIncident 4 = .ok (.istore_n 2, 1) := by decide +kernel
theorem d_I_addIncident_5 : decode b_I_addIncident 5 = .ok (.aload_n 0, 1) := by decide +kernel
theorem d_I_addIncident_6 : decode b_I_addIncident 6 = .ok (.dup, 1) := by decide +kernel
theorem d_I_addIncident_7 : decode b_I_addIncident 7 = .ok (.getfield 40, 3) := by decide +kernel
theorem d_I_addIncident_10 : decode b_I_addIncident 10 = .ok (.iconst 1, 1) := by decide +kernel
theorem d_I_addIncident_11 : decode b_I_addIncident 11 = .ok (.iadd, 1) := by decide +kernel
theorem d_I_addIncident_12 : decode b_I_addIncident 12 = .ok (.putfield 40, 3) := by decide +kernel
theorem d_I_addIncident_15 : decode b_I_addIncident 15 = .ok (.aload_n 0, 1) := by decide +kernel
theorem d_I_addIncident_16 : decode b_I_addIncident 16 = .ok (.getfield 9, 3) := by decide +kernel
theorem d_I_addIncident_19 : decode b_I_addIncident 19 = .ok (.iload_n 2, 1) := by decide +kernel
theorem d_I_addIncident_20 : decode b_I_addIncident 20 = .ok (.iload_n 1, 1) := by decide +kernel
theorem d_I_addIncident_21 : decode b_I_addIncident 21 = .ok (.iastore, 1) := by decide +kernel
theorem d_I_addIncident_22 : decode b_I_addIncident 22 = .ok (.aload_n 0, 1) := by decide +kernel
theorem d_I_addIncident_23 : decode b_I_addIncident 23 = .ok (.getfield 37, 3) := by decide +kernel
theorem d_I_addIncident_26 : decode b_I_addIncident 26 = .ok (.iload_n 2, 1) := by decide +kernel
theorem d_I_addIncident_27 : decode b_I_addIncident 27 = .ok (.iconst (-1), 1) := by decide +kernel
theorem d_I_addIncident_28 : decode b_I_addIncident 28 = .ok (.iastore, 1) := by decide +kernel
theorem d_I_addIncident_29 : decode b_I_addIncident 29 = .ok (.iload_n 2, 1) := by decide +kernel
theorem d_I_addIncident_30 : decode b_I_addIncident 30 = .ok (.ireturn, 1) := by decide +kernel
theorem d_I_latestOf_0 : decode b_I_latestOf 0 = .ok (.aload_n 0, 1) := by decide +kernel
theorem d_I_latestOf_1 : decode b_I_latestOf 1 = .ok (.getfield 40, 3) := by decide +kernel
theorem d_I_latestOf_4 : decode b_I_latestOf 4 = .ok (.iconst 1, 1) := by decide +kernel
theorem d_I_latestOf_5 : decode b_I_latestOf 5 = .ok (.isub, 1) := by decide +kernel
theorem d_I_latestOf_6 : decode b_I_latestOf 6 = .ok (.istore_n 2, 1) := by decide +kernel
theorem d_I_latestOf_7 : decode b_I_latestOf 7 = .ok (.iload_n 2, 1) := by decide +kernel
theorem d_I_latestOf_8 : decode b_I_latestOf 8 = .ok (.ifCond .lt 21, 3) := by decide +kernel
theorem d_I_latestOf_11 : decode b_I_latestOf 11 = .ok (.aload_n 0, 1) := by decide +kernel
theorem d_I_latestOf_12 : decode b_I_latestOf 12 = .ok (.getfield 9, 3) := by decide +kernel
theorem d_I_latestOf_15 : decode b_I_latestOf 15 = .ok (.iload_n 2, 1) := by decide +kernel
theorem d_I_latestOf_16 : decode b_I_latestOf 16 = .ok (.iaload, 1) := by decide +kernel
theorem d_I_latestOf_17 : decode b_I_latestOf 17 = .ok (.iload_n 1, 1) := by decide +kernel
theorem d_I_latestOf_18 : decode b_I_latestOf 18 = .ok (.if_icmp .ne 5, 3) := by decide +kernel
theorem d_I_latestOf_21 : decode b_I_latestOf 21 = .ok (.iload_n 2, 1) := by decide +kernel
theorem d_I_latestOf_22 : decode b_I_latestOf 22 = .ok (.ireturn, 1) := by decide +kernel
theorem d_I_latestOf_23 : decode b_I_latestOf 23 = .ok (.iinc 2 (-1), 3) := by decide +kernel
theorem d_I_latestOf_26 : decode b_I_latestOf 26 = .ok (.goto (-19), 3) := by decide +kernel
theorem d_I_latestOf_29 : decode b_I_latestOf 29 = .ok (.iconst (-1), 1) := by decide +kernel
theorem d_I_latestOf_30 : decode b_I_latestOf 30 = .ok (.ireturn, 1) := by decide +kernel
theorem d_I_open_0 : decode b_I_open 0 = .ok (.aload_n 0, 1) := by decide +kernel
theorem d_I_open_1 : decode b_I_open 1 = .ok (.getfield 15, 3) := by decide +kernel
theorem d_I_open_4 : decode b_I_open 4 = .ok (.iload_n 1, 1) := by decide +kernel
theorem d_I_open_5 : decode b_I_open 5 = .ok (.iconst 1, 1) := by decide +kernel
theorem d_I_open_6 : decode b_I_open 6 = .ok (.bastore, 1) := by decide +kernel
theorem d_I_open_7 : decode b_I_open 7 = .ok (.aload_n 0, 1) := by decide +kernel
theorem d_I_open_8 : decode b_I_open 8 = .ok (.getfield 19, 3) := by decide +kernel
theorem d_I_open_11 : decode b_I_open 11 = .ok (.iload_n 1, 1) := by decide +kernel
theorem d_I_open_12 : decode b_I_open 12 = .ok (.iconst 0, 1) := by decide +kernel
theorem d_I_open_13 : decode b_I_open 13 = .ok (.bastore, 1) := by decide +kernel
theorem d_I_open_14 : decode b_I_open 14 = .ok (.aload_n 0, 1) := by decide +kernel
theorem d_I_open_15 : decode b_I_open 15 = .ok (.getfield 22, 3) := by decide +kernel
theorem d_I_open_18 : decode b_I_open 18 = .ok (.iload_n 1, 1) := by decide +kernel
theorem d_I_open_19 : decode b_I_open 19 = .ok (.iconst 0, 1) := by decide +kernel
theorem d_I_open_20 : decode b_I_open 20 = .ok (.iastore, 1) := by decide +kernel
theorem d_I_open_21 : decode b_I_open 21 = .ok (.aload_n 0, 1) := by decide +kernel
theorem d_I_open_22 : decode b_I_open 22 = .ok (.getfield 25, 3) := by decide +kernel
theorem d_I_open_25 : decode b_I_open 25 = .ok (.iload_n 1, 1) := by decide +kernel
theorem d_I_open_26 : decode b_I_open 26 = .ok (.iconst 0, 1) := by decide +kernel
theorem d_I_open_27 : decode b_I_open 27 = .ok (.iastore, 1) := by decide +kernel
theorem d_I_open_28 : decode b_I_open 28 = .ok (.aload_n 0, 1) := by decide +kernel
theorem d_I_open_29 : decode b_I_open 29 = .ok (.getfield 28, 3) := by decide +kernel
theorem d_I_open_32 : decode b_I_open 32 = .ok (.iload_n 1, 1) := by decide +kernel
theorem d_I_open_33 : decode b_I_open 33 = .ok (.iconst (-1), 1) := by decide +kernel
theorem d_I_open_34 : decode b_I_open 34 = .ok (.iastore, 1) := by decide +kernel
theorem d_I_open_35 : decode b_I_open 35 = .ok (.aload_n 0, 1) := by decide +kernel
theorem d_I_open_36 : decode b_I_open 36 = .ok (.getfield 31, 3) := by decide +kernel
theorem d_I_open_39 : decode b_I_open 39 = .ok (.iload_n 1, 1) := by decide +kernel
theorem d_I_open_40 : decode b_I_open 40 = .ok (.dup2, 1) := by decide +kernel
theorem d_I_open_41 : decode b_I_open 41 = .ok (.iaload, 1) := by decide +kernel
theorem d_I_open_42 : decode b_I_open 42 = .ok (.iconst 1, 1) := by decide +kernel
theorem d_I_open_43 : decode b_I_open 43 = .ok (.iadd, 1) := by decide +kernel
theorem d_I_open_44 : decode b_I_open 44 = .ok (.iastore, 1) := by decide +kernel
theorem d_I_open_45 : decode b_I_open 45 = .ok (.return_, 1) := by decide +kernel
theorem d_I_close_0 : decode b_I_close 0 = .ok (.aload_n 0, 1) := by decide +kernel
theorem d_I_close_1 : decode b_I_close 1 = .ok (.getfield 15, 3) := by decide +kernel
theorem d_I_close_4 : decode b_I_close 4 = .ok (.iload_n 1, 1) := by decide +kernel
theorem d_I_close_5 : decode b_I_close 5 = .ok (.iconst 0, 1) := by decide +kernel
theorem d_I_close_6 : decode b_I_close 6 = .ok (.bastore, 1) := by decide +kernel
theorem d_I_close_7 : decode b_I_close 7 = .ok (.aload_n 0, 1) := by decide +kernel
theorem d_I_close_8 : decode b_I_close 8 = .ok (.getfield 34, 3) := by decide +kernel
theorem d_I_close_11 : decode b_I_close 11 = .ok (.iload_n 1, 1) := by decide +kernel
theorem d_I_close_12 : decode b_I_close 12 = .ok (.dup2, 1) := by decide +kernel
theorem d_I_close_13 : decode b_I_close 13 = .ok (.iaload, 1) := by decide +kernel
theorem d_I_close_14 : decode b_I_close 14 = .ok (.iconst 1, 1) := by decide +kernel
theorem d_I_close_15 : decode b_I_close 15 = .ok (.iadd, 1) := by decide +kernel
theorem d_I_close_16 : decode b_I_close 16 = .ok (.iastore, 1) := by decide +kernel
theorem d_I_close_17 : decode b_I_close 17 = .ok (.aload_n 0, 1) := by decide +kernel
theorem d_I_close_18 : decode b_I_close 18 = .ok (.getfield 37, 3) := by decide +kernel
theorem d_I_close_21 : decode b_I_close 21 = .ok (.iload_n 1, 1) := by decide +kernel
theorem d_I_close_22 : decode b_I_close 22 = .ok (.iload_n 2, 1) := by decide +kernel
theorem d_I_close_23 : decode b_I_close 23 = .ok (.iastore, 1) := by decide +kernel
theorem d_I_close_24 : decode b_I_close 24 = .ok (.return_, 1) := by decide +kernel
theorem d_I_mayClose_0 : decode b_I_mayClose 0 = .ok (.aload_n 0, 1) := by decide +kernel
theorem d_I_mayClose_1 : decode b_I_mayClose 1 = .ok (.getfield 15, 3) := by decide +kernel
theorem d_I_mayClose_4 : decode b_I_mayClose 4 = .ok (.iload_n 1, 1) := by decide +kernel
theorem d_I_mayClose_5 : decode b_I_mayClose 5 = .ok (.baload, 1) := by decide +kernel
theorem d_I_mayClose_6 : decode b_I_mayClose 6 = .ok (.ifCond .eq 49, 3) := by decide +kernel
theorem d_I_mayClose_9 : decode b_I_mayClose 9 = .ok (.aload_n 0, 1) := by decide +kernel
theorem d_I_mayClose_10 : decode b_I_mayClose 10 = .ok (.getfield 19, 3) := by decide +kernel
theorem d_I_mayClose_13 : decode b_I_mayClose 13 = .ok (.iload_n 1, 1) := by decide +kernel
theorem d_I_mayClose_14 : decode b_I_mayClose 14 = .ok (.baload, 1) := by decide +kernel
theorem d_I_mayClose_15 : decode b_I_mayClose 15 = .ok (.ifCond .eq 40, 3) := by decide +kernel
theorem d_I_mayClose_18 : decode b_I_mayClose 18 = .ok (.aload_n 0, 1) := by decide +kernel
theorem d_I_mayClose_19 : decode b_I_mayClose 19 = .ok (.getfield 25, 3) := by decide +kernel
theorem d_I_mayClose_22 : decode b_I_mayClose 22 = .ok (.iload_n 1, 1) := by decide +kernel
theorem d_I_mayClose_23 : decode b_I_mayClose 23 = .ok (.iaload, 1) := by decide +kernel
theorem d_I_mayClose_24 : decode b_I_mayClose 24 = .ok (.ifCond .ne 31, 3) := by decide +kernel
theorem d_I_mayClose_27 : decode b_I_mayClose 27 = .ok (.aload_n 0, 1) := by decide +kernel
theorem d_I_mayClose_28 : decode b_I_mayClose 28 = .ok (.getfield 22, 3) := by decide +kernel
theorem d_I_mayClose_31 : decode b_I_mayClose 31 = .ok (.iload_n 1, 1) := by decide +kernel
theorem d_I_mayClose_32 : decode b_I_mayClose 32 = .ok (.iaload, 1) := by decide +kernel
theorem d_I_mayClose_33 : decode b_I_mayClose 33 = .ok (.bipush 7, 2) := by decide +kernel
theorem d_I_mayClose_35 : decode b_I_mayClose 35 = .ok (.iand, 1) := by decide +kernel
theorem d_I_mayClose_36 : decode b_I_mayClose 36 = .ok (.bipush 7, 2) := by decide +kernel
theorem d_I_mayClose_38 : decode b_I_mayClose 38 = .ok (.if_icmp .ne 17, 3) := by decide +kernel
theorem d_I_mayClose_41 : decode b_I_mayClose 41 = .ok (.iload_n 2, 1) := by decide +kernel
theorem d_I_mayClose_42 : decode b_I_mayClose 42 = .ok (.aload_n 0, 1) := by decide +kernel
theorem d_I_mayClose_43 : decode b_I_mayClose 43 = .ok (.getfield 28, 3) := by decide +kernel
theorem d_I_mayClose_46 : decode b_I_mayClose 46 = .ok (.iload_n 1, 1) := by decide +kernel
theorem d_I_mayClose_47 : decode b_I_mayClose 47 = .ok (.iaload, 1) := by decide +kernel
theorem d_I_mayClose_48 : decode b_I_mayClose 48 = .ok (.if_icmp .lt 7, 3) := by decide +kernel
theorem d_I_mayClose_51 : decode b_I_mayClose 51 = .ok (.iconst 1, 1) := by decide +kernel
theorem d_I_mayClose_52 : decode b_I_mayClose 52 = .ok (.goto 4, 3) := by decide +kernel
theorem d_I_mayClose_55 : decode b_I_mayClose 55 = .ok (.iconst 0, 1) := by decide +kernel
theorem d_I_mayClose_56 : decode b_I_mayClose 56 = .ok (.ireturn, 1) := by decide +kernel
theorem d_I_isOpenPastWatch_0 : decode b_I_isOpenPastWatch 0 = .ok (.aload_n 0, 1) := by decide +kernel
theorem d_I_isOpenPastWatch_1 : decode b_I_isOpenPastWatch 1 = .ok (.getfield 15, 3) := by decide +kernel
theorem d_I_isOpenPastWatch_4 : decode b_I_isOpenPastWatch 4 = .ok (.iload_n 1, 1) := by decide +kernel
theorem d_I_isOpenPastWatch_5 : decode b_I_isOpenPastWatch 5 = .ok (.baload, 1) := by decide +kernel
theorem d_I_isOpenPastWatch_6 : decode b_I_isOpenPastWatch 6 = .ok (.ifCond .eq 27, 3) := by decide +kernel
theorem d_I_isOpenPastWatch_9 : decode b_I_isOpenPastWatch 9 = .ok (.aload_n 0, 1) := by decide +kernel
theorem d_I_isOpenPastWatch_10 : decode b_I_isOpenPastWatch 10 = .ok (.getfield 28, 3) := by decide +kernel
theorem d_I_isOpenPastWatch_13 : decode b_I_isOpenPastWatch 13 = .ok (.iload_n 1, 1) := by decide +kernel
theorem d_I_isOpenPastWatch_14 : decode b_I_isOpenPastWatch 14 = .ok (.iaload, 1) := by decide +kernel
theorem d_I_isOpenPastWatch_15 : decode b_I_isOpenPastWatch 15 = .ok (.iconst (-1), 1) := by decide +kernel
theorem d_I_isOpenPastWatch_16 : decode b_I_isOpenPastWatch 16 = .ok (.if_icmp .eq 17, 3) := by decide +kernel
theorem d_I_isOpenPastWatch_19 : decode b_I_isOpenPastWatch 19 = .ok (.iload_n 2, 1) := by decide +kernel
theorem d_I_isOpenPastWatch_20 : decode b_I_isOpenPastWatch 20 = .ok (.aload_n 0, 1) := by decide +kernel
theorem d_I_isOpenPastWatch_21 : decode b_I_isOpenPastWatch 21 = .ok (.getfield 28, 3) := by decide +kernel
theorem d_I_isOpenPastWatch_24 : decode b_I_isOpenPastWatch 24 = .ok (.iload_n 1, 1) := by decide +kernel
theorem d_I_isOpenPastWatch_25 : decode b_I_isOpenPastWatch 25 = .ok (.iaload, 1) := by decide +kernel
theorem d_I_isOpenPastWatch_26 : decode b_I_isOpenPastWatch 26 = .ok (.if_icmp .lt 7, 3) := by decide +kernel
theorem d_I_isOpenPastWatch_29 : decode b_I_isOpenPastWatch 29 = .ok (.iconst 1, 1) := by decide +kernel
theorem d_I_isOpenPastWatch_30 : decode b_I_isOpenPastWatch 30 = .ok (.goto 4, 3) := by decide +kernel
theorem d_I_isOpenPastWatch_33 : decode b_I_isOpenPastWatch 33 = .ok (.iconst 0, 1) := by decide +kernel
theorem d_I_isOpenPastWatch_34 : decode b_I_isOpenPastWatch 34 = .ok (.ireturn, 1) := by decide +kernel
theorem d_I_countOpen_0 : decode b_I_countOpen 0 = .ok (.iconst 0, 1) := by decide +kernel
theorem d_I_countOpen_1 : decode b_I_countOpen 1 = .ok (.istore_n 1, 1) := by decide +kernel
theorem d_I_countOpen_2 : decode b_I_countOpen 2 = .ok (.iconst 0, 1) := by decide +kernel
theorem d_I_countOpen_3 : decode b_I_countOpen 3 = .ok (.istore_n 2, 1) := by decide +kernel
theorem d_I_countOpen_4 : decode b_I_countOpen 4 = .ok (.iload_n 2, 1) := by decide +kernel
theorem d_I_countOpen_5 : decode b_I_countOpen 5 = .ok (.aload_n 0, 1) := by decide +kernel
theorem d_I_countOpen_6 : decode b_I_countOpen 6 = .ok (.getfield 40, 3) := by decide +kernel
theorem d_I_countOpen_9 : decode b_I_countOpen 9 = .ok (.if_icmp .ge 21, 3) := by decide +kernel
theorem d_I_countOpen_12 : decode b_I_countOpen 12 = .ok (.aload_n 0, 1) := by decide +kernel
theorem d_I_countOpen_13 : decode b_I_countOpen 13 = .ok (.getfield 15, 3) := by decide +kernel
theorem d_I_countOpen_16 : decode b_I_countOpen 16 = .ok (.iload_n 2, 1) := by decide +kernel
theorem d_I_countOpen_17 : decode b_I_countOpen 17 = .ok (.baload, 1) := by decide +kernel
theorem d_I_countOpen_18 : decode b_I_countOpen 18 = .ok (.ifCond .eq 6, 3) := by decide +kernel
theorem d_I_countOpen_21 : decode b_I_countOpen 21 = .ok (.iinc 1 1, 3) := by decide +kernel
theorem d_I_countOpen_24 : decode b_I_countOpen 24 = .ok (.iinc 2 1, 3) := by decide +kernel
theorem d_I_countOpen_27 : decode b_I_countOpen 27 = .ok (.goto (-23), 3) := by decide +kernel
theorem d_I_countOpen_30 : decode b_I_countOpen 30 = .ok (.iload_n 1, 1) := by decide +kernel
theorem d_I_countOpen_31 : decode b_I_countOpen 31 = .ok (.ireturn, 1) := by decide +kernel
theorem d_U_init_0 : decode b_U_init 0 = .ok (.aload_n 0, 1) := by decide +kernel
theorem d_U_init_1 : decode b_U_init 1 = .ok (.invokespecial 3, 3) := by decide +kernel
theorem d_U_init_4 : decode b_U_init 4 = .ok (.aload_n 0, 1) := by decide +kernel
theorem d_U_init_5 : decode b_U_init 5 = .ok (.bipush 24, 2) := by decide +kernel
theorem d_U_init_7 : decode b_U_init 7 = .ok (.newarray .int, 2) := by decide +kernel
theorem d_U_init_9 : decode b_U_init 9 = .ok (.putfield 9, 3) := by decide +kernel
theorem d_U_init_12 : decode b_U_init 12 = .ok (.aload_n 0, 1) := by decide +kernel
theorem d_U_init_13 : decode b_U_init 13 = .ok (.bipush 24, 2) := by decide +kernel
theorem d_U_init_15 : decode b_U_init 15 = .ok (.newarray .int, 2) := by decide +kernel
theorem d_U_init_17 : decode b_U_init 17 = .ok (.putfield 15, 3) := by decide +kernel
theorem d_U_init_20 : decode b_U_init 20 = .ok (.aload_n 0, 1) := by decide +kernel
theorem d_U_init_21 : decode b_U_init 21 = .ok (.bipush 24, 2) := by decide +kernel
theorem d_U_init_23 : decode b_U_init 23 = .ok (.newarray .int, 2) := by decide +kernel
theorem d_U_init_25 : decode b_U_init 25 = .ok (.putfield 18, 3) := by decide +kernel
theorem d_U_init_28 : decode b_U_init 28 = .ok (.aload_n 0, 1) := by decide +kernel
theorem d_U_init_29 : decode b_U_init 29 = .ok (.bipush 24, 2) := by decide +kernel
theorem d_U_init_31 : decode b_U_init 31 = .ok (.newarray .int, 2) := by decide +kernel
theorem d_U_init_33 : decode b_U_init 33 = .ok (.putfield 21, 3) := by decide +kernel
theorem d_U_init_36 : decode b_U_init 36 = .ok (.aload_n 0, 1) := by decide +kernel
theorem d_U_init_37 : decode b_U_init 37 = .ok (.bipush 24, 2) := by decide +kernel
theorem d_U_init_39 : decode b_U_init 39 = .ok (.newarray .int, 2) := by decide +kernel
theorem d_U_init_41 : decode b_U_init 41 = .ok (.putfield 24, 3) := by decide +kernel
theorem d_U_init_44 : decode b_U_init 44 = .ok (.aload_n 0, 1) := by decide +kernel
theorem d_U_init_45 : decode b_U_init 45 = .ok (.bipush 24, 2) := by decide +kernel
theorem d_U_init_47 : decode b_U_init 47 = .ok (.newarray .int, 2) := by decide +kernel
theorem d_U_init_49 : decode b_U_init 49 = .ok (.putfield 27, 3) := by decide +kernel
theorem d_U_init_52 : decode b_U_init 52 = .ok (.aload_n 0, 1) := by decide +kernel
theorem d_U_init_53 : decode b_U_init 53 = .ok (.bipush 24, 2) := by decide +kernel
theorem d_U_init_55 : decode b_U_init 55 = .ok (.newarray .int, 2) := by decide +kernel
theorem d_U_init_57 : decode b_U_init 57 = .ok (.putfield 30, 3) := by decide +kernel
theorem d_U_init_60 : decode b_U_init 60 = .ok (.aload_n 0, 1) := by decide +kernel
theorem d_U_init_61 : decode b_U_init 61 = .ok (.bipush 24, 2) := by decide +kernel
theorem d_U_init_63 : decode b_U_init 63 = .ok (.newarray .int, 2) := by decide +kernel
theorem d_U_init_65 : decode b_U_init 65 = .ok (.putfield 33, 3) := by decide +kernel
theorem d_U_init_68 : decode b_U_init 68 = .ok (.aload_n 0, 1) := by decide +kernel
theorem d_U_init_69 : decode b_U_init 69 = .ok (.bipush 24, 2) := by decide +kernel
theorem d_U_init_71 : decode b_U_init 71 = .ok (.newarray .int, 2) := by decide +kernel
theorem d_U_init_73 : decode b_U_init 73 = .ok (.putfield 36, 3) := by decide +kernel
theorem d_U_init_76 : decode b_U_init 76 = .ok (.aload_n 0, 1) := by decide +kernel
theorem d_U_init_77 : decode b_U_init 77 = .ok (.sipush 144, 3) := by decide +kernel
theorem d_U_init_80 : decode b_U_init 80 = .ok (.newarray .int, 2) := by decide +kernel
theorem d_U_init_82 : decode b_U_init 82 = .ok (.putfield 39, 3) := by decide +kernel
theorem d_U_init_85 : decode b_U_init 85 = .ok (.aload_n 0, 1) := by decide +kernel
theorem d_U_init_86 : decode b_U_init 86 = .ok (.iconst 0, 1) := by decide +kernel
theorem d_U_init_87 : decode b_U_init 87 = .ok (.putfield 42, 3) := by decide +kernel
theorem d_U_init_90 : decode b_U_init 90 = .ok (.return_, 1) := by decide +kernel
theorem d_U_has_0 : decode b_U_has 0 = .ok (.iload_n 1, 1) := by decide +kernel
theorem d_U_has_1 : decode b_U_has 1 = .ok (.ifCond .lt 15, 3) := by decide +kernel
theorem d_U_has_4 : decode b_U_has 4 = .ok (.iload_n 1, 1) := by decide +kernel
theorem d_U_has_5 : decode b_U_has 5 = .ok (.aload_n 0, 1) := by decide +kernel
theorem d_U_has_6 : decode b_U_has 6 = .ok (.getfield 42, 3) := by decide +kernel
theorem d_U_has_9 : decode b_U_has 9 = .ok (.if_icmp .ge 7, 3) := by decide +kernel
theorem d_U_has_12 : decode b_U_has 12 = .ok (.iconst 1, 1) := by decide +kernel
theorem d_U_has_13 : decode b_U_has 13 = .ok (.goto 4, 3) := by decide +kernel
theorem d_U_has_16 : decode b_U_has 16 = .ok (.iconst 0, 1) := by decide +kernel
theorem d_U_has_17 : decode b_U_has 17 = .ok (.ireturn, 1) := by decide +kernel
theorem d_U_addUnit_0 : decode b_U_addUnit 0 = .ok (.aload_n 0, 1) := by decide +kernel
theorem d_U_addUnit_1 : decode b_U_addUnit 1 = .ok (.getfield 42, 3) := by decide +kernel
theorem d_U_addUnit_4 : decode b_U_addUnit 4 = .ok (.istore_n 3, 1) := by decide +kernel
theorem d_U_addUnit_5 : decode b_U_addUnit 5 = .ok (.aload_n 0, 1) := by decide +kernel
theorem d_U_addUnit_6 : decode b_U_addUnit 6 = .ok (.dup, 1) := by decide +kernel
theorem d_U_addUnit_7 : decode b_U_addUnit 7 = .ok (.getfield 42, 3) := by decide +kernel
theorem d_U_addUnit_10 : decode b_U_addUnit 10 = .ok (.iconst 1, 1) := by decide +kernel
theorem d_U_addUnit_11 : decode b_U_addUnit 11 = .ok (.iadd, 1) := by decide +kernel
theorem d_U_addUnit_12 : decode b_U_addUnit 12 = .ok (.putfield 42, 3) := by decide +kernel
theorem d_U_addUnit_15 : decode b_U_addUnit 15 = .ok (.aload_n 0, 1) := by decide +kernel
theorem d_U_addUnit_16 : decode b_U_addUnit 16 = .ok (.getfield 9, 3) := by decide +kernel
theorem d_U_addUnit_19 : decode b_U_addUnit 19 = .ok (.iload_n 3, 1) := by decide +kernel
theorem d_U_addUnit_20 : decode b_U_addUnit 20 = .ok (.iload_n 1, 1) := by decide +kernel
theorem d_U_addUnit_21 : decode b_U_addUnit 21 = .ok (.iastore, 1) := by decide +kernel
theorem d_U_addUnit_22 : decode b_U_addUnit 22 = .ok (.aload_n 0, 1) := by decide +kernel
theorem d_U_addUnit_23 : decode b_U_addUnit 23 = .ok (.iload_n 3, 1) := by decide +kernel
theorem d_U_addUnit_24 : decode b_U_addUnit 24 = .ok (.iconst 0, 1) := by decide +kernel
theorem d_U_addUnit_25 : decode b_U_addUnit 25 = .ok (.iload_n 2, 1) := by decide +kernel
theorem d_U_addUnit_26 : decode b_U_addUnit 26 = .ok (.invokevirtual 46, 3) := by decide +kernel
theorem d_U_addUnit_29 : decode b_U_addUnit 29 = .ok (.iload_n 3, 1) := by decide +kernel
theorem d_U_addUnit_30 : decode b_U_addUnit 30 = .ok (.ireturn, 1) := by decide +kernel
theorem d_U_setWork_0 : decode b_U_setWork 0 = .ok (.aload_n 0, 1) := by decide +kernel
theorem d_U_setWork_1 : decode b_U_setWork 1 = .ok (.getfield 15, 3) := by decide +kernel
theorem d_U_setWork_4 : decode b_U_setWork 4 = .ok (.iload_n 1, 1) := by decide +kernel
theorem d_U_setWork_5 : decode b_U_setWork 5 = .ok (.iload_n 2, 1) := by decide +kernel
theorem d_U_setWork_6 : decode b_U_setWork 6 = .ok (.iastore, 1) := by decide +kernel
theorem d_U_setWork_7 : decode b_U_setWork 7 = .ok (.aload_n 0, 1) := by decide +kernel
theorem d_U_setWork_8 : decode b_U_setWork 8 = .ok (.getfield 18, 3) := by decide +kernel
theorem d_U_setWork_11 : decode b_U_setWork 11 = .ok (.iload_n 1, 1) := by decide +kernel
theorem d_U_setWork_12 : decode b_U_setWork 12 = .ok (.iload_n 3, 1) := by decide +kernel
theorem d_U_setWork_13 : decode b_U_setWork 13 = .ok (.iastore, 1) := by decide +kernel
theorem d_U_setWork_14 : decode b_U_setWork 14 = .ok (.aload_n 0, 1) := by decide +kernel
theorem d_U_setWork_15 : decode b_U_setWork 15 = .ok (.getfield 21, 3) := by decide +kernel
theorem d_U_setWork_18 : decode b_U_setWork 18 = .ok (.iload_n 1, 1) := by decide +kernel
theorem d_U_setWork_19 : decode b_U_setWork 19 = .ok (.iload 4, 2) := by decide +kernel
theorem d_U_setWork_21 : decode b_U_setWork 21 = .ok (.iastore, 1) := by decide +kernel
theorem d_U_setWork_22 : decode b_U_setWork 22 = .ok (.return_, 1) := by decide +kernel
theorem d_U_become_0 : decode b_U_become 0 = .ok (.aload_n 0, 1) := by decide +kernel
theorem d_U_become_1 : decode b_U_become 1 = .ok (.getfield 27, 3) := by decide +kernel
theorem d_U_become_4 : decode b_U_become 4 = .ok (.iload_n 1, 1) := by decide +kernel
theorem d_U_become_5 : decode b_U_become 5 = .ok (.iload_n 2, 1) := by decide +kernel
theorem d_U_become_6 : decode b_U_become 6 = .ok (.iastore, 1) := by decide +kernel
theorem d_U_become_7 : decode b_U_become 7 = .ok (.aload_n 0, 1) := by decide +kernel
theorem d_U_become_8 : decode b_U_become 8 = .ok (.getfield 30, 3) := by decide +kernel
theorem d_U_become_11 : decode b_U_become 11 = .ok (.iload_n 1, 1) := by decide +kernel
theorem d_U_become_12 : decode b_U_become 12 = .ok (.iconst (-1), 1) := by decide +kernel
theorem d_U_become_13 : decode b_U_become 13 = .ok (.iastore, 1) := by decide +kernel
theorem d_U_become_14 : decode b_U_become 14 = .ok (.aload_n 0, 1) := by decide +kernel
theorem d_U_become_15 : decode b_U_become 15 = .ok (.getfield 33, 3) := by decide +kernel
theorem d_U_become_18 : decode b_U_become 18 = .ok (.iload_n 1, 1) := by decide +kernel
theorem d_U_become_19 : decode b_U_become 19 = .ok (.iload_n 3, 1) := by decide +kernel
theorem d_U_become_20 : decode b_U_become 20 = .ok (.iastore, 1) := by decide +kernel
theorem d_U_become_21 : decode b_U_become 21 = .ok (.return_, 1) := by decide +kernel
theorem d_U_goTo_0 : decode b_U_goTo 0 = .ok (.aload_n 0, 1) := by decide +kernel
theorem d_U_goTo_1 : decode b_U_goTo 1 = .ok (.iload_n 1, 1) := by decide +kernel
theorem d_U_goTo_2 : decode b_U_goTo 2 = .ok (.iconst 1, 1) := by decide +kernel
theorem d_U_goTo_3 : decode b_U_goTo 3 = .ok (.iload_n 3, 1) := by decide +kernel
theorem d_U_goTo_4 : decode b_U_goTo 4 = .ok (.invokevirtual 46, 3) := by decide +kernel
theorem d_U_goTo_7 : decode b_U_goTo 7 = .ok (.aload_n 0, 1) := by decide +kernel
theorem d_U_goTo_8 : decode b_U_goTo 8 = .ok (.getfield 30, 3) := by decide +kernel
theorem d_U_goTo_11 : decode b_U_goTo 11 = .ok (.iload_n 1, 1) := by decide +kernel
theorem d_U_goTo_12 : decode b_U_goTo 12 = .ok (.iload_n 2, 1) := by decide +kernel
theorem d_U_goTo_13 : decode b_U_goTo 13 = .ok (.iastore, 1) := by decide +kernel
theorem d_U_goTo_14 : decode b_U_goTo 14 = .ok (.aload_n 0, 1) := by decide +kernel
theorem d_U_goTo_15 : decode b_U_goTo 15 = .ok (.getfield 36, 3) := by decide +kernel
theorem d_U_goTo_18 : decode b_U_goTo 18 = .ok (.iload_n 1, 1) := by decide +kernel
theorem d_U_goTo_19 : decode b_U_goTo 19 = .ok (.dup2, 1) := by decide +kernel
theorem d_U_goTo_20 : decode b_U_goTo 20 = .ok (.iaload, 1) := by decide +kernel
theorem d_U_goTo_21 : decode b_U_goTo 21 = .ok (.iconst 1, 1) := by decide +kernel
theorem d_U_goTo_22 : decode b_U_goTo 22 = .ok (.iadd, 1) := by decide +kernel
theorem d_U_goTo_23 : decode b_U_goTo 23 = .ok (.iastore, 1) := by decide +kernel
theorem d_U_goTo_24 : decode b_U_goTo 24 = .ok (.return_, 1) := by decide +kernel
theorem d_U_goOn_0 : decode b_U_goOn 0 = .ok (.aload_n 0, 1) := by decide +kernel
theorem d_U_goOn_1 : decode b_U_goOn 1 = .ok (.getfield 27, 3) := by decide +kernel
theorem d_U_goOn_4 : decode b_U_goOn 4 = .ok (.iload_n 1, 1) := by decide +kernel
theorem d_U_goOn_5 : decode b_U_goOn 5 = .ok (.iaload, 1) := by decide +kernel
theorem d_U_goOn_6 : decode b_U_goOn 6 = .ok (.iconst 3, 1) := by decide +kernel
theorem d_U_goOn_7 : decode b_U_goOn 7 = .ok (.if_icmp .ne 19, 3) := by decide +kernel
theorem d_U_goOn_10 : decode b_U_goOn 10 = .ok (.iload_n 3, 1) := by decide +kernel
theorem d_U_goOn_11 : decode b_U_goOn 11 = .ok (.aload_n 0, 1) := by decide +kernel
theorem d_U_goOn_12 : decode b_U_goOn 12 = .ok (.iload_n 1, 1) := by decide +kernel
theorem d_U_goOn_13 : decode b_U_goOn 13 = .ok (.invokevirtual 50, 3) := by decide +kernel
theorem d_U_goOn_16 : decode b_U_goOn 16 = .ok (.if_icmp .lt 10, 3) := by decide +kernel
theorem d_U_goOn_19 : decode b_U_goOn 19 = .ok (.aload_n 0, 1) := by decide +kernel
theorem d_U_goOn_20 : decode b_U_goOn 20 = .ok (.iload_n 1, 1) := by decide +kernel
theorem d_U_goOn_21 : decode b_U_goOn 21 = .ok (.iconst 4, 1) := by decide +kernel
theorem d_U_goOn_22 : decode b_U_goOn 22 = .ok (.iload_n 3, 1) := by decide +kernel
theorem d_U_goOn_23 : decode b_U_goOn 23 = .ok (.invokevirtual 46, 3) := by decide +kernel
theorem d_U_goOn_26 : decode b_U_goOn 26 = .ok (.aload_n 0, 1) := by decide +kernel
theorem d_U_goOn_27 : decode b_U_goOn 27 = .ok (.getfield 27, 3) := by decide +kernel
theorem d_U_goOn_30 : decode b_U_goOn 30 = .ok (.iload_n 1, 1) := by decide +kernel
theorem d_U_goOn_31 : decode b_U_goOn 31 = .ok (.iaload, 1) := by decide +kernel
theorem d_U_goOn_32 : decode b_U_goOn 32 = .ok (.iconst 4, 1) := by decide +kernel
theorem d_U_goOn_33 : decode b_U_goOn 33 = .ok (.if_icmp .ne 41, 3) := by decide +kernel
theorem d_U_goOn_36 : decode b_U_goOn 36 = .ok (.iload_n 3, 1) := by decide +kernel
theorem d_U_goOn_37 : decode b_U_goOn 37 = .ok (.aload_n 0, 1) := by decide +kernel
theorem d_U_goOn_38 : decode b_U_goOn 38 = .ok (.iload_n 1, 1) := by decide +kernel
theorem d_U_goOn_39 : decode b_U_goOn 39 = .ok (.invokevirtual 50, 3) := by decide +kernel
theorem d_U_goOn_42 : decode b_U_goOn 42 = .ok (.if_icmp .lt 32, 3) := by decide +kernel
theorem d_U_goOn_45 : decode b_U_goOn 45 = .ok (.aload_n 0, 1) := by decide +kernel
theorem d_U_goOn_46 : decode b_U_goOn 46 = .ok (.iload_n 1, 1) := by decide +kernel
theorem d_U_goOn_47 : decode b_U_goOn 47 = .ok (.aload_n 2, 1) := by decide +kernel
theorem d_U_goOn_48 : decode b_U_goOn 48 = .ok (.invokevirtual 54, 3) := by decide +kernel
theorem d_U_goOn_51 : decode b_U_goOn 51 = .ok (.ifCond .eq 23, 3) := by decide +kernel
theorem d_U_goOn_54 : decode b_U_goOn 54 = .ok (.aload_n 0, 1) := by decide +kernel
theorem d_U_goOn_55 : decode b_U_goOn 55 = .ok (.iload_n 1, 1) := by decide +kernel
theorem d_U_goOn_56 : decode b_U_goOn 56 = .ok (.aload_n 2, 1) := by decide +kernel
theorem d_U_goOn_57 : decode b_U_goOn 57 = .ok (.invokevirtual 58, 3) := by decide +kernel
theorem d_U_goOn_60 : decode b_U_goOn 60 = .ok (.aload_n 0, 1) := by decide +kernel
theorem d_U_goOn_61 : decode b_U_goOn 61 = .ok (.getfield 24, 3) := by decide +kernel
theorem d_U_goOn_64 : decode b_U_goOn 64 = .ok (.iload_n 1, 1) := by decide +kernel
theorem d_U_goOn_65 : decode b_U_goOn 65 = .ok (.iconst 0, 1) := by decide +kernel
theorem d_U_goOn_66 : decode b_U_goOn 66 = .ok (.iastore, 1) := by decide +kernel
theorem d_U_goOn_67 : decode b_U_goOn 67 = .ok (.aload_n 0, 1) := by decide +kernel
theorem d_U_goOn_68 : decode b_U_goOn 68 = .ok (.iload_n 1, 1) := by decide +kernel
theorem d_U_goOn_69 : decode b_U_goOn 69 = .ok (.iconst 5, 1) := by decide +kernel
theorem d_U_goOn_70 : decode b_U_goOn 70 = .ok (.iload_n 3, 1) := by decide +kernel
theorem d_U_goOn_71 : decode b_U_goOn 71 = .ok (.invokevirtual 46, 3) := by decide +kernel
theorem d_U_goOn_74 : decode b_U_goOn 74 = .ok (.aload_n 0, 1) := by decide +kernel
theorem d_U_goOn_75 : decode b_U_goOn 75 = .ok (.getfield 27, 3) := by decide +kernel
theorem d_U_goOn_78 : decode b_U_goOn 78 = .ok (.iload_n 1, 1) := by decide +kernel
theorem d_U_goOn_79 : decode b_U_goOn 79 = .ok (.iaload, 1) := by decide +kernel
theorem d_U_goOn_80 : decode b_U_goOn 80 = .ok (.iconst 5, 1) := by decide +kernel
theorem d_U_goOn_81 : decode b_U_goOn 81 = .ok (.if_icmp .ne 18, 3) := by decide +kernel
theorem d_U_goOn_84 : decode b_U_goOn 84 = .ok (.aload_n 0, 1) := by decide +kernel
theorem d_U_goOn_85 : decode b_U_goOn 85 = .ok (.iload_n 1, 1) := by decide +kernel
theorem d_U_goOn_86 : decode b_U_goOn 86 = .ok (.invokevirtual 62, 3) := by decide +kernel
theorem d_U_goOn_89 : decode b_U_goOn 89 = .ok (.ifCond .ne 10, 3) := by decide +kernel
theorem d_U_goOn_92 : decode b_U_goOn 92 = .ok (.aload_n 0, 1) := by decide +kernel
theorem d_U_goOn_93 : decode b_U_goOn 93 = .ok (.iload_n 1, 1) := by decide +kernel
theorem d_U_goOn_94 : decode b_U_goOn 94 = .ok (.iconst 0, 1) := by decide +kernel
theorem d_U_goOn_95 : decode b_U_goOn 95 = .ok (.iload_n 3, 1) := by decide +kernel
theorem d_U_goOn_96 : decode b_U_goOn 96 = .ok (.invokevirtual 46, 3) := by decide +kernel
theorem d_U_goOn_99 : decode b_U_goOn 99 = .ok (.return_, 1) := by decide +kernel
theorem d_U_workEnd_0 : decode b_U_workEnd 0 = .ok (.aload_n 0, 1) := by decide +kernel
theorem d_U_workEnd_1 : decode b_U_workEnd 1 = .ok (.getfield 27, 3) := by decide +kernel
theorem d_U_workEnd_4 : decode b_U_workEnd 4 = .ok (.iload_n 1, 1) := by decide +kernel
theorem d_U_workEnd_5 : decode b_U_workEnd 5 = .ok (.iaload, 1) := by decide +kernel
theorem d_U_workEnd_6 : decode b_U_workEnd 6 = .ok (.iconst 3, 1) := by decide +kernel
theorem d_U_workEnd_7 : decode b_U_workEnd 7 = .ok (.if_icmp .ne 17, 3) := by decide +kernel
theorem d_U_workEnd_10 : decode b_U_workEnd 10 = .ok (.aload_n 0, 1) := by decide +kernel
theorem d_U_workEnd_11 : decode b_U_workEnd 11 = .ok (.getfield 33, 3) := by decide +kernel
theorem d_U_workEnd_14 : decode b_U_workEnd 14 = .ok (.iload_n 1, 1) := by decide +kernel
theorem d_U_workEnd_15 : decode b_U_workEnd 15 = .ok (.iaload, 1) := by decide +kernel
theorem d_U_workEnd_16 : decode b_U_workEnd 16 = .ok (.aload_n 0, 1) := by decide +kernel
theorem d_U_workEnd_17 : decode b_U_workEnd 17 = .ok (.getfield 15, 3) := by decide +kernel
theorem d_U_workEnd_20 : decode b_U_workEnd 20 = .ok (.iload_n 1, 1) := by decide +kernel
theorem d_U_workEnd_21 : decode b_U_workEnd 21 = .ok (.iaload, 1) := by decide +kernel
theorem d_U_workEnd_22 : decode b_U_workEnd 22 = .ok (.iadd, 1) := by decide +kernel
theorem d_U_workEnd_23 : decode b_U_workEnd 23 = .ok (.ireturn, 1) := by decide +kernel
theorem d_U_workEnd_24 : decode b_U_workEnd 24 = .ok (.aload_n 0, 1) := by decide +kernel
theorem d_U_workEnd_25 : decode b_U_workEnd 25 = .ok (.getfield 27, 3) := by decide +kernel
theorem d_U_workEnd_28 : decode b_U_workEnd 28 = .ok (.iload_n 1, 1) := by decide +kernel
theorem d_U_workEnd_29 : decode b_U_workEnd 29 = .ok (.iaload, 1) := by decide +kernel
theorem d_U_workEnd_30 : decode b_U_workEnd 30 = .ok (.iconst 4, 1) := by decide +kernel
theorem d_U_workEnd_31 : decode b_U_workEnd 31 = .ok (.if_icmp .ne 19, 3) := by decide +kernel
theorem d_U_workEnd_34 : decode b_U_workEnd 34 = .ok (.aload_n 0, 1) := by decide +kernel
theorem d_U_workEnd_35 : decode b_U_workEnd 35 = .ok (.getfield 33, 3) := by decide +kernel
theorem d_U_workEnd_38 : decode b_U_workEnd 38 = .ok (.iload_n 1, 1) := by decide +kernel
theorem d_U_workEnd_39 : decode b_U_workEnd 39 = .ok (.iaload, 1) := by decide +kernel
theorem d_U_workEnd_40 : decode b_U_workEnd 40 = .ok (.aload_n 0, 1) := by decide +kernel
theorem d_U_workEnd_41 : decode b_U_workEnd 41 = .ok (.getfield 18, 3) := by decide +kernel
theorem d_U_workEnd_44 : decode b_U_workEnd 44 = .ok (.iload_n 1, 1) := by decide +kernel
theorem d_U_workEnd_45 : decode b_U_workEnd 45 = .ok (.iaload, 1) := by decide +kernel
theorem d_U_workEnd_46 : decode b_U_workEnd 46 = .ok (.iadd, 1) := by decide +kernel
theorem d_U_workEnd_47 : decode b_U_workEnd 47 = .ok (.goto 4, 3) := by decide +kernel
theorem d_U_workEnd_50 : decode b_U_workEnd 50 = .ok (.iconst (-1), 1) := by decide +kernel
theorem d_U_workEnd_51 : decode b_U_workEnd 51 = .ok (.ireturn, 1) := by decide +kernel
theorem d_U_checksToDo_0 : decode b_U_checksToDo 0 = .ok (.aload_n 0, 1) := by decide +kernel
theorem d_U_checksToDo_1 : decode b_U_checksToDo 1 = .ok (.getfield 21, 3) := by decide +kernel
theorem d_U_checksToDo_4 : decode b_U_checksToDo 4 = .ok (.iload_n 1, 1) := by decide +kernel
theorem d_U_checksToDo_5 : decode b_U_checksToDo 5 = .ok (.iaload, 1) := by decide +kernel
theorem d_U_checksToDo_6 : decode b_U_checksToDo 6 = .ok (.aload_n 0, 1) := by decide +kernel
theorem d_U_checksToDo_7 : decode b_U_checksToDo 7 = .ok (.getfield 24, 3) := by decide +kernel
theorem d_U_checksToDo_10 : decode b_U_checksToDo 10 = .ok (.iload_n 1, 1) := by decide +kernel
theorem d_U_checksToDo_11 : decode b_U_checksToDo 11 = .ok (.iaload, 1) := by decide +kernel
theorem d_U_checksToDo_12 : decode b_U_checksToDo 12 = .ok (.iconst (-1), 1) := by decide +kernel
theorem d_U_checksToDo_13 : decode b_U_checksToDo 13 = .ok (.ixor, 1) := by decide +kernel
theorem d_U_checksToDo_14 : decode b_U_checksToDo 14 = .ok (.iand, 1) := by decide +kernel
theorem d_U_checksToDo_15 : decode b_U_checksToDo 15 = .ok (.ireturn, 1) := by decide +kernel
theorem d_U_nearestReady_0 : decode b_U_nearestReady 0 = .ok (.iconst (-1), 1) := by decide +kernel
theorem d_U_nearestReady_1 : decode b_U_nearestReady 1 = .ok (.istore_n 1, 1) := by decide +kernel
theorem d_U_nearestReady_2 : decode b_U_nearestReady 2 = .ok (.iconst 0, 1) := by decide +kernel
theorem d_U_nearestReady_3 : decode b_U_nearestReady 3 = .ok (.istore_n 2, 1) := by decide +kernel
theorem d_U_nearestReady_4 : decode b_U_nearestReady 4 = .ok (.iload_n 2, 1) := by decide +kernel
theorem d_U_nearestReady_5 : decode b_U_nearestReady 5 = .ok (.aload_n 0, 1) := by decide +kernel
theorem d_U_nearestReady_6 : decode b_U_nearestReady 6 = .ok (.getfield 42, 3) := by decide +kernel
theorem d_U_nearestReady_9 : decode b_U_nearestReady 9 = .ok (.if_icmp .ge 40, 3) := by decide +kernel
theorem d_U_nearestReady_12 : decode b_U_nearestReady 12 = .ok (.aload_n 0, 1) := by decide +kernel
theorem d_U_nearestReady_13 : decode b_U_nearestReady 13 = .ok (.getfield 27, 3) := by decide +kernel
theorem d_U_nearestReady_16 : decode b_U_nearestReady 16 = .ok (.iload_n 2, 1) := by decide +kernel
theorem d_U_nearestReady_17 : decode b_U_nearestReady 17 = .ok (.iaload, 1) := by decide +kernel
theorem d_U_nearestReady_18 : decode b_U_nearestReady 18 = .ok (.ifCond .ne 25, 3) := by decide +kernel
theorem d_U_nearestReady_21 : decode b_U_nearestReady 21 = .ok (.iload_n 1, 1) := by decide +kernel
theorem d_U_nearestReady_22 : decode b_U_nearestReady 22 = .ok (.iconst (-1), 1) := by decide +kernel
theorem d_U_nearestReady_23 : decode b_U_nearestReady 23 = .ok (.if_icmp .eq 18, 3) := by decide +kernel
theorem d_U_nearestReady_26 : decode b_U_nearestReady 26 = .ok (.aload_n 0, 1) := by decide +kernel
theorem d_U_nearestReady_27 : decode b_U_nearestReady 27 = .ok (.getfield 9, 3) := by decide +kernel
theorem d_U_nearestReady_30 : decode b_U_nearestReady 30 = .ok (.iload_n 2, 1) := by decide +kernel
theorem d_U_nearestReady_31 : decode b_U_nearestReady 31 = .ok (.iaload, 1) := by decide +kernel
theorem d_U_nearestReady_32 : decode b_U_nearestReady 32 = .ok (.aload_n 0, 1) := by decide +kernel
theorem d_U_nearestReady_33 : decode b_U_nearestReady 33 = .ok (.getfield 9, 3) := by decide +kernel
theorem d_U_nearestReady_36 : decode b_U_nearestReady 36 = .ok (.iload_n 1, 1) := by decide +kernel
theorem d_U_nearestReady_37 : decode b_U_nearestReady 37 = .ok (.iaload, 1) := by decide +kernel
theorem d_U_nearestReady_38 : decode b_U_nearestReady 38 = .ok (.if_icmp .ge 5, 3) := by decide +kernel
theorem d_U_nearestReady_41 : decode b_U_nearestReady 41 = .ok (.iload_n 2, 1) := by decide +kernel
theorem d_U_nearestReady_42 : decode b_U_nearestReady 42 = .ok (.istore_n 1, 1) := by decide +kernel
theorem d_U_nearestReady_43 : decode b_U_nearestReady 43 = .ok (.iinc 2 1, 3) := by decide +kernel
theorem d_U_nearestReady_46 : decode b_U_nearestReady 46 = .ok (.goto (-42), 3) := by decide +kernel
theorem d_U_nearestReady_49 : decode b_U_nearestReady 49 = .ok (.iload_n 1, 1) := by decide +kernel
theorem d_U_nearestReady_50 : decode b_U_nearestReady 50 = .ok (.ireturn, 1) := by decide +kernel
theorem d_U_farthestAt_0 : decode b_U_farthestAt 0 = .ok (.iconst (-1), 1) := by decide +kernel
theorem d_U_farthestAt_1 : decode b_U_farthestAt 1 = .ok (.istore_n 2, 1) := by decide +kernel
theorem d_U_farthestAt_2 : decode b_U_farthestAt 2 = .ok (.iconst 0, 1) := by decide +kernel
theorem d_U_farthestAt_3 : decode b_U_farthestAt 3 = .ok (.istore_n 3, 1) := by decide +kernel
theorem d_U_farthestAt_4 : decode b_U_farthestAt 4 = .ok (.iload_n 3, 1) := by decide +kernel
theorem d_U_farthestAt_5 : decode b_U_farthestAt 5 = .ok (.aload_n 0, 1) := by decide +kernel
theorem d_U_farthestAt_6 : decode b_U_farthestAt 6 = .ok (.getfield 42, 3) := by decide +kernel
theorem d_U_farthestAt_9 : decode b_U_farthestAt 9 = .ok (.if_icmp .ge 41, 3) := by decide +kernel
theorem d_U_farthestAt_12 : decode b_U_farthestAt 12 = .ok (.aload_n 0, 1) := by decide +kernel
theorem d_U_farthestAt_13 : decode b_U_farthestAt 13 = .ok (.getfield 30, 3) := by decide +kernel
theorem d_U_farthestAt_16 : decode b_U_farthestAt 16 = .ok (.iload_n 3, 1) := by decide +kernel
theorem d_U_farthestAt_17 : decode b_U_farthestAt 17 = .ok (.iaload, 1) := by decide +kernel
theorem d_U_farthestAt_18 : decode b_U_farthestAt 18 = .ok (.iload_n 1, 1) := by decide +kernel
theorem d_U_farthestAt_19 : decode b_U_farthestAt 19 = .ok (.if_icmp .ne 25, 3) := by decide +kernel
theorem d_U_farthestAt_22 : decode b_U_farthestAt 22 = .ok (.iload_n 2, 1) := by decide +kernel
theorem d_U_farthestAt_23 : decode b_U_farthestAt 23 = .ok (.iconst (-1), 1) := by decide +kernel
theorem d_U_farthestAt_24 : decode b_U_farthestAt 24 = .ok (.if_icmp .eq 18, 3) := by decide +kernel
theorem d_U_farthestAt_27 : decode b_U_farthestAt 27 = .ok (.aload_n 0, 1) := by decide +kernel
theorem d_U_farthestAt_28 : decode b_U_farthestAt 28 = .ok (.getfield 9, 3) := by decide +kernel
theorem d_U_farthestAt_31 : decode b_U_farthestAt 31 = .ok (.iload_n 3, 1) := by decide +kernel
theorem d_U_farthestAt_32 : decode b_U_farthestAt 32 = .ok (.iaload, 1) := by decide +kernel
theorem d_U_farthestAt_33 : decode b_U_farthestAt 33 = .ok (.aload_n 0, 1) := by decide +kernel
theorem d_U_farthestAt_34 : decode b_U_farthestAt 34 = .ok (.getfield 9, 3) := by decide +kernel
theorem d_U_farthestAt_37 : decode b_U_farthestAt 37 = .ok (.iload_n 2, 1) := by decide +kernel
theorem d_U_farthestAt_38 : decode b_U_farthestAt 38 = .ok (.iaload, 1) := by decide +kernel
theorem d_U_farthestAt_39 : decode b_U_farthestAt 39 = .ok (.if_icmp .le 5, 3) := by decide +kernel
theorem d_U_farthestAt_42 : decode b_U_farthestAt 42 = .ok (.iload_n 3, 1) := by decide +kernel
theorem d_U_farthestAt_43 : decode b_U_farthestAt 43 = .ok (.istore_n 2, 1) := by decide +kernel
theorem d_U_farthestAt_44 : decode b_U_farthestAt 44 = .ok (.iinc 3 1, 3) := by decide +kernel
theorem d_U_farthestAt_47 : decode b_U_farthestAt 47 = .ok (.goto (-43), 3) := by decide +kernel
theorem d_U_farthestAt_50 : decode b_U_farthestAt 50 = .ok (.iload_n 2, 1) := by decide +kernel
theorem d_U_farthestAt_51 : decode b_U_farthestAt 51 = .ok (.ireturn, 1) := by decide +kernel
theorem d_U_countAt_0 : decode b_U_countAt 0 = .ok (.iconst 0, 1) := by decide +kernel
theorem d_U_countAt_1 : decode b_U_countAt 1 = .ok (.istore_n 2, 1) := by decide +kernel
theorem d_U_countAt_2 : decode b_U_countAt 2 = .ok (.iconst 0, 1) := by decide +kernel
theorem d_U_countAt_3 : decode b_U_countAt 3 = .ok (.istore_n 3, 1) := by decide +kernel
theorem d_U_countAt_4 : decode b_U_countAt 4 = .ok (.iload_n 3, 1) := by decide +kernel
theorem d_U_countAt_5 : decode b_U_countAt 5 = .ok (.aload_n 0, 1) := by decide +kernel
theorem d_U_countAt_6 : decode b_U_countAt 6 = .ok (.getfield 42, 3) := by decide +kernel
theorem d_U_countAt_9 : decode b_U_countAt 9 = .ok (.if_icmp .ge 22, 3) := by decide +kernel
theorem d_U_countAt_12 : decode b_U_countAt 12 = .ok (.aload_n 0, 1) := by decide +kernel
theorem d_U_countAt_13 : decode b_U_countAt 13 = .ok (.getfield 30, 3) := by decide +kernel
theorem d_U_countAt_16 : decode b_U_countAt 16 = .ok (.iload_n 3, 1) := by decide +kernel
theorem d_U_countAt_17 : decode b_U_countAt 17 = .ok (.iaload, 1) := by decide +kernel
theorem d_U_countAt_18 : decode b_U_countAt 18 = .ok (.iload_n 1, 1) := by decide +kernel
theorem d_U_countAt_19 : decode b_U_countAt 19 = .ok (.if_icmp .ne 6, 3) := by decide +kernel
theorem d_U_countAt_22 : decode b_U_countAt 22 = .ok (.iinc 2 1, 3) := by decide +kernel
theorem d_U_countAt_25 : decode b_U_countAt 25 = .ok (.iinc 3 1, 3) := by decide +kernel
theorem d_U_countAt_28 : decode b_U_countAt 28 = .ok (.goto (-24), 3) := by decide +kernel
theorem d_U_countAt_31 : decode b_U_countAt 31 = .ok (.iload_n 2, 1) := by decide +kernel
theorem d_U_countAt_32 : decode b_U_countAt 32 = .ok (.ireturn, 1) := by decide +kernel
theorem d_U_countReady_0 : decode b_U_countReady 0 = .ok (.iconst 0, 1) := by decide +kernel
theorem d_U_countReady_1 : decode b_U_countReady 1 = .ok (.istore_n 1, 1) := by decide +kernel
theorem d_U_countReady_2 : decode b_U_countReady 2 = .ok (.iconst 0, 1) := by decide +kernel
theorem d_U_countReady_3 : decode b_U_countReady 3 = .ok (.istore_n 2, 1) := by decide +kernel
theorem d_U_countReady_4 : decode b_U_countReady 4 = .ok (.iload_n 2, 1) := by decide +kernel
theorem d_U_countReady_5 : decode b_U_countReady 5 = .ok (.aload_n 0, 1) := by decide +kernel
theorem d_U_countReady_6 : decode b_U_countReady 6 = .ok (.getfield 42, 3) := by decide +kernel
theorem d_U_countReady_9 : decode b_U_countReady 9 = .ok (.if_icmp .ge 21, 3) := by decide +kernel
theorem d_U_countReady_12 : decode b_U_countReady 12 = .ok (.aload_n 0, 1) := by decide +kernel
theorem d_U_countReady_13 : decode b_U_countReady 13 = .ok (.getfield 27, 3) := by decide +kernel
theorem d_U_countReady_16 : decode b_U_countReady 16 = .ok (.iload_n 2, 1) := by decide +kernel
theorem d_U_countReady_17 : decode b_U_countReady 17 = .ok (.iaload, 1) := by decide +kernel
theorem d_U_countReady_18 : decode b_U_countReady 18 = .ok (.ifCond .ne 6, 3) := by decide +kernel
theorem d_U_countReady_21 : decode b_U_countReady 21 = .ok (.iinc 1 1, 3) := by decide +kernel
theorem d_U_countReady_24 : decode b_U_countReady 24 = .ok (.iinc 2 1, 3) := by decide +kernel
theorem d_U_countReady_27 : decode b_U_countReady 27 = .ok (.goto (-23), 3) := by decide +kernel
theorem d_U_countReady_30 : decode b_U_countReady 30 = .ok (.iload_n 1, 1) := by decide +kernel
theorem d_U_countReady_31 : decode b_U_countReady 31 = .ok (.ireturn, 1) := by decide +kernel
theorem d_U_canRefill_0 : decode b_U_canRefill 0 = .ok (.iconst 0, 1) := by decide +kernel
theorem d_U_canRefill_1 : decode b_U_canRefill 1 = .ok (.istore_n 3, 1) := by decide +kernel
theorem d_U_canRefill_2 : decode b_U_canRefill 2 = .ok (.iload_n 3, 1) := by decide +kernel
theorem d_U_canRefill_3 : decode b_U_canRefill 3 = .ok (.bipush 6, 2) := by decide +kernel
theorem d_U_canRefill_5 : decode b_U_canRefill 5 = .ok (.if_icmp .ge 28, 3) := by decide +kernel
theorem d_U_canRefill_8 : decode b_U_canRefill 8 = .ok (.aload_n 0, 1) := by decide +kernel
theorem d_U_canRefill_9 : decode b_U_canRefill 9 = .ok (.getfield 39, 3) := by decide +kernel
theorem d_U_canRefill_12 : decode b_U_canRefill 12 = .ok (.iload_n 1, 1) := by decide +kernel
theorem d_U_canRefill_13 : decode b_U_canRefill 13 = .ok (.bipush 6, 2) := by decide +kernel
theorem d_U_canRefill_15 : decode b_U_canRefill 15 = .ok (.imul, 1) := by decide +kernel
theorem d_U_canRefill_16 : decode b_U_canRefill 16 = .ok (.iload_n 3, 1) := by decide +kernel
theorem d_U_canRefill_17 : decode b_U_canRefill 17 = .ok (.iadd, 1) := by decide +kernel
theorem d_U_canRefill_18 : decode b_U_canRefill 18 = .ok (.iaload, 1) := by decide +kernel
theorem d_U_canRefill_19 : decode b_U_canRefill 19 = .ok (.aload_n 2, 1) := by decide +kernel
theorem d_U_canRefill_20 : decode b_U_canRefill 20 = .ok (.iload_n 3, 1) := by decide +kernel
theorem d_U_canRefill_21 : decode b_U_canRefill 21 = .ok (.iaload, 1) := by decide +kernel
theorem d_U_canRefill_22 : decode b_U_canRefill 22 = .ok (.if_icmp .le 5, 3) := by decide +kernel
theorem d_U_canRefill_25 : decode b_U_canRefill 25 = .ok (.iconst 0, 1) := by decide +kernel
theorem d_U_canRefill_26 : decode b_U_canRefill 26 = .ok (.ireturn, 1) := by decide +kernel
theorem d_U_canRefill_27 : decode b_U_canRefill 27 = .ok (.iinc 3 1, 3) := by decide +kernel
theorem d_U_canRefill_30 : decode b_U_canRefill 30 = .ok (.goto (-28), 3) := by decide +kernel
theorem d_U_canRefill_33 : decode b_U_canRefill 33 = .ok (.iconst 1, 1) := by decide +kernel
theorem d_U_canRefill_34 : decode b_U_canRefill 34 = .ok (.ireturn, 1) := by decide +kernel
theorem d_U_refill_0 : decode b_U_refill 0 = .ok (.iconst 0, 1) := by decide +kernel
theorem d_U_refill_1 : decode b_U_refill 1 = .ok (.istore_n 3, 1) := by decide +kernel
theorem d_U_refill_2 : decode b_U_refill 2 = .ok (.iload_n 3, 1) := by decide +kernel
theorem d_U_refill_3 : decode b_U_refill 3 = .ok (.bipush 6, 2) := by decide +kernel
theorem d_U_refill_5 : decode b_U_refill 5 = .ok (.if_icmp .ge 38, 3) := by decide +kernel
theorem d_U_refill_8 : decode b_U_refill 8 = .ok (.aload_n 2, 1) := by decide +kernel
theorem d_U_refill_9 : decode b_U_refill 9 = .ok (.iload_n 3, 1) := by decide +kernel
theorem d_U_refill_10 : decode b_U_refill 10 = .ok (.dup2, 1) := by decide +kernel
theorem d_U_refill_11 : decode b_U_refill 11 = .ok (.iaload, 1) := by decide +kernel
theorem d_U_refill_12 : decode b_U_refill 12 = .ok (.aload_n 0, 1) := by decide +kernel
theorem d_U_refill_13 : decode b_U_refill 13 = .ok (.getfield 39, 3) := by decide +kernel
theorem d_U_refill_16 : decode b_U_refill 16 = .ok (.iload_n 1, 1) := by decide +kernel
theorem d_U_refill_17 : decode b_U_refill 17 = .ok (.bipush 6, 2) := by decide +kernel
theorem d_U_refill_19 : decode b_U_refill 19 = .ok (.imul, 1) := by decide +kernel
theorem d_U_refill_20 : decode b_U_refill 20 = .ok (.iload_n 3, 1) := by decide +kernel
theorem d_U_refill_21 : decode b_U_refill 21 = .ok (.iadd, 1) := by decide +kernel
theorem d_U_refill_22 : decode b_U_refill 22 = .ok (.iaload, 1) := by decide +kernel
theorem d_U_refill_23 : decode b_U_refill 23 = .ok (.isub, 1) := by decide +kernel
theorem d_U_refill_24 : decode b_U_refill 24 = .ok (.iastore, 1) := by decide +kernel
theorem d_U_refill_25 : decode b_U_refill 25 = .ok (.aload_n 0, 1) := by decide +kernel
theorem d_U_refill_26 : decode b_U_refill 26 = .ok (.getfield 39, 3) := by decide +kernel
theorem d_U_refill_29 : decode b_U_refill 29 = .ok (.iload_n 1, 1) := by decide +kernel
theorem d_U_refill_30 : decode b_U_refill 30 = .ok (.bipush 6, 2) := by decide +kernel
theorem d_U_refill_32 : decode b_U_refill 32 = .ok (.imul, 1) := by decide +kernel
theorem d_U_refill_33 : decode b_U_refill 33 = .ok (.iload_n 3, 1) := by decide +kernel
theorem d_U_refill_34 : decode b_U_refill 34 = .ok (.iadd, 1) := by decide +kernel
theorem d_U_refill_35 : decode b_U_refill 35 = .ok (.iconst 0, 1) := by decide +kernel
theorem d_U_refill_36 : decode b_U_refill 36 = .ok (.iastore, 1) := by decide +kernel
theorem d_U_refill_37 : decode b_U_refill 37 = .ok (.iinc 3 1, 3) := by decide +kernel
theorem d_U_refill_40 : decode b_U_refill 40 = .ok (.goto (-38), 3) := by decide +kernel
theorem d_U_refill_43 : decode b_U_refill 43 = .ok (.return_, 1) := by decide +kernel
theorem d_W_init_0 : decode b_W_init 0 = .ok (.aload_n 0, 1) := by decide +kernel
theorem d_W_init_1 : decode b_W_init 1 = .ok (.invokespecial 3, 3) := by decide +kernel
theorem d_W_init_4 : decode b_W_init 4 = .ok (.aload_n 0, 1) := by decide +kernel
theorem d_W_init_5 : decode b_W_init 5 = .ok (.bipush 30, 2) := by decide +kernel
theorem d_W_init_7 : decode b_W_init 7 = .ok (.newarray .int, 2) := by decide +kernel
theorem d_W_init_9 : decode b_W_init 9 = .ok (.putfield 9, 3) := by decide +kernel
theorem d_W_init_12 : decode b_W_init 12 = .ok (.aload_n 0, 1) := by decide +kernel
theorem d_W_init_13 : decode b_W_init 13 = .ok (.iconst 0, 1) := by decide +kernel
theorem d_W_init_14 : decode b_W_init 14 = .ok (.putfield 15, 3) := by decide +kernel
theorem d_W_init_17 : decode b_W_init 17 = .ok (.return_, 1) := by decide +kernel
theorem d_W_addLast_0 : decode b_W_addLast 0 = .ok (.aload_n 0, 1) := by decide +kernel
theorem d_W_addLast_1 : decode b_W_addLast 1 = .ok (.getfield 9, 3) := by decide +kernel
theorem d_W_addLast_4 : decode b_W_addLast 4 = .ok (.aload_n 0, 1) := by decide +kernel
theorem d_W_addLast_5 : decode b_W_addLast 5 = .ok (.getfield 15, 3) := by decide +kernel
theorem d_W_addLast_8 : decode b_W_addLast 8 = .ok (.iload_n 1, 1) := by decide +kernel
theorem d_W_addLast_9 : decode b_W_addLast 9 = .ok (.iastore, 1) := by decide +kernel
theorem d_W_addLast_10 : decode b_W_addLast 10 = .ok (.aload_n 0, 1) := by decide +kernel
theorem d_W_addLast_11 : decode b_W_addLast 11 = .ok (.dup, 1) := by decide +kernel
theorem d_W_addLast_12 : decode b_W_addLast 12 = .ok (.getfield 15, 3) := by decide +kernel
theorem d_W_addLast_15 : decode b_W_addLast 15 = .ok (.iconst 1, 1) := by decide +kernel
theorem d_W_addLast_16 : decode b_W_addLast 16 = .ok (.iadd, 1) := by decide +kernel
theorem d_W_addLast_17 : decode b_W_addLast 17 = .ok (.putfield 15, 3) := by decide +kernel
theorem d_W_addLast_20 : decode b_W_addLast 20 = .ok (.return_, 1) := by decide +kernel
theorem d_W_takeFirst_0 : decode b_W_takeFirst 0 = .ok (.aload_n 0, 1) := by decide +kernel
theorem d_W_takeFirst_1 : decode b_W_takeFirst 1 = .ok (.getfield 9, 3) := by decide +kernel
theorem d_W_takeFirst_4 : decode b_W_takeFirst 4 = .ok (.iconst 0, 1) := by decide +kernel
theorem d_W_takeFirst_5 : decode b_W_takeFirst 5 = .ok (.iaload, 1) := by decide +kernel
theorem d_W_takeFirst_6 : decode b_W_takeFirst 6 = .ok (.istore_n 1, 1) := by decide +kernel
theorem d_W_takeFirst_7 : decode b_W_takeFirst 7 = .ok (.aload_n 0, 1) := by decide +kernel
theorem d_W_takeFirst_8 : decode b_W_takeFirst 8 = .ok (.dup, 1) := by decide +kernel
theorem d_W_takeFirst_9 : decode b_W_takeFirst 9 = .ok (.getfield 15, 3) := by decide +kernel
theorem d_W_takeFirst_12 : decode b_W_takeFirst 12 = .ok (.iconst 1, 1) := by decide +kernel
theorem d_W_takeFirst_13 : decode b_W_takeFirst 13 = .ok (.isub, 1) := by decide +kernel
theorem d_W_takeFirst_14 : decode b_W_takeFirst 14 = .ok (.putfield 15, 3) := by decide +kernel
theorem d_W_takeFirst_17 : decode b_W_takeFirst 17 = .ok (.aload_n 0, 1) := by decide +kernel
theorem d_W_takeFirst_18 : decode b_W_takeFirst 18 = .ok (.getfield 9, 3) := by decide +kernel
theorem d_W_takeFirst_21 : decode b_W_takeFirst 21 = .ok (.iconst 1, 1) := by decide +kernel
theorem d_W_takeFirst_22 : decode b_W_takeFirst 22 = .ok (.aload_n 0, 1) := by decide +kernel
theorem d_W_takeFirst_23 : decode b_W_takeFirst 23 = .ok (.getfield 9, 3) := by decide +kernel
theorem d_W_takeFirst_26 : decode b_W_takeFirst 26 = .ok (.iconst 0, 1) := by decide +kernel
theorem d_W_takeFirst_27 : decode b_W_takeFirst 27 = .ok (.aload_n 0, 1) := by decide +kernel
theorem d_W_takeFirst_28 : decode b_W_takeFirst 28 = .ok (.getfield 15, 3) := by decide +kernel
theorem d_W_takeFirst_31 : decode b_W_takeFirst 31 = .ok (.invokestatic 19, 3) := by decide +kernel
theorem d_W_takeFirst_34 : decode b_W_takeFirst 34 = .ok (.iload_n 1, 1) := by decide +kernel
theorem d_W_takeFirst_35 : decode b_W_takeFirst 35 = .ok (.ireturn, 1) := by decide +kernel
theorem d_W_countFor_0 : decode b_W_countFor 0 = .ok (.iconst 0, 1) := by decide +kernel
theorem d_W_countFor_1 : decode b_W_countFor 1 = .ok (.istore_n 2, 1) := by decide +kernel
theorem d_W_countFor_2 : decode b_W_countFor 2 = .ok (.iconst 0, 1) := by decide +kernel
theorem d_W_countFor_3 : decode b_W_countFor 3 = .ok (.istore_n 3, 1) := by decide +kernel
theorem d_W_countFor_4 : decode b_W_countFor 4 = .ok (.iload_n 3, 1) := by decide +kernel
theorem d_W_countFor_5 : decode b_W_countFor 5 = .ok (.aload_n 0, 1) := by decide +kernel
theorem d_W_countFor_6 : decode b_W_countFor 6 = .ok (.getfield 15, 3) := by decide +kernel
theorem d_W_countFor_9 : decode b_W_countFor 9 = .ok (.if_icmp .ge 22, 3) := by decide +kernel
theorem d_W_countFor_12 : decode b_W_countFor 12 = .ok (.aload_n 0, 1) := by decide +kernel
theorem d_W_countFor_13 : decode b_W_countFor 13 = .ok (.getfield 9, 3) := by decide +kernel
theorem d_W_countFor_16 : decode b_W_countFor 16 = .ok (.iload_n 3, 1) := by decide +kernel
theorem d_W_countFor_17 : decode b_W_countFor 17 = .ok (.iaload, 1) := by decide +kernel
theorem d_W_countFor_18 : decode b_W_countFor 18 = .ok (.iload_n 1, 1) := by decide +kernel
theorem d_W_countFor_19 : decode b_W_countFor 19 = .ok (.if_icmp .ne 6, 3) := by decide +kernel
theorem d_W_countFor_22 : decode b_W_countFor 22 = .ok (.iinc 2 1, 3) := by decide +kernel
theorem d_W_countFor_25 : decode b_W_countFor 25 = .ok (.iinc 3 1, 3) := by decide +kernel
theorem d_W_countFor_28 : decode b_W_countFor 28 = .ok (.goto (-24), 3) := by decide +kernel
theorem d_W_countFor_31 : decode b_W_countFor 31 = .ok (.iload_n 2, 1) := by decide +kernel
theorem d_W_countFor_32 : decode b_W_countFor 32 = .ok (.ireturn, 1) := by decide +kernel
