theorem d_pl_init_0 : decode b_pl_init 0 = .ok (.aload_n 0, 1) := by decide +kernel
theorem d_pl_init_1 : decode b_pl_init 1 = .ok (.invokespecial 3, 3) := by decide +kernel
theorem d_pl_init_4 : decode b_pl_init 4 = .ok (.aload_n 0, 1) := by decide +kernel
theorem d_pl_init_5 : decode b_pl_init 5 = .ok (.bipush 12, 2) := by decide +kernel
theorem d_pl_init_7 : decode b_pl_init 7 = .ok (.newarray .boolean, 2) := by decide +kernel
theorem d_pl_init_9 : decode b_pl_init 9 = .ok (.putfield 9, 3) := by decide +kernel
theorem d_pl_init_12 : decode b_pl_init 12 = .ok (.return_, 1) := by decide +kernel
theorem d_ro_init_0 : decode b_ro_init 0 = .ok (.aload_n 0, 1) := by decide +kernel
theorem d_ro_init_1 : decode b_ro_init 1 = .ok (.invokespecial 3, 3) := by decide +kernel
theorem d_ro_init_4 : decode b_ro_init 4 = .ok (.aload_n 0, 1) := by decide +kernel
theorem d_ro_init_5 : decode b_ro_init 5 = .ok (.bipush 40, 2) := by decide +kernel
theorem d_ro_init_7 : decode b_ro_init 7 = .ok (.newarray .int, 2) := by decide +kernel
theorem d_ro_init_9 : decode b_ro_init 9 = .ok (.putfield 9, 3) := by decide +kernel
theorem d_ro_init_12 : decode b_ro_init 12 = .ok (.aload_n 0, 1) := by decide +kernel
theorem d_ro_init_13 : decode b_ro_init 13 = .ok (.bipush 40, 2) := by decide +kernel
theorem d_ro_init_15 : decode b_ro_init 15 = .ok (.newarray .int, 2) := by decide +kernel
theorem d_ro_init_17 : decode b_ro_init 17 = .ok (.putfield 15, 3) := by decide +kernel
theorem d_ro_init_20 : decode b_ro_init 20 = .ok (.aload_n 0, 1) := by decide +kernel
theorem d_ro_init_21 : decode b_ro_init 21 = .ok (.bipush 40, 2) := by decide +kernel
theorem d_ro_init_23 : decode b_ro_init 23 = .ok (.newarray .int, 2) := by decide +kernel
theorem d_ro_init_25 : decode b_ro_init 25 = .ok (.putfield 18, 3) := by decide +kernel
theorem d_ro_init_28 : decode b_ro_init 28 = .ok (.aload_n 0, 1) := by decide +kernel
theorem d_ro_init_29 : decode b_ro_init 29 = .ok (.bipush 40, 2) := by decide +kernel
theorem d_ro_init_31 : decode b_ro_init 31 = .ok (.newarray .int, 2) := by decide +kernel
theorem d_ro_init_33 : decode b_ro_init 33 = .ok (.putfield 21, 3) := by decide +kernel
theorem d_ro_init_36 : decode b_ro_init 36 = .ok (.aload_n 0, 1) := by decide +kernel
theorem d_ro_init_37 : decode b_ro_init 37 = .ok (.bipush 40, 2) := by decide +kernel
theorem d_ro_init_39 : decode b_ro_init 39 = .ok (.newarray .int, 2) := by decide +kernel
theorem d_ro_init_41 : decode b_ro_init 41 = .ok (.putfield 24, 3) := by decide +kernel
theorem d_ro_init_44 : decode b_ro_init 44 = .ok (.aload_n 0, 1) := by decide +kernel
theorem d_ro_init_45 : decode b_ro_init 45 = .ok (.bipush 40, 2) := by decide +kernel
theorem d_ro_init_47 : decode b_ro_init 47 = .ok (.newarray .int, 2) := by decide +kernel
theorem d_ro_init_49 : decode b_ro_init 49 = .ok (.putfield 27, 3) := by decide +kernel
theorem d_ro_init_52 : decode b_ro_init 52 = .ok (.aload_n 0, 1) := by decide +kernel
theorem d_ro_init_53 : decode b_ro_init 53 = .ok (.new 30, 3) := by decide +kernel
theorem d_ro_init_56 : decode b_ro_init 56 = .ok (.dup, 1) := by decide +kernel
theorem d_ro_init_57 : decode b_ro_init 57 = .ok (.invokespecial 32, 3) := by decide +kernel
theorem d_ro_init_60 : decode b_ro_init 60 = .ok (.putfield 33, 3) := by decide +kernel
theorem d_ro_init_63 : decode b_ro_init 63 = .ok (.return_, 1) := by decide +kernel
theorem d_lo_init_0 : decode b_lo_init 0 = .ok (.aload_n 0, 1) := by decide +kernel
theorem d_lo_init_1 : decode b_lo_init 1 = .ok (.invokespecial 3, 3) := by decide +kernel
theorem d_lo_init_4 : decode b_lo_init 4 = .ok (.aload_n 0, 1) := by decide +kernel
theorem d_lo_init_5 : decode b_lo_init 5 = .ok (.bipush 60, 2) := by decide +kernel
theorem d_lo_init_7 : decode b_lo_init 7 = .ok (.newarray .int, 2) := by decide +kernel
theorem d_lo_init_9 : decode b_lo_init 9 = .ok (.putfield 9, 3) := by decide +kernel
theorem d_lo_init_12 : decode b_lo_init 12 = .ok (.aload_n 0, 1) := by decide +kernel
theorem d_lo_init_13 : decode b_lo_init 13 = .ok (.bipush 60, 2) := by decide +kernel
theorem d_lo_init_15 : decode b_lo_init 15 = .ok (.newarray .int, 2) := by decide +kernel
theorem d_lo_init_17 : decode b_lo_init 17 = .ok (.putfield 15, 3) := by decide +kernel
theorem d_lo_init_20 : decode b_lo_init 20 = .ok (.return_, 1) := by decide +kernel
theorem d_cp_init_0 : decode b_cp_init 0 = .ok (.aload_n 0, 1) := by decide +kernel
theorem d_cp_init_1 : decode b_cp_init 1 = .ok (.invokespecial 3, 3) := by decide +kernel
theorem d_cp_init_4 : decode b_cp_init 4 = .ok (.aload_n 0, 1) := by decide +kernel
theorem d_cp_init_5 : decode b_cp_init 5 = .ok (.bipush 61, 2) := by decide +kernel
theorem d_cp_init_7 : decode b_cp_init 7 = .ok (.newarray .int, 2) := by decide +kernel
theorem d_cp_init_9 : decode b_cp_init 9 = .ok (.putfield 9, 3) := by decide +kernel
theorem d_cp_init_12 : decode b_cp_init 12 = .ok (.aload_n 0, 1) := by decide +kernel
theorem d_cp_init_13 : decode b_cp_init 13 = .ok (.bipush 61, 2) := by decide +kernel
theorem d_cp_init_15 : decode b_cp_init 15 = .ok (.newarray .int, 2) := by decide +kernel
theorem d_cp_init_17 : decode b_cp_init 17 = .ok (.putfield 15, 3) := by decide +kernel
theorem d_cp_init_20 : decode b_cp_init 20 = .ok (.aload_n 0, 1) := by decide +kernel
theorem d_cp_init_21 : decode b_cp_init 21 = .ok (.bipush 61, 2) := by decide +kernel
theorem d_cp_init_23 : decode b_cp_init 23 = .ok (.newarray .int, 2) := by decide +kernel
theorem d_cp_init_25 : decode b_cp_init 25 = .ok (.putfield 18, 3) := by decide +kernel
theorem d_cp_init_28 : decode b_cp_init 28 = .ok (.aload_n 0, 1) := by decide +kernel
theorem d_cp_init_29 : decode b_cp_init 29 = .ok (.bipush 61, 2) := by decide +kernel
theorem d_cp_init_31 : decode b_cp_init 31 = .ok (.newarray .boolean, 2) := by decide +kernel
theorem d_cp_init_33 : decode b_cp_init 33 = .ok (.putfield 21, 3) := by decide +kernel
theorem d_cp_init_36 : decode b_cp_init 36 = .ok (.aload_n 0, 1) := by decide +kernel
theorem d_cp_init_37 : decode b_cp_init 37 = .ok (.bipush 61, 2) := by decide +kernel
theorem d_cp_init_39 : decode b_cp_init 39 = .ok (.newarray .boolean, 2) := by decide +kernel
theorem d_cp_init_41 : decode b_cp_init 41 = .ok (.putfield 25, 3) := by decide +kernel
theorem d_cp_init_44 : decode b_cp_init 44 = .ok (.return_, 1) := by decide +kernel
theorem d_sl_init_0 : decode b_sl_init 0 = .ok (.aload_n 0, 1) := by decide +kernel
theorem d_sl_init_1 : decode b_sl_init 1 = .ok (.invokespecial 3, 3) := by decide +kernel
theorem d_sl_init_4 : decode b_sl_init 4 = .ok (.aload_n 0, 1) := by decide +kernel
theorem d_sl_init_5 : decode b_sl_init 5 = .ok (.sipush 151, 3) := by decide +kernel
theorem d_sl_init_8 : decode b_sl_init 8 = .ok (.newarray .int, 2) := by decide +kernel
theorem d_sl_init_10 : decode b_sl_init 10 = .ok (.putfield 9, 3) := by decide +kernel
theorem d_sl_init_13 : decode b_sl_init 13 = .ok (.aload_n 0, 1) := by decide +kernel
theorem d_sl_init_14 : decode b_sl_init 14 = .ok (.sipush 151, 3) := by decide +kernel
theorem d_sl_init_17 : decode b_sl_init 17 = .ok (.newarray .int, 2) := by decide +kernel
theorem d_sl_init_19 : decode b_sl_init 19 = .ok (.putfield 15, 3) := by decide +kernel
theorem d_sl_init_22 : decode b_sl_init 22 = .ok (.aload_n 0, 1) := by decide +kernel
theorem d_sl_init_23 : decode b_sl_init 23 = .ok (.sipush 151, 3) := by decide +kernel
theorem d_sl_init_26 : decode b_sl_init 26 = .ok (.newarray .int, 2) := by decide +kernel
theorem d_sl_init_28 : decode b_sl_init 28 = .ok (.putfield 18, 3) := by decide +kernel
theorem d_sl_init_31 : decode b_sl_init 31 = .ok (.aload_n 0, 1) := by decide +kernel
theorem d_sl_init_32 : decode b_sl_init 32 = .ok (.sipush 151, 3) := by decide +kernel
theorem d_sl_init_35 : decode b_sl_init 35 = .ok (.newarray .int, 2) := by decide +kernel
theorem d_sl_init_37 : decode b_sl_init 37 = .ok (.putfield 21, 3) := by decide +kernel
theorem d_sl_init_40 : decode b_sl_init 40 = .ok (.aload_n 0, 1) := by decide +kernel
theorem d_sl_init_41 : decode b_sl_init 41 = .ok (.sipush 151, 3) := by decide +kernel
theorem d_sl_init_44 : decode b_sl_init 44 = .ok (.newarray .int, 2) := by decide +kernel
theorem d_sl_init_46 : decode b_sl_init 46 = .ok (.putfield 24, 3) := by decide +kernel
theorem d_sl_init_49 : decode b_sl_init 49 = .ok (.aload_n 0, 1) := by decide +kernel
theorem d_sl_init_50 : decode b_sl_init 50 = .ok (.sipush 151, 3) := by decide +kernel
theorem d_sl_init_53 : decode b_sl_init 53 = .ok (.newarray .int, 2) := by decide +kernel
theorem d_sl_init_55 : decode b_sl_init 55 = .ok (.putfield 27, 3) := by decide +kernel
theorem d_sl_init_58 : decode b_sl_init 58 = .ok (.return_, 1) := by decide +kernel
theorem d_ld_init_0 : decode b_ld_init 0 = .ok (.aload_n 0, 1) := by decide +kernel
theorem d_ld_init_1 : decode b_ld_init 1 = .ok (.invokespecial 3, 3) := by decide +kernel
theorem d_ld_init_4 : decode b_ld_init 4 = .ok (.aload_n 0, 1) := by decide +kernel
theorem d_ld_init_5 : decode b_ld_init 5 = .ok (.bipush 61, 2) := by decide +kernel
theorem d_ld_init_7 : decode b_ld_init 7 = .ok (.newarray .int, 2) := by decide +kernel
theorem d_ld_init_9 : decode b_ld_init 9 = .ok (.putfield 9, 3) := by decide +kernel
theorem d_ld_init_12 : decode b_ld_init 12 = .ok (.aload_n 0, 1) := by decide +kernel
theorem d_ld_init_13 : decode b_ld_init 13 = .ok (.sipush 150, 3) := by decide +kernel
theorem d_ld_init_16 : decode b_ld_init 16 = .ok (.newarray .int, 2) := by decide +kernel
theorem d_ld_init_18 : decode b_ld_init 18 = .ok (.putfield 15, 3) := by decide +kernel
theorem d_ld_init_21 : decode b_ld_init 21 = .ok (.return_, 1) := by decide +kernel
theorem d_te_init_0 : decode b_te_init 0 = .ok (.aload_n 0, 1) := by decide +kernel
theorem d_te_init_1 : decode b_te_init 1 = .ok (.invokespecial 3, 3) := by decide +kernel
theorem d_te_init_4 : decode b_te_init 4 = .ok (.aload_n 0, 1) := by decide +kernel
theorem d_te_init_5 : decode b_te_init 5 = .ok (.bipush 100, 2) := by decide +kernel
theorem d_te_init_7 : decode b_te_init 7 = .ok (.newarray .int, 2) := by decide +kernel
theorem d_te_init_9 : decode b_te_init 9 = .ok (.putfield 9, 3) := by decide +kernel
theorem d_te_init_12 : decode b_te_init 12 = .ok (.aload_n 0, 1) := by decide +kernel
theorem d_te_init_13 : decode b_te_init 13 = .ok (.bipush 100, 2) := by decide +kernel
theorem d_te_init_15 : decode b_te_init 15 = .ok (.newarray .int, 2) := by decide +kernel
theorem d_te_init_17 : decode b_te_init 17 = .ok (.putfield 15, 3) := by decide +kernel
theorem d_te_init_20 : decode b_te_init 20 = .ok (.return_, 1) := by decide +kernel
theorem d_pl_add_0 : decode b_pl_add 0 = .ok (.aload_n 0, 1) := by decide +kernel
theorem d_pl_add_1 : decode b_pl_add 1 = .ok (.getfield 15, 3) := by decide +kernel
theorem d_pl_add_4 : decode b_pl_add 4 = .ok (.bipush 12, 2) := by decide +kernel
theorem d_pl_add_6 : decode b_pl_add 6 = .ok (.if_icmp .ne 5, 3) := by decide +kernel
theorem d_pl_add_9 : decode b_pl_add 9 = .ok (.iconst (-1), 1) := by decide +kernel
theorem d_pl_add_10 : decode b_pl_add 10 = .ok (.ireturn, 1) := by decide +kernel
theorem d_pl_add_11 : decode b_pl_add 11 = .ok (.aload_n 0, 1) := by decide +kernel
theorem d_pl_add_12 : decode b_pl_add 12 = .ok (.getfield 9, 3) := by decide +kernel
theorem d_pl_add_15 : decode b_pl_add 15 = .ok (.aload_n 0, 1) := by decide +kernel
theorem d_pl_add_16 : decode b_pl_add 16 = .ok (.getfield 15, 3) := by decide +kernel
theorem d_pl_add_19 : decode b_pl_add 19 = .ok (.iconst 1, 1) := by decide +kernel
theorem d_pl_add_20 : decode b_pl_add 20 = .ok (.bastore, 1) := by decide +kernel
theorem d_pl_add_21 : decode b_pl_add 21 = .ok (.aload_n 0, 1) := by decide +kernel
theorem d_pl_add_22 : decode b_pl_add 22 = .ok (.dup, 1) := by decide +kernel
theorem d_pl_add_23 : decode b_pl_add 23 = .ok (.getfield 15, 3) := by decide +kernel
theorem d_pl_add_26 : decode b_pl_add 26 = .ok (.dup_x1, 1) := by decide +kernel
theorem d_pl_add_27 : decode b_pl_add 27 = .ok (.iconst 1, 1) := by decide +kernel
theorem d_pl_add_28 : decode b_pl_add 28 = .ok (.iadd, 1) := by decide +kernel
theorem d_pl_add_29 : decode b_pl_add 29 = .ok (.putfield 15, 3) := by decide +kernel
theorem d_pl_add_32 : decode b_pl_add 32 = .ok (.ireturn, 1) := by decide +kernel
theorem d_pl_has_0 : decode b_pl_has 0 = .ok (.iload_n 1, 1) := by decide +kernel
theorem d_pl_has_1 : decode b_pl_has 1 = .ok (.ifCond .lt 15, 3) := by decide +kernel
theorem d_pl_has_4 : decode b_pl_has 4 = .ok (.iload_n 1, 1) := by decide +kernel
theorem d_pl_has_5 : decode b_pl_has 5 = .ok (.aload_n 0, 1) := by decide +kernel
theorem d_pl_has_6 : decode b_pl_has 6 = .ok (.getfield 15, 3) := by decide +kernel
theorem d_pl_has_9 : decode b_pl_has 9 = .ok (.if_icmp .ge 7, 3) := by decide +kernel
theorem d_pl_has_12 : decode b_pl_has 12 = .ok (.iconst 1, 1) := by decide +kernel
theorem d_pl_has_13 : decode b_pl_has 13 = .ok (.goto 4, 3) := by decide +kernel
theorem d_pl_has_16 : decode b_pl_has 16 = .ok (.iconst 0, 1) := by decide +kernel
theorem d_pl_has_17 : decode b_pl_has 17 = .ok (.ireturn, 1) := by decide +kernel
theorem d_ro_add_0 : decode b_ro_add 0 = .ok (.aload_n 0, 1) := by decide +kernel
theorem d_ro_add_1 : decode b_ro_add 1 = .ok (.getfield 37, 3) := by decide +kernel
theorem d_ro_add_4 : decode b_ro_add 4 = .ok (.bipush 40, 2) := by decide +kernel
theorem d_ro_add_6 : decode b_ro_add 6 = .ok (.if_icmp .ne 5, 3) := by decide +kernel
theorem d_ro_add_9 : decode b_ro_add 9 = .ok (.iconst (-1), 1) := by decide +kernel
theorem d_ro_add_10 : decode b_ro_add 10 = .ok (.ireturn, 1) := by decide +kernel
theorem d_ro_add_11 : decode b_ro_add 11 = .ok (.aload_n 0, 1) := by decide +kernel
theorem d_ro_add_12 : decode b_ro_add 12 = .ok (.getfield 9, 3) := by decide +kernel
theorem d_ro_add_15 : decode b_ro_add 15 = .ok (.aload_n 0, 1) := by decide +kernel
theorem d_ro_add_16 : decode b_ro_add 16 = .ok (.getfield 37, 3) := by decide +kernel
theorem d_ro_add_19 : decode b_ro_add 19 = .ok (.iload_n 1, 1) := by decide +kernel
theorem d_ro_add_20 : decode b_ro_add 20 = .ok (.iastore, 1) := by decide +kernel
theorem d_ro_add_21 : decode b_ro_add 21 = .ok (.aload_n 0, 1) := by decide +kernel
theorem d_ro_add_22 : decode b_ro_add 22 = .ok (.getfield 15, 3) := by decide +kernel
theorem d_ro_add_25 : decode b_ro_add 25 = .ok (.aload_n 0, 1) := by decide +kernel
theorem d_ro_add_26 : decode b_ro_add 26 = .ok (.getfield 37, 3) := by decide +kernel
theorem d_ro_add_29 : decode b_ro_add 29 = .ok (.iload_n 2, 1) := by decide +kernel
theorem d_ro_add_30 : decode b_ro_add 30 = .ok (.iastore, 1) := by decide +kernel
theorem d_ro_add_31 : decode b_ro_add 31 = .ok (.aload_n 0, 1) := by decide +kernel
theorem d_ro_add_32 : decode b_ro_add 32 = .ok (.getfield 18, 3) := by decide +kernel
theorem d_ro_add_35 : decode b_ro_add 35 = .ok (.aload_n 0, 1) := by decide +kernel
theorem d_ro_add_36 : decode b_ro_add 36 = .ok (.getfield 37, 3) := by decide +kernel
theorem d_ro_add_39 : decode b_ro_add 39 = .ok (.iload_n 3, 1) := by decide +kernel
theorem d_ro_add_40 : decode b_ro_add 40 = .ok (.iastore, 1) := by decide +kernel
theorem d_ro_add_41 : decode b_ro_add 41 = .ok (.aload_n 0, 1) := by decide +kernel
theorem d_ro_add_42 : decode b_ro_add 42 = .ok (.getfield 21, 3) := by decide +kernel
theorem d_ro_add_45 : decode b_ro_add 45 = .ok (.aload_n 0, 1) := by decide +kernel
theorem d_ro_add_46 : decode b_ro_add 46 = .ok (.getfield 37, 3) := by decide +kernel
theorem d_ro_add_49 : decode b_ro_add 49 = .ok (.iload 4, 2) := by decide +kernel
theorem d_ro_add_51 : decode b_ro_add 51 = .ok (.iastore, 1) := by decide +kernel
theorem d_ro_add_52 : decode b_ro_add 52 = .ok (.aload_n 0, 1) := by decide +kernel
theorem d_ro_add_53 : decode b_ro_add 53 = .ok (.getfield 24, 3) := by decide +kernel
theorem d_ro_add_56 : decode b_ro_add 56 = .ok (.aload_n 0, 1) := by decide +kernel
theorem d_ro_add_57 : decode b_ro_add 57 = .ok (.getfield 37, 3) := by decide +kernel
theorem d_ro_add_60 : decode b_ro_add 60 = .ok (.iload 5, 2) := by decide +kernel
theorem d_ro_add_62 : decode b_ro_add 62 = .ok (.iastore, 1) := by decide +kernel
theorem d_ro_add_63 : decode b_ro_add 63 = .ok (.aload_n 0, 1) := by decide +kernel
theorem d_ro_add_64 : decode b_ro_add 64 = .ok (.getfield 27, 3) := by decide +kernel
theorem d_ro_add_67 : decode b_ro_add 67 = .ok (.aload_n 0, 1) := by decide +kernel
theorem d_ro_add_68 : decode b_ro_add 68 = .ok (.getfield 37, 3) := by decide +kernel
theorem d_ro_add_71 : decode b_ro_add 71 = .ok (.iconst (-1), 1) := by decide +kernel
theorem d_ro_add_72 : decode b_ro_add 72 = .ok (.iastore, 1) := by decide +kernel
theorem d_ro_add_73 : decode b_ro_add 73 = .ok (.aload_n 0, 1) := by decide +kernel
theorem d_ro_add_74 : decode b_ro_add 74 = .ok (.dup, 1) := by decide +kernel
theorem d_ro_add_75 : decode b_ro_add 75 = .ok (.getfield 37, 3) := by decide +kernel
theorem d_ro_add_78 : decode b_ro_add 78 = .ok (.dup_x1, 1) := by decide +kernel
theorem d_ro_add_79 : decode b_ro_add 79 = .ok (.iconst 1, 1) := by decide +kernel
theorem d_ro_add_80 : decode b_ro_add 80 = .ok (.iadd, 1) := by decide +kernel
theorem d_ro_add_81 : decode b_ro_add 81 = .ok (.putfield 37, 3) := by decide +kernel
theorem d_ro_add_84 : decode b_ro_add 84 = .ok (.ireturn, 1) := by decide +kernel
theorem d_ro_has_0 : decode b_ro_has 0 = .ok (.iload_n 1, 1) := by decide +kernel
theorem d_ro_has_1 : decode b_ro_has 1 = .ok (.ifCond .lt 15, 3) := by decide +kernel
theorem d_ro_has_4 : decode b_ro_has 4 = .ok (.iload_n 1, 1) := by decide +kernel
theorem d_ro_has_5 : decode b_ro_has 5 = .ok (.aload_n 0, 1) := by decide +kernel
theorem d_ro_has_6 : decode b_ro_has 6 = .ok (.getfield 37, 3) := by decide +kernel
theorem d_ro_has_9 : decode b_ro_has 9 = .ok (.if_icmp .ge 7, 3) := by decide +kernel
theorem d_ro_has_12 : decode b_ro_has 12 = .ok (.iconst 1, 1) := by decide +kernel
theorem d_ro_has_13 : decode b_ro_has 13 = .ok (.goto 4, 3) := by decide +kernel
theorem d_ro_has_16 : decode b_ro_has 16 = .ok (.iconst 0, 1) := by decide +kernel
theorem d_ro_has_17 : decode b_ro_has 17 = .ok (.ireturn, 1) := by decide +kernel
theorem d_lo_add_0 : decode b_lo_add 0 = .ok (.aload_n 0, 1) := by decide +kernel
theorem d_lo_add_1 : decode b_lo_add 1 = .ok (.getfield 18, 3) := by decide +kernel
theorem d_lo_add_4 : decode b_lo_add 4 = .ok (.bipush 60, 2) := by decide +kernel
theorem d_lo_add_6 : decode b_lo_add 6 = .ok (.if_icmp .eq 13, 3) := by decide +kernel
theorem d_lo_add_9 : decode b_lo_add 9 = .ok (.aload_n 0, 1) := by decide +kernel
theorem d_lo_add_10 : decode b_lo_add 10 = .ok (.iload_n 1, 1) := by decide +kernel
theorem d_lo_add_11 : decode b_lo_add 11 = .ok (.iload_n 2, 1) := by decide +kernel
theorem d_lo_add_12 : decode b_lo_add 12 = .ok (.invokevirtual 22, 3) := by decide +kernel
theorem d_lo_add_15 : decode b_lo_add 15 = .ok (.iconst (-1), 1) := by decide +kernel
theorem d_lo_add_16 : decode b_lo_add 16 = .ok (.if_icmp .eq 5, 3) := by decide +kernel
theorem d_lo_add_19 : decode b_lo_add 19 = .ok (.iconst 0, 1) := by decide +kernel
theorem d_lo_add_20 : decode b_lo_add 20 = .ok (.ireturn, 1) := by decide +kernel
theorem d_lo_add_21 : decode b_lo_add 21 = .ok (.aload_n 0, 1) := by decide +kernel
theorem d_lo_add_22 : decode b_lo_add 22 = .ok (.getfield 9, 3) := by decide +kernel
theorem d_lo_add_25 : decode b_lo_add 25 = .ok (.aload_n 0, 1) := by decide +kernel
theorem d_lo_add_26 : decode b_lo_add 26 = .ok (.getfield 18, 3) := by decide +kernel
theorem d_lo_add_29 : decode b_lo_add 29 = .ok (.iload_n 1, 1) := by decide +kernel
theorem d_lo_add_30 : decode b_lo_add 30 = .ok (.iastore, 1) := by decide +kernel
theorem d_lo_add_31 : decode b_lo_add 31 = .ok (.aload_n 0, 1) := by decide +kernel
theorem d_lo_add_32 : decode b_lo_add 32 = .ok (.getfield 15, 3) := by decide +kernel
theorem d_lo_add_35 : decode b_lo_add 35 = .ok (.aload_n 0, 1) := by decide +kernel
theorem d_lo_add_36 : decode b_lo_add 36 = .ok (.getfield 18, 3) := by decide +kernel
theorem d_lo_add_39 : decode b_lo_add 39 = .ok (.iload_n 2, 1) := by decide +kernel
theorem d_lo_add_40 : decode b_lo_add 40 = .ok (.iastore, 1) := by decide +kernel
theorem d_lo_add_41 : decode b_lo_add 41 = .ok (.aload_n 0, 1) := by decide +kernel
theorem d_lo_add_42 : decode b_lo_add 42 = .ok (.dup, 1) := by decide +kernel
theorem d_lo_add_43 : decode b_lo_add 43 = .ok (.getfield 18, 3) := by decide +kernel
theorem d_lo_add_46 : decode b_lo_add 46 = .ok (.iconst 1, 1) := by decide +kernel
theorem d_lo_add_47 : decode b_lo_add 47 = .ok (.iadd, 1) := by decide +kernel
theorem d_lo_add_48 : decode b_lo_add 48 = .ok (.putfield 18, 3) := by decide +kernel
theorem d_lo_add_51 : decode b_lo_add 51 = .ok (.iconst 1, 1) := by decide +kernel
theorem d_lo_add_52 : decode b_lo_add 52 = .ok (.ireturn, 1) := by decide +kernel
theorem d_lo_find_0 : decode b_lo_find 0 = .ok (.iconst 0, 1) := by decide +kernel
theorem d_lo_find_1 : decode b_lo_find 1 = .ok (.istore_n 3, 1) := by decide +kernel
theorem d_lo_find_2 : decode b_lo_find 2 = .ok (.iload_n 3, 1) := by decide +kernel
theorem d_lo_find_3 : decode b_lo_find 3 = .ok (.aload_n 0, 1) := by decide +kernel
theorem d_lo_find_4 : decode b_lo_find 4 = .ok (.getfield 18, 3) := by decide +kernel
theorem d_lo_find_7 : decode b_lo_find 7 = .ok (.if_icmp .ge 31, 3) := by decide +kernel
theorem d_lo_find_10 : decode b_lo_find 10 = .ok (.aload_n 0, 1) := by decide +kernel
theorem d_lo_find_11 : decode b_lo_find 11 = .ok (.getfield 9, 3) := by decide +kernel
theorem d_lo_find_14 : decode b_lo_find 14 = .ok (.iload_n 3, 1) := by decide +kernel
theorem d_lo_find_15 : decode b_lo_find 15 = .ok (.iaload, 1) := by decide +kernel
theorem d_lo_find_16 : decode b_lo_find 16 = .ok (.iload_n 1, 1) := by decide +kernel
theorem d_lo_find_17 : decode b_lo_find 17 = .ok (.if_icmp .ne 15, 3) := by decide +kernel
theorem d_lo_find_20 : decode b_lo_find 20 = .ok (.aload_n 0, 1) := by decide +kernel
theorem d_lo_find_21 : decode b_lo_find 21 = .ok (.getfield 15, 3) := by decide +kernel
theorem d_lo_find_24 : decode b_lo_find 24 = .ok (.iload_n 3, 1) := by decide +kernel
theorem d_lo_find_25 : decode b_lo_find 25 = .ok (.iaload, 1) := by decide +kernel
theorem d_lo_find_26 : decode b_lo_find 26 = .ok (.iload_n 2, 1) := by decide +kernel
theorem d_lo_find_27 : decode b_lo_find 27 = .ok (.if_icmp .ne 5, 3) := by decide +kernel
theorem d_lo_find_30 : decode b_lo_find 30 = .ok (.iload_n 3, 1) := by decide +kernel
theorem d_lo_find_31 : decode b_lo_find 31 = .ok (.ireturn, 1) := by decide +kernel
theorem d_lo_find_32 : decode b_lo_find 32 = .ok (.iinc 3 1, 3) := by decide +kernel
theorem d_lo_find_35 : decode b_lo_find 35 = .ok (.goto (-33), 3) := by decide +kernel
theorem d_lo_find_38 : decode b_lo_find 38 = .ok (.iconst (-1), 1) := by decide +kernel
theorem d_lo_find_39 : decode b_lo_find 39 = .ok (.ireturn, 1) := by decide +kernel
theorem d_lo_remove_0 : decode b_lo_remove 0 = .ok (.aload_n 0, 1) := by decide +kernel
theorem d_lo_remove_1 : decode b_lo_remove 1 = .ok (.iload_n 1, 1) := by decide +kernel
theorem d_lo_remove_2 : decode b_lo_remove 2 = .ok (.iload_n 2, 1) := by decide +kernel
theorem d_lo_remove_3 : decode b_lo_remove 3 = .ok (.invokevirtual 22, 3) := by decide +kernel
theorem d_lo_remove_6 : decode b_lo_remove 6 = .ok (.istore_n 3, 1) := by decide +kernel
theorem d_lo_remove_7 : decode b_lo_remove 7 = .ok (.iload_n 3, 1) := by decide +kernel
theorem d_lo_remove_8 : decode b_lo_remove 8 = .ok (.iconst (-1), 1) := by decide +kernel
theorem d_lo_remove_9 : decode b_lo_remove 9 = .ok (.if_icmp .ne 5, 3) := by decide +kernel
theorem d_lo_remove_12 : decode b_lo_remove 12 = .ok (.iconst 0, 1) := by decide +kernel
theorem d_lo_remove_13 : decode b_lo_remove 13 = .ok (.ireturn, 1) := by decide +kernel
theorem d_lo_remove_14 : decode b_lo_remove 14 = .ok (.aload_n 0, 1) := by decide +kernel
theorem d_lo_remove_15 : decode b_lo_remove 15 = .ok (.dup, 1) := by decide +kernel
theorem d_lo_remove_16 : decode b_lo_remove 16 = .ok (.getfield 18, 3) := by decide +kernel
theorem d_lo_remove_19 : decode b_lo_remove 19 = .ok (.iconst 1, 1) := by decide +kernel
theorem d_lo_remove_20 : decode b_lo_remove 20 = .ok (.isub, 1) := by decide +kernel
theorem d_lo_remove_21 : decode b_lo_remove 21 = .ok (.putfield 18, 3) := by decide +kernel
theorem d_lo_remove_24 : decode b_lo_remove 24 = .ok (.aload_n 0, 1) := by decide +kernel
theorem d_lo_remove_25 : decode b_lo_remove 25 = .ok (.getfield 9, 3) := by decide +kernel
theorem d_lo_remove_28 : decode b_lo_remove 28 = .ok (.iload_n 3, 1) := by decide +kernel
theorem d_lo_remove_29 : decode b_lo_remove 29 = .ok (.aload_n 0, 1) := by decide +kernel
theorem d_lo_remove_30 : decode b_lo_remove 30 = .ok (.getfield 9, 3) := by decide +kernel
theorem d_lo_remove_33 : decode b_lo_remove 33 = .ok (.aload_n 0, 1) := by decide +kernel
theorem d_lo_remove_34 : decode b_lo_remove 34 = .ok (.getfield 18, 3) := by decide +kernel
theorem d_lo_remove_37 : decode b_lo_remove 37 = .ok (.iaload, 1) := by decide +kernel
theorem d_lo_remove_38 : decode b_lo_remove 38 = .ok (.iastore, 1) := by decide +kernel
theorem d_lo_remove_39 : decode b_lo_remove 39 = .ok (.aload_n 0, 1) := by decide +kernel
theorem d_lo_remove_40 : decode b_lo_remove 40 = .ok (.getfield 15, 3) := by decide +kernel
theorem d_lo_remove_43 : decode b_lo_remove 43 = .ok (.iload_n 3, 1) := by decide +kernel
theorem d_lo_remove_44 : decode b_lo_remove 44 = .ok (.aload_n 0, 1) := by decide +kernel
theorem d_lo_remove_45 : decode b_lo_remove 45 = .ok (.getfield 15, 3) := by decide +kernel
theorem d_lo_remove_48 : decode b_lo_remove 48 = .ok (.aload_n 0, 1) := by decide +kernel
theorem d_lo_remove_49 : decode b_lo_remove 49 = .ok (.getfield 18, 3) := by decide +kernel
theorem d_lo_remove_52 : decode b_lo_remove 52 = .ok (.iaload, 1) := by decide +kernel
theorem d_lo_remove_53 : decode b_lo_remove 53 = .ok (.iastore, 1) := by decide +kernel
theorem d_lo_remove_54 : decode b_lo_remove 54 = .ok (.iconst 1, 1) := by decide +kernel
theorem d_lo_remove_55 : decode b_lo_remove 55 = .ok (.ireturn, 1) := by decide +kernel
theorem d_cp_add_0 : decode b_cp_add 0 = .ok (.aload_n 0, 1) := by decide +kernel
theorem d_cp_add_1 : decode b_cp_add 1 = .ok (.getfield 28, 3) := by decide +kernel
theorem d_cp_add_4 : decode b_cp_add 4 = .ok (.bipush 60, 2) := by decide +kernel
theorem d_cp_add_6 : decode b_cp_add 6 = .ok (.if_icmp .ne 5, 3) := by decide +kernel
theorem d_cp_add_9 : decode b_cp_add 9 = .ok (.iconst 0, 1) := by decide +kernel
theorem d_cp_add_10 : decode b_cp_add 10 = .ok (.ireturn, 1) := by decide +kernel
theorem d_cp_add_11 : decode b_cp_add 11 = .ok (.aload_n 0, 1) := by decide +kernel
theorem d_cp_add_12 : decode b_cp_add 12 = .ok (.dup, 1) := by decide +kernel
theorem d_cp_add_13 : decode b_cp_add 13 = .ok (.getfield 28, 3) := by decide +kernel
theorem d_cp_add_16 : decode b_cp_add 16 = .ok (.iconst 1, 1) := by decide +kernel
theorem d_cp_add_17 : decode b_cp_add 17 = .ok (.iadd, 1) := by decide +kernel
theorem d_cp_add_18 : decode b_cp_add 18 = .ok (.putfield 28, 3) := by decide +kernel
theorem d_cp_add_21 : decode b_cp_add 21 = .ok (.aload_n 0, 1) := by decide +kernel
theorem d_cp_add_22 : decode b_cp_add 22 = .ok (.getfield 9, 3) := by decide +kernel
theorem d_cp_add_25 : decode b_cp_add 25 = .ok (.aload_n 0, 1) := by decide +kernel
theorem d_cp_add_26 : decode b_cp_add 26 = .ok (.getfield 28, 3) := by decide +kernel
theorem d_cp_add_29 : decode b_cp_add 29 = .ok (.iload_n 1, 1) := by decide +kernel
theorem d_cp_add_30 : decode b_cp_add 30 = .ok (.iastore, 1) := by decide +kernel
theorem d_cp_add_31 : decode b_cp_add 31 = .ok (.aload_n 0, 1) := by decide +kernel
theorem d_cp_add_32 : decode b_cp_add 32 = .ok (.getfield 15, 3) := by decide +kernel
theorem d_cp_add_35 : decode b_cp_add 35 = .ok (.aload_n 0, 1) := by decide +kernel
theorem d_cp_add_36 : decode b_cp_add 36 = .ok (.getfield 28, 3) := by decide +kernel
theorem d_cp_add_39 : decode b_cp_add 39 = .ok (.iload_n 1, 1) := by decide +kernel
theorem d_cp_add_40 : decode b_cp_add 40 = .ok (.iastore, 1) := by decide +kernel
theorem d_cp_add_41 : decode b_cp_add 41 = .ok (.aload_n 0, 1) := by decide +kernel
theorem d_cp_add_42 : decode b_cp_add 42 = .ok (.getfield 28, 3) := by decide +kernel
theorem d_cp_add_45 : decode b_cp_add 45 = .ok (.ireturn, 1) := by decide +kernel
theorem d_cp_has_0 : decode b_cp_has 0 = .ok (.iload_n 1, 1) := by decide +kernel
theorem d_cp_has_1 : decode b_cp_has 1 = .ok (.iconst 1, 1) := by decide +kernel
theorem d_cp_has_2 : decode b_cp_has 2 = .ok (.if_icmp .lt 15, 3) := by decide +kernel
theorem d_cp_has_5 : decode b_cp_has 5 = .ok (.iload_n 1, 1) := by decide +kernel
theorem d_cp_has_6 : decode b_cp_has 6 = .ok (.aload_n 0, 1) := by decide +kernel
theorem d_cp_has_7 : decode b_cp_has 7 = .ok (.getfield 28, 3) := by decide +kernel
theorem d_cp_has_10 : decode b_cp_has 10 = .ok (.if_icmp .gt 7, 3) := by decide +kernel
theorem d_cp_has_13 : decode b_cp_has 13 = .ok (.iconst 1, 1) := by decide +kernel
theorem d_cp_has_14 : decode b_cp_has 14 = .ok (.goto 4, 3) := by decide +kernel
theorem d_cp_has_17 : decode b_cp_has 17 = .ok (.iconst 0, 1) := by decide +kernel
theorem d_cp_has_18 : decode b_cp_has 18 = .ok (.ireturn, 1) := by decide +kernel
theorem d_ro_findQuickest_0 : decode b_ro_findQuickest 0 = .ok (.iconst (-1), 1) := by decide +kernel
theorem d_ro_findQuickest_1 : decode b_ro_findQuickest 1 = .ok (.istore 4, 2) := by decide +kernel
theorem d_ro_findQuickest_3 : decode b_ro_findQuickest 3 = .ok (.iconst 0, 1) := by decide +kernel
theorem d_ro_findQuickest_4 : decode b_ro_findQuickest 4 = .ok (.istore 5, 2) := by decide +kernel
theorem d_ro_findQuickest_6 : decode b_ro_findQuickest 6 = .ok (.iconst 0, 1) := by decide +kernel
theorem d_ro_findQuickest_7 : decode b_ro_findQuickest 7 = .ok (.istore 6, 2) := by decide +kernel
theorem d_ro_findQuickest_9 : decode b_ro_findQuickest 9 = .ok (.iload 6, 2) := by decide +kernel
theorem d_ro_findQuickest_11 : decode b_ro_findQuickest 11 = .ok (.aload_n 0, 1) := by decide +kernel
theorem d_ro_findQuickest_12 : decode b_ro_findQuickest 12 = .ok (.getfield 37, 3) := by decide +kernel
theorem d_ro_findQuickest_15 : decode b_ro_findQuickest 15 = .ok (.if_icmp .ge 76, 3) := by decide +kernel
theorem d_ro_findQuickest_18 : decode b_ro_findQuickest 18 = .ok (.aload_n 0, 1) := by decide +kernel
theorem d_ro_findQuickest_19 : decode b_ro_findQuickest 19 = .ok (.iload 6, 2) := by decide +kernel
theorem d_ro_findQuickest_21 : decode b_ro_findQuickest 21 = .ok (.iload_n 1, 1) := by decide +kernel
theorem d_ro_findQuickest_22 : decode b_ro_findQuickest 22 = .ok (.iload_n 2, 1) := by decide +kernel
theorem d_ro_findQuickest_23 : decode b_ro_findQuickest 23 = .ok (.invokevirtual 50, 3) := by decide +kernel
theorem d_ro_findQuickest_26 : decode b_ro_findQuickest 26 = .ok (.ifCond .eq 13, 3) := by decide +kernel
theorem d_ro_findQuickest_29 : decode b_ro_findQuickest 29 = .ok (.aload_n 0, 1) := by decide +kernel
theorem d_ro_findQuickest_30 : decode b_ro_findQuickest 30 = .ok (.iload 6, 2) := by decide +kernel
theorem d_ro_findQuickest_32 : decode b_ro_findQuickest 32 = .ok (.iload_n 3, 1) := by decide +kernel
theorem d_ro_findQuickest_33 : decode b_ro_findQuickest 33 = .ok (.invokevirtual 54, 3) := by decide +kernel
theorem d_ro_findQuickest_36 : decode b_ro_findQuickest 36 = .ok (.goto 4, 3) := by decide +kernel
theorem d_ro_findQuickest_39 : decode b_ro_findQuickest 39 = .ok (.iconst (-1), 1) := by decide +kernel
theorem d_ro_findQuickest_40 : decode b_ro_findQuickest 40 = .ok (.istore 7, 2) := by decide +kernel
theorem d_ro_findQuickest_42 : decode b_ro_findQuickest 42 = .ok (.iload 7, 2) := by decide +kernel
theorem d_ro_findQuickest_44 : decode b_ro_findQuickest 44 = .ok (.iconst (-1), 1) := by decide +kernel
theorem d_ro_findQuickest_45 : decode b_ro_findQuickest 45 = .ok (.if_icmp .eq 40, 3) := by decide +kernel
theorem d_ro_findQuickest_48 : decode b_ro_findQuickest 48 = .ok (.iload 4, 2) := by decide +kernel
theorem d_ro_findQuickest_50 : decode b_ro_findQuickest 50 = .ok (.iconst (-1), 1) := by decide +kernel
theorem d_ro_findQuickest_51 : decode b_ro_findQuickest 51 = .ok (.if_icmp .eq 18, 3) := by decide +kernel
theorem d_ro_findQuickest_54 : decode b_ro_findQuickest 54 = .ok (.iload 7, 2) := by decide +kernel
theorem d_ro_findQuickest_56 : decode b_ro_findQuickest 56 = .ok (.aload_n 0, 1) := by decide +kernel
theorem d_ro_findQuickest_57 : decode b_ro_findQuickest 57 = .ok (.getfield 21, 3) := by decide +kernel
theorem d_ro_findQuickest_60 : decode b_ro_findQuickest 60 = .ok (.iload 6, 2) := by decide +kernel
theorem d_ro_findQuickest_62 : decode b_ro_findQuickest 62 = .ok (.iaload, 1) := by decide +kernel
theorem d_ro_findQuickest_63 : decode b_ro_findQuickest 63 = .ok (.iadd, 1) := by decide +kernel
theorem d_ro_findQuickest_64 : decode b_ro_findQuickest 64 = .ok (.iload 5, 2) := by decide +kernel
theorem d_ro_findQuickest_66 : decode b_ro_findQuickest 66 = .ok (.if_icmp .ge 19, 3) := by decide +kernel
theorem d_ro_findQuickest_69 : decode b_ro_findQuickest 69 = .ok (.iload 6, 2) := by decide +kernel
theorem d_ro_findQuickest_71 : decode b_ro_findQuickest 71 = .ok (.istore 4, 2) := by decide +kernel
theorem d_ro_findQuickest_73 : decode b_ro_findQuickest 73 = .ok (.iload 7, 2) := by decide +kernel
theorem d_ro_findQuickest_75 : decode b_ro_findQuickest 75 = .ok (.aload_n 0, 1) := by decide +kernel
theorem d_ro_findQuickest_76 : decode b_ro_findQuickest 76 = .ok (.getfield 21, 3) := by decide +kernel
theorem d_ro_findQuickest_79 : decode b_ro_findQuickest 79 = .ok (.iload 6, 2) := by decide +kernel
theorem d_ro_findQuickest_81 : decode b_ro_findQuickest 81 = .ok (.iaload, 1) := by decide +kernel
theorem d_ro_findQuickest_82 : decode b_ro_findQuickest 82 = .ok (.iadd, 1) := by decide +kernel
theorem d_ro_findQuickest_83 : decode b_ro_findQuickest 83 = .ok (.istore 5, 2) := by decide +kernel
theorem d_ro_findQuickest_85 : decode b_ro_findQuickest 85 = .ok (.iinc 6 1, 3) := by decide +kernel
theorem d_ro_findQuickest_88 : decode b_ro_findQuickest 88 = .ok (.goto (-79), 3) := by decide +kernel
theorem d_ro_findQuickest_91 : decode b_ro_findQuickest 91 = .ok (.iload 4, 2) := by decide +kernel
theorem d_ro_findQuickest_93 : decode b_ro_findQuickest 93 = .ok (.ireturn, 1) := by decide +kernel
theorem d_ro_joins_0 : decode b_ro_joins 0 = .ok (.aload_n 0, 1) := by decide +kernel
theorem d_ro_joins_1 : decode b_ro_joins 1 = .ok (.getfield 9, 3) := by decide +kernel
theorem d_ro_joins_4 : decode b_ro_joins 4 = .ok (.iload_n 1, 1) := by decide +kernel
theorem d_ro_joins_5 : decode b_ro_joins 5 = .ok (.iaload, 1) := by decide +kernel
theorem d_ro_joins_6 : decode b_ro_joins 6 = .ok (.iload_n 2, 1) := by decide +kernel
theorem d_ro_joins_7 : decode b_ro_joins 7 = .ok (.if_icmp .ne 17, 3) := by decide +kernel
theorem d_ro_joins_10 : decode b_ro_joins 10 = .ok (.aload_n 0, 1) := by decide +kernel
theorem d_ro_joins_11 : decode b_ro_joins 11 = .ok (.getfield 15, 3) := by decide +kernel
theorem d_ro_joins_14 : decode b_ro_joins 14 = .ok (.iload_n 1, 1) := by decide +kernel
theorem d_ro_joins_15 : decode b_ro_joins 15 = .ok (.iaload, 1) := by decide +kernel
theorem d_ro_joins_16 : decode b_ro_joins 16 = .ok (.iload_n 3, 1) := by decide +kernel
theorem d_ro_joins_17 : decode b_ro_joins 17 = .ok (.if_icmp .ne 7, 3) := by decide +kernel
theorem d_ro_joins_20 : decode b_ro_joins 20 = .ok (.iconst 1, 1) := by decide +kernel
theorem d_ro_joins_21 : decode b_ro_joins 21 = .ok (.goto 4, 3) := by decide +kernel
theorem d_ro_joins_24 : decode b_ro_joins 24 = .ok (.iconst 0, 1) := by decide +kernel
theorem d_ro_joins_25 : decode b_ro_joins 25 = .ok (.ireturn, 1) := by decide +kernel
theorem d_ro_firstRun_0 : decode b_ro_firstRun 0 = .ok (.iload_n 2, 1) := by decide +kernel
theorem d_ro_firstRun_1 : decode b_ro_firstRun 1 = .ok (.istore_n 3, 1) := by decide +kernel
theorem d_ro_firstRun_2 : decode b_ro_firstRun 2 = .ok (.iload_n 3, 1) := by decide +kernel
theorem d_ro_firstRun_3 : decode b_ro_firstRun 3 = .ok (.ldc 45, 2) := by decide +kernel
theorem d_ro_firstRun_5 : decode b_ro_firstRun 5 = .ok (.if_icmp .gt 20, 3) := by decide +kernel
theorem d_ro_firstRun_8 : decode b_ro_firstRun 8 = .ok (.aload_n 0, 1) := by decide +kernel
theorem d_ro_firstRun_9 : decode b_ro_firstRun 9 = .ok (.iload_n 1, 1) := by decide +kernel
theorem d_ro_firstRun_10 : decode b_ro_firstRun 10 = .ok (.iload_n 3, 1) := by decide +kernel
theorem d_ro_firstRun_11 : decode b_ro_firstRun 11 = .ok (.invokevirtual 46, 3) := by decide +kernel
theorem d_ro_firstRun_14 : decode b_ro_firstRun 14 = .ok (.ifCond .eq 5, 3) := by decide +kernel
theorem d_ro_firstRun_17 : decode b_ro_firstRun 17 = .ok (.iload_n 3, 1) := by decide +kernel
theorem d_ro_firstRun_18 : decode b_ro_firstRun 18 = .ok (.ireturn, 1) := by decide +kernel
theorem d_ro_firstRun_19 : decode b_ro_firstRun 19 = .ok (.iinc 3 1, 3) := by decide +kernel
theorem d_ro_firstRun_22 : decode b_ro_firstRun 22 = .ok (.goto (-20), 3) := by decide +kernel
theorem d_ro_firstRun_25 : decode b_ro_firstRun 25 = .ok (.iconst (-1), 1) := by decide +kernel
theorem d_ro_firstRun_26 : decode b_ro_firstRun 26 = .ok (.ireturn, 1) := by decide +kernel
theorem d_ro_runsOn_0 : decode b_ro_runsOn 0 = .ok (.aload_n 0, 1) := by decide +kernel
theorem d_ro_runsOn_1 : decode b_ro_runsOn 1 = .ok (.getfield 18, 3) := by decide +kernel
theorem d_ro_runsOn_4 : decode b_ro_runsOn 4 = .ok (.iload_n 1, 1) := by decide +kernel
theorem d_ro_runsOn_5 : decode b_ro_runsOn 5 = .ok (.iaload, 1) := by decide +kernel
theorem d_ro_runsOn_6 : decode b_ro_runsOn 6 = .ok (.iload_n 2, 1) := by decide +kernel
theorem d_ro_runsOn_7 : decode b_ro_runsOn 7 = .ok (.bipush 7, 2) := by decide +kernel
theorem d_ro_runsOn_9 : decode b_ro_runsOn 9 = .ok (.irem, 1) := by decide +kernel
theorem d_ro_runsOn_10 : decode b_ro_runsOn 10 = .ok (.ishr, 1) := by decide +kernel
theorem d_ro_runsOn_11 : decode b_ro_runsOn 11 = .ok (.iconst 1, 1) := by decide +kernel
theorem d_ro_runsOn_12 : decode b_ro_runsOn 12 = .ok (.iand, 1) := by decide +kernel
theorem d_ro_runsOn_13 : decode b_ro_runsOn 13 = .ok (.iconst 1, 1) := by decide +kernel
theorem d_ro_runsOn_14 : decode b_ro_runsOn 14 = .ok (.if_icmp .ne 7, 3) := by decide +kernel
theorem d_ro_runsOn_17 : decode b_ro_runsOn 17 = .ok (.iconst 1, 1) := by decide +kernel
theorem d_ro_runsOn_18 : decode b_ro_runsOn 18 = .ok (.goto 4, 3) := by decide +kernel
theorem d_ro_runsOn_21 : decode b_ro_runsOn 21 = .ok (.iconst 0, 1) := by decide +kernel
theorem d_ro_runsOn_22 : decode b_ro_runsOn 22 = .ok (.istore_n 3, 1) := by decide +kernel
theorem d_ro_runsOn_23 : decode b_ro_runsOn 23 = .ok (.iload_n 3, 1) := by decide +kernel
theorem d_ro_runsOn_24 : decode b_ro_runsOn 24 = .ok (.ifCond .eq 20, 3) := by decide +kernel
theorem d_ro_runsOn_27 : decode b_ro_runsOn 27 = .ok (.aload_n 0, 1) := by decide +kernel
theorem d_ro_runsOn_28 : decode b_ro_runsOn 28 = .ok (.getfield 33, 3) := by decide +kernel
theorem d_ro_runsOn_31 : decode b_ro_runsOn 31 = .ok (.iload_n 1, 1) := by decide +kernel
theorem d_ro_runsOn_32 : decode b_ro_runsOn 32 = .ok (.iload_n 2, 1) := by decide +kernel
theorem d_ro_runsOn_33 : decode b_ro_runsOn 33 = .ok (.invokevirtual 41, 3) := by decide +kernel
theorem d_ro_runsOn_36 : decode b_ro_runsOn 36 = .ok (.iconst (-1), 1) := by decide +kernel
theorem d_ro_runsOn_37 : decode b_ro_runsOn 37 = .ok (.if_icmp .ne 7, 3) := by decide +kernel
theorem d_ro_runsOn_40 : decode b_ro_runsOn 40 = .ok (.iconst 1, 1) := by decide +kernel
theorem d_ro_runsOn_41 : decode b_ro_runsOn 41 = .ok (.goto 4, 3) := by decide +kernel
theorem d_ro_runsOn_44 : decode b_ro_runsOn 44 = .ok (.iconst 0, 1) := by decide +kernel
theorem d_ro_runsOn_45 : decode b_ro_runsOn 45 = .ok (.ireturn, 1) := by decide +kernel
theorem d_sl_add_0 : decode b_sl_add 0 = .ok (.aload_n 0, 1) := by decide +kernel
theorem d_sl_add_1 : decode b_sl_add 1 = .ok (.dup, 1) := by decide +kernel
theorem d_sl_add_2 : decode b_sl_add 2 = .ok (.getfield 30, 3) := by decide +kernel
theorem d_sl_add_5 : decode b_sl_add 5 = .ok (.iconst 1, 1) := by decide +kernel
theorem d_sl_add_6 : decode b_sl_add 6 = .ok (.iadd, 1) := by decide +kernel
theorem d_sl_add_7 : decode b_sl_add 7 = .ok (.putfield 30, 3) := by decide +kernel
theorem d_sl_add_10 : decode b_sl_add 10 = .ok (.aload_n 0, 1) := by decide +kernel
theorem d_sl_add_11 : decode b_sl_add 11 = .ok (.getfield 9, 3) := by decide +kernel
theorem d_sl_add_14 : decode b_sl_add 14 = .ok (.aload_n 0, 1) := by decide +kernel
theorem d_sl_add_15 : decode b_sl_add 15 = .ok (.getfield 30, 3) := by decide +kernel
theorem d_sl_add_18 : decode b_sl_add 18 = .ok (.iload_n 1, 1) := by decide +kernel
theorem d_sl_add_19 : decode b_sl_add 19 = .ok (.iastore, 1) := by decide +kernel
theorem d_sl_add_20 : decode b_sl_add 20 = .ok (.aload_n 0, 1) := by decide +kernel
theorem d_sl_add_21 : decode b_sl_add 21 = .ok (.getfield 15, 3) := by decide +kernel
theorem d_sl_add_24 : decode b_sl_add 24 = .ok (.aload_n 0, 1) := by decide +kernel
theorem d_sl_add_25 : decode b_sl_add 25 = .ok (.getfield 30, 3) := by decide +kernel
theorem d_sl_add_28 : decode b_sl_add 28 = .ok (.iload_n 2, 1) := by decide +kernel
theorem d_sl_add_29 : decode b_sl_add 29 = .ok (.iastore, 1) := by decide +kernel
theorem d_sl_add_30 : decode b_sl_add 30 = .ok (.aload_n 0, 1) := by decide +kernel
theorem d_sl_add_31 : decode b_sl_add 31 = .ok (.getfield 18, 3) := by decide +kernel
theorem d_sl_add_34 : decode b_sl_add 34 = .ok (.aload_n 0, 1) := by decide +kernel
theorem d_sl_add_35 : decode b_sl_add 35 = .ok (.getfield 30, 3) := by decide +kernel
theorem d_sl_add_38 : decode b_sl_add 38 = .ok (.iconst 0, 1) := by decide +kernel
theorem d_sl_add_39 : decode b_sl_add 39 = .ok (.iastore, 1) := by decide +kernel
theorem d_sl_add_40 : decode b_sl_add 40 = .ok (.aload_n 0, 1) := by decide +kernel
theorem d_sl_add_41 : decode b_sl_add 41 = .ok (.getfield 21, 3) := by decide +kernel
theorem d_sl_add_44 : decode b_sl_add 44 = .ok (.aload_n 0, 1) := by decide +kernel
theorem d_sl_add_45 : decode b_sl_add 45 = .ok (.getfield 30, 3) := by decide +kernel
theorem d_sl_add_48 : decode b_sl_add 48 = .ok (.iload_n 3, 1) := by decide +kernel
theorem d_sl_add_49 : decode b_sl_add 49 = .ok (.iastore, 1) := by decide +kernel
theorem d_sl_add_50 : decode b_sl_add 50 = .ok (.aload_n 0, 1) := by decide +kernel
theorem d_sl_add_51 : decode b_sl_add 51 = .ok (.getfield 24, 3) := by decide +kernel
theorem d_sl_add_54 : decode b_sl_add 54 = .ok (.aload_n 0, 1) := by decide +kernel
theorem d_sl_add_55 : decode b_sl_add 55 = .ok (.getfield 30, 3) := by decide +kernel
theorem d_sl_add_58 : decode b_sl_add 58 = .ok (.iload 4, 2) := by decide +kernel
theorem d_sl_add_60 : decode b_sl_add 60 = .ok (.iastore, 1) := by decide +kernel
theorem d_sl_add_61 : decode b_sl_add 61 = .ok (.aload_n 0, 1) := by decide +kernel
theorem d_sl_add_62 : decode b_sl_add 62 = .ok (.getfield 27, 3) := by decide +kernel
theorem d_sl_add_65 : decode b_sl_add 65 = .ok (.aload_n 0, 1) := by decide +kernel
theorem d_sl_add_66 : decode b_sl_add 66 = .ok (.getfield 30, 3) := by decide +kernel
theorem d_sl_add_69 : decode b_sl_add 69 = .ok (.iconst (-1), 1) := by decide +kernel
theorem d_sl_add_70 : decode b_sl_add 70 = .ok (.iastore, 1) := by decide +kernel
theorem d_sl_add_71 : decode b_sl_add 71 = .ok (.aload_n 0, 1) := by decide +kernel
theorem d_sl_add_72 : decode b_sl_add 72 = .ok (.getfield 30, 3) := by decide +kernel
theorem d_sl_add_75 : decode b_sl_add 75 = .ok (.ireturn, 1) := by decide +kernel
theorem d_sl_has_0 : decode b_sl_has 0 = .ok (.iload_n 1, 1) := by decide +kernel
theorem d_sl_has_1 : decode b_sl_has 1 = .ok (.iconst 1, 1) := by decide +kernel
theorem d_sl_has_2 : decode b_sl_has 2 = .ok (.if_icmp .lt 15, 3) := by decide +kernel
theorem d_sl_has_5 : decode b_sl_has 5 = .ok (.iload_n 1, 1) := by decide +kernel
theorem d_sl_has_6 : decode b_sl_has 6 = .ok (.aload_n 0, 1) := by decide +kernel
theorem d_sl_has_7 : decode b_sl_has 7 = .ok (.getfield 30, 3) := by decide +kernel
theorem d_sl_has_10 : decode b_sl_has 10 = .ok (.if_icmp .gt 7, 3) := by decide +kernel
theorem d_sl_has_13 : decode b_sl_has 13 = .ok (.iconst 1, 1) := by decide +kernel
theorem d_sl_has_14 : decode b_sl_has 14 = .ok (.goto 4, 3) := by decide +kernel
theorem d_sl_has_17 : decode b_sl_has 17 = .ok (.iconst 0, 1) := by decide +kernel
theorem d_sl_has_18 : decode b_sl_has 18 = .ok (.ireturn, 1) := by decide +kernel
theorem d_ld_begin_0 : decode b_ld_begin 0 = .ok (.aload_n 0, 1) := by decide +kernel
theorem d_ld_begin_1 : decode b_ld_begin 1 = .ok (.dup, 1) := by decide +kernel
theorem d_ld_begin_2 : decode b_ld_begin 2 = .ok (.getfield 18, 3) := by decide +kernel
theorem d_ld_begin_5 : decode b_ld_begin 5 = .ok (.iconst 1, 1) := by decide +kernel
theorem d_ld_begin_6 : decode b_ld_begin 6 = .ok (.iadd, 1) := by decide +kernel
theorem d_ld_begin_7 : decode b_ld_begin 7 = .ok (.putfield 18, 3) := by decide +kernel
theorem d_ld_begin_10 : decode b_ld_begin 10 = .ok (.aload_n 0, 1) := by decide +kernel
theorem d_ld_begin_11 : decode b_ld_begin 11 = .ok (.getfield 9, 3) := by decide +kernel
theorem d_ld_begin_14 : decode b_ld_begin 14 = .ok (.aload_n 0, 1) := by decide +kernel
theorem d_ld_begin_15 : decode b_ld_begin 15 = .ok (.getfield 18, 3) := by decide +kernel
theorem d_ld_begin_18 : decode b_ld_begin 18 = .ok (.aload_n 0, 1) := by decide +kernel
theorem d_ld_begin_19 : decode b_ld_begin 19 = .ok (.getfield 9, 3) := by decide +kernel
theorem d_ld_begin_22 : decode b_ld_begin 22 = .ok (.aload_n 0, 1) := by decide +kernel
theorem d_ld_begin_23 : decode b_ld_begin 23 = .ok (.getfield 18, 3) := by decide +kernel
theorem d_ld_begin_26 : decode b_ld_begin 26 = .ok (.iconst 1, 1) := by decide +kernel
theorem d_ld_begin_27 : decode b_ld_begin 27 = .ok (.isub, 1) := by decide +kernel
theorem d_ld_begin_28 : decode b_ld_begin 28 = .ok (.iaload, 1) := by decide +kernel
theorem d_ld_begin_29 : decode b_ld_begin 29 = .ok (.iastore, 1) := by decide +kernel
theorem d_ld_begin_30 : decode b_ld_begin 30 = .ok (.aload_n 0, 1) := by decide +kernel
theorem d_ld_begin_31 : decode b_ld_begin 31 = .ok (.getfield 18, 3) := by decide +kernel
theorem d_ld_begin_34 : decode b_ld_begin 34 = .ok (.ireturn, 1) := by decide +kernel
theorem d_ld_put_0 : decode b_ld_put 0 = .ok (.aload_n 0, 1) := by decide +kernel
theorem d_ld_put_1 : decode b_ld_put 1 = .ok (.getfield 15, 3) := by decide +kernel
theorem d_ld_put_4 : decode b_ld_put 4 = .ok (.aload_n 0, 1) := by decide +kernel
theorem d_ld_put_5 : decode b_ld_put 5 = .ok (.getfield 9, 3) := by decide +kernel
theorem d_ld_put_8 : decode b_ld_put 8 = .ok (.aload_n 0, 1) := by decide +kernel
theorem d_ld_put_9 : decode b_ld_put 9 = .ok (.getfield 18, 3) := by decide +kernel
theorem d_ld_put_12 : decode b_ld_put 12 = .ok (.iaload, 1) := by decide +kernel
theorem d_ld_put_13 : decode b_ld_put 13 = .ok (.iload_n 1, 1) := by decide +kernel
theorem d_ld_put_14 : decode b_ld_put 14 = .ok (.iastore, 1) := by decide +kernel
theorem d_ld_put_15 : decode b_ld_put 15 = .ok (.aload_n 0, 1) := by decide +kernel
theorem d_ld_put_16 : decode b_ld_put 16 = .ok (.getfield 9, 3) := by decide +kernel
theorem d_ld_put_19 : decode b_ld_put 19 = .ok (.aload_n 0, 1) := by decide +kernel
theorem d_ld_put_20 : decode b_ld_put 20 = .ok (.getfield 18, 3) := by decide +kernel
theorem d_ld_put_23 : decode b_ld_put 23 = .ok (.dup2, 1) := by decide +kernel
theorem d_ld_put_24 : decode b_ld_put 24 = .ok (.iaload, 1) := by decide +kernel
theorem d_ld_put_25 : decode b_ld_put 25 = .ok (.iconst 1, 1) := by decide +kernel
theorem d_ld_put_26 : decode b_ld_put 26 = .ok (.iadd, 1) := by decide +kernel
theorem d_ld_put_27 : decode b_ld_put 27 = .ok (.iastore, 1) := by decide +kernel
theorem d_ld_put_28 : decode b_ld_put 28 = .ok (.return_, 1) := by decide +kernel
theorem d_te_add_0 : decode b_te_add 0 = .ok (.aload_n 0, 1) := by decide +kernel
theorem d_te_add_1 : decode b_te_add 1 = .ok (.getfield 18, 3) := by decide +kernel
theorem d_te_add_4 : decode b_te_add 4 = .ok (.bipush 100, 2) := by decide +kernel
theorem d_te_add_6 : decode b_te_add 6 = .ok (.if_icmp .ge 33, 3) := by decide +kernel
theorem d_te_add_9 : decode b_te_add 9 = .ok (.aload_n 0, 1) := by decide +kernel
theorem d_te_add_10 : decode b_te_add 10 = .ok (.getfield 9, 3) := by decide +kernel
theorem d_te_add_13 : decode b_te_add 13 = .ok (.aload_n 0, 1) := by decide +kernel
theorem d_te_add_14 : decode b_te_add 14 = .ok (.getfield 18, 3) := by decide +kernel
theorem d_te_add_17 : decode b_te_add 17 = .ok (.iload_n 1, 1) := by decide +kernel
theorem d_te_add_18 : decode b_te_add 18 = .ok (.iastore, 1) := by decide +kernel
theorem d_te_add_19 : decode b_te_add 19 = .ok (.aload_n 0, 1) := by decide +kernel
theorem d_te_add_20 : decode b_te_add 20 = .ok (.getfield 15, 3) := by decide +kernel
theorem d_te_add_23 : decode b_te_add 23 = .ok (.aload_n 0, 1) := by decide +kernel
theorem d_te_add_24 : decode b_te_add 24 = .ok (.getfield 18, 3) := by decide +kernel
theorem d_te_add_27 : decode b_te_add 27 = .ok (.iload_n 2, 1) := by decide +kernel
theorem d_te_add_28 : decode b_te_add 28 = .ok (.iastore, 1) := by decide +kernel
theorem d_te_add_29 : decode b_te_add 29 = .ok (.aload_n 0, 1) := by decide +kernel
theorem d_te_add_30 : decode b_te_add 30 = .ok (.dup, 1) := by decide +kernel
theorem d_te_add_31 : decode b_te_add 31 = .ok (.getfield 18, 3) := by decide +kernel
theorem d_te_add_34 : decode b_te_add 34 = .ok (.iconst 1, 1) := by decide +kernel
theorem d_te_add_35 : decode b_te_add 35 = .ok (.iadd, 1) := by decide +kernel
theorem d_te_add_36 : decode b_te_add 36 = .ok (.putfield 18, 3) := by decide +kernel
theorem d_te_add_39 : decode b_te_add 39 = .ok (.return_, 1) := by decide +kernel
theorem d_ld_has_0 : decode b_ld_has 0 = .ok (.iload_n 1, 1) := by decide +kernel
theorem d_ld_has_1 : decode b_ld_has 1 = .ok (.iconst 1, 1) := by decide +kernel
theorem d_ld_has_2 : decode b_ld_has 2 = .ok (.if_icmp .lt 15, 3) := by decide +kernel
theorem d_ld_has_5 : decode b_ld_has 5 = .ok (.iload_n 1, 1) := by decide +kernel
theorem d_ld_has_6 : decode b_ld_has 6 = .ok (.aload_n 0, 1) := by decide +kernel
theorem d_ld_has_7 : decode b_ld_has 7 = .ok (.getfield 18, 3) := by decide +kernel
theorem d_ld_has_10 : decode b_ld_has 10 = .ok (.if_icmp .gt 7, 3) := by decide +kernel
theorem d_ld_has_13 : decode b_ld_has 13 = .ok (.iconst 1, 1) := by decide +kernel
theorem d_ld_has_14 : decode b_ld_has 14 = .ok (.goto 4, 3) := by decide +kernel
theorem d_ld_has_17 : decode b_ld_has 17 = .ok (.iconst 0, 1) := by decide +kernel
theorem d_ld_has_18 : decode b_ld_has 18 = .ok (.ireturn, 1) := by decide +kernel
theorem d_ld_size_0 : decode b_ld_size 0 = .ok (.aload_n 0, 1) := by decide +kernel
theorem d_ld_size_1 : decode b_ld_size 1 = .ok (.getfield 9, 3) := by decide +kernel
theorem d_ld_size_4 : decode b_ld_size 4 = .ok (.iload_n 1, 1) := by decide +kernel
theorem d_ld_size_5 : decode b_ld_size 5 = .ok (.iaload, 1) := by decide +kernel
theorem d_ld_size_6 : decode b_ld_size 6 = .ok (.aload_n 0, 1) := by decide +kernel
theorem d_ld_size_7 : decode b_ld_size 7 = .ok (.getfield 9, 3) := by decide +kernel
theorem d_ld_size_10 : decode b_ld_size 10 = .ok (.iload_n 1, 1) := by decide +kernel
theorem d_ld_size_11 : decode b_ld_size 11 = .ok (.iconst 1, 1) := by decide +kernel
theorem d_ld_size_12 : decode b_ld_size 12 = .ok (.isub, 1) := by decide +kernel
theorem d_ld_size_13 : decode b_ld_size 13 = .ok (.iaload, 1) := by decide +kernel
theorem d_ld_size_14 : decode b_ld_size 14 = .ok (.isub, 1) := by decide +kernel
theorem d_ld_size_15 : decode b_ld_size 15 = .ok (.ireturn, 1) := by decide +kernel
theorem d_ld_slipAt_0 : decode b_ld_slipAt 0 = .ok (.aload_n 0, 1) := by decide +kernel
theorem d_ld_slipAt_1 : decode b_ld_slipAt 1 = .ok (.getfield 15, 3) := by decide +kernel
theorem d_ld_slipAt_4 : decode b_ld_slipAt 4 = .ok (.aload_n 0, 1) := by decide +kernel
theorem d_ld_slipAt_5 : decode b_ld_slipAt 5 = .ok (.getfield 9, 3) := by decide +kernel
theorem d_ld_slipAt_8 : decode b_ld_slipAt 8 = .ok (.iload_n 1, 1) := by decide +kernel
theorem d_ld_slipAt_9 : decode b_ld_slipAt 9 = .ok (.iconst 1, 1) := by decide +kernel
theorem d_ld_slipAt_10 : decode b_ld_slipAt 10 = .ok (.isub, 1) := by decide +kernel
theorem d_ld_slipAt_11 : decode b_ld_slipAt 11 = .ok (.iaload, 1) := by decide +kernel
theorem d_ld_slipAt_12 : decode b_ld_slipAt 12 = .ok (.iload_n 2, 1) := by decide +kernel
theorem d_ld_slipAt_13 : decode b_ld_slipAt 13 = .ok (.iadd, 1) := by decide +kernel
theorem d_ld_slipAt_14 : decode b_ld_slipAt 14 = .ok (.iaload, 1) := by decide +kernel
theorem d_ld_slipAt_15 : decode b_ld_slipAt 15 = .ok (.ireturn, 1) := by decide +kernel
theorem d_sl_isUnderWay_0 : decode b_sl_isUnderWay 0 = .ok (.aload_n 0, 1) := by decide +kernel
theorem d_sl_isUnderWay_1 : decode b_sl_isUnderWay 1 = .ok (.getfield 18, 3) := by decide +kernel
theorem d_sl_isUnderWay_4 : decode b_sl_isUnderWay 4 = .ok (.iload_n 1, 1) := by decide +kernel
theorem d_sl_isUnderWay_5 : decode b_sl_isUnderWay 5 = .ok (.iaload, 1) := by decide +kernel
theorem d_sl_isUnderWay_6 : decode b_sl_isUnderWay 6 = .ok (.iconst 1, 1) := by decide +kernel
theorem d_sl_isUnderWay_7 : decode b_sl_isUnderWay 7 = .ok (.if_icmp .eq 13, 3) := by decide +kernel
theorem d_sl_isUnderWay_10 : decode b_sl_isUnderWay 10 = .ok (.aload_n 0, 1) := by decide +kernel
theorem d_sl_isUnderWay_11 : decode b_sl_isUnderWay 11 = .ok (.getfield 18, 3) := by decide +kernel
theorem d_sl_isUnderWay_14 : decode b_sl_isUnderWay 14 = .ok (.iload_n 1, 1) := by decide +kernel
theorem d_sl_isUnderWay_15 : decode b_sl_isUnderWay 15 = .ok (.iaload, 1) := by decide +kernel
theorem d_sl_isUnderWay_16 : decode b_sl_isUnderWay 16 = .ok (.iconst 3, 1) := by decide +kernel
theorem d_sl_isUnderWay_17 : decode b_sl_isUnderWay 17 = .ok (.if_icmp .ne 7, 3) := by decide +kernel
theorem d_sl_isUnderWay_20 : decode b_sl_isUnderWay 20 = .ok (.iconst 1, 1) := by decide +kernel
theorem d_sl_isUnderWay_21 : decode b_sl_isUnderWay 21 = .ok (.goto 4, 3) := by decide +kernel
theorem d_sl_isUnderWay_24 : decode b_sl_isUnderWay 24 = .ok (.iconst 0, 1) := by decide +kernel
theorem d_sl_isUnderWay_25 : decode b_sl_isUnderWay 25 = .ok (.ireturn, 1) := by decide +kernel
theorem d_te_has_0 : decode b_te_has 0 = .ok (.iload_n 1, 1) := by decide +kernel
theorem d_te_has_1 : decode b_te_has 1 = .ok (.ifCond .lt 15, 3) := by decide +kernel
theorem d_te_has_4 : decode b_te_has 4 = .ok (.iload_n 1, 1) := by decide +kernel
theorem d_te_has_5 : decode b_te_has 5 = .ok (.aload_n 0, 1) := by decide +kernel
theorem d_te_has_6 : decode b_te_has 6 = .ok (.getfield 18, 3) := by decide +kernel
theorem d_te_has_9 : decode b_te_has 9 = .ok (.if_icmp .ge 7, 3) := by decide +kernel
theorem d_te_has_12 : decode b_te_has 12 = .ok (.iconst 1, 1) := by decide +kernel
theorem d_te_has_13 : decode b_te_has 13 = .ok (.goto 4, 3) := by decide +kernel
theorem d_te_has_16 : decode b_te_has 16 = .ok (.iconst 0, 1) := by decide +kernel
theorem d_te_has_17 : decode b_te_has 17 = .ok (.ireturn, 1) := by decide +kernel
