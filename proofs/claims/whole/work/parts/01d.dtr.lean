theorem d_tr_init_0 : decode b_tr_init 0 = .ok (.aload_n 0, 1) := by decide +kernel
theorem d_tr_init_1 : decode b_tr_init 1 = .ok (.invokespecial 1, 3) := by decide +kernel
theorem d_tr_init_4 : decode b_tr_init 4 = .ok (.aload_n 0, 1) := by decide +kernel
theorem d_tr_init_5 : decode b_tr_init 5 = .ok (.new 7, 3) := by decide +kernel
theorem d_tr_init_8 : decode b_tr_init 8 = .ok (.dup, 1) := by decide +kernel
theorem d_tr_init_9 : decode b_tr_init 9 = .ok (.invokespecial 9, 3) := by decide +kernel
theorem d_tr_init_12 : decode b_tr_init 12 = .ok (.putfield 10, 3) := by decide +kernel
theorem d_tr_init_15 : decode b_tr_init 15 = .ok (.aload_n 0, 1) := by decide +kernel
theorem d_tr_init_16 : decode b_tr_init 16 = .ok (.new 16, 3) := by decide +kernel
theorem d_tr_init_19 : decode b_tr_init 19 = .ok (.dup, 1) := by decide +kernel
theorem d_tr_init_20 : decode b_tr_init 20 = .ok (.invokespecial 18, 3) := by decide +kernel
theorem d_tr_init_23 : decode b_tr_init 23 = .ok (.putfield 19, 3) := by decide +kernel
theorem d_tr_init_26 : decode b_tr_init 26 = .ok (.aload_n 0, 1) := by decide +kernel
theorem d_tr_init_27 : decode b_tr_init 27 = .ok (.new 23, 3) := by decide +kernel
theorem d_tr_init_30 : decode b_tr_init 30 = .ok (.dup, 1) := by decide +kernel
theorem d_tr_init_31 : decode b_tr_init 31 = .ok (.invokespecial 25, 3) := by decide +kernel
theorem d_tr_init_34 : decode b_tr_init 34 = .ok (.putfield 26, 3) := by decide +kernel
theorem d_tr_init_37 : decode b_tr_init 37 = .ok (.aload_n 0, 1) := by decide +kernel
theorem d_tr_init_38 : decode b_tr_init 38 = .ok (.new 30, 3) := by decide +kernel
theorem d_tr_init_41 : decode b_tr_init 41 = .ok (.dup, 1) := by decide +kernel
theorem d_tr_init_42 : decode b_tr_init 42 = .ok (.invokespecial 32, 3) := by decide +kernel
theorem d_tr_init_45 : decode b_tr_init 45 = .ok (.putfield 33, 3) := by decide +kernel
theorem d_tr_init_48 : decode b_tr_init 48 = .ok (.aload_n 0, 1) := by decide +kernel
theorem d_tr_init_49 : decode b_tr_init 49 = .ok (.new 37, 3) := by decide +kernel
theorem d_tr_init_52 : decode b_tr_init 52 = .ok (.dup, 1) := by decide +kernel
theorem d_tr_init_53 : decode b_tr_init 53 = .ok (.invokespecial 39, 3) := by decide +kernel
theorem d_tr_init_56 : decode b_tr_init 56 = .ok (.putfield 40, 3) := by decide +kernel
theorem d_tr_init_59 : decode b_tr_init 59 = .ok (.aload_n 0, 1) := by decide +kernel
theorem d_tr_init_60 : decode b_tr_init 60 = .ok (.new 44, 3) := by decide +kernel
theorem d_tr_init_63 : decode b_tr_init 63 = .ok (.dup, 1) := by decide +kernel
theorem d_tr_init_64 : decode b_tr_init 64 = .ok (.invokespecial 46, 3) := by decide +kernel
theorem d_tr_init_67 : decode b_tr_init 67 = .ok (.putfield 47, 3) := by decide +kernel
theorem d_tr_init_70 : decode b_tr_init 70 = .ok (.aload_n 0, 1) := by decide +kernel
theorem d_tr_init_71 : decode b_tr_init 71 = .ok (.sipush 150, 3) := by decide +kernel
theorem d_tr_init_74 : decode b_tr_init 74 = .ok (.newarray .int, 2) := by decide +kernel
theorem d_tr_init_76 : decode b_tr_init 76 = .ok (.putfield 51, 3) := by decide +kernel
theorem d_tr_init_79 : decode b_tr_init 79 = .ok (.aload_n 0, 1) := by decide +kernel
theorem d_tr_init_80 : decode b_tr_init 80 = .ok (.iconst 0, 1) := by decide +kernel
theorem d_tr_init_81 : decode b_tr_init 81 = .ok (.putfield 55, 3) := by decide +kernel
theorem d_tr_init_84 : decode b_tr_init 84 = .ok (.return_, 1) := by decide +kernel
theorem d_tr_place_0 : decode b_tr_place 0 = .ok (.aload_n 0, 1) := by decide +kernel
theorem d_tr_place_1 : decode b_tr_place 1 = .ok (.getfield 10, 3) := by decide +kernel
theorem d_tr_place_4 : decode b_tr_place 4 = .ok (.invokevirtual 59, 3) := by decide +kernel
theorem d_tr_place_7 : decode b_tr_place 7 = .ok (.ireturn, 1) := by decide +kernel
theorem d_tr_open_0 : decode b_tr_open 0 = .ok (.aload_n 0, 1) := by decide +kernel
theorem d_tr_open_1 : decode b_tr_open 1 = .ok (.getfield 10, 3) := by decide +kernel
theorem d_tr_open_4 : decode b_tr_open 4 = .ok (.iload_n 1, 1) := by decide +kernel
theorem d_tr_open_5 : decode b_tr_open 5 = .ok (.invokevirtual 63, 3) := by decide +kernel
theorem d_tr_open_8 : decode b_tr_open 8 = .ok (.ifCond .ne 5, 3) := by decide +kernel
theorem d_tr_open_11 : decode b_tr_open 11 = .ok (.iconst 0, 1) := by decide +kernel
theorem d_tr_open_12 : decode b_tr_open 12 = .ok (.ireturn, 1) := by decide +kernel
theorem d_tr_open_13 : decode b_tr_open 13 = .ok (.aload_n 0, 1) := by decide +kernel
theorem d_tr_open_14 : decode b_tr_open 14 = .ok (.getfield 10, 3) := by decide +kernel
theorem d_tr_open_17 : decode b_tr_open 17 = .ok (.getfield 67, 3) := by decide +kernel
theorem d_tr_open_20 : decode b_tr_open 20 = .ok (.iload_n 1, 1) := by decide +kernel
theorem d_tr_open_21 : decode b_tr_open 21 = .ok (.baload, 1) := by decide +kernel
theorem d_tr_open_22 : decode b_tr_open 22 = .ok (.istore_n 3, 1) := by decide +kernel
theorem d_tr_open_23 : decode b_tr_open 23 = .ok (.aload_n 0, 1) := by decide +kernel
theorem d_tr_open_24 : decode b_tr_open 24 = .ok (.getfield 10, 3) := by decide +kernel
theorem d_tr_open_27 : decode b_tr_open 27 = .ok (.getfield 67, 3) := by decide +kernel
theorem d_tr_open_30 : decode b_tr_open 30 = .ok (.iload_n 1, 1) := by decide +kernel
theorem d_tr_open_31 : decode b_tr_open 31 = .ok (.iload_n 2, 1) := by decide +kernel
theorem d_tr_open_32 : decode b_tr_open 32 = .ok (.bastore, 1) := by decide +kernel
theorem d_tr_open_33 : decode b_tr_open 33 = .ok (.iload_n 3, 1) := by decide +kernel
theorem d_tr_open_34 : decode b_tr_open 34 = .ok (.ireturn, 1) := by decide +kernel
theorem d_tr_route_0 : decode b_tr_route 0 = .ok (.aload_n 0, 1) := by decide +kernel
theorem d_tr_route_1 : decode b_tr_route 1 = .ok (.getfield 10, 3) := by decide +kernel
theorem d_tr_route_4 : decode b_tr_route 4 = .ok (.iload_n 1, 1) := by decide +kernel
theorem d_tr_route_5 : decode b_tr_route 5 = .ok (.invokevirtual 63, 3) := by decide +kernel
theorem d_tr_route_8 : decode b_tr_route 8 = .ok (.ifCond .eq 19, 3) := by decide +kernel
theorem d_tr_route_11 : decode b_tr_route 11 = .ok (.aload_n 0, 1) := by decide +kernel
theorem d_tr_route_12 : decode b_tr_route 12 = .ok (.getfield 10, 3) := by decide +kernel
theorem d_tr_route_15 : decode b_tr_route 15 = .ok (.iload_n 2, 1) := by decide +kernel
theorem d_tr_route_16 : decode b_tr_route 16 = .ok (.invokevirtual 63, 3) := by decide +kernel
theorem d_tr_route_19 : decode b_tr_route 19 = .ok (.ifCond .eq 8, 3) := by decide +kernel
theorem d_tr_route_22 : decode b_tr_route 22 = .ok (.iload_n 1, 1) := by decide +kernel
theorem d_tr_route_23 : decode b_tr_route 23 = .ok (.iload_n 2, 1) := by decide +kernel
theorem d_tr_route_24 : decode b_tr_route 24 = .ok (.if_icmp .ne 5, 3) := by decide +kernel
theorem d_tr_route_27 : decode b_tr_route 27 = .ok (.iconst (-1), 1) := by decide +kernel
theorem d_tr_route_28 : decode b_tr_route 28 = .ok (.ireturn, 1) := by decide +kernel
theorem d_tr_route_29 : decode b_tr_route 29 = .ok (.iload_n 3, 1) := by decide +kernel
theorem d_tr_route_30 : decode b_tr_route 30 = .ok (.iconst 1, 1) := by decide +kernel
theorem d_tr_route_31 : decode b_tr_route 31 = .ok (.if_icmp .lt 21, 3) := by decide +kernel
theorem d_tr_route_34 : decode b_tr_route 34 = .ok (.iload_n 3, 1) := by decide +kernel
theorem d_tr_route_35 : decode b_tr_route 35 = .ok (.bipush 127, 2) := by decide +kernel
theorem d_tr_route_37 : decode b_tr_route 37 = .ok (.if_icmp .gt 15, 3) := by decide +kernel
theorem d_tr_route_40 : decode b_tr_route 40 = .ok (.iload 4, 2) := by decide +kernel
theorem d_tr_route_42 : decode b_tr_route 42 = .ok (.ifCond .lt 10, 3) := by decide +kernel
theorem d_tr_route_45 : decode b_tr_route 45 = .ok (.iload 4, 2) := by decide +kernel
theorem d_tr_route_47 : decode b_tr_route 47 = .ok (.bipush 30, 2) := by decide +kernel
theorem d_tr_route_49 : decode b_tr_route 49 = .ok (.if_icmp .le 5, 3) := by decide +kernel
theorem d_tr_route_52 : decode b_tr_route 52 = .ok (.iconst (-1), 1) := by decide +kernel
theorem d_tr_route_53 : decode b_tr_route 53 = .ok (.ireturn, 1) := by decide +kernel
theorem d_tr_route_54 : decode b_tr_route 54 = .ok (.iload 5, 2) := by decide +kernel
theorem d_tr_route_56 : decode b_tr_route 56 = .ok (.iconst 1, 1) := by decide +kernel
theorem d_tr_route_57 : decode b_tr_route 57 = .ok (.if_icmp .lt 10, 3) := by decide +kernel
theorem d_tr_route_60 : decode b_tr_route 60 = .ok (.iload 5, 2) := by decide +kernel
theorem d_tr_route_62 : decode b_tr_route 62 = .ok (.bipush 99, 2) := by decide +kernel
theorem d_tr_route_64 : decode b_tr_route 64 = .ok (.if_icmp .le 5, 3) := by decide +kernel
theorem d_tr_route_67 : decode b_tr_route 67 = .ok (.iconst (-1), 1) := by decide +kernel
theorem d_tr_route_68 : decode b_tr_route 68 = .ok (.ireturn, 1) := by decide +kernel
theorem d_tr_route_69 : decode b_tr_route 69 = .ok (.aload_n 0, 1) := by decide +kernel
theorem d_tr_route_70 : decode b_tr_route 70 = .ok (.getfield 19, 3) := by decide +kernel
theorem d_tr_route_73 : decode b_tr_route 73 = .ok (.iload_n 1, 1) := by decide +kernel
theorem d_tr_route_74 : decode b_tr_route 74 = .ok (.iload_n 2, 1) := by decide +kernel
theorem d_tr_route_75 : decode b_tr_route 75 = .ok (.iload_n 3, 1) := by decide +kernel
theorem d_tr_route_76 : decode b_tr_route 76 = .ok (.iload 4, 2) := by decide +kernel
theorem d_tr_route_78 : decode b_tr_route 78 = .ok (.iload 5, 2) := by decide +kernel
theorem d_tr_route_80 : decode b_tr_route 80 = .ok (.invokevirtual 71, 3) := by decide +kernel
theorem d_tr_route_83 : decode b_tr_route 83 = .ok (.ireturn, 1) := by decide +kernel
theorem d_tr_skip_0 : decode b_tr_skip 0 = .ok (.aload_n 0, 1) := by decide +kernel
theorem d_tr_skip_1 : decode b_tr_skip 1 = .ok (.getfield 19, 3) := by decide +kernel
theorem d_tr_skip_4 : decode b_tr_skip 4 = .ok (.iload_n 1, 1) := by decide +kernel
theorem d_tr_skip_5 : decode b_tr_skip 5 = .ok (.invokevirtual 74, 3) := by decide +kernel
theorem d_tr_skip_8 : decode b_tr_skip 8 = .ok (.ifCond .eq 10, 3) := by decide +kernel
theorem d_tr_skip_11 : decode b_tr_skip 11 = .ok (.iload_n 2, 1) := by decide +kernel
theorem d_tr_skip_12 : decode b_tr_skip 12 = .ok (.invokestatic 75, 3) := by decide +kernel
theorem d_tr_skip_15 : decode b_tr_skip 15 = .ok (.ifCond .ne 5, 3) := by decide +kernel
theorem d_tr_skip_18 : decode b_tr_skip 18 = .ok (.iconst 0, 1) := by decide +kernel
theorem d_tr_skip_19 : decode b_tr_skip 19 = .ok (.ireturn, 1) := by decide +kernel
theorem d_tr_skip_20 : decode b_tr_skip 20 = .ok (.iload_n 3, 1) := by decide +kernel
theorem d_tr_skip_21 : decode b_tr_skip 21 = .ok (.ifCond .eq 18, 3) := by decide +kernel
theorem d_tr_skip_24 : decode b_tr_skip 24 = .ok (.aload_n 0, 1) := by decide +kernel
theorem d_tr_skip_25 : decode b_tr_skip 25 = .ok (.getfield 19, 3) := by decide +kernel
theorem d_tr_skip_28 : decode b_tr_skip 28 = .ok (.getfield 78, 3) := by decide +kernel
theorem d_tr_skip_31 : decode b_tr_skip 31 = .ok (.iload_n 1, 1) := by decide +kernel
theorem d_tr_skip_32 : decode b_tr_skip 32 = .ok (.iload_n 2, 1) := by decide +kernel
theorem d_tr_skip_33 : decode b_tr_skip 33 = .ok (.invokevirtual 82, 3) := by decide +kernel
theorem d_tr_skip_36 : decode b_tr_skip 36 = .ok (.goto 15, 3) := by decide +kernel
theorem d_tr_skip_39 : decode b_tr_skip 39 = .ok (.aload_n 0, 1) := by decide +kernel
theorem d_tr_skip_40 : decode b_tr_skip 40 = .ok (.getfield 19, 3) := by decide +kernel
theorem d_tr_skip_43 : decode b_tr_skip 43 = .ok (.getfield 78, 3) := by decide +kernel
theorem d_tr_skip_46 : decode b_tr_skip 46 = .ok (.iload_n 1, 1) := by decide +kernel
theorem d_tr_skip_47 : decode b_tr_skip 47 = .ok (.iload_n 2, 1) := by decide +kernel
theorem d_tr_skip_48 : decode b_tr_skip 48 = .ok (.invokevirtual 87, 3) := by decide +kernel
theorem d_tr_skip_51 : decode b_tr_skip 51 = .ok (.ireturn, 1) := by decide +kernel
theorem d_tr_isDay_0 : decode b_tr_isDay 0 = .ok (.iload_n 0, 1) := by decide +kernel
theorem d_tr_isDay_1 : decode b_tr_isDay 1 = .ok (.ifCond .lt 13, 3) := by decide +kernel
theorem d_tr_isDay_4 : decode b_tr_isDay 4 = .ok (.iload_n 0, 1) := by decide +kernel
theorem d_tr_isDay_5 : decode b_tr_isDay 5 = .ok (.ldc 204, 2) := by decide +kernel
theorem d_tr_isDay_7 : decode b_tr_isDay 7 = .ok (.if_icmp .gt 7, 3) := by decide +kernel
theorem d_tr_isDay_10 : decode b_tr_isDay 10 = .ok (.iconst 1, 1) := by decide +kernel
theorem d_tr_isDay_11 : decode b_tr_isDay 11 = .ok (.goto 4, 3) := by decide +kernel
theorem d_tr_isDay_14 : decode b_tr_isDay 14 = .ok (.iconst 0, 1) := by decide +kernel
theorem d_tr_isDay_15 : decode b_tr_isDay 15 = .ok (.ireturn, 1) := by decide +kernel
theorem d_tr_copy_0 : decode b_tr_copy 0 = .ok (.aload_n 0, 1) := by decide +kernel
theorem d_tr_copy_1 : decode b_tr_copy 1 = .ok (.getfield 10, 3) := by decide +kernel
theorem d_tr_copy_4 : decode b_tr_copy 4 = .ok (.iload_n 1, 1) := by decide +kernel
theorem d_tr_copy_5 : decode b_tr_copy 5 = .ok (.invokevirtual 63, 3) := by decide +kernel
theorem d_tr_copy_8 : decode b_tr_copy 8 = .ok (.ifCond .ne 5, 3) := by decide +kernel
theorem d_tr_copy_11 : decode b_tr_copy 11 = .ok (.iconst 0, 1) := by decide +kernel
theorem d_tr_copy_12 : decode b_tr_copy 12 = .ok (.ireturn, 1) := by decide +kernel
theorem d_tr_copy_13 : decode b_tr_copy 13 = .ok (.aload_n 0, 1) := by decide +kernel
theorem d_tr_copy_14 : decode b_tr_copy 14 = .ok (.getfield 26, 3) := by decide +kernel
theorem d_tr_copy_17 : decode b_tr_copy 17 = .ok (.iload_n 1, 1) := by decide +kernel
theorem d_tr_copy_18 : decode b_tr_copy 18 = .ok (.invokevirtual 90, 3) := by decide +kernel
theorem d_tr_copy_21 : decode b_tr_copy 21 = .ok (.ireturn, 1) := by decide +kernel
theorem d_tr_priority_0 : decode b_tr_priority 0 = .ok (.aload_n 0, 1) := by decide +kernel
theorem d_tr_priority_1 : decode b_tr_priority 1 = .ok (.getfield 26, 3) := by decide +kernel
theorem d_tr_priority_4 : decode b_tr_priority 4 = .ok (.iload_n 1, 1) := by decide +kernel
theorem d_tr_priority_5 : decode b_tr_priority 5 = .ok (.invokevirtual 93, 3) := by decide +kernel
theorem d_tr_priority_8 : decode b_tr_priority 8 = .ok (.ifCond .ne 5, 3) := by decide +kernel
theorem d_tr_priority_11 : decode b_tr_priority 11 = .ok (.iconst 0, 1) := by decide +kernel
theorem d_tr_priority_12 : decode b_tr_priority 12 = .ok (.ireturn, 1) := by decide +kernel
theorem d_tr_priority_13 : decode b_tr_priority 13 = .ok (.aload_n 0, 1) := by decide +kernel
theorem d_tr_priority_14 : decode b_tr_priority 14 = .ok (.getfield 26, 3) := by decide +kernel
theorem d_tr_priority_17 : decode b_tr_priority 17 = .ok (.getfield 94, 3) := by decide +kernel
theorem d_tr_priority_20 : decode b_tr_priority 20 = .ok (.iload_n 1, 1) := by decide +kernel
theorem d_tr_priority_21 : decode b_tr_priority 21 = .ok (.baload, 1) := by decide +kernel
theorem d_tr_priority_22 : decode b_tr_priority 22 = .ok (.istore_n 3, 1) := by decide +kernel
theorem d_tr_priority_23 : decode b_tr_priority 23 = .ok (.aload_n 0, 1) := by decide +kernel
theorem d_tr_priority_24 : decode b_tr_priority 24 = .ok (.getfield 26, 3) := by decide +kernel
theorem d_tr_priority_27 : decode b_tr_priority 27 = .ok (.getfield 94, 3) := by decide +kernel
theorem d_tr_priority_30 : decode b_tr_priority 30 = .ok (.iload_n 1, 1) := by decide +kernel
theorem d_tr_priority_31 : decode b_tr_priority 31 = .ok (.iload_n 2, 1) := by decide +kernel
theorem d_tr_priority_32 : decode b_tr_priority 32 = .ok (.bastore, 1) := by decide +kernel
theorem d_tr_priority_33 : decode b_tr_priority 33 = .ok (.iload_n 3, 1) := by decide +kernel
theorem d_tr_priority_34 : decode b_tr_priority 34 = .ok (.ireturn, 1) := by decide +kernel
theorem d_tr_floats_0 : decode b_tr_floats 0 = .ok (.aload_n 0, 1) := by decide +kernel
theorem d_tr_floats_1 : decode b_tr_floats 1 = .ok (.getfield 26, 3) := by decide +kernel
theorem d_tr_floats_4 : decode b_tr_floats 4 = .ok (.iload_n 1, 1) := by decide +kernel
theorem d_tr_floats_5 : decode b_tr_floats 5 = .ok (.invokevirtual 93, 3) := by decide +kernel
theorem d_tr_floats_8 : decode b_tr_floats 8 = .ok (.ifCond .ne 5, 3) := by decide +kernel
theorem d_tr_floats_11 : decode b_tr_floats 11 = .ok (.iconst 0, 1) := by decide +kernel
theorem d_tr_floats_12 : decode b_tr_floats 12 = .ok (.ireturn, 1) := by decide +kernel
theorem d_tr_floats_13 : decode b_tr_floats 13 = .ok (.aload_n 0, 1) := by decide +kernel
theorem d_tr_floats_14 : decode b_tr_floats 14 = .ok (.getfield 26, 3) := by decide +kernel
theorem d_tr_floats_17 : decode b_tr_floats 17 = .ok (.getfield 97, 3) := by decide +kernel
theorem d_tr_floats_20 : decode b_tr_floats 20 = .ok (.iload_n 1, 1) := by decide +kernel
theorem d_tr_floats_21 : decode b_tr_floats 21 = .ok (.baload, 1) := by decide +kernel
theorem d_tr_floats_22 : decode b_tr_floats 22 = .ok (.istore_n 3, 1) := by decide +kernel
theorem d_tr_floats_23 : decode b_tr_floats 23 = .ok (.aload_n 0, 1) := by decide +kernel
theorem d_tr_floats_24 : decode b_tr_floats 24 = .ok (.getfield 26, 3) := by decide +kernel
theorem d_tr_floats_27 : decode b_tr_floats 27 = .ok (.getfield 97, 3) := by decide +kernel
theorem d_tr_floats_30 : decode b_tr_floats 30 = .ok (.iload_n 1, 1) := by decide +kernel
theorem d_tr_floats_31 : decode b_tr_floats 31 = .ok (.iload_n 2, 1) := by decide +kernel
theorem d_tr_floats_32 : decode b_tr_floats 32 = .ok (.bastore, 1) := by decide +kernel
theorem d_tr_floats_33 : decode b_tr_floats 33 = .ok (.iload_n 3, 1) := by decide +kernel
theorem d_tr_floats_34 : decode b_tr_floats 34 = .ok (.ireturn, 1) := by decide +kernel
theorem d_tr_send_0 : decode b_tr_send 0 = .ok (.aload_n 0, 1) := by decide +kernel
theorem d_tr_send_1 : decode b_tr_send 1 = .ok (.getfield 26, 3) := by decide +kernel
theorem d_tr_send_4 : decode b_tr_send 4 = .ok (.iload_n 1, 1) := by decide +kernel
theorem d_tr_send_5 : decode b_tr_send 5 = .ok (.invokevirtual 93, 3) := by decide +kernel
theorem d_tr_send_8 : decode b_tr_send 8 = .ok (.ifCond .eq 21, 3) := by decide +kernel
theorem d_tr_send_11 : decode b_tr_send 11 = .ok (.aload_n 0, 1) := by decide +kernel
theorem d_tr_send_12 : decode b_tr_send 12 = .ok (.getfield 10, 3) := by decide +kernel
theorem d_tr_send_15 : decode b_tr_send 15 = .ok (.iload_n 2, 1) := by decide +kernel
theorem d_tr_send_16 : decode b_tr_send 16 = .ok (.invokevirtual 63, 3) := by decide +kernel
theorem d_tr_send_19 : decode b_tr_send 19 = .ok (.ifCond .eq 10, 3) := by decide +kernel
theorem d_tr_send_22 : decode b_tr_send 22 = .ok (.iload_n 3, 1) := by decide +kernel
theorem d_tr_send_23 : decode b_tr_send 23 = .ok (.invokestatic 75, 3) := by decide +kernel
theorem d_tr_send_26 : decode b_tr_send 26 = .ok (.ifCond .ne 5, 3) := by decide +kernel
theorem d_tr_send_29 : decode b_tr_send 29 = .ok (.iconst 0, 1) := by decide +kernel
theorem d_tr_send_30 : decode b_tr_send 30 = .ok (.ireturn, 1) := by decide +kernel
theorem d_tr_send_31 : decode b_tr_send 31 = .ok (.aload_n 0, 1) := by decide +kernel
theorem d_tr_send_32 : decode b_tr_send 32 = .ok (.getfield 26, 3) := by decide +kernel
theorem d_tr_send_35 : decode b_tr_send 35 = .ok (.getfield 100, 3) := by decide +kernel
theorem d_tr_send_38 : decode b_tr_send 38 = .ok (.iload_n 1, 1) := by decide +kernel
theorem d_tr_send_39 : decode b_tr_send 39 = .ok (.iaload, 1) := by decide +kernel
theorem d_tr_send_40 : decode b_tr_send 40 = .ok (.ifCond .ne 29, 3) := by decide +kernel
theorem d_tr_send_43 : decode b_tr_send 43 = .ok (.aload_n 0, 1) := by decide +kernel
theorem d_tr_send_44 : decode b_tr_send 44 = .ok (.getfield 26, 3) := by decide +kernel
theorem d_tr_send_47 : decode b_tr_send 47 = .ok (.getfield 103, 3) := by decide +kernel
theorem d_tr_send_50 : decode b_tr_send 50 = .ok (.iload_n 1, 1) := by decide +kernel
theorem d_tr_send_51 : decode b_tr_send 51 = .ok (.iaload, 1) := by decide +kernel
theorem d_tr_send_52 : decode b_tr_send 52 = .ok (.iload_n 2, 1) := by decide +kernel
theorem d_tr_send_53 : decode b_tr_send 53 = .ok (.if_icmp .eq 16, 3) := by decide +kernel
theorem d_tr_send_56 : decode b_tr_send 56 = .ok (.aload_n 0, 1) := by decide +kernel
theorem d_tr_send_57 : decode b_tr_send 57 = .ok (.getfield 33, 3) := by decide +kernel
theorem d_tr_send_60 : decode b_tr_send 60 = .ok (.getfield 106, 3) := by decide +kernel
theorem d_tr_send_63 : decode b_tr_send 63 = .ok (.sipush 150, 3) := by decide +kernel
theorem d_tr_send_66 : decode b_tr_send 66 = .ok (.if_icmp .ne 5, 3) := by decide +kernel
theorem d_tr_send_69 : decode b_tr_send 69 = .ok (.iconst 0, 1) := by decide +kernel
theorem d_tr_send_70 : decode b_tr_send 70 = .ok (.ireturn, 1) := by decide +kernel
theorem d_tr_send_71 : decode b_tr_send 71 = .ok (.aload_n 0, 1) := by decide +kernel
theorem d_tr_send_72 : decode b_tr_send 72 = .ok (.getfield 10, 3) := by decide +kernel
theorem d_tr_send_75 : decode b_tr_send 75 = .ok (.getfield 67, 3) := by decide +kernel
theorem d_tr_send_78 : decode b_tr_send 78 = .ok (.iload_n 2, 1) := by decide +kernel
theorem d_tr_send_79 : decode b_tr_send 79 = .ok (.baload, 1) := by decide +kernel
theorem d_tr_send_80 : decode b_tr_send 80 = .ok (.ifCond .ne 6, 3) := by decide +kernel
theorem d_tr_send_83 : decode b_tr_send 83 = .ok (.bipush (-2), 2) := by decide +kernel
theorem d_tr_send_85 : decode b_tr_send 85 = .ok (.ireturn, 1) := by decide +kernel
theorem d_tr_send_86 : decode b_tr_send 86 = .ok (.aload_n 0, 1) := by decide +kernel
theorem d_tr_send_87 : decode b_tr_send 87 = .ok (.getfield 26, 3) := by decide +kernel
theorem d_tr_send_90 : decode b_tr_send 90 = .ok (.getfield 94, 3) := by decide +kernel
theorem d_tr_send_93 : decode b_tr_send 93 = .ok (.iload_n 1, 1) := by decide +kernel
theorem d_tr_send_94 : decode b_tr_send 94 = .ok (.baload, 1) := by decide +kernel
theorem d_tr_send_95 : decode b_tr_send 95 = .ok (.ifCond .eq 7, 3) := by decide +kernel
theorem d_tr_send_98 : decode b_tr_send 98 = .ok (.iload_n 3, 1) := by decide +kernel
theorem d_tr_send_99 : decode b_tr_send 99 = .ok (.goto 6, 3) := by decide +kernel
theorem d_tr_send_102 : decode b_tr_send 102 = .ok (.iload_n 3, 1) := by decide +kernel
theorem d_tr_send_103 : decode b_tr_send 103 = .ok (.iconst 1, 1) := by decide +kernel
theorem d_tr_send_104 : decode b_tr_send 104 = .ok (.iadd, 1) := by decide +kernel
theorem d_tr_send_105 : decode b_tr_send 105 = .ok (.istore 4, 2) := by decide +kernel
theorem d_tr_send_107 : decode b_tr_send 107 = .ok (.aload_n 0, 1) := by decide +kernel
theorem d_tr_send_108 : decode b_tr_send 108 = .ok (.getfield 19, 3) := by decide +kernel
theorem d_tr_send_111 : decode b_tr_send 111 = .ok (.aload_n 0, 1) := by decide +kernel
theorem d_tr_send_112 : decode b_tr_send 112 = .ok (.getfield 26, 3) := by decide +kernel
theorem d_tr_send_115 : decode b_tr_send 115 = .ok (.getfield 103, 3) := by decide +kernel
theorem d_tr_send_118 : decode b_tr_send 118 = .ok (.iload_n 1, 1) := by decide +kernel
theorem d_tr_send_119 : decode b_tr_send 119 = .ok (.iaload, 1) := by decide +kernel
theorem d_tr_send_120 : decode b_tr_send 120 = .ok (.iload_n 2, 1) := by decide +kernel
theorem d_tr_send_121 : decode b_tr_send 121 = .ok (.iload 4, 2) := by decide +kernel
theorem d_tr_send_123 : decode b_tr_send 123 = .ok (.invokevirtual 109, 3) := by decide +kernel
theorem d_tr_send_126 : decode b_tr_send 126 = .ok (.istore 5, 2) := by decide +kernel
theorem d_tr_send_128 : decode b_tr_send 128 = .ok (.iload 5, 2) := by decide +kernel
theorem d_tr_send_130 : decode b_tr_send 130 = .ok (.iconst (-1), 1) := by decide +kernel
theorem d_tr_send_131 : decode b_tr_send 131 = .ok (.if_icmp .ne 6, 3) := by decide +kernel
theorem d_tr_send_134 : decode b_tr_send 134 = .ok (.bipush (-3), 2) := by decide +kernel
theorem d_tr_send_136 : decode b_tr_send 136 = .ok (.ireturn, 1) := by decide +kernel
theorem d_tr_send_137 : decode b_tr_send 137 = .ok (.aload_n 0, 1) := by decide +kernel
theorem d_tr_send_138 : decode b_tr_send 138 = .ok (.getfield 33, 3) := by decide +kernel
theorem d_tr_send_141 : decode b_tr_send 141 = .ok (.iload_n 1, 1) := by decide +kernel
theorem d_tr_send_142 : decode b_tr_send 142 = .ok (.iload 5, 2) := by decide +kernel
theorem d_tr_send_144 : decode b_tr_send 144 = .ok (.iload_n 3, 1) := by decide +kernel
theorem d_tr_send_145 : decode b_tr_send 145 = .ok (.aload_n 0, 1) := by decide +kernel
theorem d_tr_send_146 : decode b_tr_send 146 = .ok (.getfield 19, 3) := by decide +kernel
theorem d_tr_send_149 : decode b_tr_send 149 = .ok (.iload 5, 2) := by decide +kernel
theorem d_tr_send_151 : decode b_tr_send 151 = .ok (.iload 4, 2) := by decide +kernel
theorem d_tr_send_153 : decode b_tr_send 153 = .ok (.invokevirtual 113, 3) := by decide +kernel
theorem d_tr_send_156 : decode b_tr_send 156 = .ok (.invokevirtual 117, 3) := by decide +kernel
theorem d_tr_send_159 : decode b_tr_send 159 = .ok (.istore 6, 2) := by decide +kernel
theorem d_tr_send_161 : decode b_tr_send 161 = .ok (.aload_n 0, 1) := by decide +kernel
theorem d_tr_send_162 : decode b_tr_send 162 = .ok (.getfield 26, 3) := by decide +kernel
theorem d_tr_send_165 : decode b_tr_send 165 = .ok (.getfield 100, 3) := by decide +kernel
theorem d_tr_send_168 : decode b_tr_send 168 = .ok (.iload_n 1, 1) := by decide +kernel
theorem d_tr_send_169 : decode b_tr_send 169 = .ok (.iload 6, 2) := by decide +kernel
theorem d_tr_send_171 : decode b_tr_send 171 = .ok (.iastore, 1) := by decide +kernel
theorem d_tr_send_172 : decode b_tr_send 172 = .ok (.iload 6, 2) := by decide +kernel
theorem d_tr_send_174 : decode b_tr_send 174 = .ok (.ireturn, 1) := by decide +kernel
theorem d_tr_back_0 : decode b_tr_back 0 = .ok (.aload_n 0, 1) := by decide +kernel
theorem d_tr_back_1 : decode b_tr_back 1 = .ok (.getfield 33, 3) := by decide +kernel
theorem d_tr_back_4 : decode b_tr_back 4 = .ok (.iload_n 1, 1) := by decide +kernel
theorem d_tr_back_5 : decode b_tr_back 5 = .ok (.invokevirtual 120, 3) := by decide +kernel
theorem d_tr_back_8 : decode b_tr_back 8 = .ok (.ifCond .eq 15, 3) := by decide +kernel
theorem d_tr_back_11 : decode b_tr_back 11 = .ok (.aload_n 0, 1) := by decide +kernel
theorem d_tr_back_12 : decode b_tr_back 12 = .ok (.getfield 33, 3) := by decide +kernel
theorem d_tr_back_15 : decode b_tr_back 15 = .ok (.getfield 121, 3) := by decide +kernel
theorem d_tr_back_18 : decode b_tr_back 18 = .ok (.iload_n 1, 1) := by decide +kernel
theorem d_tr_back_19 : decode b_tr_back 19 = .ok (.iaload, 1) := by decide +kernel
theorem d_tr_back_20 : decode b_tr_back 20 = .ok (.ifCond .eq 5, 3) := by decide +kernel
theorem d_tr_back_23 : decode b_tr_back 23 = .ok (.iconst 0, 1) := by decide +kernel
theorem d_tr_back_24 : decode b_tr_back 24 = .ok (.ireturn, 1) := by decide +kernel
theorem d_tr_back_25 : decode b_tr_back 25 = .ok (.aload_n 0, 1) := by decide +kernel
theorem d_tr_back_26 : decode b_tr_back 26 = .ok (.getfield 33, 3) := by decide +kernel
theorem d_tr_back_29 : decode b_tr_back 29 = .ok (.getfield 121, 3) := by decide +kernel
theorem d_tr_back_32 : decode b_tr_back 32 = .ok (.iload_n 1, 1) := by decide +kernel
theorem d_tr_back_33 : decode b_tr_back 33 = .ok (.iconst 5, 1) := by decide +kernel
theorem d_tr_back_34 : decode b_tr_back 34 = .ok (.iastore, 1) := by decide +kernel
theorem d_tr_back_35 : decode b_tr_back 35 = .ok (.aload_n 0, 1) := by decide +kernel
theorem d_tr_back_36 : decode b_tr_back 36 = .ok (.getfield 26, 3) := by decide +kernel
theorem d_tr_back_39 : decode b_tr_back 39 = .ok (.getfield 100, 3) := by decide +kernel
theorem d_tr_back_42 : decode b_tr_back 42 = .ok (.aload_n 0, 1) := by decide +kernel
theorem d_tr_back_43 : decode b_tr_back 43 = .ok (.getfield 33, 3) := by decide +kernel
theorem d_tr_back_46 : decode b_tr_back 46 = .ok (.getfield 124, 3) := by decide +kernel
theorem d_tr_back_49 : decode b_tr_back 49 = .ok (.iload_n 1, 1) := by decide +kernel
theorem d_tr_back_50 : decode b_tr_back 50 = .ok (.iaload, 1) := by decide +kernel
theorem d_tr_back_51 : decode b_tr_back 51 = .ok (.iconst 0, 1) := by decide +kernel
theorem d_tr_back_52 : decode b_tr_back 52 = .ok (.iastore, 1) := by decide +kernel
theorem d_tr_back_53 : decode b_tr_back 53 = .ok (.iconst 1, 1) := by decide +kernel
theorem d_tr_back_54 : decode b_tr_back 54 = .ok (.ireturn, 1) := by decide +kernel
theorem d_tr_bin_0 : decode b_tr_bin 0 = .ok (.aload_n 0, 1) := by decide +kernel
theorem d_tr_bin_1 : decode b_tr_bin 1 = .ok (.iload_n 1, 1) := by decide +kernel
theorem d_tr_bin_2 : decode b_tr_bin 2 = .ok (.iload_n 2, 1) := by decide +kernel
theorem d_tr_bin_3 : decode b_tr_bin 3 = .ok (.invokevirtual 127, 3) := by decide +kernel
theorem d_tr_bin_6 : decode b_tr_bin 6 = .ok (.iload_n 3, 1) := by decide +kernel
theorem d_tr_bin_7 : decode b_tr_bin 7 = .ok (.ifCond .lt 20, 3) := by decide +kernel
theorem d_tr_bin_10 : decode b_tr_bin 10 = .ok (.iload_n 3, 1) := by decide +kernel
theorem d_tr_bin_11 : decode b_tr_bin 11 = .ok (.aload_n 0, 1) := by decide +kernel
theorem d_tr_bin_12 : decode b_tr_bin 12 = .ok (.getfield 55, 3) := by decide +kernel
theorem d_tr_bin_15 : decode b_tr_bin 15 = .ok (.if_icmp .ge 12, 3) := by decide +kernel
theorem d_tr_bin_18 : decode b_tr_bin 18 = .ok (.aload_n 0, 1) := by decide +kernel
theorem d_tr_bin_19 : decode b_tr_bin 19 = .ok (.getfield 51, 3) := by decide +kernel
theorem d_tr_bin_22 : decode b_tr_bin 22 = .ok (.iload_n 3, 1) := by decide +kernel
theorem d_tr_bin_23 : decode b_tr_bin 23 = .ok (.iaload, 1) := by decide +kernel
theorem d_tr_bin_24 : decode b_tr_bin 24 = .ok (.goto 4, 3) := by decide +kernel
theorem d_tr_bin_27 : decode b_tr_bin 27 = .ok (.iconst 0, 1) := by decide +kernel
theorem d_tr_bin_28 : decode b_tr_bin 28 = .ok (.ireturn, 1) := by decide +kernel
theorem d_tr_queueBin_0 : decode b_tr_queueBin 0 = .ok (.aload_n 0, 1) := by decide +kernel
theorem d_tr_queueBin_1 : decode b_tr_queueBin 1 = .ok (.iconst 0, 1) := by decide +kernel
theorem d_tr_queueBin_2 : decode b_tr_queueBin 2 = .ok (.putfield 55, 3) := by decide +kernel
theorem d_tr_queueBin_5 : decode b_tr_queueBin 5 = .ok (.iconst 1, 1) := by decide +kernel
theorem d_tr_queueBin_6 : decode b_tr_queueBin 6 = .ok (.istore_n 3, 1) := by decide +kernel
theorem d_tr_queueBin_7 : decode b_tr_queueBin 7 = .ok (.iload_n 3, 1) := by decide +kernel
theorem d_tr_queueBin_8 : decode b_tr_queueBin 8 = .ok (.aload_n 0, 1) := by decide +kernel
theorem d_tr_queueBin_9 : decode b_tr_queueBin 9 = .ok (.getfield 33, 3) := by decide +kernel
theorem d_tr_queueBin_12 : decode b_tr_queueBin 12 = .ok (.getfield 106, 3) := by decide +kernel
theorem d_tr_queueBin_15 : decode b_tr_queueBin 15 = .ok (.if_icmp .gt 47, 3) := by decide +kernel
theorem d_tr_queueBin_18 : decode b_tr_queueBin 18 = .ok (.aload_n 0, 1) := by decide +kernel
theorem d_tr_queueBin_19 : decode b_tr_queueBin 19 = .ok (.getfield 33, 3) := by decide +kernel
theorem d_tr_queueBin_22 : decode b_tr_queueBin 22 = .ok (.getfield 121, 3) := by decide +kernel
theorem d_tr_queueBin_25 : decode b_tr_queueBin 25 = .ok (.iload_n 3, 1) := by decide +kernel
theorem d_tr_queueBin_26 : decode b_tr_queueBin 26 = .ok (.iaload, 1) := by decide +kernel
theorem d_tr_queueBin_27 : decode b_tr_queueBin 27 = .ok (.ifCond .ne 29, 3) := by decide +kernel
theorem d_tr_queueBin_30 : decode b_tr_queueBin 30 = .ok (.aload_n 0, 1) := by decide +kernel
theorem d_tr_queueBin_31 : decode b_tr_queueBin 31 = .ok (.getfield 19, 3) := by decide +kernel
theorem d_tr_queueBin_34 : decode b_tr_queueBin 34 = .ok (.aload_n 0, 1) := by decide +kernel
theorem d_tr_queueBin_35 : decode b_tr_queueBin 35 = .ok (.getfield 33, 3) := by decide +kernel
theorem d_tr_queueBin_38 : decode b_tr_queueBin 38 = .ok (.getfield 174, 3) := by decide +kernel
theorem d_tr_queueBin_41 : decode b_tr_queueBin 41 = .ok (.iload_n 3, 1) := by decide +kernel
theorem d_tr_queueBin_42 : decode b_tr_queueBin 42 = .ok (.iaload, 1) := by decide +kernel
theorem d_tr_queueBin_43 : decode b_tr_queueBin 43 = .ok (.iload_n 1, 1) := by decide +kernel
theorem d_tr_queueBin_44 : decode b_tr_queueBin 44 = .ok (.iload_n 2, 1) := by decide +kernel
theorem d_tr_queueBin_45 : decode b_tr_queueBin 45 = .ok (.invokevirtual 189, 3) := by decide +kernel
theorem d_tr_queueBin_48 : decode b_tr_queueBin 48 = .ok (.ifCond .eq 8, 3) := by decide +kernel
theorem d_tr_queueBin_51 : decode b_tr_queueBin 51 = .ok (.aload_n 0, 1) := by decide +kernel
theorem d_tr_queueBin_52 : decode b_tr_queueBin 52 = .ok (.iload_n 3, 1) := by decide +kernel
theorem d_tr_queueBin_53 : decode b_tr_queueBin 53 = .ok (.invokevirtual 215, 3) := by decide +kernel
theorem d_tr_queueBin_56 : decode b_tr_queueBin 56 = .ok (.iinc 3 1, 3) := by decide +kernel
theorem d_tr_queueBin_59 : decode b_tr_queueBin 59 = .ok (.goto (-52), 3) := by decide +kernel
theorem d_tr_queueBin_62 : decode b_tr_queueBin 62 = .ok (.return_, 1) := by decide +kernel
theorem d_tr_enqueue_0 : decode b_tr_enqueue 0 = .ok (.aload_n 0, 1) := by decide +kernel
theorem d_tr_enqueue_1 : decode b_tr_enqueue 1 = .ok (.getfield 55, 3) := by decide +kernel
theorem d_tr_enqueue_4 : decode b_tr_enqueue 4 = .ok (.istore_n 2, 1) := by decide +kernel
theorem d_tr_enqueue_5 : decode b_tr_enqueue 5 = .ok (.iload_n 2, 1) := by decide +kernel
theorem d_tr_enqueue_6 : decode b_tr_enqueue 6 = .ok (.ifCond .le 39, 3) := by decide +kernel
theorem d_tr_enqueue_9 : decode b_tr_enqueue 9 = .ok (.aload_n 0, 1) := by decide +kernel
theorem d_tr_enqueue_10 : decode b_tr_enqueue 10 = .ok (.iload_n 1, 1) := by decide +kernel
theorem d_tr_enqueue_11 : decode b_tr_enqueue 11 = .ok (.aload_n 0, 1) := by decide +kernel
theorem d_tr_enqueue_12 : decode b_tr_enqueue 12 = .ok (.getfield 51, 3) := by decide +kernel
theorem d_tr_enqueue_15 : decode b_tr_enqueue 15 = .ok (.iload_n 2, 1) := by decide +kernel
theorem d_tr_enqueue_16 : decode b_tr_enqueue 16 = .ok (.iconst 1, 1) := by decide +kernel
theorem d_tr_enqueue_17 : decode b_tr_enqueue 17 = .ok (.isub, 1) := by decide +kernel
theorem d_tr_enqueue_18 : decode b_tr_enqueue 18 = .ok (.iaload, 1) := by decide +kernel
theorem d_tr_enqueue_19 : decode b_tr_enqueue 19 = .ok (.invokevirtual 219, 3) := by decide +kernel
theorem d_tr_enqueue_22 : decode b_tr_enqueue 22 = .ok (.ifCond .eq 23, 3) := by decide +kernel
theorem d_tr_enqueue_25 : decode b_tr_enqueue 25 = .ok (.aload_n 0, 1) := by decide +kernel
theorem d_tr_enqueue_26 : decode b_tr_enqueue 26 = .ok (.getfield 51, 3) := by decide +kernel
theorem d_tr_enqueue_29 : decode b_tr_enqueue 29 = .ok (.iload_n 2, 1) := by decide +kernel
theorem d_tr_enqueue_30 : decode b_tr_enqueue 30 = .ok (.aload_n 0, 1) := by decide +kernel
theorem d_tr_enqueue_31 : decode b_tr_enqueue 31 = .ok (.getfield 51, 3) := by decide +kernel
theorem d_tr_enqueue_34 : decode b_tr_enqueue 34 = .ok (.iload_n 2, 1) := by decide +kernel
theorem d_tr_enqueue_35 : decode b_tr_enqueue 35 = .ok (.iconst 1, 1) := by decide +kernel
theorem d_tr_enqueue_36 : decode b_tr_enqueue 36 = .ok (.isub, 1) := by decide +kernel
theorem d_tr_enqueue_37 : decode b_tr_enqueue 37 = .ok (.iaload, 1) := by decide +kernel
theorem d_tr_enqueue_38 : decode b_tr_enqueue 38 = .ok (.iastore, 1) := by decide +kernel
theorem d_tr_enqueue_39 : decode b_tr_enqueue 39 = .ok (.iinc 2 (-1), 3) := by decide +kernel
theorem d_tr_enqueue_42 : decode b_tr_enqueue 42 = .ok (.goto (-37), 3) := by decide +kernel
theorem d_tr_enqueue_45 : decode b_tr_enqueue 45 = .ok (.aload_n 0, 1) := by decide +kernel
theorem d_tr_enqueue_46 : decode b_tr_enqueue 46 = .ok (.getfield 51, 3) := by decide +kernel
theorem d_tr_enqueue_49 : decode b_tr_enqueue 49 = .ok (.iload_n 2, 1) := by decide +kernel
theorem d_tr_enqueue_50 : decode b_tr_enqueue 50 = .ok (.iload_n 1, 1) := by decide +kernel
theorem d_tr_enqueue_51 : decode b_tr_enqueue 51 = .ok (.iastore, 1) := by decide +kernel
theorem d_tr_enqueue_52 : decode b_tr_enqueue 52 = .ok (.aload_n 0, 1) := by decide +kernel
theorem d_tr_enqueue_53 : decode b_tr_enqueue 53 = .ok (.dup, 1) := by decide +kernel
theorem d_tr_enqueue_54 : decode b_tr_enqueue 54 = .ok (.getfield 55, 3) := by decide +kernel
theorem d_tr_enqueue_57 : decode b_tr_enqueue 57 = .ok (.iconst 1, 1) := by decide +kernel
theorem d_tr_enqueue_58 : decode b_tr_enqueue 58 = .ok (.iadd, 1) := by decide +kernel
theorem d_tr_enqueue_59 : decode b_tr_enqueue 59 = .ok (.putfield 55, 3) := by decide +kernel
theorem d_tr_enqueue_62 : decode b_tr_enqueue 62 = .ok (.return_, 1) := by decide +kernel
theorem d_tr_isBefore_0 : decode b_tr_isBefore 0 = .ok (.aload_n 0, 1) := by decide +kernel
theorem d_tr_isBefore_1 : decode b_tr_isBefore 1 = .ok (.getfield 26, 3) := by decide +kernel
theorem d_tr_isBefore_4 : decode b_tr_isBefore 4 = .ok (.getfield 94, 3) := by decide +kernel
theorem d_tr_isBefore_7 : decode b_tr_isBefore 7 = .ok (.aload_n 0, 1) := by decide +kernel
theorem d_tr_isBefore_8 : decode b_tr_isBefore 8 = .ok (.getfield 33, 3) := by decide +kernel
theorem d_tr_isBefore_11 : decode b_tr_isBefore 11 = .ok (.getfield 124, 3) := by decide +kernel
theorem d_tr_isBefore_14 : decode b_tr_isBefore 14 = .ok (.iload_n 1, 1) := by decide +kernel
theorem d_tr_isBefore_15 : decode b_tr_isBefore 15 = .ok (.iaload, 1) := by decide +kernel
theorem d_tr_isBefore_16 : decode b_tr_isBefore 16 = .ok (.baload, 1) := by decide +kernel
theorem d_tr_isBefore_17 : decode b_tr_isBefore 17 = .ok (.istore_n 3, 1) := by decide +kernel
theorem d_tr_isBefore_18 : decode b_tr_isBefore 18 = .ok (.iload_n 3, 1) := by decide +kernel
theorem d_tr_isBefore_19 : decode b_tr_isBefore 19 = .ok (.aload_n 0, 1) := by decide +kernel
theorem d_tr_isBefore_20 : decode b_tr_isBefore 20 = .ok (.getfield 26, 3) := by decide +kernel
theorem d_tr_isBefore_23 : decode b_tr_isBefore 23 = .ok (.getfield 94, 3) := by decide +kernel
theorem d_tr_isBefore_26 : decode b_tr_isBefore 26 = .ok (.aload_n 0, 1) := by decide +kernel
theorem d_tr_isBefore_27 : decode b_tr_isBefore 27 = .ok (.getfield 33, 3) := by decide +kernel
theorem d_tr_isBefore_30 : decode b_tr_isBefore 30 = .ok (.getfield 124, 3) := by decide +kernel
theorem d_tr_isBefore_33 : decode b_tr_isBefore 33 = .ok (.iload_n 2, 1) := by decide +kernel
theorem d_tr_isBefore_34 : decode b_tr_isBefore 34 = .ok (.iaload, 1) := by decide +kernel
theorem d_tr_isBefore_35 : decode b_tr_isBefore 35 = .ok (.baload, 1) := by decide +kernel
theorem d_tr_isBefore_36 : decode b_tr_isBefore 36 = .ok (.if_icmp .eq 5, 3) := by decide +kernel
theorem d_tr_isBefore_39 : decode b_tr_isBefore 39 = .ok (.iload_n 3, 1) := by decide +kernel
theorem d_tr_isBefore_40 : decode b_tr_isBefore 40 = .ok (.ireturn, 1) := by decide +kernel
theorem d_tr_isBefore_41 : decode b_tr_isBefore 41 = .ok (.aload_n 0, 1) := by decide +kernel
theorem d_tr_isBefore_42 : decode b_tr_isBefore 42 = .ok (.getfield 33, 3) := by decide +kernel
theorem d_tr_isBefore_45 : decode b_tr_isBefore 45 = .ok (.getfield 171, 3) := by decide +kernel
theorem d_tr_isBefore_48 : decode b_tr_isBefore 48 = .ok (.iload_n 1, 1) := by decide +kernel
theorem d_tr_isBefore_49 : decode b_tr_isBefore 49 = .ok (.iaload, 1) := by decide +kernel
theorem d_tr_isBefore_50 : decode b_tr_isBefore 50 = .ok (.aload_n 0, 1) := by decide +kernel
theorem d_tr_isBefore_51 : decode b_tr_isBefore 51 = .ok (.getfield 33, 3) := by decide +kernel
theorem d_tr_isBefore_54 : decode b_tr_isBefore 54 = .ok (.getfield 171, 3) := by decide +kernel
theorem d_tr_isBefore_57 : decode b_tr_isBefore 57 = .ok (.iload_n 2, 1) := by decide +kernel
theorem d_tr_isBefore_58 : decode b_tr_isBefore 58 = .ok (.iaload, 1) := by decide +kernel
theorem d_tr_isBefore_59 : decode b_tr_isBefore 59 = .ok (.if_icmp .eq 30, 3) := by decide +kernel
theorem d_tr_isBefore_62 : decode b_tr_isBefore 62 = .ok (.aload_n 0, 1) := by decide +kernel
theorem d_tr_isBefore_63 : decode b_tr_isBefore 63 = .ok (.getfield 33, 3) := by decide +kernel
theorem d_tr_isBefore_66 : decode b_tr_isBefore 66 = .ok (.getfield 171, 3) := by decide +kernel
theorem d_tr_isBefore_69 : decode b_tr_isBefore 69 = .ok (.iload_n 1, 1) := by decide +kernel
theorem d_tr_isBefore_70 : decode b_tr_isBefore 70 = .ok (.iaload, 1) := by decide +kernel
theorem d_tr_isBefore_71 : decode b_tr_isBefore 71 = .ok (.aload_n 0, 1) := by decide +kernel
theorem d_tr_isBefore_72 : decode b_tr_isBefore 72 = .ok (.getfield 33, 3) := by decide +kernel
theorem d_tr_isBefore_75 : decode b_tr_isBefore 75 = .ok (.getfield 171, 3) := by decide +kernel
theorem d_tr_isBefore_78 : decode b_tr_isBefore 78 = .ok (.iload_n 2, 1) := by decide +kernel
theorem d_tr_isBefore_79 : decode b_tr_isBefore 79 = .ok (.iaload, 1) := by decide +kernel
theorem d_tr_isBefore_80 : decode b_tr_isBefore 80 = .ok (.if_icmp .ge 7, 3) := by decide +kernel
theorem d_tr_isBefore_83 : decode b_tr_isBefore 83 = .ok (.iconst 1, 1) := by decide +kernel
theorem d_tr_isBefore_84 : decode b_tr_isBefore 84 = .ok (.goto 4, 3) := by decide +kernel
theorem d_tr_isBefore_87 : decode b_tr_isBefore 87 = .ok (.iconst 0, 1) := by decide +kernel
theorem d_tr_isBefore_88 : decode b_tr_isBefore 88 = .ok (.ireturn, 1) := by decide +kernel
theorem d_tr_isBefore_89 : decode b_tr_isBefore 89 = .ok (.iload_n 1, 1) := by decide +kernel
theorem d_tr_isBefore_90 : decode b_tr_isBefore 90 = .ok (.iload_n 2, 1) := by decide +kernel
theorem d_tr_isBefore_91 : decode b_tr_isBefore 91 = .ok (.if_icmp .ge 7, 3) := by decide +kernel
theorem d_tr_isBefore_94 : decode b_tr_isBefore 94 = .ok (.iconst 1, 1) := by decide +kernel
theorem d_tr_isBefore_95 : decode b_tr_isBefore 95 = .ok (.goto 4, 3) := by decide +kernel
theorem d_tr_isBefore_98 : decode b_tr_isBefore 98 = .ok (.iconst 0, 1) := by decide +kernel
theorem d_tr_isBefore_99 : decode b_tr_isBefore 99 = .ok (.ireturn, 1) := by decide +kernel
theorem d_tr_load_0 : decode b_tr_load 0 = .ok (.aload_n 0, 1) := by decide +kernel
theorem d_tr_load_1 : decode b_tr_load 1 = .ok (.getfield 19, 3) := by decide +kernel
theorem d_tr_load_4 : decode b_tr_load 4 = .ok (.iload_n 1, 1) := by decide +kernel
theorem d_tr_load_5 : decode b_tr_load 5 = .ok (.invokevirtual 74, 3) := by decide +kernel
theorem d_tr_load_8 : decode b_tr_load 8 = .ok (.ifCond .eq 22, 3) := by decide +kernel
theorem d_tr_load_11 : decode b_tr_load 11 = .ok (.iload_n 2, 1) := by decide +kernel
theorem d_tr_load_12 : decode b_tr_load 12 = .ok (.invokestatic 75, 3) := by decide +kernel
theorem d_tr_load_15 : decode b_tr_load 15 = .ok (.ifCond .eq 15, 3) := by decide +kernel
theorem d_tr_load_18 : decode b_tr_load 18 = .ok (.aload_n 0, 1) := by decide +kernel
theorem d_tr_load_19 : decode b_tr_load 19 = .ok (.getfield 19, 3) := by decide +kernel
theorem d_tr_load_22 : decode b_tr_load 22 = .ok (.iload_n 1, 1) := by decide +kernel
theorem d_tr_load_23 : decode b_tr_load 23 = .ok (.iload_n 2, 1) := by decide +kernel
theorem d_tr_load_24 : decode b_tr_load 24 = .ok (.invokevirtual 131, 3) := by decide +kernel
theorem d_tr_load_27 : decode b_tr_load 27 = .ok (.ifCond .ne 5, 3) := by decide +kernel
theorem d_tr_load_30 : decode b_tr_load 30 = .ok (.iconst 0, 1) := by decide +kernel
theorem d_tr_load_31 : decode b_tr_load 31 = .ok (.ireturn, 1) := by decide +kernel
theorem d_tr_load_32 : decode b_tr_load 32 = .ok (.aload_n 0, 1) := by decide +kernel
theorem d_tr_load_33 : decode b_tr_load 33 = .ok (.getfield 19, 3) := by decide +kernel
theorem d_tr_load_36 : decode b_tr_load 36 = .ok (.getfield 134, 3) := by decide +kernel
theorem d_tr_load_39 : decode b_tr_load 39 = .ok (.iload_n 1, 1) := by decide +kernel
theorem d_tr_load_40 : decode b_tr_load 40 = .ok (.iaload, 1) := by decide +kernel
theorem d_tr_load_41 : decode b_tr_load 41 = .ok (.iload_n 2, 1) := by decide +kernel
theorem d_tr_load_42 : decode b_tr_load 42 = .ok (.if_icmp .ge 15, 3) := by decide +kernel
theorem d_tr_load_45 : decode b_tr_load 45 = .ok (.aload_n 0, 1) := by decide +kernel
theorem d_tr_load_46 : decode b_tr_load 46 = .ok (.getfield 40, 3) := by decide +kernel
theorem d_tr_load_49 : decode b_tr_load 49 = .ok (.getfield 137, 3) := by decide +kernel
theorem d_tr_load_52 : decode b_tr_load 52 = .ok (.bipush 60, 2) := by decide +kernel
theorem d_tr_load_54 : decode b_tr_load 54 = .ok (.if_icmp .ne 5, 3) := by decide +kernel
theorem d_tr_load_57 : decode b_tr_load 57 = .ok (.iconst 0, 1) := by decide +kernel
theorem d_tr_load_58 : decode b_tr_load 58 = .ok (.ireturn, 1) := by decide +kernel
theorem d_tr_load_59 : decode b_tr_load 59 = .ok (.aload_n 0, 1) := by decide +kernel
theorem d_tr_load_60 : decode b_tr_load 60 = .ok (.getfield 19, 3) := by decide +kernel
theorem d_tr_load_63 : decode b_tr_load 63 = .ok (.getfield 134, 3) := by decide +kernel
theorem d_tr_load_66 : decode b_tr_load 66 = .ok (.iload_n 1, 1) := by decide +kernel
theorem d_tr_load_67 : decode b_tr_load 67 = .ok (.iload_n 2, 1) := by decide +kernel
theorem d_tr_load_68 : decode b_tr_load 68 = .ok (.iastore, 1) := by decide +kernel
theorem d_tr_load_69 : decode b_tr_load 69 = .ok (.aload_n 0, 1) := by decide +kernel
theorem d_tr_load_70 : decode b_tr_load 70 = .ok (.getfield 40, 3) := by decide +kernel
theorem d_tr_load_73 : decode b_tr_load 73 = .ok (.invokevirtual 138, 3) := by decide +kernel
theorem d_tr_load_76 : decode b_tr_load 76 = .ok (.istore_n 3, 1) := by decide +kernel
theorem d_tr_load_77 : decode b_tr_load 77 = .ok (.aload_n 0, 1) := by decide +kernel
theorem d_tr_load_78 : decode b_tr_load 78 = .ok (.iload_n 1, 1) := by decide +kernel
theorem d_tr_load_79 : decode b_tr_load 79 = .ok (.iload_n 2, 1) := by decide +kernel
theorem d_tr_load_80 : decode b_tr_load 80 = .ok (.invokevirtual 141, 3) := by decide +kernel
theorem d_tr_load_83 : decode b_tr_load 83 = .ok (.aload_n 0, 1) := by decide +kernel
theorem d_tr_load_84 : decode b_tr_load 84 = .ok (.getfield 10, 3) := by decide +kernel
theorem d_tr_load_87 : decode b_tr_load 87 = .ok (.getfield 67, 3) := by decide +kernel
theorem d_tr_load_90 : decode b_tr_load 90 = .ok (.aload_n 0, 1) := by decide +kernel
theorem d_tr_load_91 : decode b_tr_load 91 = .ok (.getfield 19, 3) := by decide +kernel
theorem d_tr_load_94 : decode b_tr_load 94 = .ok (.getfield 144, 3) := by decide +kernel
theorem d_tr_load_97 : decode b_tr_load 97 = .ok (.iload_n 1, 1) := by decide +kernel
theorem d_tr_load_98 : decode b_tr_load 98 = .ok (.iaload, 1) := by decide +kernel
theorem d_tr_load_99 : decode b_tr_load 99 = .ok (.baload, 1) := by decide +kernel
theorem d_tr_load_100 : decode b_tr_load 100 = .ok (.ifCond .eq 38, 3) := by decide +kernel
theorem d_tr_load_103 : decode b_tr_load 103 = .ok (.aload_n 0, 1) := by decide +kernel
theorem d_tr_load_104 : decode b_tr_load 104 = .ok (.getfield 55, 3) := by decide +kernel
theorem d_tr_load_107 : decode b_tr_load 107 = .ok (.aload_n 0, 1) := by decide +kernel
theorem d_tr_load_108 : decode b_tr_load 108 = .ok (.getfield 19, 3) := by decide +kernel
theorem d_tr_load_111 : decode b_tr_load 111 = .ok (.getfield 147, 3) := by decide +kernel
theorem d_tr_load_114 : decode b_tr_load 114 = .ok (.iload_n 1, 1) := by decide +kernel
theorem d_tr_load_115 : decode b_tr_load 115 = .ok (.iaload, 1) := by decide +kernel
theorem d_tr_load_116 : decode b_tr_load 116 = .ok (.invokestatic 150, 3) := by decide +kernel
theorem d_tr_load_119 : decode b_tr_load 119 = .ok (.istore 4, 2) := by decide +kernel
theorem d_tr_load_121 : decode b_tr_load 121 = .ok (.aload_n 0, 1) := by decide +kernel
theorem d_tr_load_122 : decode b_tr_load 122 = .ok (.iload 4, 2) := by decide +kernel
theorem d_tr_load_124 : decode b_tr_load 124 = .ok (.iload_n 2, 1) := by decide +kernel
theorem d_tr_load_125 : decode b_tr_load 125 = .ok (.invokevirtual 155, 3) := by decide +kernel
theorem d_tr_load_128 : decode b_tr_load 128 = .ok (.aload_n 0, 1) := by decide +kernel
theorem d_tr_load_129 : decode b_tr_load 129 = .ok (.iload 4, 2) := by decide +kernel
theorem d_tr_load_131 : decode b_tr_load 131 = .ok (.iconst 2, 1) := by decide +kernel
theorem d_tr_load_132 : decode b_tr_load 132 = .ok (.invokevirtual 158, 3) := by decide +kernel
theorem d_tr_load_135 : decode b_tr_load 135 = .ok (.goto 9, 3) := by decide +kernel
theorem d_tr_load_138 : decode b_tr_load 138 = .ok (.aload_n 0, 1) := by decide +kernel
theorem d_tr_load_139 : decode b_tr_load 139 = .ok (.iconst 0, 1) := by decide +kernel
theorem d_tr_load_140 : decode b_tr_load 140 = .ok (.iconst 1, 1) := by decide +kernel
theorem d_tr_load_141 : decode b_tr_load 141 = .ok (.invokevirtual 158, 3) := by decide +kernel
theorem d_tr_load_144 : decode b_tr_load 144 = .ok (.iload_n 3, 1) := by decide +kernel
theorem d_tr_load_145 : decode b_tr_load 145 = .ok (.ireturn, 1) := by decide +kernel
theorem d_tr_queueDue_0 : decode b_tr_queueDue 0 = .ok (.aload_n 0, 1) := by decide +kernel
theorem d_tr_queueDue_1 : decode b_tr_queueDue 1 = .ok (.iconst 0, 1) := by decide +kernel
theorem d_tr_queueDue_2 : decode b_tr_queueDue 2 = .ok (.putfield 55, 3) := by decide +kernel
theorem d_tr_queueDue_5 : decode b_tr_queueDue 5 = .ok (.iconst 1, 1) := by decide +kernel
theorem d_tr_queueDue_6 : decode b_tr_queueDue 6 = .ok (.istore_n 3, 1) := by decide +kernel
theorem d_tr_queueDue_7 : decode b_tr_queueDue 7 = .ok (.iload_n 3, 1) := by decide +kernel
theorem d_tr_queueDue_8 : decode b_tr_queueDue 8 = .ok (.aload_n 0, 1) := by decide +kernel
theorem d_tr_queueDue_9 : decode b_tr_queueDue 9 = .ok (.getfield 33, 3) := by decide +kernel
theorem d_tr_queueDue_12 : decode b_tr_queueDue 12 = .ok (.getfield 106, 3) := by decide +kernel
theorem d_tr_queueDue_15 : decode b_tr_queueDue 15 = .ok (.if_icmp .gt 64, 3) := by decide +kernel
theorem d_tr_queueDue_18 : decode b_tr_queueDue 18 = .ok (.aload_n 0, 1) := by decide +kernel
theorem d_tr_queueDue_19 : decode b_tr_queueDue 19 = .ok (.getfield 33, 3) := by decide +kernel
theorem d_tr_queueDue_22 : decode b_tr_queueDue 22 = .ok (.getfield 121, 3) := by decide +kernel
theorem d_tr_queueDue_25 : decode b_tr_queueDue 25 = .ok (.iload_n 3, 1) := by decide +kernel
theorem d_tr_queueDue_26 : decode b_tr_queueDue 26 = .ok (.iaload, 1) := by decide +kernel
theorem d_tr_queueDue_27 : decode b_tr_queueDue 27 = .ok (.ifCond .ne 20, 3) := by decide +kernel
theorem d_tr_queueDue_30 : decode b_tr_queueDue 30 = .ok (.aload_n 0, 1) := by decide +kernel
theorem d_tr_queueDue_31 : decode b_tr_queueDue 31 = .ok (.getfield 33, 3) := by decide +kernel
theorem d_tr_queueDue_34 : decode b_tr_queueDue 34 = .ok (.getfield 174, 3) := by decide +kernel
theorem d_tr_queueDue_37 : decode b_tr_queueDue 37 = .ok (.iload_n 3, 1) := by decide +kernel
theorem d_tr_queueDue_38 : decode b_tr_queueDue 38 = .ok (.iaload, 1) := by decide +kernel
theorem d_tr_queueDue_39 : decode b_tr_queueDue 39 = .ok (.iload_n 1, 1) := by decide +kernel
theorem d_tr_queueDue_40 : decode b_tr_queueDue 40 = .ok (.if_icmp .ne 7, 3) := by decide +kernel
theorem d_tr_queueDue_43 : decode b_tr_queueDue 43 = .ok (.iconst 1, 1) := by decide +kernel
theorem d_tr_queueDue_44 : decode b_tr_queueDue 44 = .ok (.goto 4, 3) := by decide +kernel
theorem d_tr_queueDue_47 : decode b_tr_queueDue 47 = .ok (.iconst 0, 1) := by decide +kernel
theorem d_tr_queueDue_48 : decode b_tr_queueDue 48 = .ok (.istore 4, 2) := by decide +kernel
theorem d_tr_queueDue_50 : decode b_tr_queueDue 50 = .ok (.iload 4, 2) := by decide +kernel
theorem d_tr_queueDue_52 : decode b_tr_queueDue 52 = .ok (.ifCond .eq 21, 3) := by decide +kernel
theorem d_tr_queueDue_55 : decode b_tr_queueDue 55 = .ok (.aload_n 0, 1) := by decide +kernel
theorem d_tr_queueDue_56 : decode b_tr_queueDue 56 = .ok (.getfield 33, 3) := by decide +kernel
theorem d_tr_queueDue_59 : decode b_tr_queueDue 59 = .ok (.getfield 171, 3) := by decide +kernel
theorem d_tr_queueDue_62 : decode b_tr_queueDue 62 = .ok (.iload_n 3, 1) := by decide +kernel
theorem d_tr_queueDue_63 : decode b_tr_queueDue 63 = .ok (.iaload, 1) := by decide +kernel
theorem d_tr_queueDue_64 : decode b_tr_queueDue 64 = .ok (.iload_n 2, 1) := by decide +kernel
theorem d_tr_queueDue_65 : decode b_tr_queueDue 65 = .ok (.if_icmp .gt 8, 3) := by decide +kernel
theorem d_tr_queueDue_68 : decode b_tr_queueDue 68 = .ok (.aload_n 0, 1) := by decide +kernel
theorem d_tr_queueDue_69 : decode b_tr_queueDue 69 = .ok (.iload_n 3, 1) := by decide +kernel
theorem d_tr_queueDue_70 : decode b_tr_queueDue 70 = .ok (.invokevirtual 215, 3) := by decide +kernel
theorem d_tr_queueDue_73 : decode b_tr_queueDue 73 = .ok (.iinc 3 1, 3) := by decide +kernel
theorem d_tr_queueDue_76 : decode b_tr_queueDue 76 = .ok (.goto (-69), 3) := by decide +kernel
theorem d_tr_queueDue_79 : decode b_tr_queueDue 79 = .ok (.return_, 1) := by decide +kernel
theorem d_tr_takeFromQueue_0 : decode b_tr_takeFromQueue 0 = .ok (.iconst 0, 1) := by decide +kernel
theorem d_tr_takeFromQueue_1 : decode b_tr_takeFromQueue 1 = .ok (.istore_n 3, 1) := by decide +kernel
theorem d_tr_takeFromQueue_2 : decode b_tr_takeFromQueue 2 = .ok (.iload_n 3, 1) := by decide +kernel
theorem d_tr_takeFromQueue_3 : decode b_tr_takeFromQueue 3 = .ok (.iload_n 1, 1) := by decide +kernel
theorem d_tr_takeFromQueue_4 : decode b_tr_takeFromQueue 4 = .ok (.if_icmp .ge 48, 3) := by decide +kernel
theorem d_tr_takeFromQueue_7 : decode b_tr_takeFromQueue 7 = .ok (.aload_n 0, 1) := by decide +kernel
theorem d_tr_takeFromQueue_8 : decode b_tr_takeFromQueue 8 = .ok (.getfield 51, 3) := by decide +kernel
theorem d_tr_takeFromQueue_11 : decode b_tr_takeFromQueue 11 = .ok (.iload_n 3, 1) := by decide +kernel
theorem d_tr_takeFromQueue_12 : decode b_tr_takeFromQueue 12 = .ok (.iaload, 1) := by decide +kernel
theorem d_tr_takeFromQueue_13 : decode b_tr_takeFromQueue 13 = .ok (.istore 4, 2) := by decide +kernel
theorem d_tr_takeFromQueue_15 : decode b_tr_takeFromQueue 15 = .ok (.aload_n 0, 1) := by decide +kernel
theorem d_tr_takeFromQueue_16 : decode b_tr_takeFromQueue 16 = .ok (.getfield 33, 3) := by decide +kernel
theorem d_tr_takeFromQueue_19 : decode b_tr_takeFromQueue 19 = .ok (.getfield 121, 3) := by decide +kernel
theorem d_tr_takeFromQueue_22 : decode b_tr_takeFromQueue 22 = .ok (.iload 4, 2) := by decide +kernel
theorem d_tr_takeFromQueue_24 : decode b_tr_takeFromQueue 24 = .ok (.iconst 1, 1) := by decide +kernel
theorem d_tr_takeFromQueue_25 : decode b_tr_takeFromQueue 25 = .ok (.iastore, 1) := by decide +kernel
theorem d_tr_takeFromQueue_26 : decode b_tr_takeFromQueue 26 = .ok (.aload_n 0, 1) := by decide +kernel
theorem d_tr_takeFromQueue_27 : decode b_tr_takeFromQueue 27 = .ok (.getfield 33, 3) := by decide +kernel
theorem d_tr_takeFromQueue_30 : decode b_tr_takeFromQueue 30 = .ok (.getfield 171, 3) := by decide +kernel
theorem d_tr_takeFromQueue_33 : decode b_tr_takeFromQueue 33 = .ok (.iload 4, 2) := by decide +kernel
theorem d_tr_takeFromQueue_35 : decode b_tr_takeFromQueue 35 = .ok (.iload_n 2, 1) := by decide +kernel
theorem d_tr_takeFromQueue_36 : decode b_tr_takeFromQueue 36 = .ok (.iastore, 1) := by decide +kernel
theorem d_tr_takeFromQueue_37 : decode b_tr_takeFromQueue 37 = .ok (.aload_n 0, 1) := by decide +kernel
theorem d_tr_takeFromQueue_38 : decode b_tr_takeFromQueue 38 = .ok (.getfield 40, 3) := by decide +kernel
theorem d_tr_takeFromQueue_41 : decode b_tr_takeFromQueue 41 = .ok (.iload 4, 2) := by decide +kernel
theorem d_tr_takeFromQueue_43 : decode b_tr_takeFromQueue 43 = .ok (.invokevirtual 222, 3) := by decide +kernel
theorem d_tr_takeFromQueue_46 : decode b_tr_takeFromQueue 46 = .ok (.iinc 3 1, 3) := by decide +kernel
theorem d_tr_takeFromQueue_49 : decode b_tr_takeFromQueue 49 = .ok (.goto (-47), 3) := by decide +kernel
theorem d_tr_takeFromQueue_52 : decode b_tr_takeFromQueue 52 = .ok (.return_, 1) := by decide +kernel
theorem d_tr_tellQueue_0 : decode b_tr_tellQueue 0 = .ok (.iload_n 1, 1) := by decide +kernel
theorem d_tr_tellQueue_1 : decode b_tr_tellQueue 1 = .ok (.istore_n 3, 1) := by decide +kernel
theorem d_tr_tellQueue_2 : decode b_tr_tellQueue 2 = .ok (.iload_n 3, 1) := by decide +kernel
theorem d_tr_tellQueue_3 : decode b_tr_tellQueue 3 = .ok (.aload_n 0, 1) := by decide +kernel
theorem d_tr_tellQueue_4 : decode b_tr_tellQueue 4 = .ok (.getfield 55, 3) := by decide +kernel
theorem d_tr_tellQueue_7 : decode b_tr_tellQueue 7 = .ok (.if_icmp .ge 23, 3) := by decide +kernel
theorem d_tr_tellQueue_10 : decode b_tr_tellQueue 10 = .ok (.aload_n 0, 1) := by decide +kernel
theorem d_tr_tellQueue_11 : decode b_tr_tellQueue 11 = .ok (.getfield 47, 3) := by decide +kernel
theorem d_tr_tellQueue_14 : decode b_tr_tellQueue 14 = .ok (.iload_n 2, 1) := by decide +kernel
theorem d_tr_tellQueue_15 : decode b_tr_tellQueue 15 = .ok (.aload_n 0, 1) := by decide +kernel
theorem d_tr_tellQueue_16 : decode b_tr_tellQueue 16 = .ok (.getfield 51, 3) := by decide +kernel
theorem d_tr_tellQueue_19 : decode b_tr_tellQueue 19 = .ok (.iload_n 3, 1) := by decide +kernel
theorem d_tr_tellQueue_20 : decode b_tr_tellQueue 20 = .ok (.iaload, 1) := by decide +kernel
theorem d_tr_tellQueue_21 : decode b_tr_tellQueue 21 = .ok (.invokevirtual 225, 3) := by decide +kernel
theorem d_tr_tellQueue_24 : decode b_tr_tellQueue 24 = .ok (.iinc 3 1, 3) := by decide +kernel
theorem d_tr_tellQueue_27 : decode b_tr_tellQueue 27 = .ok (.goto (-25), 3) := by decide +kernel
theorem d_tr_tellQueue_30 : decode b_tr_tellQueue 30 = .ok (.return_, 1) := by decide +kernel
theorem d_tr_loaded_0 : decode b_tr_loaded 0 = .ok (.aload_n 0, 1) := by decide +kernel
theorem d_tr_loaded_1 : decode b_tr_loaded 1 = .ok (.getfield 40, 3) := by decide +kernel
theorem d_tr_loaded_4 : decode b_tr_loaded 4 = .ok (.iload_n 1, 1) := by decide +kernel
theorem d_tr_loaded_5 : decode b_tr_loaded 5 = .ok (.invokevirtual 161, 3) := by decide +kernel
theorem d_tr_loaded_8 : decode b_tr_loaded 8 = .ok (.ifCond .eq 19, 3) := by decide +kernel
theorem d_tr_loaded_11 : decode b_tr_loaded 11 = .ok (.iload_n 2, 1) := by decide +kernel
theorem d_tr_loaded_12 : decode b_tr_loaded 12 = .ok (.ifCond .lt 15, 3) := by decide +kernel
theorem d_tr_loaded_15 : decode b_tr_loaded 15 = .ok (.iload_n 2, 1) := by decide +kernel
theorem d_tr_loaded_16 : decode b_tr_loaded 16 = .ok (.aload_n 0, 1) := by decide +kernel
theorem d_tr_loaded_17 : decode b_tr_loaded 17 = .ok (.getfield 40, 3) := by decide +kernel
theorem d_tr_loaded_20 : decode b_tr_loaded 20 = .ok (.iload_n 1, 1) := by decide +kernel
theorem d_tr_loaded_21 : decode b_tr_loaded 21 = .ok (.invokevirtual 162, 3) := by decide +kernel
theorem d_tr_loaded_24 : decode b_tr_loaded 24 = .ok (.if_icmp .lt 5, 3) := by decide +kernel
theorem d_tr_loaded_27 : decode b_tr_loaded 27 = .ok (.iconst 0, 1) := by decide +kernel
theorem d_tr_loaded_28 : decode b_tr_loaded 28 = .ok (.ireturn, 1) := by decide +kernel
theorem d_tr_loaded_29 : decode b_tr_loaded 29 = .ok (.aload_n 0, 1) := by decide +kernel
theorem d_tr_loaded_30 : decode b_tr_loaded 30 = .ok (.getfield 40, 3) := by decide +kernel
theorem d_tr_loaded_33 : decode b_tr_loaded 33 = .ok (.iload_n 1, 1) := by decide +kernel
theorem d_tr_loaded_34 : decode b_tr_loaded 34 = .ok (.iload_n 2, 1) := by decide +kernel
theorem d_tr_loaded_35 : decode b_tr_loaded 35 = .ok (.invokevirtual 165, 3) := by decide +kernel
theorem d_tr_loaded_38 : decode b_tr_loaded 38 = .ok (.ireturn, 1) := by decide +kernel
theorem d_tr_missing_0 : decode b_tr_missing 0 = .ok (.aload_n 0, 1) := by decide +kernel
theorem d_tr_missing_1 : decode b_tr_missing 1 = .ok (.getfield 40, 3) := by decide +kernel
theorem d_tr_missing_4 : decode b_tr_missing 4 = .ok (.iload_n 1, 1) := by decide +kernel
theorem d_tr_missing_5 : decode b_tr_missing 5 = .ok (.invokevirtual 161, 3) := by decide +kernel
theorem d_tr_missing_8 : decode b_tr_missing 8 = .ok (.ifCond .eq 7, 3) := by decide +kernel
theorem d_tr_missing_11 : decode b_tr_missing 11 = .ok (.iload_n 2, 1) := by decide +kernel
theorem d_tr_missing_12 : decode b_tr_missing 12 = .ok (.ifCond .ge 5, 3) := by decide +kernel
theorem d_tr_missing_15 : decode b_tr_missing 15 = .ok (.iconst 0, 1) := by decide +kernel
theorem d_tr_missing_16 : decode b_tr_missing 16 = .ok (.ireturn, 1) := by decide +kernel
theorem d_tr_missing_17 : decode b_tr_missing 17 = .ok (.iconst 0, 1) := by decide +kernel
theorem d_tr_missing_18 : decode b_tr_missing 18 = .ok (.istore_n 3, 1) := by decide +kernel
theorem d_tr_missing_19 : decode b_tr_missing 19 = .ok (.iconst 0, 1) := by decide +kernel
theorem d_tr_missing_20 : decode b_tr_missing 20 = .ok (.istore 4, 2) := by decide +kernel
theorem d_tr_missing_22 : decode b_tr_missing 22 = .ok (.iload 4, 2) := by decide +kernel
theorem d_tr_missing_24 : decode b_tr_missing 24 = .ok (.aload_n 0, 1) := by decide +kernel
theorem d_tr_missing_25 : decode b_tr_missing 25 = .ok (.getfield 40, 3) := by decide +kernel
theorem d_tr_missing_28 : decode b_tr_missing 28 = .ok (.iload_n 1, 1) := by decide +kernel
theorem d_tr_missing_29 : decode b_tr_missing 29 = .ok (.invokevirtual 162, 3) := by decide +kernel
theorem d_tr_missing_32 : decode b_tr_missing 32 = .ok (.if_icmp .ge 44, 3) := by decide +kernel
theorem d_tr_missing_35 : decode b_tr_missing 35 = .ok (.aload_n 0, 1) := by decide +kernel
theorem d_tr_missing_36 : decode b_tr_missing 36 = .ok (.getfield 40, 3) := by decide +kernel
theorem d_tr_missing_39 : decode b_tr_missing 39 = .ok (.iload_n 1, 1) := by decide +kernel
theorem d_tr_missing_40 : decode b_tr_missing 40 = .ok (.iload 4, 2) := by decide +kernel
theorem d_tr_missing_42 : decode b_tr_missing 42 = .ok (.invokevirtual 165, 3) := by decide +kernel
theorem d_tr_missing_45 : decode b_tr_missing 45 = .ok (.istore 5, 2) := by decide +kernel
theorem d_tr_missing_47 : decode b_tr_missing 47 = .ok (.aload_n 0, 1) := by decide +kernel
theorem d_tr_missing_48 : decode b_tr_missing 48 = .ok (.getfield 33, 3) := by decide +kernel
theorem d_tr_missing_51 : decode b_tr_missing 51 = .ok (.iload 5, 2) := by decide +kernel
theorem d_tr_missing_53 : decode b_tr_missing 53 = .ok (.invokevirtual 168, 3) := by decide +kernel
theorem d_tr_missing_56 : decode b_tr_missing 56 = .ok (.ifCond .eq 14, 3) := by decide +kernel
theorem d_tr_missing_59 : decode b_tr_missing 59 = .ok (.iload_n 3, 1) := by decide +kernel
theorem d_tr_missing_60 : decode b_tr_missing 60 = .ok (.iload_n 2, 1) := by decide +kernel
theorem d_tr_missing_61 : decode b_tr_missing 61 = .ok (.if_icmp .ne 6, 3) := by decide +kernel
theorem d_tr_missing_64 : decode b_tr_missing 64 = .ok (.iload 5, 2) := by decide +kernel
theorem d_tr_missing_66 : decode b_tr_missing 66 = .ok (.ireturn, 1) := by decide +kernel
theorem d_tr_missing_67 : decode b_tr_missing 67 = .ok (.iinc 3 1, 3) := by decide +kernel
theorem d_tr_missing_70 : decode b_tr_missing 70 = .ok (.iinc 4 1, 3) := by decide +kernel
theorem d_tr_missing_73 : decode b_tr_missing 73 = .ok (.goto (-51), 3) := by decide +kernel
theorem d_tr_missing_76 : decode b_tr_missing 76 = .ok (.iconst 0, 1) := by decide +kernel
theorem d_tr_missing_77 : decode b_tr_missing 77 = .ok (.ireturn, 1) := by decide +kernel
theorem d_tr_arrive_0 : decode b_tr_arrive 0 = .ok (.aload_n 0, 1) := by decide +kernel
theorem d_tr_arrive_1 : decode b_tr_arrive 1 = .ok (.getfield 33, 3) := by decide +kernel
theorem d_tr_arrive_4 : decode b_tr_arrive 4 = .ok (.iload_n 1, 1) := by decide +kernel
theorem d_tr_arrive_5 : decode b_tr_arrive 5 = .ok (.invokevirtual 120, 3) := by decide +kernel
theorem d_tr_arrive_8 : decode b_tr_arrive 8 = .ok (.ifCond .eq 21, 3) := by decide +kernel
theorem d_tr_arrive_11 : decode b_tr_arrive 11 = .ok (.aload_n 0, 1) := by decide +kernel
theorem d_tr_arrive_12 : decode b_tr_arrive 12 = .ok (.getfield 10, 3) := by decide +kernel
theorem d_tr_arrive_15 : decode b_tr_arrive 15 = .ok (.iload_n 2, 1) := by decide +kernel
theorem d_tr_arrive_16 : decode b_tr_arrive 16 = .ok (.invokevirtual 63, 3) := by decide +kernel
theorem d_tr_arrive_19 : decode b_tr_arrive 19 = .ok (.ifCond .eq 10, 3) := by decide +kernel
theorem d_tr_arrive_22 : decode b_tr_arrive 22 = .ok (.iload_n 3, 1) := by decide +kernel
theorem d_tr_arrive_23 : decode b_tr_arrive 23 = .ok (.invokestatic 75, 3) := by decide +kernel
theorem d_tr_arrive_26 : decode b_tr_arrive 26 = .ok (.ifCond .ne 5, 3) := by decide +kernel
theorem d_tr_arrive_29 : decode b_tr_arrive 29 = .ok (.iconst 0, 1) := by decide +kernel
theorem d_tr_arrive_30 : decode b_tr_arrive 30 = .ok (.ireturn, 1) := by decide +kernel
theorem d_tr_arrive_31 : decode b_tr_arrive 31 = .ok (.aload_n 0, 1) := by decide +kernel
theorem d_tr_arrive_32 : decode b_tr_arrive 32 = .ok (.getfield 33, 3) := by decide +kernel
theorem d_tr_arrive_35 : decode b_tr_arrive 35 = .ok (.iload_n 1, 1) := by decide +kernel
theorem d_tr_arrive_36 : decode b_tr_arrive 36 = .ok (.invokevirtual 168, 3) := by decide +kernel
theorem d_tr_arrive_39 : decode b_tr_arrive 39 = .ok (.ifCond .eq 16, 3) := by decide +kernel
theorem d_tr_arrive_42 : decode b_tr_arrive 42 = .ok (.iload_n 3, 1) := by decide +kernel
theorem d_tr_arrive_43 : decode b_tr_arrive 43 = .ok (.aload_n 0, 1) := by decide +kernel
theorem d_tr_arrive_44 : decode b_tr_arrive 44 = .ok (.getfield 33, 3) := by decide +kernel
theorem d_tr_arrive_47 : decode b_tr_arrive 47 = .ok (.getfield 171, 3) := by decide +kernel
theorem d_tr_arrive_50 : decode b_tr_arrive 50 = .ok (.iload_n 1, 1) := by decide +kernel
theorem d_tr_arrive_51 : decode b_tr_arrive 51 = .ok (.iaload, 1) := by decide +kernel
theorem d_tr_arrive_52 : decode b_tr_arrive 52 = .ok (.if_icmp .ge 5, 3) := by decide +kernel
theorem d_tr_arrive_55 : decode b_tr_arrive 55 = .ok (.iconst 0, 1) := by decide +kernel
theorem d_tr_arrive_56 : decode b_tr_arrive 56 = .ok (.ireturn, 1) := by decide +kernel
theorem d_tr_arrive_57 : decode b_tr_arrive 57 = .ok (.aload_n 0, 1) := by decide +kernel
theorem d_tr_arrive_58 : decode b_tr_arrive 58 = .ok (.getfield 33, 3) := by decide +kernel
theorem d_tr_arrive_61 : decode b_tr_arrive 61 = .ok (.getfield 124, 3) := by decide +kernel
theorem d_tr_arrive_64 : decode b_tr_arrive 64 = .ok (.iload_n 1, 1) := by decide +kernel
theorem d_tr_arrive_65 : decode b_tr_arrive 65 = .ok (.iaload, 1) := by decide +kernel
theorem d_tr_arrive_66 : decode b_tr_arrive 66 = .ok (.istore 4, 2) := by decide +kernel
theorem d_tr_arrive_68 : decode b_tr_arrive 68 = .ok (.aload_n 0, 1) := by decide +kernel
theorem d_tr_arrive_69 : decode b_tr_arrive 69 = .ok (.getfield 19, 3) := by decide +kernel
theorem d_tr_arrive_72 : decode b_tr_arrive 72 = .ok (.getfield 144, 3) := by decide +kernel
theorem d_tr_arrive_75 : decode b_tr_arrive 75 = .ok (.aload_n 0, 1) := by decide +kernel
theorem d_tr_arrive_76 : decode b_tr_arrive 76 = .ok (.getfield 33, 3) := by decide +kernel
theorem d_tr_arrive_79 : decode b_tr_arrive 79 = .ok (.getfield 174, 3) := by decide +kernel
theorem d_tr_arrive_82 : decode b_tr_arrive 82 = .ok (.iload_n 1, 1) := by decide +kernel
theorem d_tr_arrive_83 : decode b_tr_arrive 83 = .ok (.iaload, 1) := by decide +kernel
theorem d_tr_arrive_84 : decode b_tr_arrive 84 = .ok (.iaload, 1) := by decide +kernel
theorem d_tr_arrive_85 : decode b_tr_arrive 85 = .ok (.iload_n 2, 1) := by decide +kernel
theorem d_tr_arrive_86 : decode b_tr_arrive 86 = .ok (.if_icmp .ne 7, 3) := by decide +kernel
theorem d_tr_arrive_89 : decode b_tr_arrive 89 = .ok (.iconst 1, 1) := by decide +kernel
theorem d_tr_arrive_90 : decode b_tr_arrive 90 = .ok (.goto 4, 3) := by decide +kernel
theorem d_tr_arrive_93 : decode b_tr_arrive 93 = .ok (.iconst 0, 1) := by decide +kernel
theorem d_tr_arrive_94 : decode b_tr_arrive 94 = .ok (.istore 5, 2) := by decide +kernel
theorem d_tr_arrive_96 : decode b_tr_arrive 96 = .ok (.aload_n 0, 1) := by decide +kernel
theorem d_tr_arrive_97 : decode b_tr_arrive 97 = .ok (.getfield 33, 3) := by decide +kernel
theorem d_tr_arrive_100 : decode b_tr_arrive 100 = .ok (.getfield 121, 3) := by decide +kernel
theorem d_tr_arrive_103 : decode b_tr_arrive 103 = .ok (.iload_n 1, 1) := by decide +kernel
theorem d_tr_arrive_104 : decode b_tr_arrive 104 = .ok (.iload 5, 2) := by decide +kernel
theorem d_tr_arrive_106 : decode b_tr_arrive 106 = .ok (.ifCond .eq 7, 3) := by decide +kernel
theorem d_tr_arrive_109 : decode b_tr_arrive 109 = .ok (.iconst 2, 1) := by decide +kernel
theorem d_tr_arrive_110 : decode b_tr_arrive 110 = .ok (.goto 4, 3) := by decide +kernel
theorem d_tr_arrive_113 : decode b_tr_arrive 113 = .ok (.iconst 4, 1) := by decide +kernel
theorem d_tr_arrive_114 : decode b_tr_arrive 114 = .ok (.iastore, 1) := by decide +kernel
theorem d_tr_arrive_115 : decode b_tr_arrive 115 = .ok (.aload_n 0, 1) := by decide +kernel
theorem d_tr_arrive_116 : decode b_tr_arrive 116 = .ok (.getfield 33, 3) := by decide +kernel
theorem d_tr_arrive_119 : decode b_tr_arrive 119 = .ok (.getfield 177, 3) := by decide +kernel
theorem d_tr_arrive_122 : decode b_tr_arrive 122 = .ok (.iload_n 1, 1) := by decide +kernel
theorem d_tr_arrive_123 : decode b_tr_arrive 123 = .ok (.iload_n 3, 1) := by decide +kernel
theorem d_tr_arrive_124 : decode b_tr_arrive 124 = .ok (.iastore, 1) := by decide +kernel
theorem d_tr_arrive_125 : decode b_tr_arrive 125 = .ok (.aload_n 0, 1) := by decide +kernel
theorem d_tr_arrive_126 : decode b_tr_arrive 126 = .ok (.getfield 26, 3) := by decide +kernel
theorem d_tr_arrive_129 : decode b_tr_arrive 129 = .ok (.getfield 100, 3) := by decide +kernel
theorem d_tr_arrive_132 : decode b_tr_arrive 132 = .ok (.iload 4, 2) := by decide +kernel
theorem d_tr_arrive_134 : decode b_tr_arrive 134 = .ok (.iconst 0, 1) := by decide +kernel
theorem d_tr_arrive_135 : decode b_tr_arrive 135 = .ok (.iastore, 1) := by decide +kernel
theorem d_tr_arrive_136 : decode b_tr_arrive 136 = .ok (.aload_n 0, 1) := by decide +kernel
theorem d_tr_arrive_137 : decode b_tr_arrive 137 = .ok (.getfield 26, 3) := by decide +kernel
theorem d_tr_arrive_140 : decode b_tr_arrive 140 = .ok (.getfield 103, 3) := by decide +kernel
theorem d_tr_arrive_143 : decode b_tr_arrive 143 = .ok (.iload 4, 2) := by decide +kernel
theorem d_tr_arrive_145 : decode b_tr_arrive 145 = .ok (.iload_n 2, 1) := by decide +kernel
theorem d_tr_arrive_146 : decode b_tr_arrive 146 = .ok (.iastore, 1) := by decide +kernel
theorem d_tr_arrive_147 : decode b_tr_arrive 147 = .ok (.iload 5, 2) := by decide +kernel
theorem d_tr_arrive_149 : decode b_tr_arrive 149 = .ok (.ifCond .eq 27, 3) := by decide +kernel
theorem d_tr_arrive_152 : decode b_tr_arrive 152 = .ok (.aload_n 0, 1) := by decide +kernel
theorem d_tr_arrive_153 : decode b_tr_arrive 153 = .ok (.getfield 26, 3) := by decide +kernel
theorem d_tr_arrive_156 : decode b_tr_arrive 156 = .ok (.getfield 97, 3) := by decide +kernel
theorem d_tr_arrive_159 : decode b_tr_arrive 159 = .ok (.iload 4, 2) := by decide +kernel
theorem d_tr_arrive_161 : decode b_tr_arrive 161 = .ok (.baload, 1) := by decide +kernel
theorem d_tr_arrive_162 : decode b_tr_arrive 162 = .ok (.ifCond .eq 14, 3) := by decide +kernel
theorem d_tr_arrive_165 : decode b_tr_arrive 165 = .ok (.aload_n 0, 1) := by decide +kernel
theorem d_tr_arrive_166 : decode b_tr_arrive 166 = .ok (.getfield 26, 3) := by decide +kernel
theorem d_tr_arrive_169 : decode b_tr_arrive 169 = .ok (.getfield 180, 3) := by decide +kernel
theorem d_tr_arrive_172 : decode b_tr_arrive 172 = .ok (.iload 4, 2) := by decide +kernel
theorem d_tr_arrive_174 : decode b_tr_arrive 174 = .ok (.iload_n 2, 1) := by decide +kernel
theorem d_tr_arrive_175 : decode b_tr_arrive 175 = .ok (.iastore, 1) := by decide +kernel
theorem d_tr_arrive_176 : decode b_tr_arrive 176 = .ok (.iload 5, 2) := by decide +kernel
theorem d_tr_arrive_178 : decode b_tr_arrive 178 = .ok (.ifCond .eq 7, 3) := by decide +kernel
theorem d_tr_arrive_181 : decode b_tr_arrive 181 = .ok (.iconst 1, 1) := by decide +kernel
theorem d_tr_arrive_182 : decode b_tr_arrive 182 = .ok (.goto 4, 3) := by decide +kernel
theorem d_tr_arrive_185 : decode b_tr_arrive 185 = .ok (.iconst (-1), 1) := by decide +kernel
theorem d_tr_arrive_186 : decode b_tr_arrive 186 = .ok (.ireturn, 1) := by decide +kernel
theorem d_tr_lost_0 : decode b_tr_lost 0 = .ok (.iload_n 1, 1) := by decide +kernel
theorem d_tr_lost_1 : decode b_tr_lost 1 = .ok (.invokestatic 75, 3) := by decide +kernel
theorem d_tr_lost_4 : decode b_tr_lost 4 = .ok (.ifCond .ne 5, 3) := by decide +kernel
theorem d_tr_lost_7 : decode b_tr_lost 7 = .ok (.iconst (-1), 1) := by decide +kernel
theorem d_tr_lost_8 : decode b_tr_lost 8 = .ok (.ireturn, 1) := by decide +kernel
theorem d_tr_lost_9 : decode b_tr_lost 9 = .ok (.iconst 0, 1) := by decide +kernel
theorem d_tr_lost_10 : decode b_tr_lost 10 = .ok (.istore_n 2, 1) := by decide +kernel
theorem d_tr_lost_11 : decode b_tr_lost 11 = .ok (.iconst 1, 1) := by decide +kernel
theorem d_tr_lost_12 : decode b_tr_lost 12 = .ok (.istore_n 3, 1) := by decide +kernel
theorem d_tr_lost_13 : decode b_tr_lost 13 = .ok (.iload_n 3, 1) := by decide +kernel
theorem d_tr_lost_14 : decode b_tr_lost 14 = .ok (.aload_n 0, 1) := by decide +kernel
theorem d_tr_lost_15 : decode b_tr_lost 15 = .ok (.getfield 33, 3) := by decide +kernel
theorem d_tr_lost_18 : decode b_tr_lost 18 = .ok (.getfield 106, 3) := by decide +kernel
theorem d_tr_lost_21 : decode b_tr_lost 21 = .ok (.if_icmp .gt 47, 3) := by decide +kernel
theorem d_tr_lost_24 : decode b_tr_lost 24 = .ok (.aload_n 0, 1) := by decide +kernel
theorem d_tr_lost_25 : decode b_tr_lost 25 = .ok (.getfield 33, 3) := by decide +kernel
theorem d_tr_lost_28 : decode b_tr_lost 28 = .ok (.getfield 121, 3) := by decide +kernel
theorem d_tr_lost_31 : decode b_tr_lost 31 = .ok (.iload_n 3, 1) := by decide +kernel
theorem d_tr_lost_32 : decode b_tr_lost 32 = .ok (.iaload, 1) := by decide +kernel
theorem d_tr_lost_33 : decode b_tr_lost 33 = .ok (.iconst 1, 1) := by decide +kernel
theorem d_tr_lost_34 : decode b_tr_lost 34 = .ok (.if_icmp .ne 28, 3) := by decide +kernel
theorem d_tr_lost_37 : decode b_tr_lost 37 = .ok (.iload_n 1, 1) := by decide +kernel
theorem d_tr_lost_38 : decode b_tr_lost 38 = .ok (.aload_n 0, 1) := by decide +kernel
theorem d_tr_lost_39 : decode b_tr_lost 39 = .ok (.iload_n 3, 1) := by decide +kernel
theorem d_tr_lost_40 : decode b_tr_lost 40 = .ok (.invokevirtual 183, 3) := by decide +kernel
theorem d_tr_lost_43 : decode b_tr_lost 43 = .ok (.isub, 1) := by decide +kernel
theorem d_tr_lost_44 : decode b_tr_lost 44 = .ok (.bipush 14, 2) := by decide +kernel
theorem d_tr_lost_46 : decode b_tr_lost 46 = .ok (.if_icmp .le 16, 3) := by decide +kernel
theorem d_tr_lost_49 : decode b_tr_lost 49 = .ok (.aload_n 0, 1) := by decide +kernel
theorem d_tr_lost_50 : decode b_tr_lost 50 = .ok (.getfield 33, 3) := by decide +kernel
theorem d_tr_lost_53 : decode b_tr_lost 53 = .ok (.getfield 121, 3) := by decide +kernel
theorem d_tr_lost_56 : decode b_tr_lost 56 = .ok (.iload_n 3, 1) := by decide +kernel
theorem d_tr_lost_57 : decode b_tr_lost 57 = .ok (.iconst 3, 1) := by decide +kernel
theorem d_tr_lost_58 : decode b_tr_lost 58 = .ok (.iastore, 1) := by decide +kernel
theorem d_tr_lost_59 : decode b_tr_lost 59 = .ok (.iinc 2 1, 3) := by decide +kernel
theorem d_tr_lost_62 : decode b_tr_lost 62 = .ok (.iinc 3 1, 3) := by decide +kernel
theorem d_tr_lost_65 : decode b_tr_lost 65 = .ok (.goto (-52), 3) := by decide +kernel
theorem d_tr_lost_68 : decode b_tr_lost 68 = .ok (.iload_n 2, 1) := by decide +kernel
theorem d_tr_lost_69 : decode b_tr_lost 69 = .ok (.ireturn, 1) := by decide +kernel
theorem d_tr_dueDay_0 : decode b_tr_dueDay 0 = .ok (.aload_n 0, 1) := by decide +kernel
theorem d_tr_dueDay_1 : decode b_tr_dueDay 1 = .ok (.getfield 33, 3) := by decide +kernel
theorem d_tr_dueDay_4 : decode b_tr_dueDay 4 = .ok (.getfield 171, 3) := by decide +kernel
theorem d_tr_dueDay_7 : decode b_tr_dueDay 7 = .ok (.iload_n 1, 1) := by decide +kernel
theorem d_tr_dueDay_8 : decode b_tr_dueDay 8 = .ok (.iaload, 1) := by decide +kernel
theorem d_tr_dueDay_9 : decode b_tr_dueDay 9 = .ok (.aload_n 0, 1) := by decide +kernel
theorem d_tr_dueDay_10 : decode b_tr_dueDay 10 = .ok (.getfield 19, 3) := by decide +kernel
theorem d_tr_dueDay_13 : decode b_tr_dueDay 13 = .ok (.getfield 212, 3) := by decide +kernel
theorem d_tr_dueDay_16 : decode b_tr_dueDay 16 = .ok (.aload_n 0, 1) := by decide +kernel
theorem d_tr_dueDay_17 : decode b_tr_dueDay 17 = .ok (.getfield 33, 3) := by decide +kernel
theorem d_tr_dueDay_20 : decode b_tr_dueDay 20 = .ok (.getfield 174, 3) := by decide +kernel
theorem d_tr_dueDay_23 : decode b_tr_dueDay 23 = .ok (.iload_n 1, 1) := by decide +kernel
theorem d_tr_dueDay_24 : decode b_tr_dueDay 24 = .ok (.iaload, 1) := by decide +kernel
theorem d_tr_dueDay_25 : decode b_tr_dueDay 25 = .ok (.iaload, 1) := by decide +kernel
theorem d_tr_dueDay_26 : decode b_tr_dueDay 26 = .ok (.iadd, 1) := by decide +kernel
theorem d_tr_dueDay_27 : decode b_tr_dueDay 27 = .ok (.ireturn, 1) := by decide +kernel
theorem d_tr_slip_0 : decode b_tr_slip 0 = .ok (.aload_n 0, 1) := by decide +kernel
theorem d_tr_slip_1 : decode b_tr_slip 1 = .ok (.getfield 33, 3) := by decide +kernel
theorem d_tr_slip_4 : decode b_tr_slip 4 = .ok (.iload_n 1, 1) := by decide +kernel
theorem d_tr_slip_5 : decode b_tr_slip 5 = .ok (.invokevirtual 120, 3) := by decide +kernel
theorem d_tr_slip_8 : decode b_tr_slip 8 = .ok (.ifCond .ne 5, 3) := by decide +kernel
theorem d_tr_slip_11 : decode b_tr_slip 11 = .ok (.iconst (-1), 1) := by decide +kernel
theorem d_tr_slip_12 : decode b_tr_slip 12 = .ok (.ireturn, 1) := by decide +kernel
theorem d_tr_slip_13 : decode b_tr_slip 13 = .ok (.iload_n 2, 1) := by decide +kernel
theorem d_tr_slip_14 : decode b_tr_slip 14 = .ok (.tableswitch 108 0 6 #[42, 52, 62, 72, 82, 92, 98], 42) := by decide +kernel
theorem d_tr_slip_56 : decode b_tr_slip 56 = .ok (.aload_n 0, 1) := by decide +kernel
theorem d_tr_slip_57 : decode b_tr_slip 57 = .ok (.getfield 33, 3) := by decide +kernel
theorem d_tr_slip_60 : decode b_tr_slip 60 = .ok (.getfield 124, 3) := by decide +kernel
theorem d_tr_slip_63 : decode b_tr_slip 63 = .ok (.iload_n 1, 1) := by decide +kernel
theorem d_tr_slip_64 : decode b_tr_slip 64 = .ok (.iaload, 1) := by decide +kernel
theorem d_tr_slip_65 : decode b_tr_slip 65 = .ok (.ireturn, 1) := by decide +kernel
theorem d_tr_slip_66 : decode b_tr_slip 66 = .ok (.aload_n 0, 1) := by decide +kernel
theorem d_tr_slip_67 : decode b_tr_slip 67 = .ok (.getfield 33, 3) := by decide +kernel
theorem d_tr_slip_70 : decode b_tr_slip 70 = .ok (.getfield 174, 3) := by decide +kernel
theorem d_tr_slip_73 : decode b_tr_slip 73 = .ok (.iload_n 1, 1) := by decide +kernel
theorem d_tr_slip_74 : decode b_tr_slip 74 = .ok (.iaload, 1) := by decide +kernel
theorem d_tr_slip_75 : decode b_tr_slip 75 = .ok (.ireturn, 1) := by decide +kernel
theorem d_tr_slip_76 : decode b_tr_slip 76 = .ok (.aload_n 0, 1) := by decide +kernel
theorem d_tr_slip_77 : decode b_tr_slip 77 = .ok (.getfield 33, 3) := by decide +kernel
theorem d_tr_slip_80 : decode b_tr_slip 80 = .ok (.getfield 121, 3) := by decide +kernel
theorem d_tr_slip_83 : decode b_tr_slip 83 = .ok (.iload_n 1, 1) := by decide +kernel
theorem d_tr_slip_84 : decode b_tr_slip 84 = .ok (.iaload, 1) := by decide +kernel
theorem d_tr_slip_85 : decode b_tr_slip 85 = .ok (.ireturn, 1) := by decide +kernel
theorem d_tr_slip_86 : decode b_tr_slip 86 = .ok (.aload_n 0, 1) := by decide +kernel
theorem d_tr_slip_87 : decode b_tr_slip 87 = .ok (.getfield 33, 3) := by decide +kernel
theorem d_tr_slip_90 : decode b_tr_slip 90 = .ok (.getfield 186, 3) := by decide +kernel
theorem d_tr_slip_93 : decode b_tr_slip 93 = .ok (.iload_n 1, 1) := by decide +kernel
theorem d_tr_slip_94 : decode b_tr_slip 94 = .ok (.iaload, 1) := by decide +kernel
theorem d_tr_slip_95 : decode b_tr_slip 95 = .ok (.ireturn, 1) := by decide +kernel
theorem d_tr_slip_96 : decode b_tr_slip 96 = .ok (.aload_n 0, 1) := by decide +kernel
theorem d_tr_slip_97 : decode b_tr_slip 97 = .ok (.getfield 33, 3) := by decide +kernel
theorem d_tr_slip_100 : decode b_tr_slip 100 = .ok (.getfield 171, 3) := by decide +kernel
theorem d_tr_slip_103 : decode b_tr_slip 103 = .ok (.iload_n 1, 1) := by decide +kernel
theorem d_tr_slip_104 : decode b_tr_slip 104 = .ok (.iaload, 1) := by decide +kernel
theorem d_tr_slip_105 : decode b_tr_slip 105 = .ok (.ireturn, 1) := by decide +kernel
theorem d_tr_slip_106 : decode b_tr_slip 106 = .ok (.aload_n 0, 1) := by decide +kernel
theorem d_tr_slip_107 : decode b_tr_slip 107 = .ok (.iload_n 1, 1) := by decide +kernel
theorem d_tr_slip_108 : decode b_tr_slip 108 = .ok (.invokevirtual 183, 3) := by decide +kernel
theorem d_tr_slip_111 : decode b_tr_slip 111 = .ok (.ireturn, 1) := by decide +kernel
theorem d_tr_slip_112 : decode b_tr_slip 112 = .ok (.aload_n 0, 1) := by decide +kernel
theorem d_tr_slip_113 : decode b_tr_slip 113 = .ok (.getfield 33, 3) := by decide +kernel
theorem d_tr_slip_116 : decode b_tr_slip 116 = .ok (.getfield 177, 3) := by decide +kernel
theorem d_tr_slip_119 : decode b_tr_slip 119 = .ok (.iload_n 1, 1) := by decide +kernel
theorem d_tr_slip_120 : decode b_tr_slip 120 = .ok (.iaload, 1) := by decide +kernel
theorem d_tr_slip_121 : decode b_tr_slip 121 = .ok (.ireturn, 1) := by decide +kernel
theorem d_tr_slip_122 : decode b_tr_slip 122 = .ok (.iconst (-1), 1) := by decide +kernel
theorem d_tr_slip_123 : decode b_tr_slip 123 = .ok (.ireturn, 1) := by decide +kernel
theorem d_tr_where_0 : decode b_tr_where 0 = .ok (.aload_n 0, 1) := by decide +kernel
theorem d_tr_where_1 : decode b_tr_where 1 = .ok (.getfield 26, 3) := by decide +kernel
theorem d_tr_where_4 : decode b_tr_where 4 = .ok (.iload_n 1, 1) := by decide +kernel
theorem d_tr_where_5 : decode b_tr_where 5 = .ok (.invokevirtual 93, 3) := by decide +kernel
theorem d_tr_where_8 : decode b_tr_where 8 = .ok (.ifCond .ne 5, 3) := by decide +kernel
theorem d_tr_where_11 : decode b_tr_where 11 = .ok (.iconst (-1), 1) := by decide +kernel
theorem d_tr_where_12 : decode b_tr_where 12 = .ok (.ireturn, 1) := by decide +kernel
theorem d_tr_where_13 : decode b_tr_where 13 = .ok (.iload_n 2, 1) := by decide +kernel
theorem d_tr_where_14 : decode b_tr_where 14 = .ok (.tableswitch 72 0 2 #[26, 52, 62], 26) := by decide +kernel
theorem d_tr_where_40 : decode b_tr_where 40 = .ok (.aload_n 0, 1) := by decide +kernel
theorem d_tr_where_41 : decode b_tr_where 41 = .ok (.getfield 26, 3) := by decide +kernel
theorem d_tr_where_44 : decode b_tr_where 44 = .ok (.getfield 100, 3) := by decide +kernel
theorem d_tr_where_47 : decode b_tr_where 47 = .ok (.iload_n 1, 1) := by decide +kernel
theorem d_tr_where_48 : decode b_tr_where 48 = .ok (.iaload, 1) := by decide +kernel
theorem d_tr_where_49 : decode b_tr_where 49 = .ok (.ifCond .ne 15, 3) := by decide +kernel
theorem d_tr_where_52 : decode b_tr_where 52 = .ok (.aload_n 0, 1) := by decide +kernel
theorem d_tr_where_53 : decode b_tr_where 53 = .ok (.getfield 26, 3) := by decide +kernel
theorem d_tr_where_56 : decode b_tr_where 56 = .ok (.getfield 103, 3) := by decide +kernel
theorem d_tr_where_59 : decode b_tr_where 59 = .ok (.iload_n 1, 1) := by decide +kernel
theorem d_tr_where_60 : decode b_tr_where 60 = .ok (.iaload, 1) := by decide +kernel
theorem d_tr_where_61 : decode b_tr_where 61 = .ok (.goto 4, 3) := by decide +kernel
theorem d_tr_where_64 : decode b_tr_where 64 = .ok (.iconst (-1), 1) := by decide +kernel
theorem d_tr_where_65 : decode b_tr_where 65 = .ok (.ireturn, 1) := by decide +kernel
theorem d_tr_where_66 : decode b_tr_where 66 = .ok (.aload_n 0, 1) := by decide +kernel
theorem d_tr_where_67 : decode b_tr_where 67 = .ok (.getfield 26, 3) := by decide +kernel
theorem d_tr_where_70 : decode b_tr_where 70 = .ok (.getfield 180, 3) := by decide +kernel
theorem d_tr_where_73 : decode b_tr_where 73 = .ok (.iload_n 1, 1) := by decide +kernel
theorem d_tr_where_74 : decode b_tr_where 74 = .ok (.iaload, 1) := by decide +kernel
theorem d_tr_where_75 : decode b_tr_where 75 = .ok (.ireturn, 1) := by decide +kernel
theorem d_tr_where_76 : decode b_tr_where 76 = .ok (.aload_n 0, 1) := by decide +kernel
theorem d_tr_where_77 : decode b_tr_where 77 = .ok (.getfield 26, 3) := by decide +kernel
theorem d_tr_where_80 : decode b_tr_where 80 = .ok (.getfield 100, 3) := by decide +kernel
theorem d_tr_where_83 : decode b_tr_where 83 = .ok (.iload_n 1, 1) := by decide +kernel
theorem d_tr_where_84 : decode b_tr_where 84 = .ok (.iaload, 1) := by decide +kernel
theorem d_tr_where_85 : decode b_tr_where 85 = .ok (.ireturn, 1) := by decide +kernel
theorem d_tr_where_86 : decode b_tr_where 86 = .ok (.iconst (-1), 1) := by decide +kernel
theorem d_tr_where_87 : decode b_tr_where 87 = .ok (.ireturn, 1) := by decide +kernel
theorem d_tr_told_0 : decode b_tr_told 0 = .ok (.aload_n 0, 1) := by decide +kernel
theorem d_tr_told_1 : decode b_tr_told 1 = .ok (.getfield 47, 3) := by decide +kernel
theorem d_tr_told_4 : decode b_tr_told 4 = .ok (.iload_n 1, 1) := by decide +kernel
theorem d_tr_told_5 : decode b_tr_told 5 = .ok (.invokevirtual 199, 3) := by decide +kernel
theorem d_tr_told_8 : decode b_tr_told 8 = .ok (.ifCond .ne 5, 3) := by decide +kernel
theorem d_tr_told_11 : decode b_tr_told 11 = .ok (.iconst (-1), 1) := by decide +kernel
theorem d_tr_told_12 : decode b_tr_told 12 = .ok (.ireturn, 1) := by decide +kernel
theorem d_tr_told_13 : decode b_tr_told 13 = .ok (.iload_n 2, 1) := by decide +kernel
theorem d_tr_told_14 : decode b_tr_told 14 = .ok (.lookupswitch 46 #[(0, 26), (1, 36)], 26) := by decide +kernel
theorem d_tr_told_40 : decode b_tr_told 40 = .ok (.aload_n 0, 1) := by decide +kernel
theorem d_tr_told_41 : decode b_tr_told 41 = .ok (.getfield 47, 3) := by decide +kernel
theorem d_tr_told_44 : decode b_tr_told 44 = .ok (.getfield 200, 3) := by decide +kernel
theorem d_tr_told_47 : decode b_tr_told 47 = .ok (.iload_n 1, 1) := by decide +kernel
theorem d_tr_told_48 : decode b_tr_told 48 = .ok (.iaload, 1) := by decide +kernel
theorem d_tr_told_49 : decode b_tr_told 49 = .ok (.ireturn, 1) := by decide +kernel
theorem d_tr_told_50 : decode b_tr_told 50 = .ok (.aload_n 0, 1) := by decide +kernel
theorem d_tr_told_51 : decode b_tr_told 51 = .ok (.getfield 47, 3) := by decide +kernel
theorem d_tr_told_54 : decode b_tr_told 54 = .ok (.getfield 203, 3) := by decide +kernel
theorem d_tr_told_57 : decode b_tr_told 57 = .ok (.iload_n 1, 1) := by decide +kernel
theorem d_tr_told_58 : decode b_tr_told 58 = .ok (.iaload, 1) := by decide +kernel
theorem d_tr_told_59 : decode b_tr_told 59 = .ok (.ireturn, 1) := by decide +kernel
theorem d_tr_told_60 : decode b_tr_told 60 = .ok (.iconst (-1), 1) := by decide +kernel
theorem d_tr_told_61 : decode b_tr_told 61 = .ok (.ireturn, 1) := by decide +kernel
theorem d_tr_statistics_0 : decode b_tr_statistics 0 = .ok (.aload_n 0, 1) := by decide +kernel
theorem d_tr_statistics_1 : decode b_tr_statistics 1 = .ok (.getfield 10, 3) := by decide +kernel
theorem d_tr_statistics_4 : decode b_tr_statistics 4 = .ok (.iload_n 1, 1) := by decide +kernel
theorem d_tr_statistics_5 : decode b_tr_statistics 5 = .ok (.invokevirtual 63, 3) := by decide +kernel
theorem d_tr_statistics_8 : decode b_tr_statistics 8 = .ok (.ifCond .eq 14, 3) := by decide +kernel
theorem d_tr_statistics_11 : decode b_tr_statistics 11 = .ok (.aload_n 0, 1) := by decide +kernel
theorem d_tr_statistics_12 : decode b_tr_statistics 12 = .ok (.getfield 10, 3) := by decide +kernel
theorem d_tr_statistics_15 : decode b_tr_statistics 15 = .ok (.iload_n 2, 1) := by decide +kernel
theorem d_tr_statistics_16 : decode b_tr_statistics 16 = .ok (.invokevirtual 63, 3) := by decide +kernel
theorem d_tr_statistics_19 : decode b_tr_statistics 19 = .ok (.ifCond .ne 5, 3) := by decide +kernel
theorem d_tr_statistics_22 : decode b_tr_statistics 22 = .ok (.iconst (-1), 1) := by decide +kernel
theorem d_tr_statistics_23 : decode b_tr_statistics 23 = .ok (.ireturn, 1) := by decide +kernel
theorem d_tr_statistics_24 : decode b_tr_statistics 24 = .ok (.iconst 0, 1) := by decide +kernel
theorem d_tr_statistics_25 : decode b_tr_statistics 25 = .ok (.istore 4, 2) := by decide +kernel
theorem d_tr_statistics_27 : decode b_tr_statistics 27 = .ok (.iconst 0, 1) := by decide +kernel
theorem d_tr_statistics_28 : decode b_tr_statistics 28 = .ok (.istore 5, 2) := by decide +kernel
theorem d_tr_statistics_30 : decode b_tr_statistics 30 = .ok (.iconst (-1), 1) := by decide +kernel
theorem d_tr_statistics_31 : decode b_tr_statistics 31 = .ok (.istore 6, 2) := by decide +kernel
theorem d_tr_statistics_33 : decode b_tr_statistics 33 = .ok (.iconst 1, 1) := by decide +kernel
theorem d_tr_statistics_34 : decode b_tr_statistics 34 = .ok (.istore 7, 2) := by decide +kernel
theorem d_tr_statistics_36 : decode b_tr_statistics 36 = .ok (.iload 7, 2) := by decide +kernel
theorem d_tr_statistics_38 : decode b_tr_statistics 38 = .ok (.aload_n 0, 1) := by decide +kernel
theorem d_tr_statistics_39 : decode b_tr_statistics 39 = .ok (.getfield 33, 3) := by decide +kernel
theorem d_tr_statistics_42 : decode b_tr_statistics 42 = .ok (.getfield 106, 3) := by decide +kernel
theorem d_tr_statistics_45 : decode b_tr_statistics 45 = .ok (.if_icmp .gt 87, 3) := by decide +kernel
theorem d_tr_statistics_48 : decode b_tr_statistics 48 = .ok (.aload_n 0, 1) := by decide +kernel
theorem d_tr_statistics_49 : decode b_tr_statistics 49 = .ok (.getfield 33, 3) := by decide +kernel
theorem d_tr_statistics_52 : decode b_tr_statistics 52 = .ok (.getfield 121, 3) := by decide +kernel
theorem d_tr_statistics_55 : decode b_tr_statistics 55 = .ok (.iload 7, 2) := by decide +kernel
theorem d_tr_statistics_57 : decode b_tr_statistics 57 = .ok (.iaload, 1) := by decide +kernel
theorem d_tr_statistics_58 : decode b_tr_statistics 58 = .ok (.iconst 2, 1) := by decide +kernel
theorem d_tr_statistics_59 : decode b_tr_statistics 59 = .ok (.if_icmp .ne 67, 3) := by decide +kernel
theorem d_tr_statistics_62 : decode b_tr_statistics 62 = .ok (.aload_n 0, 1) := by decide +kernel
theorem d_tr_statistics_63 : decode b_tr_statistics 63 = .ok (.getfield 19, 3) := by decide +kernel
theorem d_tr_statistics_66 : decode b_tr_statistics 66 = .ok (.aload_n 0, 1) := by decide +kernel
theorem d_tr_statistics_67 : decode b_tr_statistics 67 = .ok (.getfield 33, 3) := by decide +kernel
theorem d_tr_statistics_70 : decode b_tr_statistics 70 = .ok (.getfield 174, 3) := by decide +kernel
theorem d_tr_statistics_73 : decode b_tr_statistics 73 = .ok (.iload 7, 2) := by decide +kernel
theorem d_tr_statistics_75 : decode b_tr_statistics 75 = .ok (.iaload, 1) := by decide +kernel
theorem d_tr_statistics_76 : decode b_tr_statistics 76 = .ok (.iload_n 1, 1) := by decide +kernel
theorem d_tr_statistics_77 : decode b_tr_statistics 77 = .ok (.iload_n 2, 1) := by decide +kernel
theorem d_tr_statistics_78 : decode b_tr_statistics 78 = .ok (.invokevirtual 189, 3) := by decide +kernel
theorem d_tr_statistics_81 : decode b_tr_statistics 81 = .ok (.ifCond .eq 45, 3) := by decide +kernel
theorem d_tr_statistics_84 : decode b_tr_statistics 84 = .ok (.aload_n 0, 1) := by decide +kernel
theorem d_tr_statistics_85 : decode b_tr_statistics 85 = .ok (.getfield 33, 3) := by decide +kernel
theorem d_tr_statistics_88 : decode b_tr_statistics 88 = .ok (.getfield 177, 3) := by decide +kernel
theorem d_tr_statistics_91 : decode b_tr_statistics 91 = .ok (.iload 7, 2) := by decide +kernel
theorem d_tr_statistics_93 : decode b_tr_statistics 93 = .ok (.iaload, 1) := by decide +kernel
theorem d_tr_statistics_94 : decode b_tr_statistics 94 = .ok (.aload_n 0, 1) := by decide +kernel
theorem d_tr_statistics_95 : decode b_tr_statistics 95 = .ok (.getfield 33, 3) := by decide +kernel
theorem d_tr_statistics_98 : decode b_tr_statistics 98 = .ok (.getfield 186, 3) := by decide +kernel
theorem d_tr_statistics_101 : decode b_tr_statistics 101 = .ok (.iload 7, 2) := by decide +kernel
theorem d_tr_statistics_103 : decode b_tr_statistics 103 = .ok (.iaload, 1) := by decide +kernel
theorem d_tr_statistics_104 : decode b_tr_statistics 104 = .ok (.isub, 1) := by decide +kernel
theorem d_tr_statistics_105 : decode b_tr_statistics 105 = .ok (.istore 8, 2) := by decide +kernel
theorem d_tr_statistics_107 : decode b_tr_statistics 107 = .ok (.iinc 4 1, 3) := by decide +kernel
theorem d_tr_statistics_110 : decode b_tr_statistics 110 = .ok (.iload 5, 2) := by decide +kernel
theorem d_tr_statistics_112 : decode b_tr_statistics 112 = .ok (.iload 8, 2) := by decide +kernel
theorem d_tr_statistics_114 : decode b_tr_statistics 114 = .ok (.iadd, 1) := by decide +kernel
theorem d_tr_statistics_115 : decode b_tr_statistics 115 = .ok (.istore 5, 2) := by decide +kernel
theorem d_tr_statistics_117 : decode b_tr_statistics 117 = .ok (.iload 6, 2) := by decide +kernel
theorem d_tr_statistics_119 : decode b_tr_statistics 119 = .ok (.iload 8, 2) := by decide +kernel
theorem d_tr_statistics_121 : decode b_tr_statistics 121 = .ok (.invokestatic 193, 3) := by decide +kernel
theorem d_tr_statistics_124 : decode b_tr_statistics 124 = .ok (.istore 6, 2) := by decide +kernel
theorem d_tr_statistics_126 : decode b_tr_statistics 126 = .ok (.iinc 7 1, 3) := by decide +kernel
theorem d_tr_statistics_129 : decode b_tr_statistics 129 = .ok (.goto (-93), 3) := by decide +kernel
theorem d_tr_statistics_132 : decode b_tr_statistics 132 = .ok (.iload_n 3, 1) := by decide +kernel
theorem d_tr_statistics_133 : decode b_tr_statistics 133 = .ok (.tableswitch 48 0 3 #[31, 34, 37, 40], 31) := by decide +kernel
theorem d_tr_statistics_164 : decode b_tr_statistics 164 = .ok (.iload 4, 2) := by decide +kernel
theorem d_tr_statistics_166 : decode b_tr_statistics 166 = .ok (.ireturn, 1) := by decide +kernel
theorem d_tr_statistics_167 : decode b_tr_statistics 167 = .ok (.iload 5, 2) := by decide +kernel
theorem d_tr_statistics_169 : decode b_tr_statistics 169 = .ok (.ireturn, 1) := by decide +kernel
theorem d_tr_statistics_170 : decode b_tr_statistics 170 = .ok (.iload 6, 2) := by decide +kernel
theorem d_tr_statistics_172 : decode b_tr_statistics 172 = .ok (.ireturn, 1) := by decide +kernel
theorem d_tr_statistics_173 : decode b_tr_statistics 173 = .ok (.iload 5, 2) := by decide +kernel
theorem d_tr_statistics_175 : decode b_tr_statistics 175 = .ok (.iload 4, 2) := by decide +kernel
theorem d_tr_statistics_177 : decode b_tr_statistics 177 = .ok (.invokestatic 196, 3) := by decide +kernel
theorem d_tr_statistics_180 : decode b_tr_statistics 180 = .ok (.ireturn, 1) := by decide +kernel
theorem d_tr_statistics_181 : decode b_tr_statistics 181 = .ok (.iconst (-1), 1) := by decide +kernel
theorem d_tr_statistics_182 : decode b_tr_statistics 182 = .ok (.ireturn, 1) := by decide +kernel
theorem d_tr_average_0 : decode b_tr_average 0 = .ok (.iload_n 1, 1) := by decide +kernel
theorem d_tr_average_1 : decode b_tr_average 1 = .ok (.ifCond .ne 13, 3) := by decide +kernel
theorem d_tr_average_4 : decode b_tr_average 4 = .ok (.new 205, 3) := by decide +kernel
theorem d_tr_average_7 : decode b_tr_average 7 = .ok (.dup, 1) := by decide +kernel
theorem d_tr_average_8 : decode b_tr_average 8 = .ok (.ldc 207, 2) := by decide +kernel
theorem d_tr_average_10 : decode b_tr_average 10 = .ok (.invokespecial 209, 3) := by decide +kernel
theorem d_tr_average_13 : decode b_tr_average 13 = .ok (.athrow, 1) := by decide +kernel
theorem d_tr_average_14 : decode b_tr_average 14 = .ok (.iload_n 0, 1) := by decide +kernel
theorem d_tr_average_15 : decode b_tr_average 15 = .ok (.iload_n 1, 1) := by decide +kernel
theorem d_tr_average_16 : decode b_tr_average 16 = .ok (.idiv, 1) := by decide +kernel
theorem d_tr_average_17 : decode b_tr_average 17 = .ok (.ireturn, 1) := by decide +kernel
