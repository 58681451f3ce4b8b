theorem d_mo_init_0 : decode b_mo_init 0 = .ok (.aload_n 0, 1) := by decide +kernel
theorem d_mo_init_1 : decode b_mo_init 1 = .ok (.invokespecial 1, 3) := by decide +kernel
theorem d_mo_init_4 : decode b_mo_init 4 = .ok (.aload_n 0, 1) := by decide +kernel
theorem d_mo_init_5 : decode b_mo_init 5 = .ok (.bipush 12, 2) := by decide +kernel
theorem d_mo_init_7 : decode b_mo_init 7 = .ok (.newarray .boolean, 2) := by decide +kernel
theorem d_mo_init_9 : decode b_mo_init 9 = .ok (.putfield 7, 3) := by decide +kernel
theorem d_mo_init_12 : decode b_mo_init 12 = .ok (.aload_n 0, 1) := by decide +kernel
theorem d_mo_init_13 : decode b_mo_init 13 = .ok (.sipush 240, 3) := by decide +kernel
theorem d_mo_init_16 : decode b_mo_init 16 = .ok (.newarray .int, 2) := by decide +kernel
theorem d_mo_init_18 : decode b_mo_init 18 = .ok (.putfield 13, 3) := by decide +kernel
theorem d_mo_init_21 : decode b_mo_init 21 = .ok (.aload_n 0, 1) := by decide +kernel
theorem d_mo_init_22 : decode b_mo_init 22 = .ok (.bipush 60, 2) := by decide +kernel
theorem d_mo_init_24 : decode b_mo_init 24 = .ok (.newarray .int, 2) := by decide +kernel
theorem d_mo_init_26 : decode b_mo_init 26 = .ok (.putfield 17, 3) := by decide +kernel
theorem d_mo_init_29 : decode b_mo_init 29 = .ok (.aload_n 0, 1) := by decide +kernel
theorem d_mo_init_30 : decode b_mo_init 30 = .ok (.bipush 60, 2) := by decide +kernel
theorem d_mo_init_32 : decode b_mo_init 32 = .ok (.newarray .int, 2) := by decide +kernel
theorem d_mo_init_34 : decode b_mo_init 34 = .ok (.putfield 20, 3) := by decide +kernel
theorem d_mo_init_37 : decode b_mo_init 37 = .ok (.aload_n 0, 1) := by decide +kernel
theorem d_mo_init_38 : decode b_mo_init 38 = .ok (.sipush 183, 3) := by decide +kernel
theorem d_mo_init_41 : decode b_mo_init 41 = .ok (.newarray .int, 2) := by decide +kernel
theorem d_mo_init_43 : decode b_mo_init 43 = .ok (.putfield 23, 3) := by decide +kernel
theorem d_mo_init_46 : decode b_mo_init 46 = .ok (.aload_n 0, 1) := by decide +kernel
theorem d_mo_init_47 : decode b_mo_init 47 = .ok (.bipush 61, 2) := by decide +kernel
theorem d_mo_init_49 : decode b_mo_init 49 = .ok (.newarray .boolean, 2) := by decide +kernel
theorem d_mo_init_51 : decode b_mo_init 51 = .ok (.putfield 26, 3) := by decide +kernel
theorem d_mo_init_54 : decode b_mo_init 54 = .ok (.aload_n 0, 1) := by decide +kernel
theorem d_mo_init_55 : decode b_mo_init 55 = .ok (.bipush 61, 2) := by decide +kernel
theorem d_mo_init_57 : decode b_mo_init 57 = .ok (.newarray .boolean, 2) := by decide +kernel
theorem d_mo_init_59 : decode b_mo_init 59 = .ok (.putfield 29, 3) := by decide +kernel
theorem d_mo_init_62 : decode b_mo_init 62 = .ok (.aload_n 0, 1) := by decide +kernel
theorem d_mo_init_63 : decode b_mo_init 63 = .ok (.sipush 1208, 3) := by decide +kernel
theorem d_mo_init_66 : decode b_mo_init 66 = .ok (.newarray .int, 2) := by decide +kernel
theorem d_mo_init_68 : decode b_mo_init 68 = .ok (.putfield 32, 3) := by decide +kernel
theorem d_mo_init_71 : decode b_mo_init 71 = .ok (.aload_n 0, 1) := by decide +kernel
theorem d_mo_init_72 : decode b_mo_init 72 = .ok (.sipush 200, 3) := by decide +kernel
theorem d_mo_init_75 : decode b_mo_init 75 = .ok (.newarray .int, 2) := by decide +kernel
theorem d_mo_init_77 : decode b_mo_init 77 = .ok (.putfield 35, 3) := by decide +kernel
theorem d_mo_init_80 : decode b_mo_init 80 = .ok (.return_, 1) := by decide +kernel
theorem d_mo_thrown_0 : decode b_mo_thrown 0 = .ok (.aload_n 0, 1) := by decide +kernel
theorem d_mo_thrown_1 : decode b_mo_thrown 1 = .ok (.getfield 38, 3) := by decide +kernel
theorem d_mo_thrown_4 : decode b_mo_thrown 4 = .ok (.ireturn, 1) := by decide +kernel
theorem d_mo_place_0 : decode b_mo_place 0 = .ok (.aload_n 0, 1) := by decide +kernel
theorem d_mo_place_1 : decode b_mo_place 1 = .ok (.iconst 0, 1) := by decide +kernel
theorem d_mo_place_2 : decode b_mo_place 2 = .ok (.putfield 38, 3) := by decide +kernel
theorem d_mo_place_5 : decode b_mo_place 5 = .ok (.aload_n 0, 1) := by decide +kernel
theorem d_mo_place_6 : decode b_mo_place 6 = .ok (.getfield 42, 3) := by decide +kernel
theorem d_mo_place_9 : decode b_mo_place 9 = .ok (.bipush 12, 2) := by decide +kernel
theorem d_mo_place_11 : decode b_mo_place 11 = .ok (.if_icmp .ne 5, 3) := by decide +kernel
theorem d_mo_place_14 : decode b_mo_place 14 = .ok (.iconst (-1), 1) := by decide +kernel
theorem d_mo_place_15 : decode b_mo_place 15 = .ok (.ireturn, 1) := by decide +kernel
theorem d_mo_place_16 : decode b_mo_place 16 = .ok (.aload_n 0, 1) := by decide +kernel
theorem d_mo_place_17 : decode b_mo_place 17 = .ok (.dup, 1) := by decide +kernel
theorem d_mo_place_18 : decode b_mo_place 18 = .ok (.getfield 42, 3) := by decide +kernel
theorem d_mo_place_21 : decode b_mo_place 21 = .ok (.iconst 1, 1) := by decide +kernel
theorem d_mo_place_22 : decode b_mo_place 22 = .ok (.iadd, 1) := by decide +kernel
theorem d_mo_place_23 : decode b_mo_place 23 = .ok (.putfield 42, 3) := by decide +kernel
theorem d_mo_place_26 : decode b_mo_place 26 = .ok (.aload_n 0, 1) := by decide +kernel
theorem d_mo_place_27 : decode b_mo_place 27 = .ok (.getfield 42, 3) := by decide +kernel
theorem d_mo_place_30 : decode b_mo_place 30 = .ok (.iconst 1, 1) := by decide +kernel
theorem d_mo_place_31 : decode b_mo_place 31 = .ok (.isub, 1) := by decide +kernel
theorem d_mo_place_32 : decode b_mo_place 32 = .ok (.ireturn, 1) := by decide +kernel
theorem d_mo_open_0 : decode b_mo_open 0 = .ok (.aload_n 0, 1) := by decide +kernel
theorem d_mo_open_1 : decode b_mo_open 1 = .ok (.iconst 0, 1) := by decide +kernel
theorem d_mo_open_2 : decode b_mo_open 2 = .ok (.putfield 38, 3) := by decide +kernel
theorem d_mo_open_5 : decode b_mo_open 5 = .ok (.aload_n 0, 1) := by decide +kernel
theorem d_mo_open_6 : decode b_mo_open 6 = .ok (.iload_n 1, 1) := by decide +kernel
theorem d_mo_open_7 : decode b_mo_open 7 = .ok (.invokevirtual 55, 3) := by decide +kernel
theorem d_mo_open_10 : decode b_mo_open 10 = .ok (.ifCond .ne 5, 3) := by decide +kernel
theorem d_mo_open_13 : decode b_mo_open 13 = .ok (.iconst 0, 1) := by decide +kernel
theorem d_mo_open_14 : decode b_mo_open 14 = .ok (.ireturn, 1) := by decide +kernel
theorem d_mo_open_15 : decode b_mo_open 15 = .ok (.aload_n 0, 1) := by decide +kernel
theorem d_mo_open_16 : decode b_mo_open 16 = .ok (.getfield 7, 3) := by decide +kernel
theorem d_mo_open_19 : decode b_mo_open 19 = .ok (.iload_n 1, 1) := by decide +kernel
theorem d_mo_open_20 : decode b_mo_open 20 = .ok (.baload, 1) := by decide +kernel
theorem d_mo_open_21 : decode b_mo_open 21 = .ok (.ifCond .ne 7, 3) := by decide +kernel
theorem d_mo_open_24 : decode b_mo_open 24 = .ok (.iconst 1, 1) := by decide +kernel
theorem d_mo_open_25 : decode b_mo_open 25 = .ok (.goto 4, 3) := by decide +kernel
theorem d_mo_open_28 : decode b_mo_open 28 = .ok (.iconst 0, 1) := by decide +kernel
theorem d_mo_open_29 : decode b_mo_open 29 = .ok (.istore_n 3, 1) := by decide +kernel
theorem d_mo_open_30 : decode b_mo_open 30 = .ok (.aload_n 0, 1) := by decide +kernel
theorem d_mo_open_31 : decode b_mo_open 31 = .ok (.getfield 7, 3) := by decide +kernel
theorem d_mo_open_34 : decode b_mo_open 34 = .ok (.iload_n 1, 1) := by decide +kernel
theorem d_mo_open_35 : decode b_mo_open 35 = .ok (.iload_n 2, 1) := by decide +kernel
theorem d_mo_open_36 : decode b_mo_open 36 = .ok (.ifCond .ne 7, 3) := by decide +kernel
theorem d_mo_open_39 : decode b_mo_open 39 = .ok (.iconst 1, 1) := by decide +kernel
theorem d_mo_open_40 : decode b_mo_open 40 = .ok (.goto 4, 3) := by decide +kernel
theorem d_mo_open_43 : decode b_mo_open 43 = .ok (.iconst 0, 1) := by decide +kernel
theorem d_mo_open_44 : decode b_mo_open 44 = .ok (.bastore, 1) := by decide +kernel
theorem d_mo_open_45 : decode b_mo_open 45 = .ok (.iload_n 3, 1) := by decide +kernel
theorem d_mo_open_46 : decode b_mo_open 46 = .ok (.ireturn, 1) := by decide +kernel
theorem d_mo_isPlace_0 : decode b_mo_isPlace 0 = .ok (.iload_n 1, 1) := by decide +kernel
theorem d_mo_isPlace_1 : decode b_mo_isPlace 1 = .ok (.ifCond .lt 15, 3) := by decide +kernel
theorem d_mo_isPlace_4 : decode b_mo_isPlace 4 = .ok (.iload_n 1, 1) := by decide +kernel
theorem d_mo_isPlace_5 : decode b_mo_isPlace 5 = .ok (.aload_n 0, 1) := by decide +kernel
theorem d_mo_isPlace_6 : decode b_mo_isPlace 6 = .ok (.getfield 42, 3) := by decide +kernel
theorem d_mo_isPlace_9 : decode b_mo_isPlace 9 = .ok (.if_icmp .ge 7, 3) := by decide +kernel
theorem d_mo_isPlace_12 : decode b_mo_isPlace 12 = .ok (.iconst 1, 1) := by decide +kernel
theorem d_mo_isPlace_13 : decode b_mo_isPlace 13 = .ok (.goto 4, 3) := by decide +kernel
theorem d_mo_isPlace_16 : decode b_mo_isPlace 16 = .ok (.iconst 0, 1) := by decide +kernel
theorem d_mo_isPlace_17 : decode b_mo_isPlace 17 = .ok (.ireturn, 1) := by decide +kernel
theorem d_mo_route_0 : decode b_mo_route 0 = .ok (.aload_n 0, 1) := by decide +kernel
theorem d_mo_route_1 : decode b_mo_route 1 = .ok (.iconst 0, 1) := by decide +kernel
theorem d_mo_route_2 : decode b_mo_route 2 = .ok (.putfield 38, 3) := by decide +kernel
theorem d_mo_route_5 : decode b_mo_route 5 = .ok (.aload_n 0, 1) := by decide +kernel
theorem d_mo_route_6 : decode b_mo_route 6 = .ok (.iload_n 1, 1) := by decide +kernel
theorem d_mo_route_7 : decode b_mo_route 7 = .ok (.invokevirtual 55, 3) := by decide +kernel
theorem d_mo_route_10 : decode b_mo_route 10 = .ok (.ifCond .eq 61, 3) := by decide +kernel
theorem d_mo_route_13 : decode b_mo_route 13 = .ok (.aload_n 0, 1) := by decide +kernel
theorem d_mo_route_14 : decode b_mo_route 14 = .ok (.iload_n 2, 1) := by decide +kernel
theorem d_mo_route_15 : decode b_mo_route 15 = .ok (.invokevirtual 55, 3) := by decide +kernel
theorem d_mo_route_18 : decode b_mo_route 18 = .ok (.ifCond .eq 53, 3) := by decide +kernel
theorem d_mo_route_21 : decode b_mo_route 21 = .ok (.iload_n 1, 1) := by decide +kernel
theorem d_mo_route_22 : decode b_mo_route 22 = .ok (.iload_n 2, 1) := by decide +kernel
theorem d_mo_route_23 : decode b_mo_route 23 = .ok (.if_icmp .eq 48, 3) := by decide +kernel
theorem d_mo_route_26 : decode b_mo_route 26 = .ok (.iload_n 3, 1) := by decide +kernel
theorem d_mo_route_27 : decode b_mo_route 27 = .ok (.iconst 1, 1) := by decide +kernel
theorem d_mo_route_28 : decode b_mo_route 28 = .ok (.if_icmp .lt 43, 3) := by decide +kernel
theorem d_mo_route_31 : decode b_mo_route 31 = .ok (.iload_n 3, 1) := by decide +kernel
theorem d_mo_route_32 : decode b_mo_route 32 = .ok (.bipush 127, 2) := by decide +kernel
theorem d_mo_route_34 : decode b_mo_route 34 = .ok (.if_icmp .gt 37, 3) := by decide +kernel
theorem d_mo_route_37 : decode b_mo_route 37 = .ok (.iload 4, 2) := by decide +kernel
theorem d_mo_route_39 : decode b_mo_route 39 = .ok (.ifCond .lt 32, 3) := by decide +kernel
theorem d_mo_route_42 : decode b_mo_route 42 = .ok (.iload 4, 2) := by decide +kernel
theorem d_mo_route_44 : decode b_mo_route 44 = .ok (.bipush 30, 2) := by decide +kernel
theorem d_mo_route_46 : decode b_mo_route 46 = .ok (.if_icmp .gt 25, 3) := by decide +kernel
theorem d_mo_route_49 : decode b_mo_route 49 = .ok (.iload 5, 2) := by decide +kernel
theorem d_mo_route_51 : decode b_mo_route 51 = .ok (.iconst 1, 1) := by decide +kernel
theorem d_mo_route_52 : decode b_mo_route 52 = .ok (.if_icmp .lt 19, 3) := by decide +kernel
theorem d_mo_route_55 : decode b_mo_route 55 = .ok (.iload 5, 2) := by decide +kernel
theorem d_mo_route_57 : decode b_mo_route 57 = .ok (.bipush 99, 2) := by decide +kernel
theorem d_mo_route_59 : decode b_mo_route 59 = .ok (.if_icmp .gt 12, 3) := by decide +kernel
theorem d_mo_route_62 : decode b_mo_route 62 = .ok (.aload_n 0, 1) := by decide +kernel
theorem d_mo_route_63 : decode b_mo_route 63 = .ok (.getfield 45, 3) := by decide +kernel
theorem d_mo_route_66 : decode b_mo_route 66 = .ok (.bipush 40, 2) := by decide +kernel
theorem d_mo_route_68 : decode b_mo_route 68 = .ok (.if_icmp .ne 5, 3) := by decide +kernel
theorem d_mo_route_71 : decode b_mo_route 71 = .ok (.iconst (-1), 1) := by decide +kernel
theorem d_mo_route_72 : decode b_mo_route 72 = .ok (.ireturn, 1) := by decide +kernel
theorem d_mo_route_73 : decode b_mo_route 73 = .ok (.bipush 6, 2) := by decide +kernel
theorem d_mo_route_75 : decode b_mo_route 75 = .ok (.aload_n 0, 1) := by decide +kernel
theorem d_mo_route_76 : decode b_mo_route 76 = .ok (.getfield 45, 3) := by decide +kernel
theorem d_mo_route_79 : decode b_mo_route 79 = .ok (.imul, 1) := by decide +kernel
theorem d_mo_route_80 : decode b_mo_route 80 = .ok (.istore 6, 2) := by decide +kernel
theorem d_mo_route_82 : decode b_mo_route 82 = .ok (.aload_n 0, 1) := by decide +kernel
theorem d_mo_route_83 : decode b_mo_route 83 = .ok (.getfield 13, 3) := by decide +kernel
theorem d_mo_route_86 : decode b_mo_route 86 = .ok (.iload 6, 2) := by decide +kernel
theorem d_mo_route_88 : decode b_mo_route 88 = .ok (.iload_n 1, 1) := by decide +kernel
theorem d_mo_route_89 : decode b_mo_route 89 = .ok (.iastore, 1) := by decide +kernel
theorem d_mo_route_90 : decode b_mo_route 90 = .ok (.aload_n 0, 1) := by decide +kernel
theorem d_mo_route_91 : decode b_mo_route 91 = .ok (.getfield 13, 3) := by decide +kernel
theorem d_mo_route_94 : decode b_mo_route 94 = .ok (.iload 6, 2) := by decide +kernel
theorem d_mo_route_96 : decode b_mo_route 96 = .ok (.iconst 1, 1) := by decide +kernel
theorem d_mo_route_97 : decode b_mo_route 97 = .ok (.iadd, 1) := by decide +kernel
theorem d_mo_route_98 : decode b_mo_route 98 = .ok (.iload_n 2, 1) := by decide +kernel
theorem d_mo_route_99 : decode b_mo_route 99 = .ok (.iastore, 1) := by decide +kernel
theorem d_mo_route_100 : decode b_mo_route 100 = .ok (.aload_n 0, 1) := by decide +kernel
theorem d_mo_route_101 : decode b_mo_route 101 = .ok (.getfield 13, 3) := by decide +kernel
theorem d_mo_route_104 : decode b_mo_route 104 = .ok (.iload 6, 2) := by decide +kernel
theorem d_mo_route_106 : decode b_mo_route 106 = .ok (.iconst 2, 1) := by decide +kernel
theorem d_mo_route_107 : decode b_mo_route 107 = .ok (.iadd, 1) := by decide +kernel
theorem d_mo_route_108 : decode b_mo_route 108 = .ok (.iload_n 3, 1) := by decide +kernel
theorem d_mo_route_109 : decode b_mo_route 109 = .ok (.iastore, 1) := by decide +kernel
theorem d_mo_route_110 : decode b_mo_route 110 = .ok (.aload_n 0, 1) := by decide +kernel
theorem d_mo_route_111 : decode b_mo_route 111 = .ok (.getfield 13, 3) := by decide +kernel
theorem d_mo_route_114 : decode b_mo_route 114 = .ok (.iload 6, 2) := by decide +kernel
theorem d_mo_route_116 : decode b_mo_route 116 = .ok (.iconst 3, 1) := by decide +kernel
theorem d_mo_route_117 : decode b_mo_route 117 = .ok (.iadd, 1) := by decide +kernel
theorem d_mo_route_118 : decode b_mo_route 118 = .ok (.iload 4, 2) := by decide +kernel
theorem d_mo_route_120 : decode b_mo_route 120 = .ok (.iastore, 1) := by decide +kernel
theorem d_mo_route_121 : decode b_mo_route 121 = .ok (.aload_n 0, 1) := by decide +kernel
theorem d_mo_route_122 : decode b_mo_route 122 = .ok (.getfield 13, 3) := by decide +kernel
theorem d_mo_route_125 : decode b_mo_route 125 = .ok (.iload 6, 2) := by decide +kernel
theorem d_mo_route_127 : decode b_mo_route 127 = .ok (.iconst 4, 1) := by decide +kernel
theorem d_mo_route_128 : decode b_mo_route 128 = .ok (.iadd, 1) := by decide +kernel
theorem d_mo_route_129 : decode b_mo_route 129 = .ok (.iload 5, 2) := by decide +kernel
theorem d_mo_route_131 : decode b_mo_route 131 = .ok (.iastore, 1) := by decide +kernel
theorem d_mo_route_132 : decode b_mo_route 132 = .ok (.aload_n 0, 1) := by decide +kernel
theorem d_mo_route_133 : decode b_mo_route 133 = .ok (.getfield 13, 3) := by decide +kernel
theorem d_mo_route_136 : decode b_mo_route 136 = .ok (.iload 6, 2) := by decide +kernel
theorem d_mo_route_138 : decode b_mo_route 138 = .ok (.iconst 5, 1) := by decide +kernel
theorem d_mo_route_139 : decode b_mo_route 139 = .ok (.iadd, 1) := by decide +kernel
theorem d_mo_route_140 : decode b_mo_route 140 = .ok (.iconst (-1), 1) := by decide +kernel
theorem d_mo_route_141 : decode b_mo_route 141 = .ok (.iastore, 1) := by decide +kernel
theorem d_mo_route_142 : decode b_mo_route 142 = .ok (.aload_n 0, 1) := by decide +kernel
theorem d_mo_route_143 : decode b_mo_route 143 = .ok (.dup, 1) := by decide +kernel
theorem d_mo_route_144 : decode b_mo_route 144 = .ok (.getfield 45, 3) := by decide +kernel
theorem d_mo_route_147 : decode b_mo_route 147 = .ok (.iconst 1, 1) := by decide +kernel
theorem d_mo_route_148 : decode b_mo_route 148 = .ok (.iadd, 1) := by decide +kernel
theorem d_mo_route_149 : decode b_mo_route 149 = .ok (.putfield 45, 3) := by decide +kernel
theorem d_mo_route_152 : decode b_mo_route 152 = .ok (.aload_n 0, 1) := by decide +kernel
theorem d_mo_route_153 : decode b_mo_route 153 = .ok (.getfield 45, 3) := by decide +kernel
theorem d_mo_route_156 : decode b_mo_route 156 = .ok (.iconst 1, 1) := by decide +kernel
theorem d_mo_route_157 : decode b_mo_route 157 = .ok (.isub, 1) := by decide +kernel
theorem d_mo_route_158 : decode b_mo_route 158 = .ok (.ireturn, 1) := by decide +kernel
theorem d_mo_skip_0 : decode b_mo_skip 0 = .ok (.aload_n 0, 1) := by decide +kernel
theorem d_mo_skip_1 : decode b_mo_skip 1 = .ok (.iconst 0, 1) := by decide +kernel
theorem d_mo_skip_2 : decode b_mo_skip 2 = .ok (.putfield 38, 3) := by decide +kernel
theorem d_mo_skip_5 : decode b_mo_skip 5 = .ok (.aload_n 0, 1) := by decide +kernel
theorem d_mo_skip_6 : decode b_mo_skip 6 = .ok (.iload_n 1, 1) := by decide +kernel
theorem d_mo_skip_7 : decode b_mo_skip 7 = .ok (.invokevirtual 62, 3) := by decide +kernel
theorem d_mo_skip_10 : decode b_mo_skip 10 = .ok (.ifCond .eq 10, 3) := by decide +kernel
theorem d_mo_skip_13 : decode b_mo_skip 13 = .ok (.iload_n 2, 1) := by decide +kernel
theorem d_mo_skip_14 : decode b_mo_skip 14 = .ok (.invokestatic 65, 3) := by decide +kernel
theorem d_mo_skip_17 : decode b_mo_skip 17 = .ok (.ifCond .ne 5, 3) := by decide +kernel
theorem d_mo_skip_20 : decode b_mo_skip 20 = .ok (.iconst 0, 1) := by decide +kernel
theorem d_mo_skip_21 : decode b_mo_skip 21 = .ok (.ireturn, 1) := by decide +kernel
theorem d_mo_skip_22 : decode b_mo_skip 22 = .ok (.aload_n 0, 1) := by decide +kernel
theorem d_mo_skip_23 : decode b_mo_skip 23 = .ok (.iload_n 1, 1) := by decide +kernel
theorem d_mo_skip_24 : decode b_mo_skip 24 = .ok (.iload_n 2, 1) := by decide +kernel
theorem d_mo_skip_25 : decode b_mo_skip 25 = .ok (.invokevirtual 68, 3) := by decide +kernel
theorem d_mo_skip_28 : decode b_mo_skip 28 = .ok (.istore 4, 2) := by decide +kernel
theorem d_mo_skip_30 : decode b_mo_skip 30 = .ok (.iload_n 3, 1) := by decide +kernel
theorem d_mo_skip_31 : decode b_mo_skip 31 = .ok (.iload 4, 2) := by decide +kernel
theorem d_mo_skip_33 : decode b_mo_skip 33 = .ok (.iconst (-1), 1) := by decide +kernel
theorem d_mo_skip_34 : decode b_mo_skip 34 = .ok (.if_icmp .eq 7, 3) := by decide +kernel
theorem d_mo_skip_37 : decode b_mo_skip 37 = .ok (.iconst 1, 1) := by decide +kernel
theorem d_mo_skip_38 : decode b_mo_skip 38 = .ok (.goto 4, 3) := by decide +kernel
theorem d_mo_skip_41 : decode b_mo_skip 41 = .ok (.iconst 0, 1) := by decide +kernel
theorem d_mo_skip_42 : decode b_mo_skip 42 = .ok (.if_icmp .eq 16, 3) := by decide +kernel
theorem d_mo_skip_45 : decode b_mo_skip 45 = .ok (.iload_n 3, 1) := by decide +kernel
theorem d_mo_skip_46 : decode b_mo_skip 46 = .ok (.ifCond .eq 14, 3) := by decide +kernel
theorem d_mo_skip_49 : decode b_mo_skip 49 = .ok (.aload_n 0, 1) := by decide +kernel
theorem d_mo_skip_50 : decode b_mo_skip 50 = .ok (.getfield 59, 3) := by decide +kernel
theorem d_mo_skip_53 : decode b_mo_skip 53 = .ok (.bipush 60, 2) := by decide +kernel
theorem d_mo_skip_55 : decode b_mo_skip 55 = .ok (.if_icmp .ne 5, 3) := by decide +kernel
theorem d_mo_skip_58 : decode b_mo_skip 58 = .ok (.iconst 0, 1) := by decide +kernel
theorem d_mo_skip_59 : decode b_mo_skip 59 = .ok (.ireturn, 1) := by decide +kernel
theorem d_mo_skip_60 : decode b_mo_skip 60 = .ok (.iload_n 3, 1) := by decide +kernel
theorem d_mo_skip_61 : decode b_mo_skip 61 = .ok (.ifCond .eq 36, 3) := by decide +kernel
theorem d_mo_skip_64 : decode b_mo_skip 64 = .ok (.aload_n 0, 1) := by decide +kernel
theorem d_mo_skip_65 : decode b_mo_skip 65 = .ok (.getfield 17, 3) := by decide +kernel
theorem d_mo_skip_68 : decode b_mo_skip 68 = .ok (.aload_n 0, 1) := by decide +kernel
theorem d_mo_skip_69 : decode b_mo_skip 69 = .ok (.getfield 59, 3) := by decide +kernel
theorem d_mo_skip_72 : decode b_mo_skip 72 = .ok (.iload_n 1, 1) := by decide +kernel
theorem d_mo_skip_73 : decode b_mo_skip 73 = .ok (.iastore, 1) := by decide +kernel
theorem d_mo_skip_74 : decode b_mo_skip 74 = .ok (.aload_n 0, 1) := by decide +kernel
theorem d_mo_skip_75 : decode b_mo_skip 75 = .ok (.getfield 20, 3) := by decide +kernel
theorem d_mo_skip_78 : decode b_mo_skip 78 = .ok (.aload_n 0, 1) := by decide +kernel
theorem d_mo_skip_79 : decode b_mo_skip 79 = .ok (.getfield 59, 3) := by decide +kernel
theorem d_mo_skip_82 : decode b_mo_skip 82 = .ok (.iload_n 2, 1) := by decide +kernel
theorem d_mo_skip_83 : decode b_mo_skip 83 = .ok (.iastore, 1) := by decide +kernel
theorem d_mo_skip_84 : decode b_mo_skip 84 = .ok (.aload_n 0, 1) := by decide +kernel
theorem d_mo_skip_85 : decode b_mo_skip 85 = .ok (.dup, 1) := by decide +kernel
theorem d_mo_skip_86 : decode b_mo_skip 86 = .ok (.getfield 59, 3) := by decide +kernel
theorem d_mo_skip_89 : decode b_mo_skip 89 = .ok (.iconst 1, 1) := by decide +kernel
theorem d_mo_skip_90 : decode b_mo_skip 90 = .ok (.iadd, 1) := by decide +kernel
theorem d_mo_skip_91 : decode b_mo_skip 91 = .ok (.putfield 59, 3) := by decide +kernel
theorem d_mo_skip_94 : decode b_mo_skip 94 = .ok (.goto 45, 3) := by decide +kernel
theorem d_mo_skip_97 : decode b_mo_skip 97 = .ok (.aload_n 0, 1) := by decide +kernel
theorem d_mo_skip_98 : decode b_mo_skip 98 = .ok (.dup, 1) := by decide +kernel
theorem d_mo_skip_99 : decode b_mo_skip 99 = .ok (.getfield 59, 3) := by decide +kernel
theorem d_mo_skip_102 : decode b_mo_skip 102 = .ok (.iconst 1, 1) := by decide +kernel
theorem d_mo_skip_103 : decode b_mo_skip 103 = .ok (.isub, 1) := by decide +kernel
theorem d_mo_skip_104 : decode b_mo_skip 104 = .ok (.putfield 59, 3) := by decide +kernel
theorem d_mo_skip_107 : decode b_mo_skip 107 = .ok (.aload_n 0, 1) := by decide +kernel
theorem d_mo_skip_108 : decode b_mo_skip 108 = .ok (.getfield 17, 3) := by decide +kernel
theorem d_mo_skip_111 : decode b_mo_skip 111 = .ok (.iload 4, 2) := by decide +kernel
theorem d_mo_skip_113 : decode b_mo_skip 113 = .ok (.aload_n 0, 1) := by decide +kernel
theorem d_mo_skip_114 : decode b_mo_skip 114 = .ok (.getfield 17, 3) := by decide +kernel
theorem d_mo_skip_117 : decode b_mo_skip 117 = .ok (.aload_n 0, 1) := by decide +kernel
theorem d_mo_skip_118 : decode b_mo_skip 118 = .ok (.getfield 59, 3) := by decide +kernel
theorem d_mo_skip_121 : decode b_mo_skip 121 = .ok (.iaload, 1) := by decide +kernel
theorem d_mo_skip_122 : decode b_mo_skip 122 = .ok (.iastore, 1) := by decide +kernel
theorem d_mo_skip_123 : decode b_mo_skip 123 = .ok (.aload_n 0, 1) := by decide +kernel
theorem d_mo_skip_124 : decode b_mo_skip 124 = .ok (.getfield 20, 3) := by decide +kernel
theorem d_mo_skip_127 : decode b_mo_skip 127 = .ok (.iload 4, 2) := by decide +kernel
theorem d_mo_skip_129 : decode b_mo_skip 129 = .ok (.aload_n 0, 1) := by decide +kernel
theorem d_mo_skip_130 : decode b_mo_skip 130 = .ok (.getfield 20, 3) := by decide +kernel
theorem d_mo_skip_133 : decode b_mo_skip 133 = .ok (.aload_n 0, 1) := by decide +kernel
theorem d_mo_skip_134 : decode b_mo_skip 134 = .ok (.getfield 59, 3) := by decide +kernel
theorem d_mo_skip_137 : decode b_mo_skip 137 = .ok (.iaload, 1) := by decide +kernel
theorem d_mo_skip_138 : decode b_mo_skip 138 = .ok (.iastore, 1) := by decide +kernel
theorem d_mo_skip_139 : decode b_mo_skip 139 = .ok (.iconst 1, 1) := by decide +kernel
theorem d_mo_skip_140 : decode b_mo_skip 140 = .ok (.ireturn, 1) := by decide +kernel
theorem d_mo_isRoute_0 : decode b_mo_isRoute 0 = .ok (.iload_n 1, 1) := by decide +kernel
theorem d_mo_isRoute_1 : decode b_mo_isRoute 1 = .ok (.ifCond .lt 15, 3) := by decide +kernel
theorem d_mo_isRoute_4 : decode b_mo_isRoute 4 = .ok (.iload_n 1, 1) := by decide +kernel
theorem d_mo_isRoute_5 : decode b_mo_isRoute 5 = .ok (.aload_n 0, 1) := by decide +kernel
theorem d_mo_isRoute_6 : decode b_mo_isRoute 6 = .ok (.getfield 45, 3) := by decide +kernel
theorem d_mo_isRoute_9 : decode b_mo_isRoute 9 = .ok (.if_icmp .ge 7, 3) := by decide +kernel
theorem d_mo_isRoute_12 : decode b_mo_isRoute 12 = .ok (.iconst 1, 1) := by decide +kernel
theorem d_mo_isRoute_13 : decode b_mo_isRoute 13 = .ok (.goto 4, 3) := by decide +kernel
theorem d_mo_isRoute_16 : decode b_mo_isRoute 16 = .ok (.iconst 0, 1) := by decide +kernel
theorem d_mo_isRoute_17 : decode b_mo_isRoute 17 = .ok (.ireturn, 1) := by decide +kernel
theorem d_mo_isDay_0 : decode b_mo_isDay 0 = .ok (.iload_n 0, 1) := by decide +kernel
theorem d_mo_isDay_1 : decode b_mo_isDay 1 = .ok (.ifCond .lt 13, 3) := by decide +kernel
theorem d_mo_isDay_4 : decode b_mo_isDay 4 = .ok (.iload_n 0, 1) := by decide +kernel
theorem d_mo_isDay_5 : decode b_mo_isDay 5 = .ok (.ldc 54, 2) := by decide +kernel
theorem d_mo_isDay_7 : decode b_mo_isDay 7 = .ok (.if_icmp .ge 7, 3) := by decide +kernel
theorem d_mo_isDay_10 : decode b_mo_isDay 10 = .ok (.iconst 1, 1) := by decide +kernel
theorem d_mo_isDay_11 : decode b_mo_isDay 11 = .ok (.goto 4, 3) := by decide +kernel
theorem d_mo_isDay_14 : decode b_mo_isDay 14 = .ok (.iconst 0, 1) := by decide +kernel
theorem d_mo_isDay_15 : decode b_mo_isDay 15 = .ok (.ireturn, 1) := by decide +kernel
theorem d_mo_skipped_0 : decode b_mo_skipped 0 = .ok (.iconst 0, 1) := by decide +kernel
theorem d_mo_skipped_1 : decode b_mo_skipped 1 = .ok (.istore_n 3, 1) := by decide +kernel
theorem d_mo_skipped_2 : decode b_mo_skipped 2 = .ok (.iload_n 3, 1) := by decide +kernel
theorem d_mo_skipped_3 : decode b_mo_skipped 3 = .ok (.aload_n 0, 1) := by decide +kernel
theorem d_mo_skipped_4 : decode b_mo_skipped 4 = .ok (.getfield 59, 3) := by decide +kernel
theorem d_mo_skipped_7 : decode b_mo_skipped 7 = .ok (.if_icmp .ge 31, 3) := by decide +kernel
theorem d_mo_skipped_10 : decode b_mo_skipped 10 = .ok (.aload_n 0, 1) := by decide +kernel
theorem d_mo_skipped_11 : decode b_mo_skipped 11 = .ok (.getfield 17, 3) := by decide +kernel
theorem d_mo_skipped_14 : decode b_mo_skipped 14 = .ok (.iload_n 3, 1) := by decide +kernel
theorem d_mo_skipped_15 : decode b_mo_skipped 15 = .ok (.iaload, 1) := by decide +kernel
theorem d_mo_skipped_16 : decode b_mo_skipped 16 = .ok (.iload_n 1, 1) := by decide +kernel
theorem d_mo_skipped_17 : decode b_mo_skipped 17 = .ok (.if_icmp .ne 15, 3) := by decide +kernel
theorem d_mo_skipped_20 : decode b_mo_skipped 20 = .ok (.aload_n 0, 1) := by decide +kernel
theorem d_mo_skipped_21 : decode b_mo_skipped 21 = .ok (.getfield 20, 3) := by decide +kernel
theorem d_mo_skipped_24 : decode b_mo_skipped 24 = .ok (.iload_n 3, 1) := by decide +kernel
theorem d_mo_skipped_25 : decode b_mo_skipped 25 = .ok (.iaload, 1) := by decide +kernel
theorem d_mo_skipped_26 : decode b_mo_skipped 26 = .ok (.iload_n 2, 1) := by decide +kernel
theorem d_mo_skipped_27 : decode b_mo_skipped 27 = .ok (.if_icmp .ne 5, 3) := by decide +kernel
theorem d_mo_skipped_30 : decode b_mo_skipped 30 = .ok (.iload_n 3, 1) := by decide +kernel
theorem d_mo_skipped_31 : decode b_mo_skipped 31 = .ok (.ireturn, 1) := by decide +kernel
theorem d_mo_skipped_32 : decode b_mo_skipped 32 = .ok (.iinc 3 1, 3) := by decide +kernel
theorem d_mo_skipped_35 : decode b_mo_skipped 35 = .ok (.goto (-33), 3) := by decide +kernel
theorem d_mo_skipped_38 : decode b_mo_skipped 38 = .ok (.iconst (-1), 1) := by decide +kernel
theorem d_mo_skipped_39 : decode b_mo_skipped 39 = .ok (.ireturn, 1) := by decide +kernel
theorem d_mo_copy_0 : decode b_mo_copy 0 = .ok (.aload_n 0, 1) := by decide +kernel
theorem d_mo_copy_1 : decode b_mo_copy 1 = .ok (.iconst 0, 1) := by decide +kernel
theorem d_mo_copy_2 : decode b_mo_copy 2 = .ok (.putfield 38, 3) := by decide +kernel
theorem d_mo_copy_5 : decode b_mo_copy 5 = .ok (.aload_n 0, 1) := by decide +kernel
theorem d_mo_copy_6 : decode b_mo_copy 6 = .ok (.iload_n 1, 1) := by decide +kernel
theorem d_mo_copy_7 : decode b_mo_copy 7 = .ok (.invokevirtual 55, 3) := by decide +kernel
theorem d_mo_copy_10 : decode b_mo_copy 10 = .ok (.ifCond .eq 12, 3) := by decide +kernel
theorem d_mo_copy_13 : decode b_mo_copy 13 = .ok (.aload_n 0, 1) := by decide +kernel
theorem d_mo_copy_14 : decode b_mo_copy 14 = .ok (.getfield 48, 3) := by decide +kernel
theorem d_mo_copy_17 : decode b_mo_copy 17 = .ok (.bipush 60, 2) := by decide +kernel
theorem d_mo_copy_19 : decode b_mo_copy 19 = .ok (.if_icmp .ne 5, 3) := by decide +kernel
theorem d_mo_copy_22 : decode b_mo_copy 22 = .ok (.iconst 0, 1) := by decide +kernel
theorem d_mo_copy_23 : decode b_mo_copy 23 = .ok (.ireturn, 1) := by decide +kernel
theorem d_mo_copy_24 : decode b_mo_copy 24 = .ok (.aload_n 0, 1) := by decide +kernel
theorem d_mo_copy_25 : decode b_mo_copy 25 = .ok (.dup, 1) := by decide +kernel
theorem d_mo_copy_26 : decode b_mo_copy 26 = .ok (.getfield 48, 3) := by decide +kernel
theorem d_mo_copy_29 : decode b_mo_copy 29 = .ok (.iconst 1, 1) := by decide +kernel
theorem d_mo_copy_30 : decode b_mo_copy 30 = .ok (.iadd, 1) := by decide +kernel
theorem d_mo_copy_31 : decode b_mo_copy 31 = .ok (.putfield 48, 3) := by decide +kernel
theorem d_mo_copy_34 : decode b_mo_copy 34 = .ok (.aload_n 0, 1) := by decide +kernel
theorem d_mo_copy_35 : decode b_mo_copy 35 = .ok (.getfield 23, 3) := by decide +kernel
theorem d_mo_copy_38 : decode b_mo_copy 38 = .ok (.iconst 3, 1) := by decide +kernel
theorem d_mo_copy_39 : decode b_mo_copy 39 = .ok (.aload_n 0, 1) := by decide +kernel
theorem d_mo_copy_40 : decode b_mo_copy 40 = .ok (.getfield 48, 3) := by decide +kernel
theorem d_mo_copy_43 : decode b_mo_copy 43 = .ok (.imul, 1) := by decide +kernel
theorem d_mo_copy_44 : decode b_mo_copy 44 = .ok (.iload_n 1, 1) := by decide +kernel
theorem d_mo_copy_45 : decode b_mo_copy 45 = .ok (.iastore, 1) := by decide +kernel
theorem d_mo_copy_46 : decode b_mo_copy 46 = .ok (.aload_n 0, 1) := by decide +kernel
theorem d_mo_copy_47 : decode b_mo_copy 47 = .ok (.getfield 23, 3) := by decide +kernel
theorem d_mo_copy_50 : decode b_mo_copy 50 = .ok (.iconst 3, 1) := by decide +kernel
theorem d_mo_copy_51 : decode b_mo_copy 51 = .ok (.aload_n 0, 1) := by decide +kernel
theorem d_mo_copy_52 : decode b_mo_copy 52 = .ok (.getfield 48, 3) := by decide +kernel
theorem d_mo_copy_55 : decode b_mo_copy 55 = .ok (.imul, 1) := by decide +kernel
theorem d_mo_copy_56 : decode b_mo_copy 56 = .ok (.iconst 1, 1) := by decide +kernel
theorem d_mo_copy_57 : decode b_mo_copy 57 = .ok (.iadd, 1) := by decide +kernel
theorem d_mo_copy_58 : decode b_mo_copy 58 = .ok (.iload_n 1, 1) := by decide +kernel
theorem d_mo_copy_59 : decode b_mo_copy 59 = .ok (.iastore, 1) := by decide +kernel
theorem d_mo_copy_60 : decode b_mo_copy 60 = .ok (.aload_n 0, 1) := by decide +kernel
theorem d_mo_copy_61 : decode b_mo_copy 61 = .ok (.getfield 48, 3) := by decide +kernel
theorem d_mo_copy_64 : decode b_mo_copy 64 = .ok (.ireturn, 1) := by decide +kernel
theorem d_mo_priority_0 : decode b_mo_priority 0 = .ok (.aload_n 0, 1) := by decide +kernel
theorem d_mo_priority_1 : decode b_mo_priority 1 = .ok (.iconst 0, 1) := by decide +kernel
theorem d_mo_priority_2 : decode b_mo_priority 2 = .ok (.putfield 38, 3) := by decide +kernel
theorem d_mo_priority_5 : decode b_mo_priority 5 = .ok (.aload_n 0, 1) := by decide +kernel
theorem d_mo_priority_6 : decode b_mo_priority 6 = .ok (.iload_n 1, 1) := by decide +kernel
theorem d_mo_priority_7 : decode b_mo_priority 7 = .ok (.invokevirtual 72, 3) := by decide +kernel
theorem d_mo_priority_10 : decode b_mo_priority 10 = .ok (.ifCond .ne 5, 3) := by decide +kernel
theorem d_mo_priority_13 : decode b_mo_priority 13 = .ok (.iconst 0, 1) := by decide +kernel
theorem d_mo_priority_14 : decode b_mo_priority 14 = .ok (.ireturn, 1) := by decide +kernel
theorem d_mo_priority_15 : decode b_mo_priority 15 = .ok (.aload_n 0, 1) := by decide +kernel
theorem d_mo_priority_16 : decode b_mo_priority 16 = .ok (.getfield 26, 3) := by decide +kernel
theorem d_mo_priority_19 : decode b_mo_priority 19 = .ok (.iload_n 1, 1) := by decide +kernel
theorem d_mo_priority_20 : decode b_mo_priority 20 = .ok (.baload, 1) := by decide +kernel
theorem d_mo_priority_21 : decode b_mo_priority 21 = .ok (.istore_n 3, 1) := by decide +kernel
theorem d_mo_priority_22 : decode b_mo_priority 22 = .ok (.aload_n 0, 1) := by decide +kernel
theorem d_mo_priority_23 : decode b_mo_priority 23 = .ok (.getfield 26, 3) := by decide +kernel
theorem d_mo_priority_26 : decode b_mo_priority 26 = .ok (.iload_n 1, 1) := by decide +kernel
theorem d_mo_priority_27 : decode b_mo_priority 27 = .ok (.iload_n 2, 1) := by decide +kernel
theorem d_mo_priority_28 : decode b_mo_priority 28 = .ok (.bastore, 1) := by decide +kernel
theorem d_mo_priority_29 : decode b_mo_priority 29 = .ok (.iload_n 3, 1) := by decide +kernel
theorem d_mo_priority_30 : decode b_mo_priority 30 = .ok (.ireturn, 1) := by decide +kernel
theorem d_mo_isCopy_0 : decode b_mo_isCopy 0 = .ok (.iload_n 1, 1) := by decide +kernel
theorem d_mo_isCopy_1 : decode b_mo_isCopy 1 = .ok (.ifCond .le 15, 3) := by decide +kernel
theorem d_mo_isCopy_4 : decode b_mo_isCopy 4 = .ok (.iload_n 1, 1) := by decide +kernel
theorem d_mo_isCopy_5 : decode b_mo_isCopy 5 = .ok (.aload_n 0, 1) := by decide +kernel
theorem d_mo_isCopy_6 : decode b_mo_isCopy 6 = .ok (.getfield 48, 3) := by decide +kernel
theorem d_mo_isCopy_9 : decode b_mo_isCopy 9 = .ok (.if_icmp .gt 7, 3) := by decide +kernel
theorem d_mo_isCopy_12 : decode b_mo_isCopy 12 = .ok (.iconst 1, 1) := by decide +kernel
theorem d_mo_isCopy_13 : decode b_mo_isCopy 13 = .ok (.goto 4, 3) := by decide +kernel
theorem d_mo_isCopy_16 : decode b_mo_isCopy 16 = .ok (.iconst 0, 1) := by decide +kernel
theorem d_mo_isCopy_17 : decode b_mo_isCopy 17 = .ok (.ireturn, 1) := by decide +kernel
theorem d_mo_floats_0 : decode b_mo_floats 0 = .ok (.aload_n 0, 1) := by decide +kernel
theorem d_mo_floats_1 : decode b_mo_floats 1 = .ok (.iconst 0, 1) := by decide +kernel
theorem d_mo_floats_2 : decode b_mo_floats 2 = .ok (.putfield 38, 3) := by decide +kernel
theorem d_mo_floats_5 : decode b_mo_floats 5 = .ok (.aload_n 0, 1) := by decide +kernel
theorem d_mo_floats_6 : decode b_mo_floats 6 = .ok (.iload_n 1, 1) := by decide +kernel
theorem d_mo_floats_7 : decode b_mo_floats 7 = .ok (.invokevirtual 72, 3) := by decide +kernel
theorem d_mo_floats_10 : decode b_mo_floats 10 = .ok (.ifCond .ne 5, 3) := by decide +kernel
theorem d_mo_floats_13 : decode b_mo_floats 13 = .ok (.iconst 0, 1) := by decide +kernel
theorem d_mo_floats_14 : decode b_mo_floats 14 = .ok (.ireturn, 1) := by decide +kernel
theorem d_mo_floats_15 : decode b_mo_floats 15 = .ok (.aload_n 0, 1) := by decide +kernel
theorem d_mo_floats_16 : decode b_mo_floats 16 = .ok (.getfield 29, 3) := by decide +kernel
theorem d_mo_floats_19 : decode b_mo_floats 19 = .ok (.iload_n 1, 1) := by decide +kernel
theorem d_mo_floats_20 : decode b_mo_floats 20 = .ok (.baload, 1) := by decide +kernel
theorem d_mo_floats_21 : decode b_mo_floats 21 = .ok (.istore_n 3, 1) := by decide +kernel
theorem d_mo_floats_22 : decode b_mo_floats 22 = .ok (.aload_n 0, 1) := by decide +kernel
theorem d_mo_floats_23 : decode b_mo_floats 23 = .ok (.getfield 29, 3) := by decide +kernel
theorem d_mo_floats_26 : decode b_mo_floats 26 = .ok (.iload_n 1, 1) := by decide +kernel
theorem d_mo_floats_27 : decode b_mo_floats 27 = .ok (.iload_n 2, 1) := by decide +kernel
theorem d_mo_floats_28 : decode b_mo_floats 28 = .ok (.bastore, 1) := by decide +kernel
theorem d_mo_floats_29 : decode b_mo_floats 29 = .ok (.iload_n 3, 1) := by decide +kernel
theorem d_mo_floats_30 : decode b_mo_floats 30 = .ok (.ireturn, 1) := by decide +kernel
theorem d_mo_send_0 : decode b_mo_send 0 = .ok (.aload_n 0, 1) := by decide +kernel
theorem d_mo_send_1 : decode b_mo_send 1 = .ok (.iconst 0, 1) := by decide +kernel
theorem d_mo_send_2 : decode b_mo_send 2 = .ok (.putfield 38, 3) := by decide +kernel
theorem d_mo_send_5 : decode b_mo_send 5 = .ok (.aload_n 0, 1) := by decide +kernel
theorem d_mo_send_6 : decode b_mo_send 6 = .ok (.iload_n 1, 1) := by decide +kernel
theorem d_mo_send_7 : decode b_mo_send 7 = .ok (.invokevirtual 72, 3) := by decide +kernel
theorem d_mo_send_10 : decode b_mo_send 10 = .ok (.ifCond .eq 53, 3) := by decide +kernel
theorem d_mo_send_13 : decode b_mo_send 13 = .ok (.aload_n 0, 1) := by decide +kernel
theorem d_mo_send_14 : decode b_mo_send 14 = .ok (.iload_n 2, 1) := by decide +kernel
theorem d_mo_send_15 : decode b_mo_send 15 = .ok (.invokevirtual 55, 3) := by decide +kernel
theorem d_mo_send_18 : decode b_mo_send 18 = .ok (.ifCond .eq 45, 3) := by decide +kernel
theorem d_mo_send_21 : decode b_mo_send 21 = .ok (.iload_n 3, 1) := by decide +kernel
theorem d_mo_send_22 : decode b_mo_send 22 = .ok (.invokestatic 65, 3) := by decide +kernel
theorem d_mo_send_25 : decode b_mo_send 25 = .ok (.ifCond .eq 38, 3) := by decide +kernel
theorem d_mo_send_28 : decode b_mo_send 28 = .ok (.aload_n 0, 1) := by decide +kernel
theorem d_mo_send_29 : decode b_mo_send 29 = .ok (.getfield 23, 3) := by decide +kernel
theorem d_mo_send_32 : decode b_mo_send 32 = .ok (.iconst 3, 1) := by decide +kernel
theorem d_mo_send_33 : decode b_mo_send 33 = .ok (.iload_n 1, 1) := by decide +kernel
theorem d_mo_send_34 : decode b_mo_send 34 = .ok (.imul, 1) := by decide +kernel
theorem d_mo_send_35 : decode b_mo_send 35 = .ok (.iconst 2, 1) := by decide +kernel
theorem d_mo_send_36 : decode b_mo_send 36 = .ok (.iadd, 1) := by decide +kernel
theorem d_mo_send_37 : decode b_mo_send 37 = .ok (.iaload, 1) := by decide +kernel
theorem d_mo_send_38 : decode b_mo_send 38 = .ok (.ifCond .ne 25, 3) := by decide +kernel
theorem d_mo_send_41 : decode b_mo_send 41 = .ok (.aload_n 0, 1) := by decide +kernel
theorem d_mo_send_42 : decode b_mo_send 42 = .ok (.getfield 23, 3) := by decide +kernel
theorem d_mo_send_45 : decode b_mo_send 45 = .ok (.iconst 3, 1) := by decide +kernel
theorem d_mo_send_46 : decode b_mo_send 46 = .ok (.iload_n 1, 1) := by decide +kernel
theorem d_mo_send_47 : decode b_mo_send 47 = .ok (.imul, 1) := by decide +kernel
theorem d_mo_send_48 : decode b_mo_send 48 = .ok (.iaload, 1) := by decide +kernel
theorem d_mo_send_49 : decode b_mo_send 49 = .ok (.iload_n 2, 1) := by decide +kernel
theorem d_mo_send_50 : decode b_mo_send 50 = .ok (.if_icmp .eq 13, 3) := by decide +kernel
theorem d_mo_send_53 : decode b_mo_send 53 = .ok (.aload_n 0, 1) := by decide +kernel
theorem d_mo_send_54 : decode b_mo_send 54 = .ok (.getfield 51, 3) := by decide +kernel
theorem d_mo_send_57 : decode b_mo_send 57 = .ok (.sipush 150, 3) := by decide +kernel
theorem d_mo_send_60 : decode b_mo_send 60 = .ok (.if_icmp .ne 5, 3) := by decide +kernel
theorem d_mo_send_63 : decode b_mo_send 63 = .ok (.iconst 0, 1) := by decide +kernel
theorem d_mo_send_64 : decode b_mo_send 64 = .ok (.ireturn, 1) := by decide +kernel
theorem d_mo_send_65 : decode b_mo_send 65 = .ok (.aload_n 0, 1) := by decide +kernel
theorem d_mo_send_66 : decode b_mo_send 66 = .ok (.getfield 7, 3) := by decide +kernel
theorem d_mo_send_69 : decode b_mo_send 69 = .ok (.iload_n 2, 1) := by decide +kernel
theorem d_mo_send_70 : decode b_mo_send 70 = .ok (.baload, 1) := by decide +kernel
theorem d_mo_send_71 : decode b_mo_send 71 = .ok (.ifCond .eq 6, 3) := by decide +kernel
theorem d_mo_send_74 : decode b_mo_send 74 = .ok (.bipush (-2), 2) := by decide +kernel
theorem d_mo_send_76 : decode b_mo_send 76 = .ok (.ireturn, 1) := by decide +kernel
theorem d_mo_send_77 : decode b_mo_send 77 = .ok (.iconst (-1), 1) := by decide +kernel
theorem d_mo_send_78 : decode b_mo_send 78 = .ok (.istore 4, 2) := by decide +kernel
theorem d_mo_send_80 : decode b_mo_send 80 = .ok (.iconst 0, 1) := by decide +kernel
theorem d_mo_send_81 : decode b_mo_send 81 = .ok (.istore 5, 2) := by decide +kernel
theorem d_mo_send_83 : decode b_mo_send 83 = .ok (.iconst 0, 1) := by decide +kernel
theorem d_mo_send_84 : decode b_mo_send 84 = .ok (.istore 6, 2) := by decide +kernel
theorem d_mo_send_86 : decode b_mo_send 86 = .ok (.iload 6, 2) := by decide +kernel
theorem d_mo_send_88 : decode b_mo_send 88 = .ok (.aload_n 0, 1) := by decide +kernel
theorem d_mo_send_89 : decode b_mo_send 89 = .ok (.getfield 45, 3) := by decide +kernel
theorem d_mo_send_92 : decode b_mo_send 92 = .ok (.if_icmp .ge 142, 3) := by decide +kernel
theorem d_mo_send_95 : decode b_mo_send 95 = .ok (.aload_n 0, 1) := by decide +kernel
theorem d_mo_send_96 : decode b_mo_send 96 = .ok (.getfield 13, 3) := by decide +kernel
theorem d_mo_send_99 : decode b_mo_send 99 = .ok (.bipush 6, 2) := by decide +kernel
theorem d_mo_send_101 : decode b_mo_send 101 = .ok (.iload 6, 2) := by decide +kernel
theorem d_mo_send_103 : decode b_mo_send 103 = .ok (.imul, 1) := by decide +kernel
theorem d_mo_send_104 : decode b_mo_send 104 = .ok (.iaload, 1) := by decide +kernel
theorem d_mo_send_105 : decode b_mo_send 105 = .ok (.aload_n 0, 1) := by decide +kernel
theorem d_mo_send_106 : decode b_mo_send 106 = .ok (.getfield 23, 3) := by decide +kernel
theorem d_mo_send_109 : decode b_mo_send 109 = .ok (.iconst 3, 1) := by decide +kernel
theorem d_mo_send_110 : decode b_mo_send 110 = .ok (.iload_n 1, 1) := by decide +kernel
theorem d_mo_send_111 : decode b_mo_send 111 = .ok (.imul, 1) := by decide +kernel
theorem d_mo_send_112 : decode b_mo_send 112 = .ok (.iaload, 1) := by decide +kernel
theorem d_mo_send_113 : decode b_mo_send 113 = .ok (.if_icmp .ne 115, 3) := by decide +kernel
theorem d_mo_send_116 : decode b_mo_send 116 = .ok (.aload_n 0, 1) := by decide +kernel
theorem d_mo_send_117 : decode b_mo_send 117 = .ok (.getfield 13, 3) := by decide +kernel
theorem d_mo_send_120 : decode b_mo_send 120 = .ok (.bipush 6, 2) := by decide +kernel
theorem d_mo_send_122 : decode b_mo_send 122 = .ok (.iload 6, 2) := by decide +kernel
theorem d_mo_send_124 : decode b_mo_send 124 = .ok (.imul, 1) := by decide +kernel
theorem d_mo_send_125 : decode b_mo_send 125 = .ok (.iconst 1, 1) := by decide +kernel
theorem d_mo_send_126 : decode b_mo_send 126 = .ok (.iadd, 1) := by decide +kernel
theorem d_mo_send_127 : decode b_mo_send 127 = .ok (.iaload, 1) := by decide +kernel
theorem d_mo_send_128 : decode b_mo_send 128 = .ok (.iload_n 2, 1) := by decide +kernel
theorem d_mo_send_129 : decode b_mo_send 129 = .ok (.if_icmp .ne 99, 3) := by decide +kernel
theorem d_mo_send_132 : decode b_mo_send 132 = .ok (.aload_n 0, 1) := by decide +kernel
theorem d_mo_send_133 : decode b_mo_send 133 = .ok (.getfield 26, 3) := by decide +kernel
theorem d_mo_send_136 : decode b_mo_send 136 = .ok (.iload_n 1, 1) := by decide +kernel
theorem d_mo_send_137 : decode b_mo_send 137 = .ok (.baload, 1) := by decide +kernel
theorem d_mo_send_138 : decode b_mo_send 138 = .ok (.ifCond .eq 7, 3) := by decide +kernel
theorem d_mo_send_141 : decode b_mo_send 141 = .ok (.iload_n 3, 1) := by decide +kernel
theorem d_mo_send_142 : decode b_mo_send 142 = .ok (.goto 6, 3) := by decide +kernel
theorem d_mo_send_145 : decode b_mo_send 145 = .ok (.iload_n 3, 1) := by decide +kernel
theorem d_mo_send_146 : decode b_mo_send 146 = .ok (.iconst 1, 1) := by decide +kernel
theorem d_mo_send_147 : decode b_mo_send 147 = .ok (.iadd, 1) := by decide +kernel
theorem d_mo_send_148 : decode b_mo_send 148 = .ok (.istore 7, 2) := by decide +kernel
theorem d_mo_send_150 : decode b_mo_send 150 = .ok (.iload 7, 2) := by decide +kernel
theorem d_mo_send_152 : decode b_mo_send 152 = .ok (.ldc 54, 2) := by decide +kernel
theorem d_mo_send_154 : decode b_mo_send 154 = .ok (.if_icmp .ge 20, 3) := by decide +kernel
theorem d_mo_send_157 : decode b_mo_send 157 = .ok (.aload_n 0, 1) := by decide +kernel
theorem d_mo_send_158 : decode b_mo_send 158 = .ok (.iload 6, 2) := by decide +kernel
theorem d_mo_send_160 : decode b_mo_send 160 = .ok (.iload 7, 2) := by decide +kernel
theorem d_mo_send_162 : decode b_mo_send 162 = .ok (.invokevirtual 75, 3) := by decide +kernel
theorem d_mo_send_165 : decode b_mo_send 165 = .ok (.ifCond .ne 9, 3) := by decide +kernel
theorem d_mo_send_168 : decode b_mo_send 168 = .ok (.iinc 7 1, 3) := by decide +kernel
theorem d_mo_send_171 : decode b_mo_send 171 = .ok (.goto (-21), 3) := by decide +kernel
theorem d_mo_send_174 : decode b_mo_send 174 = .ok (.iload 7, 2) := by decide +kernel
theorem d_mo_send_176 : decode b_mo_send 176 = .ok (.ldc 54, 2) := by decide +kernel
theorem d_mo_send_178 : decode b_mo_send 178 = .ok (.if_icmp .ge 50, 3) := by decide +kernel
theorem d_mo_send_181 : decode b_mo_send 181 = .ok (.iload 4, 2) := by decide +kernel
theorem d_mo_send_183 : decode b_mo_send 183 = .ok (.iconst (-1), 1) := by decide +kernel
theorem d_mo_send_184 : decode b_mo_send 184 = .ok (.if_icmp .eq 36, 3) := by decide +kernel
theorem d_mo_send_187 : decode b_mo_send 187 = .ok (.iload 7, 2) := by decide +kernel
theorem d_mo_send_189 : decode b_mo_send 189 = .ok (.aload_n 0, 1) := by decide +kernel
theorem d_mo_send_190 : decode b_mo_send 190 = .ok (.getfield 13, 3) := by decide +kernel
theorem d_mo_send_193 : decode b_mo_send 193 = .ok (.bipush 6, 2) := by decide +kernel
theorem d_mo_send_195 : decode b_mo_send 195 = .ok (.iload 6, 2) := by decide +kernel
theorem d_mo_send_197 : decode b_mo_send 197 = .ok (.imul, 1) := by decide +kernel
theorem d_mo_send_198 : decode b_mo_send 198 = .ok (.iconst 3, 1) := by decide +kernel
theorem d_mo_send_199 : decode b_mo_send 199 = .ok (.iadd, 1) := by decide +kernel
theorem d_mo_send_200 : decode b_mo_send 200 = .ok (.iaload, 1) := by decide +kernel
theorem d_mo_send_201 : decode b_mo_send 201 = .ok (.iadd, 1) := by decide +kernel
theorem d_mo_send_202 : decode b_mo_send 202 = .ok (.iload 5, 2) := by decide +kernel
theorem d_mo_send_204 : decode b_mo_send 204 = .ok (.aload_n 0, 1) := by decide +kernel
theorem d_mo_send_205 : decode b_mo_send 205 = .ok (.getfield 13, 3) := by decide +kernel
theorem d_mo_send_208 : decode b_mo_send 208 = .ok (.bipush 6, 2) := by decide +kernel
theorem d_mo_send_210 : decode b_mo_send 210 = .ok (.iload 4, 2) := by decide +kernel
theorem d_mo_send_212 : decode b_mo_send 212 = .ok (.imul, 1) := by decide +kernel
theorem d_mo_send_213 : decode b_mo_send 213 = .ok (.iconst 3, 1) := by decide +kernel
theorem d_mo_send_214 : decode b_mo_send 214 = .ok (.iadd, 1) := by decide +kernel
theorem d_mo_send_215 : decode b_mo_send 215 = .ok (.iaload, 1) := by decide +kernel
theorem d_mo_send_216 : decode b_mo_send 216 = .ok (.iadd, 1) := by decide +kernel
theorem d_mo_send_217 : decode b_mo_send 217 = .ok (.if_icmp .ge 11, 3) := by decide +kernel
theorem d_mo_send_220 : decode b_mo_send 220 = .ok (.iload 6, 2) := by decide +kernel
theorem d_mo_send_222 : decode b_mo_send 222 = .ok (.istore 4, 2) := by decide +kernel
theorem d_mo_send_224 : decode b_mo_send 224 = .ok (.iload 7, 2) := by decide +kernel
theorem d_mo_send_226 : decode b_mo_send 226 = .ok (.istore 5, 2) := by decide +kernel
theorem d_mo_send_228 : decode b_mo_send 228 = .ok (.iinc 6 1, 3) := by decide +kernel
theorem d_mo_send_231 : decode b_mo_send 231 = .ok (.goto (-145), 3) := by decide +kernel
theorem d_mo_send_234 : decode b_mo_send 234 = .ok (.iload 4, 2) := by decide +kernel
theorem d_mo_send_236 : decode b_mo_send 236 = .ok (.iconst (-1), 1) := by decide +kernel
theorem d_mo_send_237 : decode b_mo_send 237 = .ok (.if_icmp .ne 6, 3) := by decide +kernel
theorem d_mo_send_240 : decode b_mo_send 240 = .ok (.bipush (-3), 2) := by decide +kernel
theorem d_mo_send_242 : decode b_mo_send 242 = .ok (.ireturn, 1) := by decide +kernel
theorem d_mo_send_243 : decode b_mo_send 243 = .ok (.aload_n 0, 1) := by decide +kernel
theorem d_mo_send_244 : decode b_mo_send 244 = .ok (.dup, 1) := by decide +kernel
theorem d_mo_send_245 : decode b_mo_send 245 = .ok (.getfield 51, 3) := by decide +kernel
theorem d_mo_send_248 : decode b_mo_send 248 = .ok (.iconst 1, 1) := by decide +kernel
theorem d_mo_send_249 : decode b_mo_send 249 = .ok (.iadd, 1) := by decide +kernel
theorem d_mo_send_250 : decode b_mo_send 250 = .ok (.putfield 51, 3) := by decide +kernel
theorem d_mo_send_253 : decode b_mo_send 253 = .ok (.bipush 8, 2) := by decide +kernel
theorem d_mo_send_255 : decode b_mo_send 255 = .ok (.aload_n 0, 1) := by decide +kernel
theorem d_mo_send_256 : decode b_mo_send 256 = .ok (.getfield 51, 3) := by decide +kernel
theorem d_mo_send_259 : decode b_mo_send 259 = .ok (.imul, 1) := by decide +kernel
theorem d_mo_send_260 : decode b_mo_send 260 = .ok (.istore 6, 2) := by decide +kernel
theorem d_mo_send_262 : decode b_mo_send 262 = .ok (.aload_n 0, 1) := by decide +kernel
theorem d_mo_send_263 : decode b_mo_send 263 = .ok (.getfield 32, 3) := by decide +kernel
theorem d_mo_send_266 : decode b_mo_send 266 = .ok (.iload 6, 2) := by decide +kernel
theorem d_mo_send_268 : decode b_mo_send 268 = .ok (.iload_n 1, 1) := by decide +kernel
theorem d_mo_send_269 : decode b_mo_send 269 = .ok (.iastore, 1) := by decide +kernel
theorem d_mo_send_270 : decode b_mo_send 270 = .ok (.aload_n 0, 1) := by decide +kernel
theorem d_mo_send_271 : decode b_mo_send 271 = .ok (.getfield 32, 3) := by decide +kernel
theorem d_mo_send_274 : decode b_mo_send 274 = .ok (.iload 6, 2) := by decide +kernel
theorem d_mo_send_276 : decode b_mo_send 276 = .ok (.iconst 1, 1) := by decide +kernel
theorem d_mo_send_277 : decode b_mo_send 277 = .ok (.iadd, 1) := by decide +kernel
theorem d_mo_send_278 : decode b_mo_send 278 = .ok (.iload 4, 2) := by decide +kernel
theorem d_mo_send_280 : decode b_mo_send 280 = .ok (.iastore, 1) := by decide +kernel
theorem d_mo_send_281 : decode b_mo_send 281 = .ok (.aload_n 0, 1) := by decide +kernel
theorem d_mo_send_282 : decode b_mo_send 282 = .ok (.getfield 32, 3) := by decide +kernel
theorem d_mo_send_285 : decode b_mo_send 285 = .ok (.iload 6, 2) := by decide +kernel
theorem d_mo_send_287 : decode b_mo_send 287 = .ok (.iconst 3, 1) := by decide +kernel
theorem d_mo_send_288 : decode b_mo_send 288 = .ok (.iadd, 1) := by decide +kernel
theorem d_mo_send_289 : decode b_mo_send 289 = .ok (.iload_n 3, 1) := by decide +kernel
theorem d_mo_send_290 : decode b_mo_send 290 = .ok (.iastore, 1) := by decide +kernel
theorem d_mo_send_291 : decode b_mo_send 291 = .ok (.aload_n 0, 1) := by decide +kernel
theorem d_mo_send_292 : decode b_mo_send 292 = .ok (.getfield 32, 3) := by decide +kernel
theorem d_mo_send_295 : decode b_mo_send 295 = .ok (.iload 6, 2) := by decide +kernel
theorem d_mo_send_297 : decode b_mo_send 297 = .ok (.iconst 4, 1) := by decide +kernel
theorem d_mo_send_298 : decode b_mo_send 298 = .ok (.iadd, 1) := by decide +kernel
theorem d_mo_send_299 : decode b_mo_send 299 = .ok (.iload 5, 2) := by decide +kernel
theorem d_mo_send_301 : decode b_mo_send 301 = .ok (.iastore, 1) := by decide +kernel
theorem d_mo_send_302 : decode b_mo_send 302 = .ok (.aload_n 0, 1) := by decide +kernel
theorem d_mo_send_303 : decode b_mo_send 303 = .ok (.getfield 32, 3) := by decide +kernel
theorem d_mo_send_306 : decode b_mo_send 306 = .ok (.iload 6, 2) := by decide +kernel
theorem d_mo_send_308 : decode b_mo_send 308 = .ok (.iconst 5, 1) := by decide +kernel
theorem d_mo_send_309 : decode b_mo_send 309 = .ok (.iadd, 1) := by decide +kernel
theorem d_mo_send_310 : decode b_mo_send 310 = .ok (.iconst (-1), 1) := by decide +kernel
theorem d_mo_send_311 : decode b_mo_send 311 = .ok (.iastore, 1) := by decide +kernel
theorem d_mo_send_312 : decode b_mo_send 312 = .ok (.aload_n 0, 1) := by decide +kernel
theorem d_mo_send_313 : decode b_mo_send 313 = .ok (.getfield 23, 3) := by decide +kernel
theorem d_mo_send_316 : decode b_mo_send 316 = .ok (.iconst 3, 1) := by decide +kernel
theorem d_mo_send_317 : decode b_mo_send 317 = .ok (.iload_n 1, 1) := by decide +kernel
theorem d_mo_send_318 : decode b_mo_send 318 = .ok (.imul, 1) := by decide +kernel
theorem d_mo_send_319 : decode b_mo_send 319 = .ok (.iconst (-1), 1) := by decide +kernel
theorem d_mo_send_320 : decode b_mo_send 320 = .ok (.iastore, 1) := by decide +kernel
theorem d_mo_send_321 : decode b_mo_send 321 = .ok (.aload_n 0, 1) := by decide +kernel
theorem d_mo_send_322 : decode b_mo_send 322 = .ok (.getfield 23, 3) := by decide +kernel
theorem d_mo_send_325 : decode b_mo_send 325 = .ok (.iconst 3, 1) := by decide +kernel
theorem d_mo_send_326 : decode b_mo_send 326 = .ok (.iload_n 1, 1) := by decide +kernel
theorem d_mo_send_327 : decode b_mo_send 327 = .ok (.imul, 1) := by decide +kernel
theorem d_mo_send_328 : decode b_mo_send 328 = .ok (.iconst 2, 1) := by decide +kernel
theorem d_mo_send_329 : decode b_mo_send 329 = .ok (.iadd, 1) := by decide +kernel
theorem d_mo_send_330 : decode b_mo_send 330 = .ok (.aload_n 0, 1) := by decide +kernel
theorem d_mo_send_331 : decode b_mo_send 331 = .ok (.getfield 51, 3) := by decide +kernel
theorem d_mo_send_334 : decode b_mo_send 334 = .ok (.iastore, 1) := by decide +kernel
theorem d_mo_send_335 : decode b_mo_send 335 = .ok (.aload_n 0, 1) := by decide +kernel
theorem d_mo_send_336 : decode b_mo_send 336 = .ok (.getfield 51, 3) := by decide +kernel
theorem d_mo_send_339 : decode b_mo_send 339 = .ok (.ireturn, 1) := by decide +kernel
theorem d_mo_runs_0 : decode b_mo_runs 0 = .ok (.aload_n 0, 1) := by decide +kernel
theorem d_mo_runs_1 : decode b_mo_runs 1 = .ok (.getfield 13, 3) := by decide +kernel
theorem d_mo_runs_4 : decode b_mo_runs 4 = .ok (.bipush 6, 2) := by decide +kernel
theorem d_mo_runs_6 : decode b_mo_runs 6 = .ok (.iload_n 1, 1) := by decide +kernel
theorem d_mo_runs_7 : decode b_mo_runs 7 = .ok (.imul, 1) := by decide +kernel
theorem d_mo_runs_8 : decode b_mo_runs 8 = .ok (.iconst 2, 1) := by decide +kernel
theorem d_mo_runs_9 : decode b_mo_runs 9 = .ok (.iadd, 1) := by decide +kernel
theorem d_mo_runs_10 : decode b_mo_runs 10 = .ok (.iaload, 1) := by decide +kernel
theorem d_mo_runs_11 : decode b_mo_runs 11 = .ok (.iload_n 2, 1) := by decide +kernel
theorem d_mo_runs_12 : decode b_mo_runs 12 = .ok (.bipush 7, 2) := by decide +kernel
theorem d_mo_runs_14 : decode b_mo_runs 14 = .ok (.irem, 1) := by decide +kernel
theorem d_mo_runs_15 : decode b_mo_runs 15 = .ok (.ishr, 1) := by decide +kernel
theorem d_mo_runs_16 : decode b_mo_runs 16 = .ok (.iconst 1, 1) := by decide +kernel
theorem d_mo_runs_17 : decode b_mo_runs 17 = .ok (.iand, 1) := by decide +kernel
theorem d_mo_runs_18 : decode b_mo_runs 18 = .ok (.iconst 1, 1) := by decide +kernel
theorem d_mo_runs_19 : decode b_mo_runs 19 = .ok (.if_icmp .ne 17, 3) := by decide +kernel
theorem d_mo_runs_22 : decode b_mo_runs 22 = .ok (.aload_n 0, 1) := by decide +kernel
theorem d_mo_runs_23 : decode b_mo_runs 23 = .ok (.iload_n 1, 1) := by decide +kernel
theorem d_mo_runs_24 : decode b_mo_runs 24 = .ok (.iload_n 2, 1) := by decide +kernel
theorem d_mo_runs_25 : decode b_mo_runs 25 = .ok (.invokevirtual 68, 3) := by decide +kernel
theorem d_mo_runs_28 : decode b_mo_runs 28 = .ok (.iconst (-1), 1) := by decide +kernel
theorem d_mo_runs_29 : decode b_mo_runs 29 = .ok (.if_icmp .ne 7, 3) := by decide +kernel
theorem d_mo_runs_32 : decode b_mo_runs 32 = .ok (.iconst 1, 1) := by decide +kernel
theorem d_mo_runs_33 : decode b_mo_runs 33 = .ok (.goto 4, 3) := by decide +kernel
theorem d_mo_runs_36 : decode b_mo_runs 36 = .ok (.iconst 0, 1) := by decide +kernel
theorem d_mo_runs_37 : decode b_mo_runs 37 = .ok (.ireturn, 1) := by decide +kernel
theorem d_mo_back_0 : decode b_mo_back 0 = .ok (.aload_n 0, 1) := by decide +kernel
theorem d_mo_back_1 : decode b_mo_back 1 = .ok (.iconst 0, 1) := by decide +kernel
theorem d_mo_back_2 : decode b_mo_back 2 = .ok (.putfield 38, 3) := by decide +kernel
theorem d_mo_back_5 : decode b_mo_back 5 = .ok (.aload_n 0, 1) := by decide +kernel
theorem d_mo_back_6 : decode b_mo_back 6 = .ok (.iload_n 1, 1) := by decide +kernel
theorem d_mo_back_7 : decode b_mo_back 7 = .ok (.invokevirtual 79, 3) := by decide +kernel
theorem d_mo_back_10 : decode b_mo_back 10 = .ok (.ifCond .eq 17, 3) := by decide +kernel
theorem d_mo_back_13 : decode b_mo_back 13 = .ok (.aload_n 0, 1) := by decide +kernel
theorem d_mo_back_14 : decode b_mo_back 14 = .ok (.getfield 32, 3) := by decide +kernel
theorem d_mo_back_17 : decode b_mo_back 17 = .ok (.bipush 8, 2) := by decide +kernel
theorem d_mo_back_19 : decode b_mo_back 19 = .ok (.iload_n 1, 1) := by decide +kernel
theorem d_mo_back_20 : decode b_mo_back 20 = .ok (.imul, 1) := by decide +kernel
theorem d_mo_back_21 : decode b_mo_back 21 = .ok (.iconst 2, 1) := by decide +kernel
theorem d_mo_back_22 : decode b_mo_back 22 = .ok (.iadd, 1) := by decide +kernel
theorem d_mo_back_23 : decode b_mo_back 23 = .ok (.iaload, 1) := by decide +kernel
theorem d_mo_back_24 : decode b_mo_back 24 = .ok (.ifCond .eq 5, 3) := by decide +kernel
theorem d_mo_back_27 : decode b_mo_back 27 = .ok (.iconst 0, 1) := by decide +kernel
theorem d_mo_back_28 : decode b_mo_back 28 = .ok (.ireturn, 1) := by decide +kernel
theorem d_mo_back_29 : decode b_mo_back 29 = .ok (.aload_n 0, 1) := by decide +kernel
theorem d_mo_back_30 : decode b_mo_back 30 = .ok (.getfield 32, 3) := by decide +kernel
theorem d_mo_back_33 : decode b_mo_back 33 = .ok (.bipush 8, 2) := by decide +kernel
theorem d_mo_back_35 : decode b_mo_back 35 = .ok (.iload_n 1, 1) := by decide +kernel
theorem d_mo_back_36 : decode b_mo_back 36 = .ok (.imul, 1) := by decide +kernel
theorem d_mo_back_37 : decode b_mo_back 37 = .ok (.iconst 2, 1) := by decide +kernel
theorem d_mo_back_38 : decode b_mo_back 38 = .ok (.iadd, 1) := by decide +kernel
theorem d_mo_back_39 : decode b_mo_back 39 = .ok (.iconst 5, 1) := by decide +kernel
theorem d_mo_back_40 : decode b_mo_back 40 = .ok (.iastore, 1) := by decide +kernel
theorem d_mo_back_41 : decode b_mo_back 41 = .ok (.aload_n 0, 1) := by decide +kernel
theorem d_mo_back_42 : decode b_mo_back 42 = .ok (.getfield 32, 3) := by decide +kernel
theorem d_mo_back_45 : decode b_mo_back 45 = .ok (.bipush 8, 2) := by decide +kernel
theorem d_mo_back_47 : decode b_mo_back 47 = .ok (.iload_n 1, 1) := by decide +kernel
theorem d_mo_back_48 : decode b_mo_back 48 = .ok (.imul, 1) := by decide +kernel
theorem d_mo_back_49 : decode b_mo_back 49 = .ok (.iaload, 1) := by decide +kernel
theorem d_mo_back_50 : decode b_mo_back 50 = .ok (.istore_n 2, 1) := by decide +kernel
theorem d_mo_back_51 : decode b_mo_back 51 = .ok (.aload_n 0, 1) := by decide +kernel
theorem d_mo_back_52 : decode b_mo_back 52 = .ok (.getfield 23, 3) := by decide +kernel
theorem d_mo_back_55 : decode b_mo_back 55 = .ok (.iconst 3, 1) := by decide +kernel
theorem d_mo_back_56 : decode b_mo_back 56 = .ok (.iload_n 2, 1) := by decide +kernel
theorem d_mo_back_57 : decode b_mo_back 57 = .ok (.imul, 1) := by decide +kernel
theorem d_mo_back_58 : decode b_mo_back 58 = .ok (.aload_n 0, 1) := by decide +kernel
theorem d_mo_back_59 : decode b_mo_back 59 = .ok (.getfield 13, 3) := by decide +kernel
theorem d_mo_back_62 : decode b_mo_back 62 = .ok (.bipush 6, 2) := by decide +kernel
theorem d_mo_back_64 : decode b_mo_back 64 = .ok (.aload_n 0, 1) := by decide +kernel
theorem d_mo_back_65 : decode b_mo_back 65 = .ok (.getfield 32, 3) := by decide +kernel
theorem d_mo_back_68 : decode b_mo_back 68 = .ok (.bipush 8, 2) := by decide +kernel
theorem d_mo_back_70 : decode b_mo_back 70 = .ok (.iload_n 1, 1) := by decide +kernel
theorem d_mo_back_71 : decode b_mo_back 71 = .ok (.imul, 1) := by decide +kernel
theorem d_mo_back_72 : decode b_mo_back 72 = .ok (.iconst 1, 1) := by decide +kernel
theorem d_mo_back_73 : decode b_mo_back 73 = .ok (.iadd, 1) := by decide +kernel
theorem d_mo_back_74 : decode b_mo_back 74 = .ok (.iaload, 1) := by decide +kernel
theorem d_mo_back_75 : decode b_mo_back 75 = .ok (.imul, 1) := by decide +kernel
theorem d_mo_back_76 : decode b_mo_back 76 = .ok (.iaload, 1) := by decide +kernel
theorem d_mo_back_77 : decode b_mo_back 77 = .ok (.iastore, 1) := by decide +kernel
theorem d_mo_back_78 : decode b_mo_back 78 = .ok (.aload_n 0, 1) := by decide +kernel
theorem d_mo_back_79 : decode b_mo_back 79 = .ok (.getfield 23, 3) := by decide +kernel
theorem d_mo_back_82 : decode b_mo_back 82 = .ok (.iconst 3, 1) := by decide +kernel
theorem d_mo_back_83 : decode b_mo_back 83 = .ok (.iload_n 2, 1) := by decide +kernel
theorem d_mo_back_84 : decode b_mo_back 84 = .ok (.imul, 1) := by decide +kernel
theorem d_mo_back_85 : decode b_mo_back 85 = .ok (.iconst 2, 1) := by decide +kernel
theorem d_mo_back_86 : decode b_mo_back 86 = .ok (.iadd, 1) := by decide +kernel
theorem d_mo_back_87 : decode b_mo_back 87 = .ok (.iconst 0, 1) := by decide +kernel
theorem d_mo_back_88 : decode b_mo_back 88 = .ok (.iastore, 1) := by decide +kernel
theorem d_mo_back_89 : decode b_mo_back 89 = .ok (.iconst 1, 1) := by decide +kernel
theorem d_mo_back_90 : decode b_mo_back 90 = .ok (.ireturn, 1) := by decide +kernel
theorem d_mo_isSlip_0 : decode b_mo_isSlip 0 = .ok (.iload_n 1, 1) := by decide +kernel
theorem d_mo_isSlip_1 : decode b_mo_isSlip 1 = .ok (.ifCond .le 15, 3) := by decide +kernel
theorem d_mo_isSlip_4 : decode b_mo_isSlip 4 = .ok (.iload_n 1, 1) := by decide +kernel
theorem d_mo_isSlip_5 : decode b_mo_isSlip 5 = .ok (.aload_n 0, 1) := by decide +kernel
theorem d_mo_isSlip_6 : decode b_mo_isSlip 6 = .ok (.getfield 51, 3) := by decide +kernel
theorem d_mo_isSlip_9 : decode b_mo_isSlip 9 = .ok (.if_icmp .gt 7, 3) := by decide +kernel
theorem d_mo_isSlip_12 : decode b_mo_isSlip 12 = .ok (.iconst 1, 1) := by decide +kernel
theorem d_mo_isSlip_13 : decode b_mo_isSlip 13 = .ok (.goto 4, 3) := by decide +kernel
theorem d_mo_isSlip_16 : decode b_mo_isSlip 16 = .ok (.iconst 0, 1) := by decide +kernel
theorem d_mo_isSlip_17 : decode b_mo_isSlip 17 = .ok (.ireturn, 1) := by decide +kernel
theorem d_mo_bin_0 : decode b_mo_bin 0 = .ok (.aload_n 0, 1) := by decide +kernel
theorem d_mo_bin_1 : decode b_mo_bin 1 = .ok (.iconst 0, 1) := by decide +kernel
theorem d_mo_bin_2 : decode b_mo_bin 2 = .ok (.putfield 38, 3) := by decide +kernel
theorem d_mo_bin_5 : decode b_mo_bin 5 = .ok (.iconst 1, 1) := by decide +kernel
theorem d_mo_bin_6 : decode b_mo_bin 6 = .ok (.istore 4, 2) := by decide +kernel
theorem d_mo_bin_8 : decode b_mo_bin 8 = .ok (.iload 4, 2) := by decide +kernel
theorem d_mo_bin_10 : decode b_mo_bin 10 = .ok (.aload_n 0, 1) := by decide +kernel
theorem d_mo_bin_11 : decode b_mo_bin 11 = .ok (.getfield 51, 3) := by decide +kernel
theorem d_mo_bin_14 : decode b_mo_bin 14 = .ok (.if_icmp .gt 86, 3) := by decide +kernel
theorem d_mo_bin_17 : decode b_mo_bin 17 = .ok (.iload_n 3, 1) := by decide +kernel
theorem d_mo_bin_18 : decode b_mo_bin 18 = .ok (.ifCond .lt 82, 3) := by decide +kernel
theorem d_mo_bin_21 : decode b_mo_bin 21 = .ok (.aload_n 0, 1) := by decide +kernel
theorem d_mo_bin_22 : decode b_mo_bin 22 = .ok (.iload 4, 2) := by decide +kernel
theorem d_mo_bin_24 : decode b_mo_bin 24 = .ok (.iload_n 1, 1) := by decide +kernel
theorem d_mo_bin_25 : decode b_mo_bin 25 = .ok (.iload_n 2, 1) := by decide +kernel
theorem d_mo_bin_26 : decode b_mo_bin 26 = .ok (.invokevirtual 82, 3) := by decide +kernel
theorem d_mo_bin_29 : decode b_mo_bin 29 = .ok (.ifCond .eq 65, 3) := by decide +kernel
theorem d_mo_bin_32 : decode b_mo_bin 32 = .ok (.iconst 0, 1) := by decide +kernel
theorem d_mo_bin_33 : decode b_mo_bin 33 = .ok (.istore 5, 2) := by decide +kernel
theorem d_mo_bin_35 : decode b_mo_bin 35 = .ok (.iconst 1, 1) := by decide +kernel
theorem d_mo_bin_36 : decode b_mo_bin 36 = .ok (.istore 6, 2) := by decide +kernel
theorem d_mo_bin_38 : decode b_mo_bin 38 = .ok (.iload 6, 2) := by decide +kernel
theorem d_mo_bin_40 : decode b_mo_bin 40 = .ok (.aload_n 0, 1) := by decide +kernel
theorem d_mo_bin_41 : decode b_mo_bin 41 = .ok (.getfield 51, 3) := by decide +kernel
theorem d_mo_bin_44 : decode b_mo_bin 44 = .ok (.if_icmp .gt 41, 3) := by decide +kernel
theorem d_mo_bin_47 : decode b_mo_bin 47 = .ok (.iload 5, 2) := by decide +kernel
theorem d_mo_bin_49 : decode b_mo_bin 49 = .ok (.aload_n 0, 1) := by decide +kernel
theorem d_mo_bin_50 : decode b_mo_bin 50 = .ok (.iload 6, 2) := by decide +kernel
theorem d_mo_bin_52 : decode b_mo_bin 52 = .ok (.iload_n 1, 1) := by decide +kernel
theorem d_mo_bin_53 : decode b_mo_bin 53 = .ok (.iload_n 2, 1) := by decide +kernel
theorem d_mo_bin_54 : decode b_mo_bin 54 = .ok (.invokevirtual 82, 3) := by decide +kernel
theorem d_mo_bin_57 : decode b_mo_bin 57 = .ok (.ifCond .eq 18, 3) := by decide +kernel
theorem d_mo_bin_60 : decode b_mo_bin 60 = .ok (.aload_n 0, 1) := by decide +kernel
theorem d_mo_bin_61 : decode b_mo_bin 61 = .ok (.iload 6, 2) := by decide +kernel
theorem d_mo_bin_63 : decode b_mo_bin 63 = .ok (.iload 4, 2) := by decide +kernel
theorem d_mo_bin_65 : decode b_mo_bin 65 = .ok (.invokevirtual 86, 3) := by decide +kernel
theorem d_mo_bin_68 : decode b_mo_bin 68 = .ok (.ifCond .eq 7, 3) := by decide +kernel
theorem d_mo_bin_71 : decode b_mo_bin 71 = .ok (.iconst 1, 1) := by decide +kernel
theorem d_mo_bin_72 : decode b_mo_bin 72 = .ok (.goto 4, 3) := by decide +kernel
theorem d_mo_bin_75 : decode b_mo_bin 75 = .ok (.iconst 0, 1) := by decide +kernel
theorem d_mo_bin_76 : decode b_mo_bin 76 = .ok (.iadd, 1) := by decide +kernel
theorem d_mo_bin_77 : decode b_mo_bin 77 = .ok (.istore 5, 2) := by decide +kernel
theorem d_mo_bin_79 : decode b_mo_bin 79 = .ok (.iinc 6 1, 3) := by decide +kernel
theorem d_mo_bin_82 : decode b_mo_bin 82 = .ok (.goto (-44), 3) := by decide +kernel
theorem d_mo_bin_85 : decode b_mo_bin 85 = .ok (.iload 5, 2) := by decide +kernel
theorem d_mo_bin_87 : decode b_mo_bin 87 = .ok (.iload_n 3, 1) := by decide +kernel
theorem d_mo_bin_88 : decode b_mo_bin 88 = .ok (.if_icmp .ne 6, 3) := by decide +kernel
theorem d_mo_bin_91 : decode b_mo_bin 91 = .ok (.iload 4, 2) := by decide +kernel
theorem d_mo_bin_93 : decode b_mo_bin 93 = .ok (.ireturn, 1) := by decide +kernel
theorem d_mo_bin_94 : decode b_mo_bin 94 = .ok (.iinc 4 1, 3) := by decide +kernel
theorem d_mo_bin_97 : decode b_mo_bin 97 = .ok (.goto (-89), 3) := by decide +kernel
theorem d_mo_bin_100 : decode b_mo_bin 100 = .ok (.iconst 0, 1) := by decide +kernel
theorem d_mo_bin_101 : decode b_mo_bin 101 = .ok (.ireturn, 1) := by decide +kernel
theorem d_mo_isIn_0 : decode b_mo_isIn 0 = .ok (.aload_n 0, 1) := by decide +kernel
theorem d_mo_isIn_1 : decode b_mo_isIn 1 = .ok (.getfield 32, 3) := by decide +kernel
theorem d_mo_isIn_4 : decode b_mo_isIn 4 = .ok (.bipush 8, 2) := by decide +kernel
theorem d_mo_isIn_6 : decode b_mo_isIn 6 = .ok (.iload_n 1, 1) := by decide +kernel
theorem d_mo_isIn_7 : decode b_mo_isIn 7 = .ok (.imul, 1) := by decide +kernel
theorem d_mo_isIn_8 : decode b_mo_isIn 8 = .ok (.iconst 1, 1) := by decide +kernel
theorem d_mo_isIn_9 : decode b_mo_isIn 9 = .ok (.iadd, 1) := by decide +kernel
theorem d_mo_isIn_10 : decode b_mo_isIn 10 = .ok (.iaload, 1) := by decide +kernel
theorem d_mo_isIn_11 : decode b_mo_isIn 11 = .ok (.istore 4, 2) := by decide +kernel
theorem d_mo_isIn_13 : decode b_mo_isIn 13 = .ok (.aload_n 0, 1) := by decide +kernel
theorem d_mo_isIn_14 : decode b_mo_isIn 14 = .ok (.getfield 32, 3) := by decide +kernel
theorem d_mo_isIn_17 : decode b_mo_isIn 17 = .ok (.bipush 8, 2) := by decide +kernel
theorem d_mo_isIn_19 : decode b_mo_isIn 19 = .ok (.iload_n 1, 1) := by decide +kernel
theorem d_mo_isIn_20 : decode b_mo_isIn 20 = .ok (.imul, 1) := by decide +kernel
theorem d_mo_isIn_21 : decode b_mo_isIn 21 = .ok (.iconst 2, 1) := by decide +kernel
theorem d_mo_isIn_22 : decode b_mo_isIn 22 = .ok (.iadd, 1) := by decide +kernel
theorem d_mo_isIn_23 : decode b_mo_isIn 23 = .ok (.iaload, 1) := by decide +kernel
theorem d_mo_isIn_24 : decode b_mo_isIn 24 = .ok (.ifCond .ne 37, 3) := by decide +kernel
theorem d_mo_isIn_27 : decode b_mo_isIn 27 = .ok (.aload_n 0, 1) := by decide +kernel
theorem d_mo_isIn_28 : decode b_mo_isIn 28 = .ok (.getfield 13, 3) := by decide +kernel
theorem d_mo_isIn_31 : decode b_mo_isIn 31 = .ok (.bipush 6, 2) := by decide +kernel
theorem d_mo_isIn_33 : decode b_mo_isIn 33 = .ok (.iload 4, 2) := by decide +kernel
theorem d_mo_isIn_35 : decode b_mo_isIn 35 = .ok (.imul, 1) := by decide +kernel
theorem d_mo_isIn_36 : decode b_mo_isIn 36 = .ok (.iaload, 1) := by decide +kernel
theorem d_mo_isIn_37 : decode b_mo_isIn 37 = .ok (.iload_n 2, 1) := by decide +kernel
theorem d_mo_isIn_38 : decode b_mo_isIn 38 = .ok (.if_icmp .ne 23, 3) := by decide +kernel
theorem d_mo_isIn_41 : decode b_mo_isIn 41 = .ok (.aload_n 0, 1) := by decide +kernel
theorem d_mo_isIn_42 : decode b_mo_isIn 42 = .ok (.getfield 13, 3) := by decide +kernel
theorem d_mo_isIn_45 : decode b_mo_isIn 45 = .ok (.bipush 6, 2) := by decide +kernel
theorem d_mo_isIn_47 : decode b_mo_isIn 47 = .ok (.iload 4, 2) := by decide +kernel
theorem d_mo_isIn_49 : decode b_mo_isIn 49 = .ok (.imul, 1) := by decide +kernel
theorem d_mo_isIn_50 : decode b_mo_isIn 50 = .ok (.iconst 1, 1) := by decide +kernel
theorem d_mo_isIn_51 : decode b_mo_isIn 51 = .ok (.iadd, 1) := by decide +kernel
theorem d_mo_isIn_52 : decode b_mo_isIn 52 = .ok (.iaload, 1) := by decide +kernel
theorem d_mo_isIn_53 : decode b_mo_isIn 53 = .ok (.iload_n 3, 1) := by decide +kernel
theorem d_mo_isIn_54 : decode b_mo_isIn 54 = .ok (.if_icmp .ne 7, 3) := by decide +kernel
theorem d_mo_isIn_57 : decode b_mo_isIn 57 = .ok (.iconst 1, 1) := by decide +kernel
theorem d_mo_isIn_58 : decode b_mo_isIn 58 = .ok (.goto 4, 3) := by decide +kernel
theorem d_mo_isIn_61 : decode b_mo_isIn 61 = .ok (.iconst 0, 1) := by decide +kernel
theorem d_mo_isIn_62 : decode b_mo_isIn 62 = .ok (.ireturn, 1) := by decide +kernel
theorem d_mo_isBefore_0 : decode b_mo_isBefore 0 = .ok (.aload_n 0, 1) := by decide +kernel
theorem d_mo_isBefore_1 : decode b_mo_isBefore 1 = .ok (.getfield 26, 3) := by decide +kernel
theorem d_mo_isBefore_4 : decode b_mo_isBefore 4 = .ok (.aload_n 0, 1) := by decide +kernel
theorem d_mo_isBefore_5 : decode b_mo_isBefore 5 = .ok (.getfield 32, 3) := by decide +kernel
theorem d_mo_isBefore_8 : decode b_mo_isBefore 8 = .ok (.bipush 8, 2) := by decide +kernel
theorem d_mo_isBefore_10 : decode b_mo_isBefore 10 = .ok (.iload_n 1, 1) := by decide +kernel
theorem d_mo_isBefore_11 : decode b_mo_isBefore 11 = .ok (.imul, 1) := by decide +kernel
theorem d_mo_isBefore_12 : decode b_mo_isBefore 12 = .ok (.iaload, 1) := by decide +kernel
theorem d_mo_isBefore_13 : decode b_mo_isBefore 13 = .ok (.baload, 1) := by decide +kernel
theorem d_mo_isBefore_14 : decode b_mo_isBefore 14 = .ok (.istore_n 3, 1) := by decide +kernel
theorem d_mo_isBefore_15 : decode b_mo_isBefore 15 = .ok (.aload_n 0, 1) := by decide +kernel
theorem d_mo_isBefore_16 : decode b_mo_isBefore 16 = .ok (.getfield 26, 3) := by decide +kernel
theorem d_mo_isBefore_19 : decode b_mo_isBefore 19 = .ok (.aload_n 0, 1) := by decide +kernel
theorem d_mo_isBefore_20 : decode b_mo_isBefore 20 = .ok (.getfield 32, 3) := by decide +kernel
theorem d_mo_isBefore_23 : decode b_mo_isBefore 23 = .ok (.bipush 8, 2) := by decide +kernel
theorem d_mo_isBefore_25 : decode b_mo_isBefore 25 = .ok (.iload_n 2, 1) := by decide +kernel
theorem d_mo_isBefore_26 : decode b_mo_isBefore 26 = .ok (.imul, 1) := by decide +kernel
theorem d_mo_isBefore_27 : decode b_mo_isBefore 27 = .ok (.iaload, 1) := by decide +kernel
theorem d_mo_isBefore_28 : decode b_mo_isBefore 28 = .ok (.baload, 1) := by decide +kernel
theorem d_mo_isBefore_29 : decode b_mo_isBefore 29 = .ok (.istore 4, 2) := by decide +kernel
theorem d_mo_isBefore_31 : decode b_mo_isBefore 31 = .ok (.iload_n 3, 1) := by decide +kernel
theorem d_mo_isBefore_32 : decode b_mo_isBefore 32 = .ok (.iload 4, 2) := by decide +kernel
theorem d_mo_isBefore_34 : decode b_mo_isBefore 34 = .ok (.if_icmp .eq 5, 3) := by decide +kernel
theorem d_mo_isBefore_37 : decode b_mo_isBefore 37 = .ok (.iload_n 3, 1) := by decide +kernel
theorem d_mo_isBefore_38 : decode b_mo_isBefore 38 = .ok (.ireturn, 1) := by decide +kernel
theorem d_mo_isBefore_39 : decode b_mo_isBefore 39 = .ok (.aload_n 0, 1) := by decide +kernel
theorem d_mo_isBefore_40 : decode b_mo_isBefore 40 = .ok (.getfield 32, 3) := by decide +kernel
theorem d_mo_isBefore_43 : decode b_mo_isBefore 43 = .ok (.bipush 8, 2) := by decide +kernel
theorem d_mo_isBefore_45 : decode b_mo_isBefore 45 = .ok (.iload_n 1, 1) := by decide +kernel
theorem d_mo_isBefore_46 : decode b_mo_isBefore 46 = .ok (.imul, 1) := by decide +kernel
theorem d_mo_isBefore_47 : decode b_mo_isBefore 47 = .ok (.iconst 4, 1) := by decide +kernel
theorem d_mo_isBefore_48 : decode b_mo_isBefore 48 = .ok (.iadd, 1) := by decide +kernel
theorem d_mo_isBefore_49 : decode b_mo_isBefore 49 = .ok (.iaload, 1) := by decide +kernel
theorem d_mo_isBefore_50 : decode b_mo_isBefore 50 = .ok (.istore 5, 2) := by decide +kernel
theorem d_mo_isBefore_52 : decode b_mo_isBefore 52 = .ok (.aload_n 0, 1) := by decide +kernel
theorem d_mo_isBefore_53 : decode b_mo_isBefore 53 = .ok (.getfield 32, 3) := by decide +kernel
theorem d_mo_isBefore_56 : decode b_mo_isBefore 56 = .ok (.bipush 8, 2) := by decide +kernel
theorem d_mo_isBefore_58 : decode b_mo_isBefore 58 = .ok (.iload_n 2, 1) := by decide +kernel
theorem d_mo_isBefore_59 : decode b_mo_isBefore 59 = .ok (.imul, 1) := by decide +kernel
theorem d_mo_isBefore_60 : decode b_mo_isBefore 60 = .ok (.iconst 4, 1) := by decide +kernel
theorem d_mo_isBefore_61 : decode b_mo_isBefore 61 = .ok (.iadd, 1) := by decide +kernel
theorem d_mo_isBefore_62 : decode b_mo_isBefore 62 = .ok (.iaload, 1) := by decide +kernel
theorem d_mo_isBefore_63 : decode b_mo_isBefore 63 = .ok (.istore 6, 2) := by decide +kernel
theorem d_mo_isBefore_65 : decode b_mo_isBefore 65 = .ok (.iload 5, 2) := by decide +kernel
theorem d_mo_isBefore_67 : decode b_mo_isBefore 67 = .ok (.iload 6, 2) := by decide +kernel
theorem d_mo_isBefore_69 : decode b_mo_isBefore 69 = .ok (.if_icmp .eq 18, 3) := by decide +kernel
theorem d_mo_isBefore_72 : decode b_mo_isBefore 72 = .ok (.iload 5, 2) := by decide +kernel
theorem d_mo_isBefore_74 : decode b_mo_isBefore 74 = .ok (.iload 6, 2) := by decide +kernel
theorem d_mo_isBefore_76 : decode b_mo_isBefore 76 = .ok (.if_icmp .ge 7, 3) := by decide +kernel
theorem d_mo_isBefore_79 : decode b_mo_isBefore 79 = .ok (.iconst 1, 1) := by decide +kernel
theorem d_mo_isBefore_80 : decode b_mo_isBefore 80 = .ok (.goto 17, 3) := by decide +kernel
theorem d_mo_isBefore_83 : decode b_mo_isBefore 83 = .ok (.iconst 0, 1) := by decide +kernel
theorem d_mo_isBefore_84 : decode b_mo_isBefore 84 = .ok (.goto 13, 3) := by decide +kernel
theorem d_mo_isBefore_87 : decode b_mo_isBefore 87 = .ok (.iload_n 1, 1) := by decide +kernel
theorem d_mo_isBefore_88 : decode b_mo_isBefore 88 = .ok (.iload_n 2, 1) := by decide +kernel
theorem d_mo_isBefore_89 : decode b_mo_isBefore 89 = .ok (.if_icmp .ge 7, 3) := by decide +kernel
theorem d_mo_isBefore_92 : decode b_mo_isBefore 92 = .ok (.iconst 1, 1) := by decide +kernel
theorem d_mo_isBefore_93 : decode b_mo_isBefore 93 = .ok (.goto 4, 3) := by decide +kernel
theorem d_mo_isBefore_96 : decode b_mo_isBefore 96 = .ok (.iconst 0, 1) := by decide +kernel
theorem d_mo_isBefore_97 : decode b_mo_isBefore 97 = .ok (.ireturn, 1) := by decide +kernel
theorem d_mo_load_0 : decode b_mo_load 0 = .ok (.aload_n 0, 1) := by decide +kernel
theorem d_mo_load_1 : decode b_mo_load 1 = .ok (.iconst 0, 1) := by decide +kernel
theorem d_mo_load_2 : decode b_mo_load 2 = .ok (.putfield 38, 3) := by decide +kernel
theorem d_mo_load_5 : decode b_mo_load 5 = .ok (.aload_n 0, 1) := by decide +kernel
theorem d_mo_load_6 : decode b_mo_load 6 = .ok (.iload_n 1, 1) := by decide +kernel
theorem d_mo_load_7 : decode b_mo_load 7 = .ok (.invokevirtual 62, 3) := by decide +kernel
theorem d_mo_load_10 : decode b_mo_load 10 = .ok (.ifCond .eq 43, 3) := by decide +kernel
theorem d_mo_load_13 : decode b_mo_load 13 = .ok (.iload_n 2, 1) := by decide +kernel
theorem d_mo_load_14 : decode b_mo_load 14 = .ok (.invokestatic 65, 3) := by decide +kernel
theorem d_mo_load_17 : decode b_mo_load 17 = .ok (.ifCond .eq 36, 3) := by decide +kernel
theorem d_mo_load_20 : decode b_mo_load 20 = .ok (.aload_n 0, 1) := by decide +kernel
theorem d_mo_load_21 : decode b_mo_load 21 = .ok (.iload_n 1, 1) := by decide +kernel
theorem d_mo_load_22 : decode b_mo_load 22 = .ok (.iload_n 2, 1) := by decide +kernel
theorem d_mo_load_23 : decode b_mo_load 23 = .ok (.invokevirtual 75, 3) := by decide +kernel
theorem d_mo_load_26 : decode b_mo_load 26 = .ok (.ifCond .eq 27, 3) := by decide +kernel
theorem d_mo_load_29 : decode b_mo_load 29 = .ok (.aload_n 0, 1) := by decide +kernel
theorem d_mo_load_30 : decode b_mo_load 30 = .ok (.getfield 13, 3) := by decide +kernel
theorem d_mo_load_33 : decode b_mo_load 33 = .ok (.bipush 6, 2) := by decide +kernel
theorem d_mo_load_35 : decode b_mo_load 35 = .ok (.iload_n 1, 1) := by decide +kernel
theorem d_mo_load_36 : decode b_mo_load 36 = .ok (.imul, 1) := by decide +kernel
theorem d_mo_load_37 : decode b_mo_load 37 = .ok (.iconst 5, 1) := by decide +kernel
theorem d_mo_load_38 : decode b_mo_load 38 = .ok (.iadd, 1) := by decide +kernel
theorem d_mo_load_39 : decode b_mo_load 39 = .ok (.iaload, 1) := by decide +kernel
theorem d_mo_load_40 : decode b_mo_load 40 = .ok (.iload_n 2, 1) := by decide +kernel
theorem d_mo_load_41 : decode b_mo_load 41 = .ok (.if_icmp .ge 12, 3) := by decide +kernel
theorem d_mo_load_44 : decode b_mo_load 44 = .ok (.aload_n 0, 1) := by decide +kernel
theorem d_mo_load_45 : decode b_mo_load 45 = .ok (.getfield 92, 3) := by decide +kernel
theorem d_mo_load_48 : decode b_mo_load 48 = .ok (.bipush 60, 2) := by decide +kernel
theorem d_mo_load_50 : decode b_mo_load 50 = .ok (.if_icmp .ne 5, 3) := by decide +kernel
theorem d_mo_load_53 : decode b_mo_load 53 = .ok (.iconst 0, 1) := by decide +kernel
theorem d_mo_load_54 : decode b_mo_load 54 = .ok (.ireturn, 1) := by decide +kernel
theorem d_mo_load_55 : decode b_mo_load 55 = .ok (.aload_n 0, 1) := by decide +kernel
theorem d_mo_load_56 : decode b_mo_load 56 = .ok (.dup, 1) := by decide +kernel
theorem d_mo_load_57 : decode b_mo_load 57 = .ok (.getfield 92, 3) := by decide +kernel
theorem d_mo_load_60 : decode b_mo_load 60 = .ok (.iconst 1, 1) := by decide +kernel
theorem d_mo_load_61 : decode b_mo_load 61 = .ok (.iadd, 1) := by decide +kernel
theorem d_mo_load_62 : decode b_mo_load 62 = .ok (.putfield 92, 3) := by decide +kernel
theorem d_mo_load_65 : decode b_mo_load 65 = .ok (.aload_n 0, 1) := by decide +kernel
theorem d_mo_load_66 : decode b_mo_load 66 = .ok (.getfield 13, 3) := by decide +kernel
theorem d_mo_load_69 : decode b_mo_load 69 = .ok (.bipush 6, 2) := by decide +kernel
theorem d_mo_load_71 : decode b_mo_load 71 = .ok (.iload_n 1, 1) := by decide +kernel
theorem d_mo_load_72 : decode b_mo_load 72 = .ok (.imul, 1) := by decide +kernel
theorem d_mo_load_73 : decode b_mo_load 73 = .ok (.iconst 5, 1) := by decide +kernel
theorem d_mo_load_74 : decode b_mo_load 74 = .ok (.iadd, 1) := by decide +kernel
theorem d_mo_load_75 : decode b_mo_load 75 = .ok (.iload_n 2, 1) := by decide +kernel
theorem d_mo_load_76 : decode b_mo_load 76 = .ok (.iastore, 1) := by decide +kernel
theorem d_mo_load_77 : decode b_mo_load 77 = .ok (.iconst 0, 1) := by decide +kernel
theorem d_mo_load_78 : decode b_mo_load 78 = .ok (.istore_n 3, 1) := by decide +kernel
theorem d_mo_load_79 : decode b_mo_load 79 = .ok (.iconst 1, 1) := by decide +kernel
theorem d_mo_load_80 : decode b_mo_load 80 = .ok (.istore 4, 2) := by decide +kernel
theorem d_mo_load_82 : decode b_mo_load 82 = .ok (.iconst 0, 1) := by decide +kernel
theorem d_mo_load_83 : decode b_mo_load 83 = .ok (.istore 5, 2) := by decide +kernel
theorem d_mo_load_85 : decode b_mo_load 85 = .ok (.iload 4, 2) := by decide +kernel
theorem d_mo_load_87 : decode b_mo_load 87 = .ok (.ifCond .eq 206, 3) := by decide +kernel
theorem d_mo_load_90 : decode b_mo_load 90 = .ok (.iconst 0, 1) := by decide +kernel
theorem d_mo_load_91 : decode b_mo_load 91 = .ok (.istore 6, 2) := by decide +kernel
theorem d_mo_load_93 : decode b_mo_load 93 = .ok (.iconst 1, 1) := by decide +kernel
theorem d_mo_load_94 : decode b_mo_load 94 = .ok (.istore 7, 2) := by decide +kernel
theorem d_mo_load_96 : decode b_mo_load 96 = .ok (.iload 7, 2) := by decide +kernel
theorem d_mo_load_98 : decode b_mo_load 98 = .ok (.aload_n 0, 1) := by decide +kernel
theorem d_mo_load_99 : decode b_mo_load 99 = .ok (.getfield 51, 3) := by decide +kernel
theorem d_mo_load_102 : decode b_mo_load 102 = .ok (.if_icmp .gt 92, 3) := by decide +kernel
theorem d_mo_load_105 : decode b_mo_load 105 = .ok (.aload_n 0, 1) := by decide +kernel
theorem d_mo_load_106 : decode b_mo_load 106 = .ok (.getfield 32, 3) := by decide +kernel
theorem d_mo_load_109 : decode b_mo_load 109 = .ok (.bipush 8, 2) := by decide +kernel
theorem d_mo_load_111 : decode b_mo_load 111 = .ok (.iload 7, 2) := by decide +kernel
theorem d_mo_load_113 : decode b_mo_load 113 = .ok (.imul, 1) := by decide +kernel
theorem d_mo_load_114 : decode b_mo_load 114 = .ok (.iconst 1, 1) := by decide +kernel
theorem d_mo_load_115 : decode b_mo_load 115 = .ok (.iadd, 1) := by decide +kernel
theorem d_mo_load_116 : decode b_mo_load 116 = .ok (.iaload, 1) := by decide +kernel
theorem d_mo_load_117 : decode b_mo_load 117 = .ok (.iload_n 1, 1) := by decide +kernel
theorem d_mo_load_118 : decode b_mo_load 118 = .ok (.if_icmp .ne 70, 3) := by decide +kernel
theorem d_mo_load_121 : decode b_mo_load 121 = .ok (.aload_n 0, 1) := by decide +kernel
theorem d_mo_load_122 : decode b_mo_load 122 = .ok (.getfield 32, 3) := by decide +kernel
theorem d_mo_load_125 : decode b_mo_load 125 = .ok (.bipush 8, 2) := by decide +kernel
theorem d_mo_load_127 : decode b_mo_load 127 = .ok (.iload 7, 2) := by decide +kernel
theorem d_mo_load_129 : decode b_mo_load 129 = .ok (.imul, 1) := by decide +kernel
theorem d_mo_load_130 : decode b_mo_load 130 = .ok (.iconst 2, 1) := by decide +kernel
theorem d_mo_load_131 : decode b_mo_load 131 = .ok (.iadd, 1) := by decide +kernel
theorem d_mo_load_132 : decode b_mo_load 132 = .ok (.iaload, 1) := by decide +kernel
theorem d_mo_load_133 : decode b_mo_load 133 = .ok (.ifCond .ne 55, 3) := by decide +kernel
theorem d_mo_load_136 : decode b_mo_load 136 = .ok (.aload_n 0, 1) := by decide +kernel
theorem d_mo_load_137 : decode b_mo_load 137 = .ok (.getfield 32, 3) := by decide +kernel
theorem d_mo_load_140 : decode b_mo_load 140 = .ok (.bipush 8, 2) := by decide +kernel
theorem d_mo_load_142 : decode b_mo_load 142 = .ok (.iload 7, 2) := by decide +kernel
theorem d_mo_load_144 : decode b_mo_load 144 = .ok (.imul, 1) := by decide +kernel
theorem d_mo_load_145 : decode b_mo_load 145 = .ok (.iconst 4, 1) := by decide +kernel
theorem d_mo_load_146 : decode b_mo_load 146 = .ok (.iadd, 1) := by decide +kernel
theorem d_mo_load_147 : decode b_mo_load 147 = .ok (.iaload, 1) := by decide +kernel
theorem d_mo_load_148 : decode b_mo_load 148 = .ok (.iload_n 2, 1) := by decide +kernel
theorem d_mo_load_149 : decode b_mo_load 149 = .ok (.if_icmp .gt 39, 3) := by decide +kernel
theorem d_mo_load_152 : decode b_mo_load 152 = .ok (.iload 5, 2) := by decide +kernel
theorem d_mo_load_154 : decode b_mo_load 154 = .ok (.ifCond .eq 14, 3) := by decide +kernel
theorem d_mo_load_157 : decode b_mo_load 157 = .ok (.aload_n 0, 1) := by decide +kernel
theorem d_mo_load_158 : decode b_mo_load 158 = .ok (.iload 5, 2) := by decide +kernel
theorem d_mo_load_160 : decode b_mo_load 160 = .ok (.iload 7, 2) := by decide +kernel
theorem d_mo_load_162 : decode b_mo_load 162 = .ok (.invokevirtual 86, 3) := by decide +kernel
theorem d_mo_load_165 : decode b_mo_load 165 = .ok (.ifCond .eq 23, 3) := by decide +kernel
theorem d_mo_load_168 : decode b_mo_load 168 = .ok (.iload 6, 2) := by decide +kernel
theorem d_mo_load_170 : decode b_mo_load 170 = .ok (.ifCond .eq 14, 3) := by decide +kernel
theorem d_mo_load_173 : decode b_mo_load 173 = .ok (.aload_n 0, 1) := by decide +kernel
theorem d_mo_load_174 : decode b_mo_load 174 = .ok (.iload 7, 2) := by decide +kernel
theorem d_mo_load_176 : decode b_mo_load 176 = .ok (.iload 6, 2) := by decide +kernel
theorem d_mo_load_178 : decode b_mo_load 178 = .ok (.invokevirtual 86, 3) := by decide +kernel
theorem d_mo_load_181 : decode b_mo_load 181 = .ok (.ifCond .eq 7, 3) := by decide +kernel
theorem d_mo_load_184 : decode b_mo_load 184 = .ok (.iload 7, 2) := by decide +kernel
theorem d_mo_load_186 : decode b_mo_load 186 = .ok (.istore 6, 2) := by decide +kernel
theorem d_mo_load_188 : decode b_mo_load 188 = .ok (.iinc 7 1, 3) := by decide +kernel
theorem d_mo_load_191 : decode b_mo_load 191 = .ok (.goto (-95), 3) := by decide +kernel
theorem d_mo_load_194 : decode b_mo_load 194 = .ok (.iload 6, 2) := by decide +kernel
theorem d_mo_load_196 : decode b_mo_load 196 = .ok (.ifCond .eq 7, 3) := by decide +kernel
theorem d_mo_load_199 : decode b_mo_load 199 = .ok (.iconst 1, 1) := by decide +kernel
theorem d_mo_load_200 : decode b_mo_load 200 = .ok (.goto 4, 3) := by decide +kernel
theorem d_mo_load_203 : decode b_mo_load 203 = .ok (.iconst 0, 1) := by decide +kernel
theorem d_mo_load_204 : decode b_mo_load 204 = .ok (.istore 4, 2) := by decide +kernel
theorem d_mo_load_206 : decode b_mo_load 206 = .ok (.iload 4, 2) := by decide +kernel
theorem d_mo_load_208 : decode b_mo_load 208 = .ok (.ifCond .eq 82, 3) := by decide +kernel
theorem d_mo_load_211 : decode b_mo_load 211 = .ok (.aload_n 0, 1) := by decide +kernel
theorem d_mo_load_212 : decode b_mo_load 212 = .ok (.getfield 7, 3) := by decide +kernel
theorem d_mo_load_215 : decode b_mo_load 215 = .ok (.aload_n 0, 1) := by decide +kernel
theorem d_mo_load_216 : decode b_mo_load 216 = .ok (.getfield 13, 3) := by decide +kernel
theorem d_mo_load_219 : decode b_mo_load 219 = .ok (.bipush 6, 2) := by decide +kernel
theorem d_mo_load_221 : decode b_mo_load 221 = .ok (.iload_n 1, 1) := by decide +kernel
theorem d_mo_load_222 : decode b_mo_load 222 = .ok (.imul, 1) := by decide +kernel
theorem d_mo_load_223 : decode b_mo_load 223 = .ok (.iconst 1, 1) := by decide +kernel
theorem d_mo_load_224 : decode b_mo_load 224 = .ok (.iadd, 1) := by decide +kernel
theorem d_mo_load_225 : decode b_mo_load 225 = .ok (.iaload, 1) := by decide +kernel
theorem d_mo_load_226 : decode b_mo_load 226 = .ok (.baload, 1) := by decide +kernel
theorem d_mo_load_227 : decode b_mo_load 227 = .ok (.ifCond .ne 7, 3) := by decide +kernel
theorem d_mo_load_230 : decode b_mo_load 230 = .ok (.iconst 1, 1) := by decide +kernel
theorem d_mo_load_231 : decode b_mo_load 231 = .ok (.goto 4, 3) := by decide +kernel
theorem d_mo_load_234 : decode b_mo_load 234 = .ok (.iconst 0, 1) := by decide +kernel
theorem d_mo_load_235 : decode b_mo_load 235 = .ok (.istore 7, 2) := by decide +kernel
theorem d_mo_load_237 : decode b_mo_load 237 = .ok (.iload 7, 2) := by decide +kernel
theorem d_mo_load_239 : decode b_mo_load 239 = .ok (.ifCond .eq 31, 3) := by decide +kernel
theorem d_mo_load_242 : decode b_mo_load 242 = .ok (.iload_n 3, 1) := by decide +kernel
theorem d_mo_load_243 : decode b_mo_load 243 = .ok (.aload_n 0, 1) := by decide +kernel
theorem d_mo_load_244 : decode b_mo_load 244 = .ok (.getfield 13, 3) := by decide +kernel
theorem d_mo_load_247 : decode b_mo_load 247 = .ok (.bipush 6, 2) := by decide +kernel
theorem d_mo_load_249 : decode b_mo_load 249 = .ok (.iload_n 1, 1) := by decide +kernel
theorem d_mo_load_250 : decode b_mo_load 250 = .ok (.imul, 1) := by decide +kernel
theorem d_mo_load_251 : decode b_mo_load 251 = .ok (.iconst 4, 1) := by decide +kernel
theorem d_mo_load_252 : decode b_mo_load 252 = .ok (.iadd, 1) := by decide +kernel
theorem d_mo_load_253 : decode b_mo_load 253 = .ok (.iaload, 1) := by decide +kernel
theorem d_mo_load_254 : decode b_mo_load 254 = .ok (.if_icmp .ge 16, 3) := by decide +kernel
theorem d_mo_load_257 : decode b_mo_load 257 = .ok (.aload_n 0, 1) := by decide +kernel
theorem d_mo_load_258 : decode b_mo_load 258 = .ok (.iload 6, 2) := by decide +kernel
theorem d_mo_load_260 : decode b_mo_load 260 = .ok (.iload_n 3, 1) := by decide +kernel
theorem d_mo_load_261 : decode b_mo_load 261 = .ok (.invokevirtual 95, 3) := by decide +kernel
theorem d_mo_load_264 : decode b_mo_load 264 = .ok (.iinc 3 1, 3) := by decide +kernel
theorem d_mo_load_267 : decode b_mo_load 267 = .ok (.goto 19, 3) := by decide +kernel
theorem d_mo_load_270 : decode b_mo_load 270 = .ok (.aload_n 0, 1) := by decide +kernel
theorem d_mo_load_271 : decode b_mo_load 271 = .ok (.iload 7, 2) := by decide +kernel
theorem d_mo_load_273 : decode b_mo_load 273 = .ok (.ifCond .eq 7, 3) := by decide +kernel
theorem d_mo_load_276 : decode b_mo_load 276 = .ok (.iconst 2, 1) := by decide +kernel
theorem d_mo_load_277 : decode b_mo_load 277 = .ok (.goto 4, 3) := by decide +kernel
theorem d_mo_load_280 : decode b_mo_load 280 = .ok (.iconst 1, 1) := by decide +kernel
theorem d_mo_load_281 : decode b_mo_load 281 = .ok (.iload 6, 2) := by decide +kernel
theorem d_mo_load_283 : decode b_mo_load 283 = .ok (.invokevirtual 99, 3) := by decide +kernel
theorem d_mo_load_286 : decode b_mo_load 286 = .ok (.iload 6, 2) := by decide +kernel
theorem d_mo_load_288 : decode b_mo_load 288 = .ok (.istore 5, 2) := by decide +kernel
theorem d_mo_load_290 : decode b_mo_load 290 = .ok (.goto (-205), 3) := by decide +kernel
theorem d_mo_load_293 : decode b_mo_load 293 = .ok (.iconst 1, 1) := by decide +kernel
theorem d_mo_load_294 : decode b_mo_load 294 = .ok (.istore 6, 2) := by decide +kernel
theorem d_mo_load_296 : decode b_mo_load 296 = .ok (.iload 6, 2) := by decide +kernel
theorem d_mo_load_298 : decode b_mo_load 298 = .ok (.aload_n 0, 1) := by decide +kernel
theorem d_mo_load_299 : decode b_mo_load 299 = .ok (.getfield 51, 3) := by decide +kernel
theorem d_mo_load_302 : decode b_mo_load 302 = .ok (.if_icmp .gt 58, 3) := by decide +kernel
theorem d_mo_load_305 : decode b_mo_load 305 = .ok (.aload_n 0, 1) := by decide +kernel
theorem d_mo_load_306 : decode b_mo_load 306 = .ok (.getfield 32, 3) := by decide +kernel
theorem d_mo_load_309 : decode b_mo_load 309 = .ok (.bipush 8, 2) := by decide +kernel
theorem d_mo_load_311 : decode b_mo_load 311 = .ok (.iload 6, 2) := by decide +kernel
theorem d_mo_load_313 : decode b_mo_load 313 = .ok (.imul, 1) := by decide +kernel
theorem d_mo_load_314 : decode b_mo_load 314 = .ok (.iconst 2, 1) := by decide +kernel
theorem d_mo_load_315 : decode b_mo_load 315 = .ok (.iadd, 1) := by decide +kernel
theorem d_mo_load_316 : decode b_mo_load 316 = .ok (.iaload, 1) := by decide +kernel
theorem d_mo_load_317 : decode b_mo_load 317 = .ok (.iconst 1, 1) := by decide +kernel
theorem d_mo_load_318 : decode b_mo_load 318 = .ok (.if_icmp .ne 36, 3) := by decide +kernel
theorem d_mo_load_321 : decode b_mo_load 321 = .ok (.aload_n 0, 1) := by decide +kernel
theorem d_mo_load_322 : decode b_mo_load 322 = .ok (.getfield 32, 3) := by decide +kernel
theorem d_mo_load_325 : decode b_mo_load 325 = .ok (.bipush 8, 2) := by decide +kernel
theorem d_mo_load_327 : decode b_mo_load 327 = .ok (.iload 6, 2) := by decide +kernel
theorem d_mo_load_329 : decode b_mo_load 329 = .ok (.imul, 1) := by decide +kernel
theorem d_mo_load_330 : decode b_mo_load 330 = .ok (.bipush 6, 2) := by decide +kernel
theorem d_mo_load_332 : decode b_mo_load 332 = .ok (.iadd, 1) := by decide +kernel
theorem d_mo_load_333 : decode b_mo_load 333 = .ok (.iaload, 1) := by decide +kernel
theorem d_mo_load_334 : decode b_mo_load 334 = .ok (.aload_n 0, 1) := by decide +kernel
theorem d_mo_load_335 : decode b_mo_load 335 = .ok (.getfield 92, 3) := by decide +kernel
theorem d_mo_load_338 : decode b_mo_load 338 = .ok (.if_icmp .ne 16, 3) := by decide +kernel
theorem d_mo_load_341 : decode b_mo_load 341 = .ok (.aload_n 0, 1) := by decide +kernel
theorem d_mo_load_342 : decode b_mo_load 342 = .ok (.getfield 32, 3) := by decide +kernel
theorem d_mo_load_345 : decode b_mo_load 345 = .ok (.bipush 8, 2) := by decide +kernel
theorem d_mo_load_347 : decode b_mo_load 347 = .ok (.iload 6, 2) := by decide +kernel
theorem d_mo_load_349 : decode b_mo_load 349 = .ok (.imul, 1) := by decide +kernel
theorem d_mo_load_350 : decode b_mo_load 350 = .ok (.iconst 4, 1) := by decide +kernel
theorem d_mo_load_351 : decode b_mo_load 351 = .ok (.iadd, 1) := by decide +kernel
theorem d_mo_load_352 : decode b_mo_load 352 = .ok (.iload_n 2, 1) := by decide +kernel
theorem d_mo_load_353 : decode b_mo_load 353 = .ok (.iastore, 1) := by decide +kernel
theorem d_mo_load_354 : decode b_mo_load 354 = .ok (.iinc 6 1, 3) := by decide +kernel
theorem d_mo_load_357 : decode b_mo_load 357 = .ok (.goto (-61), 3) := by decide +kernel
theorem d_mo_load_360 : decode b_mo_load 360 = .ok (.aload_n 0, 1) := by decide +kernel
theorem d_mo_load_361 : decode b_mo_load 361 = .ok (.getfield 92, 3) := by decide +kernel
theorem d_mo_load_364 : decode b_mo_load 364 = .ok (.ireturn, 1) := by decide +kernel
theorem d_mo_put_0 : decode b_mo_put 0 = .ok (.aload_n 0, 1) := by decide +kernel
theorem d_mo_put_1 : decode b_mo_put 1 = .ok (.getfield 32, 3) := by decide +kernel
theorem d_mo_put_4 : decode b_mo_put 4 = .ok (.bipush 8, 2) := by decide +kernel
theorem d_mo_put_6 : decode b_mo_put 6 = .ok (.iload_n 1, 1) := by decide +kernel
theorem d_mo_put_7 : decode b_mo_put 7 = .ok (.imul, 1) := by decide +kernel
theorem d_mo_put_8 : decode b_mo_put 8 = .ok (.iconst 2, 1) := by decide +kernel
theorem d_mo_put_9 : decode b_mo_put 9 = .ok (.iadd, 1) := by decide +kernel
theorem d_mo_put_10 : decode b_mo_put 10 = .ok (.iconst 1, 1) := by decide +kernel
theorem d_mo_put_11 : decode b_mo_put 11 = .ok (.iastore, 1) := by decide +kernel
theorem d_mo_put_12 : decode b_mo_put 12 = .ok (.aload_n 0, 1) := by decide +kernel
theorem d_mo_put_13 : decode b_mo_put 13 = .ok (.getfield 32, 3) := by decide +kernel
theorem d_mo_put_16 : decode b_mo_put 16 = .ok (.bipush 8, 2) := by decide +kernel
theorem d_mo_put_18 : decode b_mo_put 18 = .ok (.iload_n 1, 1) := by decide +kernel
theorem d_mo_put_19 : decode b_mo_put 19 = .ok (.imul, 1) := by decide +kernel
theorem d_mo_put_20 : decode b_mo_put 20 = .ok (.bipush 6, 2) := by decide +kernel
theorem d_mo_put_22 : decode b_mo_put 22 = .ok (.iadd, 1) := by decide +kernel
theorem d_mo_put_23 : decode b_mo_put 23 = .ok (.aload_n 0, 1) := by decide +kernel
theorem d_mo_put_24 : decode b_mo_put 24 = .ok (.getfield 92, 3) := by decide +kernel
theorem d_mo_put_27 : decode b_mo_put 27 = .ok (.iastore, 1) := by decide +kernel
theorem d_mo_put_28 : decode b_mo_put 28 = .ok (.aload_n 0, 1) := by decide +kernel
theorem d_mo_put_29 : decode b_mo_put 29 = .ok (.getfield 32, 3) := by decide +kernel
theorem d_mo_put_32 : decode b_mo_put 32 = .ok (.bipush 8, 2) := by decide +kernel
theorem d_mo_put_34 : decode b_mo_put 34 = .ok (.iload_n 1, 1) := by decide +kernel
theorem d_mo_put_35 : decode b_mo_put 35 = .ok (.imul, 1) := by decide +kernel
theorem d_mo_put_36 : decode b_mo_put 36 = .ok (.bipush 7, 2) := by decide +kernel
theorem d_mo_put_38 : decode b_mo_put 38 = .ok (.iadd, 1) := by decide +kernel
theorem d_mo_put_39 : decode b_mo_put 39 = .ok (.iload_n 2, 1) := by decide +kernel
theorem d_mo_put_40 : decode b_mo_put 40 = .ok (.iastore, 1) := by decide +kernel
theorem d_mo_put_41 : decode b_mo_put 41 = .ok (.return_, 1) := by decide +kernel
theorem d_mo_tell_0 : decode b_mo_tell 0 = .ok (.aload_n 0, 1) := by decide +kernel
theorem d_mo_tell_1 : decode b_mo_tell 1 = .ok (.getfield 89, 3) := by decide +kernel
theorem d_mo_tell_4 : decode b_mo_tell 4 = .ok (.bipush 100, 2) := by decide +kernel
theorem d_mo_tell_6 : decode b_mo_tell 6 = .ok (.if_icmp .ge 39, 3) := by decide +kernel
theorem d_mo_tell_9 : decode b_mo_tell 9 = .ok (.aload_n 0, 1) := by decide +kernel
theorem d_mo_tell_10 : decode b_mo_tell 10 = .ok (.getfield 35, 3) := by decide +kernel
theorem d_mo_tell_13 : decode b_mo_tell 13 = .ok (.iconst 2, 1) := by decide +kernel
theorem d_mo_tell_14 : decode b_mo_tell 14 = .ok (.aload_n 0, 1) := by decide +kernel
theorem d_mo_tell_15 : decode b_mo_tell 15 = .ok (.getfield 89, 3) := by decide +kernel
theorem d_mo_tell_18 : decode b_mo_tell 18 = .ok (.imul, 1) := by decide +kernel
theorem d_mo_tell_19 : decode b_mo_tell 19 = .ok (.iload_n 1, 1) := by decide +kernel
theorem d_mo_tell_20 : decode b_mo_tell 20 = .ok (.iastore, 1) := by decide +kernel
theorem d_mo_tell_21 : decode b_mo_tell 21 = .ok (.aload_n 0, 1) := by decide +kernel
theorem d_mo_tell_22 : decode b_mo_tell 22 = .ok (.getfield 35, 3) := by decide +kernel
theorem d_mo_tell_25 : decode b_mo_tell 25 = .ok (.iconst 2, 1) := by decide +kernel
theorem d_mo_tell_26 : decode b_mo_tell 26 = .ok (.aload_n 0, 1) := by decide +kernel
theorem d_mo_tell_27 : decode b_mo_tell 27 = .ok (.getfield 89, 3) := by decide +kernel
theorem d_mo_tell_30 : decode b_mo_tell 30 = .ok (.imul, 1) := by decide +kernel
theorem d_mo_tell_31 : decode b_mo_tell 31 = .ok (.iconst 1, 1) := by decide +kernel
theorem d_mo_tell_32 : decode b_mo_tell 32 = .ok (.iadd, 1) := by decide +kernel
theorem d_mo_tell_33 : decode b_mo_tell 33 = .ok (.iload_n 2, 1) := by decide +kernel
theorem d_mo_tell_34 : decode b_mo_tell 34 = .ok (.iastore, 1) := by decide +kernel
theorem d_mo_tell_35 : decode b_mo_tell 35 = .ok (.aload_n 0, 1) := by decide +kernel
theorem d_mo_tell_36 : decode b_mo_tell 36 = .ok (.dup, 1) := by decide +kernel
theorem d_mo_tell_37 : decode b_mo_tell 37 = .ok (.getfield 89, 3) := by decide +kernel
theorem d_mo_tell_40 : decode b_mo_tell 40 = .ok (.iconst 1, 1) := by decide +kernel
theorem d_mo_tell_41 : decode b_mo_tell 41 = .ok (.iadd, 1) := by decide +kernel
theorem d_mo_tell_42 : decode b_mo_tell 42 = .ok (.putfield 89, 3) := by decide +kernel
theorem d_mo_tell_45 : decode b_mo_tell 45 = .ok (.return_, 1) := by decide +kernel
theorem d_mo_loaded_0 : decode b_mo_loaded 0 = .ok (.aload_n 0, 1) := by decide +kernel
theorem d_mo_loaded_1 : decode b_mo_loaded 1 = .ok (.iconst 0, 1) := by decide +kernel
theorem d_mo_loaded_2 : decode b_mo_loaded 2 = .ok (.putfield 38, 3) := by decide +kernel
theorem d_mo_loaded_5 : decode b_mo_loaded 5 = .ok (.iconst 1, 1) := by decide +kernel
theorem d_mo_loaded_6 : decode b_mo_loaded 6 = .ok (.istore_n 3, 1) := by decide +kernel
theorem d_mo_loaded_7 : decode b_mo_loaded 7 = .ok (.iload_n 3, 1) := by decide +kernel
theorem d_mo_loaded_8 : decode b_mo_loaded 8 = .ok (.aload_n 0, 1) := by decide +kernel
theorem d_mo_loaded_9 : decode b_mo_loaded 9 = .ok (.getfield 51, 3) := by decide +kernel
theorem d_mo_loaded_12 : decode b_mo_loaded 12 = .ok (.if_icmp .gt 47, 3) := by decide +kernel
theorem d_mo_loaded_15 : decode b_mo_loaded 15 = .ok (.iload_n 1, 1) := by decide +kernel
theorem d_mo_loaded_16 : decode b_mo_loaded 16 = .ok (.ifCond .le 43, 3) := by decide +kernel
theorem d_mo_loaded_19 : decode b_mo_loaded 19 = .ok (.aload_n 0, 1) := by decide +kernel
theorem d_mo_loaded_20 : decode b_mo_loaded 20 = .ok (.getfield 32, 3) := by decide +kernel
theorem d_mo_loaded_23 : decode b_mo_loaded 23 = .ok (.bipush 8, 2) := by decide +kernel
theorem d_mo_loaded_25 : decode b_mo_loaded 25 = .ok (.iload_n 3, 1) := by decide +kernel
theorem d_mo_loaded_26 : decode b_mo_loaded 26 = .ok (.imul, 1) := by decide +kernel
theorem d_mo_loaded_27 : decode b_mo_loaded 27 = .ok (.bipush 6, 2) := by decide +kernel
theorem d_mo_loaded_29 : decode b_mo_loaded 29 = .ok (.iadd, 1) := by decide +kernel
theorem d_mo_loaded_30 : decode b_mo_loaded 30 = .ok (.iaload, 1) := by decide +kernel
theorem d_mo_loaded_31 : decode b_mo_loaded 31 = .ok (.iload_n 1, 1) := by decide +kernel
theorem d_mo_loaded_32 : decode b_mo_loaded 32 = .ok (.if_icmp .ne 21, 3) := by decide +kernel
theorem d_mo_loaded_35 : decode b_mo_loaded 35 = .ok (.aload_n 0, 1) := by decide +kernel
theorem d_mo_loaded_36 : decode b_mo_loaded 36 = .ok (.getfield 32, 3) := by decide +kernel
theorem d_mo_loaded_39 : decode b_mo_loaded 39 = .ok (.bipush 8, 2) := by decide +kernel
theorem d_mo_loaded_41 : decode b_mo_loaded 41 = .ok (.iload_n 3, 1) := by decide +kernel
theorem d_mo_loaded_42 : decode b_mo_loaded 42 = .ok (.imul, 1) := by decide +kernel
theorem d_mo_loaded_43 : decode b_mo_loaded 43 = .ok (.bipush 7, 2) := by decide +kernel
theorem d_mo_loaded_45 : decode b_mo_loaded 45 = .ok (.iadd, 1) := by decide +kernel
theorem d_mo_loaded_46 : decode b_mo_loaded 46 = .ok (.iaload, 1) := by decide +kernel
theorem d_mo_loaded_47 : decode b_mo_loaded 47 = .ok (.iload_n 2, 1) := by decide +kernel
theorem d_mo_loaded_48 : decode b_mo_loaded 48 = .ok (.if_icmp .ne 5, 3) := by decide +kernel
theorem d_mo_loaded_51 : decode b_mo_loaded 51 = .ok (.iload_n 3, 1) := by decide +kernel
theorem d_mo_loaded_52 : decode b_mo_loaded 52 = .ok (.ireturn, 1) := by decide +kernel
theorem d_mo_loaded_53 : decode b_mo_loaded 53 = .ok (.iinc 3 1, 3) := by decide +kernel
theorem d_mo_loaded_56 : decode b_mo_loaded 56 = .ok (.goto (-49), 3) := by decide +kernel
theorem d_mo_loaded_59 : decode b_mo_loaded 59 = .ok (.iconst 0, 1) := by decide +kernel
theorem d_mo_loaded_60 : decode b_mo_loaded 60 = .ok (.ireturn, 1) := by decide +kernel
theorem d_mo_missing_0 : decode b_mo_missing 0 = .ok (.aload_n 0, 1) := by decide +kernel
theorem d_mo_missing_1 : decode b_mo_missing 1 = .ok (.iconst 0, 1) := by decide +kernel
theorem d_mo_missing_2 : decode b_mo_missing 2 = .ok (.putfield 38, 3) := by decide +kernel
theorem d_mo_missing_5 : decode b_mo_missing 5 = .ok (.iconst 0, 1) := by decide +kernel
theorem d_mo_missing_6 : decode b_mo_missing 6 = .ok (.istore_n 3, 1) := by decide +kernel
theorem d_mo_missing_7 : decode b_mo_missing 7 = .ok (.iconst 0, 1) := by decide +kernel
theorem d_mo_missing_8 : decode b_mo_missing 8 = .ok (.istore 4, 2) := by decide +kernel
theorem d_mo_missing_10 : decode b_mo_missing 10 = .ok (.iload 4, 2) := by decide +kernel
theorem d_mo_missing_12 : decode b_mo_missing 12 = .ok (.bipush 99, 2) := by decide +kernel
theorem d_mo_missing_14 : decode b_mo_missing 14 = .ok (.if_icmp .ge 113, 3) := by decide +kernel
theorem d_mo_missing_17 : decode b_mo_missing 17 = .ok (.iload_n 1, 1) := by decide +kernel
theorem d_mo_missing_18 : decode b_mo_missing 18 = .ok (.ifCond .le 109, 3) := by decide +kernel
theorem d_mo_missing_21 : decode b_mo_missing 21 = .ok (.iload_n 2, 1) := by decide +kernel
theorem d_mo_missing_22 : decode b_mo_missing 22 = .ok (.ifCond .lt 105, 3) := by decide +kernel
theorem d_mo_missing_25 : decode b_mo_missing 25 = .ok (.iconst 1, 1) := by decide +kernel
theorem d_mo_missing_26 : decode b_mo_missing 26 = .ok (.istore 5, 2) := by decide +kernel
theorem d_mo_missing_28 : decode b_mo_missing 28 = .ok (.iload 5, 2) := by decide +kernel
theorem d_mo_missing_30 : decode b_mo_missing 30 = .ok (.aload_n 0, 1) := by decide +kernel
theorem d_mo_missing_31 : decode b_mo_missing 31 = .ok (.getfield 51, 3) := by decide +kernel
theorem d_mo_missing_34 : decode b_mo_missing 34 = .ok (.if_icmp .gt 87, 3) := by decide +kernel
theorem d_mo_missing_37 : decode b_mo_missing 37 = .ok (.aload_n 0, 1) := by decide +kernel
theorem d_mo_missing_38 : decode b_mo_missing 38 = .ok (.getfield 32, 3) := by decide +kernel
theorem d_mo_missing_41 : decode b_mo_missing 41 = .ok (.bipush 8, 2) := by decide +kernel
theorem d_mo_missing_43 : decode b_mo_missing 43 = .ok (.iload 5, 2) := by decide +kernel
theorem d_mo_missing_45 : decode b_mo_missing 45 = .ok (.imul, 1) := by decide +kernel
theorem d_mo_missing_46 : decode b_mo_missing 46 = .ok (.bipush 6, 2) := by decide +kernel
theorem d_mo_missing_48 : decode b_mo_missing 48 = .ok (.iadd, 1) := by decide +kernel
theorem d_mo_missing_49 : decode b_mo_missing 49 = .ok (.iaload, 1) := by decide +kernel
theorem d_mo_missing_50 : decode b_mo_missing 50 = .ok (.iload_n 1, 1) := by decide +kernel
theorem d_mo_missing_51 : decode b_mo_missing 51 = .ok (.if_icmp .ne 64, 3) := by decide +kernel
theorem d_mo_missing_54 : decode b_mo_missing 54 = .ok (.aload_n 0, 1) := by decide +kernel
theorem d_mo_missing_55 : decode b_mo_missing 55 = .ok (.getfield 32, 3) := by decide +kernel
theorem d_mo_missing_58 : decode b_mo_missing 58 = .ok (.bipush 8, 2) := by decide +kernel
theorem d_mo_missing_60 : decode b_mo_missing 60 = .ok (.iload 5, 2) := by decide +kernel
theorem d_mo_missing_62 : decode b_mo_missing 62 = .ok (.imul, 1) := by decide +kernel
theorem d_mo_missing_63 : decode b_mo_missing 63 = .ok (.bipush 7, 2) := by decide +kernel
theorem d_mo_missing_65 : decode b_mo_missing 65 = .ok (.iadd, 1) := by decide +kernel
theorem d_mo_missing_66 : decode b_mo_missing 66 = .ok (.iaload, 1) := by decide +kernel
theorem d_mo_missing_67 : decode b_mo_missing 67 = .ok (.iload 4, 2) := by decide +kernel
theorem d_mo_missing_69 : decode b_mo_missing 69 = .ok (.if_icmp .ne 46, 3) := by decide +kernel
theorem d_mo_missing_72 : decode b_mo_missing 72 = .ok (.aload_n 0, 1) := by decide +kernel
theorem d_mo_missing_73 : decode b_mo_missing 73 = .ok (.getfield 32, 3) := by decide +kernel
theorem d_mo_missing_76 : decode b_mo_missing 76 = .ok (.bipush 8, 2) := by decide +kernel
theorem d_mo_missing_78 : decode b_mo_missing 78 = .ok (.iload 5, 2) := by decide +kernel
theorem d_mo_missing_80 : decode b_mo_missing 80 = .ok (.imul, 1) := by decide +kernel
theorem d_mo_missing_81 : decode b_mo_missing 81 = .ok (.iconst 2, 1) := by decide +kernel
theorem d_mo_missing_82 : decode b_mo_missing 82 = .ok (.iadd, 1) := by decide +kernel
theorem d_mo_missing_83 : decode b_mo_missing 83 = .ok (.iaload, 1) := by decide +kernel
theorem d_mo_missing_84 : decode b_mo_missing 84 = .ok (.iconst 1, 1) := by decide +kernel
theorem d_mo_missing_85 : decode b_mo_missing 85 = .ok (.if_icmp .eq 19, 3) := by decide +kernel
theorem d_mo_missing_88 : decode b_mo_missing 88 = .ok (.aload_n 0, 1) := by decide +kernel
theorem d_mo_missing_89 : decode b_mo_missing 89 = .ok (.getfield 32, 3) := by decide +kernel
theorem d_mo_missing_92 : decode b_mo_missing 92 = .ok (.bipush 8, 2) := by decide +kernel
theorem d_mo_missing_94 : decode b_mo_missing 94 = .ok (.iload 5, 2) := by decide +kernel
theorem d_mo_missing_96 : decode b_mo_missing 96 = .ok (.imul, 1) := by decide +kernel
theorem d_mo_missing_97 : decode b_mo_missing 97 = .ok (.iconst 2, 1) := by decide +kernel
theorem d_mo_missing_98 : decode b_mo_missing 98 = .ok (.iadd, 1) := by decide +kernel
theorem d_mo_missing_99 : decode b_mo_missing 99 = .ok (.iaload, 1) := by decide +kernel
theorem d_mo_missing_100 : decode b_mo_missing 100 = .ok (.iconst 3, 1) := by decide +kernel
theorem d_mo_missing_101 : decode b_mo_missing 101 = .ok (.if_icmp .ne 14, 3) := by decide +kernel
theorem d_mo_missing_104 : decode b_mo_missing 104 = .ok (.iload_n 3, 1) := by decide +kernel
theorem d_mo_missing_105 : decode b_mo_missing 105 = .ok (.iload_n 2, 1) := by decide +kernel
theorem d_mo_missing_106 : decode b_mo_missing 106 = .ok (.if_icmp .ne 6, 3) := by decide +kernel
theorem d_mo_missing_109 : decode b_mo_missing 109 = .ok (.iload 5, 2) := by decide +kernel
theorem d_mo_missing_111 : decode b_mo_missing 111 = .ok (.ireturn, 1) := by decide +kernel
theorem d_mo_missing_112 : decode b_mo_missing 112 = .ok (.iinc 3 1, 3) := by decide +kernel
theorem d_mo_missing_115 : decode b_mo_missing 115 = .ok (.iinc 5 1, 3) := by decide +kernel
theorem d_mo_missing_118 : decode b_mo_missing 118 = .ok (.goto (-90), 3) := by decide +kernel
theorem d_mo_missing_121 : decode b_mo_missing 121 = .ok (.iinc 4 1, 3) := by decide +kernel
theorem d_mo_missing_124 : decode b_mo_missing 124 = .ok (.goto (-114), 3) := by decide +kernel
theorem d_mo_missing_127 : decode b_mo_missing 127 = .ok (.iconst 0, 1) := by decide +kernel
theorem d_mo_missing_128 : decode b_mo_missing 128 = .ok (.ireturn, 1) := by decide +kernel
theorem d_mo_arrive_0 : decode b_mo_arrive 0 = .ok (.aload_n 0, 1) := by decide +kernel
theorem d_mo_arrive_1 : decode b_mo_arrive 1 = .ok (.iconst 0, 1) := by decide +kernel
theorem d_mo_arrive_2 : decode b_mo_arrive 2 = .ok (.putfield 38, 3) := by decide +kernel
theorem d_mo_arrive_5 : decode b_mo_arrive 5 = .ok (.aload_n 0, 1) := by decide +kernel
theorem d_mo_arrive_6 : decode b_mo_arrive 6 = .ok (.iload_n 1, 1) := by decide +kernel
theorem d_mo_arrive_7 : decode b_mo_arrive 7 = .ok (.invokevirtual 79, 3) := by decide +kernel
theorem d_mo_arrive_10 : decode b_mo_arrive 10 = .ok (.ifCond .eq 63, 3) := by decide +kernel
theorem d_mo_arrive_13 : decode b_mo_arrive 13 = .ok (.aload_n 0, 1) := by decide +kernel
theorem d_mo_arrive_14 : decode b_mo_arrive 14 = .ok (.iload_n 2, 1) := by decide +kernel
theorem d_mo_arrive_15 : decode b_mo_arrive 15 = .ok (.invokevirtual 55, 3) := by decide +kernel
theorem d_mo_arrive_18 : decode b_mo_arrive 18 = .ok (.ifCond .eq 55, 3) := by decide +kernel
theorem d_mo_arrive_21 : decode b_mo_arrive 21 = .ok (.iload_n 3, 1) := by decide +kernel
theorem d_mo_arrive_22 : decode b_mo_arrive 22 = .ok (.invokestatic 65, 3) := by decide +kernel
theorem d_mo_arrive_25 : decode b_mo_arrive 25 = .ok (.ifCond .eq 48, 3) := by decide +kernel
theorem d_mo_arrive_28 : decode b_mo_arrive 28 = .ok (.aload_n 0, 1) := by decide +kernel
theorem d_mo_arrive_29 : decode b_mo_arrive 29 = .ok (.getfield 32, 3) := by decide +kernel
theorem d_mo_arrive_32 : decode b_mo_arrive 32 = .ok (.bipush 8, 2) := by decide +kernel
theorem d_mo_arrive_34 : decode b_mo_arrive 34 = .ok (.iload_n 1, 1) := by decide +kernel
theorem d_mo_arrive_35 : decode b_mo_arrive 35 = .ok (.imul, 1) := by decide +kernel
theorem d_mo_arrive_36 : decode b_mo_arrive 36 = .ok (.iconst 2, 1) := by decide +kernel
theorem d_mo_arrive_37 : decode b_mo_arrive 37 = .ok (.iadd, 1) := by decide +kernel
theorem d_mo_arrive_38 : decode b_mo_arrive 38 = .ok (.iaload, 1) := by decide +kernel
theorem d_mo_arrive_39 : decode b_mo_arrive 39 = .ok (.iconst 1, 1) := by decide +kernel
theorem d_mo_arrive_40 : decode b_mo_arrive 40 = .ok (.if_icmp .eq 18, 3) := by decide +kernel
theorem d_mo_arrive_43 : decode b_mo_arrive 43 = .ok (.aload_n 0, 1) := by decide +kernel
theorem d_mo_arrive_44 : decode b_mo_arrive 44 = .ok (.getfield 32, 3) := by decide +kernel
theorem d_mo_arrive_47 : decode b_mo_arrive 47 = .ok (.bipush 8, 2) := by decide +kernel
theorem d_mo_arrive_49 : decode b_mo_arrive 49 = .ok (.iload_n 1, 1) := by decide +kernel
theorem d_mo_arrive_50 : decode b_mo_arrive 50 = .ok (.imul, 1) := by decide +kernel
theorem d_mo_arrive_51 : decode b_mo_arrive 51 = .ok (.iconst 2, 1) := by decide +kernel
theorem d_mo_arrive_52 : decode b_mo_arrive 52 = .ok (.iadd, 1) := by decide +kernel
theorem d_mo_arrive_53 : decode b_mo_arrive 53 = .ok (.iaload, 1) := by decide +kernel
theorem d_mo_arrive_54 : decode b_mo_arrive 54 = .ok (.iconst 3, 1) := by decide +kernel
theorem d_mo_arrive_55 : decode b_mo_arrive 55 = .ok (.if_icmp .ne 18, 3) := by decide +kernel
theorem d_mo_arrive_58 : decode b_mo_arrive 58 = .ok (.iload_n 3, 1) := by decide +kernel
theorem d_mo_arrive_59 : decode b_mo_arrive 59 = .ok (.aload_n 0, 1) := by decide +kernel
theorem d_mo_arrive_60 : decode b_mo_arrive 60 = .ok (.getfield 32, 3) := by decide +kernel
theorem d_mo_arrive_63 : decode b_mo_arrive 63 = .ok (.bipush 8, 2) := by decide +kernel
theorem d_mo_arrive_65 : decode b_mo_arrive 65 = .ok (.iload_n 1, 1) := by decide +kernel
theorem d_mo_arrive_66 : decode b_mo_arrive 66 = .ok (.imul, 1) := by decide +kernel
theorem d_mo_arrive_67 : decode b_mo_arrive 67 = .ok (.iconst 4, 1) := by decide +kernel
theorem d_mo_arrive_68 : decode b_mo_arrive 68 = .ok (.iadd, 1) := by decide +kernel
theorem d_mo_arrive_69 : decode b_mo_arrive 69 = .ok (.iaload, 1) := by decide +kernel
theorem d_mo_arrive_70 : decode b_mo_arrive 70 = .ok (.if_icmp .ge 5, 3) := by decide +kernel
theorem d_mo_arrive_73 : decode b_mo_arrive 73 = .ok (.iconst 0, 1) := by decide +kernel
theorem d_mo_arrive_74 : decode b_mo_arrive 74 = .ok (.ireturn, 1) := by decide +kernel
theorem d_mo_arrive_75 : decode b_mo_arrive 75 = .ok (.iload_n 2, 1) := by decide +kernel
theorem d_mo_arrive_76 : decode b_mo_arrive 76 = .ok (.aload_n 0, 1) := by decide +kernel
theorem d_mo_arrive_77 : decode b_mo_arrive 77 = .ok (.getfield 13, 3) := by decide +kernel
theorem d_mo_arrive_80 : decode b_mo_arrive 80 = .ok (.bipush 6, 2) := by decide +kernel
theorem d_mo_arrive_82 : decode b_mo_arrive 82 = .ok (.aload_n 0, 1) := by decide +kernel
theorem d_mo_arrive_83 : decode b_mo_arrive 83 = .ok (.getfield 32, 3) := by decide +kernel
theorem d_mo_arrive_86 : decode b_mo_arrive 86 = .ok (.bipush 8, 2) := by decide +kernel
theorem d_mo_arrive_88 : decode b_mo_arrive 88 = .ok (.iload_n 1, 1) := by decide +kernel
theorem d_mo_arrive_89 : decode b_mo_arrive 89 = .ok (.imul, 1) := by decide +kernel
theorem d_mo_arrive_90 : decode b_mo_arrive 90 = .ok (.iconst 1, 1) := by decide +kernel
theorem d_mo_arrive_91 : decode b_mo_arrive 91 = .ok (.iadd, 1) := by decide +kernel
theorem d_mo_arrive_92 : decode b_mo_arrive 92 = .ok (.iaload, 1) := by decide +kernel
theorem d_mo_arrive_93 : decode b_mo_arrive 93 = .ok (.imul, 1) := by decide +kernel
theorem d_mo_arrive_94 : decode b_mo_arrive 94 = .ok (.iconst 1, 1) := by decide +kernel
theorem d_mo_arrive_95 : decode b_mo_arrive 95 = .ok (.iadd, 1) := by decide +kernel
theorem d_mo_arrive_96 : decode b_mo_arrive 96 = .ok (.iaload, 1) := by decide +kernel
theorem d_mo_arrive_97 : decode b_mo_arrive 97 = .ok (.if_icmp .ne 7, 3) := by decide +kernel
theorem d_mo_arrive_100 : decode b_mo_arrive 100 = .ok (.iconst 1, 1) := by decide +kernel
theorem d_mo_arrive_101 : decode b_mo_arrive 101 = .ok (.goto 4, 3) := by decide +kernel
theorem d_mo_arrive_104 : decode b_mo_arrive 104 = .ok (.iconst 0, 1) := by decide +kernel
theorem d_mo_arrive_105 : decode b_mo_arrive 105 = .ok (.istore 4, 2) := by decide +kernel
theorem d_mo_arrive_107 : decode b_mo_arrive 107 = .ok (.aload_n 0, 1) := by decide +kernel
theorem d_mo_arrive_108 : decode b_mo_arrive 108 = .ok (.getfield 32, 3) := by decide +kernel
theorem d_mo_arrive_111 : decode b_mo_arrive 111 = .ok (.bipush 8, 2) := by decide +kernel
theorem d_mo_arrive_113 : decode b_mo_arrive 113 = .ok (.iload_n 1, 1) := by decide +kernel
theorem d_mo_arrive_114 : decode b_mo_arrive 114 = .ok (.imul, 1) := by decide +kernel
theorem d_mo_arrive_115 : decode b_mo_arrive 115 = .ok (.iconst 2, 1) := by decide +kernel
theorem d_mo_arrive_116 : decode b_mo_arrive 116 = .ok (.iadd, 1) := by decide +kernel
theorem d_mo_arrive_117 : decode b_mo_arrive 117 = .ok (.iload 4, 2) := by decide +kernel
theorem d_mo_arrive_119 : decode b_mo_arrive 119 = .ok (.ifCond .eq 7, 3) := by decide +kernel
theorem d_mo_arrive_122 : decode b_mo_arrive 122 = .ok (.iconst 2, 1) := by decide +kernel
theorem d_mo_arrive_123 : decode b_mo_arrive 123 = .ok (.goto 4, 3) := by decide +kernel
theorem d_mo_arrive_126 : decode b_mo_arrive 126 = .ok (.iconst 4, 1) := by decide +kernel
theorem d_mo_arrive_127 : decode b_mo_arrive 127 = .ok (.iastore, 1) := by decide +kernel
theorem d_mo_arrive_128 : decode b_mo_arrive 128 = .ok (.aload_n 0, 1) := by decide +kernel
theorem d_mo_arrive_129 : decode b_mo_arrive 129 = .ok (.getfield 32, 3) := by decide +kernel
theorem d_mo_arrive_132 : decode b_mo_arrive 132 = .ok (.bipush 8, 2) := by decide +kernel
theorem d_mo_arrive_134 : decode b_mo_arrive 134 = .ok (.iload_n 1, 1) := by decide +kernel
theorem d_mo_arrive_135 : decode b_mo_arrive 135 = .ok (.imul, 1) := by decide +kernel
theorem d_mo_arrive_136 : decode b_mo_arrive 136 = .ok (.iconst 5, 1) := by decide +kernel
theorem d_mo_arrive_137 : decode b_mo_arrive 137 = .ok (.iadd, 1) := by decide +kernel
theorem d_mo_arrive_138 : decode b_mo_arrive 138 = .ok (.iload_n 3, 1) := by decide +kernel
theorem d_mo_arrive_139 : decode b_mo_arrive 139 = .ok (.iastore, 1) := by decide +kernel
theorem d_mo_arrive_140 : decode b_mo_arrive 140 = .ok (.aload_n 0, 1) := by decide +kernel
theorem d_mo_arrive_141 : decode b_mo_arrive 141 = .ok (.getfield 32, 3) := by decide +kernel
theorem d_mo_arrive_144 : decode b_mo_arrive 144 = .ok (.bipush 8, 2) := by decide +kernel
theorem d_mo_arrive_146 : decode b_mo_arrive 146 = .ok (.iload_n 1, 1) := by decide +kernel
theorem d_mo_arrive_147 : decode b_mo_arrive 147 = .ok (.imul, 1) := by decide +kernel
theorem d_mo_arrive_148 : decode b_mo_arrive 148 = .ok (.iaload, 1) := by decide +kernel
theorem d_mo_arrive_149 : decode b_mo_arrive 149 = .ok (.istore 5, 2) := by decide +kernel
theorem d_mo_arrive_151 : decode b_mo_arrive 151 = .ok (.aload_n 0, 1) := by decide +kernel
theorem d_mo_arrive_152 : decode b_mo_arrive 152 = .ok (.getfield 23, 3) := by decide +kernel
theorem d_mo_arrive_155 : decode b_mo_arrive 155 = .ok (.iconst 3, 1) := by decide +kernel
theorem d_mo_arrive_156 : decode b_mo_arrive 156 = .ok (.iload 5, 2) := by decide +kernel
theorem d_mo_arrive_158 : decode b_mo_arrive 158 = .ok (.imul, 1) := by decide +kernel
theorem d_mo_arrive_159 : decode b_mo_arrive 159 = .ok (.iload_n 2, 1) := by decide +kernel
theorem d_mo_arrive_160 : decode b_mo_arrive 160 = .ok (.iastore, 1) := by decide +kernel
theorem d_mo_arrive_161 : decode b_mo_arrive 161 = .ok (.aload_n 0, 1) := by decide +kernel
theorem d_mo_arrive_162 : decode b_mo_arrive 162 = .ok (.getfield 23, 3) := by decide +kernel
theorem d_mo_arrive_165 : decode b_mo_arrive 165 = .ok (.iconst 3, 1) := by decide +kernel
theorem d_mo_arrive_166 : decode b_mo_arrive 166 = .ok (.iload 5, 2) := by decide +kernel
theorem d_mo_arrive_168 : decode b_mo_arrive 168 = .ok (.imul, 1) := by decide +kernel
theorem d_mo_arrive_169 : decode b_mo_arrive 169 = .ok (.iconst 2, 1) := by decide +kernel
theorem d_mo_arrive_170 : decode b_mo_arrive 170 = .ok (.iadd, 1) := by decide +kernel
theorem d_mo_arrive_171 : decode b_mo_arrive 171 = .ok (.iconst 0, 1) := by decide +kernel
theorem d_mo_arrive_172 : decode b_mo_arrive 172 = .ok (.iastore, 1) := by decide +kernel
theorem d_mo_arrive_173 : decode b_mo_arrive 173 = .ok (.aload_n 0, 1) := by decide +kernel
theorem d_mo_arrive_174 : decode b_mo_arrive 174 = .ok (.getfield 23, 3) := by decide +kernel
theorem d_mo_arrive_177 : decode b_mo_arrive 177 = .ok (.iconst 3, 1) := by decide +kernel
theorem d_mo_arrive_178 : decode b_mo_arrive 178 = .ok (.iload 5, 2) := by decide +kernel
theorem d_mo_arrive_180 : decode b_mo_arrive 180 = .ok (.imul, 1) := by decide +kernel
theorem d_mo_arrive_181 : decode b_mo_arrive 181 = .ok (.iconst 1, 1) := by decide +kernel
theorem d_mo_arrive_182 : decode b_mo_arrive 182 = .ok (.iadd, 1) := by decide +kernel
theorem d_mo_arrive_183 : decode b_mo_arrive 183 = .ok (.iload 4, 2) := by decide +kernel
theorem d_mo_arrive_185 : decode b_mo_arrive 185 = .ok (.ifCond .eq 17, 3) := by decide +kernel
theorem d_mo_arrive_188 : decode b_mo_arrive 188 = .ok (.aload_n 0, 1) := by decide +kernel
theorem d_mo_arrive_189 : decode b_mo_arrive 189 = .ok (.getfield 29, 3) := by decide +kernel
theorem d_mo_arrive_192 : decode b_mo_arrive 192 = .ok (.iload 5, 2) := by decide +kernel
theorem d_mo_arrive_194 : decode b_mo_arrive 194 = .ok (.baload, 1) := by decide +kernel
theorem d_mo_arrive_195 : decode b_mo_arrive 195 = .ok (.ifCond .eq 7, 3) := by decide +kernel
theorem d_mo_arrive_198 : decode b_mo_arrive 198 = .ok (.iload_n 2, 1) := by decide +kernel
theorem d_mo_arrive_199 : decode b_mo_arrive 199 = .ok (.goto 14, 3) := by decide +kernel
theorem d_mo_arrive_202 : decode b_mo_arrive 202 = .ok (.aload_n 0, 1) := by decide +kernel
theorem d_mo_arrive_203 : decode b_mo_arrive 203 = .ok (.getfield 23, 3) := by decide +kernel
theorem d_mo_arrive_206 : decode b_mo_arrive 206 = .ok (.iconst 3, 1) := by decide +kernel
theorem d_mo_arrive_207 : decode b_mo_arrive 207 = .ok (.iload 5, 2) := by decide +kernel
theorem d_mo_arrive_209 : decode b_mo_arrive 209 = .ok (.imul, 1) := by decide +kernel
theorem d_mo_arrive_210 : decode b_mo_arrive 210 = .ok (.iconst 1, 1) := by decide +kernel
theorem d_mo_arrive_211 : decode b_mo_arrive 211 = .ok (.iadd, 1) := by decide +kernel
theorem d_mo_arrive_212 : decode b_mo_arrive 212 = .ok (.iaload, 1) := by decide +kernel
theorem d_mo_arrive_213 : decode b_mo_arrive 213 = .ok (.iastore, 1) := by decide +kernel
theorem d_mo_arrive_214 : decode b_mo_arrive 214 = .ok (.iload 4, 2) := by decide +kernel
theorem d_mo_arrive_216 : decode b_mo_arrive 216 = .ok (.ifCond .eq 7, 3) := by decide +kernel
theorem d_mo_arrive_219 : decode b_mo_arrive 219 = .ok (.iconst 1, 1) := by decide +kernel
theorem d_mo_arrive_220 : decode b_mo_arrive 220 = .ok (.goto 4, 3) := by decide +kernel
theorem d_mo_arrive_223 : decode b_mo_arrive 223 = .ok (.iconst (-1), 1) := by decide +kernel
theorem d_mo_arrive_224 : decode b_mo_arrive 224 = .ok (.ireturn, 1) := by decide +kernel
theorem d_mo_lost_0 : decode b_mo_lost 0 = .ok (.aload_n 0, 1) := by decide +kernel
theorem d_mo_lost_1 : decode b_mo_lost 1 = .ok (.iconst 0, 1) := by decide +kernel
theorem d_mo_lost_2 : decode b_mo_lost 2 = .ok (.putfield 38, 3) := by decide +kernel
theorem d_mo_lost_5 : decode b_mo_lost 5 = .ok (.iload_n 1, 1) := by decide +kernel
theorem d_mo_lost_6 : decode b_mo_lost 6 = .ok (.invokestatic 65, 3) := by decide +kernel
theorem d_mo_lost_9 : decode b_mo_lost 9 = .ok (.ifCond .ne 5, 3) := by decide +kernel
theorem d_mo_lost_12 : decode b_mo_lost 12 = .ok (.iconst (-1), 1) := by decide +kernel
theorem d_mo_lost_13 : decode b_mo_lost 13 = .ok (.ireturn, 1) := by decide +kernel
theorem d_mo_lost_14 : decode b_mo_lost 14 = .ok (.iconst 0, 1) := by decide +kernel
theorem d_mo_lost_15 : decode b_mo_lost 15 = .ok (.istore_n 2, 1) := by decide +kernel
theorem d_mo_lost_16 : decode b_mo_lost 16 = .ok (.iconst 1, 1) := by decide +kernel
theorem d_mo_lost_17 : decode b_mo_lost 17 = .ok (.istore_n 3, 1) := by decide +kernel
theorem d_mo_lost_18 : decode b_mo_lost 18 = .ok (.iload_n 3, 1) := by decide +kernel
theorem d_mo_lost_19 : decode b_mo_lost 19 = .ok (.aload_n 0, 1) := by decide +kernel
theorem d_mo_lost_20 : decode b_mo_lost 20 = .ok (.getfield 51, 3) := by decide +kernel
theorem d_mo_lost_23 : decode b_mo_lost 23 = .ok (.if_icmp .gt 79, 3) := by decide +kernel
theorem d_mo_lost_26 : decode b_mo_lost 26 = .ok (.aload_n 0, 1) := by decide +kernel
theorem d_mo_lost_27 : decode b_mo_lost 27 = .ok (.getfield 32, 3) := by decide +kernel
theorem d_mo_lost_30 : decode b_mo_lost 30 = .ok (.bipush 8, 2) := by decide +kernel
theorem d_mo_lost_32 : decode b_mo_lost 32 = .ok (.iload_n 3, 1) := by decide +kernel
theorem d_mo_lost_33 : decode b_mo_lost 33 = .ok (.imul, 1) := by decide +kernel
theorem d_mo_lost_34 : decode b_mo_lost 34 = .ok (.iconst 2, 1) := by decide +kernel
theorem d_mo_lost_35 : decode b_mo_lost 35 = .ok (.iadd, 1) := by decide +kernel
theorem d_mo_lost_36 : decode b_mo_lost 36 = .ok (.iaload, 1) := by decide +kernel
theorem d_mo_lost_37 : decode b_mo_lost 37 = .ok (.iconst 1, 1) := by decide +kernel
theorem d_mo_lost_38 : decode b_mo_lost 38 = .ok (.if_icmp .ne 58, 3) := by decide +kernel
theorem d_mo_lost_41 : decode b_mo_lost 41 = .ok (.aload_n 0, 1) := by decide +kernel
theorem d_mo_lost_42 : decode b_mo_lost 42 = .ok (.getfield 32, 3) := by decide +kernel
theorem d_mo_lost_45 : decode b_mo_lost 45 = .ok (.bipush 8, 2) := by decide +kernel
theorem d_mo_lost_47 : decode b_mo_lost 47 = .ok (.iload_n 3, 1) := by decide +kernel
theorem d_mo_lost_48 : decode b_mo_lost 48 = .ok (.imul, 1) := by decide +kernel
theorem d_mo_lost_49 : decode b_mo_lost 49 = .ok (.iconst 4, 1) := by decide +kernel
theorem d_mo_lost_50 : decode b_mo_lost 50 = .ok (.iadd, 1) := by decide +kernel
theorem d_mo_lost_51 : decode b_mo_lost 51 = .ok (.iaload, 1) := by decide +kernel
theorem d_mo_lost_52 : decode b_mo_lost 52 = .ok (.aload_n 0, 1) := by decide +kernel
theorem d_mo_lost_53 : decode b_mo_lost 53 = .ok (.getfield 13, 3) := by decide +kernel
theorem d_mo_lost_56 : decode b_mo_lost 56 = .ok (.bipush 6, 2) := by decide +kernel
theorem d_mo_lost_58 : decode b_mo_lost 58 = .ok (.aload_n 0, 1) := by decide +kernel
theorem d_mo_lost_59 : decode b_mo_lost 59 = .ok (.getfield 32, 3) := by decide +kernel
theorem d_mo_lost_62 : decode b_mo_lost 62 = .ok (.bipush 8, 2) := by decide +kernel
theorem d_mo_lost_64 : decode b_mo_lost 64 = .ok (.iload_n 3, 1) := by decide +kernel
theorem d_mo_lost_65 : decode b_mo_lost 65 = .ok (.imul, 1) := by decide +kernel
theorem d_mo_lost_66 : decode b_mo_lost 66 = .ok (.iconst 1, 1) := by decide +kernel
theorem d_mo_lost_67 : decode b_mo_lost 67 = .ok (.iadd, 1) := by decide +kernel
theorem d_mo_lost_68 : decode b_mo_lost 68 = .ok (.iaload, 1) := by decide +kernel
theorem d_mo_lost_69 : decode b_mo_lost 69 = .ok (.imul, 1) := by decide +kernel
theorem d_mo_lost_70 : decode b_mo_lost 70 = .ok (.iconst 3, 1) := by decide +kernel
theorem d_mo_lost_71 : decode b_mo_lost 71 = .ok (.iadd, 1) := by decide +kernel
theorem d_mo_lost_72 : decode b_mo_lost 72 = .ok (.iaload, 1) := by decide +kernel
theorem d_mo_lost_73 : decode b_mo_lost 73 = .ok (.iadd, 1) := by decide +kernel
theorem d_mo_lost_74 : decode b_mo_lost 74 = .ok (.iload_n 1, 1) := by decide +kernel
theorem d_mo_lost_75 : decode b_mo_lost 75 = .ok (.bipush 14, 2) := by decide +kernel
theorem d_mo_lost_77 : decode b_mo_lost 77 = .ok (.isub, 1) := by decide +kernel
theorem d_mo_lost_78 : decode b_mo_lost 78 = .ok (.if_icmp .ge 18, 3) := by decide +kernel
theorem d_mo_lost_81 : decode b_mo_lost 81 = .ok (.aload_n 0, 1) := by decide +kernel
theorem d_mo_lost_82 : decode b_mo_lost 82 = .ok (.getfield 32, 3) := by decide +kernel
theorem d_mo_lost_85 : decode b_mo_lost 85 = .ok (.bipush 8, 2) := by decide +kernel
theorem d_mo_lost_87 : decode b_mo_lost 87 = .ok (.iload_n 3, 1) := by decide +kernel
theorem d_mo_lost_88 : decode b_mo_lost 88 = .ok (.imul, 1) := by decide +kernel
theorem d_mo_lost_89 : decode b_mo_lost 89 = .ok (.iconst 2, 1) := by decide +kernel
theorem d_mo_lost_90 : decode b_mo_lost 90 = .ok (.iadd, 1) := by decide +kernel
theorem d_mo_lost_91 : decode b_mo_lost 91 = .ok (.iconst 3, 1) := by decide +kernel
theorem d_mo_lost_92 : decode b_mo_lost 92 = .ok (.iastore, 1) := by decide +kernel
theorem d_mo_lost_93 : decode b_mo_lost 93 = .ok (.iinc 2 1, 3) := by decide +kernel
theorem d_mo_lost_96 : decode b_mo_lost 96 = .ok (.iinc 3 1, 3) := by decide +kernel
theorem d_mo_lost_99 : decode b_mo_lost 99 = .ok (.goto (-81), 3) := by decide +kernel
theorem d_mo_lost_102 : decode b_mo_lost 102 = .ok (.iload_n 2, 1) := by decide +kernel
theorem d_mo_lost_103 : decode b_mo_lost 103 = .ok (.ireturn, 1) := by decide +kernel
theorem d_mo_slip_0 : decode b_mo_slip 0 = .ok (.aload_n 0, 1) := by decide +kernel
theorem d_mo_slip_1 : decode b_mo_slip 1 = .ok (.iconst 0, 1) := by decide +kernel
theorem d_mo_slip_2 : decode b_mo_slip 2 = .ok (.putfield 38, 3) := by decide +kernel
theorem d_mo_slip_5 : decode b_mo_slip 5 = .ok (.aload_n 0, 1) := by decide +kernel
theorem d_mo_slip_6 : decode b_mo_slip 6 = .ok (.iload_n 1, 1) := by decide +kernel
theorem d_mo_slip_7 : decode b_mo_slip 7 = .ok (.invokevirtual 79, 3) := by decide +kernel
theorem d_mo_slip_10 : decode b_mo_slip 10 = .ok (.ifCond .eq 13, 3) := by decide +kernel
theorem d_mo_slip_13 : decode b_mo_slip 13 = .ok (.iload_n 2, 1) := by decide +kernel
theorem d_mo_slip_14 : decode b_mo_slip 14 = .ok (.ifCond .lt 9, 3) := by decide +kernel
theorem d_mo_slip_17 : decode b_mo_slip 17 = .ok (.iload_n 2, 1) := by decide +kernel
theorem d_mo_slip_18 : decode b_mo_slip 18 = .ok (.bipush 6, 2) := by decide +kernel
theorem d_mo_slip_20 : decode b_mo_slip 20 = .ok (.if_icmp .le 5, 3) := by decide +kernel
theorem d_mo_slip_23 : decode b_mo_slip 23 = .ok (.iconst (-1), 1) := by decide +kernel
theorem d_mo_slip_24 : decode b_mo_slip 24 = .ok (.ireturn, 1) := by decide +kernel
theorem d_mo_slip_25 : decode b_mo_slip 25 = .ok (.iload_n 2, 1) := by decide +kernel
theorem d_mo_slip_26 : decode b_mo_slip 26 = .ok (.iconst 5, 1) := by decide +kernel
theorem d_mo_slip_27 : decode b_mo_slip 27 = .ok (.if_icmp .ge 17, 3) := by decide +kernel
theorem d_mo_slip_30 : decode b_mo_slip 30 = .ok (.aload_n 0, 1) := by decide +kernel
theorem d_mo_slip_31 : decode b_mo_slip 31 = .ok (.getfield 32, 3) := by decide +kernel
theorem d_mo_slip_34 : decode b_mo_slip 34 = .ok (.bipush 8, 2) := by decide +kernel
theorem d_mo_slip_36 : decode b_mo_slip 36 = .ok (.iload_n 1, 1) := by decide +kernel
theorem d_mo_slip_37 : decode b_mo_slip 37 = .ok (.imul, 1) := by decide +kernel
theorem d_mo_slip_38 : decode b_mo_slip 38 = .ok (.iload_n 2, 1) := by decide +kernel
theorem d_mo_slip_39 : decode b_mo_slip 39 = .ok (.iadd, 1) := by decide +kernel
theorem d_mo_slip_40 : decode b_mo_slip 40 = .ok (.iaload, 1) := by decide +kernel
theorem d_mo_slip_41 : decode b_mo_slip 41 = .ok (.goto 55, 3) := by decide +kernel
theorem d_mo_slip_44 : decode b_mo_slip 44 = .ok (.iload_n 2, 1) := by decide +kernel
theorem d_mo_slip_45 : decode b_mo_slip 45 = .ok (.iconst 5, 1) := by decide +kernel
theorem d_mo_slip_46 : decode b_mo_slip 46 = .ok (.if_icmp .ne 39, 3) := by decide +kernel
theorem d_mo_slip_49 : decode b_mo_slip 49 = .ok (.aload_n 0, 1) := by decide +kernel
theorem d_mo_slip_50 : decode b_mo_slip 50 = .ok (.getfield 32, 3) := by decide +kernel
theorem d_mo_slip_53 : decode b_mo_slip 53 = .ok (.bipush 8, 2) := by decide +kernel
theorem d_mo_slip_55 : decode b_mo_slip 55 = .ok (.iload_n 1, 1) := by decide +kernel
theorem d_mo_slip_56 : decode b_mo_slip 56 = .ok (.imul, 1) := by decide +kernel
theorem d_mo_slip_57 : decode b_mo_slip 57 = .ok (.iconst 4, 1) := by decide +kernel
theorem d_mo_slip_58 : decode b_mo_slip 58 = .ok (.iadd, 1) := by decide +kernel
theorem d_mo_slip_59 : decode b_mo_slip 59 = .ok (.iaload, 1) := by decide +kernel
theorem d_mo_slip_60 : decode b_mo_slip 60 = .ok (.aload_n 0, 1) := by decide +kernel
theorem d_mo_slip_61 : decode b_mo_slip 61 = .ok (.getfield 13, 3) := by decide +kernel
theorem d_mo_slip_64 : decode b_mo_slip 64 = .ok (.bipush 6, 2) := by decide +kernel
theorem d_mo_slip_66 : decode b_mo_slip 66 = .ok (.aload_n 0, 1) := by decide +kernel
theorem d_mo_slip_67 : decode b_mo_slip 67 = .ok (.getfield 32, 3) := by decide +kernel
theorem d_mo_slip_70 : decode b_mo_slip 70 = .ok (.bipush 8, 2) := by decide +kernel
theorem d_mo_slip_72 : decode b_mo_slip 72 = .ok (.iload_n 1, 1) := by decide +kernel
theorem d_mo_slip_73 : decode b_mo_slip 73 = .ok (.imul, 1) := by decide +kernel
theorem d_mo_slip_74 : decode b_mo_slip 74 = .ok (.iconst 1, 1) := by decide +kernel
theorem d_mo_slip_75 : decode b_mo_slip 75 = .ok (.iadd, 1) := by decide +kernel
theorem d_mo_slip_76 : decode b_mo_slip 76 = .ok (.iaload, 1) := by decide +kernel
theorem d_mo_slip_77 : decode b_mo_slip 77 = .ok (.imul, 1) := by decide +kernel
theorem d_mo_slip_78 : decode b_mo_slip 78 = .ok (.iconst 3, 1) := by decide +kernel
theorem d_mo_slip_79 : decode b_mo_slip 79 = .ok (.iadd, 1) := by decide +kernel
theorem d_mo_slip_80 : decode b_mo_slip 80 = .ok (.iaload, 1) := by decide +kernel
theorem d_mo_slip_81 : decode b_mo_slip 81 = .ok (.iadd, 1) := by decide +kernel
theorem d_mo_slip_82 : decode b_mo_slip 82 = .ok (.goto 14, 3) := by decide +kernel
theorem d_mo_slip_85 : decode b_mo_slip 85 = .ok (.aload_n 0, 1) := by decide +kernel
theorem d_mo_slip_86 : decode b_mo_slip 86 = .ok (.getfield 32, 3) := by decide +kernel
theorem d_mo_slip_89 : decode b_mo_slip 89 = .ok (.bipush 8, 2) := by decide +kernel
theorem d_mo_slip_91 : decode b_mo_slip 91 = .ok (.iload_n 1, 1) := by decide +kernel
theorem d_mo_slip_92 : decode b_mo_slip 92 = .ok (.imul, 1) := by decide +kernel
theorem d_mo_slip_93 : decode b_mo_slip 93 = .ok (.iconst 5, 1) := by decide +kernel
theorem d_mo_slip_94 : decode b_mo_slip 94 = .ok (.iadd, 1) := by decide +kernel
theorem d_mo_slip_95 : decode b_mo_slip 95 = .ok (.iaload, 1) := by decide +kernel
theorem d_mo_slip_96 : decode b_mo_slip 96 = .ok (.ireturn, 1) := by decide +kernel
theorem d_mo_where_0 : decode b_mo_where 0 = .ok (.aload_n 0, 1) := by decide +kernel
theorem d_mo_where_1 : decode b_mo_where 1 = .ok (.iconst 0, 1) := by decide +kernel
theorem d_mo_where_2 : decode b_mo_where 2 = .ok (.putfield 38, 3) := by decide +kernel
theorem d_mo_where_5 : decode b_mo_where 5 = .ok (.aload_n 0, 1) := by decide +kernel
theorem d_mo_where_6 : decode b_mo_where 6 = .ok (.iload_n 1, 1) := by decide +kernel
theorem d_mo_where_7 : decode b_mo_where 7 = .ok (.invokevirtual 72, 3) := by decide +kernel
theorem d_mo_where_10 : decode b_mo_where 10 = .ok (.ifCond .eq 12, 3) := by decide +kernel
theorem d_mo_where_13 : decode b_mo_where 13 = .ok (.iload_n 2, 1) := by decide +kernel
theorem d_mo_where_14 : decode b_mo_where 14 = .ok (.ifCond .lt 8, 3) := by decide +kernel
theorem d_mo_where_17 : decode b_mo_where 17 = .ok (.iload_n 2, 1) := by decide +kernel
theorem d_mo_where_18 : decode b_mo_where 18 = .ok (.iconst 2, 1) := by decide +kernel
theorem d_mo_where_19 : decode b_mo_where 19 = .ok (.if_icmp .le 7, 3) := by decide +kernel
theorem d_mo_where_22 : decode b_mo_where 22 = .ok (.iconst (-1), 1) := by decide +kernel
theorem d_mo_where_23 : decode b_mo_where 23 = .ok (.goto 13, 3) := by decide +kernel
theorem d_mo_where_26 : decode b_mo_where 26 = .ok (.aload_n 0, 1) := by decide +kernel
theorem d_mo_where_27 : decode b_mo_where 27 = .ok (.getfield 23, 3) := by decide +kernel
theorem d_mo_where_30 : decode b_mo_where 30 = .ok (.iconst 3, 1) := by decide +kernel
theorem d_mo_where_31 : decode b_mo_where 31 = .ok (.iload_n 1, 1) := by decide +kernel
theorem d_mo_where_32 : decode b_mo_where 32 = .ok (.imul, 1) := by decide +kernel
theorem d_mo_where_33 : decode b_mo_where 33 = .ok (.iload_n 2, 1) := by decide +kernel
theorem d_mo_where_34 : decode b_mo_where 34 = .ok (.iadd, 1) := by decide +kernel
theorem d_mo_where_35 : decode b_mo_where 35 = .ok (.iaload, 1) := by decide +kernel
theorem d_mo_where_36 : decode b_mo_where 36 = .ok (.ireturn, 1) := by decide +kernel
theorem d_mo_statistics_0 : decode b_mo_statistics 0 = .ok (.aload_n 0, 1) := by decide +kernel
theorem d_mo_statistics_1 : decode b_mo_statistics 1 = .ok (.iconst 0, 1) := by decide +kernel
theorem d_mo_statistics_2 : decode b_mo_statistics 2 = .ok (.putfield 38, 3) := by decide +kernel
theorem d_mo_statistics_5 : decode b_mo_statistics 5 = .ok (.aload_n 0, 1) := by decide +kernel
theorem d_mo_statistics_6 : decode b_mo_statistics 6 = .ok (.iload_n 1, 1) := by decide +kernel
theorem d_mo_statistics_7 : decode b_mo_statistics 7 = .ok (.invokevirtual 55, 3) := by decide +kernel
theorem d_mo_statistics_10 : decode b_mo_statistics 10 = .ok (.ifCond .eq 20, 3) := by decide +kernel
theorem d_mo_statistics_13 : decode b_mo_statistics 13 = .ok (.aload_n 0, 1) := by decide +kernel
theorem d_mo_statistics_14 : decode b_mo_statistics 14 = .ok (.iload_n 2, 1) := by decide +kernel
theorem d_mo_statistics_15 : decode b_mo_statistics 15 = .ok (.invokevirtual 55, 3) := by decide +kernel
theorem d_mo_statistics_18 : decode b_mo_statistics 18 = .ok (.ifCond .eq 12, 3) := by decide +kernel
theorem d_mo_statistics_21 : decode b_mo_statistics 21 = .ok (.iload_n 3, 1) := by decide +kernel
theorem d_mo_statistics_22 : decode b_mo_statistics 22 = .ok (.ifCond .lt 8, 3) := by decide +kernel
theorem d_mo_statistics_25 : decode b_mo_statistics 25 = .ok (.iload_n 3, 1) := by decide +kernel
theorem d_mo_statistics_26 : decode b_mo_statistics 26 = .ok (.iconst 3, 1) := by decide +kernel
theorem d_mo_statistics_27 : decode b_mo_statistics 27 = .ok (.if_icmp .le 5, 3) := by decide +kernel
theorem d_mo_statistics_30 : decode b_mo_statistics 30 = .ok (.iconst (-1), 1) := by decide +kernel
theorem d_mo_statistics_31 : decode b_mo_statistics 31 = .ok (.ireturn, 1) := by decide +kernel
theorem d_mo_statistics_32 : decode b_mo_statistics 32 = .ok (.iconst 0, 1) := by decide +kernel
theorem d_mo_statistics_33 : decode b_mo_statistics 33 = .ok (.istore 4, 2) := by decide +kernel
theorem d_mo_statistics_35 : decode b_mo_statistics 35 = .ok (.iconst 0, 1) := by decide +kernel
theorem d_mo_statistics_36 : decode b_mo_statistics 36 = .ok (.istore 5, 2) := by decide +kernel
theorem d_mo_statistics_38 : decode b_mo_statistics 38 = .ok (.iconst (-1), 1) := by decide +kernel
theorem d_mo_statistics_39 : decode b_mo_statistics 39 = .ok (.istore 6, 2) := by decide +kernel
theorem d_mo_statistics_41 : decode b_mo_statistics 41 = .ok (.iconst 1, 1) := by decide +kernel
theorem d_mo_statistics_42 : decode b_mo_statistics 42 = .ok (.istore 7, 2) := by decide +kernel
theorem d_mo_statistics_44 : decode b_mo_statistics 44 = .ok (.iload 7, 2) := by decide +kernel
theorem d_mo_statistics_46 : decode b_mo_statistics 46 = .ok (.aload_n 0, 1) := by decide +kernel
theorem d_mo_statistics_47 : decode b_mo_statistics 47 = .ok (.getfield 51, 3) := by decide +kernel
theorem d_mo_statistics_50 : decode b_mo_statistics 50 = .ok (.if_icmp .gt 122, 3) := by decide +kernel
theorem d_mo_statistics_53 : decode b_mo_statistics 53 = .ok (.aload_n 0, 1) := by decide +kernel
theorem d_mo_statistics_54 : decode b_mo_statistics 54 = .ok (.getfield 32, 3) := by decide +kernel
theorem d_mo_statistics_57 : decode b_mo_statistics 57 = .ok (.bipush 8, 2) := by decide +kernel
theorem d_mo_statistics_59 : decode b_mo_statistics 59 = .ok (.iload 7, 2) := by decide +kernel
theorem d_mo_statistics_61 : decode b_mo_statistics 61 = .ok (.imul, 1) := by decide +kernel
theorem d_mo_statistics_62 : decode b_mo_statistics 62 = .ok (.iconst 1, 1) := by decide +kernel
theorem d_mo_statistics_63 : decode b_mo_statistics 63 = .ok (.iadd, 1) := by decide +kernel
theorem d_mo_statistics_64 : decode b_mo_statistics 64 = .ok (.iaload, 1) := by decide +kernel
theorem d_mo_statistics_65 : decode b_mo_statistics 65 = .ok (.istore 8, 2) := by decide +kernel
theorem d_mo_statistics_67 : decode b_mo_statistics 67 = .ok (.aload_n 0, 1) := by decide +kernel
theorem d_mo_statistics_68 : decode b_mo_statistics 68 = .ok (.getfield 32, 3) := by decide +kernel
theorem d_mo_statistics_71 : decode b_mo_statistics 71 = .ok (.bipush 8, 2) := by decide +kernel
theorem d_mo_statistics_73 : decode b_mo_statistics 73 = .ok (.iload 7, 2) := by decide +kernel
theorem d_mo_statistics_75 : decode b_mo_statistics 75 = .ok (.imul, 1) := by decide +kernel
theorem d_mo_statistics_76 : decode b_mo_statistics 76 = .ok (.iconst 2, 1) := by decide +kernel
theorem d_mo_statistics_77 : decode b_mo_statistics 77 = .ok (.iadd, 1) := by decide +kernel
theorem d_mo_statistics_78 : decode b_mo_statistics 78 = .ok (.iaload, 1) := by decide +kernel
theorem d_mo_statistics_79 : decode b_mo_statistics 79 = .ok (.iconst 2, 1) := by decide +kernel
theorem d_mo_statistics_80 : decode b_mo_statistics 80 = .ok (.if_icmp .ne 86, 3) := by decide +kernel
theorem d_mo_statistics_83 : decode b_mo_statistics 83 = .ok (.aload_n 0, 1) := by decide +kernel
theorem d_mo_statistics_84 : decode b_mo_statistics 84 = .ok (.getfield 13, 3) := by decide +kernel
theorem d_mo_statistics_87 : decode b_mo_statistics 87 = .ok (.bipush 6, 2) := by decide +kernel
theorem d_mo_statistics_89 : decode b_mo_statistics 89 = .ok (.iload 8, 2) := by decide +kernel
theorem d_mo_statistics_91 : decode b_mo_statistics 91 = .ok (.imul, 1) := by decide +kernel
theorem d_mo_statistics_92 : decode b_mo_statistics 92 = .ok (.iaload, 1) := by decide +kernel
theorem d_mo_statistics_93 : decode b_mo_statistics 93 = .ok (.iload_n 1, 1) := by decide +kernel
theorem d_mo_statistics_94 : decode b_mo_statistics 94 = .ok (.if_icmp .ne 72, 3) := by decide +kernel
theorem d_mo_statistics_97 : decode b_mo_statistics 97 = .ok (.aload_n 0, 1) := by decide +kernel
theorem d_mo_statistics_98 : decode b_mo_statistics 98 = .ok (.getfield 13, 3) := by decide +kernel
theorem d_mo_statistics_101 : decode b_mo_statistics 101 = .ok (.bipush 6, 2) := by decide +kernel
theorem d_mo_statistics_103 : decode b_mo_statistics 103 = .ok (.iload 8, 2) := by decide +kernel
theorem d_mo_statistics_105 : decode b_mo_statistics 105 = .ok (.imul, 1) := by decide +kernel
theorem d_mo_statistics_106 : decode b_mo_statistics 106 = .ok (.iconst 1, 1) := by decide +kernel
theorem d_mo_statistics_107 : decode b_mo_statistics 107 = .ok (.iadd, 1) := by decide +kernel
theorem d_mo_statistics_108 : decode b_mo_statistics 108 = .ok (.iaload, 1) := by decide +kernel
theorem d_mo_statistics_109 : decode b_mo_statistics 109 = .ok (.iload_n 2, 1) := by decide +kernel
theorem d_mo_statistics_110 : decode b_mo_statistics 110 = .ok (.if_icmp .ne 56, 3) := by decide +kernel
theorem d_mo_statistics_113 : decode b_mo_statistics 113 = .ok (.aload_n 0, 1) := by decide +kernel
theorem d_mo_statistics_114 : decode b_mo_statistics 114 = .ok (.getfield 32, 3) := by decide +kernel
theorem d_mo_statistics_117 : decode b_mo_statistics 117 = .ok (.bipush 8, 2) := by decide +kernel
theorem d_mo_statistics_119 : decode b_mo_statistics 119 = .ok (.iload 7, 2) := by decide +kernel
theorem d_mo_statistics_121 : decode b_mo_statistics 121 = .ok (.imul, 1) := by decide +kernel
theorem d_mo_statistics_122 : decode b_mo_statistics 122 = .ok (.iconst 5, 1) := by decide +kernel
theorem d_mo_statistics_123 : decode b_mo_statistics 123 = .ok (.iadd, 1) := by decide +kernel
theorem d_mo_statistics_124 : decode b_mo_statistics 124 = .ok (.iaload, 1) := by decide +kernel
theorem d_mo_statistics_125 : decode b_mo_statistics 125 = .ok (.aload_n 0, 1) := by decide +kernel
theorem d_mo_statistics_126 : decode b_mo_statistics 126 = .ok (.getfield 32, 3) := by decide +kernel
theorem d_mo_statistics_129 : decode b_mo_statistics 129 = .ok (.bipush 8, 2) := by decide +kernel
theorem d_mo_statistics_131 : decode b_mo_statistics 131 = .ok (.iload 7, 2) := by decide +kernel
theorem d_mo_statistics_133 : decode b_mo_statistics 133 = .ok (.imul, 1) := by decide +kernel
theorem d_mo_statistics_134 : decode b_mo_statistics 134 = .ok (.iconst 3, 1) := by decide +kernel
theorem d_mo_statistics_135 : decode b_mo_statistics 135 = .ok (.iadd, 1) := by decide +kernel
theorem d_mo_statistics_136 : decode b_mo_statistics 136 = .ok (.iaload, 1) := by decide +kernel
theorem d_mo_statistics_137 : decode b_mo_statistics 137 = .ok (.isub, 1) := by decide +kernel
theorem d_mo_statistics_138 : decode b_mo_statistics 138 = .ok (.istore 9, 2) := by decide +kernel
theorem d_mo_statistics_140 : decode b_mo_statistics 140 = .ok (.iinc 4 1, 3) := by decide +kernel
theorem d_mo_statistics_143 : decode b_mo_statistics 143 = .ok (.iload 5, 2) := by decide +kernel
theorem d_mo_statistics_145 : decode b_mo_statistics 145 = .ok (.iload 9, 2) := by decide +kernel
theorem d_mo_statistics_147 : decode b_mo_statistics 147 = .ok (.iadd, 1) := by decide +kernel
theorem d_mo_statistics_148 : decode b_mo_statistics 148 = .ok (.istore 5, 2) := by decide +kernel
theorem d_mo_statistics_150 : decode b_mo_statistics 150 = .ok (.iload 9, 2) := by decide +kernel
theorem d_mo_statistics_152 : decode b_mo_statistics 152 = .ok (.iload 6, 2) := by decide +kernel
theorem d_mo_statistics_154 : decode b_mo_statistics 154 = .ok (.if_icmp .le 8, 3) := by decide +kernel
theorem d_mo_statistics_157 : decode b_mo_statistics 157 = .ok (.iload 9, 2) := by decide +kernel
theorem d_mo_statistics_159 : decode b_mo_statistics 159 = .ok (.goto 5, 3) := by decide +kernel
theorem d_mo_statistics_162 : decode b_mo_statistics 162 = .ok (.iload 6, 2) := by decide +kernel
theorem d_mo_statistics_164 : decode b_mo_statistics 164 = .ok (.istore 6, 2) := by decide +kernel
theorem d_mo_statistics_166 : decode b_mo_statistics 166 = .ok (.iinc 7 1, 3) := by decide +kernel
theorem d_mo_statistics_169 : decode b_mo_statistics 169 = .ok (.goto (-125), 3) := by decide +kernel
theorem d_mo_statistics_172 : decode b_mo_statistics 172 = .ok (.iload_n 3, 1) := by decide +kernel
theorem d_mo_statistics_173 : decode b_mo_statistics 173 = .ok (.iconst 3, 1) := by decide +kernel
theorem d_mo_statistics_174 : decode b_mo_statistics 174 = .ok (.if_icmp .ne 15, 3) := by decide +kernel
theorem d_mo_statistics_177 : decode b_mo_statistics 177 = .ok (.iload 4, 2) := by decide +kernel
theorem d_mo_statistics_179 : decode b_mo_statistics 179 = .ok (.ifCond .ne 10, 3) := by decide +kernel
theorem d_mo_statistics_182 : decode b_mo_statistics 182 = .ok (.aload_n 0, 1) := by decide +kernel
theorem d_mo_statistics_183 : decode b_mo_statistics 183 = .ok (.iconst 1, 1) := by decide +kernel
theorem d_mo_statistics_184 : decode b_mo_statistics 184 = .ok (.putfield 38, 3) := by decide +kernel
theorem d_mo_statistics_187 : decode b_mo_statistics 187 = .ok (.iconst 0, 1) := by decide +kernel
theorem d_mo_statistics_188 : decode b_mo_statistics 188 = .ok (.ireturn, 1) := by decide +kernel
theorem d_mo_statistics_189 : decode b_mo_statistics 189 = .ok (.iload_n 3, 1) := by decide +kernel
theorem d_mo_statistics_190 : decode b_mo_statistics 190 = .ok (.ifCond .ne 8, 3) := by decide +kernel
theorem d_mo_statistics_193 : decode b_mo_statistics 193 = .ok (.iload 4, 2) := by decide +kernel
theorem d_mo_statistics_195 : decode b_mo_statistics 195 = .ok (.goto 28, 3) := by decide +kernel
theorem d_mo_statistics_198 : decode b_mo_statistics 198 = .ok (.iload_n 3, 1) := by decide +kernel
theorem d_mo_statistics_199 : decode b_mo_statistics 199 = .ok (.iconst 1, 1) := by decide +kernel
theorem d_mo_statistics_200 : decode b_mo_statistics 200 = .ok (.if_icmp .ne 8, 3) := by decide +kernel
theorem d_mo_statistics_203 : decode b_mo_statistics 203 = .ok (.iload 5, 2) := by decide +kernel
theorem d_mo_statistics_205 : decode b_mo_statistics 205 = .ok (.goto 18, 3) := by decide +kernel
theorem d_mo_statistics_208 : decode b_mo_statistics 208 = .ok (.iload_n 3, 1) := by decide +kernel
theorem d_mo_statistics_209 : decode b_mo_statistics 209 = .ok (.iconst 2, 1) := by decide +kernel
theorem d_mo_statistics_210 : decode b_mo_statistics 210 = .ok (.if_icmp .ne 8, 3) := by decide +kernel
theorem d_mo_statistics_213 : decode b_mo_statistics 213 = .ok (.iload 6, 2) := by decide +kernel
theorem d_mo_statistics_215 : decode b_mo_statistics 215 = .ok (.goto 8, 3) := by decide +kernel
theorem d_mo_statistics_218 : decode b_mo_statistics 218 = .ok (.iload 5, 2) := by decide +kernel
theorem d_mo_statistics_220 : decode b_mo_statistics 220 = .ok (.iload 4, 2) := by decide +kernel
theorem d_mo_statistics_222 : decode b_mo_statistics 222 = .ok (.idiv, 1) := by decide +kernel
theorem d_mo_statistics_223 : decode b_mo_statistics 223 = .ok (.ireturn, 1) := by decide +kernel
theorem d_mo_told_0 : decode b_mo_told 0 = .ok (.aload_n 0, 1) := by decide +kernel
theorem d_mo_told_1 : decode b_mo_told 1 = .ok (.iconst 0, 1) := by decide +kernel
theorem d_mo_told_2 : decode b_mo_told 2 = .ok (.putfield 38, 3) := by decide +kernel
theorem d_mo_told_5 : decode b_mo_told 5 = .ok (.iload_n 1, 1) := by decide +kernel
theorem d_mo_told_6 : decode b_mo_told 6 = .ok (.ifCond .lt 20, 3) := by decide +kernel
theorem d_mo_told_9 : decode b_mo_told 9 = .ok (.iload_n 1, 1) := by decide +kernel
theorem d_mo_told_10 : decode b_mo_told 10 = .ok (.aload_n 0, 1) := by decide +kernel
theorem d_mo_told_11 : decode b_mo_told 11 = .ok (.getfield 89, 3) := by decide +kernel
theorem d_mo_told_14 : decode b_mo_told 14 = .ok (.if_icmp .ge 12, 3) := by decide +kernel
theorem d_mo_told_17 : decode b_mo_told 17 = .ok (.iload_n 2, 1) := by decide +kernel
theorem d_mo_told_18 : decode b_mo_told 18 = .ok (.ifCond .lt 8, 3) := by decide +kernel
theorem d_mo_told_21 : decode b_mo_told 21 = .ok (.iload_n 2, 1) := by decide +kernel
theorem d_mo_told_22 : decode b_mo_told 22 = .ok (.iconst 1, 1) := by decide +kernel
theorem d_mo_told_23 : decode b_mo_told 23 = .ok (.if_icmp .le 7, 3) := by decide +kernel
theorem d_mo_told_26 : decode b_mo_told 26 = .ok (.iconst (-1), 1) := by decide +kernel
theorem d_mo_told_27 : decode b_mo_told 27 = .ok (.goto 13, 3) := by decide +kernel
theorem d_mo_told_30 : decode b_mo_told 30 = .ok (.aload_n 0, 1) := by decide +kernel
theorem d_mo_told_31 : decode b_mo_told 31 = .ok (.getfield 35, 3) := by decide +kernel
theorem d_mo_told_34 : decode b_mo_told 34 = .ok (.iconst 2, 1) := by decide +kernel
theorem d_mo_told_35 : decode b_mo_told 35 = .ok (.iload_n 1, 1) := by decide +kernel
theorem d_mo_told_36 : decode b_mo_told 36 = .ok (.imul, 1) := by decide +kernel
theorem d_mo_told_37 : decode b_mo_told 37 = .ok (.iload_n 2, 1) := by decide +kernel
theorem d_mo_told_38 : decode b_mo_told 38 = .ok (.iadd, 1) := by decide +kernel
theorem d_mo_told_39 : decode b_mo_told 39 = .ok (.iaload, 1) := by decide +kernel
theorem d_mo_told_40 : decode b_mo_told 40 = .ok (.ireturn, 1) := by decide +kernel
