theorem dX0_init_0 : decode cX0_init 0 = .ok (.aload_n 0, 1) := by decide +kernel
theorem dX0_init_1 : decode cX0_init 1 = .ok (.invokespecial 3, 3) := by decide +kernel
theorem dX0_init_4 : decode cX0_init 4 = .ok (.aload_n 0, 1) := by decide +kernel
theorem dX0_init_5 : decode cX0_init 5 = .ok (.iconst 4, 1) := by decide +kernel
theorem dX0_init_6 : decode cX0_init 6 = .ok (.newarray .int, 2) := by decide +kernel
theorem dX0_init_8 : decode cX0_init 8 = .ok (.putfield 9, 3) := by decide +kernel
theorem dX0_init_11 : decode cX0_init 11 = .ok (.aload_n 0, 1) := by decide +kernel
theorem dX0_init_12 : decode cX0_init 12 = .ok (.iconst 4, 1) := by decide +kernel
theorem dX0_init_13 : decode cX0_init 13 = .ok (.newarray .int, 2) := by decide +kernel
theorem dX0_init_15 : decode cX0_init 15 = .ok (.putfield 15, 3) := by decide +kernel
theorem dX0_init_18 : decode cX0_init 18 = .ok (.aload_n 0, 1) := by decide +kernel
theorem dX0_init_19 : decode cX0_init 19 = .ok (.iconst 4, 1) := by decide +kernel
theorem dX0_init_20 : decode cX0_init 20 = .ok (.newarray .int, 2) := by decide +kernel
theorem dX0_init_22 : decode cX0_init 22 = .ok (.putfield 18, 3) := by decide +kernel
theorem dX0_init_25 : decode cX0_init 25 = .ok (.return_, 1) := by decide +kernel
theorem dX0_start_0 : decode cX0_start 0 = .ok (.iconst 0, 1) := by decide +kernel
theorem dX0_start_1 : decode cX0_start 1 = .ok (.istore_n 2, 1) := by decide +kernel
theorem dX0_start_2 : decode cX0_start 2 = .ok (.iload_n 2, 1) := by decide +kernel
theorem dX0_start_3 : decode cX0_start 3 = .ok (.aload_n 1, 1) := by decide +kernel
theorem dX0_start_4 : decode cX0_start 4 = .ok (.getfield 21, 3) := by decide +kernel
theorem dX0_start_7 : decode cX0_start 7 = .ok (.if_icmp .ge 40, 3) := by decide +kernel
theorem dX0_start_10 : decode cX0_start 10 = .ok (.aload_n 0, 1) := by decide +kernel
theorem dX0_start_11 : decode cX0_start 11 = .ok (.getfield 9, 3) := by decide +kernel
theorem dX0_start_14 : decode cX0_start 14 = .ok (.iload_n 2, 1) := by decide +kernel
theorem dX0_start_15 : decode cX0_start 15 = .ok (.aload_n 1, 1) := by decide +kernel
theorem dX0_start_16 : decode cX0_start 16 = .ok (.iload_n 2, 1) := by decide +kernel
theorem dX0_start_17 : decode cX0_start 17 = .ok (.iconst 4, 1) := by decide +kernel
theorem dX0_start_18 : decode cX0_start 18 = .ok (.invokevirtual 27, 3) := by decide +kernel
theorem dX0_start_21 : decode cX0_start 21 = .ok (.iastore, 1) := by decide +kernel
theorem dX0_start_22 : decode cX0_start 22 = .ok (.aload_n 0, 1) := by decide +kernel
theorem dX0_start_23 : decode cX0_start 23 = .ok (.getfield 15, 3) := by decide +kernel
theorem dX0_start_26 : decode cX0_start 26 = .ok (.iload_n 2, 1) := by decide +kernel
theorem dX0_start_27 : decode cX0_start 27 = .ok (.iconst 0, 1) := by decide +kernel
theorem dX0_start_28 : decode cX0_start 28 = .ok (.iastore, 1) := by decide +kernel
theorem dX0_start_29 : decode cX0_start 29 = .ok (.aload_n 0, 1) := by decide +kernel
theorem dX0_start_30 : decode cX0_start 30 = .ok (.getfield 18, 3) := by decide +kernel
theorem dX0_start_33 : decode cX0_start 33 = .ok (.iload_n 2, 1) := by decide +kernel
theorem dX0_start_34 : decode cX0_start 34 = .ok (.aload_n 1, 1) := by decide +kernel
theorem dX0_start_35 : decode cX0_start 35 = .ok (.iload_n 2, 1) := by decide +kernel
theorem dX0_start_36 : decode cX0_start 36 = .ok (.iconst 2, 1) := by decide +kernel
theorem dX0_start_37 : decode cX0_start 37 = .ok (.invokevirtual 27, 3) := by decide +kernel
theorem dX0_start_40 : decode cX0_start 40 = .ok (.iastore, 1) := by decide +kernel
theorem dX0_start_41 : decode cX0_start 41 = .ok (.iinc 2 1, 3) := by decide +kernel
theorem dX0_start_44 : decode cX0_start 44 = .ok (.goto (-42), 3) := by decide +kernel
theorem dX0_start_47 : decode cX0_start 47 = .ok (.return_, 1) := by decide +kernel
theorem dX0_comesFor_0 : decode cX0_comesFor 0 = .ok (.aload_n 1, 1) := by decide +kernel
theorem dX0_comesFor_1 : decode cX0_comesFor 1 = .ok (.iload_n 2, 1) := by decide +kernel
theorem dX0_comesFor_2 : decode cX0_comesFor 2 = .ok (.iconst 1, 1) := by decide +kernel
theorem dX0_comesFor_3 : decode cX0_comesFor 3 = .ok (.invokevirtual 27, 3) := by decide +kernel
theorem dX0_comesFor_6 : decode cX0_comesFor 6 = .ok (.istore 4, 2) := by decide +kernel
theorem dX0_comesFor_8 : decode cX0_comesFor 8 = .ok (.iload 4, 2) := by decide +kernel
theorem dX0_comesFor_10 : decode cX0_comesFor 10 = .ok (.bipush 112, 2) := by decide +kernel
theorem dX0_comesFor_12 : decode cX0_comesFor 12 = .ok (.if_icmp .ne 32, 3) := by decide +kernel
theorem dX0_comesFor_15 : decode cX0_comesFor 15 = .ok (.aload_n 0, 1) := by decide +kernel
theorem dX0_comesFor_16 : decode cX0_comesFor 16 = .ok (.getfield 18, 3) := by decide +kernel
theorem dX0_comesFor_19 : decode cX0_comesFor 19 = .ok (.iload_n 2, 1) := by decide +kernel
theorem dX0_comesFor_20 : decode cX0_comesFor 20 = .ok (.iaload, 1) := by decide +kernel
theorem dX0_comesFor_21 : decode cX0_comesFor 21 = .ok (.ifCond .ne 7, 3) := by decide +kernel
theorem dX0_comesFor_24 : decode cX0_comesFor 24 = .ok (.iconst 1, 1) := by decide +kernel
theorem dX0_comesFor_25 : decode cX0_comesFor 25 = .ok (.goto 4, 3) := by decide +kernel
theorem dX0_comesFor_28 : decode cX0_comesFor 28 = .ok (.iconst 0, 1) := by decide +kernel
theorem dX0_comesFor_29 : decode cX0_comesFor 29 = .ok (.istore 5, 2) := by decide +kernel
theorem dX0_comesFor_31 : decode cX0_comesFor 31 = .ok (.aload_n 0, 1) := by decide +kernel
theorem dX0_comesFor_32 : decode cX0_comesFor 32 = .ok (.getfield 18, 3) := by decide +kernel
theorem dX0_comesFor_35 : decode cX0_comesFor 35 = .ok (.iload_n 2, 1) := by decide +kernel
theorem dX0_comesFor_36 : decode cX0_comesFor 36 = .ok (.dup2, 1) := by decide +kernel
theorem dX0_comesFor_37 : decode cX0_comesFor 37 = .ok (.iaload, 1) := by decide +kernel
theorem dX0_comesFor_38 : decode cX0_comesFor 38 = .ok (.iconst 1, 1) := by decide +kernel
theorem dX0_comesFor_39 : decode cX0_comesFor 39 = .ok (.isub, 1) := by decide +kernel
theorem dX0_comesFor_40 : decode cX0_comesFor 40 = .ok (.iastore, 1) := by decide +kernel
theorem dX0_comesFor_41 : decode cX0_comesFor 41 = .ok (.iload 5, 2) := by decide +kernel
theorem dX0_comesFor_43 : decode cX0_comesFor 43 = .ok (.ireturn, 1) := by decide +kernel
theorem dX0_comesFor_44 : decode cX0_comesFor 44 = .ok (.iload 4, 2) := by decide +kernel
theorem dX0_comesFor_46 : decode cX0_comesFor 46 = .ok (.bipush 98, 2) := by decide +kernel
theorem dX0_comesFor_48 : decode cX0_comesFor 48 = .ok (.if_icmp .eq 18, 3) := by decide +kernel
theorem dX0_comesFor_51 : decode cX0_comesFor 51 = .ok (.aload_n 1, 1) := by decide +kernel
theorem dX0_comesFor_52 : decode cX0_comesFor 52 = .ok (.iload_n 2, 1) := by decide +kernel
theorem dX0_comesFor_53 : decode cX0_comesFor 53 = .ok (.iconst 2, 1) := by decide +kernel
theorem dX0_comesFor_54 : decode cX0_comesFor 54 = .ok (.invokevirtual 27, 3) := by decide +kernel
theorem dX0_comesFor_57 : decode cX0_comesFor 57 = .ok (.aload_n 1, 1) := by decide +kernel
theorem dX0_comesFor_58 : decode cX0_comesFor 58 = .ok (.iload_n 3, 1) := by decide +kernel
theorem dX0_comesFor_59 : decode cX0_comesFor 59 = .ok (.iconst 0, 1) := by decide +kernel
theorem dX0_comesFor_60 : decode cX0_comesFor 60 = .ok (.invokevirtual 31, 3) := by decide +kernel
theorem dX0_comesFor_63 : decode cX0_comesFor 63 = .ok (.if_icmp .ne 7, 3) := by decide +kernel
theorem dX0_comesFor_66 : decode cX0_comesFor 66 = .ok (.iconst 1, 1) := by decide +kernel
theorem dX0_comesFor_67 : decode cX0_comesFor 67 = .ok (.goto 4, 3) := by decide +kernel
theorem dX0_comesFor_70 : decode cX0_comesFor 70 = .ok (.iconst 0, 1) := by decide +kernel
theorem dX0_comesFor_71 : decode cX0_comesFor 71 = .ok (.ireturn, 1) := by decide +kernel
theorem dX0_obey_0 : decode cX0_obey 0 = .ok (.aload_n 1, 1) := by decide +kernel
theorem dX0_obey_1 : decode cX0_obey 1 = .ok (.iload_n 2, 1) := by decide +kernel
theorem dX0_obey_2 : decode cX0_obey 2 = .ok (.iconst 0, 1) := by decide +kernel
theorem dX0_obey_3 : decode cX0_obey 3 = .ok (.invokevirtual 27, 3) := by decide +kernel
theorem dX0_obey_6 : decode cX0_obey 6 = .ok (.istore 4, 2) := by decide +kernel
theorem dX0_obey_8 : decode cX0_obey 8 = .ok (.iconst 1, 1) := by decide +kernel
theorem dX0_obey_9 : decode cX0_obey 9 = .ok (.aload_n 1, 1) := by decide +kernel
theorem dX0_obey_10 : decode cX0_obey 10 = .ok (.iload_n 2, 1) := by decide +kernel
theorem dX0_obey_11 : decode cX0_obey 11 = .ok (.iconst 3, 1) := by decide +kernel
theorem dX0_obey_12 : decode cX0_obey 12 = .ok (.invokevirtual 27, 3) := by decide +kernel
theorem dX0_obey_15 : decode cX0_obey 15 = .ok (.iadd, 1) := by decide +kernel
theorem dX0_obey_16 : decode cX0_obey 16 = .ok (.istore 5, 2) := by decide +kernel
theorem dX0_obey_18 : decode cX0_obey 18 = .ok (.aload_n 1, 1) := by decide +kernel
theorem dX0_obey_19 : decode cX0_obey 19 = .ok (.iload_n 3, 1) := by decide +kernel
theorem dX0_obey_20 : decode cX0_obey 20 = .ok (.iload 5, 2) := by decide +kernel
theorem dX0_obey_22 : decode cX0_obey 22 = .ok (.invokevirtual 31, 3) := by decide +kernel
theorem dX0_obey_25 : decode cX0_obey 25 = .ok (.istore 6, 2) := by decide +kernel
theorem dX0_obey_27 : decode cX0_obey 27 = .ok (.aload_n 1, 1) := by decide +kernel
theorem dX0_obey_28 : decode cX0_obey 28 = .ok (.iload_n 3, 1) := by decide +kernel
theorem dX0_obey_29 : decode cX0_obey 29 = .ok (.invokevirtual 34, 3) := by decide +kernel
theorem dX0_obey_32 : decode cX0_obey 32 = .ok (.istore 7, 2) := by decide +kernel
theorem dX0_obey_34 : decode cX0_obey 34 = .ok (.iload 4, 2) := by decide +kernel
theorem dX0_obey_36 : decode cX0_obey 36 = .ok (.bipush 114, 2) := by decide +kernel
theorem dX0_obey_38 : decode cX0_obey 38 = .ok (.if_icmp .ne 45, 3) := by decide +kernel
theorem dX0_obey_41 : decode cX0_obey 41 = .ok (.aload_n 0, 1) := by decide +kernel
theorem dX0_obey_42 : decode cX0_obey 42 = .ok (.getfield 9, 3) := by decide +kernel
theorem dX0_obey_45 : decode cX0_obey 45 = .ok (.iload_n 2, 1) := by decide +kernel
theorem dX0_obey_46 : decode cX0_obey 46 = .ok (.aload_n 1, 1) := by decide +kernel
theorem dX0_obey_47 : decode cX0_obey 47 = .ok (.iload_n 2, 1) := by decide +kernel
theorem dX0_obey_48 : decode cX0_obey 48 = .ok (.iconst 1, 1) := by decide +kernel
theorem dX0_obey_49 : decode cX0_obey 49 = .ok (.invokevirtual 27, 3) := by decide +kernel
theorem dX0_obey_52 : decode cX0_obey 52 = .ok (.bipush 98, 2) := by decide +kernel
theorem dX0_obey_54 : decode cX0_obey 54 = .ok (.if_icmp .ne 15, 3) := by decide +kernel
theorem dX0_obey_57 : decode cX0_obey 57 = .ok (.aload_n 0, 1) := by decide +kernel
theorem dX0_obey_58 : decode cX0_obey 58 = .ok (.getfield 9, 3) := by decide +kernel
theorem dX0_obey_61 : decode cX0_obey 61 = .ok (.iload_n 2, 1) := by decide +kernel
theorem dX0_obey_62 : decode cX0_obey 62 = .ok (.iaload, 1) := by decide +kernel
theorem dX0_obey_63 : decode cX0_obey 63 = .ok (.iload 6, 2) := by decide +kernel
theorem dX0_obey_65 : decode cX0_obey 65 = .ok (.ior, 1) := by decide +kernel
theorem dX0_obey_66 : decode cX0_obey 66 = .ok (.goto 5, 3) := by decide +kernel
theorem dX0_obey_69 : decode cX0_obey 69 = .ok (.iload 6, 2) := by decide +kernel
theorem dX0_obey_71 : decode cX0_obey 71 = .ok (.iastore, 1) := by decide +kernel
theorem dX0_obey_72 : decode cX0_obey 72 = .ok (.aload_n 0, 1) := by decide +kernel
theorem dX0_obey_73 : decode cX0_obey 73 = .ok (.getfield 15, 3) := by decide +kernel
theorem dX0_obey_76 : decode cX0_obey 76 = .ok (.iload_n 2, 1) := by decide +kernel
theorem dX0_obey_77 : decode cX0_obey 77 = .ok (.dup2, 1) := by decide +kernel
theorem dX0_obey_78 : decode cX0_obey 78 = .ok (.iaload, 1) := by decide +kernel
theorem dX0_obey_79 : decode cX0_obey 79 = .ok (.iconst 1, 1) := by decide +kernel
theorem dX0_obey_80 : decode cX0_obey 80 = .ok (.iadd, 1) := by decide +kernel
theorem dX0_obey_81 : decode cX0_obey 81 = .ok (.iastore, 1) := by decide +kernel
theorem dX0_obey_82 : decode cX0_obey 82 = .ok (.return_, 1) := by decide +kernel
theorem dX0_obey_83 : decode cX0_obey 83 = .ok (.iload 7, 2) := by decide +kernel
theorem dX0_obey_85 : decode cX0_obey 85 = .ok (.ifCond .ne 16, 3) := by decide +kernel
theorem dX0_obey_88 : decode cX0_obey 88 = .ok (.aload_n 1, 1) := by decide +kernel
theorem dX0_obey_89 : decode cX0_obey 89 = .ok (.iload_n 3, 1) := by decide +kernel
theorem dX0_obey_90 : decode cX0_obey 90 = .ok (.iload 5, 2) := by decide +kernel
theorem dX0_obey_92 : decode cX0_obey 92 = .ok (.aload_n 0, 1) := by decide +kernel
theorem dX0_obey_93 : decode cX0_obey 93 = .ok (.getfield 9, 3) := by decide +kernel
theorem dX0_obey_96 : decode cX0_obey 96 = .ok (.iload_n 2, 1) := by decide +kernel
theorem dX0_obey_97 : decode cX0_obey 97 = .ok (.iaload, 1) := by decide +kernel
theorem dX0_obey_98 : decode cX0_obey 98 = .ok (.invokevirtual 38, 3) := by decide +kernel
theorem dX0_obey_101 : decode cX0_obey 101 = .ok (.iload 4, 2) := by decide +kernel
theorem dX0_obey_103 : decode cX0_obey 103 = .ok (.bipush 120, 2) := by decide +kernel
theorem dX0_obey_105 : decode cX0_obey 105 = .ok (.if_icmp .ne 33, 3) := by decide +kernel
theorem dX0_obey_108 : decode cX0_obey 108 = .ok (.aload_n 0, 1) := by decide +kernel
theorem dX0_obey_109 : decode cX0_obey 109 = .ok (.getfield 9, 3) := by decide +kernel
theorem dX0_obey_112 : decode cX0_obey 112 = .ok (.iload_n 2, 1) := by decide +kernel
theorem dX0_obey_113 : decode cX0_obey 113 = .ok (.iload 6, 2) := by decide +kernel
theorem dX0_obey_115 : decode cX0_obey 115 = .ok (.iastore, 1) := by decide +kernel
theorem dX0_obey_116 : decode cX0_obey 116 = .ok (.aload_n 0, 1) := by decide +kernel
theorem dX0_obey_117 : decode cX0_obey 117 = .ok (.getfield 15, 3) := by decide +kernel
theorem dX0_obey_120 : decode cX0_obey 120 = .ok (.iload_n 2, 1) := by decide +kernel
theorem dX0_obey_121 : decode cX0_obey 121 = .ok (.dup2, 1) := by decide +kernel
theorem dX0_obey_122 : decode cX0_obey 122 = .ok (.iaload, 1) := by decide +kernel
theorem dX0_obey_123 : decode cX0_obey 123 = .ok (.iload 7, 2) := by decide +kernel
theorem dX0_obey_125 : decode cX0_obey 125 = .ok (.ifCond .eq 7, 3) := by decide +kernel
theorem dX0_obey_128 : decode cX0_obey 128 = .ok (.iconst 1, 1) := by decide +kernel
theorem dX0_obey_129 : decode cX0_obey 129 = .ok (.goto 4, 3) := by decide +kernel
theorem dX0_obey_132 : decode cX0_obey 132 = .ok (.iconst 3, 1) := by decide +kernel
theorem dX0_obey_133 : decode cX0_obey 133 = .ok (.iadd, 1) := by decide +kernel
theorem dX0_obey_134 : decode cX0_obey 134 = .ok (.iastore, 1) := by decide +kernel
theorem dX0_obey_135 : decode cX0_obey 135 = .ok (.goto 18, 3) := by decide +kernel
theorem dX0_obey_138 : decode cX0_obey 138 = .ok (.iload 7, 2) := by decide +kernel
theorem dX0_obey_140 : decode cX0_obey 140 = .ok (.ifCond .ne 13, 3) := by decide +kernel
theorem dX0_obey_143 : decode cX0_obey 143 = .ok (.aload_n 0, 1) := by decide +kernel
theorem dX0_obey_144 : decode cX0_obey 144 = .ok (.getfield 15, 3) := by decide +kernel
theorem dX0_obey_147 : decode cX0_obey 147 = .ok (.iload_n 2, 1) := by decide +kernel
theorem dX0_obey_148 : decode cX0_obey 148 = .ok (.dup2, 1) := by decide +kernel
theorem dX0_obey_149 : decode cX0_obey 149 = .ok (.iaload, 1) := by decide +kernel
theorem dX0_obey_150 : decode cX0_obey 150 = .ok (.iconst 1, 1) := by decide +kernel
theorem dX0_obey_151 : decode cX0_obey 151 = .ok (.iadd, 1) := by decide +kernel
theorem dX0_obey_152 : decode cX0_obey 152 = .ok (.iastore, 1) := by decide +kernel
theorem dX0_obey_153 : decode cX0_obey 153 = .ok (.return_, 1) := by decide +kernel
theorem dX1_init_0 : decode cX1_init 0 = .ok (.aload_n 0, 1) := by decide +kernel
theorem dX1_init_1 : decode cX1_init 1 = .ok (.invokespecial 3, 3) := by decide +kernel
theorem dX1_init_4 : decode cX1_init 4 = .ok (.aload_n 0, 1) := by decide +kernel
theorem dX1_init_5 : decode cX1_init 5 = .ok (.bipush 6, 2) := by decide +kernel
theorem dX1_init_7 : decode cX1_init 7 = .ok (.anewarray 9, 3) := by decide +kernel
theorem dX1_init_10 : decode cX1_init 10 = .ok (.putfield 11, 3) := by decide +kernel
theorem dX1_init_13 : decode cX1_init 13 = .ok (.iconst 0, 1) := by decide +kernel
theorem dX1_init_14 : decode cX1_init 14 = .ok (.istore_n 1, 1) := by decide +kernel
theorem dX1_init_15 : decode cX1_init 15 = .ok (.iload_n 1, 1) := by decide +kernel
theorem dX1_init_16 : decode cX1_init 16 = .ok (.bipush 6, 2) := by decide +kernel
theorem dX1_init_18 : decode cX1_init 18 = .ok (.if_icmp .ge 22, 3) := by decide +kernel
theorem dX1_init_21 : decode cX1_init 21 = .ok (.aload_n 0, 1) := by decide +kernel
theorem dX1_init_22 : decode cX1_init 22 = .ok (.getfield 11, 3) := by decide +kernel
theorem dX1_init_25 : decode cX1_init 25 = .ok (.iload_n 1, 1) := by decide +kernel
theorem dX1_init_26 : decode cX1_init 26 = .ok (.new 9, 3) := by decide +kernel
theorem dX1_init_29 : decode cX1_init 29 = .ok (.dup, 1) := by decide +kernel
theorem dX1_init_30 : decode cX1_init 30 = .ok (.invokespecial 17, 3) := by decide +kernel
theorem dX1_init_33 : decode cX1_init 33 = .ok (.aastore, 1) := by decide +kernel
theorem dX1_init_34 : decode cX1_init 34 = .ok (.iinc 1 1, 3) := by decide +kernel
theorem dX1_init_37 : decode cX1_init 37 = .ok (.goto (-22), 3) := by decide +kernel
theorem dX1_init_40 : decode cX1_init 40 = .ok (.return_, 1) := by decide +kernel
theorem dX1_push_0 : decode cX1_push 0 = .ok (.aload_n 0, 1) := by decide +kernel
theorem dX1_push_1 : decode cX1_push 1 = .ok (.getfield 11, 3) := by decide +kernel
theorem dX1_push_4 : decode cX1_push 4 = .ok (.aload_n 0, 1) := by decide +kernel
theorem dX1_push_5 : decode cX1_push 5 = .ok (.getfield 18, 3) := by decide +kernel
theorem dX1_push_8 : decode cX1_push 8 = .ok (.aaload, 1) := by decide +kernel
theorem dX1_push_9 : decode cX1_push 9 = .ok (.aload_n 1, 1) := by decide +kernel
theorem dX1_push_10 : decode cX1_push 10 = .ok (.invokevirtual 22, 3) := by decide +kernel
theorem dX1_push_13 : decode cX1_push 13 = .ok (.aload_n 0, 1) := by decide +kernel
theorem dX1_push_14 : decode cX1_push 14 = .ok (.aload_n 0, 1) := by decide +kernel
theorem dX1_push_15 : decode cX1_push 15 = .ok (.getfield 18, 3) := by decide +kernel
theorem dX1_push_18 : decode cX1_push 18 = .ok (.iconst 1, 1) := by decide +kernel
theorem dX1_push_19 : decode cX1_push 19 = .ok (.iadd, 1) := by decide +kernel
theorem dX1_push_20 : decode cX1_push 20 = .ok (.bipush 6, 2) := by decide +kernel
theorem dX1_push_22 : decode cX1_push 22 = .ok (.if_icmp .ge 12, 3) := by decide +kernel
theorem dX1_push_25 : decode cX1_push 25 = .ok (.aload_n 0, 1) := by decide +kernel
theorem dX1_push_26 : decode cX1_push 26 = .ok (.getfield 18, 3) := by decide +kernel
theorem dX1_push_29 : decode cX1_push 29 = .ok (.iconst 1, 1) := by decide +kernel
theorem dX1_push_30 : decode cX1_push 30 = .ok (.iadd, 1) := by decide +kernel
theorem dX1_push_31 : decode cX1_push 31 = .ok (.goto 4, 3) := by decide +kernel
theorem dX1_push_34 : decode cX1_push 34 = .ok (.iconst 0, 1) := by decide +kernel
theorem dX1_push_35 : decode cX1_push 35 = .ok (.putfield 18, 3) := by decide +kernel
theorem dX1_push_38 : decode cX1_push 38 = .ok (.aload_n 0, 1) := by decide +kernel
theorem dX1_push_39 : decode cX1_push 39 = .ok (.aload_n 0, 1) := by decide +kernel
theorem dX1_push_40 : decode cX1_push 40 = .ok (.getfield 26, 3) := by decide +kernel
theorem dX1_push_43 : decode cX1_push 43 = .ok (.iconst 1, 1) := by decide +kernel
theorem dX1_push_44 : decode cX1_push 44 = .ok (.iadd, 1) := by decide +kernel
theorem dX1_push_45 : decode cX1_push 45 = .ok (.bipush 6, 2) := by decide +kernel
theorem dX1_push_47 : decode cX1_push 47 = .ok (.invokestatic 29, 3) := by decide +kernel
theorem dX1_push_50 : decode cX1_push 50 = .ok (.putfield 26, 3) := by decide +kernel
theorem dX1_push_53 : decode cX1_push 53 = .ok (.return_, 1) := by decide +kernel
theorem dX1_pop_0 : decode cX1_pop 0 = .ok (.aload_n 0, 1) := by decide +kernel
theorem dX1_pop_1 : decode cX1_pop 1 = .ok (.getfield 26, 3) := by decide +kernel
theorem dX1_pop_4 : decode cX1_pop 4 = .ok (.ifCond .le 47, 3) := by decide +kernel
theorem dX1_pop_7 : decode cX1_pop 7 = .ok (.aload_n 0, 1) := by decide +kernel
theorem dX1_pop_8 : decode cX1_pop 8 = .ok (.aload_n 0, 1) := by decide +kernel
theorem dX1_pop_9 : decode cX1_pop 9 = .ok (.getfield 18, 3) := by decide +kernel
theorem dX1_pop_12 : decode cX1_pop 12 = .ok (.ifCond .le 12, 3) := by decide +kernel
theorem dX1_pop_15 : decode cX1_pop 15 = .ok (.aload_n 0, 1) := by decide +kernel
theorem dX1_pop_16 : decode cX1_pop 16 = .ok (.getfield 18, 3) := by decide +kernel
theorem dX1_pop_19 : decode cX1_pop 19 = .ok (.iconst 1, 1) := by decide +kernel
theorem dX1_pop_20 : decode cX1_pop 20 = .ok (.isub, 1) := by decide +kernel
theorem dX1_pop_21 : decode cX1_pop 21 = .ok (.goto 4, 3) := by decide +kernel
theorem dX1_pop_24 : decode cX1_pop 24 = .ok (.iconst 5, 1) := by decide +kernel
theorem dX1_pop_25 : decode cX1_pop 25 = .ok (.putfield 18, 3) := by decide +kernel
theorem dX1_pop_28 : decode cX1_pop 28 = .ok (.aload_n 0, 1) := by decide +kernel
theorem dX1_pop_29 : decode cX1_pop 29 = .ok (.dup, 1) := by decide +kernel
theorem dX1_pop_30 : decode cX1_pop 30 = .ok (.getfield 26, 3) := by decide +kernel
theorem dX1_pop_33 : decode cX1_pop 33 = .ok (.iconst 1, 1) := by decide +kernel
theorem dX1_pop_34 : decode cX1_pop 34 = .ok (.isub, 1) := by decide +kernel
theorem dX1_pop_35 : decode cX1_pop 35 = .ok (.putfield 26, 3) := by decide +kernel
theorem dX1_pop_38 : decode cX1_pop 38 = .ok (.aload_n 1, 1) := by decide +kernel
theorem dX1_pop_39 : decode cX1_pop 39 = .ok (.aload_n 0, 1) := by decide +kernel
theorem dX1_pop_40 : decode cX1_pop 40 = .ok (.getfield 11, 3) := by decide +kernel
theorem dX1_pop_43 : decode cX1_pop 43 = .ok (.aload_n 0, 1) := by decide +kernel
theorem dX1_pop_44 : decode cX1_pop 44 = .ok (.getfield 18, 3) := by decide +kernel
theorem dX1_pop_47 : decode cX1_pop 47 = .ok (.aaload, 1) := by decide +kernel
theorem dX1_pop_48 : decode cX1_pop 48 = .ok (.invokevirtual 22, 3) := by decide +kernel
theorem dX1_pop_51 : decode cX1_pop 51 = .ok (.return_, 1) := by decide +kernel
theorem dX2_init_0 : decode cX2_init 0 = .ok (.aload_n 0, 1) := by decide +kernel
theorem dX2_init_1 : decode cX2_init 1 = .ok (.invokespecial 3, 3) := by decide +kernel
theorem dX2_init_4 : decode cX2_init 4 = .ok (.aload_n 0, 1) := by decide +kernel
theorem dX2_init_5 : decode cX2_init 5 = .ok (.aload_n 1, 1) := by decide +kernel
theorem dX2_init_6 : decode cX2_init 6 = .ok (.putfield 9, 3) := by decide +kernel
theorem dX2_init_9 : decode cX2_init 9 = .ok (.return_, 1) := by decide +kernel
theorem dX2_readsWire_0 : decode cX2_readsWire 0 = .ok (.aload_n 1, 1) := by decide +kernel
theorem dX2_readsWire_1 : decode cX2_readsWire 1 = .ok (.invokevirtual 15, 3) := by decide +kernel
theorem dX2_readsWire_4 : decode cX2_readsWire 4 = .ok (.aload_n 0, 1) := by decide +kernel
theorem dX2_readsWire_5 : decode cX2_readsWire 5 = .ok (.iconst 0, 1) := by decide +kernel
theorem dX2_readsWire_6 : decode cX2_readsWire 6 = .ok (.putfield 20, 3) := by decide +kernel
theorem dX2_readsWire_9 : decode cX2_readsWire 9 = .ok (.aload_n 0, 1) := by decide +kernel
theorem dX2_readsWire_10 : decode cX2_readsWire 10 = .ok (.getfield 9, 3) := by decide +kernel
theorem dX2_readsWire_13 : decode cX2_readsWire 13 = .ok (.invokevirtual 24, 3) := by decide +kernel
theorem dX2_readsWire_16 : decode cX2_readsWire 16 = .ok (.iconst 0, 1) := by decide +kernel
theorem dX2_readsWire_17 : decode cX2_readsWire 17 = .ok (.istore_n 2, 1) := by decide +kernel
theorem dX2_readsWire_18 : decode cX2_readsWire 18 = .ok (.iload_n 2, 1) := by decide +kernel
theorem dX2_readsWire_19 : decode cX2_readsWire 19 = .ok (.bipush 120, 2) := by decide +kernel
theorem dX2_readsWire_21 : decode cX2_readsWire 21 = .ok (.if_icmp .ge 32, 3) := by decide +kernel
theorem dX2_readsWire_24 : decode cX2_readsWire 24 = .ok (.aload_n 0, 1) := by decide +kernel
theorem dX2_readsWire_25 : decode cX2_readsWire 25 = .ok (.getfield 9, 3) := by decide +kernel
theorem dX2_readsWire_28 : decode cX2_readsWire 28 = .ok (.getfield 29, 3) := by decide +kernel
theorem dX2_readsWire_31 : decode cX2_readsWire 31 = .ok (.sipush 257, 3) := by decide +kernel
theorem dX2_readsWire_34 : decode cX2_readsWire 34 = .ok (.if_icmp .eq 19, 3) := by decide +kernel
theorem dX2_readsWire_37 : decode cX2_readsWire 37 = .ok (.aload_n 0, 1) := by decide +kernel
theorem dX2_readsWire_38 : decode cX2_readsWire 38 = .ok (.aload_n 1, 1) := by decide +kernel
theorem dX2_readsWire_39 : decode cX2_readsWire 39 = .ok (.invokevirtual 33, 3) := by decide +kernel
theorem dX2_readsWire_42 : decode cX2_readsWire 42 = .ok (.ifCond .ne 5, 3) := by decide +kernel
theorem dX2_readsWire_45 : decode cX2_readsWire 45 = .ok (.iconst 0, 1) := by decide +kernel
theorem dX2_readsWire_46 : decode cX2_readsWire 46 = .ok (.ireturn, 1) := by decide +kernel
theorem dX2_readsWire_47 : decode cX2_readsWire 47 = .ok (.iinc 2 1, 3) := by decide +kernel
theorem dX2_readsWire_50 : decode cX2_readsWire 50 = .ok (.goto (-32), 3) := by decide +kernel
theorem dX2_readsWire_53 : decode cX2_readsWire 53 = .ok (.aload_n 1, 1) := by decide +kernel
theorem dX2_readsWire_54 : decode cX2_readsWire 54 = .ok (.getfield 37, 3) := by decide +kernel
theorem dX2_readsWire_57 : decode cX2_readsWire 57 = .ok (.ifCond .le 7, 3) := by decide +kernel
theorem dX2_readsWire_60 : decode cX2_readsWire 60 = .ok (.iconst 1, 1) := by decide +kernel
theorem dX2_readsWire_61 : decode cX2_readsWire 61 = .ok (.goto 4, 3) := by decide +kernel
theorem dX2_readsWire_64 : decode cX2_readsWire 64 = .ok (.iconst 0, 1) := by decide +kernel
theorem dX2_readsWire_65 : decode cX2_readsWire 65 = .ok (.ireturn, 1) := by decide +kernel
theorem dX2_readsItem_0 : decode cX2_readsItem 0 = .ok (.aload_n 0, 1) := by decide +kernel
theorem dX2_readsItem_1 : decode cX2_readsItem 1 = .ok (.getfield 9, 3) := by decide +kernel
theorem dX2_readsItem_4 : decode cX2_readsItem 4 = .ok (.getfield 29, 3) := by decide +kernel
theorem dX2_readsItem_7 : decode cX2_readsItem 7 = .ok (.lookupswitch 51 #[(100, 33), (109, 45), (122, 39)], 33) := by decide +kernel
theorem dX2_readsItem_40 : decode cX2_readsItem 40 = .ok (.aload_n 0, 1) := by decide +kernel
theorem dX2_readsItem_41 : decode cX2_readsItem 41 = .ok (.aload_n 1, 1) := by decide +kernel
theorem dX2_readsItem_42 : decode cX2_readsItem 42 = .ok (.invokevirtual 40, 3) := by decide +kernel
theorem dX2_readsItem_45 : decode cX2_readsItem 45 = .ok (.ireturn, 1) := by decide +kernel
theorem dX2_readsItem_46 : decode cX2_readsItem 46 = .ok (.aload_n 0, 1) := by decide +kernel
theorem dX2_readsItem_47 : decode cX2_readsItem 47 = .ok (.aload_n 1, 1) := by decide +kernel
theorem dX2_readsItem_48 : decode cX2_readsItem 48 = .ok (.invokevirtual 43, 3) := by decide +kernel
theorem dX2_readsItem_51 : decode cX2_readsItem 51 = .ok (.ireturn, 1) := by decide +kernel
theorem dX2_readsItem_52 : decode cX2_readsItem 52 = .ok (.aload_n 0, 1) := by decide +kernel
theorem dX2_readsItem_53 : decode cX2_readsItem 53 = .ok (.aload_n 1, 1) := by decide +kernel
theorem dX2_readsItem_54 : decode cX2_readsItem 54 = .ok (.invokevirtual 46, 3) := by decide +kernel
theorem dX2_readsItem_57 : decode cX2_readsItem 57 = .ok (.ireturn, 1) := by decide +kernel
theorem dX2_readsItem_58 : decode cX2_readsItem 58 = .ok (.iconst 0, 1) := by decide +kernel
theorem dX2_readsItem_59 : decode cX2_readsItem 59 = .ok (.ireturn, 1) := by decide +kernel
theorem dX2_readsDrive_0 : decode cX2_readsDrive 0 = .ok (.aload_n 1, 1) := by decide +kernel
theorem dX2_readsDrive_1 : decode cX2_readsDrive 1 = .ok (.invokevirtual 49, 3) := by decide +kernel
theorem dX2_readsDrive_4 : decode cX2_readsDrive 4 = .ok (.ifCond .ne 5, 3) := by decide +kernel
theorem dX2_readsDrive_7 : decode cX2_readsDrive 7 = .ok (.iconst 0, 1) := by decide +kernel
theorem dX2_readsDrive_8 : decode cX2_readsDrive 8 = .ok (.ireturn, 1) := by decide +kernel
theorem dX2_readsDrive_9 : decode cX2_readsDrive 9 = .ok (.aload_n 0, 1) := by decide +kernel
theorem dX2_readsDrive_10 : decode cX2_readsDrive 10 = .ok (.getfield 9, 3) := by decide +kernel
theorem dX2_readsDrive_13 : decode cX2_readsDrive 13 = .ok (.invokevirtual 53, 3) := by decide +kernel
theorem dX2_readsDrive_16 : decode cX2_readsDrive 16 = .ok (.aload_n 0, 1) := by decide +kernel
theorem dX2_readsDrive_17 : decode cX2_readsDrive 17 = .ok (.iconst 1, 1) := by decide +kernel
theorem dX2_readsDrive_18 : decode cX2_readsDrive 18 = .ok (.bipush 9, 2) := by decide +kernel
theorem dX2_readsDrive_20 : decode cX2_readsDrive 20 = .ok (.invokevirtual 56, 3) := by decide +kernel
theorem dX2_readsDrive_23 : decode cX2_readsDrive 23 = .ok (.istore_n 2, 1) := by decide +kernel
theorem dX2_readsDrive_24 : decode cX2_readsDrive 24 = .ok (.iload_n 2, 1) := by decide +kernel
theorem dX2_readsDrive_25 : decode cX2_readsDrive 25 = .ok (.iconst (-1), 1) := by decide +kernel
theorem dX2_readsDrive_26 : decode cX2_readsDrive 26 = .ok (.if_icmp .ne 5, 3) := by decide +kernel
theorem dX2_readsDrive_29 : decode cX2_readsDrive 29 = .ok (.iconst 0, 1) := by decide +kernel
theorem dX2_readsDrive_30 : decode cX2_readsDrive 30 = .ok (.ireturn, 1) := by decide +kernel
theorem dX2_readsDrive_31 : decode cX2_readsDrive 31 = .ok (.aload_n 0, 1) := by decide +kernel
theorem dX2_readsDrive_32 : decode cX2_readsDrive 32 = .ok (.iconst 0, 1) := by decide +kernel
theorem dX2_readsDrive_33 : decode cX2_readsDrive 33 = .ok (.bipush 15, 2) := by decide +kernel
theorem dX2_readsDrive_35 : decode cX2_readsDrive 35 = .ok (.invokevirtual 56, 3) := by decide +kernel
theorem dX2_readsDrive_38 : decode cX2_readsDrive 38 = .ok (.istore_n 3, 1) := by decide +kernel
theorem dX2_readsDrive_39 : decode cX2_readsDrive 39 = .ok (.iload_n 3, 1) := by decide +kernel
theorem dX2_readsDrive_40 : decode cX2_readsDrive 40 = .ok (.iconst (-1), 1) := by decide +kernel
theorem dX2_readsDrive_41 : decode cX2_readsDrive 41 = .ok (.if_icmp .eq 10, 3) := by decide +kernel
theorem dX2_readsDrive_44 : decode cX2_readsDrive 44 = .ok (.aload_n 0, 1) := by decide +kernel
theorem dX2_readsDrive_45 : decode cX2_readsDrive 45 = .ok (.invokevirtual 60, 3) := by decide +kernel
theorem dX2_readsDrive_48 : decode cX2_readsDrive 48 = .ok (.ifCond .ne 5, 3) := by decide +kernel
theorem dX2_readsDrive_51 : decode cX2_readsDrive 51 = .ok (.iconst 0, 1) := by decide +kernel
theorem dX2_readsDrive_52 : decode cX2_readsDrive 52 = .ok (.ireturn, 1) := by decide +kernel
theorem dX2_readsDrive_53 : decode cX2_readsDrive 53 = .ok (.aload_n 1, 1) := by decide +kernel
theorem dX2_readsDrive_54 : decode cX2_readsDrive 54 = .ok (.iload_n 2, 1) := by decide +kernel
theorem dX2_readsDrive_55 : decode cX2_readsDrive 55 = .ok (.iload_n 3, 1) := by decide +kernel
theorem dX2_readsDrive_56 : decode cX2_readsDrive 56 = .ok (.invokevirtual 63, 3) := by decide +kernel
theorem dX2_readsDrive_59 : decode cX2_readsDrive 59 = .ok (.iconst 1, 1) := by decide +kernel
theorem dX2_readsDrive_60 : decode cX2_readsDrive 60 = .ok (.ireturn, 1) := by decide +kernel
theorem dX2_readsClosing_0 : decode cX2_readsClosing 0 = .ok (.aload_n 1, 1) := by decide +kernel
theorem dX2_readsClosing_1 : decode cX2_readsClosing 1 = .ok (.invokevirtual 67, 3) := by decide +kernel
theorem dX2_readsClosing_4 : decode cX2_readsClosing 4 = .ok (.ifCond .ne 5, 3) := by decide +kernel
theorem dX2_readsClosing_7 : decode cX2_readsClosing 7 = .ok (.iconst 0, 1) := by decide +kernel
theorem dX2_readsClosing_8 : decode cX2_readsClosing 8 = .ok (.ireturn, 1) := by decide +kernel
theorem dX2_readsClosing_9 : decode cX2_readsClosing 9 = .ok (.aload_n 0, 1) := by decide +kernel
theorem dX2_readsClosing_10 : decode cX2_readsClosing 10 = .ok (.getfield 9, 3) := by decide +kernel
theorem dX2_readsClosing_13 : decode cX2_readsClosing 13 = .ok (.invokevirtual 53, 3) := by decide +kernel
theorem dX2_readsClosing_16 : decode cX2_readsClosing 16 = .ok (.aload_n 0, 1) := by decide +kernel
theorem dX2_readsClosing_17 : decode cX2_readsClosing 17 = .ok (.iconst 1, 1) := by decide +kernel
theorem dX2_readsClosing_18 : decode cX2_readsClosing 18 = .ok (.bipush 9, 2) := by decide +kernel
theorem dX2_readsClosing_20 : decode cX2_readsClosing 20 = .ok (.invokevirtual 56, 3) := by decide +kernel
theorem dX2_readsClosing_23 : decode cX2_readsClosing 23 = .ok (.istore_n 2, 1) := by decide +kernel
theorem dX2_readsClosing_24 : decode cX2_readsClosing 24 = .ok (.iload_n 2, 1) := by decide +kernel
theorem dX2_readsClosing_25 : decode cX2_readsClosing 25 = .ok (.iconst (-1), 1) := by decide +kernel
theorem dX2_readsClosing_26 : decode cX2_readsClosing 26 = .ok (.if_icmp .eq 10, 3) := by decide +kernel
theorem dX2_readsClosing_29 : decode cX2_readsClosing 29 = .ok (.aload_n 0, 1) := by decide +kernel
theorem dX2_readsClosing_30 : decode cX2_readsClosing 30 = .ok (.invokevirtual 60, 3) := by decide +kernel
theorem dX2_readsClosing_33 : decode cX2_readsClosing 33 = .ok (.ifCond .ne 5, 3) := by decide +kernel
theorem dX2_readsClosing_36 : decode cX2_readsClosing 36 = .ok (.iconst 0, 1) := by decide +kernel
theorem dX2_readsClosing_37 : decode cX2_readsClosing 37 = .ok (.ireturn, 1) := by decide +kernel
theorem dX2_readsClosing_38 : decode cX2_readsClosing 38 = .ok (.aload_n 1, 1) := by decide +kernel
theorem dX2_readsClosing_39 : decode cX2_readsClosing 39 = .ok (.iload_n 2, 1) := by decide +kernel
theorem dX2_readsClosing_40 : decode cX2_readsClosing 40 = .ok (.invokevirtual 70, 3) := by decide +kernel
theorem dX2_readsClosing_43 : decode cX2_readsClosing 43 = .ok (.iconst 1, 1) := by decide +kernel
theorem dX2_readsClosing_44 : decode cX2_readsClosing 44 = .ok (.ireturn, 1) := by decide +kernel
theorem dX2_readsLimit_0 : decode cX2_readsLimit 0 = .ok (.aload_n 0, 1) := by decide +kernel
theorem dX2_readsLimit_1 : decode cX2_readsLimit 1 = .ok (.getfield 20, 3) := by decide +kernel
theorem dX2_readsLimit_4 : decode cX2_readsLimit 4 = .ok (.ifCond .eq 5, 3) := by decide +kernel
theorem dX2_readsLimit_7 : decode cX2_readsLimit 7 = .ok (.iconst 0, 1) := by decide +kernel
theorem dX2_readsLimit_8 : decode cX2_readsLimit 8 = .ok (.ireturn, 1) := by decide +kernel
theorem dX2_readsLimit_9 : decode cX2_readsLimit 9 = .ok (.aload_n 0, 1) := by decide +kernel
theorem dX2_readsLimit_10 : decode cX2_readsLimit 10 = .ok (.getfield 9, 3) := by decide +kernel
theorem dX2_readsLimit_13 : decode cX2_readsLimit 13 = .ok (.invokevirtual 53, 3) := by decide +kernel
theorem dX2_readsLimit_16 : decode cX2_readsLimit 16 = .ok (.aload_n 0, 1) := by decide +kernel
theorem dX2_readsLimit_17 : decode cX2_readsLimit 17 = .ok (.iconst 1, 1) := by decide +kernel
theorem dX2_readsLimit_18 : decode cX2_readsLimit 18 = .ok (.bipush 9, 2) := by decide +kernel
theorem dX2_readsLimit_20 : decode cX2_readsLimit 20 = .ok (.invokevirtual 56, 3) := by decide +kernel
theorem dX2_readsLimit_23 : decode cX2_readsLimit 23 = .ok (.istore_n 2, 1) := by decide +kernel
theorem dX2_readsLimit_24 : decode cX2_readsLimit 24 = .ok (.iload_n 2, 1) := by decide +kernel
theorem dX2_readsLimit_25 : decode cX2_readsLimit 25 = .ok (.iconst (-1), 1) := by decide +kernel
theorem dX2_readsLimit_26 : decode cX2_readsLimit 26 = .ok (.if_icmp .eq 10, 3) := by decide +kernel
theorem dX2_readsLimit_29 : decode cX2_readsLimit 29 = .ok (.aload_n 0, 1) := by decide +kernel
theorem dX2_readsLimit_30 : decode cX2_readsLimit 30 = .ok (.invokevirtual 60, 3) := by decide +kernel
theorem dX2_readsLimit_33 : decode cX2_readsLimit 33 = .ok (.ifCond .ne 5, 3) := by decide +kernel
theorem dX2_readsLimit_36 : decode cX2_readsLimit 36 = .ok (.iconst 0, 1) := by decide +kernel
theorem dX2_readsLimit_37 : decode cX2_readsLimit 37 = .ok (.ireturn, 1) := by decide +kernel
theorem dX2_readsLimit_38 : decode cX2_readsLimit 38 = .ok (.aload_n 1, 1) := by decide +kernel
theorem dX2_readsLimit_39 : decode cX2_readsLimit 39 = .ok (.iload_n 2, 1) := by decide +kernel
theorem dX2_readsLimit_40 : decode cX2_readsLimit 40 = .ok (.putfield 74, 3) := by decide +kernel
theorem dX2_readsLimit_43 : decode cX2_readsLimit 43 = .ok (.aload_n 0, 1) := by decide +kernel
theorem dX2_readsLimit_44 : decode cX2_readsLimit 44 = .ok (.iconst 1, 1) := by decide +kernel
theorem dX2_readsLimit_45 : decode cX2_readsLimit 45 = .ok (.putfield 20, 3) := by decide +kernel
theorem dX2_readsLimit_48 : decode cX2_readsLimit 48 = .ok (.iconst 1, 1) := by decide +kernel
theorem dX2_readsLimit_49 : decode cX2_readsLimit 49 = .ok (.ireturn, 1) := by decide +kernel
theorem dX2_readsFrame_0 : decode cX2_readsFrame 0 = .ok (.aload_n 1, 1) := by decide +kernel
theorem dX2_readsFrame_1 : decode cX2_readsFrame 1 = .ok (.invokevirtual 77, 3) := by decide +kernel
theorem dX2_readsFrame_4 : decode cX2_readsFrame 4 = .ok (.aload_n 0, 1) := by decide +kernel
theorem dX2_readsFrame_5 : decode cX2_readsFrame 5 = .ok (.getfield 9, 3) := by decide +kernel
theorem dX2_readsFrame_8 : decode cX2_readsFrame 8 = .ok (.invokevirtual 24, 3) := by decide +kernel
theorem dX2_readsFrame_11 : decode cX2_readsFrame 11 = .ok (.iconst 0, 1) := by decide +kernel
theorem dX2_readsFrame_12 : decode cX2_readsFrame 12 = .ok (.istore_n 2, 1) := by decide +kernel
theorem dX2_readsFrame_13 : decode cX2_readsFrame 13 = .ok (.iload_n 2, 1) := by decide +kernel
theorem dX2_readsFrame_14 : decode cX2_readsFrame 14 = .ok (.bipush 120, 2) := by decide +kernel
theorem dX2_readsFrame_16 : decode cX2_readsFrame 16 = .ok (.if_icmp .ge 32, 3) := by decide +kernel
theorem dX2_readsFrame_19 : decode cX2_readsFrame 19 = .ok (.aload_n 0, 1) := by decide +kernel
theorem dX2_readsFrame_20 : decode cX2_readsFrame 20 = .ok (.getfield 9, 3) := by decide +kernel
theorem dX2_readsFrame_23 : decode cX2_readsFrame 23 = .ok (.getfield 29, 3) := by decide +kernel
theorem dX2_readsFrame_26 : decode cX2_readsFrame 26 = .ok (.sipush 257, 3) := by decide +kernel
theorem dX2_readsFrame_29 : decode cX2_readsFrame 29 = .ok (.if_icmp .eq 19, 3) := by decide +kernel
theorem dX2_readsFrame_32 : decode cX2_readsFrame 32 = .ok (.aload_n 0, 1) := by decide +kernel
theorem dX2_readsFrame_33 : decode cX2_readsFrame 33 = .ok (.aload_n 1, 1) := by decide +kernel
theorem dX2_readsFrame_34 : decode cX2_readsFrame 34 = .ok (.invokevirtual 80, 3) := by decide +kernel
theorem dX2_readsFrame_37 : decode cX2_readsFrame 37 = .ok (.ifCond .ne 5, 3) := by decide +kernel
theorem dX2_readsFrame_40 : decode cX2_readsFrame 40 = .ok (.iconst 0, 1) := by decide +kernel
theorem dX2_readsFrame_41 : decode cX2_readsFrame 41 = .ok (.ireturn, 1) := by decide +kernel
theorem dX2_readsFrame_42 : decode cX2_readsFrame 42 = .ok (.iinc 2 1, 3) := by decide +kernel
theorem dX2_readsFrame_45 : decode cX2_readsFrame 45 = .ok (.goto (-32), 3) := by decide +kernel
theorem dX2_readsFrame_48 : decode cX2_readsFrame 48 = .ok (.aload_n 1, 1) := by decide +kernel
theorem dX2_readsFrame_49 : decode cX2_readsFrame 49 = .ok (.getfield 83, 3) := by decide +kernel
theorem dX2_readsFrame_52 : decode cX2_readsFrame 52 = .ok (.ifCond .le 7, 3) := by decide +kernel
theorem dX2_readsFrame_55 : decode cX2_readsFrame 55 = .ok (.iconst 1, 1) := by decide +kernel
theorem dX2_readsFrame_56 : decode cX2_readsFrame 56 = .ok (.goto 4, 3) := by decide +kernel
theorem dX2_readsFrame_59 : decode cX2_readsFrame 59 = .ok (.iconst 0, 1) := by decide +kernel
theorem dX2_readsFrame_60 : decode cX2_readsFrame 60 = .ok (.ireturn, 1) := by decide +kernel
theorem dX2_readsOrder_0 : decode cX2_readsOrder 0 = .ok (.aload_n 0, 1) := by decide +kernel
theorem dX2_readsOrder_1 : decode cX2_readsOrder 1 = .ok (.getfield 9, 3) := by decide +kernel
theorem dX2_readsOrder_4 : decode cX2_readsOrder 4 = .ok (.getfield 29, 3) := by decide +kernel
theorem dX2_readsOrder_7 : decode cX2_readsOrder 7 = .ok (.istore_n 2, 1) := by decide +kernel
theorem dX2_readsOrder_8 : decode cX2_readsOrder 8 = .ok (.aload_n 1, 1) := by decide +kernel
theorem dX2_readsOrder_9 : decode cX2_readsOrder 9 = .ok (.invokevirtual 86, 3) := by decide +kernel
theorem dX2_readsOrder_12 : decode cX2_readsOrder 12 = .ok (.ifCond .eq 21, 3) := by decide +kernel
theorem dX2_readsOrder_15 : decode cX2_readsOrder 15 = .ok (.iload_n 2, 1) := by decide +kernel
theorem dX2_readsOrder_16 : decode cX2_readsOrder 16 = .ok (.bipush 114, 2) := by decide +kernel
theorem dX2_readsOrder_18 : decode cX2_readsOrder 18 = .ok (.if_icmp .eq 17, 3) := by decide +kernel
theorem dX2_readsOrder_21 : decode cX2_readsOrder 21 = .ok (.iload_n 2, 1) := by decide +kernel
theorem dX2_readsOrder_22 : decode cX2_readsOrder 22 = .ok (.bipush 119, 2) := by decide +kernel
theorem dX2_readsOrder_24 : decode cX2_readsOrder 24 = .ok (.if_icmp .eq 11, 3) := by decide +kernel
theorem dX2_readsOrder_27 : decode cX2_readsOrder 27 = .ok (.iload_n 2, 1) := by decide +kernel
theorem dX2_readsOrder_28 : decode cX2_readsOrder 28 = .ok (.bipush 120, 2) := by decide +kernel
theorem dX2_readsOrder_30 : decode cX2_readsOrder 30 = .ok (.if_icmp .eq 5, 3) := by decide +kernel
theorem dX2_readsOrder_33 : decode cX2_readsOrder 33 = .ok (.iconst 0, 1) := by decide +kernel
theorem dX2_readsOrder_34 : decode cX2_readsOrder 34 = .ok (.ireturn, 1) := by decide +kernel
theorem dX2_readsOrder_35 : decode cX2_readsOrder 35 = .ok (.aload_n 0, 1) := by decide +kernel
theorem dX2_readsOrder_36 : decode cX2_readsOrder 36 = .ok (.getfield 9, 3) := by decide +kernel
theorem dX2_readsOrder_39 : decode cX2_readsOrder 39 = .ok (.invokevirtual 53, 3) := by decide +kernel
theorem dX2_readsOrder_42 : decode cX2_readsOrder 42 = .ok (.aload_n 0, 1) := by decide +kernel
theorem dX2_readsOrder_43 : decode cX2_readsOrder 43 = .ok (.getfield 9, 3) := by decide +kernel
theorem dX2_readsOrder_46 : decode cX2_readsOrder 46 = .ok (.getfield 29, 3) := by decide +kernel
theorem dX2_readsOrder_49 : decode cX2_readsOrder 49 = .ok (.istore_n 3, 1) := by decide +kernel
theorem dX2_readsOrder_50 : decode cX2_readsOrder 50 = .ok (.iload_n 3, 1) := by decide +kernel
theorem dX2_readsOrder_51 : decode cX2_readsOrder 51 = .ok (.bipush 112, 2) := by decide +kernel
theorem dX2_readsOrder_53 : decode cX2_readsOrder 53 = .ok (.if_icmp .eq 17, 3) := by decide +kernel
theorem dX2_readsOrder_56 : decode cX2_readsOrder 56 = .ok (.iload_n 3, 1) := by decide +kernel
theorem dX2_readsOrder_57 : decode cX2_readsOrder 57 = .ok (.bipush 115, 2) := by decide +kernel
theorem dX2_readsOrder_59 : decode cX2_readsOrder 59 = .ok (.if_icmp .eq 11, 3) := by decide +kernel
theorem dX2_readsOrder_62 : decode cX2_readsOrder 62 = .ok (.iload_n 3, 1) := by decide +kernel
theorem dX2_readsOrder_63 : decode cX2_readsOrder 63 = .ok (.bipush 98, 2) := by decide +kernel
theorem dX2_readsOrder_65 : decode cX2_readsOrder 65 = .ok (.if_icmp .eq 5, 3) := by decide +kernel
theorem dX2_readsOrder_68 : decode cX2_readsOrder 68 = .ok (.iconst 0, 1) := by decide +kernel
theorem dX2_readsOrder_69 : decode cX2_readsOrder 69 = .ok (.ireturn, 1) := by decide +kernel
theorem dX2_readsOrder_70 : decode cX2_readsOrder 70 = .ok (.aload_n 0, 1) := by decide +kernel
theorem dX2_readsOrder_71 : decode cX2_readsOrder 71 = .ok (.getfield 9, 3) := by decide +kernel
theorem dX2_readsOrder_74 : decode cX2_readsOrder 74 = .ok (.invokevirtual 53, 3) := by decide +kernel
theorem dX2_readsOrder_77 : decode cX2_readsOrder 77 = .ok (.iload_n 3, 1) := by decide +kernel
theorem dX2_readsOrder_78 : decode cX2_readsOrder 78 = .ok (.bipush 98, 2) := by decide +kernel
theorem dX2_readsOrder_80 : decode cX2_readsOrder 80 = .ok (.if_icmp .ne 8, 3) := by decide +kernel
theorem dX2_readsOrder_83 : decode cX2_readsOrder 83 = .ok (.bipush (-9), 2) := by decide +kernel
theorem dX2_readsOrder_85 : decode cX2_readsOrder 85 = .ok (.goto 10, 3) := by decide +kernel
theorem dX2_readsOrder_88 : decode cX2_readsOrder 88 = .ok (.aload_n 0, 1) := by decide +kernel
theorem dX2_readsOrder_89 : decode cX2_readsOrder 89 = .ok (.iconst 0, 1) := by decide +kernel
theorem dX2_readsOrder_90 : decode cX2_readsOrder 90 = .ok (.bipush 15, 2) := by decide +kernel
theorem dX2_readsOrder_92 : decode cX2_readsOrder 92 = .ok (.invokevirtual 56, 3) := by decide +kernel
theorem dX2_readsOrder_95 : decode cX2_readsOrder 95 = .ok (.istore 4, 2) := by decide +kernel
theorem dX2_readsOrder_97 : decode cX2_readsOrder 97 = .ok (.iload 4, 2) := by decide +kernel
theorem dX2_readsOrder_99 : decode cX2_readsOrder 99 = .ok (.iconst (-1), 1) := by decide +kernel
theorem dX2_readsOrder_100 : decode cX2_readsOrder 100 = .ok (.if_icmp .ne 5, 3) := by decide +kernel
theorem dX2_readsOrder_103 : decode cX2_readsOrder 103 = .ok (.iconst 0, 1) := by decide +kernel
theorem dX2_readsOrder_104 : decode cX2_readsOrder 104 = .ok (.ireturn, 1) := by decide +kernel
theorem dX2_readsOrder_105 : decode cX2_readsOrder 105 = .ok (.aload_n 0, 1) := by decide +kernel
theorem dX2_readsOrder_106 : decode cX2_readsOrder 106 = .ok (.iconst 0, 1) := by decide +kernel
theorem dX2_readsOrder_107 : decode cX2_readsOrder 107 = .ok (.iconst 3, 1) := by decide +kernel
theorem dX2_readsOrder_108 : decode cX2_readsOrder 108 = .ok (.invokevirtual 56, 3) := by decide +kernel
theorem dX2_readsOrder_111 : decode cX2_readsOrder 111 = .ok (.istore 5, 2) := by decide +kernel
theorem dX2_readsOrder_113 : decode cX2_readsOrder 113 = .ok (.iload 5, 2) := by decide +kernel
theorem dX2_readsOrder_115 : decode cX2_readsOrder 115 = .ok (.iconst (-1), 1) := by decide +kernel
theorem dX2_readsOrder_116 : decode cX2_readsOrder 116 = .ok (.if_icmp .ne 5, 3) := by decide +kernel
theorem dX2_readsOrder_119 : decode cX2_readsOrder 119 = .ok (.iconst 0, 1) := by decide +kernel
theorem dX2_readsOrder_120 : decode cX2_readsOrder 120 = .ok (.ireturn, 1) := by decide +kernel
theorem dX2_readsOrder_121 : decode cX2_readsOrder 121 = .ok (.aload_n 0, 1) := by decide +kernel
theorem dX2_readsOrder_122 : decode cX2_readsOrder 122 = .ok (.iconst 0, 1) := by decide +kernel
theorem dX2_readsOrder_123 : decode cX2_readsOrder 123 = .ok (.sipush 255, 3) := by decide +kernel
theorem dX2_readsOrder_126 : decode cX2_readsOrder 126 = .ok (.invokevirtual 56, 3) := by decide +kernel
theorem dX2_readsOrder_129 : decode cX2_readsOrder 129 = .ok (.istore 6, 2) := by decide +kernel
theorem dX2_readsOrder_131 : decode cX2_readsOrder 131 = .ok (.iload 6, 2) := by decide +kernel
theorem dX2_readsOrder_133 : decode cX2_readsOrder 133 = .ok (.iconst (-1), 1) := by decide +kernel
theorem dX2_readsOrder_134 : decode cX2_readsOrder 134 = .ok (.if_icmp .eq 10, 3) := by decide +kernel
theorem dX2_readsOrder_137 : decode cX2_readsOrder 137 = .ok (.aload_n 0, 1) := by decide +kernel
theorem dX2_readsOrder_138 : decode cX2_readsOrder 138 = .ok (.invokevirtual 60, 3) := by decide +kernel
theorem dX2_readsOrder_141 : decode cX2_readsOrder 141 = .ok (.ifCond .ne 5, 3) := by decide +kernel
theorem dX2_readsOrder_144 : decode cX2_readsOrder 144 = .ok (.iconst 0, 1) := by decide +kernel
theorem dX2_readsOrder_145 : decode cX2_readsOrder 145 = .ok (.ireturn, 1) := by decide +kernel
theorem dX2_readsOrder_146 : decode cX2_readsOrder 146 = .ok (.aload_n 1, 1) := by decide +kernel
theorem dX2_readsOrder_147 : decode cX2_readsOrder 147 = .ok (.iload_n 2, 1) := by decide +kernel
theorem dX2_readsOrder_148 : decode cX2_readsOrder 148 = .ok (.iload_n 3, 1) := by decide +kernel
theorem dX2_readsOrder_149 : decode cX2_readsOrder 149 = .ok (.iload 4, 2) := by decide +kernel
theorem dX2_readsOrder_151 : decode cX2_readsOrder 151 = .ok (.iload 5, 2) := by decide +kernel
theorem dX2_readsOrder_153 : decode cX2_readsOrder 153 = .ok (.iload 6, 2) := by decide +kernel
theorem dX2_readsOrder_155 : decode cX2_readsOrder 155 = .ok (.invokevirtual 89, 3) := by decide +kernel
theorem dX2_readsOrder_158 : decode cX2_readsOrder 158 = .ok (.iconst 1, 1) := by decide +kernel
theorem dX2_readsOrder_159 : decode cX2_readsOrder 159 = .ok (.ireturn, 1) := by decide +kernel
theorem dX2_takeNumber_0 : decode cX2_takeNumber 0 = .ok (.aload_n 0, 1) := by decide +kernel
theorem dX2_takeNumber_1 : decode cX2_takeNumber 1 = .ok (.getfield 9, 3) := by decide +kernel
theorem dX2_takeNumber_4 : decode cX2_takeNumber 4 = .ok (.getfield 29, 3) := by decide +kernel
theorem dX2_takeNumber_7 : decode cX2_takeNumber 7 = .ok (.sipush 256, 3) := by decide +kernel
theorem dX2_takeNumber_10 : decode cX2_takeNumber 10 = .ok (.if_icmp .ne 25, 3) := by decide +kernel
theorem dX2_takeNumber_13 : decode cX2_takeNumber 13 = .ok (.aload_n 0, 1) := by decide +kernel
theorem dX2_takeNumber_14 : decode cX2_takeNumber 14 = .ok (.getfield 9, 3) := by decide +kernel
theorem dX2_takeNumber_17 : decode cX2_takeNumber 17 = .ok (.getfield 93, 3) := by decide +kernel
theorem dX2_takeNumber_20 : decode cX2_takeNumber 20 = .ok (.iload_n 1, 1) := by decide +kernel
theorem dX2_takeNumber_21 : decode cX2_takeNumber 21 = .ok (.if_icmp .lt 14, 3) := by decide +kernel
theorem dX2_takeNumber_24 : decode cX2_takeNumber 24 = .ok (.aload_n 0, 1) := by decide +kernel
theorem dX2_takeNumber_25 : decode cX2_takeNumber 25 = .ok (.getfield 9, 3) := by decide +kernel
theorem dX2_takeNumber_28 : decode cX2_takeNumber 28 = .ok (.getfield 93, 3) := by decide +kernel
theorem dX2_takeNumber_31 : decode cX2_takeNumber 31 = .ok (.iload_n 2, 1) := by decide +kernel
theorem dX2_takeNumber_32 : decode cX2_takeNumber 32 = .ok (.if_icmp .le 5, 3) := by decide +kernel
theorem dX2_takeNumber_35 : decode cX2_takeNumber 35 = .ok (.iconst (-1), 1) := by decide +kernel
theorem dX2_takeNumber_36 : decode cX2_takeNumber 36 = .ok (.ireturn, 1) := by decide +kernel
theorem dX2_takeNumber_37 : decode cX2_takeNumber 37 = .ok (.aload_n 0, 1) := by decide +kernel
theorem dX2_takeNumber_38 : decode cX2_takeNumber 38 = .ok (.getfield 9, 3) := by decide +kernel
theorem dX2_takeNumber_41 : decode cX2_takeNumber 41 = .ok (.getfield 93, 3) := by decide +kernel
theorem dX2_takeNumber_44 : decode cX2_takeNumber 44 = .ok (.istore_n 3, 1) := by decide +kernel
theorem dX2_takeNumber_45 : decode cX2_takeNumber 45 = .ok (.aload_n 0, 1) := by decide +kernel
theorem dX2_takeNumber_46 : decode cX2_takeNumber 46 = .ok (.getfield 9, 3) := by decide +kernel
theorem dX2_takeNumber_49 : decode cX2_takeNumber 49 = .ok (.invokevirtual 53, 3) := by decide +kernel
theorem dX2_takeNumber_52 : decode cX2_takeNumber 52 = .ok (.iload_n 3, 1) := by decide +kernel
theorem dX2_takeNumber_53 : decode cX2_takeNumber 53 = .ok (.ireturn, 1) := by decide +kernel
theorem dX2_takesEnd_0 : decode cX2_takesEnd 0 = .ok (.aload_n 0, 1) := by decide +kernel
theorem dX2_takesEnd_1 : decode cX2_takesEnd 1 = .ok (.getfield 9, 3) := by decide +kernel
theorem dX2_takesEnd_4 : decode cX2_takesEnd 4 = .ok (.getfield 29, 3) := by decide +kernel
theorem dX2_takesEnd_7 : decode cX2_takesEnd 7 = .ok (.bipush 59, 2) := by decide +kernel
theorem dX2_takesEnd_9 : decode cX2_takesEnd 9 = .ok (.if_icmp .eq 5, 3) := by decide +kernel
theorem dX2_takesEnd_12 : decode cX2_takesEnd 12 = .ok (.iconst 0, 1) := by decide +kernel
theorem dX2_takesEnd_13 : decode cX2_takesEnd 13 = .ok (.ireturn, 1) := by decide +kernel
theorem dX2_takesEnd_14 : decode cX2_takesEnd 14 = .ok (.aload_n 0, 1) := by decide +kernel
theorem dX2_takesEnd_15 : decode cX2_takesEnd 15 = .ok (.getfield 9, 3) := by decide +kernel
theorem dX2_takesEnd_18 : decode cX2_takesEnd 18 = .ok (.invokevirtual 53, 3) := by decide +kernel
theorem dX2_takesEnd_21 : decode cX2_takesEnd 21 = .ok (.iconst 1, 1) := by decide +kernel
theorem dX2_takesEnd_22 : decode cX2_takesEnd 22 = .ok (.ireturn, 1) := by decide +kernel
theorem dX3_init_0 : decode cX3_init 0 = .ok (.aload_n 0, 1) := by decide +kernel
theorem dX3_init_1 : decode cX3_init 1 = .ok (.invokespecial 3, 3) := by decide +kernel
theorem dX3_init_4 : decode cX3_init 4 = .ok (.aload_n 0, 1) := by decide +kernel
theorem dX3_init_5 : decode cX3_init 5 = .ok (.bipush 54, 2) := by decide +kernel
theorem dX3_init_7 : decode cX3_init 7 = .ok (.newarray .int, 2) := by decide +kernel
theorem dX3_init_9 : decode cX3_init 9 = .ok (.putfield 9, 3) := by decide +kernel
theorem dX3_init_12 : decode cX3_init 12 = .ok (.aload_n 0, 1) := by decide +kernel
theorem dX3_init_13 : decode cX3_init 13 = .ok (.bipush 14, 2) := by decide +kernel
theorem dX3_init_15 : decode cX3_init 15 = .ok (.newarray .int, 2) := by decide +kernel
theorem dX3_init_17 : decode cX3_init 17 = .ok (.putfield 15, 3) := by decide +kernel
theorem dX3_init_20 : decode cX3_init 20 = .ok (.aload_n 0, 1) := by decide +kernel
theorem dX3_init_21 : decode cX3_init 21 = .ok (.bipush 20, 2) := by decide +kernel
theorem dX3_init_23 : decode cX3_init 23 = .ok (.newarray .int, 2) := by decide +kernel
theorem dX3_init_25 : decode cX3_init 25 = .ok (.putfield 18, 3) := by decide +kernel
theorem dX3_init_28 : decode cX3_init 28 = .ok (.aload_n 0, 1) := by decide +kernel
theorem dX3_init_29 : decode cX3_init 29 = .ok (.bipush 8, 2) := by decide +kernel
theorem dX3_init_31 : decode cX3_init 31 = .ok (.newarray .int, 2) := by decide +kernel
theorem dX3_init_33 : decode cX3_init 33 = .ok (.putfield 21, 3) := by decide +kernel
theorem dX3_init_36 : decode cX3_init 36 = .ok (.aload_n 0, 1) := by decide +kernel
theorem dX3_init_37 : decode cX3_init 37 = .ok (.iconst 2, 1) := by decide +kernel
theorem dX3_init_38 : decode cX3_init 38 = .ok (.newarray .int, 2) := by decide +kernel
theorem dX3_init_40 : decode cX3_init 40 = .ok (.putfield 24, 3) := by decide +kernel
theorem dX3_init_43 : decode cX3_init 43 = .ok (.aload_n 0, 1) := by decide +kernel
theorem dX3_init_44 : decode cX3_init 44 = .ok (.invokevirtual 27, 3) := by decide +kernel
theorem dX3_init_47 : decode cX3_init 47 = .ok (.aload_n 0, 1) := by decide +kernel
theorem dX3_init_48 : decode cX3_init 48 = .ok (.iconst 1, 1) := by decide +kernel
theorem dX3_init_49 : decode cX3_init 49 = .ok (.iconst 0, 1) := by decide +kernel
theorem dX3_init_50 : decode cX3_init 50 = .ok (.invokevirtual 30, 3) := by decide +kernel
theorem dX3_init_53 : decode cX3_init 53 = .ok (.return_, 1) := by decide +kernel
theorem dX3_becomeEmpty_0 : decode cX3_becomeEmpty 0 = .ok (.aload_n 0, 1) := by decide +kernel
theorem dX3_becomeEmpty_1 : decode cX3_becomeEmpty 1 = .ok (.iconst 0, 1) := by decide +kernel
theorem dX3_becomeEmpty_2 : decode cX3_becomeEmpty 2 = .ok (.putfield 34, 3) := by decide +kernel
theorem dX3_becomeEmpty_5 : decode cX3_becomeEmpty 5 = .ok (.aload_n 0, 1) := by decide +kernel
theorem dX3_becomeEmpty_6 : decode cX3_becomeEmpty 6 = .ok (.iconst 0, 1) := by decide +kernel
theorem dX3_becomeEmpty_7 : decode cX3_becomeEmpty 7 = .ok (.putfield 38, 3) := by decide +kernel
theorem dX3_becomeEmpty_10 : decode cX3_becomeEmpty 10 = .ok (.aload_n 0, 1) := by decide +kernel
theorem dX3_becomeEmpty_11 : decode cX3_becomeEmpty 11 = .ok (.iconst 3, 1) := by decide +kernel
theorem dX3_becomeEmpty_12 : decode cX3_becomeEmpty 12 = .ok (.putfield 42, 3) := by decide +kernel
theorem dX3_becomeEmpty_15 : decode cX3_becomeEmpty 15 = .ok (.aload_n 0, 1) := by decide +kernel
theorem dX3_becomeEmpty_16 : decode cX3_becomeEmpty 16 = .ok (.iconst 0, 1) := by decide +kernel
theorem dX3_becomeEmpty_17 : decode cX3_becomeEmpty 17 = .ok (.putfield 45, 3) := by decide +kernel
theorem dX3_becomeEmpty_20 : decode cX3_becomeEmpty 20 = .ok (.aload_n 0, 1) := by decide +kernel
theorem dX3_becomeEmpty_21 : decode cX3_becomeEmpty 21 = .ok (.iconst 0, 1) := by decide +kernel
theorem dX3_becomeEmpty_22 : decode cX3_becomeEmpty 22 = .ok (.putfield 48, 3) := by decide +kernel
theorem dX3_becomeEmpty_25 : decode cX3_becomeEmpty 25 = .ok (.aload_n 0, 1) := by decide +kernel
theorem dX3_becomeEmpty_26 : decode cX3_becomeEmpty 26 = .ok (.invokevirtual 51, 3) := by decide +kernel
theorem dX3_becomeEmpty_29 : decode cX3_becomeEmpty 29 = .ok (.return_, 1) := by decide +kernel
theorem dX3_dropFrame_0 : decode cX3_dropFrame 0 = .ok (.aload_n 0, 1) := by decide +kernel
theorem dX3_dropFrame_1 : decode cX3_dropFrame 1 = .ok (.iconst 0, 1) := by decide +kernel
theorem dX3_dropFrame_2 : decode cX3_dropFrame 2 = .ok (.putfield 54, 3) := by decide +kernel
theorem dX3_dropFrame_5 : decode cX3_dropFrame 5 = .ok (.aload_n 0, 1) := by decide +kernel
theorem dX3_dropFrame_6 : decode cX3_dropFrame 6 = .ok (.iconst 0, 1) := by decide +kernel
theorem dX3_dropFrame_7 : decode cX3_dropFrame 7 = .ok (.putfield 57, 3) := by decide +kernel
theorem dX3_dropFrame_10 : decode cX3_dropFrame 10 = .ok (.aload_n 0, 1) := by decide +kernel
theorem dX3_dropFrame_11 : decode cX3_dropFrame 11 = .ok (.getfield 24, 3) := by decide +kernel
theorem dX3_dropFrame_14 : decode cX3_dropFrame 14 = .ok (.bipush (-9), 2) := by decide +kernel
theorem dX3_dropFrame_16 : decode cX3_dropFrame 16 = .ok (.invokestatic 60, 3) := by decide +kernel
theorem dX3_dropFrame_19 : decode cX3_dropFrame 19 = .ok (.return_, 1) := by decide +kernel
theorem dX3_copyFrom_0 : decode cX3_copyFrom 0 = .ok (.aload_n 1, 1) := by decide +kernel
theorem dX3_copyFrom_1 : decode cX3_copyFrom 1 = .ok (.getfield 9, 3) := by decide +kernel
theorem dX3_copyFrom_4 : decode cX3_copyFrom 4 = .ok (.iconst 0, 1) := by decide +kernel
theorem dX3_copyFrom_5 : decode cX3_copyFrom 5 = .ok (.aload_n 0, 1) := by decide +kernel
theorem dX3_copyFrom_6 : decode cX3_copyFrom 6 = .ok (.getfield 9, 3) := by decide +kernel
theorem dX3_copyFrom_9 : decode cX3_copyFrom 9 = .ok (.iconst 0, 1) := by decide +kernel
theorem dX3_copyFrom_10 : decode cX3_copyFrom 10 = .ok (.aload_n 0, 1) := by decide +kernel
theorem dX3_copyFrom_11 : decode cX3_copyFrom 11 = .ok (.getfield 9, 3) := by decide +kernel
theorem dX3_copyFrom_14 : decode cX3_copyFrom 14 = .ok (.arraylength, 1) := by decide +kernel
theorem dX3_copyFrom_15 : decode cX3_copyFrom 15 = .ok (.invokestatic 66, 3) := by decide +kernel
theorem dX3_copyFrom_18 : decode cX3_copyFrom 18 = .ok (.aload_n 1, 1) := by decide +kernel
theorem dX3_copyFrom_19 : decode cX3_copyFrom 19 = .ok (.getfield 15, 3) := by decide +kernel
theorem dX3_copyFrom_22 : decode cX3_copyFrom 22 = .ok (.iconst 0, 1) := by decide +kernel
theorem dX3_copyFrom_23 : decode cX3_copyFrom 23 = .ok (.aload_n 0, 1) := by decide +kernel
theorem dX3_copyFrom_24 : decode cX3_copyFrom 24 = .ok (.getfield 15, 3) := by decide +kernel
theorem dX3_copyFrom_27 : decode cX3_copyFrom 27 = .ok (.iconst 0, 1) := by decide +kernel
theorem dX3_copyFrom_28 : decode cX3_copyFrom 28 = .ok (.aload_n 0, 1) := by decide +kernel
theorem dX3_copyFrom_29 : decode cX3_copyFrom 29 = .ok (.getfield 15, 3) := by decide +kernel
theorem dX3_copyFrom_32 : decode cX3_copyFrom 32 = .ok (.arraylength, 1) := by decide +kernel
theorem dX3_copyFrom_33 : decode cX3_copyFrom 33 = .ok (.invokestatic 66, 3) := by decide +kernel
theorem dX3_copyFrom_36 : decode cX3_copyFrom 36 = .ok (.aload_n 1, 1) := by decide +kernel
theorem dX3_copyFrom_37 : decode cX3_copyFrom 37 = .ok (.getfield 18, 3) := by decide +kernel
theorem dX3_copyFrom_40 : decode cX3_copyFrom 40 = .ok (.iconst 0, 1) := by decide +kernel
theorem dX3_copyFrom_41 : decode cX3_copyFrom 41 = .ok (.aload_n 0, 1) := by decide +kernel
theorem dX3_copyFrom_42 : decode cX3_copyFrom 42 = .ok (.getfield 18, 3) := by decide +kernel
theorem dX3_copyFrom_45 : decode cX3_copyFrom 45 = .ok (.iconst 0, 1) := by decide +kernel
theorem dX3_copyFrom_46 : decode cX3_copyFrom 46 = .ok (.aload_n 0, 1) := by decide +kernel
theorem dX3_copyFrom_47 : decode cX3_copyFrom 47 = .ok (.getfield 18, 3) := by decide +kernel
theorem dX3_copyFrom_50 : decode cX3_copyFrom 50 = .ok (.arraylength, 1) := by decide +kernel
theorem dX3_copyFrom_51 : decode cX3_copyFrom 51 = .ok (.invokestatic 66, 3) := by decide +kernel
theorem dX3_copyFrom_54 : decode cX3_copyFrom 54 = .ok (.aload_n 1, 1) := by decide +kernel
theorem dX3_copyFrom_55 : decode cX3_copyFrom 55 = .ok (.getfield 21, 3) := by decide +kernel
theorem dX3_copyFrom_58 : decode cX3_copyFrom 58 = .ok (.iconst 0, 1) := by decide +kernel
theorem dX3_copyFrom_59 : decode cX3_copyFrom 59 = .ok (.aload_n 0, 1) := by decide +kernel
theorem dX3_copyFrom_60 : decode cX3_copyFrom 60 = .ok (.getfield 21, 3) := by decide +kernel
theorem dX3_copyFrom_63 : decode cX3_copyFrom 63 = .ok (.iconst 0, 1) := by decide +kernel
theorem dX3_copyFrom_64 : decode cX3_copyFrom 64 = .ok (.aload_n 0, 1) := by decide +kernel
theorem dX3_copyFrom_65 : decode cX3_copyFrom 65 = .ok (.getfield 21, 3) := by decide +kernel
theorem dX3_copyFrom_68 : decode cX3_copyFrom 68 = .ok (.arraylength, 1) := by decide +kernel
theorem dX3_copyFrom_69 : decode cX3_copyFrom 69 = .ok (.invokestatic 66, 3) := by decide +kernel
theorem dX3_copyFrom_72 : decode cX3_copyFrom 72 = .ok (.aload_n 1, 1) := by decide +kernel
theorem dX3_copyFrom_73 : decode cX3_copyFrom 73 = .ok (.getfield 24, 3) := by decide +kernel
theorem dX3_copyFrom_76 : decode cX3_copyFrom 76 = .ok (.iconst 0, 1) := by decide +kernel
theorem dX3_copyFrom_77 : decode cX3_copyFrom 77 = .ok (.aload_n 0, 1) := by decide +kernel
theorem dX3_copyFrom_78 : decode cX3_copyFrom 78 = .ok (.getfield 24, 3) := by decide +kernel
theorem dX3_copyFrom_81 : decode cX3_copyFrom 81 = .ok (.iconst 0, 1) := by decide +kernel
theorem dX3_copyFrom_82 : decode cX3_copyFrom 82 = .ok (.aload_n 0, 1) := by decide +kernel
theorem dX3_copyFrom_83 : decode cX3_copyFrom 83 = .ok (.getfield 24, 3) := by decide +kernel
theorem dX3_copyFrom_86 : decode cX3_copyFrom 86 = .ok (.arraylength, 1) := by decide +kernel
theorem dX3_copyFrom_87 : decode cX3_copyFrom 87 = .ok (.invokestatic 66, 3) := by decide +kernel
theorem dX3_copyFrom_90 : decode cX3_copyFrom 90 = .ok (.aload_n 0, 1) := by decide +kernel
theorem dX3_copyFrom_91 : decode cX3_copyFrom 91 = .ok (.aload_n 1, 1) := by decide +kernel
theorem dX3_copyFrom_92 : decode cX3_copyFrom 92 = .ok (.getfield 34, 3) := by decide +kernel
theorem dX3_copyFrom_95 : decode cX3_copyFrom 95 = .ok (.putfield 34, 3) := by decide +kernel
theorem dX3_copyFrom_98 : decode cX3_copyFrom 98 = .ok (.aload_n 0, 1) := by decide +kernel
theorem dX3_copyFrom_99 : decode cX3_copyFrom 99 = .ok (.aload_n 1, 1) := by decide +kernel
theorem dX3_copyFrom_100 : decode cX3_copyFrom 100 = .ok (.getfield 54, 3) := by decide +kernel
theorem dX3_copyFrom_103 : decode cX3_copyFrom 103 = .ok (.putfield 54, 3) := by decide +kernel
theorem dX3_copyFrom_106 : decode cX3_copyFrom 106 = .ok (.aload_n 0, 1) := by decide +kernel
theorem dX3_copyFrom_107 : decode cX3_copyFrom 107 = .ok (.aload_n 1, 1) := by decide +kernel
theorem dX3_copyFrom_108 : decode cX3_copyFrom 108 = .ok (.getfield 42, 3) := by decide +kernel
theorem dX3_copyFrom_111 : decode cX3_copyFrom 111 = .ok (.putfield 42, 3) := by decide +kernel
theorem dX3_copyFrom_114 : decode cX3_copyFrom 114 = .ok (.aload_n 0, 1) := by decide +kernel
theorem dX3_copyFrom_115 : decode cX3_copyFrom 115 = .ok (.aload_n 1, 1) := by decide +kernel
theorem dX3_copyFrom_116 : decode cX3_copyFrom 116 = .ok (.getfield 45, 3) := by decide +kernel
theorem dX3_copyFrom_119 : decode cX3_copyFrom 119 = .ok (.putfield 45, 3) := by decide +kernel
theorem dX3_copyFrom_122 : decode cX3_copyFrom 122 = .ok (.aload_n 0, 1) := by decide +kernel
theorem dX3_copyFrom_123 : decode cX3_copyFrom 123 = .ok (.aload_n 1, 1) := by decide +kernel
theorem dX3_copyFrom_124 : decode cX3_copyFrom 124 = .ok (.getfield 38, 3) := by decide +kernel
theorem dX3_copyFrom_127 : decode cX3_copyFrom 127 = .ok (.putfield 38, 3) := by decide +kernel
theorem dX3_copyFrom_130 : decode cX3_copyFrom 130 = .ok (.aload_n 0, 1) := by decide +kernel
theorem dX3_copyFrom_131 : decode cX3_copyFrom 131 = .ok (.aload_n 1, 1) := by decide +kernel
theorem dX3_copyFrom_132 : decode cX3_copyFrom 132 = .ok (.getfield 57, 3) := by decide +kernel
theorem dX3_copyFrom_135 : decode cX3_copyFrom 135 = .ok (.putfield 57, 3) := by decide +kernel
theorem dX3_copyFrom_138 : decode cX3_copyFrom 138 = .ok (.aload_n 0, 1) := by decide +kernel
theorem dX3_copyFrom_139 : decode cX3_copyFrom 139 = .ok (.aload_n 1, 1) := by decide +kernel
theorem dX3_copyFrom_140 : decode cX3_copyFrom 140 = .ok (.getfield 48, 3) := by decide +kernel
theorem dX3_copyFrom_143 : decode cX3_copyFrom 143 = .ok (.putfield 48, 3) := by decide +kernel
theorem dX3_copyFrom_146 : decode cX3_copyFrom 146 = .ok (.return_, 1) := by decide +kernel
theorem dX3_takesDrive_0 : decode cX3_takesDrive 0 = .ok (.aload_n 0, 1) := by decide +kernel
theorem dX3_takesDrive_1 : decode cX3_takesDrive 1 = .ok (.getfield 38, 3) := by decide +kernel
theorem dX3_takesDrive_4 : decode cX3_takesDrive 4 = .ok (.ifCond .ne 16, 3) := by decide +kernel
theorem dX3_takesDrive_7 : decode cX3_takesDrive 7 = .ok (.aload_n 0, 1) := by decide +kernel
theorem dX3_takesDrive_8 : decode cX3_takesDrive 8 = .ok (.getfield 34, 3) := by decide +kernel
theorem dX3_takesDrive_11 : decode cX3_takesDrive 11 = .ok (.bipush 6, 2) := by decide +kernel
theorem dX3_takesDrive_13 : decode cX3_takesDrive 13 = .ok (.if_icmp .ge 7, 3) := by decide +kernel
theorem dX3_takesDrive_16 : decode cX3_takesDrive 16 = .ok (.iconst 1, 1) := by decide +kernel
theorem dX3_takesDrive_17 : decode cX3_takesDrive 17 = .ok (.goto 4, 3) := by decide +kernel
theorem dX3_takesDrive_20 : decode cX3_takesDrive 20 = .ok (.iconst 0, 1) := by decide +kernel
theorem dX3_takesDrive_21 : decode cX3_takesDrive 21 = .ok (.ireturn, 1) := by decide +kernel
theorem dX3_addDrive_0 : decode cX3_addDrive 0 = .ok (.aload_n 0, 1) := by decide +kernel
theorem dX3_addDrive_1 : decode cX3_addDrive 1 = .ok (.invokevirtual 72, 3) := by decide +kernel
theorem dX3_addDrive_4 : decode cX3_addDrive 4 = .ok (.ifCond .eq 52, 3) := by decide +kernel
theorem dX3_addDrive_7 : decode cX3_addDrive 7 = .ok (.aload_n 0, 1) := by decide +kernel
theorem dX3_addDrive_8 : decode cX3_addDrive 8 = .ok (.getfield 34, 3) := by decide +kernel
theorem dX3_addDrive_11 : decode cX3_addDrive 11 = .ok (.bipush 9, 2) := by decide +kernel
theorem dX3_addDrive_13 : decode cX3_addDrive 13 = .ok (.imul, 1) := by decide +kernel
theorem dX3_addDrive_14 : decode cX3_addDrive 14 = .ok (.istore_n 3, 1) := by decide +kernel
theorem dX3_addDrive_15 : decode cX3_addDrive 15 = .ok (.aload_n 0, 1) := by decide +kernel
theorem dX3_addDrive_16 : decode cX3_addDrive 16 = .ok (.getfield 9, 3) := by decide +kernel
theorem dX3_addDrive_19 : decode cX3_addDrive 19 = .ok (.iload_n 3, 1) := by decide +kernel
theorem dX3_addDrive_20 : decode cX3_addDrive 20 = .ok (.iload_n 3, 1) := by decide +kernel
theorem dX3_addDrive_21 : decode cX3_addDrive 21 = .ok (.bipush 9, 2) := by decide +kernel
theorem dX3_addDrive_23 : decode cX3_addDrive 23 = .ok (.iadd, 1) := by decide +kernel
theorem dX3_addDrive_24 : decode cX3_addDrive 24 = .ok (.iconst 0, 1) := by decide +kernel
theorem dX3_addDrive_25 : decode cX3_addDrive 25 = .ok (.invokestatic 76, 3) := by decide +kernel
theorem dX3_addDrive_28 : decode cX3_addDrive 28 = .ok (.aload_n 0, 1) := by decide +kernel
theorem dX3_addDrive_29 : decode cX3_addDrive 29 = .ok (.getfield 9, 3) := by decide +kernel
theorem dX3_addDrive_32 : decode cX3_addDrive 32 = .ok (.iload_n 3, 1) := by decide +kernel
theorem dX3_addDrive_33 : decode cX3_addDrive 33 = .ok (.iconst 0, 1) := by decide +kernel
theorem dX3_addDrive_34 : decode cX3_addDrive 34 = .ok (.iadd, 1) := by decide +kernel
theorem dX3_addDrive_35 : decode cX3_addDrive 35 = .ok (.iload_n 2, 1) := by decide +kernel
theorem dX3_addDrive_36 : decode cX3_addDrive 36 = .ok (.iastore, 1) := by decide +kernel
theorem dX3_addDrive_37 : decode cX3_addDrive 37 = .ok (.aload_n 0, 1) := by decide +kernel
theorem dX3_addDrive_38 : decode cX3_addDrive 38 = .ok (.aload_n 0, 1) := by decide +kernel
theorem dX3_addDrive_39 : decode cX3_addDrive 39 = .ok (.getfield 34, 3) := by decide +kernel
theorem dX3_addDrive_42 : decode cX3_addDrive 42 = .ok (.iload_n 1, 1) := by decide +kernel
theorem dX3_addDrive_43 : decode cX3_addDrive 43 = .ok (.invokevirtual 79, 3) := by decide +kernel
theorem dX3_addDrive_46 : decode cX3_addDrive 46 = .ok (.aload_n 0, 1) := by decide +kernel
theorem dX3_addDrive_47 : decode cX3_addDrive 47 = .ok (.dup, 1) := by decide +kernel
theorem dX3_addDrive_48 : decode cX3_addDrive 48 = .ok (.getfield 34, 3) := by decide +kernel
theorem dX3_addDrive_51 : decode cX3_addDrive 51 = .ok (.iconst 1, 1) := by decide +kernel
theorem dX3_addDrive_52 : decode cX3_addDrive 52 = .ok (.iadd, 1) := by decide +kernel
theorem dX3_addDrive_53 : decode cX3_addDrive 53 = .ok (.putfield 34, 3) := by decide +kernel
theorem dX3_addDrive_56 : decode cX3_addDrive 56 = .ok (.return_, 1) := by decide +kernel
theorem dX3_takesClosing_0 : decode cX3_takesClosing 0 = .ok (.aload_n 0, 1) := by decide +kernel
theorem dX3_takesClosing_1 : decode cX3_takesClosing 1 = .ok (.getfield 38, 3) := by decide +kernel
theorem dX3_takesClosing_4 : decode cX3_takesClosing 4 = .ok (.ifCond .ne 14, 3) := by decide +kernel
theorem dX3_takesClosing_7 : decode cX3_takesClosing 7 = .ok (.aload_n 0, 1) := by decide +kernel
theorem dX3_takesClosing_8 : decode cX3_takesClosing 8 = .ok (.getfield 34, 3) := by decide +kernel
theorem dX3_takesClosing_11 : decode cX3_takesClosing 11 = .ok (.ifCond .le 7, 3) := by decide +kernel
theorem dX3_takesClosing_14 : decode cX3_takesClosing 14 = .ok (.iconst 1, 1) := by decide +kernel
theorem dX3_takesClosing_15 : decode cX3_takesClosing 15 = .ok (.goto 4, 3) := by decide +kernel
theorem dX3_takesClosing_18 : decode cX3_takesClosing 18 = .ok (.iconst 0, 1) := by decide +kernel
theorem dX3_takesClosing_19 : decode cX3_takesClosing 19 = .ok (.ireturn, 1) := by decide +kernel
theorem dX3_closeBy_0 : decode cX3_closeBy 0 = .ok (.aload_n 0, 1) := by decide +kernel
theorem dX3_closeBy_1 : decode cX3_closeBy 1 = .ok (.invokevirtual 82, 3) := by decide +kernel
theorem dX3_closeBy_4 : decode cX3_closeBy 4 = .ok (.ifCond .eq 17, 3) := by decide +kernel
theorem dX3_closeBy_7 : decode cX3_closeBy 7 = .ok (.aload_n 0, 1) := by decide +kernel
theorem dX3_closeBy_8 : decode cX3_closeBy 8 = .ok (.aload_n 0, 1) := by decide +kernel
theorem dX3_closeBy_9 : decode cX3_closeBy 9 = .ok (.getfield 34, 3) := by decide +kernel
theorem dX3_closeBy_12 : decode cX3_closeBy 12 = .ok (.iload_n 1, 1) := by decide +kernel
theorem dX3_closeBy_13 : decode cX3_closeBy 13 = .ok (.invokevirtual 79, 3) := by decide +kernel
theorem dX3_closeBy_16 : decode cX3_closeBy 16 = .ok (.aload_n 0, 1) := by decide +kernel
theorem dX3_closeBy_17 : decode cX3_closeBy 17 = .ok (.iconst 1, 1) := by decide +kernel
theorem dX3_closeBy_18 : decode cX3_closeBy 18 = .ok (.putfield 38, 3) := by decide +kernel
theorem dX3_closeBy_21 : decode cX3_closeBy 21 = .ok (.return_, 1) := by decide +kernel
theorem dX3_putNewLink_0 : decode cX3_putNewLink 0 = .ok (.aload_n 0, 1) := by decide +kernel
theorem dX3_putNewLink_1 : decode cX3_putNewLink 1 = .ok (.iload_n 1, 1) := by decide +kernel
theorem dX3_putNewLink_2 : decode cX3_putNewLink 2 = .ok (.iconst 0, 1) := by decide +kernel
theorem dX3_putNewLink_3 : decode cX3_putNewLink 3 = .ok (.iload_n 2, 1) := by decide +kernel
theorem dX3_putNewLink_4 : decode cX3_putNewLink 4 = .ok (.invokevirtual 85, 3) := by decide +kernel
theorem dX3_putNewLink_7 : decode cX3_putNewLink 7 = .ok (.aload_n 0, 1) := by decide +kernel
theorem dX3_putNewLink_8 : decode cX3_putNewLink 8 = .ok (.iload_n 1, 1) := by decide +kernel
theorem dX3_putNewLink_9 : decode cX3_putNewLink 9 = .ok (.iconst 1, 1) := by decide +kernel
theorem dX3_putNewLink_10 : decode cX3_putNewLink 10 = .ok (.iconst 0, 1) := by decide +kernel
theorem dX3_putNewLink_11 : decode cX3_putNewLink 11 = .ok (.invokevirtual 85, 3) := by decide +kernel
theorem dX3_putNewLink_14 : decode cX3_putNewLink 14 = .ok (.return_, 1) := by decide +kernel
theorem dX3_takesOrder_0 : decode cX3_takesOrder 0 = .ok (.aload_n 0, 1) := by decide +kernel
theorem dX3_takesOrder_1 : decode cX3_takesOrder 1 = .ok (.getfield 54, 3) := by decide +kernel
theorem dX3_takesOrder_4 : decode cX3_takesOrder 4 = .ok (.iconst 4, 1) := by decide +kernel
theorem dX3_takesOrder_5 : decode cX3_takesOrder 5 = .ok (.if_icmp .ge 7, 3) := by decide +kernel
theorem dX3_takesOrder_8 : decode cX3_takesOrder 8 = .ok (.iconst 1, 1) := by decide +kernel
theorem dX3_takesOrder_9 : decode cX3_takesOrder 9 = .ok (.goto 4, 3) := by decide +kernel
theorem dX3_takesOrder_12 : decode cX3_takesOrder 12 = .ok (.iconst 0, 1) := by decide +kernel
theorem dX3_takesOrder_13 : decode cX3_takesOrder 13 = .ok (.ireturn, 1) := by decide +kernel
theorem dX3_addOrder_0 : decode cX3_addOrder 0 = .ok (.aload_n 0, 1) := by decide +kernel
theorem dX3_addOrder_1 : decode cX3_addOrder 1 = .ok (.invokevirtual 89, 3) := by decide +kernel
theorem dX3_addOrder_4 : decode cX3_addOrder 4 = .ok (.ifCond .eq 73, 3) := by decide +kernel
theorem dX3_addOrder_7 : decode cX3_addOrder 7 = .ok (.aload_n 0, 1) := by decide +kernel
theorem dX3_addOrder_8 : decode cX3_addOrder 8 = .ok (.getfield 54, 3) := by decide +kernel
theorem dX3_addOrder_11 : decode cX3_addOrder 11 = .ok (.iconst 5, 1) := by decide +kernel
theorem dX3_addOrder_12 : decode cX3_addOrder 12 = .ok (.imul, 1) := by decide +kernel
theorem dX3_addOrder_13 : decode cX3_addOrder 13 = .ok (.istore 6, 2) := by decide +kernel
theorem dX3_addOrder_15 : decode cX3_addOrder 15 = .ok (.aload_n 0, 1) := by decide +kernel
theorem dX3_addOrder_16 : decode cX3_addOrder 16 = .ok (.getfield 18, 3) := by decide +kernel
theorem dX3_addOrder_19 : decode cX3_addOrder 19 = .ok (.iload 6, 2) := by decide +kernel
theorem dX3_addOrder_21 : decode cX3_addOrder 21 = .ok (.iconst 0, 1) := by decide +kernel
theorem dX3_addOrder_22 : decode cX3_addOrder 22 = .ok (.iadd, 1) := by decide +kernel
theorem dX3_addOrder_23 : decode cX3_addOrder 23 = .ok (.iload_n 1, 1) := by decide +kernel
theorem dX3_addOrder_24 : decode cX3_addOrder 24 = .ok (.iastore, 1) := by decide +kernel
theorem dX3_addOrder_25 : decode cX3_addOrder 25 = .ok (.aload_n 0, 1) := by decide +kernel
theorem dX3_addOrder_26 : decode cX3_addOrder 26 = .ok (.getfield 18, 3) := by decide +kernel
theorem dX3_addOrder_29 : decode cX3_addOrder 29 = .ok (.iload 6, 2) := by decide +kernel
theorem dX3_addOrder_31 : decode cX3_addOrder 31 = .ok (.iconst 1, 1) := by decide +kernel
theorem dX3_addOrder_32 : decode cX3_addOrder 32 = .ok (.iadd, 1) := by decide +kernel
theorem dX3_addOrder_33 : decode cX3_addOrder 33 = .ok (.iload_n 2, 1) := by decide +kernel
theorem dX3_addOrder_34 : decode cX3_addOrder 34 = .ok (.iastore, 1) := by decide +kernel
theorem dX3_addOrder_35 : decode cX3_addOrder 35 = .ok (.aload_n 0, 1) := by decide +kernel
theorem dX3_addOrder_36 : decode cX3_addOrder 36 = .ok (.getfield 18, 3) := by decide +kernel
theorem dX3_addOrder_39 : decode cX3_addOrder 39 = .ok (.iload 6, 2) := by decide +kernel
theorem dX3_addOrder_41 : decode cX3_addOrder 41 = .ok (.iconst 2, 1) := by decide +kernel
theorem dX3_addOrder_42 : decode cX3_addOrder 42 = .ok (.iadd, 1) := by decide +kernel
theorem dX3_addOrder_43 : decode cX3_addOrder 43 = .ok (.iload_n 3, 1) := by decide +kernel
theorem dX3_addOrder_44 : decode cX3_addOrder 44 = .ok (.iastore, 1) := by decide +kernel
theorem dX3_addOrder_45 : decode cX3_addOrder 45 = .ok (.aload_n 0, 1) := by decide +kernel
theorem dX3_addOrder_46 : decode cX3_addOrder 46 = .ok (.getfield 18, 3) := by decide +kernel
theorem dX3_addOrder_49 : decode cX3_addOrder 49 = .ok (.iload 6, 2) := by decide +kernel
theorem dX3_addOrder_51 : decode cX3_addOrder 51 = .ok (.iconst 3, 1) := by decide +kernel
theorem dX3_addOrder_52 : decode cX3_addOrder 52 = .ok (.iadd, 1) := by decide +kernel
theorem dX3_addOrder_53 : decode cX3_addOrder 53 = .ok (.iload 4, 2) := by decide +kernel
theorem dX3_addOrder_55 : decode cX3_addOrder 55 = .ok (.iastore, 1) := by decide +kernel
theorem dX3_addOrder_56 : decode cX3_addOrder 56 = .ok (.aload_n 0, 1) := by decide +kernel
theorem dX3_addOrder_57 : decode cX3_addOrder 57 = .ok (.getfield 18, 3) := by decide +kernel
theorem dX3_addOrder_60 : decode cX3_addOrder 60 = .ok (.iload 6, 2) := by decide +kernel
theorem dX3_addOrder_62 : decode cX3_addOrder 62 = .ok (.iconst 4, 1) := by decide +kernel
theorem dX3_addOrder_63 : decode cX3_addOrder 63 = .ok (.iadd, 1) := by decide +kernel
theorem dX3_addOrder_64 : decode cX3_addOrder 64 = .ok (.iload 5, 2) := by decide +kernel
theorem dX3_addOrder_66 : decode cX3_addOrder 66 = .ok (.iastore, 1) := by decide +kernel
theorem dX3_addOrder_67 : decode cX3_addOrder 67 = .ok (.aload_n 0, 1) := by decide +kernel
theorem dX3_addOrder_68 : decode cX3_addOrder 68 = .ok (.dup, 1) := by decide +kernel
theorem dX3_addOrder_69 : decode cX3_addOrder 69 = .ok (.getfield 54, 3) := by decide +kernel
theorem dX3_addOrder_72 : decode cX3_addOrder 72 = .ok (.iconst 1, 1) := by decide +kernel
theorem dX3_addOrder_73 : decode cX3_addOrder 73 = .ok (.iadd, 1) := by decide +kernel
theorem dX3_addOrder_74 : decode cX3_addOrder 74 = .ok (.putfield 54, 3) := by decide +kernel
theorem dX3_addOrder_77 : decode cX3_addOrder 77 = .ok (.return_, 1) := by decide +kernel
theorem dX3_hasDrive_0 : decode cX3_hasDrive 0 = .ok (.iload_n 1, 1) := by decide +kernel
theorem dX3_hasDrive_1 : decode cX3_hasDrive 1 = .ok (.ifCond .lt 15, 3) := by decide +kernel
theorem dX3_hasDrive_4 : decode cX3_hasDrive 4 = .ok (.iload_n 1, 1) := by decide +kernel
theorem dX3_hasDrive_5 : decode cX3_hasDrive 5 = .ok (.aload_n 0, 1) := by decide +kernel
theorem dX3_hasDrive_6 : decode cX3_hasDrive 6 = .ok (.getfield 34, 3) := by decide +kernel
theorem dX3_hasDrive_9 : decode cX3_hasDrive 9 = .ok (.if_icmp .ge 7, 3) := by decide +kernel
theorem dX3_hasDrive_12 : decode cX3_hasDrive 12 = .ok (.iconst 1, 1) := by decide +kernel
theorem dX3_hasDrive_13 : decode cX3_hasDrive 13 = .ok (.goto 4, 3) := by decide +kernel
theorem dX3_hasDrive_16 : decode cX3_hasDrive 16 = .ok (.iconst 0, 1) := by decide +kernel
theorem dX3_hasDrive_17 : decode cX3_hasDrive 17 = .ok (.ireturn, 1) := by decide +kernel
theorem dX3_hasLink_0 : decode cX3_hasLink 0 = .ok (.iload_n 1, 1) := by decide +kernel
theorem dX3_hasLink_1 : decode cX3_hasLink 1 = .ok (.ifCond .lt 15, 3) := by decide +kernel
theorem dX3_hasLink_4 : decode cX3_hasLink 4 = .ok (.iload_n 1, 1) := by decide +kernel
theorem dX3_hasLink_5 : decode cX3_hasLink 5 = .ok (.aload_n 0, 1) := by decide +kernel
theorem dX3_hasLink_6 : decode cX3_hasLink 6 = .ok (.invokevirtual 92, 3) := by decide +kernel
theorem dX3_hasLink_9 : decode cX3_hasLink 9 = .ok (.if_icmp .ge 7, 3) := by decide +kernel
theorem dX3_hasLink_12 : decode cX3_hasLink 12 = .ok (.iconst 1, 1) := by decide +kernel
theorem dX3_hasLink_13 : decode cX3_hasLink 13 = .ok (.goto 4, 3) := by decide +kernel
theorem dX3_hasLink_16 : decode cX3_hasLink 16 = .ok (.iconst 0, 1) := by decide +kernel
theorem dX3_hasLink_17 : decode cX3_hasLink 17 = .ok (.ireturn, 1) := by decide +kernel
theorem dX3_hasOrder_0 : decode cX3_hasOrder 0 = .ok (.iload_n 1, 1) := by decide +kernel
theorem dX3_hasOrder_1 : decode cX3_hasOrder 1 = .ok (.ifCond .lt 15, 3) := by decide +kernel
theorem dX3_hasOrder_4 : decode cX3_hasOrder 4 = .ok (.iload_n 1, 1) := by decide +kernel
theorem dX3_hasOrder_5 : decode cX3_hasOrder 5 = .ok (.aload_n 0, 1) := by decide +kernel
theorem dX3_hasOrder_6 : decode cX3_hasOrder 6 = .ok (.getfield 54, 3) := by decide +kernel
theorem dX3_hasOrder_9 : decode cX3_hasOrder 9 = .ok (.if_icmp .ge 7, 3) := by decide +kernel
theorem dX3_hasOrder_12 : decode cX3_hasOrder 12 = .ok (.iconst 1, 1) := by decide +kernel
theorem dX3_hasOrder_13 : decode cX3_hasOrder 13 = .ok (.goto 4, 3) := by decide +kernel
theorem dX3_hasOrder_16 : decode cX3_hasOrder 16 = .ok (.iconst 0, 1) := by decide +kernel
theorem dX3_hasOrder_17 : decode cX3_hasOrder 17 = .ok (.ireturn, 1) := by decide +kernel
theorem dX3_links_0 : decode cX3_links 0 = .ok (.aload_n 0, 1) := by decide +kernel
theorem dX3_links_1 : decode cX3_links 1 = .ok (.getfield 38, 3) := by decide +kernel
theorem dX3_links_4 : decode cX3_links 4 = .ok (.ifCond .eq 12, 3) := by decide +kernel
theorem dX3_links_7 : decode cX3_links 7 = .ok (.aload_n 0, 1) := by decide +kernel
theorem dX3_links_8 : decode cX3_links 8 = .ok (.getfield 34, 3) := by decide +kernel
theorem dX3_links_11 : decode cX3_links 11 = .ok (.iconst 1, 1) := by decide +kernel
theorem dX3_links_12 : decode cX3_links 12 = .ok (.iadd, 1) := by decide +kernel
theorem dX3_links_13 : decode cX3_links 13 = .ok (.goto 7, 3) := by decide +kernel
theorem dX3_links_16 : decode cX3_links 16 = .ok (.aload_n 0, 1) := by decide +kernel
theorem dX3_links_17 : decode cX3_links 17 = .ok (.getfield 34, 3) := by decide +kernel
theorem dX3_links_20 : decode cX3_links 20 = .ok (.ireturn, 1) := by decide +kernel
theorem dX3_ofDrive_0 : decode cX3_ofDrive 0 = .ok (.aload_n 0, 1) := by decide +kernel
theorem dX3_ofDrive_1 : decode cX3_ofDrive 1 = .ok (.getfield 9, 3) := by decide +kernel
theorem dX3_ofDrive_4 : decode cX3_ofDrive 4 = .ok (.iload_n 1, 1) := by decide +kernel
theorem dX3_ofDrive_5 : decode cX3_ofDrive 5 = .ok (.bipush 9, 2) := by decide +kernel
theorem dX3_ofDrive_7 : decode cX3_ofDrive 7 = .ok (.imul, 1) := by decide +kernel
theorem dX3_ofDrive_8 : decode cX3_ofDrive 8 = .ok (.iload_n 2, 1) := by decide +kernel
theorem dX3_ofDrive_9 : decode cX3_ofDrive 9 = .ok (.iadd, 1) := by decide +kernel
theorem dX3_ofDrive_10 : decode cX3_ofDrive 10 = .ok (.iaload, 1) := by decide +kernel
theorem dX3_ofDrive_11 : decode cX3_ofDrive 11 = .ok (.ireturn, 1) := by decide +kernel
theorem dX3_putDrive_0 : decode cX3_putDrive 0 = .ok (.aload_n 0, 1) := by decide +kernel
theorem dX3_putDrive_1 : decode cX3_putDrive 1 = .ok (.getfield 9, 3) := by decide +kernel
theorem dX3_putDrive_4 : decode cX3_putDrive 4 = .ok (.iload_n 1, 1) := by decide +kernel
theorem dX3_putDrive_5 : decode cX3_putDrive 5 = .ok (.bipush 9, 2) := by decide +kernel
theorem dX3_putDrive_7 : decode cX3_putDrive 7 = .ok (.imul, 1) := by decide +kernel
theorem dX3_putDrive_8 : decode cX3_putDrive 8 = .ok (.iload_n 2, 1) := by decide +kernel
theorem dX3_putDrive_9 : decode cX3_putDrive 9 = .ok (.iadd, 1) := by decide +kernel
theorem dX3_putDrive_10 : decode cX3_putDrive 10 = .ok (.iload_n 3, 1) := by decide +kernel
theorem dX3_putDrive_11 : decode cX3_putDrive 11 = .ok (.iastore, 1) := by decide +kernel
theorem dX3_putDrive_12 : decode cX3_putDrive 12 = .ok (.return_, 1) := by decide +kernel
theorem dX3_ofLink_0 : decode cX3_ofLink 0 = .ok (.aload_n 0, 1) := by decide +kernel
theorem dX3_ofLink_1 : decode cX3_ofLink 1 = .ok (.getfield 15, 3) := by decide +kernel
theorem dX3_ofLink_4 : decode cX3_ofLink 4 = .ok (.iload_n 1, 1) := by decide +kernel
theorem dX3_ofLink_5 : decode cX3_ofLink 5 = .ok (.iconst 2, 1) := by decide +kernel
theorem dX3_ofLink_6 : decode cX3_ofLink 6 = .ok (.imul, 1) := by decide +kernel
theorem dX3_ofLink_7 : decode cX3_ofLink 7 = .ok (.iload_n 2, 1) := by decide +kernel
theorem dX3_ofLink_8 : decode cX3_ofLink 8 = .ok (.iadd, 1) := by decide +kernel
theorem dX3_ofLink_9 : decode cX3_ofLink 9 = .ok (.iaload, 1) := by decide +kernel
theorem dX3_ofLink_10 : decode cX3_ofLink 10 = .ok (.ireturn, 1) := by decide +kernel
theorem dX3_putLink_0 : decode cX3_putLink 0 = .ok (.aload_n 0, 1) := by decide +kernel
theorem dX3_putLink_1 : decode cX3_putLink 1 = .ok (.getfield 15, 3) := by decide +kernel
theorem dX3_putLink_4 : decode cX3_putLink 4 = .ok (.iload_n 1, 1) := by decide +kernel
theorem dX3_putLink_5 : decode cX3_putLink 5 = .ok (.iconst 2, 1) := by decide +kernel
theorem dX3_putLink_6 : decode cX3_putLink 6 = .ok (.imul, 1) := by decide +kernel
theorem dX3_putLink_7 : decode cX3_putLink 7 = .ok (.iload_n 2, 1) := by decide +kernel
theorem dX3_putLink_8 : decode cX3_putLink 8 = .ok (.iadd, 1) := by decide +kernel
theorem dX3_putLink_9 : decode cX3_putLink 9 = .ok (.iload_n 3, 1) := by decide +kernel
theorem dX3_putLink_10 : decode cX3_putLink 10 = .ok (.iastore, 1) := by decide +kernel
theorem dX3_putLink_11 : decode cX3_putLink 11 = .ok (.return_, 1) := by decide +kernel
theorem dX3_ofOrder_0 : decode cX3_ofOrder 0 = .ok (.aload_n 0, 1) := by decide +kernel
theorem dX3_ofOrder_1 : decode cX3_ofOrder 1 = .ok (.getfield 18, 3) := by decide +kernel
theorem dX3_ofOrder_4 : decode cX3_ofOrder 4 = .ok (.iload_n 1, 1) := by decide +kernel
theorem dX3_ofOrder_5 : decode cX3_ofOrder 5 = .ok (.iconst 5, 1) := by decide +kernel
theorem dX3_ofOrder_6 : decode cX3_ofOrder 6 = .ok (.imul, 1) := by decide +kernel
theorem dX3_ofOrder_7 : decode cX3_ofOrder 7 = .ok (.iload_n 2, 1) := by decide +kernel
theorem dX3_ofOrder_8 : decode cX3_ofOrder 8 = .ok (.iadd, 1) := by decide +kernel
theorem dX3_ofOrder_9 : decode cX3_ofOrder 9 = .ok (.iaload, 1) := by decide +kernel
theorem dX3_ofOrder_10 : decode cX3_ofOrder 10 = .ok (.ireturn, 1) := by decide +kernel
theorem dX3_ofResult_0 : decode cX3_ofResult 0 = .ok (.aload_n 0, 1) := by decide +kernel
theorem dX3_ofResult_1 : decode cX3_ofResult 1 = .ok (.getfield 21, 3) := by decide +kernel
theorem dX3_ofResult_4 : decode cX3_ofResult 4 = .ok (.iload_n 1, 1) := by decide +kernel
theorem dX3_ofResult_5 : decode cX3_ofResult 5 = .ok (.iconst 2, 1) := by decide +kernel
theorem dX3_ofResult_6 : decode cX3_ofResult 6 = .ok (.imul, 1) := by decide +kernel
theorem dX3_ofResult_7 : decode cX3_ofResult 7 = .ok (.iload_n 2, 1) := by decide +kernel
theorem dX3_ofResult_8 : decode cX3_ofResult 8 = .ok (.iadd, 1) := by decide +kernel
theorem dX3_ofResult_9 : decode cX3_ofResult 9 = .ok (.iaload, 1) := by decide +kernel
theorem dX3_ofResult_10 : decode cX3_ofResult 10 = .ok (.ireturn, 1) := by decide +kernel
theorem dX3_putResult_0 : decode cX3_putResult 0 = .ok (.aload_n 0, 1) := by decide +kernel
theorem dX3_putResult_1 : decode cX3_putResult 1 = .ok (.getfield 21, 3) := by decide +kernel
theorem dX3_putResult_4 : decode cX3_putResult 4 = .ok (.iload_n 1, 1) := by decide +kernel
theorem dX3_putResult_5 : decode cX3_putResult 5 = .ok (.iconst 2, 1) := by decide +kernel
theorem dX3_putResult_6 : decode cX3_putResult 6 = .ok (.imul, 1) := by decide +kernel
theorem dX3_putResult_7 : decode cX3_putResult 7 = .ok (.iconst 0, 1) := by decide +kernel
theorem dX3_putResult_8 : decode cX3_putResult 8 = .ok (.iadd, 1) := by decide +kernel
theorem dX3_putResult_9 : decode cX3_putResult 9 = .ok (.iload_n 2, 1) := by decide +kernel
theorem dX3_putResult_10 : decode cX3_putResult 10 = .ok (.iastore, 1) := by decide +kernel
theorem dX3_putResult_11 : decode cX3_putResult 11 = .ok (.aload_n 0, 1) := by decide +kernel
theorem dX3_putResult_12 : decode cX3_putResult 12 = .ok (.getfield 21, 3) := by decide +kernel
theorem dX3_putResult_15 : decode cX3_putResult 15 = .ok (.iload_n 1, 1) := by decide +kernel
theorem dX3_putResult_16 : decode cX3_putResult 16 = .ok (.iconst 2, 1) := by decide +kernel
theorem dX3_putResult_17 : decode cX3_putResult 17 = .ok (.imul, 1) := by decide +kernel
theorem dX3_putResult_18 : decode cX3_putResult 18 = .ok (.iconst 1, 1) := by decide +kernel
theorem dX3_putResult_19 : decode cX3_putResult 19 = .ok (.iadd, 1) := by decide +kernel
theorem dX3_putResult_20 : decode cX3_putResult 20 = .ok (.iload_n 3, 1) := by decide +kernel
theorem dX3_putResult_21 : decode cX3_putResult 21 = .ok (.iastore, 1) := by decide +kernel
theorem dX3_putResult_22 : decode cX3_putResult 22 = .ok (.return_, 1) := by decide +kernel
theorem dX3_isSafe_0 : decode cX3_isSafe 0 = .ok (.aload_n 0, 1) := by decide +kernel
theorem dX3_isSafe_1 : decode cX3_isSafe 1 = .ok (.getfield 9, 3) := by decide +kernel
theorem dX3_isSafe_4 : decode cX3_isSafe 4 = .ok (.iload_n 1, 1) := by decide +kernel
theorem dX3_isSafe_5 : decode cX3_isSafe 5 = .ok (.bipush 9, 2) := by decide +kernel
theorem dX3_isSafe_7 : decode cX3_isSafe 7 = .ok (.imul, 1) := by decide +kernel
theorem dX3_isSafe_8 : decode cX3_isSafe 8 = .ok (.bipush 6, 2) := by decide +kernel
theorem dX3_isSafe_10 : decode cX3_isSafe 10 = .ok (.iadd, 1) := by decide +kernel
theorem dX3_isSafe_11 : decode cX3_isSafe 11 = .ok (.iaload, 1) := by decide +kernel
theorem dX3_isSafe_12 : decode cX3_isSafe 12 = .ok (.iconst 1, 1) := by decide +kernel
theorem dX3_isSafe_13 : decode cX3_isSafe 13 = .ok (.if_icmp .ne 7, 3) := by decide +kernel
theorem dX3_isSafe_16 : decode cX3_isSafe 16 = .ok (.iconst 1, 1) := by decide +kernel
theorem dX3_isSafe_17 : decode cX3_isSafe 17 = .ok (.goto 4, 3) := by decide +kernel
theorem dX3_isSafe_20 : decode cX3_isSafe 20 = .ok (.iconst 0, 1) := by decide +kernel
theorem dX3_isSafe_21 : decode cX3_isSafe 21 = .ok (.ireturn, 1) := by decide +kernel
theorem dX3_isCut_0 : decode cX3_isCut 0 = .ok (.aload_n 0, 1) := by decide +kernel
theorem dX3_isCut_1 : decode cX3_isCut 1 = .ok (.getfield 15, 3) := by decide +kernel
theorem dX3_isCut_4 : decode cX3_isCut 4 = .ok (.iload_n 1, 1) := by decide +kernel
theorem dX3_isCut_5 : decode cX3_isCut 5 = .ok (.iconst 2, 1) := by decide +kernel
theorem dX3_isCut_6 : decode cX3_isCut 6 = .ok (.imul, 1) := by decide +kernel
theorem dX3_isCut_7 : decode cX3_isCut 7 = .ok (.iconst 1, 1) := by decide +kernel
theorem dX3_isCut_8 : decode cX3_isCut 8 = .ok (.iadd, 1) := by decide +kernel
theorem dX3_isCut_9 : decode cX3_isCut 9 = .ok (.iaload, 1) := by decide +kernel
theorem dX3_isCut_10 : decode cX3_isCut 10 = .ok (.iconst 1, 1) := by decide +kernel
theorem dX3_isCut_11 : decode cX3_isCut 11 = .ok (.if_icmp .ne 7, 3) := by decide +kernel
theorem dX3_isCut_14 : decode cX3_isCut 14 = .ok (.iconst 1, 1) := by decide +kernel
theorem dX3_isCut_15 : decode cX3_isCut 15 = .ok (.goto 4, 3) := by decide +kernel
theorem dX3_isCut_18 : decode cX3_isCut 18 = .ok (.iconst 0, 1) := by decide +kernel
theorem dX3_isCut_19 : decode cX3_isCut 19 = .ok (.ireturn, 1) := by decide +kernel
theorem dX3_safeDrives_0 : decode cX3_safeDrives 0 = .ok (.iconst 0, 1) := by decide +kernel
theorem dX3_safeDrives_1 : decode cX3_safeDrives 1 = .ok (.istore_n 1, 1) := by decide +kernel
theorem dX3_safeDrives_2 : decode cX3_safeDrives 2 = .ok (.iconst 0, 1) := by decide +kernel
theorem dX3_safeDrives_3 : decode cX3_safeDrives 3 = .ok (.istore_n 2, 1) := by decide +kernel
theorem dX3_safeDrives_4 : decode cX3_safeDrives 4 = .ok (.iload_n 2, 1) := by decide +kernel
theorem dX3_safeDrives_5 : decode cX3_safeDrives 5 = .ok (.aload_n 0, 1) := by decide +kernel
theorem dX3_safeDrives_6 : decode cX3_safeDrives 6 = .ok (.getfield 34, 3) := by decide +kernel
theorem dX3_safeDrives_9 : decode cX3_safeDrives 9 = .ok (.if_icmp .ge 19, 3) := by decide +kernel
theorem dX3_safeDrives_12 : decode cX3_safeDrives 12 = .ok (.iload_n 1, 1) := by decide +kernel
theorem dX3_safeDrives_13 : decode cX3_safeDrives 13 = .ok (.aload_n 0, 1) := by decide +kernel
theorem dX3_safeDrives_14 : decode cX3_safeDrives 14 = .ok (.iload_n 2, 1) := by decide +kernel
theorem dX3_safeDrives_15 : decode cX3_safeDrives 15 = .ok (.bipush 6, 2) := by decide +kernel
theorem dX3_safeDrives_17 : decode cX3_safeDrives 17 = .ok (.invokevirtual 96, 3) := by decide +kernel
theorem dX3_safeDrives_20 : decode cX3_safeDrives 20 = .ok (.iadd, 1) := by decide +kernel
theorem dX3_safeDrives_21 : decode cX3_safeDrives 21 = .ok (.istore_n 1, 1) := by decide +kernel
theorem dX3_safeDrives_22 : decode cX3_safeDrives 22 = .ok (.iinc 2 1, 3) := by decide +kernel
theorem dX3_safeDrives_25 : decode cX3_safeDrives 25 = .ok (.goto (-21), 3) := by decide +kernel
theorem dX3_safeDrives_28 : decode cX3_safeDrives 28 = .ok (.iload_n 1, 1) := by decide +kernel
theorem dX3_safeDrives_29 : decode cX3_safeDrives 29 = .ok (.ireturn, 1) := by decide +kernel
theorem dX3_cutLinks_0 : decode cX3_cutLinks 0 = .ok (.iconst 0, 1) := by decide +kernel
theorem dX3_cutLinks_1 : decode cX3_cutLinks 1 = .ok (.istore_n 1, 1) := by decide +kernel
theorem dX3_cutLinks_2 : decode cX3_cutLinks 2 = .ok (.iconst 0, 1) := by decide +kernel
theorem dX3_cutLinks_3 : decode cX3_cutLinks 3 = .ok (.istore_n 2, 1) := by decide +kernel
theorem dX3_cutLinks_4 : decode cX3_cutLinks 4 = .ok (.iload_n 2, 1) := by decide +kernel
theorem dX3_cutLinks_5 : decode cX3_cutLinks 5 = .ok (.aload_n 0, 1) := by decide +kernel
theorem dX3_cutLinks_6 : decode cX3_cutLinks 6 = .ok (.invokevirtual 92, 3) := by decide +kernel
theorem dX3_cutLinks_9 : decode cX3_cutLinks 9 = .ok (.if_icmp .ge 18, 3) := by decide +kernel
theorem dX3_cutLinks_12 : decode cX3_cutLinks 12 = .ok (.iload_n 1, 1) := by decide +kernel
theorem dX3_cutLinks_13 : decode cX3_cutLinks 13 = .ok (.aload_n 0, 1) := by decide +kernel
theorem dX3_cutLinks_14 : decode cX3_cutLinks 14 = .ok (.iload_n 2, 1) := by decide +kernel
theorem dX3_cutLinks_15 : decode cX3_cutLinks 15 = .ok (.iconst 1, 1) := by decide +kernel
theorem dX3_cutLinks_16 : decode cX3_cutLinks 16 = .ok (.invokevirtual 100, 3) := by decide +kernel
theorem dX3_cutLinks_19 : decode cX3_cutLinks 19 = .ok (.iadd, 1) := by decide +kernel
theorem dX3_cutLinks_20 : decode cX3_cutLinks 20 = .ok (.istore_n 1, 1) := by decide +kernel
theorem dX3_cutLinks_21 : decode cX3_cutLinks 21 = .ok (.iinc 2 1, 3) := by decide +kernel
theorem dX3_cutLinks_24 : decode cX3_cutLinks 24 = .ok (.goto (-20), 3) := by decide +kernel
theorem dX3_cutLinks_27 : decode cX3_cutLinks 27 = .ok (.iload_n 1, 1) := by decide +kernel
theorem dX3_cutLinks_28 : decode cX3_cutLinks 28 = .ok (.ireturn, 1) := by decide +kernel
theorem dX3_isWhole_0 : decode cX3_isWhole 0 = .ok (.aload_n 0, 1) := by decide +kernel
theorem dX3_isWhole_1 : decode cX3_isWhole 1 = .ok (.getfield 38, 3) := by decide +kernel
theorem dX3_isWhole_4 : decode cX3_isWhole 4 = .ok (.ifCond .eq 14, 3) := by decide +kernel
theorem dX3_isWhole_7 : decode cX3_isWhole 7 = .ok (.aload_n 0, 1) := by decide +kernel
theorem dX3_isWhole_8 : decode cX3_isWhole 8 = .ok (.invokevirtual 103, 3) := by decide +kernel
theorem dX3_isWhole_11 : decode cX3_isWhole 11 = .ok (.ifCond .ne 7, 3) := by decide +kernel
theorem dX3_isWhole_14 : decode cX3_isWhole 14 = .ok (.iconst 1, 1) := by decide +kernel
theorem dX3_isWhole_15 : decode cX3_isWhole 15 = .ok (.goto 4, 3) := by decide +kernel
theorem dX3_isWhole_18 : decode cX3_isWhole 18 = .ok (.iconst 0, 1) := by decide +kernel
theorem dX3_isWhole_19 : decode cX3_isWhole 19 = .ok (.ireturn, 1) := by decide +kernel
theorem dX3_endOfA_0 : decode cX3_endOfA 0 = .ok (.iconst 0, 1) := by decide +kernel
theorem dX3_endOfA_1 : decode cX3_endOfA 1 = .ok (.istore_n 1, 1) := by decide +kernel
theorem dX3_endOfA_2 : decode cX3_endOfA 2 = .ok (.iload_n 1, 1) := by decide +kernel
theorem dX3_endOfA_3 : decode cX3_endOfA 3 = .ok (.aload_n 0, 1) := by decide +kernel
theorem dX3_endOfA_4 : decode cX3_endOfA 4 = .ok (.getfield 34, 3) := by decide +kernel
theorem dX3_endOfA_7 : decode cX3_endOfA 7 = .ok (.if_icmp .ge 19, 3) := by decide +kernel
theorem dX3_endOfA_10 : decode cX3_endOfA 10 = .ok (.aload_n 0, 1) := by decide +kernel
theorem dX3_endOfA_11 : decode cX3_endOfA 11 = .ok (.iload_n 1, 1) := by decide +kernel
theorem dX3_endOfA_12 : decode cX3_endOfA 12 = .ok (.invokevirtual 106, 3) := by decide +kernel
theorem dX3_endOfA_15 : decode cX3_endOfA 15 = .ok (.ifCond .eq 5, 3) := by decide +kernel
theorem dX3_endOfA_18 : decode cX3_endOfA 18 = .ok (.iload_n 1, 1) := by decide +kernel
theorem dX3_endOfA_19 : decode cX3_endOfA 19 = .ok (.ireturn, 1) := by decide +kernel
theorem dX3_endOfA_20 : decode cX3_endOfA 20 = .ok (.iinc 1 1, 3) := by decide +kernel
theorem dX3_endOfA_23 : decode cX3_endOfA 23 = .ok (.goto (-21), 3) := by decide +kernel
theorem dX3_endOfA_26 : decode cX3_endOfA 26 = .ok (.aload_n 0, 1) := by decide +kernel
theorem dX3_endOfA_27 : decode cX3_endOfA 27 = .ok (.getfield 34, 3) := by decide +kernel
theorem dX3_endOfA_30 : decode cX3_endOfA 30 = .ok (.ireturn, 1) := by decide +kernel
theorem dX3_startOfB_0 : decode cX3_startOfB 0 = .ok (.aload_n 0, 1) := by decide +kernel
theorem dX3_startOfB_1 : decode cX3_startOfB 1 = .ok (.getfield 38, 3) := by decide +kernel
theorem dX3_startOfB_4 : decode cX3_startOfB 4 = .ok (.ifCond .ne 8, 3) := by decide +kernel
theorem dX3_startOfB_7 : decode cX3_startOfB 7 = .ok (.aload_n 0, 1) := by decide +kernel
theorem dX3_startOfB_8 : decode cX3_startOfB 8 = .ok (.getfield 34, 3) := by decide +kernel
theorem dX3_startOfB_11 : decode cX3_startOfB 11 = .ok (.ireturn, 1) := by decide +kernel
theorem dX3_startOfB_12 : decode cX3_startOfB 12 = .ok (.aload_n 0, 1) := by decide +kernel
theorem dX3_startOfB_13 : decode cX3_startOfB 13 = .ok (.getfield 34, 3) := by decide +kernel
theorem dX3_startOfB_16 : decode cX3_startOfB 16 = .ok (.istore_n 1, 1) := by decide +kernel
theorem dX3_startOfB_17 : decode cX3_startOfB 17 = .ok (.iload_n 1, 1) := by decide +kernel
theorem dX3_startOfB_18 : decode cX3_startOfB 18 = .ok (.ifCond .lt 19, 3) := by decide +kernel
theorem dX3_startOfB_21 : decode cX3_startOfB 21 = .ok (.aload_n 0, 1) := by decide +kernel
theorem dX3_startOfB_22 : decode cX3_startOfB 22 = .ok (.iload_n 1, 1) := by decide +kernel
theorem dX3_startOfB_23 : decode cX3_startOfB 23 = .ok (.invokevirtual 106, 3) := by decide +kernel
theorem dX3_startOfB_26 : decode cX3_startOfB 26 = .ok (.ifCond .eq 5, 3) := by decide +kernel
theorem dX3_startOfB_29 : decode cX3_startOfB 29 = .ok (.iload_n 1, 1) := by decide +kernel
theorem dX3_startOfB_30 : decode cX3_startOfB 30 = .ok (.ireturn, 1) := by decide +kernel
theorem dX3_startOfB_31 : decode cX3_startOfB 31 = .ok (.iinc 1 (-1), 3) := by decide +kernel
theorem dX3_startOfB_34 : decode cX3_startOfB 34 = .ok (.goto (-17), 3) := by decide +kernel
theorem dX3_startOfB_37 : decode cX3_startOfB 37 = .ok (.aload_n 0, 1) := by decide +kernel
theorem dX3_startOfB_38 : decode cX3_startOfB 38 = .ok (.getfield 34, 3) := by decide +kernel
theorem dX3_startOfB_41 : decode cX3_startOfB 41 = .ok (.ireturn, 1) := by decide +kernel
theorem dX3_bitsOfA_0 : decode cX3_bitsOfA 0 = .ok (.iconst 1, 1) := by decide +kernel
theorem dX3_bitsOfA_1 : decode cX3_bitsOfA 1 = .ok (.aload_n 0, 1) := by decide +kernel
theorem dX3_bitsOfA_2 : decode cX3_bitsOfA 2 = .ok (.invokevirtual 110, 3) := by decide +kernel
theorem dX3_bitsOfA_5 : decode cX3_bitsOfA 5 = .ok (.ishl, 1) := by decide +kernel
theorem dX3_bitsOfA_6 : decode cX3_bitsOfA 6 = .ok (.iconst 1, 1) := by decide +kernel
theorem dX3_bitsOfA_7 : decode cX3_bitsOfA 7 = .ok (.isub, 1) := by decide +kernel
theorem dX3_bitsOfA_8 : decode cX3_bitsOfA 8 = .ok (.ireturn, 1) := by decide +kernel
theorem dX3_bitsOfB_0 : decode cX3_bitsOfB 0 = .ok (.iconst 1, 1) := by decide +kernel
theorem dX3_bitsOfB_1 : decode cX3_bitsOfB 1 = .ok (.aload_n 0, 1) := by decide +kernel
theorem dX3_bitsOfB_2 : decode cX3_bitsOfB 2 = .ok (.getfield 34, 3) := by decide +kernel
theorem dX3_bitsOfB_5 : decode cX3_bitsOfB 5 = .ok (.ishl, 1) := by decide +kernel
theorem dX3_bitsOfB_6 : decode cX3_bitsOfB 6 = .ok (.iconst 1, 1) := by decide +kernel
theorem dX3_bitsOfB_7 : decode cX3_bitsOfB 7 = .ok (.aload_n 0, 1) := by decide +kernel
theorem dX3_bitsOfB_8 : decode cX3_bitsOfB 8 = .ok (.invokevirtual 113, 3) := by decide +kernel
theorem dX3_bitsOfB_11 : decode cX3_bitsOfB 11 = .ok (.ishl, 1) := by decide +kernel
theorem dX3_bitsOfB_12 : decode cX3_bitsOfB 12 = .ok (.isub, 1) := by decide +kernel
theorem dX3_bitsOfB_13 : decode cX3_bitsOfB 13 = .ok (.ireturn, 1) := by decide +kernel
theorem dX3_bitsOfTurning_0 : decode cX3_bitsOfTurning 0 = .ok (.aload_n 0, 1) := by decide +kernel
theorem dX3_bitsOfTurning_1 : decode cX3_bitsOfTurning 1 = .ok (.invokevirtual 116, 3) := by decide +kernel
theorem dX3_bitsOfTurning_4 : decode cX3_bitsOfTurning 4 = .ok (.ifCond .eq 7, 3) := by decide +kernel
theorem dX3_bitsOfTurning_7 : decode cX3_bitsOfTurning 7 = .ok (.iconst 0, 1) := by decide +kernel
theorem dX3_bitsOfTurning_8 : decode cX3_bitsOfTurning 8 = .ok (.goto 12, 3) := by decide +kernel
theorem dX3_bitsOfTurning_11 : decode cX3_bitsOfTurning 11 = .ok (.aload_n 0, 1) := by decide +kernel
theorem dX3_bitsOfTurning_12 : decode cX3_bitsOfTurning 12 = .ok (.invokevirtual 119, 3) := by decide +kernel
theorem dX3_bitsOfTurning_15 : decode cX3_bitsOfTurning 15 = .ok (.aload_n 0, 1) := by decide +kernel
theorem dX3_bitsOfTurning_16 : decode cX3_bitsOfTurning 16 = .ok (.invokevirtual 122, 3) := by decide +kernel
theorem dX3_bitsOfTurning_19 : decode cX3_bitsOfTurning 19 = .ok (.ior, 1) := by decide +kernel
theorem dX3_bitsOfTurning_20 : decode cX3_bitsOfTurning 20 = .ok (.ireturn, 1) := by decide +kernel
theorem dX3_learn_0 : decode cX3_learn 0 = .ok (.iconst 0, 1) := by decide +kernel
theorem dX3_learn_1 : decode cX3_learn 1 = .ok (.istore_n 2, 1) := by decide +kernel
theorem dX3_learn_2 : decode cX3_learn 2 = .ok (.iload_n 2, 1) := by decide +kernel
theorem dX3_learn_3 : decode cX3_learn 3 = .ok (.aload_n 0, 1) := by decide +kernel
theorem dX3_learn_4 : decode cX3_learn 4 = .ok (.getfield 34, 3) := by decide +kernel
theorem dX3_learn_7 : decode cX3_learn 7 = .ok (.if_icmp .ge 32, 3) := by decide +kernel
theorem dX3_learn_10 : decode cX3_learn 10 = .ok (.iload_n 1, 1) := by decide +kernel
theorem dX3_learn_11 : decode cX3_learn 11 = .ok (.iload_n 2, 1) := by decide +kernel
theorem dX3_learn_12 : decode cX3_learn 12 = .ok (.ishr, 1) := by decide +kernel
theorem dX3_learn_13 : decode cX3_learn 13 = .ok (.iconst 1, 1) := by decide +kernel
theorem dX3_learn_14 : decode cX3_learn 14 = .ok (.iand, 1) := by decide +kernel
theorem dX3_learn_15 : decode cX3_learn 15 = .ok (.iconst 1, 1) := by decide +kernel
theorem dX3_learn_16 : decode cX3_learn 16 = .ok (.if_icmp .ne 17, 3) := by decide +kernel
theorem dX3_learn_19 : decode cX3_learn 19 = .ok (.aload_n 0, 1) := by decide +kernel
theorem dX3_learn_20 : decode cX3_learn 20 = .ok (.iload_n 2, 1) := by decide +kernel
theorem dX3_learn_21 : decode cX3_learn 21 = .ok (.bipush 8, 2) := by decide +kernel
theorem dX3_learn_23 : decode cX3_learn 23 = .ok (.aload_n 0, 1) := by decide +kernel
theorem dX3_learn_24 : decode cX3_learn 24 = .ok (.iload_n 2, 1) := by decide +kernel
theorem dX3_learn_25 : decode cX3_learn 25 = .ok (.bipush 7, 2) := by decide +kernel
theorem dX3_learn_27 : decode cX3_learn 27 = .ok (.invokevirtual 96, 3) := by decide +kernel
theorem dX3_learn_30 : decode cX3_learn 30 = .ok (.invokevirtual 125, 3) := by decide +kernel
theorem dX3_learn_33 : decode cX3_learn 33 = .ok (.iinc 2 1, 3) := by decide +kernel
theorem dX3_learn_36 : decode cX3_learn 36 = .ok (.goto (-34), 3) := by decide +kernel
theorem dX3_learn_39 : decode cX3_learn 39 = .ok (.return_, 1) := by decide +kernel
theorem dX3_offOf_0 : decode cX3_offOf 0 = .ok (.aload_n 0, 1) := by decide +kernel
theorem dX3_offOf_1 : decode cX3_offOf 1 = .ok (.iload_n 1, 1) := by decide +kernel
theorem dX3_offOf_2 : decode cX3_offOf 2 = .ok (.bipush 7, 2) := by decide +kernel
theorem dX3_offOf_4 : decode cX3_offOf 4 = .ok (.invokevirtual 96, 3) := by decide +kernel
theorem dX3_offOf_7 : decode cX3_offOf 7 = .ok (.aload_n 0, 1) := by decide +kernel
theorem dX3_offOf_8 : decode cX3_offOf 8 = .ok (.iload_n 1, 1) := by decide +kernel
theorem dX3_offOf_9 : decode cX3_offOf 9 = .ok (.bipush 8, 2) := by decide +kernel
theorem dX3_offOf_11 : decode cX3_offOf 11 = .ok (.invokevirtual 96, 3) := by decide +kernel
theorem dX3_offOf_14 : decode cX3_offOf 14 = .ok (.isub, 1) := by decide +kernel
theorem dX3_offOf_15 : decode cX3_offOf 15 = .ok (.ireturn, 1) := by decide +kernel
theorem dX3_spread_0 : decode cX3_spread 0 = .ok (.aload_n 0, 1) := by decide +kernel
theorem dX3_spread_1 : decode cX3_spread 1 = .ok (.iconst 0, 1) := by decide +kernel
theorem dX3_spread_2 : decode cX3_spread 2 = .ok (.invokevirtual 128, 3) := by decide +kernel
theorem dX3_spread_5 : decode cX3_spread 5 = .ok (.istore_n 1, 1) := by decide +kernel
theorem dX3_spread_6 : decode cX3_spread 6 = .ok (.iload_n 1, 1) := by decide +kernel
theorem dX3_spread_7 : decode cX3_spread 7 = .ok (.istore_n 2, 1) := by decide +kernel
theorem dX3_spread_8 : decode cX3_spread 8 = .ok (.iconst 1, 1) := by decide +kernel
theorem dX3_spread_9 : decode cX3_spread 9 = .ok (.istore_n 3, 1) := by decide +kernel
theorem dX3_spread_10 : decode cX3_spread 10 = .ok (.iload_n 3, 1) := by decide +kernel
theorem dX3_spread_11 : decode cX3_spread 11 = .ok (.aload_n 0, 1) := by decide +kernel
theorem dX3_spread_12 : decode cX3_spread 12 = .ok (.getfield 34, 3) := by decide +kernel
theorem dX3_spread_15 : decode cX3_spread 15 = .ok (.if_icmp .ge 29, 3) := by decide +kernel
theorem dX3_spread_18 : decode cX3_spread 18 = .ok (.iload_n 1, 1) := by decide +kernel
theorem dX3_spread_19 : decode cX3_spread 19 = .ok (.aload_n 0, 1) := by decide +kernel
theorem dX3_spread_20 : decode cX3_spread 20 = .ok (.iload_n 3, 1) := by decide +kernel
theorem dX3_spread_21 : decode cX3_spread 21 = .ok (.invokevirtual 128, 3) := by decide +kernel
theorem dX3_spread_24 : decode cX3_spread 24 = .ok (.invokestatic 132, 3) := by decide +kernel
theorem dX3_spread_27 : decode cX3_spread 27 = .ok (.istore_n 1, 1) := by decide +kernel
theorem dX3_spread_28 : decode cX3_spread 28 = .ok (.iload_n 2, 1) := by decide +kernel
theorem dX3_spread_29 : decode cX3_spread 29 = .ok (.aload_n 0, 1) := by decide +kernel
theorem dX3_spread_30 : decode cX3_spread 30 = .ok (.iload_n 3, 1) := by decide +kernel
theorem dX3_spread_31 : decode cX3_spread 31 = .ok (.invokevirtual 128, 3) := by decide +kernel
theorem dX3_spread_34 : decode cX3_spread 34 = .ok (.invokestatic 137, 3) := by decide +kernel
theorem dX3_spread_37 : decode cX3_spread 37 = .ok (.istore_n 2, 1) := by decide +kernel
theorem dX3_spread_38 : decode cX3_spread 38 = .ok (.iinc 3 1, 3) := by decide +kernel
theorem dX3_spread_41 : decode cX3_spread 41 = .ok (.goto (-31), 3) := by decide +kernel
theorem dX3_spread_44 : decode cX3_spread 44 = .ok (.iload_n 2, 1) := by decide +kernel
theorem dX3_spread_45 : decode cX3_spread 45 = .ok (.iload_n 1, 1) := by decide +kernel
theorem dX3_spread_46 : decode cX3_spread 46 = .ok (.isub, 1) := by decide +kernel
theorem dX3_spread_47 : decode cX3_spread 47 = .ok (.ireturn, 1) := by decide +kernel
theorem dX3_takeTimesAround_0 : decode cX3_takeTimesAround 0 = .ok (.aload_n 0, 1) := by decide +kernel
theorem dX3_takeTimesAround_1 : decode cX3_takeTimesAround 1 = .ok (.getfield 24, 3) := by decide +kernel
theorem dX3_takeTimesAround_4 : decode cX3_takeTimesAround 4 = .ok (.aload_n 0, 1) := by decide +kernel
theorem dX3_takeTimesAround_5 : decode cX3_takeTimesAround 5 = .ok (.iconst 0, 1) := by decide +kernel
theorem dX3_takeTimesAround_6 : decode cX3_takeTimesAround 6 = .ok (.aload_n 0, 1) := by decide +kernel
theorem dX3_takeTimesAround_7 : decode cX3_takeTimesAround 7 = .ok (.getfield 34, 3) := by decide +kernel
theorem dX3_takeTimesAround_10 : decode cX3_takeTimesAround 10 = .ok (.invokevirtual 140, 3) := by decide +kernel
theorem dX3_takeTimesAround_13 : decode cX3_takeTimesAround 13 = .ok (.aload_n 0, 1) := by decide +kernel
theorem dX3_takeTimesAround_14 : decode cX3_takeTimesAround 14 = .ok (.getfield 34, 3) := by decide +kernel
theorem dX3_takeTimesAround_17 : decode cX3_takeTimesAround 17 = .ok (.iadd, 1) := by decide +kernel
theorem dX3_takeTimesAround_18 : decode cX3_takeTimesAround 18 = .ok (.invokestatic 60, 3) := by decide +kernel
theorem dX3_takeTimesAround_21 : decode cX3_takeTimesAround 21 = .ok (.return_, 1) := by decide +kernel
theorem dX3_takeTimesOfTurning_0 : decode cX3_takeTimesOfTurning 0 = .ok (.aload_n 0, 1) := by decide +kernel
theorem dX3_takeTimesOfTurning_1 : decode cX3_takeTimesOfTurning 1 = .ok (.invokevirtual 110, 3) := by decide +kernel
theorem dX3_takeTimesOfTurning_4 : decode cX3_takeTimesOfTurning 4 = .ok (.istore_n 1, 1) := by decide +kernel
theorem dX3_takeTimesOfTurning_5 : decode cX3_takeTimesOfTurning 5 = .ok (.aload_n 0, 1) := by decide +kernel
theorem dX3_takeTimesOfTurning_6 : decode cX3_takeTimesOfTurning 6 = .ok (.invokevirtual 113, 3) := by decide +kernel
theorem dX3_takeTimesOfTurning_9 : decode cX3_takeTimesOfTurning 9 = .ok (.istore_n 2, 1) := by decide +kernel
theorem dX3_takeTimesOfTurning_10 : decode cX3_takeTimesOfTurning 10 = .ok (.aload_n 0, 1) := by decide +kernel
theorem dX3_takeTimesOfTurning_11 : decode cX3_takeTimesOfTurning 11 = .ok (.getfield 24, 3) := by decide +kernel
theorem dX3_takeTimesOfTurning_14 : decode cX3_takeTimesOfTurning 14 = .ok (.iconst 0, 1) := by decide +kernel
theorem dX3_takeTimesOfTurning_15 : decode cX3_takeTimesOfTurning 15 = .ok (.aload_n 0, 1) := by decide +kernel
theorem dX3_takeTimesOfTurning_16 : decode cX3_takeTimesOfTurning 16 = .ok (.iconst 0, 1) := by decide +kernel
theorem dX3_takeTimesOfTurning_17 : decode cX3_takeTimesOfTurning 17 = .ok (.iload_n 1, 1) := by decide +kernel
theorem dX3_takeTimesOfTurning_18 : decode cX3_takeTimesOfTurning 18 = .ok (.iconst 1, 1) := by decide +kernel
theorem dX3_takeTimesOfTurning_19 : decode cX3_takeTimesOfTurning 19 = .ok (.isub, 1) := by decide +kernel
theorem dX3_takeTimesOfTurning_20 : decode cX3_takeTimesOfTurning 20 = .ok (.invokevirtual 140, 3) := by decide +kernel
theorem dX3_takeTimesOfTurning_23 : decode cX3_takeTimesOfTurning 23 = .ok (.iload_n 1, 1) := by decide +kernel
theorem dX3_takeTimesOfTurning_24 : decode cX3_takeTimesOfTurning 24 = .ok (.invokestatic 143, 3) := by decide +kernel
theorem dX3_takeTimesOfTurning_27 : decode cX3_takeTimesOfTurning 27 = .ok (.iastore, 1) := by decide +kernel
theorem dX3_takeTimesOfTurning_28 : decode cX3_takeTimesOfTurning 28 = .ok (.aload_n 0, 1) := by decide +kernel
theorem dX3_takeTimesOfTurning_29 : decode cX3_takeTimesOfTurning 29 = .ok (.getfield 24, 3) := by decide +kernel
theorem dX3_takeTimesOfTurning_32 : decode cX3_takeTimesOfTurning 32 = .ok (.iconst 1, 1) := by decide +kernel
theorem dX3_takeTimesOfTurning_33 : decode cX3_takeTimesOfTurning 33 = .ok (.aload_n 0, 1) := by decide +kernel
theorem dX3_takeTimesOfTurning_34 : decode cX3_takeTimesOfTurning 34 = .ok (.iload_n 2, 1) := by decide +kernel
theorem dX3_takeTimesOfTurning_35 : decode cX3_takeTimesOfTurning 35 = .ok (.iconst 1, 1) := by decide +kernel
theorem dX3_takeTimesOfTurning_36 : decode cX3_takeTimesOfTurning 36 = .ok (.iadd, 1) := by decide +kernel
theorem dX3_takeTimesOfTurning_37 : decode cX3_takeTimesOfTurning 37 = .ok (.aload_n 0, 1) := by decide +kernel
theorem dX3_takeTimesOfTurning_38 : decode cX3_takeTimesOfTurning 38 = .ok (.getfield 34, 3) := by decide +kernel
theorem dX3_takeTimesOfTurning_41 : decode cX3_takeTimesOfTurning 41 = .ok (.invokevirtual 140, 3) := by decide +kernel
theorem dX3_takeTimesOfTurning_44 : decode cX3_takeTimesOfTurning 44 = .ok (.aload_n 0, 1) := by decide +kernel
theorem dX3_takeTimesOfTurning_45 : decode cX3_takeTimesOfTurning 45 = .ok (.getfield 34, 3) := by decide +kernel
theorem dX3_takeTimesOfTurning_48 : decode cX3_takeTimesOfTurning 48 = .ok (.iload_n 2, 1) := by decide +kernel
theorem dX3_takeTimesOfTurning_49 : decode cX3_takeTimesOfTurning 49 = .ok (.isub, 1) := by decide +kernel
theorem dX3_takeTimesOfTurning_50 : decode cX3_takeTimesOfTurning 50 = .ok (.invokestatic 143, 3) := by decide +kernel
theorem dX3_takeTimesOfTurning_53 : decode cX3_takeTimesOfTurning 53 = .ok (.iastore, 1) := by decide +kernel
theorem dX3_takeTimesOfTurning_54 : decode cX3_takeTimesOfTurning 54 = .ok (.return_, 1) := by decide +kernel
theorem dX3_lengths_0 : decode cX3_lengths 0 = .ok (.iconst 0, 1) := by decide +kernel
theorem dX3_lengths_1 : decode cX3_lengths 1 = .ok (.istore_n 3, 1) := by decide +kernel
theorem dX3_lengths_2 : decode cX3_lengths 2 = .ok (.iload_n 1, 1) := by decide +kernel
theorem dX3_lengths_3 : decode cX3_lengths 3 = .ok (.istore 4, 2) := by decide +kernel
theorem dX3_lengths_5 : decode cX3_lengths 5 = .ok (.iload 4, 2) := by decide +kernel
theorem dX3_lengths_7 : decode cX3_lengths 7 = .ok (.iload_n 2, 1) := by decide +kernel
theorem dX3_lengths_8 : decode cX3_lengths 8 = .ok (.if_icmp .gt 19, 3) := by decide +kernel
theorem dX3_lengths_11 : decode cX3_lengths 11 = .ok (.iload_n 3, 1) := by decide +kernel
theorem dX3_lengths_12 : decode cX3_lengths 12 = .ok (.aload_n 0, 1) := by decide +kernel
theorem dX3_lengths_13 : decode cX3_lengths 13 = .ok (.iload 4, 2) := by decide +kernel
theorem dX3_lengths_15 : decode cX3_lengths 15 = .ok (.iconst 0, 1) := by decide +kernel
theorem dX3_lengths_16 : decode cX3_lengths 16 = .ok (.invokevirtual 100, 3) := by decide +kernel
theorem dX3_lengths_19 : decode cX3_lengths 19 = .ok (.iadd, 1) := by decide +kernel
theorem dX3_lengths_20 : decode cX3_lengths 20 = .ok (.istore_n 3, 1) := by decide +kernel
theorem dX3_lengths_21 : decode cX3_lengths 21 = .ok (.iinc 4 1, 3) := by decide +kernel
theorem dX3_lengths_24 : decode cX3_lengths 24 = .ok (.goto (-19), 3) := by decide +kernel
theorem dX3_lengths_27 : decode cX3_lengths 27 = .ok (.iload_n 3, 1) := by decide +kernel
theorem dX3_lengths_28 : decode cX3_lengths 28 = .ok (.ireturn, 1) := by decide +kernel
theorem dX3_timeThereAndBack_0 : decode cX3_timeThereAndBack 0 = .ok (.iload_n 1, 1) := by decide +kernel
theorem dX3_timeThereAndBack_1 : decode cX3_timeThereAndBack 1 = .ok (.ifCond .ne 8, 3) := by decide +kernel
theorem dX3_timeThereAndBack_4 : decode cX3_timeThereAndBack 4 = .ok (.bipush (-9), 2) := by decide +kernel
theorem dX3_timeThereAndBack_6 : decode cX3_timeThereAndBack 6 = .ok (.goto 12, 3) := by decide +kernel
theorem dX3_timeThereAndBack_9 : decode cX3_timeThereAndBack 9 = .ok (.iconst 2, 1) := by decide +kernel
theorem dX3_timeThereAndBack_10 : decode cX3_timeThereAndBack 10 = .ok (.iload_n 0, 1) := by decide +kernel
theorem dX3_timeThereAndBack_11 : decode cX3_timeThereAndBack 11 = .ok (.imul, 1) := by decide +kernel
theorem dX3_timeThereAndBack_12 : decode cX3_timeThereAndBack 12 = .ok (.iconst 2, 1) := by decide +kernel
theorem dX3_timeThereAndBack_13 : decode cX3_timeThereAndBack 13 = .ok (.iload_n 1, 1) := by decide +kernel
theorem dX3_timeThereAndBack_14 : decode cX3_timeThereAndBack 14 = .ok (.imul, 1) := by decide +kernel
theorem dX3_timeThereAndBack_15 : decode cX3_timeThereAndBack 15 = .ok (.iadd, 1) := by decide +kernel
theorem dX3_timeThereAndBack_16 : decode cX3_timeThereAndBack 16 = .ok (.iconst 1, 1) := by decide +kernel
theorem dX3_timeThereAndBack_17 : decode cX3_timeThereAndBack 17 = .ok (.isub, 1) := by decide +kernel
theorem dX3_timeThereAndBack_18 : decode cX3_timeThereAndBack 18 = .ok (.ireturn, 1) := by decide +kernel
theorem dX3_look_0 : decode cX3_look 0 = .ok (.iload_n 1, 1) := by decide +kernel
theorem dX3_look_1 : decode cX3_look 1 = .ok (.iconst 4, 1) := by decide +kernel
theorem dX3_look_2 : decode cX3_look 2 = .ok (.if_icmp .lt 12, 3) := by decide +kernel
theorem dX3_look_5 : decode cX3_look 5 = .ok (.aload_n 0, 1) := by decide +kernel
theorem dX3_look_6 : decode cX3_look 6 = .ok (.getfield 24, 3) := by decide +kernel
theorem dX3_look_9 : decode cX3_look 9 = .ok (.iload_n 1, 1) := by decide +kernel
theorem dX3_look_10 : decode cX3_look 10 = .ok (.iconst 4, 1) := by decide +kernel
theorem dX3_look_11 : decode cX3_look 11 = .ok (.isub, 1) := by decide +kernel
theorem dX3_look_12 : decode cX3_look 12 = .ok (.iaload, 1) := by decide +kernel
theorem dX3_look_13 : decode cX3_look 13 = .ok (.ireturn, 1) := by decide +kernel
theorem dX3_look_14 : decode cX3_look 14 = .ok (.iload_n 1, 1) := by decide +kernel
theorem dX3_look_15 : decode cX3_look 15 = .ok (.aload_n 0, 1) := by decide +kernel
theorem dX3_look_16 : decode cX3_look 16 = .ok (.getfield 54, 3) := by decide +kernel
theorem dX3_look_19 : decode cX3_look 19 = .ok (.if_icmp .ge 12, 3) := by decide +kernel
theorem dX3_look_22 : decode cX3_look 22 = .ok (.aload_n 0, 1) := by decide +kernel
theorem dX3_look_23 : decode cX3_look 23 = .ok (.iload_n 1, 1) := by decide +kernel
theorem dX3_look_24 : decode cX3_look 24 = .ok (.iconst 0, 1) := by decide +kernel
theorem dX3_look_25 : decode cX3_look 25 = .ok (.invokevirtual 146, 3) := by decide +kernel
theorem dX3_look_28 : decode cX3_look 28 = .ok (.goto 4, 3) := by decide +kernel
theorem dX3_look_31 : decode cX3_look 31 = .ok (.iconst 0, 1) := by decide +kernel
theorem dX3_look_32 : decode cX3_look 32 = .ok (.ireturn, 1) := by decide +kernel
theorem dX3_countMiss_0 : decode cX3_countMiss 0 = .ok (.aload_n 0, 1) := by decide +kernel
theorem dX3_countMiss_1 : decode cX3_countMiss 1 = .ok (.iload_n 1, 1) := by decide +kernel
theorem dX3_countMiss_2 : decode cX3_countMiss 2 = .ok (.iconst 5, 1) := by decide +kernel
theorem dX3_countMiss_3 : decode cX3_countMiss 3 = .ok (.invokevirtual 96, 3) := by decide +kernel
theorem dX3_countMiss_6 : decode cX3_countMiss 6 = .ok (.iconst 1, 1) := by decide +kernel
theorem dX3_countMiss_7 : decode cX3_countMiss 7 = .ok (.iadd, 1) := by decide +kernel
theorem dX3_countMiss_8 : decode cX3_countMiss 8 = .ok (.istore_n 2, 1) := by decide +kernel
theorem dX3_countMiss_9 : decode cX3_countMiss 9 = .ok (.aload_n 0, 1) := by decide +kernel
theorem dX3_countMiss_10 : decode cX3_countMiss 10 = .ok (.iload_n 1, 1) := by decide +kernel
theorem dX3_countMiss_11 : decode cX3_countMiss 11 = .ok (.iconst 5, 1) := by decide +kernel
theorem dX3_countMiss_12 : decode cX3_countMiss 12 = .ok (.iload_n 2, 1) := by decide +kernel
theorem dX3_countMiss_13 : decode cX3_countMiss 13 = .ok (.invokevirtual 125, 3) := by decide +kernel
theorem dX3_countMiss_16 : decode cX3_countMiss 16 = .ok (.iload_n 2, 1) := by decide +kernel
theorem dX3_countMiss_17 : decode cX3_countMiss 17 = .ok (.aload_n 0, 1) := by decide +kernel
theorem dX3_countMiss_18 : decode cX3_countMiss 18 = .ok (.getfield 42, 3) := by decide +kernel
theorem dX3_countMiss_21 : decode cX3_countMiss 21 = .ok (.if_icmp .lt 41, 3) := by decide +kernel
theorem dX3_countMiss_24 : decode cX3_countMiss 24 = .ok (.aload_n 0, 1) := by decide +kernel
theorem dX3_countMiss_25 : decode cX3_countMiss 25 = .ok (.iload_n 1, 1) := by decide +kernel
theorem dX3_countMiss_26 : decode cX3_countMiss 26 = .ok (.invokevirtual 149, 3) := by decide +kernel
theorem dX3_countMiss_29 : decode cX3_countMiss 29 = .ok (.ifCond .ne 33, 3) := by decide +kernel
theorem dX3_countMiss_32 : decode cX3_countMiss 32 = .ok (.aload_n 0, 1) := by decide +kernel
theorem dX3_countMiss_33 : decode cX3_countMiss 33 = .ok (.iload_n 1, 1) := by decide +kernel
theorem dX3_countMiss_34 : decode cX3_countMiss 34 = .ok (.bipush 6, 2) := by decide +kernel
theorem dX3_countMiss_36 : decode cX3_countMiss 36 = .ok (.iconst 1, 1) := by decide +kernel
theorem dX3_countMiss_37 : decode cX3_countMiss 37 = .ok (.invokevirtual 125, 3) := by decide +kernel
theorem dX3_countMiss_40 : decode cX3_countMiss 40 = .ok (.iconst 0, 1) := by decide +kernel
theorem dX3_countMiss_41 : decode cX3_countMiss 41 = .ok (.istore_n 3, 1) := by decide +kernel
theorem dX3_countMiss_42 : decode cX3_countMiss 42 = .ok (.iload_n 3, 1) := by decide +kernel
theorem dX3_countMiss_43 : decode cX3_countMiss 43 = .ok (.iconst 4, 1) := by decide +kernel
theorem dX3_countMiss_44 : decode cX3_countMiss 44 = .ok (.if_icmp .ge 18, 3) := by decide +kernel
theorem dX3_countMiss_47 : decode cX3_countMiss 47 = .ok (.aload_n 0, 1) := by decide +kernel
theorem dX3_countMiss_48 : decode cX3_countMiss 48 = .ok (.iload_n 1, 1) := by decide +kernel
theorem dX3_countMiss_49 : decode cX3_countMiss 49 = .ok (.iconst 1, 1) := by decide +kernel
theorem dX3_countMiss_50 : decode cX3_countMiss 50 = .ok (.iload_n 3, 1) := by decide +kernel
theorem dX3_countMiss_51 : decode cX3_countMiss 51 = .ok (.iadd, 1) := by decide +kernel
theorem dX3_countMiss_52 : decode cX3_countMiss 52 = .ok (.iconst 0, 1) := by decide +kernel
theorem dX3_countMiss_53 : decode cX3_countMiss 53 = .ok (.invokevirtual 125, 3) := by decide +kernel
theorem dX3_countMiss_56 : decode cX3_countMiss 56 = .ok (.iinc 3 1, 3) := by decide +kernel
theorem dX3_countMiss_59 : decode cX3_countMiss 59 = .ok (.goto (-17), 3) := by decide +kernel
theorem dX3_countMiss_62 : decode cX3_countMiss 62 = .ok (.return_, 1) := by decide +kernel
theorem dX4_init_0 : decode cX4_init 0 = .ok (.aload_n 0, 1) := by decide +kernel
theorem dX4_init_1 : decode cX4_init 1 = .ok (.invokespecial 3, 3) := by decide +kernel
theorem dX4_init_4 : decode cX4_init 4 = .ok (.aload_n 0, 1) := by decide +kernel
theorem dX4_init_5 : decode cX4_init 5 = .ok (.new 9, 3) := by decide +kernel
theorem dX4_init_8 : decode cX4_init 8 = .ok (.dup, 1) := by decide +kernel
theorem dX4_init_9 : decode cX4_init 9 = .ok (.invokespecial 11, 3) := by decide +kernel
theorem dX4_init_12 : decode cX4_init 12 = .ok (.putfield 12, 3) := by decide +kernel
theorem dX4_init_15 : decode cX4_init 15 = .ok (.aload_n 0, 1) := by decide +kernel
theorem dX4_init_16 : decode cX4_init 16 = .ok (.new 9, 3) := by decide +kernel
theorem dX4_init_19 : decode cX4_init 19 = .ok (.dup, 1) := by decide +kernel
theorem dX4_init_20 : decode cX4_init 20 = .ok (.invokespecial 11, 3) := by decide +kernel
theorem dX4_init_23 : decode cX4_init 23 = .ok (.putfield 18, 3) := by decide +kernel
theorem dX4_init_26 : decode cX4_init 26 = .ok (.return_, 1) := by decide +kernel
theorem dX4_runCycle_0 : decode cX4_runCycle 0 = .ok (.aload_n 0, 1) := by decide +kernel
theorem dX4_runCycle_1 : decode cX4_runCycle 1 = .ok (.iconst 0, 1) := by decide +kernel
theorem dX4_runCycle_2 : decode cX4_runCycle 2 = .ok (.putfield 21, 3) := by decide +kernel
theorem dX4_runCycle_5 : decode cX4_runCycle 5 = .ok (.aload_n 1, 1) := by decide +kernel
theorem dX4_runCycle_6 : decode cX4_runCycle 6 = .ok (.getfield 25, 3) := by decide +kernel
theorem dX4_runCycle_9 : decode cX4_runCycle 9 = .ok (.ifCond .eq 11, 3) := by decide +kernel
theorem dX4_runCycle_12 : decode cX4_runCycle 12 = .ok (.aload_n 0, 1) := by decide +kernel
theorem dX4_runCycle_13 : decode cX4_runCycle 13 = .ok (.aload_n 1, 1) := by decide +kernel
theorem dX4_runCycle_14 : decode cX4_runCycle 14 = .ok (.invokevirtual 31, 3) := by decide +kernel
theorem dX4_runCycle_17 : decode cX4_runCycle 17 = .ok (.goto 8, 3) := by decide +kernel
theorem dX4_runCycle_20 : decode cX4_runCycle 20 = .ok (.aload_n 0, 1) := by decide +kernel
theorem dX4_runCycle_21 : decode cX4_runCycle 21 = .ok (.aload_n 1, 1) := by decide +kernel
theorem dX4_runCycle_22 : decode cX4_runCycle 22 = .ok (.invokevirtual 35, 3) := by decide +kernel
theorem dX4_runCycle_25 : decode cX4_runCycle 25 = .ok (.iconst 0, 1) := by decide +kernel
theorem dX4_runCycle_26 : decode cX4_runCycle 26 = .ok (.istore_n 2, 1) := by decide +kernel
theorem dX4_runCycle_27 : decode cX4_runCycle 27 = .ok (.iload_n 2, 1) := by decide +kernel
theorem dX4_runCycle_28 : decode cX4_runCycle 28 = .ok (.aload_n 1, 1) := by decide +kernel
theorem dX4_runCycle_29 : decode cX4_runCycle 29 = .ok (.getfield 38, 3) := by decide +kernel
theorem dX4_runCycle_32 : decode cX4_runCycle 32 = .ok (.if_icmp .ge 36, 3) := by decide +kernel
theorem dX4_runCycle_35 : decode cX4_runCycle 35 = .ok (.aload_n 0, 1) := by decide +kernel
theorem dX4_runCycle_36 : decode cX4_runCycle 36 = .ok (.getfield 21, 3) := by decide +kernel
theorem dX4_runCycle_39 : decode cX4_runCycle 39 = .ok (.iload_n 2, 1) := by decide +kernel
theorem dX4_runCycle_40 : decode cX4_runCycle 40 = .ok (.ishr, 1) := by decide +kernel
theorem dX4_runCycle_41 : decode cX4_runCycle 41 = .ok (.iconst 1, 1) := by decide +kernel
theorem dX4_runCycle_42 : decode cX4_runCycle 42 = .ok (.iand, 1) := by decide +kernel
theorem dX4_runCycle_43 : decode cX4_runCycle 43 = .ok (.iconst 1, 1) := by decide +kernel
theorem dX4_runCycle_44 : decode cX4_runCycle 44 = .ok (.if_icmp .ne 13, 3) := by decide +kernel
theorem dX4_runCycle_47 : decode cX4_runCycle 47 = .ok (.aload_n 1, 1) := by decide +kernel
theorem dX4_runCycle_48 : decode cX4_runCycle 48 = .ok (.iload_n 2, 1) := by decide +kernel
theorem dX4_runCycle_49 : decode cX4_runCycle 49 = .ok (.iconst 5, 1) := by decide +kernel
theorem dX4_runCycle_50 : decode cX4_runCycle 50 = .ok (.iconst 0, 1) := by decide +kernel
theorem dX4_runCycle_51 : decode cX4_runCycle 51 = .ok (.invokevirtual 41, 3) := by decide +kernel
theorem dX4_runCycle_54 : decode cX4_runCycle 54 = .ok (.goto 8, 3) := by decide +kernel
theorem dX4_runCycle_57 : decode cX4_runCycle 57 = .ok (.aload_n 1, 1) := by decide +kernel
theorem dX4_runCycle_58 : decode cX4_runCycle 58 = .ok (.iload_n 2, 1) := by decide +kernel
theorem dX4_runCycle_59 : decode cX4_runCycle 59 = .ok (.invokevirtual 45, 3) := by decide +kernel
theorem dX4_runCycle_62 : decode cX4_runCycle 62 = .ok (.iinc 2 1, 3) := by decide +kernel
theorem dX4_runCycle_65 : decode cX4_runCycle 65 = .ok (.goto (-38), 3) := by decide +kernel
theorem dX4_runCycle_68 : decode cX4_runCycle 68 = .ok (.aload_n 1, 1) := by decide +kernel
theorem dX4_runCycle_69 : decode cX4_runCycle 69 = .ok (.iconst 0, 1) := by decide +kernel
theorem dX4_runCycle_70 : decode cX4_runCycle 70 = .ok (.putfield 25, 3) := by decide +kernel
theorem dX4_runCycle_73 : decode cX4_runCycle 73 = .ok (.aload_n 1, 1) := by decide +kernel
theorem dX4_runCycle_74 : decode cX4_runCycle 74 = .ok (.dup, 1) := by decide +kernel
theorem dX4_runCycle_75 : decode cX4_runCycle 75 = .ok (.getfield 49, 3) := by decide +kernel
theorem dX4_runCycle_78 : decode cX4_runCycle 78 = .ok (.iconst 1, 1) := by decide +kernel
theorem dX4_runCycle_79 : decode cX4_runCycle 79 = .ok (.iadd, 1) := by decide +kernel
theorem dX4_runCycle_80 : decode cX4_runCycle 80 = .ok (.putfield 49, 3) := by decide +kernel
theorem dX4_runCycle_83 : decode cX4_runCycle 83 = .ok (.return_, 1) := by decide +kernel
theorem dX4_sendNothing_0 : decode cX4_sendNothing 0 = .ok (.iconst 0, 1) := by decide +kernel
theorem dX4_sendNothing_1 : decode cX4_sendNothing 1 = .ok (.istore_n 2, 1) := by decide +kernel
theorem dX4_sendNothing_2 : decode cX4_sendNothing 2 = .ok (.iload_n 2, 1) := by decide +kernel
theorem dX4_sendNothing_3 : decode cX4_sendNothing 3 = .ok (.aload_n 1, 1) := by decide +kernel
theorem dX4_sendNothing_4 : decode cX4_sendNothing 4 = .ok (.getfield 52, 3) := by decide +kernel
theorem dX4_sendNothing_7 : decode cX4_sendNothing 7 = .ok (.if_icmp .ge 21, 3) := by decide +kernel
theorem dX4_sendNothing_10 : decode cX4_sendNothing 10 = .ok (.aload_n 1, 1) := by decide +kernel
theorem dX4_sendNothing_11 : decode cX4_sendNothing 11 = .ok (.iload_n 2, 1) := by decide +kernel
theorem dX4_sendNothing_12 : decode cX4_sendNothing 12 = .ok (.iconst 0, 1) := by decide +kernel
theorem dX4_sendNothing_13 : decode cX4_sendNothing 13 = .ok (.aload_n 1, 1) := by decide +kernel
theorem dX4_sendNothing_14 : decode cX4_sendNothing 14 = .ok (.iload_n 2, 1) := by decide +kernel
theorem dX4_sendNothing_15 : decode cX4_sendNothing 15 = .ok (.iconst 4, 1) := by decide +kernel
theorem dX4_sendNothing_16 : decode cX4_sendNothing 16 = .ok (.invokevirtual 55, 3) := by decide +kernel
theorem dX4_sendNothing_19 : decode cX4_sendNothing 19 = .ok (.invokevirtual 59, 3) := by decide +kernel
theorem dX4_sendNothing_22 : decode cX4_sendNothing 22 = .ok (.iinc 2 1, 3) := by decide +kernel
theorem dX4_sendNothing_25 : decode cX4_sendNothing 25 = .ok (.goto (-23), 3) := by decide +kernel
theorem dX4_sendNothing_28 : decode cX4_sendNothing 28 = .ok (.aload_n 1, 1) := by decide +kernel
theorem dX4_sendNothing_29 : decode cX4_sendNothing 29 = .ok (.iconst 1, 1) := by decide +kernel
theorem dX4_sendNothing_30 : decode cX4_sendNothing 30 = .ok (.putfield 62, 3) := by decide +kernel
theorem dX4_sendNothing_33 : decode cX4_sendNothing 33 = .ok (.aload_n 1, 1) := by decide +kernel
theorem dX4_sendNothing_34 : decode cX4_sendNothing 34 = .ok (.getfield 65, 3) := by decide +kernel
theorem dX4_sendNothing_37 : decode cX4_sendNothing 37 = .ok (.bipush (-9), 2) := by decide +kernel
theorem dX4_sendNothing_39 : decode cX4_sendNothing 39 = .ok (.invokestatic 69, 3) := by decide +kernel
theorem dX4_sendNothing_42 : decode cX4_sendNothing 42 = .ok (.return_, 1) := by decide +kernel
theorem dX4_send_0 : decode cX4_send 0 = .ok (.aload_n 0, 1) := by decide +kernel
theorem dX4_send_1 : decode cX4_send 1 = .ok (.getfield 12, 3) := by decide +kernel
theorem dX4_send_4 : decode cX4_send 4 = .ok (.aload_n 1, 1) := by decide +kernel
theorem dX4_send_5 : decode cX4_send 5 = .ok (.invokevirtual 75, 3) := by decide +kernel
theorem dX4_send_8 : decode cX4_send 8 = .ok (.aload_n 0, 1) := by decide +kernel
theorem dX4_send_9 : decode cX4_send 9 = .ok (.getfield 18, 3) := by decide +kernel
theorem dX4_send_12 : decode cX4_send 12 = .ok (.aload_n 1, 1) := by decide +kernel
theorem dX4_send_13 : decode cX4_send 13 = .ok (.invokevirtual 75, 3) := by decide +kernel
theorem dX4_send_16 : decode cX4_send 16 = .ok (.aload_n 1, 1) := by decide +kernel
theorem dX4_send_17 : decode cX4_send 17 = .ok (.invokevirtual 78, 3) := by decide +kernel
theorem dX4_send_20 : decode cX4_send 20 = .ok (.istore_n 2, 1) := by decide +kernel
theorem dX4_send_21 : decode cX4_send 21 = .ok (.iconst 0, 1) := by decide +kernel
theorem dX4_send_22 : decode cX4_send 22 = .ok (.istore_n 3, 1) := by decide +kernel
theorem dX4_send_23 : decode cX4_send 23 = .ok (.iload_n 3, 1) := by decide +kernel
theorem dX4_send_24 : decode cX4_send 24 = .ok (.iload_n 2, 1) := by decide +kernel
theorem dX4_send_25 : decode cX4_send 25 = .ok (.if_icmp .ge 19, 3) := by decide +kernel
theorem dX4_send_28 : decode cX4_send 28 = .ok (.aload_n 0, 1) := by decide +kernel
theorem dX4_send_29 : decode cX4_send 29 = .ok (.aload_n 1, 1) := by decide +kernel
theorem dX4_send_30 : decode cX4_send 30 = .ok (.iload_n 3, 1) := by decide +kernel
theorem dX4_send_31 : decode cX4_send 31 = .ok (.aload_n 0, 1) := by decide +kernel
theorem dX4_send_32 : decode cX4_send 32 = .ok (.getfield 12, 3) := by decide +kernel
theorem dX4_send_35 : decode cX4_send 35 = .ok (.invokevirtual 82, 3) := by decide +kernel
theorem dX4_send_38 : decode cX4_send 38 = .ok (.iinc 3 1, 3) := by decide +kernel
theorem dX4_send_41 : decode cX4_send 41 = .ok (.goto (-18), 3) := by decide +kernel
theorem dX4_send_44 : decode cX4_send 44 = .ok (.aload_n 1, 1) := by decide +kernel
theorem dX4_send_45 : decode cX4_send 45 = .ok (.invokevirtual 86, 3) := by decide +kernel
theorem dX4_send_48 : decode cX4_send 48 = .ok (.istore_n 3, 1) := by decide +kernel
theorem dX4_send_49 : decode cX4_send 49 = .ok (.iload_n 3, 1) := by decide +kernel
theorem dX4_send_50 : decode cX4_send 50 = .ok (.aload_n 1, 1) := by decide +kernel
theorem dX4_send_51 : decode cX4_send 51 = .ok (.getfield 38, 3) := by decide +kernel
theorem dX4_send_54 : decode cX4_send 54 = .ok (.if_icmp .ge 19, 3) := by decide +kernel
theorem dX4_send_57 : decode cX4_send 57 = .ok (.aload_n 0, 1) := by decide +kernel
theorem dX4_send_58 : decode cX4_send 58 = .ok (.aload_n 1, 1) := by decide +kernel
theorem dX4_send_59 : decode cX4_send 59 = .ok (.iload_n 3, 1) := by decide +kernel
theorem dX4_send_60 : decode cX4_send 60 = .ok (.aload_n 0, 1) := by decide +kernel
theorem dX4_send_61 : decode cX4_send 61 = .ok (.getfield 18, 3) := by decide +kernel
theorem dX4_send_64 : decode cX4_send 64 = .ok (.invokevirtual 82, 3) := by decide +kernel
theorem dX4_send_67 : decode cX4_send 67 = .ok (.iinc 3 1, 3) := by decide +kernel
theorem dX4_send_70 : decode cX4_send 70 = .ok (.goto (-21), 3) := by decide +kernel
theorem dX4_send_73 : decode cX4_send 73 = .ok (.iconst 0, 1) := by decide +kernel
theorem dX4_send_74 : decode cX4_send 74 = .ok (.istore_n 3, 1) := by decide +kernel
theorem dX4_send_75 : decode cX4_send 75 = .ok (.iload_n 3, 1) := by decide +kernel
theorem dX4_send_76 : decode cX4_send 76 = .ok (.aload_n 1, 1) := by decide +kernel
theorem dX4_send_77 : decode cX4_send 77 = .ok (.getfield 52, 3) := by decide +kernel
theorem dX4_send_80 : decode cX4_send 80 = .ok (.if_icmp .ge 39, 3) := by decide +kernel
theorem dX4_send_83 : decode cX4_send 83 = .ok (.aload_n 1, 1) := by decide +kernel
theorem dX4_send_84 : decode cX4_send 84 = .ok (.iload_n 3, 1) := by decide +kernel
theorem dX4_send_85 : decode cX4_send 85 = .ok (.aload_n 0, 1) := by decide +kernel
theorem dX4_send_86 : decode cX4_send 86 = .ok (.getfield 12, 3) := by decide +kernel
theorem dX4_send_89 : decode cX4_send 89 = .ok (.getfield 89, 3) := by decide +kernel
theorem dX4_send_92 : decode cX4_send 92 = .ok (.iload_n 3, 1) := by decide +kernel
theorem dX4_send_93 : decode cX4_send 93 = .ok (.iaload, 1) := by decide +kernel
theorem dX4_send_94 : decode cX4_send 94 = .ok (.aload_n 0, 1) := by decide +kernel
theorem dX4_send_95 : decode cX4_send 95 = .ok (.getfield 18, 3) := by decide +kernel
theorem dX4_send_98 : decode cX4_send 98 = .ok (.getfield 89, 3) := by decide +kernel
theorem dX4_send_101 : decode cX4_send 101 = .ok (.iload_n 3, 1) := by decide +kernel
theorem dX4_send_102 : decode cX4_send 102 = .ok (.iaload, 1) := by decide +kernel
theorem dX4_send_103 : decode cX4_send 103 = .ok (.iadd, 1) := by decide +kernel
theorem dX4_send_104 : decode cX4_send 104 = .ok (.aload_n 0, 1) := by decide +kernel
theorem dX4_send_105 : decode cX4_send 105 = .ok (.aload_n 1, 1) := by decide +kernel
theorem dX4_send_106 : decode cX4_send 106 = .ok (.iload_n 3, 1) := by decide +kernel
theorem dX4_send_107 : decode cX4_send 107 = .ok (.invokevirtual 92, 3) := by decide +kernel
theorem dX4_send_110 : decode cX4_send 110 = .ok (.invokevirtual 59, 3) := by decide +kernel
theorem dX4_send_113 : decode cX4_send 113 = .ok (.iinc 3 1, 3) := by decide +kernel
theorem dX4_send_116 : decode cX4_send 116 = .ok (.goto (-41), 3) := by decide +kernel
theorem dX4_send_119 : decode cX4_send 119 = .ok (.aload_n 1, 1) := by decide +kernel
theorem dX4_send_120 : decode cX4_send 120 = .ok (.iconst 1, 1) := by decide +kernel
theorem dX4_send_121 : decode cX4_send 121 = .ok (.putfield 62, 3) := by decide +kernel
theorem dX4_send_124 : decode cX4_send 124 = .ok (.aload_n 1, 1) := by decide +kernel
theorem dX4_send_125 : decode cX4_send 125 = .ok (.invokevirtual 96, 3) := by decide +kernel
theorem dX4_send_128 : decode cX4_send 128 = .ok (.ifCond .eq 10, 3) := by decide +kernel
theorem dX4_send_131 : decode cX4_send 131 = .ok (.aload_n 1, 1) := by decide +kernel
theorem dX4_send_132 : decode cX4_send 132 = .ok (.invokevirtual 100, 3) := by decide +kernel
theorem dX4_send_135 : decode cX4_send 135 = .ok (.goto 7, 3) := by decide +kernel
theorem dX4_send_138 : decode cX4_send 138 = .ok (.aload_n 1, 1) := by decide +kernel
theorem dX4_send_139 : decode cX4_send 139 = .ok (.invokevirtual 103, 3) := by decide +kernel
theorem dX4_send_142 : decode cX4_send 142 = .ok (.return_, 1) := by decide +kernel
theorem dX4_pass_0 : decode cX4_pass 0 = .ok (.iconst 0, 1) := by decide +kernel
theorem dX4_pass_1 : decode cX4_pass 1 = .ok (.istore 4, 2) := by decide +kernel
theorem dX4_pass_3 : decode cX4_pass 3 = .ok (.iload 4, 2) := by decide +kernel
theorem dX4_pass_5 : decode cX4_pass 5 = .ok (.aload_n 1, 1) := by decide +kernel
theorem dX4_pass_6 : decode cX4_pass 6 = .ok (.getfield 52, 3) := by decide +kernel
theorem dX4_pass_9 : decode cX4_pass 9 = .ok (.if_icmp .ge 40, 3) := by decide +kernel
theorem dX4_pass_12 : decode cX4_pass 12 = .ok (.aload_n 3, 1) := by decide +kernel
theorem dX4_pass_13 : decode cX4_pass 13 = .ok (.aload_n 1, 1) := by decide +kernel
theorem dX4_pass_14 : decode cX4_pass 14 = .ok (.iload 4, 2) := by decide +kernel
theorem dX4_pass_16 : decode cX4_pass 16 = .ok (.iload_n 2, 1) := by decide +kernel
theorem dX4_pass_17 : decode cX4_pass 17 = .ok (.invokevirtual 106, 3) := by decide +kernel
theorem dX4_pass_20 : decode cX4_pass 20 = .ok (.ifCond .eq 23, 3) := by decide +kernel
theorem dX4_pass_23 : decode cX4_pass 23 = .ok (.aload_n 0, 1) := by decide +kernel
theorem dX4_pass_24 : decode cX4_pass 24 = .ok (.dup, 1) := by decide +kernel
theorem dX4_pass_25 : decode cX4_pass 25 = .ok (.getfield 21, 3) := by decide +kernel
theorem dX4_pass_28 : decode cX4_pass 28 = .ok (.iconst 1, 1) := by decide +kernel
theorem dX4_pass_29 : decode cX4_pass 29 = .ok (.iload_n 2, 1) := by decide +kernel
theorem dX4_pass_30 : decode cX4_pass 30 = .ok (.ishl, 1) := by decide +kernel
theorem dX4_pass_31 : decode cX4_pass 31 = .ok (.ior, 1) := by decide +kernel
theorem dX4_pass_32 : decode cX4_pass 32 = .ok (.putfield 21, 3) := by decide +kernel
theorem dX4_pass_35 : decode cX4_pass 35 = .ok (.aload_n 3, 1) := by decide +kernel
theorem dX4_pass_36 : decode cX4_pass 36 = .ok (.aload_n 1, 1) := by decide +kernel
theorem dX4_pass_37 : decode cX4_pass 37 = .ok (.iload 4, 2) := by decide +kernel
theorem dX4_pass_39 : decode cX4_pass 39 = .ok (.iload_n 2, 1) := by decide +kernel
theorem dX4_pass_40 : decode cX4_pass 40 = .ok (.invokevirtual 110, 3) := by decide +kernel
theorem dX4_pass_43 : decode cX4_pass 43 = .ok (.iinc 4 1, 3) := by decide +kernel
theorem dX4_pass_46 : decode cX4_pass 46 = .ok (.goto (-43), 3) := by decide +kernel
theorem dX4_pass_49 : decode cX4_pass 49 = .ok (.return_, 1) := by decide +kernel
theorem dX4_joinedData_0 : decode cX4_joinedData 0 = .ok (.aload_n 1, 1) := by decide +kernel
theorem dX4_joinedData_1 : decode cX4_joinedData 1 = .ok (.iload_n 2, 1) := by decide +kernel
theorem dX4_joinedData_2 : decode cX4_joinedData 2 = .ok (.iconst 0, 1) := by decide +kernel
theorem dX4_joinedData_3 : decode cX4_joinedData 3 = .ok (.invokevirtual 55, 3) := by decide +kernel
theorem dX4_joinedData_6 : decode cX4_joinedData 6 = .ok (.bipush 114, 2) := by decide +kernel
theorem dX4_joinedData_8 : decode cX4_joinedData 8 = .ok (.if_icmp .ne 34, 3) := by decide +kernel
theorem dX4_joinedData_11 : decode cX4_joinedData 11 = .ok (.aload_n 1, 1) := by decide +kernel
theorem dX4_joinedData_12 : decode cX4_joinedData 12 = .ok (.iload_n 2, 1) := by decide +kernel
theorem dX4_joinedData_13 : decode cX4_joinedData 13 = .ok (.iconst 1, 1) := by decide +kernel
theorem dX4_joinedData_14 : decode cX4_joinedData 14 = .ok (.invokevirtual 55, 3) := by decide +kernel
theorem dX4_joinedData_17 : decode cX4_joinedData 17 = .ok (.bipush 98, 2) := by decide +kernel
theorem dX4_joinedData_19 : decode cX4_joinedData 19 = .ok (.if_icmp .ne 23, 3) := by decide +kernel
theorem dX4_joinedData_22 : decode cX4_joinedData 22 = .ok (.aload_n 0, 1) := by decide +kernel
theorem dX4_joinedData_23 : decode cX4_joinedData 23 = .ok (.getfield 12, 3) := by decide +kernel
theorem dX4_joinedData_26 : decode cX4_joinedData 26 = .ok (.getfield 114, 3) := by decide +kernel
theorem dX4_joinedData_29 : decode cX4_joinedData 29 = .ok (.iload_n 2, 1) := by decide +kernel
theorem dX4_joinedData_30 : decode cX4_joinedData 30 = .ok (.iaload, 1) := by decide +kernel
theorem dX4_joinedData_31 : decode cX4_joinedData 31 = .ok (.aload_n 0, 1) := by decide +kernel
theorem dX4_joinedData_32 : decode cX4_joinedData 32 = .ok (.getfield 18, 3) := by decide +kernel
theorem dX4_joinedData_35 : decode cX4_joinedData 35 = .ok (.getfield 114, 3) := by decide +kernel
theorem dX4_joinedData_38 : decode cX4_joinedData 38 = .ok (.iload_n 2, 1) := by decide +kernel
theorem dX4_joinedData_39 : decode cX4_joinedData 39 = .ok (.iaload, 1) := by decide +kernel
theorem dX4_joinedData_40 : decode cX4_joinedData 40 = .ok (.ior, 1) := by decide +kernel
theorem dX4_joinedData_41 : decode cX4_joinedData 41 = .ok (.ireturn, 1) := by decide +kernel
theorem dX4_joinedData_42 : decode cX4_joinedData 42 = .ok (.aload_n 0, 1) := by decide +kernel
theorem dX4_joinedData_43 : decode cX4_joinedData 43 = .ok (.getfield 18, 3) := by decide +kernel
theorem dX4_joinedData_46 : decode cX4_joinedData 46 = .ok (.getfield 89, 3) := by decide +kernel
theorem dX4_joinedData_49 : decode cX4_joinedData 49 = .ok (.iload_n 2, 1) := by decide +kernel
theorem dX4_joinedData_50 : decode cX4_joinedData 50 = .ok (.iaload, 1) := by decide +kernel
theorem dX4_joinedData_51 : decode cX4_joinedData 51 = .ok (.ifCond .le 15, 3) := by decide +kernel
theorem dX4_joinedData_54 : decode cX4_joinedData 54 = .ok (.aload_n 0, 1) := by decide +kernel
theorem dX4_joinedData_55 : decode cX4_joinedData 55 = .ok (.getfield 18, 3) := by decide +kernel
theorem dX4_joinedData_58 : decode cX4_joinedData 58 = .ok (.getfield 114, 3) := by decide +kernel
theorem dX4_joinedData_61 : decode cX4_joinedData 61 = .ok (.iload_n 2, 1) := by decide +kernel
theorem dX4_joinedData_62 : decode cX4_joinedData 62 = .ok (.iaload, 1) := by decide +kernel
theorem dX4_joinedData_63 : decode cX4_joinedData 63 = .ok (.goto 12, 3) := by decide +kernel
theorem dX4_joinedData_66 : decode cX4_joinedData 66 = .ok (.aload_n 0, 1) := by decide +kernel
theorem dX4_joinedData_67 : decode cX4_joinedData 67 = .ok (.getfield 12, 3) := by decide +kernel
theorem dX4_joinedData_70 : decode cX4_joinedData 70 = .ok (.getfield 114, 3) := by decide +kernel
theorem dX4_joinedData_73 : decode cX4_joinedData 73 = .ok (.iload_n 2, 1) := by decide +kernel
theorem dX4_joinedData_74 : decode cX4_joinedData 74 = .ok (.iaload, 1) := by decide +kernel
theorem dX4_joinedData_75 : decode cX4_joinedData 75 = .ok (.ireturn, 1) := by decide +kernel
theorem dX5_init_0 : decode cX5_init 0 = .ok (.aload_n 0, 1) := by decide +kernel
theorem dX5_init_1 : decode cX5_init 1 = .ok (.invokespecial 3, 3) := by decide +kernel
theorem dX5_init_4 : decode cX5_init 4 = .ok (.aload_n 0, 1) := by decide +kernel
theorem dX5_init_5 : decode cX5_init 5 = .ok (.bipush 6, 2) := by decide +kernel
theorem dX5_init_7 : decode cX5_init 7 = .ok (.newarray .int, 2) := by decide +kernel
theorem dX5_init_9 : decode cX5_init 9 = .ok (.putfield 9, 3) := by decide +kernel
theorem dX5_init_12 : decode cX5_init 12 = .ok (.aload_n 0, 1) := by decide +kernel
theorem dX5_init_13 : decode cX5_init 13 = .ok (.bipush 6, 2) := by decide +kernel
theorem dX5_init_15 : decode cX5_init 15 = .ok (.newarray .int, 2) := by decide +kernel
theorem dX5_init_17 : decode cX5_init 17 = .ok (.putfield 15, 3) := by decide +kernel
theorem dX5_init_20 : decode cX5_init 20 = .ok (.return_, 1) := by decide +kernel
theorem dX5_append_0 : decode cX5_append 0 = .ok (.aload_n 0, 1) := by decide +kernel
theorem dX5_append_1 : decode cX5_append 1 = .ok (.getfield 18, 3) := by decide +kernel
theorem dX5_append_4 : decode cX5_append 4 = .ok (.bipush 6, 2) := by decide +kernel
theorem dX5_append_6 : decode cX5_append 6 = .ok (.if_icmp .ge 33, 3) := by decide +kernel
theorem dX5_append_9 : decode cX5_append 9 = .ok (.aload_n 0, 1) := by decide +kernel
theorem dX5_append_10 : decode cX5_append 10 = .ok (.getfield 9, 3) := by decide +kernel
theorem dX5_append_13 : decode cX5_append 13 = .ok (.aload_n 0, 1) := by decide +kernel
theorem dX5_append_14 : decode cX5_append 14 = .ok (.getfield 18, 3) := by decide +kernel
theorem dX5_append_17 : decode cX5_append 17 = .ok (.iload_n 1, 1) := by decide +kernel
theorem dX5_append_18 : decode cX5_append 18 = .ok (.iastore, 1) := by decide +kernel
theorem dX5_append_19 : decode cX5_append 19 = .ok (.aload_n 0, 1) := by decide +kernel
theorem dX5_append_20 : decode cX5_append 20 = .ok (.getfield 15, 3) := by decide +kernel
theorem dX5_append_23 : decode cX5_append 23 = .ok (.aload_n 0, 1) := by decide +kernel
theorem dX5_append_24 : decode cX5_append 24 = .ok (.getfield 18, 3) := by decide +kernel
theorem dX5_append_27 : decode cX5_append 27 = .ok (.iload_n 2, 1) := by decide +kernel
theorem dX5_append_28 : decode cX5_append 28 = .ok (.iastore, 1) := by decide +kernel
theorem dX5_append_29 : decode cX5_append 29 = .ok (.aload_n 0, 1) := by decide +kernel
theorem dX5_append_30 : decode cX5_append 30 = .ok (.dup, 1) := by decide +kernel
theorem dX5_append_31 : decode cX5_append 31 = .ok (.getfield 18, 3) := by decide +kernel
theorem dX5_append_34 : decode cX5_append 34 = .ok (.iconst 1, 1) := by decide +kernel
theorem dX5_append_35 : decode cX5_append 35 = .ok (.iadd, 1) := by decide +kernel
theorem dX5_append_36 : decode cX5_append 36 = .ok (.putfield 18, 3) := by decide +kernel
theorem dX5_append_39 : decode cX5_append 39 = .ok (.return_, 1) := by decide +kernel
theorem dX5_agreeWith_0 : decode cX5_agreeWith 0 = .ok (.iconst 0, 1) := by decide +kernel
theorem dX5_agreeWith_1 : decode cX5_agreeWith 1 = .ok (.istore_n 2, 1) := by decide +kernel
theorem dX5_agreeWith_2 : decode cX5_agreeWith 2 = .ok (.iload_n 2, 1) := by decide +kernel
theorem dX5_agreeWith_3 : decode cX5_agreeWith 3 = .ok (.aload_n 0, 1) := by decide +kernel
theorem dX5_agreeWith_4 : decode cX5_agreeWith 4 = .ok (.getfield 18, 3) := by decide +kernel
theorem dX5_agreeWith_7 : decode cX5_agreeWith 7 = .ok (.if_icmp .ge 30, 3) := by decide +kernel
theorem dX5_agreeWith_10 : decode cX5_agreeWith 10 = .ok (.aload_n 1, 1) := by decide +kernel
theorem dX5_agreeWith_11 : decode cX5_agreeWith 11 = .ok (.aload_n 0, 1) := by decide +kernel
theorem dX5_agreeWith_12 : decode cX5_agreeWith 12 = .ok (.getfield 9, 3) := by decide +kernel
theorem dX5_agreeWith_15 : decode cX5_agreeWith 15 = .ok (.iload_n 2, 1) := by decide +kernel
theorem dX5_agreeWith_16 : decode cX5_agreeWith 16 = .ok (.iaload, 1) := by decide +kernel
theorem dX5_agreeWith_17 : decode cX5_agreeWith 17 = .ok (.invokevirtual 22, 3) := by decide +kernel
theorem dX5_agreeWith_20 : decode cX5_agreeWith 20 = .ok (.aload_n 0, 1) := by decide +kernel
theorem dX5_agreeWith_21 : decode cX5_agreeWith 21 = .ok (.getfield 15, 3) := by decide +kernel
theorem dX5_agreeWith_24 : decode cX5_agreeWith 24 = .ok (.iload_n 2, 1) := by decide +kernel
theorem dX5_agreeWith_25 : decode cX5_agreeWith 25 = .ok (.iaload, 1) := by decide +kernel
theorem dX5_agreeWith_26 : decode cX5_agreeWith 26 = .ok (.if_icmp .eq 5, 3) := by decide +kernel
theorem dX5_agreeWith_29 : decode cX5_agreeWith 29 = .ok (.iconst 0, 1) := by decide +kernel
theorem dX5_agreeWith_30 : decode cX5_agreeWith 30 = .ok (.ireturn, 1) := by decide +kernel
theorem dX5_agreeWith_31 : decode cX5_agreeWith 31 = .ok (.iinc 2 1, 3) := by decide +kernel
theorem dX5_agreeWith_34 : decode cX5_agreeWith 34 = .ok (.goto (-32), 3) := by decide +kernel
theorem dX5_agreeWith_37 : decode cX5_agreeWith 37 = .ok (.iconst 1, 1) := by decide +kernel
theorem dX5_agreeWith_38 : decode cX5_agreeWith 38 = .ok (.ireturn, 1) := by decide +kernel
theorem dX6_init_0 : decode cX6_init 0 = .ok (.aload_n 0, 1) := by decide +kernel
theorem dX6_init_1 : decode cX6_init 1 = .ok (.invokespecial 3, 3) := by decide +kernel
theorem dX6_init_4 : decode cX6_init 4 = .ok (.aload_n 0, 1) := by decide +kernel
theorem dX6_init_5 : decode cX6_init 5 = .ok (.bipush 7, 2) := by decide +kernel
theorem dX6_init_7 : decode cX6_init 7 = .ok (.newarray .int, 2) := by decide +kernel
theorem dX6_init_9 : decode cX6_init 9 = .ok (.putfield 9, 3) := by decide +kernel
theorem dX6_init_12 : decode cX6_init 12 = .ok (.aload_n 0, 1) := by decide +kernel
theorem dX6_init_13 : decode cX6_init 13 = .ok (.bipush 42, 2) := by decide +kernel
theorem dX6_init_15 : decode cX6_init 15 = .ok (.newarray .int, 2) := by decide +kernel
theorem dX6_init_17 : decode cX6_init 17 = .ok (.putfield 15, 3) := by decide +kernel
theorem dX6_init_20 : decode cX6_init 20 = .ok (.return_, 1) := by decide +kernel
theorem dX6_append_0 : decode cX6_append 0 = .ok (.aload_n 0, 1) := by decide +kernel
theorem dX6_append_1 : decode cX6_append 1 = .ok (.getfield 18, 3) := by decide +kernel
theorem dX6_append_4 : decode cX6_append 4 = .ok (.bipush 7, 2) := by decide +kernel
theorem dX6_append_6 : decode cX6_append 6 = .ok (.if_icmp .ge 56, 3) := by decide +kernel
theorem dX6_append_9 : decode cX6_append 9 = .ok (.aload_n 0, 1) := by decide +kernel
theorem dX6_append_10 : decode cX6_append 10 = .ok (.getfield 9, 3) := by decide +kernel
theorem dX6_append_13 : decode cX6_append 13 = .ok (.aload_n 0, 1) := by decide +kernel
theorem dX6_append_14 : decode cX6_append 14 = .ok (.getfield 18, 3) := by decide +kernel
theorem dX6_append_17 : decode cX6_append 17 = .ok (.iload_n 1, 1) := by decide +kernel
theorem dX6_append_18 : decode cX6_append 18 = .ok (.iastore, 1) := by decide +kernel
theorem dX6_append_19 : decode cX6_append 19 = .ok (.iconst 0, 1) := by decide +kernel
theorem dX6_append_20 : decode cX6_append 20 = .ok (.istore_n 3, 1) := by decide +kernel
theorem dX6_append_21 : decode cX6_append 21 = .ok (.iload_n 3, 1) := by decide +kernel
theorem dX6_append_22 : decode cX6_append 22 = .ok (.bipush 6, 2) := by decide +kernel
theorem dX6_append_24 : decode cX6_append 24 = .ok (.if_icmp .ge 28, 3) := by decide +kernel
theorem dX6_append_27 : decode cX6_append 27 = .ok (.aload_n 0, 1) := by decide +kernel
theorem dX6_append_28 : decode cX6_append 28 = .ok (.getfield 15, 3) := by decide +kernel
theorem dX6_append_31 : decode cX6_append 31 = .ok (.aload_n 0, 1) := by decide +kernel
theorem dX6_append_32 : decode cX6_append 32 = .ok (.getfield 18, 3) := by decide +kernel
theorem dX6_append_35 : decode cX6_append 35 = .ok (.bipush 6, 2) := by decide +kernel
theorem dX6_append_37 : decode cX6_append 37 = .ok (.imul, 1) := by decide +kernel
theorem dX6_append_38 : decode cX6_append 38 = .ok (.iload_n 3, 1) := by decide +kernel
theorem dX6_append_39 : decode cX6_append 39 = .ok (.iadd, 1) := by decide +kernel
theorem dX6_append_40 : decode cX6_append 40 = .ok (.aload_n 2, 1) := by decide +kernel
theorem dX6_append_41 : decode cX6_append 41 = .ok (.iload_n 3, 1) := by decide +kernel
theorem dX6_append_42 : decode cX6_append 42 = .ok (.invokevirtual 22, 3) := by decide +kernel
theorem dX6_append_45 : decode cX6_append 45 = .ok (.iastore, 1) := by decide +kernel
theorem dX6_append_46 : decode cX6_append 46 = .ok (.iinc 3 1, 3) := by decide +kernel
theorem dX6_append_49 : decode cX6_append 49 = .ok (.goto (-28), 3) := by decide +kernel
theorem dX6_append_52 : decode cX6_append 52 = .ok (.aload_n 0, 1) := by decide +kernel
theorem dX6_append_53 : decode cX6_append 53 = .ok (.dup, 1) := by decide +kernel
theorem dX6_append_54 : decode cX6_append 54 = .ok (.getfield 18, 3) := by decide +kernel
theorem dX6_append_57 : decode cX6_append 57 = .ok (.iconst 1, 1) := by decide +kernel
theorem dX6_append_58 : decode cX6_append 58 = .ok (.iadd, 1) := by decide +kernel
theorem dX6_append_59 : decode cX6_append 59 = .ok (.putfield 18, 3) := by decide +kernel
theorem dX6_append_62 : decode cX6_append 62 = .ok (.return_, 1) := by decide +kernel
theorem dX6_bestLook_0 : decode cX6_bestLook 0 = .ok (.iconst 0, 1) := by decide +kernel
theorem dX6_bestLook_1 : decode cX6_bestLook 1 = .ok (.istore_n 1, 1) := by decide +kernel
theorem dX6_bestLook_2 : decode cX6_bestLook 2 = .ok (.aload_n 0, 1) := by decide +kernel
theorem dX6_bestLook_3 : decode cX6_bestLook 3 = .ok (.iconst 0, 1) := by decide +kernel
theorem dX6_bestLook_4 : decode cX6_bestLook 4 = .ok (.invokevirtual 28, 3) := by decide +kernel
theorem dX6_bestLook_7 : decode cX6_bestLook 7 = .ok (.istore_n 2, 1) := by decide +kernel
theorem dX6_bestLook_8 : decode cX6_bestLook 8 = .ok (.iconst 1, 1) := by decide +kernel
theorem dX6_bestLook_9 : decode cX6_bestLook 9 = .ok (.istore_n 3, 1) := by decide +kernel
theorem dX6_bestLook_10 : decode cX6_bestLook 10 = .ok (.iload_n 3, 1) := by decide +kernel
theorem dX6_bestLook_11 : decode cX6_bestLook 11 = .ok (.bipush 6, 2) := by decide +kernel
theorem dX6_bestLook_13 : decode cX6_bestLook 13 = .ok (.if_icmp .ge 27, 3) := by decide +kernel
theorem dX6_bestLook_16 : decode cX6_bestLook 16 = .ok (.aload_n 0, 1) := by decide +kernel
theorem dX6_bestLook_17 : decode cX6_bestLook 17 = .ok (.iload_n 3, 1) := by decide +kernel
theorem dX6_bestLook_18 : decode cX6_bestLook 18 = .ok (.invokevirtual 28, 3) := by decide +kernel
theorem dX6_bestLook_21 : decode cX6_bestLook 21 = .ok (.istore 4, 2) := by decide +kernel
theorem dX6_bestLook_23 : decode cX6_bestLook 23 = .ok (.iload 4, 2) := by decide +kernel
theorem dX6_bestLook_25 : decode cX6_bestLook 25 = .ok (.iload_n 2, 1) := by decide +kernel
theorem dX6_bestLook_26 : decode cX6_bestLook 26 = .ok (.if_icmp .ge 8, 3) := by decide +kernel
theorem dX6_bestLook_29 : decode cX6_bestLook 29 = .ok (.iload_n 3, 1) := by decide +kernel
theorem dX6_bestLook_30 : decode cX6_bestLook 30 = .ok (.istore_n 1, 1) := by decide +kernel
theorem dX6_bestLook_31 : decode cX6_bestLook 31 = .ok (.iload 4, 2) := by decide +kernel
theorem dX6_bestLook_33 : decode cX6_bestLook 33 = .ok (.istore_n 2, 1) := by decide +kernel
theorem dX6_bestLook_34 : decode cX6_bestLook 34 = .ok (.iinc 3 1, 3) := by decide +kernel
theorem dX6_bestLook_37 : decode cX6_bestLook 37 = .ok (.goto (-27), 3) := by decide +kernel
theorem dX6_bestLook_40 : decode cX6_bestLook 40 = .ok (.iload_n 1, 1) := by decide +kernel
theorem dX6_bestLook_41 : decode cX6_bestLook 41 = .ok (.ireturn, 1) := by decide +kernel
theorem dX6_mostAlike_0 : decode cX6_mostAlike 0 = .ok (.iconst 0, 1) := by decide +kernel
theorem dX6_mostAlike_1 : decode cX6_mostAlike 1 = .ok (.istore_n 2, 1) := by decide +kernel
theorem dX6_mostAlike_2 : decode cX6_mostAlike 2 = .ok (.iconst 0, 1) := by decide +kernel
theorem dX6_mostAlike_3 : decode cX6_mostAlike 3 = .ok (.istore_n 3, 1) := by decide +kernel
theorem dX6_mostAlike_4 : decode cX6_mostAlike 4 = .ok (.iload_n 3, 1) := by decide +kernel
theorem dX6_mostAlike_5 : decode cX6_mostAlike 5 = .ok (.aload_n 0, 1) := by decide +kernel
theorem dX6_mostAlike_6 : decode cX6_mostAlike 6 = .ok (.getfield 18, 3) := by decide +kernel
theorem dX6_mostAlike_9 : decode cX6_mostAlike 9 = .ok (.if_icmp .ge 20, 3) := by decide +kernel
theorem dX6_mostAlike_12 : decode cX6_mostAlike 12 = .ok (.iload_n 2, 1) := by decide +kernel
theorem dX6_mostAlike_13 : decode cX6_mostAlike 13 = .ok (.aload_n 0, 1) := by decide +kernel
theorem dX6_mostAlike_14 : decode cX6_mostAlike 14 = .ok (.iload_n 3, 1) := by decide +kernel
theorem dX6_mostAlike_15 : decode cX6_mostAlike 15 = .ok (.iload_n 1, 1) := by decide +kernel
theorem dX6_mostAlike_16 : decode cX6_mostAlike 16 = .ok (.invokevirtual 31, 3) := by decide +kernel
theorem dX6_mostAlike_19 : decode cX6_mostAlike 19 = .ok (.invokestatic 35, 3) := by decide +kernel
theorem dX6_mostAlike_22 : decode cX6_mostAlike 22 = .ok (.istore_n 2, 1) := by decide +kernel
theorem dX6_mostAlike_23 : decode cX6_mostAlike 23 = .ok (.iinc 3 1, 3) := by decide +kernel
theorem dX6_mostAlike_26 : decode cX6_mostAlike 26 = .ok (.goto (-22), 3) := by decide +kernel
theorem dX6_mostAlike_29 : decode cX6_mostAlike 29 = .ok (.iload_n 2, 1) := by decide +kernel
theorem dX6_mostAlike_30 : decode cX6_mostAlike 30 = .ok (.ireturn, 1) := by decide +kernel
theorem dX6_alikeWith_0 : decode cX6_alikeWith 0 = .ok (.iconst 0, 1) := by decide +kernel
theorem dX6_alikeWith_1 : decode cX6_alikeWith 1 = .ok (.istore_n 3, 1) := by decide +kernel
theorem dX6_alikeWith_2 : decode cX6_alikeWith 2 = .ok (.iconst 0, 1) := by decide +kernel
theorem dX6_alikeWith_3 : decode cX6_alikeWith 3 = .ok (.istore 4, 2) := by decide +kernel
theorem dX6_alikeWith_5 : decode cX6_alikeWith 5 = .ok (.iload 4, 2) := by decide +kernel
theorem dX6_alikeWith_7 : decode cX6_alikeWith 7 = .ok (.aload_n 0, 1) := by decide +kernel
theorem dX6_alikeWith_8 : decode cX6_alikeWith 8 = .ok (.getfield 18, 3) := by decide +kernel
theorem dX6_alikeWith_11 : decode cX6_alikeWith 11 = .ok (.if_icmp .ge 38, 3) := by decide +kernel
theorem dX6_alikeWith_14 : decode cX6_alikeWith 14 = .ok (.aload_n 0, 1) := by decide +kernel
theorem dX6_alikeWith_15 : decode cX6_alikeWith 15 = .ok (.getfield 15, 3) := by decide +kernel
theorem dX6_alikeWith_18 : decode cX6_alikeWith 18 = .ok (.iload 4, 2) := by decide +kernel
theorem dX6_alikeWith_20 : decode cX6_alikeWith 20 = .ok (.bipush 6, 2) := by decide +kernel
theorem dX6_alikeWith_22 : decode cX6_alikeWith 22 = .ok (.imul, 1) := by decide +kernel
theorem dX6_alikeWith_23 : decode cX6_alikeWith 23 = .ok (.iload_n 2, 1) := by decide +kernel
theorem dX6_alikeWith_24 : decode cX6_alikeWith 24 = .ok (.iadd, 1) := by decide +kernel
theorem dX6_alikeWith_25 : decode cX6_alikeWith 25 = .ok (.iaload, 1) := by decide +kernel
theorem dX6_alikeWith_26 : decode cX6_alikeWith 26 = .ok (.aload_n 0, 1) := by decide +kernel
theorem dX6_alikeWith_27 : decode cX6_alikeWith 27 = .ok (.getfield 15, 3) := by decide +kernel
theorem dX6_alikeWith_30 : decode cX6_alikeWith 30 = .ok (.iload_n 1, 1) := by decide +kernel
theorem dX6_alikeWith_31 : decode cX6_alikeWith 31 = .ok (.bipush 6, 2) := by decide +kernel
theorem dX6_alikeWith_33 : decode cX6_alikeWith 33 = .ok (.imul, 1) := by decide +kernel
theorem dX6_alikeWith_34 : decode cX6_alikeWith 34 = .ok (.iload_n 2, 1) := by decide +kernel
theorem dX6_alikeWith_35 : decode cX6_alikeWith 35 = .ok (.iadd, 1) := by decide +kernel
theorem dX6_alikeWith_36 : decode cX6_alikeWith 36 = .ok (.iaload, 1) := by decide +kernel
theorem dX6_alikeWith_37 : decode cX6_alikeWith 37 = .ok (.if_icmp .ne 6, 3) := by decide +kernel
theorem dX6_alikeWith_40 : decode cX6_alikeWith 40 = .ok (.iinc 3 1, 3) := by decide +kernel
theorem dX6_alikeWith_43 : decode cX6_alikeWith 43 = .ok (.iinc 4 1, 3) := by decide +kernel
theorem dX6_alikeWith_46 : decode cX6_alikeWith 46 = .ok (.goto (-41), 3) := by decide +kernel
theorem dX6_alikeWith_49 : decode cX6_alikeWith 49 = .ok (.iload_n 3, 1) := by decide +kernel
theorem dX6_alikeWith_50 : decode cX6_alikeWith 50 = .ok (.ireturn, 1) := by decide +kernel
theorem dX7_init_0 : decode cX7_init 0 = .ok (.aload_n 0, 1) := by decide +kernel
theorem dX7_init_1 : decode cX7_init 1 = .ok (.invokespecial 3, 3) := by decide +kernel
theorem dX7_init_4 : decode cX7_init 4 = .ok (.aload_n 0, 1) := by decide +kernel
theorem dX7_init_5 : decode cX7_init 5 = .ok (.bipush 120, 2) := by decide +kernel
theorem dX7_init_7 : decode cX7_init 7 = .ok (.newarray .int, 2) := by decide +kernel
theorem dX7_init_9 : decode cX7_init 9 = .ok (.putfield 9, 3) := by decide +kernel
theorem dX7_init_12 : decode cX7_init 12 = .ok (.return_, 1) := by decide +kernel
theorem dX7_append_0 : decode cX7_append 0 = .ok (.aload_n 0, 1) := by decide +kernel
theorem dX7_append_1 : decode cX7_append 1 = .ok (.getfield 15, 3) := by decide +kernel
theorem dX7_append_4 : decode cX7_append 4 = .ok (.bipush 120, 2) := by decide +kernel
theorem dX7_append_6 : decode cX7_append 6 = .ok (.if_icmp .ge 23, 3) := by decide +kernel
theorem dX7_append_9 : decode cX7_append 9 = .ok (.aload_n 0, 1) := by decide +kernel
theorem dX7_append_10 : decode cX7_append 10 = .ok (.getfield 9, 3) := by decide +kernel
theorem dX7_append_13 : decode cX7_append 13 = .ok (.aload_n 0, 1) := by decide +kernel
theorem dX7_append_14 : decode cX7_append 14 = .ok (.getfield 15, 3) := by decide +kernel
theorem dX7_append_17 : decode cX7_append 17 = .ok (.iload_n 1, 1) := by decide +kernel
theorem dX7_append_18 : decode cX7_append 18 = .ok (.iastore, 1) := by decide +kernel
theorem dX7_append_19 : decode cX7_append 19 = .ok (.aload_n 0, 1) := by decide +kernel
theorem dX7_append_20 : decode cX7_append 20 = .ok (.dup, 1) := by decide +kernel
theorem dX7_append_21 : decode cX7_append 21 = .ok (.getfield 15, 3) := by decide +kernel
theorem dX7_append_24 : decode cX7_append 24 = .ok (.iconst 1, 1) := by decide +kernel
theorem dX7_append_25 : decode cX7_append 25 = .ok (.iadd, 1) := by decide +kernel
theorem dX7_append_26 : decode cX7_append 26 = .ok (.putfield 15, 3) := by decide +kernel
theorem dX7_append_29 : decode cX7_append 29 = .ok (.return_, 1) := by decide +kernel
theorem dX7_begin_0 : decode cX7_begin 0 = .ok (.aload_n 0, 1) := by decide +kernel
theorem dX7_begin_1 : decode cX7_begin 1 = .ok (.iconst 0, 1) := by decide +kernel
theorem dX7_begin_2 : decode cX7_begin 2 = .ok (.putfield 19, 3) := by decide +kernel
theorem dX7_begin_5 : decode cX7_begin 5 = .ok (.aload_n 0, 1) := by decide +kernel
theorem dX7_begin_6 : decode cX7_begin 6 = .ok (.invokevirtual 22, 3) := by decide +kernel
theorem dX7_begin_9 : decode cX7_begin 9 = .ok (.return_, 1) := by decide +kernel
theorem dX7_step_0 : decode cX7_step 0 = .ok (.aload_n 0, 1) := by decide +kernel
theorem dX7_step_1 : decode cX7_step 1 = .ok (.getfield 19, 3) := by decide +kernel
theorem dX7_step_4 : decode cX7_step 4 = .ok (.aload_n 0, 1) := by decide +kernel
theorem dX7_step_5 : decode cX7_step 5 = .ok (.getfield 15, 3) := by decide +kernel
theorem dX7_step_8 : decode cX7_step 8 = .ok (.if_icmp .ge 30, 3) := by decide +kernel
theorem dX7_step_11 : decode cX7_step 11 = .ok (.aload_n 0, 1) := by decide +kernel
theorem dX7_step_12 : decode cX7_step 12 = .ok (.getfield 9, 3) := by decide +kernel
theorem dX7_step_15 : decode cX7_step 15 = .ok (.aload_n 0, 1) := by decide +kernel
theorem dX7_step_16 : decode cX7_step 16 = .ok (.getfield 19, 3) := by decide +kernel
theorem dX7_step_19 : decode cX7_step 19 = .ok (.iaload, 1) := by decide +kernel
theorem dX7_step_20 : decode cX7_step 20 = .ok (.bipush 32, 2) := by decide +kernel
theorem dX7_step_22 : decode cX7_step 22 = .ok (.if_icmp .ne 16, 3) := by decide +kernel
theorem dX7_step_25 : decode cX7_step 25 = .ok (.aload_n 0, 1) := by decide +kernel
theorem dX7_step_26 : decode cX7_step 26 = .ok (.dup, 1) := by decide +kernel
theorem dX7_step_27 : decode cX7_step 27 = .ok (.getfield 19, 3) := by decide +kernel
theorem dX7_step_30 : decode cX7_step 30 = .ok (.iconst 1, 1) := by decide +kernel
theorem dX7_step_31 : decode cX7_step 31 = .ok (.iadd, 1) := by decide +kernel
theorem dX7_step_32 : decode cX7_step 32 = .ok (.putfield 19, 3) := by decide +kernel
theorem dX7_step_35 : decode cX7_step 35 = .ok (.goto (-35), 3) := by decide +kernel
theorem dX7_step_38 : decode cX7_step 38 = .ok (.aload_n 0, 1) := by decide +kernel
theorem dX7_step_39 : decode cX7_step 39 = .ok (.aload_n 0, 1) := by decide +kernel
theorem dX7_step_40 : decode cX7_step 40 = .ok (.getfield 19, 3) := by decide +kernel
theorem dX7_step_43 : decode cX7_step 43 = .ok (.putfield 25, 3) := by decide +kernel
theorem dX7_step_46 : decode cX7_step 46 = .ok (.aload_n 0, 1) := by decide +kernel
theorem dX7_step_47 : decode cX7_step 47 = .ok (.getfield 19, 3) := by decide +kernel
theorem dX7_step_50 : decode cX7_step 50 = .ok (.aload_n 0, 1) := by decide +kernel
theorem dX7_step_51 : decode cX7_step 51 = .ok (.getfield 15, 3) := by decide +kernel
theorem dX7_step_54 : decode cX7_step 54 = .ok (.if_icmp .lt 13, 3) := by decide +kernel
theorem dX7_step_57 : decode cX7_step 57 = .ok (.aload_n 0, 1) := by decide +kernel
theorem dX7_step_58 : decode cX7_step 58 = .ok (.sipush 257, 3) := by decide +kernel
theorem dX7_step_61 : decode cX7_step 61 = .ok (.putfield 28, 3) := by decide +kernel
theorem dX7_step_64 : decode cX7_step 64 = .ok (.goto 48, 3) := by decide +kernel
theorem dX7_step_67 : decode cX7_step 67 = .ok (.aload_n 0, 1) := by decide +kernel
theorem dX7_step_68 : decode cX7_step 68 = .ok (.getfield 9, 3) := by decide +kernel
theorem dX7_step_71 : decode cX7_step 71 = .ok (.aload_n 0, 1) := by decide +kernel
theorem dX7_step_72 : decode cX7_step 72 = .ok (.getfield 19, 3) := by decide +kernel
theorem dX7_step_75 : decode cX7_step 75 = .ok (.iaload, 1) := by decide +kernel
theorem dX7_step_76 : decode cX7_step 76 = .ok (.invokestatic 31, 3) := by decide +kernel
theorem dX7_step_79 : decode cX7_step 79 = .ok (.ifCond .eq 10, 3) := by decide +kernel
theorem dX7_step_82 : decode cX7_step 82 = .ok (.aload_n 0, 1) := by decide +kernel
theorem dX7_step_83 : decode cX7_step 83 = .ok (.invokevirtual 35, 3) := by decide +kernel
theorem dX7_step_86 : decode cX7_step 86 = .ok (.goto 26, 3) := by decide +kernel
theorem dX7_step_89 : decode cX7_step 89 = .ok (.aload_n 0, 1) := by decide +kernel
theorem dX7_step_90 : decode cX7_step 90 = .ok (.aload_n 0, 1) := by decide +kernel
theorem dX7_step_91 : decode cX7_step 91 = .ok (.getfield 9, 3) := by decide +kernel
theorem dX7_step_94 : decode cX7_step 94 = .ok (.aload_n 0, 1) := by decide +kernel
theorem dX7_step_95 : decode cX7_step 95 = .ok (.getfield 19, 3) := by decide +kernel
theorem dX7_step_98 : decode cX7_step 98 = .ok (.iaload, 1) := by decide +kernel
theorem dX7_step_99 : decode cX7_step 99 = .ok (.putfield 28, 3) := by decide +kernel
theorem dX7_step_102 : decode cX7_step 102 = .ok (.aload_n 0, 1) := by decide +kernel
theorem dX7_step_103 : decode cX7_step 103 = .ok (.dup, 1) := by decide +kernel
theorem dX7_step_104 : decode cX7_step 104 = .ok (.getfield 19, 3) := by decide +kernel
theorem dX7_step_107 : decode cX7_step 107 = .ok (.iconst 1, 1) := by decide +kernel
theorem dX7_step_108 : decode cX7_step 108 = .ok (.iadd, 1) := by decide +kernel
theorem dX7_step_109 : decode cX7_step 109 = .ok (.putfield 19, 3) := by decide +kernel
theorem dX7_step_112 : decode cX7_step 112 = .ok (.return_, 1) := by decide +kernel
theorem dX7_stepOverFigures_0 : decode cX7_stepOverFigures 0 = .ok (.aload_n 0, 1) := by decide +kernel
theorem dX7_stepOverFigures_1 : decode cX7_stepOverFigures 1 = .ok (.iconst 0, 1) := by decide +kernel
theorem dX7_stepOverFigures_2 : decode cX7_stepOverFigures 2 = .ok (.putfield 38, 3) := by decide +kernel
theorem dX7_stepOverFigures_5 : decode cX7_stepOverFigures 5 = .ok (.aload_n 0, 1) := by decide +kernel
theorem dX7_stepOverFigures_6 : decode cX7_stepOverFigures 6 = .ok (.getfield 19, 3) := by decide +kernel
theorem dX7_stepOverFigures_9 : decode cX7_stepOverFigures 9 = .ok (.aload_n 0, 1) := by decide +kernel
theorem dX7_stepOverFigures_10 : decode cX7_stepOverFigures 10 = .ok (.getfield 15, 3) := by decide +kernel
theorem dX7_stepOverFigures_13 : decode cX7_stepOverFigures 13 = .ok (.if_icmp .ge 61, 3) := by decide +kernel
theorem dX7_stepOverFigures_16 : decode cX7_stepOverFigures 16 = .ok (.aload_n 0, 1) := by decide +kernel
theorem dX7_stepOverFigures_17 : decode cX7_stepOverFigures 17 = .ok (.getfield 9, 3) := by decide +kernel
theorem dX7_stepOverFigures_20 : decode cX7_stepOverFigures 20 = .ok (.aload_n 0, 1) := by decide +kernel
theorem dX7_stepOverFigures_21 : decode cX7_stepOverFigures 21 = .ok (.getfield 19, 3) := by decide +kernel
theorem dX7_stepOverFigures_24 : decode cX7_stepOverFigures 24 = .ok (.iaload, 1) := by decide +kernel
theorem dX7_stepOverFigures_25 : decode cX7_stepOverFigures 25 = .ok (.invokestatic 31, 3) := by decide +kernel
theorem dX7_stepOverFigures_28 : decode cX7_stepOverFigures 28 = .ok (.ifCond .eq 46, 3) := by decide +kernel
theorem dX7_stepOverFigures_31 : decode cX7_stepOverFigures 31 = .ok (.aload_n 0, 1) := by decide +kernel
theorem dX7_stepOverFigures_32 : decode cX7_stepOverFigures 32 = .ok (.bipush 10, 2) := by decide +kernel
theorem dX7_stepOverFigures_34 : decode cX7_stepOverFigures 34 = .ok (.aload_n 0, 1) := by decide +kernel
theorem dX7_stepOverFigures_35 : decode cX7_stepOverFigures 35 = .ok (.getfield 38, 3) := by decide +kernel
theorem dX7_stepOverFigures_38 : decode cX7_stepOverFigures 38 = .ok (.imul, 1) := by decide +kernel
theorem dX7_stepOverFigures_39 : decode cX7_stepOverFigures 39 = .ok (.aload_n 0, 1) := by decide +kernel
theorem dX7_stepOverFigures_40 : decode cX7_stepOverFigures 40 = .ok (.getfield 9, 3) := by decide +kernel
theorem dX7_stepOverFigures_43 : decode cX7_stepOverFigures 43 = .ok (.aload_n 0, 1) := by decide +kernel
theorem dX7_stepOverFigures_44 : decode cX7_stepOverFigures 44 = .ok (.getfield 19, 3) := by decide +kernel
theorem dX7_stepOverFigures_47 : decode cX7_stepOverFigures 47 = .ok (.iaload, 1) := by decide +kernel
theorem dX7_stepOverFigures_48 : decode cX7_stepOverFigures 48 = .ok (.iadd, 1) := by decide +kernel
theorem dX7_stepOverFigures_49 : decode cX7_stepOverFigures 49 = .ok (.bipush 48, 2) := by decide +kernel
theorem dX7_stepOverFigures_51 : decode cX7_stepOverFigures 51 = .ok (.isub, 1) := by decide +kernel
theorem dX7_stepOverFigures_52 : decode cX7_stepOverFigures 52 = .ok (.sipush 256, 3) := by decide +kernel
theorem dX7_stepOverFigures_55 : decode cX7_stepOverFigures 55 = .ok (.invokestatic 41, 3) := by decide +kernel
theorem dX7_stepOverFigures_58 : decode cX7_stepOverFigures 58 = .ok (.putfield 38, 3) := by decide +kernel
theorem dX7_stepOverFigures_61 : decode cX7_stepOverFigures 61 = .ok (.aload_n 0, 1) := by decide +kernel
theorem dX7_stepOverFigures_62 : decode cX7_stepOverFigures 62 = .ok (.dup, 1) := by decide +kernel
theorem dX7_stepOverFigures_63 : decode cX7_stepOverFigures 63 = .ok (.getfield 19, 3) := by decide +kernel
theorem dX7_stepOverFigures_66 : decode cX7_stepOverFigures 66 = .ok (.iconst 1, 1) := by decide +kernel
theorem dX7_stepOverFigures_67 : decode cX7_stepOverFigures 67 = .ok (.iadd, 1) := by decide +kernel
theorem dX7_stepOverFigures_68 : decode cX7_stepOverFigures 68 = .ok (.putfield 19, 3) := by decide +kernel
theorem dX7_stepOverFigures_71 : decode cX7_stepOverFigures 71 = .ok (.goto (-66), 3) := by decide +kernel
theorem dX7_stepOverFigures_74 : decode cX7_stepOverFigures 74 = .ok (.aload_n 0, 1) := by decide +kernel
theorem dX7_stepOverFigures_75 : decode cX7_stepOverFigures 75 = .ok (.getfield 9, 3) := by decide +kernel
theorem dX7_stepOverFigures_78 : decode cX7_stepOverFigures 78 = .ok (.aload_n 0, 1) := by decide +kernel
theorem dX7_stepOverFigures_79 : decode cX7_stepOverFigures 79 = .ok (.getfield 25, 3) := by decide +kernel
theorem dX7_stepOverFigures_82 : decode cX7_stepOverFigures 82 = .ok (.iaload, 1) := by decide +kernel
theorem dX7_stepOverFigures_83 : decode cX7_stepOverFigures 83 = .ok (.bipush 48, 2) := by decide +kernel
theorem dX7_stepOverFigures_85 : decode cX7_stepOverFigures 85 = .ok (.if_icmp .ne 20, 3) := by decide +kernel
theorem dX7_stepOverFigures_88 : decode cX7_stepOverFigures 88 = .ok (.aload_n 0, 1) := by decide +kernel
theorem dX7_stepOverFigures_89 : decode cX7_stepOverFigures 89 = .ok (.getfield 19, 3) := by decide +kernel
theorem dX7_stepOverFigures_92 : decode cX7_stepOverFigures 92 = .ok (.aload_n 0, 1) := by decide +kernel
theorem dX7_stepOverFigures_93 : decode cX7_stepOverFigures 93 = .ok (.getfield 25, 3) := by decide +kernel
theorem dX7_stepOverFigures_96 : decode cX7_stepOverFigures 96 = .ok (.isub, 1) := by decide +kernel
theorem dX7_stepOverFigures_97 : decode cX7_stepOverFigures 97 = .ok (.iconst 1, 1) := by decide +kernel
theorem dX7_stepOverFigures_98 : decode cX7_stepOverFigures 98 = .ok (.if_icmp .le 7, 3) := by decide +kernel
theorem dX7_stepOverFigures_101 : decode cX7_stepOverFigures 101 = .ok (.iconst 1, 1) := by decide +kernel
theorem dX7_stepOverFigures_102 : decode cX7_stepOverFigures 102 = .ok (.goto 4, 3) := by decide +kernel
theorem dX7_stepOverFigures_105 : decode cX7_stepOverFigures 105 = .ok (.iconst 0, 1) := by decide +kernel
theorem dX7_stepOverFigures_106 : decode cX7_stepOverFigures 106 = .ok (.istore_n 1, 1) := by decide +kernel
theorem dX7_stepOverFigures_107 : decode cX7_stepOverFigures 107 = .ok (.aload_n 0, 1) := by decide +kernel
theorem dX7_stepOverFigures_108 : decode cX7_stepOverFigures 108 = .ok (.iload_n 1, 1) := by decide +kernel
theorem dX7_stepOverFigures_109 : decode cX7_stepOverFigures 109 = .ok (.ifCond .ne 13, 3) := by decide +kernel
theorem dX7_stepOverFigures_112 : decode cX7_stepOverFigures 112 = .ok (.aload_n 0, 1) := by decide +kernel
theorem dX7_stepOverFigures_113 : decode cX7_stepOverFigures 113 = .ok (.getfield 38, 3) := by decide +kernel
theorem dX7_stepOverFigures_116 : decode cX7_stepOverFigures 116 = .ok (.sipush 255, 3) := by decide +kernel
theorem dX7_stepOverFigures_119 : decode cX7_stepOverFigures 119 = .ok (.if_icmp .le 9, 3) := by decide +kernel
theorem dX7_stepOverFigures_122 : decode cX7_stepOverFigures 122 = .ok (.sipush 258, 3) := by decide +kernel
theorem dX7_stepOverFigures_125 : decode cX7_stepOverFigures 125 = .ok (.goto 6, 3) := by decide +kernel
theorem dX7_stepOverFigures_128 : decode cX7_stepOverFigures 128 = .ok (.sipush 256, 3) := by decide +kernel
theorem dX7_stepOverFigures_131 : decode cX7_stepOverFigures 131 = .ok (.putfield 28, 3) := by decide +kernel
theorem dX7_stepOverFigures_134 : decode cX7_stepOverFigures 134 = .ok (.return_, 1) := by decide +kernel
theorem dX7_isFigure_0 : decode cX7_isFigure 0 = .ok (.iload_n 0, 1) := by decide +kernel
theorem dX7_isFigure_1 : decode cX7_isFigure 1 = .ok (.bipush 48, 2) := by decide +kernel
theorem dX7_isFigure_3 : decode cX7_isFigure 3 = .ok (.if_icmp .lt 13, 3) := by decide +kernel
theorem dX7_isFigure_6 : decode cX7_isFigure 6 = .ok (.iload_n 0, 1) := by decide +kernel
theorem dX7_isFigure_7 : decode cX7_isFigure 7 = .ok (.bipush 57, 2) := by decide +kernel
theorem dX7_isFigure_9 : decode cX7_isFigure 9 = .ok (.if_icmp .gt 7, 3) := by decide +kernel
theorem dX7_isFigure_12 : decode cX7_isFigure 12 = .ok (.iconst 1, 1) := by decide +kernel
theorem dX7_isFigure_13 : decode cX7_isFigure 13 = .ok (.goto 4, 3) := by decide +kernel
theorem dX7_isFigure_16 : decode cX7_isFigure 16 = .ok (.iconst 0, 1) := by decide +kernel
theorem dX7_isFigure_17 : decode cX7_isFigure 17 = .ok (.ireturn, 1) := by decide +kernel
theorem dX8_init_0 : decode cX8_init 0 = .ok (.aload_n 0, 1) := by decide +kernel
theorem dX8_init_1 : decode cX8_init 1 = .ok (.invokespecial 1, 3) := by decide +kernel
theorem dX8_init_4 : decode cX8_init 4 = .ok (.aload_n 0, 1) := by decide +kernel
theorem dX8_init_5 : decode cX8_init 5 = .ok (.new 7, 3) := by decide +kernel
theorem dX8_init_8 : decode cX8_init 8 = .ok (.dup, 1) := by decide +kernel
theorem dX8_init_9 : decode cX8_init 9 = .ok (.invokespecial 9, 3) := by decide +kernel
theorem dX8_init_12 : decode cX8_init 12 = .ok (.putfield 10, 3) := by decide +kernel
theorem dX8_init_15 : decode cX8_init 15 = .ok (.aload_n 0, 1) := by decide +kernel
theorem dX8_init_16 : decode cX8_init 16 = .ok (.new 7, 3) := by decide +kernel
theorem dX8_init_19 : decode cX8_init 19 = .ok (.dup, 1) := by decide +kernel
theorem dX8_init_20 : decode cX8_init 20 = .ok (.invokespecial 9, 3) := by decide +kernel
theorem dX8_init_23 : decode cX8_init 23 = .ok (.putfield 16, 3) := by decide +kernel
theorem dX8_init_26 : decode cX8_init 26 = .ok (.aload_n 0, 1) := by decide +kernel
theorem dX8_init_27 : decode cX8_init 27 = .ok (.new 7, 3) := by decide +kernel
theorem dX8_init_30 : decode cX8_init 30 = .ok (.dup, 1) := by decide +kernel
theorem dX8_init_31 : decode cX8_init 31 = .ok (.invokespecial 9, 3) := by decide +kernel
theorem dX8_init_34 : decode cX8_init 34 = .ok (.putfield 19, 3) := by decide +kernel
theorem dX8_init_37 : decode cX8_init 37 = .ok (.aload_n 0, 1) := by decide +kernel
theorem dX8_init_38 : decode cX8_init 38 = .ok (.new 22, 3) := by decide +kernel
theorem dX8_init_41 : decode cX8_init 41 = .ok (.dup, 1) := by decide +kernel
theorem dX8_init_42 : decode cX8_init 42 = .ok (.invokespecial 24, 3) := by decide +kernel
theorem dX8_init_45 : decode cX8_init 45 = .ok (.putfield 25, 3) := by decide +kernel
theorem dX8_init_48 : decode cX8_init 48 = .ok (.aload_n 0, 1) := by decide +kernel
theorem dX8_init_49 : decode cX8_init 49 = .ok (.new 29, 3) := by decide +kernel
theorem dX8_init_52 : decode cX8_init 52 = .ok (.dup, 1) := by decide +kernel
theorem dX8_init_53 : decode cX8_init 53 = .ok (.aload_n 0, 1) := by decide +kernel
theorem dX8_init_54 : decode cX8_init 54 = .ok (.getfield 25, 3) := by decide +kernel
theorem dX8_init_57 : decode cX8_init 57 = .ok (.invokespecial 31, 3) := by decide +kernel
theorem dX8_init_60 : decode cX8_init 60 = .ok (.putfield 34, 3) := by decide +kernel
theorem dX8_init_63 : decode cX8_init 63 = .ok (.aload_n 0, 1) := by decide +kernel
theorem dX8_init_64 : decode cX8_init 64 = .ok (.new 38, 3) := by decide +kernel
theorem dX8_init_67 : decode cX8_init 67 = .ok (.dup, 1) := by decide +kernel
theorem dX8_init_68 : decode cX8_init 68 = .ok (.invokespecial 40, 3) := by decide +kernel
theorem dX8_init_71 : decode cX8_init 71 = .ok (.putfield 41, 3) := by decide +kernel
theorem dX8_init_74 : decode cX8_init 74 = .ok (.aload_n 0, 1) := by decide +kernel
theorem dX8_init_75 : decode cX8_init 75 = .ok (.new 45, 3) := by decide +kernel
theorem dX8_init_78 : decode cX8_init 78 = .ok (.dup, 1) := by decide +kernel
theorem dX8_init_79 : decode cX8_init 79 = .ok (.invokespecial 47, 3) := by decide +kernel
theorem dX8_init_82 : decode cX8_init 82 = .ok (.putfield 48, 3) := by decide +kernel
theorem dX8_init_85 : decode cX8_init 85 = .ok (.aload_n 0, 1) := by decide +kernel
theorem dX8_init_86 : decode cX8_init 86 = .ok (.iconst 2, 1) := by decide +kernel
theorem dX8_init_87 : decode cX8_init 87 = .ok (.anewarray 7, 3) := by decide +kernel
theorem dX8_init_90 : decode cX8_init 90 = .ok (.putfield 52, 3) := by decide +kernel
theorem dX8_init_93 : decode cX8_init 93 = .ok (.iconst 0, 1) := by decide +kernel
theorem dX8_init_94 : decode cX8_init 94 = .ok (.istore_n 1, 1) := by decide +kernel
theorem dX8_init_95 : decode cX8_init 95 = .ok (.iload_n 1, 1) := by decide +kernel
theorem dX8_init_96 : decode cX8_init 96 = .ok (.iconst 2, 1) := by decide +kernel
theorem dX8_init_97 : decode cX8_init 97 = .ok (.if_icmp .ge 22, 3) := by decide +kernel
theorem dX8_init_100 : decode cX8_init 100 = .ok (.aload_n 0, 1) := by decide +kernel
theorem dX8_init_101 : decode cX8_init 101 = .ok (.getfield 52, 3) := by decide +kernel
theorem dX8_init_104 : decode cX8_init 104 = .ok (.iload_n 1, 1) := by decide +kernel
theorem dX8_init_105 : decode cX8_init 105 = .ok (.new 7, 3) := by decide +kernel
theorem dX8_init_108 : decode cX8_init 108 = .ok (.dup, 1) := by decide +kernel
theorem dX8_init_109 : decode cX8_init 109 = .ok (.invokespecial 9, 3) := by decide +kernel
theorem dX8_init_112 : decode cX8_init 112 = .ok (.aastore, 1) := by decide +kernel
theorem dX8_init_113 : decode cX8_init 113 = .ok (.iinc 1 1, 3) := by decide +kernel
theorem dX8_init_116 : decode cX8_init 116 = .ok (.goto (-21), 3) := by decide +kernel
theorem dX8_init_119 : decode cX8_init 119 = .ok (.aload_n 0, 1) := by decide +kernel
theorem dX8_init_120 : decode cX8_init 120 = .ok (.iconst 2, 1) := by decide +kernel
theorem dX8_init_121 : decode cX8_init 121 = .ok (.newarray .boolean, 2) := by decide +kernel
theorem dX8_init_123 : decode cX8_init 123 = .ok (.putfield 56, 3) := by decide +kernel
theorem dX8_init_126 : decode cX8_init 126 = .ok (.aload_n 0, 1) := by decide +kernel
theorem dX8_init_127 : decode cX8_init 127 = .ok (.new 60, 3) := by decide +kernel
theorem dX8_init_130 : decode cX8_init 130 = .ok (.dup, 1) := by decide +kernel
theorem dX8_init_131 : decode cX8_init 131 = .ok (.invokespecial 62, 3) := by decide +kernel
theorem dX8_init_134 : decode cX8_init 134 = .ok (.putfield 63, 3) := by decide +kernel
theorem dX8_init_137 : decode cX8_init 137 = .ok (.aload_n 0, 1) := by decide +kernel
theorem dX8_init_138 : decode cX8_init 138 = .ok (.new 67, 3) := by decide +kernel
theorem dX8_init_141 : decode cX8_init 141 = .ok (.dup, 1) := by decide +kernel
theorem dX8_init_142 : decode cX8_init 142 = .ok (.invokespecial 69, 3) := by decide +kernel
theorem dX8_init_145 : decode cX8_init 145 = .ok (.putfield 70, 3) := by decide +kernel
theorem dX8_init_148 : decode cX8_init 148 = .ok (.return_, 1) := by decide +kernel
theorem dX8_type_0 : decode cX8_type 0 = .ok (.iload_n 1, 1) := by decide +kernel
theorem dX8_type_1 : decode cX8_type 1 = .ok (.ifCond .lt 10, 3) := by decide +kernel
theorem dX8_type_4 : decode cX8_type 4 = .ok (.iload_n 1, 1) := by decide +kernel
theorem dX8_type_5 : decode cX8_type 5 = .ok (.sipush 255, 3) := by decide +kernel
theorem dX8_type_8 : decode cX8_type 8 = .ok (.if_icmp .le 5, 3) := by decide +kernel
theorem dX8_type_11 : decode cX8_type 11 = .ok (.iconst (-1), 1) := by decide +kernel
theorem dX8_type_12 : decode cX8_type 12 = .ok (.ireturn, 1) := by decide +kernel
theorem dX8_type_13 : decode cX8_type 13 = .ok (.aload_n 0, 1) := by decide +kernel
theorem dX8_type_14 : decode cX8_type 14 = .ok (.getfield 25, 3) := by decide +kernel
theorem dX8_type_17 : decode cX8_type 17 = .ok (.getfield 74, 3) := by decide +kernel
theorem dX8_type_20 : decode cX8_type 20 = .ok (.bipush 120, 2) := by decide +kernel
theorem dX8_type_22 : decode cX8_type 22 = .ok (.if_icmp .lt 6, 3) := by decide +kernel
theorem dX8_type_25 : decode cX8_type 25 = .ok (.bipush (-3), 2) := by decide +kernel
theorem dX8_type_27 : decode cX8_type 27 = .ok (.ireturn, 1) := by decide +kernel
theorem dX8_type_28 : decode cX8_type 28 = .ok (.aload_n 0, 1) := by decide +kernel
theorem dX8_type_29 : decode cX8_type 29 = .ok (.getfield 25, 3) := by decide +kernel
theorem dX8_type_32 : decode cX8_type 32 = .ok (.iload_n 1, 1) := by decide +kernel
theorem dX8_type_33 : decode cX8_type 33 = .ok (.invokevirtual 78, 3) := by decide +kernel
theorem dX8_type_36 : decode cX8_type 36 = .ok (.aload_n 0, 1) := by decide +kernel
theorem dX8_type_37 : decode cX8_type 37 = .ok (.getfield 25, 3) := by decide +kernel
theorem dX8_type_40 : decode cX8_type 40 = .ok (.getfield 74, 3) := by decide +kernel
theorem dX8_type_43 : decode cX8_type 43 = .ok (.ireturn, 1) := by decide +kernel
theorem dX8_clear_0 : decode cX8_clear 0 = .ok (.aload_n 0, 1) := by decide +kernel
theorem dX8_clear_1 : decode cX8_clear 1 = .ok (.getfield 25, 3) := by decide +kernel
theorem dX8_clear_4 : decode cX8_clear 4 = .ok (.getfield 74, 3) := by decide +kernel
theorem dX8_clear_7 : decode cX8_clear 7 = .ok (.istore_n 1, 1) := by decide +kernel
theorem dX8_clear_8 : decode cX8_clear 8 = .ok (.aload_n 0, 1) := by decide +kernel
theorem dX8_clear_9 : decode cX8_clear 9 = .ok (.getfield 25, 3) := by decide +kernel
theorem dX8_clear_12 : decode cX8_clear 12 = .ok (.iconst 0, 1) := by decide +kernel
theorem dX8_clear_13 : decode cX8_clear 13 = .ok (.putfield 74, 3) := by decide +kernel
theorem dX8_clear_16 : decode cX8_clear 16 = .ok (.iload_n 1, 1) := by decide +kernel
theorem dX8_clear_17 : decode cX8_clear 17 = .ok (.ireturn, 1) := by decide +kernel
theorem dX8_wires_0 : decode cX8_wires 0 = .ok (.aload_n 0, 1) := by decide +kernel
theorem dX8_wires_1 : decode cX8_wires 1 = .ok (.getfield 34, 3) := by decide +kernel
theorem dX8_wires_4 : decode cX8_wires 4 = .ok (.aload_n 0, 1) := by decide +kernel
theorem dX8_wires_5 : decode cX8_wires 5 = .ok (.getfield 16, 3) := by decide +kernel
theorem dX8_wires_8 : decode cX8_wires 8 = .ok (.invokevirtual 82, 3) := by decide +kernel
theorem dX8_wires_11 : decode cX8_wires 11 = .ok (.ifCond .ne 14, 3) := by decide +kernel
theorem dX8_wires_14 : decode cX8_wires 14 = .ok (.bipush (-10), 2) := by decide +kernel
theorem dX8_wires_16 : decode cX8_wires 16 = .ok (.aload_n 0, 1) := by decide +kernel
theorem dX8_wires_17 : decode cX8_wires 17 = .ok (.getfield 25, 3) := by decide +kernel
theorem dX8_wires_20 : decode cX8_wires 20 = .ok (.getfield 86, 3) := by decide +kernel
theorem dX8_wires_23 : decode cX8_wires 23 = .ok (.isub, 1) := by decide +kernel
theorem dX8_wires_24 : decode cX8_wires 24 = .ok (.ireturn, 1) := by decide +kernel
theorem dX8_wires_25 : decode cX8_wires 25 = .ok (.aload_n 0, 1) := by decide +kernel
theorem dX8_wires_26 : decode cX8_wires 26 = .ok (.invokevirtual 89, 3) := by decide +kernel
theorem dX8_wires_29 : decode cX8_wires 29 = .ok (.aload_n 0, 1) := by decide +kernel
theorem dX8_wires_30 : decode cX8_wires 30 = .ok (.getfield 10, 3) := by decide +kernel
theorem dX8_wires_33 : decode cX8_wires 33 = .ok (.getfield 92, 3) := by decide +kernel
theorem dX8_wires_36 : decode cX8_wires 36 = .ok (.ireturn, 1) := by decide +kernel
theorem dX8_frames_0 : decode cX8_frames 0 = .ok (.aload_n 0, 1) := by decide +kernel
theorem dX8_frames_1 : decode cX8_frames 1 = .ok (.getfield 16, 3) := by decide +kernel
theorem dX8_frames_4 : decode cX8_frames 4 = .ok (.aload_n 0, 1) := by decide +kernel
theorem dX8_frames_5 : decode cX8_frames 5 = .ok (.getfield 10, 3) := by decide +kernel
theorem dX8_frames_8 : decode cX8_frames 8 = .ok (.invokevirtual 95, 3) := by decide +kernel
theorem dX8_frames_11 : decode cX8_frames 11 = .ok (.aload_n 0, 1) := by decide +kernel
theorem dX8_frames_12 : decode cX8_frames 12 = .ok (.getfield 34, 3) := by decide +kernel
theorem dX8_frames_15 : decode cX8_frames 15 = .ok (.aload_n 0, 1) := by decide +kernel
theorem dX8_frames_16 : decode cX8_frames 16 = .ok (.getfield 16, 3) := by decide +kernel
theorem dX8_frames_19 : decode cX8_frames 19 = .ok (.invokevirtual 99, 3) := by decide +kernel
theorem dX8_frames_22 : decode cX8_frames 22 = .ok (.ifCond .ne 14, 3) := by decide +kernel
theorem dX8_frames_25 : decode cX8_frames 25 = .ok (.bipush (-10), 2) := by decide +kernel
theorem dX8_frames_27 : decode cX8_frames 27 = .ok (.aload_n 0, 1) := by decide +kernel
theorem dX8_frames_28 : decode cX8_frames 28 = .ok (.getfield 25, 3) := by decide +kernel
theorem dX8_frames_31 : decode cX8_frames 31 = .ok (.getfield 86, 3) := by decide +kernel
theorem dX8_frames_34 : decode cX8_frames 34 = .ok (.isub, 1) := by decide +kernel
theorem dX8_frames_35 : decode cX8_frames 35 = .ok (.ireturn, 1) := by decide +kernel
theorem dX8_frames_36 : decode cX8_frames 36 = .ok (.aload_n 0, 1) := by decide +kernel
theorem dX8_frames_37 : decode cX8_frames 37 = .ok (.invokevirtual 89, 3) := by decide +kernel
theorem dX8_frames_40 : decode cX8_frames 40 = .ok (.aload_n 0, 1) := by decide +kernel
theorem dX8_frames_41 : decode cX8_frames 41 = .ok (.getfield 10, 3) := by decide +kernel
theorem dX8_frames_44 : decode cX8_frames 44 = .ok (.getfield 102, 3) := by decide +kernel
theorem dX8_frames_47 : decode cX8_frames 47 = .ok (.ireturn, 1) := by decide +kernel
theorem dX8_adoptDraft_0 : decode cX8_adoptDraft 0 = .ok (.aload_n 0, 1) := by decide +kernel
theorem dX8_adoptDraft_1 : decode cX8_adoptDraft 1 = .ok (.getfield 48, 3) := by decide +kernel
theorem dX8_adoptDraft_4 : decode cX8_adoptDraft 4 = .ok (.aload_n 0, 1) := by decide +kernel
theorem dX8_adoptDraft_5 : decode cX8_adoptDraft 5 = .ok (.getfield 10, 3) := by decide +kernel
theorem dX8_adoptDraft_8 : decode cX8_adoptDraft 8 = .ok (.invokevirtual 105, 3) := by decide +kernel
theorem dX8_adoptDraft_11 : decode cX8_adoptDraft 11 = .ok (.aload_n 0, 1) := by decide +kernel
theorem dX8_adoptDraft_12 : decode cX8_adoptDraft 12 = .ok (.getfield 10, 3) := by decide +kernel
theorem dX8_adoptDraft_15 : decode cX8_adoptDraft 15 = .ok (.aload_n 0, 1) := by decide +kernel
theorem dX8_adoptDraft_16 : decode cX8_adoptDraft 16 = .ok (.getfield 16, 3) := by decide +kernel
theorem dX8_adoptDraft_19 : decode cX8_adoptDraft 19 = .ok (.invokevirtual 95, 3) := by decide +kernel
theorem dX8_adoptDraft_22 : decode cX8_adoptDraft 22 = .ok (.aload_n 0, 1) := by decide +kernel
theorem dX8_adoptDraft_23 : decode cX8_adoptDraft 23 = .ok (.getfield 25, 3) := by decide +kernel
theorem dX8_adoptDraft_26 : decode cX8_adoptDraft 26 = .ok (.iconst 0, 1) := by decide +kernel
theorem dX8_adoptDraft_27 : decode cX8_adoptDraft 27 = .ok (.putfield 74, 3) := by decide +kernel
theorem dX8_adoptDraft_30 : decode cX8_adoptDraft 30 = .ok (.return_, 1) := by decide +kernel
theorem dX8_cuts_0 : decode cX8_cuts 0 = .ok (.aload_n 0, 1) := by decide +kernel
theorem dX8_cuts_1 : decode cX8_cuts 1 = .ok (.getfield 10, 3) := by decide +kernel
theorem dX8_cuts_4 : decode cX8_cuts 4 = .ok (.iload_n 1, 1) := by decide +kernel
theorem dX8_cuts_5 : decode cX8_cuts 5 = .ok (.invokevirtual 108, 3) := by decide +kernel
theorem dX8_cuts_8 : decode cX8_cuts 8 = .ok (.ifCond .ne 5, 3) := by decide +kernel
theorem dX8_cuts_11 : decode cX8_cuts 11 = .ok (.iconst (-1), 1) := by decide +kernel
theorem dX8_cuts_12 : decode cX8_cuts 12 = .ok (.ireturn, 1) := by decide +kernel
theorem dX8_cuts_13 : decode cX8_cuts 13 = .ok (.aload_n 0, 1) := by decide +kernel
theorem dX8_cuts_14 : decode cX8_cuts 14 = .ok (.getfield 10, 3) := by decide +kernel
theorem dX8_cuts_17 : decode cX8_cuts 17 = .ok (.iload_n 1, 1) := by decide +kernel
theorem dX8_cuts_18 : decode cX8_cuts 18 = .ok (.invokevirtual 112, 3) := by decide +kernel
theorem dX8_cuts_21 : decode cX8_cuts 21 = .ok (.ifCond .eq 6, 3) := by decide +kernel
theorem dX8_cuts_24 : decode cX8_cuts 24 = .ok (.bipush (-2), 2) := by decide +kernel
theorem dX8_cuts_26 : decode cX8_cuts 26 = .ok (.ireturn, 1) := by decide +kernel
theorem dX8_cuts_27 : decode cX8_cuts 27 = .ok (.aload_n 0, 1) := by decide +kernel
theorem dX8_cuts_28 : decode cX8_cuts 28 = .ok (.getfield 48, 3) := by decide +kernel
theorem dX8_cuts_31 : decode cX8_cuts 31 = .ok (.aload_n 0, 1) := by decide +kernel
theorem dX8_cuts_32 : decode cX8_cuts 32 = .ok (.getfield 10, 3) := by decide +kernel
theorem dX8_cuts_35 : decode cX8_cuts 35 = .ok (.invokevirtual 105, 3) := by decide +kernel
theorem dX8_cuts_38 : decode cX8_cuts 38 = .ok (.aload_n 0, 1) := by decide +kernel
theorem dX8_cuts_39 : decode cX8_cuts 39 = .ok (.getfield 10, 3) := by decide +kernel
theorem dX8_cuts_42 : decode cX8_cuts 42 = .ok (.iload_n 1, 1) := by decide +kernel
theorem dX8_cuts_43 : decode cX8_cuts 43 = .ok (.iconst 1, 1) := by decide +kernel
theorem dX8_cuts_44 : decode cX8_cuts 44 = .ok (.iconst 1, 1) := by decide +kernel
theorem dX8_cuts_45 : decode cX8_cuts 45 = .ok (.invokevirtual 115, 3) := by decide +kernel
theorem dX8_cuts_48 : decode cX8_cuts 48 = .ok (.aload_n 0, 1) := by decide +kernel
theorem dX8_cuts_49 : decode cX8_cuts 49 = .ok (.getfield 10, 3) := by decide +kernel
theorem dX8_cuts_52 : decode cX8_cuts 52 = .ok (.iconst 1, 1) := by decide +kernel
theorem dX8_cuts_53 : decode cX8_cuts 53 = .ok (.putfield 119, 3) := by decide +kernel
theorem dX8_cuts_56 : decode cX8_cuts 56 = .ok (.aload_n 0, 1) := by decide +kernel
theorem dX8_cuts_57 : decode cX8_cuts 57 = .ok (.getfield 10, 3) := by decide +kernel
theorem dX8_cuts_60 : decode cX8_cuts 60 = .ok (.invokevirtual 123, 3) := by decide +kernel
theorem dX8_cuts_63 : decode cX8_cuts 63 = .ok (.ireturn, 1) := by decide +kernel
theorem dX8_heals_0 : decode cX8_heals 0 = .ok (.aload_n 0, 1) := by decide +kernel
theorem dX8_heals_1 : decode cX8_heals 1 = .ok (.getfield 10, 3) := by decide +kernel
theorem dX8_heals_4 : decode cX8_heals 4 = .ok (.iload_n 1, 1) := by decide +kernel
theorem dX8_heals_5 : decode cX8_heals 5 = .ok (.invokevirtual 108, 3) := by decide +kernel
theorem dX8_heals_8 : decode cX8_heals 8 = .ok (.ifCond .ne 5, 3) := by decide +kernel
theorem dX8_heals_11 : decode cX8_heals 11 = .ok (.iconst (-1), 1) := by decide +kernel
theorem dX8_heals_12 : decode cX8_heals 12 = .ok (.ireturn, 1) := by decide +kernel
theorem dX8_heals_13 : decode cX8_heals 13 = .ok (.aload_n 0, 1) := by decide +kernel
theorem dX8_heals_14 : decode cX8_heals 14 = .ok (.getfield 10, 3) := by decide +kernel
theorem dX8_heals_17 : decode cX8_heals 17 = .ok (.iload_n 1, 1) := by decide +kernel
theorem dX8_heals_18 : decode cX8_heals 18 = .ok (.invokevirtual 112, 3) := by decide +kernel
theorem dX8_heals_21 : decode cX8_heals 21 = .ok (.ifCond .ne 6, 3) := by decide +kernel
theorem dX8_heals_24 : decode cX8_heals 24 = .ok (.bipush (-2), 2) := by decide +kernel
theorem dX8_heals_26 : decode cX8_heals 26 = .ok (.ireturn, 1) := by decide +kernel
theorem dX8_heals_27 : decode cX8_heals 27 = .ok (.aload_n 0, 1) := by decide +kernel
theorem dX8_heals_28 : decode cX8_heals 28 = .ok (.getfield 48, 3) := by decide +kernel
theorem dX8_heals_31 : decode cX8_heals 31 = .ok (.aload_n 0, 1) := by decide +kernel
theorem dX8_heals_32 : decode cX8_heals 32 = .ok (.getfield 10, 3) := by decide +kernel
theorem dX8_heals_35 : decode cX8_heals 35 = .ok (.invokevirtual 105, 3) := by decide +kernel
theorem dX8_heals_38 : decode cX8_heals 38 = .ok (.aload_n 0, 1) := by decide +kernel
theorem dX8_heals_39 : decode cX8_heals 39 = .ok (.getfield 10, 3) := by decide +kernel
theorem dX8_heals_42 : decode cX8_heals 42 = .ok (.iload_n 1, 1) := by decide +kernel
theorem dX8_heals_43 : decode cX8_heals 43 = .ok (.iconst 1, 1) := by decide +kernel
theorem dX8_heals_44 : decode cX8_heals 44 = .ok (.iconst 0, 1) := by decide +kernel
theorem dX8_heals_45 : decode cX8_heals 45 = .ok (.invokevirtual 115, 3) := by decide +kernel
theorem dX8_heals_48 : decode cX8_heals 48 = .ok (.aload_n 0, 1) := by decide +kernel
theorem dX8_heals_49 : decode cX8_heals 49 = .ok (.getfield 10, 3) := by decide +kernel
theorem dX8_heals_52 : decode cX8_heals 52 = .ok (.invokevirtual 123, 3) := by decide +kernel
theorem dX8_heals_55 : decode cX8_heals 55 = .ok (.ireturn, 1) := by decide +kernel
theorem dX8_cycles_0 : decode cX8_cycles 0 = .ok (.iload_n 1, 1) := by decide +kernel
theorem dX8_cycles_1 : decode cX8_cycles 1 = .ok (.iconst 1, 1) := by decide +kernel
theorem dX8_cycles_2 : decode cX8_cycles 2 = .ok (.if_icmp .lt 9, 3) := by decide +kernel
theorem dX8_cycles_5 : decode cX8_cycles 5 = .ok (.iload_n 1, 1) := by decide +kernel
theorem dX8_cycles_6 : decode cX8_cycles 6 = .ok (.bipush 20, 2) := by decide +kernel
theorem dX8_cycles_8 : decode cX8_cycles 8 = .ok (.if_icmp .le 5, 3) := by decide +kernel
theorem dX8_cycles_11 : decode cX8_cycles 11 = .ok (.iconst (-1), 1) := by decide +kernel
theorem dX8_cycles_12 : decode cX8_cycles 12 = .ok (.ireturn, 1) := by decide +kernel
theorem dX8_cycles_13 : decode cX8_cycles 13 = .ok (.aload_n 0, 1) := by decide +kernel
theorem dX8_cycles_14 : decode cX8_cycles 14 = .ok (.getfield 10, 3) := by decide +kernel
theorem dX8_cycles_17 : decode cX8_cycles 17 = .ok (.getfield 102, 3) := by decide +kernel
theorem dX8_cycles_20 : decode cX8_cycles 20 = .ok (.ifCond .ne 6, 3) := by decide +kernel
theorem dX8_cycles_23 : decode cX8_cycles 23 = .ok (.bipush (-2), 2) := by decide +kernel
theorem dX8_cycles_25 : decode cX8_cycles 25 = .ok (.ireturn, 1) := by decide +kernel
theorem dX8_cycles_26 : decode cX8_cycles 26 = .ok (.aload_n 0, 1) := by decide +kernel
theorem dX8_cycles_27 : decode cX8_cycles 27 = .ok (.getfield 48, 3) := by decide +kernel
theorem dX8_cycles_30 : decode cX8_cycles 30 = .ok (.aload_n 0, 1) := by decide +kernel
theorem dX8_cycles_31 : decode cX8_cycles 31 = .ok (.getfield 10, 3) := by decide +kernel
theorem dX8_cycles_34 : decode cX8_cycles 34 = .ok (.invokevirtual 105, 3) := by decide +kernel
theorem dX8_cycles_37 : decode cX8_cycles 37 = .ok (.iconst 0, 1) := by decide +kernel
theorem dX8_cycles_38 : decode cX8_cycles 38 = .ok (.istore_n 2, 1) := by decide +kernel
theorem dX8_cycles_39 : decode cX8_cycles 39 = .ok (.iload_n 2, 1) := by decide +kernel
theorem dX8_cycles_40 : decode cX8_cycles 40 = .ok (.iload_n 1, 1) := by decide +kernel
theorem dX8_cycles_41 : decode cX8_cycles 41 = .ok (.if_icmp .ge 20, 3) := by decide +kernel
theorem dX8_cycles_44 : decode cX8_cycles 44 = .ok (.aload_n 0, 1) := by decide +kernel
theorem dX8_cycles_45 : decode cX8_cycles 45 = .ok (.getfield 41, 3) := by decide +kernel
theorem dX8_cycles_48 : decode cX8_cycles 48 = .ok (.aload_n 0, 1) := by decide +kernel
theorem dX8_cycles_49 : decode cX8_cycles 49 = .ok (.getfield 10, 3) := by decide +kernel
theorem dX8_cycles_52 : decode cX8_cycles 52 = .ok (.invokevirtual 127, 3) := by decide +kernel
theorem dX8_cycles_55 : decode cX8_cycles 55 = .ok (.iinc 2 1, 3) := by decide +kernel
theorem dX8_cycles_58 : decode cX8_cycles 58 = .ok (.goto (-19), 3) := by decide +kernel
theorem dX8_cycles_61 : decode cX8_cycles 61 = .ok (.aload_n 0, 1) := by decide +kernel
theorem dX8_cycles_62 : decode cX8_cycles 62 = .ok (.getfield 10, 3) := by decide +kernel
theorem dX8_cycles_65 : decode cX8_cycles 65 = .ok (.invokevirtual 130, 3) := by decide +kernel
theorem dX8_cycles_68 : decode cX8_cycles 68 = .ok (.ireturn, 1) := by decide +kernel
theorem dX8_resets_0 : decode cX8_resets 0 = .ok (.aload_n 0, 1) := by decide +kernel
theorem dX8_resets_1 : decode cX8_resets 1 = .ok (.getfield 10, 3) := by decide +kernel
theorem dX8_resets_4 : decode cX8_resets 4 = .ok (.iload_n 1, 1) := by decide +kernel
theorem dX8_resets_5 : decode cX8_resets 5 = .ok (.invokevirtual 133, 3) := by decide +kernel
theorem dX8_resets_8 : decode cX8_resets 8 = .ok (.ifCond .ne 5, 3) := by decide +kernel
theorem dX8_resets_11 : decode cX8_resets 11 = .ok (.iconst (-1), 1) := by decide +kernel
theorem dX8_resets_12 : decode cX8_resets 12 = .ok (.ireturn, 1) := by decide +kernel
theorem dX8_resets_13 : decode cX8_resets 13 = .ok (.aload_n 0, 1) := by decide +kernel
theorem dX8_resets_14 : decode cX8_resets 14 = .ok (.getfield 10, 3) := by decide +kernel
theorem dX8_resets_17 : decode cX8_resets 17 = .ok (.iload_n 1, 1) := by decide +kernel
theorem dX8_resets_18 : decode cX8_resets 18 = .ok (.iconst 5, 1) := by decide +kernel
theorem dX8_resets_19 : decode cX8_resets 19 = .ok (.invokevirtual 136, 3) := by decide +kernel
theorem dX8_resets_22 : decode cX8_resets 22 = .ok (.istore_n 2, 1) := by decide +kernel
theorem dX8_resets_23 : decode cX8_resets 23 = .ok (.aload_n 0, 1) := by decide +kernel
theorem dX8_resets_24 : decode cX8_resets 24 = .ok (.getfield 10, 3) := by decide +kernel
theorem dX8_resets_27 : decode cX8_resets 27 = .ok (.iload_n 1, 1) := by decide +kernel
theorem dX8_resets_28 : decode cX8_resets 28 = .ok (.invokevirtual 140, 3) := by decide +kernel
theorem dX8_resets_31 : decode cX8_resets 31 = .ok (.ifCond .ne 10, 3) := by decide +kernel
theorem dX8_resets_34 : decode cX8_resets 34 = .ok (.iload_n 2, 1) := by decide +kernel
theorem dX8_resets_35 : decode cX8_resets 35 = .ok (.ifCond .ne 6, 3) := by decide +kernel
theorem dX8_resets_38 : decode cX8_resets 38 = .ok (.bipush (-2), 2) := by decide +kernel
theorem dX8_resets_40 : decode cX8_resets 40 = .ok (.ireturn, 1) := by decide +kernel
theorem dX8_resets_41 : decode cX8_resets 41 = .ok (.aload_n 0, 1) := by decide +kernel
theorem dX8_resets_42 : decode cX8_resets 42 = .ok (.getfield 48, 3) := by decide +kernel
theorem dX8_resets_45 : decode cX8_resets 45 = .ok (.aload_n 0, 1) := by decide +kernel
theorem dX8_resets_46 : decode cX8_resets 46 = .ok (.getfield 10, 3) := by decide +kernel
theorem dX8_resets_49 : decode cX8_resets 49 = .ok (.invokevirtual 105, 3) := by decide +kernel
theorem dX8_resets_52 : decode cX8_resets 52 = .ok (.aload_n 0, 1) := by decide +kernel
theorem dX8_resets_53 : decode cX8_resets 53 = .ok (.getfield 10, 3) := by decide +kernel
theorem dX8_resets_56 : decode cX8_resets 56 = .ok (.iload_n 1, 1) := by decide +kernel
theorem dX8_resets_57 : decode cX8_resets 57 = .ok (.bipush 6, 2) := by decide +kernel
theorem dX8_resets_59 : decode cX8_resets 59 = .ok (.iconst 0, 1) := by decide +kernel
theorem dX8_resets_60 : decode cX8_resets 60 = .ok (.invokevirtual 143, 3) := by decide +kernel
theorem dX8_resets_63 : decode cX8_resets 63 = .ok (.aload_n 0, 1) := by decide +kernel
theorem dX8_resets_64 : decode cX8_resets 64 = .ok (.getfield 10, 3) := by decide +kernel
theorem dX8_resets_67 : decode cX8_resets 67 = .ok (.iload_n 1, 1) := by decide +kernel
theorem dX8_resets_68 : decode cX8_resets 68 = .ok (.iconst 5, 1) := by decide +kernel
theorem dX8_resets_69 : decode cX8_resets 69 = .ok (.iconst 0, 1) := by decide +kernel
theorem dX8_resets_70 : decode cX8_resets 70 = .ok (.invokevirtual 143, 3) := by decide +kernel
theorem dX8_resets_73 : decode cX8_resets 73 = .ok (.iload_n 2, 1) := by decide +kernel
theorem dX8_resets_74 : decode cX8_resets 74 = .ok (.ireturn, 1) := by decide +kernel
theorem dX8_sets_0 : decode cX8_sets 0 = .ok (.aload_n 0, 1) := by decide +kernel
theorem dX8_sets_1 : decode cX8_sets 1 = .ok (.getfield 10, 3) := by decide +kernel
theorem dX8_sets_4 : decode cX8_sets 4 = .ok (.iload_n 1, 1) := by decide +kernel
theorem dX8_sets_5 : decode cX8_sets 5 = .ok (.invokevirtual 133, 3) := by decide +kernel
theorem dX8_sets_8 : decode cX8_sets 8 = .ok (.ifCond .eq 23, 3) := by decide +kernel
theorem dX8_sets_11 : decode cX8_sets 11 = .ok (.iload_n 2, 1) := by decide +kernel
theorem dX8_sets_12 : decode cX8_sets 12 = .ok (.ifCond .lt 19, 3) := by decide +kernel
theorem dX8_sets_15 : decode cX8_sets 15 = .ok (.iload_n 2, 1) := by decide +kernel
theorem dX8_sets_16 : decode cX8_sets 16 = .ok (.iconst 4, 1) := by decide +kernel
theorem dX8_sets_17 : decode cX8_sets 17 = .ok (.if_icmp .ge 14, 3) := by decide +kernel
theorem dX8_sets_20 : decode cX8_sets 20 = .ok (.iload_n 3, 1) := by decide +kernel
theorem dX8_sets_21 : decode cX8_sets 21 = .ok (.ifCond .lt 10, 3) := by decide +kernel
theorem dX8_sets_24 : decode cX8_sets 24 = .ok (.iload_n 3, 1) := by decide +kernel
theorem dX8_sets_25 : decode cX8_sets 25 = .ok (.sipush 255, 3) := by decide +kernel
theorem dX8_sets_28 : decode cX8_sets 28 = .ok (.if_icmp .le 5, 3) := by decide +kernel
theorem dX8_sets_31 : decode cX8_sets 31 = .ok (.iconst (-1), 1) := by decide +kernel
theorem dX8_sets_32 : decode cX8_sets 32 = .ok (.ireturn, 1) := by decide +kernel
theorem dX8_sets_33 : decode cX8_sets 33 = .ok (.aload_n 0, 1) := by decide +kernel
theorem dX8_sets_34 : decode cX8_sets 34 = .ok (.getfield 10, 3) := by decide +kernel
theorem dX8_sets_37 : decode cX8_sets 37 = .ok (.iload_n 1, 1) := by decide +kernel
theorem dX8_sets_38 : decode cX8_sets 38 = .ok (.iconst 1, 1) := by decide +kernel
theorem dX8_sets_39 : decode cX8_sets 39 = .ok (.iload_n 2, 1) := by decide +kernel
theorem dX8_sets_40 : decode cX8_sets 40 = .ok (.iadd, 1) := by decide +kernel
theorem dX8_sets_41 : decode cX8_sets 41 = .ok (.invokevirtual 136, 3) := by decide +kernel
theorem dX8_sets_44 : decode cX8_sets 44 = .ok (.istore 4, 2) := by decide +kernel
theorem dX8_sets_46 : decode cX8_sets 46 = .ok (.iload 4, 2) := by decide +kernel
theorem dX8_sets_48 : decode cX8_sets 48 = .ok (.iload_n 3, 1) := by decide +kernel
theorem dX8_sets_49 : decode cX8_sets 49 = .ok (.if_icmp .eq 14, 3) := by decide +kernel
theorem dX8_sets_52 : decode cX8_sets 52 = .ok (.aload_n 0, 1) := by decide +kernel
theorem dX8_sets_53 : decode cX8_sets 53 = .ok (.getfield 10, 3) := by decide +kernel
theorem dX8_sets_56 : decode cX8_sets 56 = .ok (.iload_n 1, 1) := by decide +kernel
theorem dX8_sets_57 : decode cX8_sets 57 = .ok (.invokevirtual 140, 3) := by decide +kernel
theorem dX8_sets_60 : decode cX8_sets 60 = .ok (.ifCond .eq 6, 3) := by decide +kernel
theorem dX8_sets_63 : decode cX8_sets 63 = .ok (.bipush (-2), 2) := by decide +kernel
theorem dX8_sets_65 : decode cX8_sets 65 = .ok (.ireturn, 1) := by decide +kernel
theorem dX8_sets_66 : decode cX8_sets 66 = .ok (.aload_n 0, 1) := by decide +kernel
theorem dX8_sets_67 : decode cX8_sets 67 = .ok (.getfield 48, 3) := by decide +kernel
theorem dX8_sets_70 : decode cX8_sets 70 = .ok (.aload_n 0, 1) := by decide +kernel
theorem dX8_sets_71 : decode cX8_sets 71 = .ok (.getfield 10, 3) := by decide +kernel
theorem dX8_sets_74 : decode cX8_sets 74 = .ok (.invokevirtual 105, 3) := by decide +kernel
theorem dX8_sets_77 : decode cX8_sets 77 = .ok (.aload_n 0, 1) := by decide +kernel
theorem dX8_sets_78 : decode cX8_sets 78 = .ok (.getfield 10, 3) := by decide +kernel
theorem dX8_sets_81 : decode cX8_sets 81 = .ok (.iload_n 1, 1) := by decide +kernel
theorem dX8_sets_82 : decode cX8_sets 82 = .ok (.iconst 1, 1) := by decide +kernel
theorem dX8_sets_83 : decode cX8_sets 83 = .ok (.iload_n 2, 1) := by decide +kernel
theorem dX8_sets_84 : decode cX8_sets 84 = .ok (.iadd, 1) := by decide +kernel
theorem dX8_sets_85 : decode cX8_sets 85 = .ok (.iload_n 3, 1) := by decide +kernel
theorem dX8_sets_86 : decode cX8_sets 86 = .ok (.invokevirtual 143, 3) := by decide +kernel
theorem dX8_sets_89 : decode cX8_sets 89 = .ok (.iload 4, 2) := by decide +kernel
theorem dX8_sets_91 : decode cX8_sets 91 = .ok (.ireturn, 1) := by decide +kernel
theorem dX8_drifts_0 : decode cX8_drifts 0 = .ok (.aload_n 0, 1) := by decide +kernel
theorem dX8_drifts_1 : decode cX8_drifts 1 = .ok (.getfield 10, 3) := by decide +kernel
theorem dX8_drifts_4 : decode cX8_drifts 4 = .ok (.iload_n 1, 1) := by decide +kernel
theorem dX8_drifts_5 : decode cX8_drifts 5 = .ok (.invokevirtual 133, 3) := by decide +kernel
theorem dX8_drifts_8 : decode cX8_drifts 8 = .ok (.ifCond .eq 15, 3) := by decide +kernel
theorem dX8_drifts_11 : decode cX8_drifts 11 = .ok (.iload_n 2, 1) := by decide +kernel
theorem dX8_drifts_12 : decode cX8_drifts 12 = .ok (.bipush (-50), 2) := by decide +kernel
theorem dX8_drifts_14 : decode cX8_drifts 14 = .ok (.if_icmp .lt 9, 3) := by decide +kernel
theorem dX8_drifts_17 : decode cX8_drifts 17 = .ok (.iload_n 2, 1) := by decide +kernel
theorem dX8_drifts_18 : decode cX8_drifts 18 = .ok (.bipush 50, 2) := by decide +kernel
theorem dX8_drifts_20 : decode cX8_drifts 20 = .ok (.if_icmp .le 5, 3) := by decide +kernel
theorem dX8_drifts_23 : decode cX8_drifts 23 = .ok (.iconst (-1), 1) := by decide +kernel
theorem dX8_drifts_24 : decode cX8_drifts 24 = .ok (.ireturn, 1) := by decide +kernel
theorem dX8_drifts_25 : decode cX8_drifts 25 = .ok (.aload_n 0, 1) := by decide +kernel
theorem dX8_drifts_26 : decode cX8_drifts 26 = .ok (.getfield 10, 3) := by decide +kernel
theorem dX8_drifts_29 : decode cX8_drifts 29 = .ok (.iload_n 1, 1) := by decide +kernel
theorem dX8_drifts_30 : decode cX8_drifts 30 = .ok (.bipush 7, 2) := by decide +kernel
theorem dX8_drifts_32 : decode cX8_drifts 32 = .ok (.invokevirtual 136, 3) := by decide +kernel
theorem dX8_drifts_35 : decode cX8_drifts 35 = .ok (.iload_n 2, 1) := by decide +kernel
theorem dX8_drifts_36 : decode cX8_drifts 36 = .ok (.if_icmp .ne 6, 3) := by decide +kernel
theorem dX8_drifts_39 : decode cX8_drifts 39 = .ok (.bipush (-2), 2) := by decide +kernel
theorem dX8_drifts_41 : decode cX8_drifts 41 = .ok (.ireturn, 1) := by decide +kernel
theorem dX8_drifts_42 : decode cX8_drifts 42 = .ok (.aload_n 0, 1) := by decide +kernel
theorem dX8_drifts_43 : decode cX8_drifts 43 = .ok (.getfield 48, 3) := by decide +kernel
theorem dX8_drifts_46 : decode cX8_drifts 46 = .ok (.aload_n 0, 1) := by decide +kernel
theorem dX8_drifts_47 : decode cX8_drifts 47 = .ok (.getfield 10, 3) := by decide +kernel
theorem dX8_drifts_50 : decode cX8_drifts 50 = .ok (.invokevirtual 105, 3) := by decide +kernel
theorem dX8_drifts_53 : decode cX8_drifts 53 = .ok (.aload_n 0, 1) := by decide +kernel
theorem dX8_drifts_54 : decode cX8_drifts 54 = .ok (.getfield 10, 3) := by decide +kernel
theorem dX8_drifts_57 : decode cX8_drifts 57 = .ok (.iload_n 1, 1) := by decide +kernel
theorem dX8_drifts_58 : decode cX8_drifts 58 = .ok (.bipush 7, 2) := by decide +kernel
theorem dX8_drifts_60 : decode cX8_drifts 60 = .ok (.iload_n 2, 1) := by decide +kernel
theorem dX8_drifts_61 : decode cX8_drifts 61 = .ok (.invokevirtual 143, 3) := by decide +kernel
theorem dX8_drifts_64 : decode cX8_drifts 64 = .ok (.iconst 1, 1) := by decide +kernel
theorem dX8_drifts_65 : decode cX8_drifts 65 = .ok (.ireturn, 1) := by decide +kernel
theorem dX8_measures_0 : decode cX8_measures 0 = .ok (.aload_n 0, 1) := by decide +kernel
theorem dX8_measures_1 : decode cX8_measures 1 = .ok (.getfield 10, 3) := by decide +kernel
theorem dX8_measures_4 : decode cX8_measures 4 = .ok (.invokevirtual 146, 3) := by decide +kernel
theorem dX8_measures_7 : decode cX8_measures 7 = .ok (.istore_n 1, 1) := by decide +kernel
theorem dX8_measures_8 : decode cX8_measures 8 = .ok (.iload_n 1, 1) := by decide +kernel
theorem dX8_measures_9 : decode cX8_measures 9 = .ok (.ifCond .ne 6, 3) := by decide +kernel
theorem dX8_measures_12 : decode cX8_measures 12 = .ok (.bipush (-2), 2) := by decide +kernel
theorem dX8_measures_14 : decode cX8_measures 14 = .ok (.ireturn, 1) := by decide +kernel
theorem dX8_measures_15 : decode cX8_measures 15 = .ok (.aload_n 0, 1) := by decide +kernel
theorem dX8_measures_16 : decode cX8_measures 16 = .ok (.getfield 48, 3) := by decide +kernel
theorem dX8_measures_19 : decode cX8_measures 19 = .ok (.aload_n 0, 1) := by decide +kernel
theorem dX8_measures_20 : decode cX8_measures 20 = .ok (.getfield 10, 3) := by decide +kernel
theorem dX8_measures_23 : decode cX8_measures 23 = .ok (.invokevirtual 105, 3) := by decide +kernel
theorem dX8_measures_26 : decode cX8_measures 26 = .ok (.aload_n 0, 1) := by decide +kernel
theorem dX8_measures_27 : decode cX8_measures 27 = .ok (.getfield 10, 3) := by decide +kernel
theorem dX8_measures_30 : decode cX8_measures 30 = .ok (.iload_n 1, 1) := by decide +kernel
theorem dX8_measures_31 : decode cX8_measures 31 = .ok (.invokevirtual 149, 3) := by decide +kernel
theorem dX8_measures_34 : decode cX8_measures 34 = .ok (.iload_n 1, 1) := by decide +kernel
theorem dX8_measures_35 : decode cX8_measures 35 = .ok (.invokestatic 152, 3) := by decide +kernel
theorem dX8_measures_38 : decode cX8_measures 38 = .ok (.ireturn, 1) := by decide +kernel
theorem dX8_undo_0 : decode cX8_undo 0 = .ok (.aload_n 0, 1) := by decide +kernel
theorem dX8_undo_1 : decode cX8_undo 1 = .ok (.getfield 48, 3) := by decide +kernel
theorem dX8_undo_4 : decode cX8_undo 4 = .ok (.getfield 158, 3) := by decide +kernel
theorem dX8_undo_7 : decode cX8_undo 7 = .ok (.ifCond .ne 6, 3) := by decide +kernel
theorem dX8_undo_10 : decode cX8_undo 10 = .ok (.bipush (-2), 2) := by decide +kernel
theorem dX8_undo_12 : decode cX8_undo 12 = .ok (.ireturn, 1) := by decide +kernel
theorem dX8_undo_13 : decode cX8_undo 13 = .ok (.aload_n 0, 1) := by decide +kernel
theorem dX8_undo_14 : decode cX8_undo 14 = .ok (.getfield 48, 3) := by decide +kernel
theorem dX8_undo_17 : decode cX8_undo 17 = .ok (.aload_n 0, 1) := by decide +kernel
theorem dX8_undo_18 : decode cX8_undo 18 = .ok (.getfield 10, 3) := by decide +kernel
theorem dX8_undo_21 : decode cX8_undo 21 = .ok (.invokevirtual 159, 3) := by decide +kernel
theorem dX8_undo_24 : decode cX8_undo 24 = .ok (.aload_n 0, 1) := by decide +kernel
theorem dX8_undo_25 : decode cX8_undo 25 = .ok (.getfield 48, 3) := by decide +kernel
theorem dX8_undo_28 : decode cX8_undo 28 = .ok (.getfield 158, 3) := by decide +kernel
theorem dX8_undo_31 : decode cX8_undo 31 = .ok (.ireturn, 1) := by decide +kernel
theorem dX8_drive_0 : decode cX8_drive 0 = .ok (.aload_n 0, 1) := by decide +kernel
theorem dX8_drive_1 : decode cX8_drive 1 = .ok (.getfield 10, 3) := by decide +kernel
theorem dX8_drive_4 : decode cX8_drive 4 = .ok (.iload_n 1, 1) := by decide +kernel
theorem dX8_drive_5 : decode cX8_drive 5 = .ok (.invokevirtual 133, 3) := by decide +kernel
theorem dX8_drive_8 : decode cX8_drive 8 = .ok (.ifCond .eq 13, 3) := by decide +kernel
theorem dX8_drive_11 : decode cX8_drive 11 = .ok (.iload_n 2, 1) := by decide +kernel
theorem dX8_drive_12 : decode cX8_drive 12 = .ok (.ifCond .lt 9, 3) := by decide +kernel
theorem dX8_drive_15 : decode cX8_drive 15 = .ok (.iload_n 2, 1) := by decide +kernel
theorem dX8_drive_16 : decode cX8_drive 16 = .ok (.bipush 9, 2) := by decide +kernel
theorem dX8_drive_18 : decode cX8_drive 18 = .ok (.if_icmp .le 6, 3) := by decide +kernel
theorem dX8_drive_21 : decode cX8_drive 21 = .ok (.ldc 162, 2) := by decide +kernel
theorem dX8_drive_23 : decode cX8_drive 23 = .ok (.ireturn, 1) := by decide +kernel
theorem dX8_drive_24 : decode cX8_drive 24 = .ok (.iload_n 2, 1) := by decide +kernel
theorem dX8_drive_25 : decode cX8_drive 25 = .ok (.bipush 9, 2) := by decide +kernel
theorem dX8_drive_27 : decode cX8_drive 27 = .ok (.if_icmp .ne 14, 3) := by decide +kernel
theorem dX8_drive_30 : decode cX8_drive 30 = .ok (.aload_n 0, 1) := by decide +kernel
theorem dX8_drive_31 : decode cX8_drive 31 = .ok (.getfield 10, 3) := by decide +kernel
theorem dX8_drive_34 : decode cX8_drive 34 = .ok (.iload_n 1, 1) := by decide +kernel
theorem dX8_drive_35 : decode cX8_drive 35 = .ok (.invokevirtual 163, 3) := by decide +kernel
theorem dX8_drive_38 : decode cX8_drive 38 = .ok (.goto 12, 3) := by decide +kernel
theorem dX8_drive_41 : decode cX8_drive 41 = .ok (.aload_n 0, 1) := by decide +kernel
theorem dX8_drive_42 : decode cX8_drive 42 = .ok (.getfield 10, 3) := by decide +kernel
theorem dX8_drive_45 : decode cX8_drive 45 = .ok (.iload_n 1, 1) := by decide +kernel
theorem dX8_drive_46 : decode cX8_drive 46 = .ok (.iload_n 2, 1) := by decide +kernel
theorem dX8_drive_47 : decode cX8_drive 47 = .ok (.invokevirtual 136, 3) := by decide +kernel
theorem dX8_drive_50 : decode cX8_drive 50 = .ok (.ireturn, 1) := by decide +kernel
theorem dX8_link_0 : decode cX8_link 0 = .ok (.aload_n 0, 1) := by decide +kernel
theorem dX8_link_1 : decode cX8_link 1 = .ok (.getfield 10, 3) := by decide +kernel
theorem dX8_link_4 : decode cX8_link 4 = .ok (.iload_n 1, 1) := by decide +kernel
theorem dX8_link_5 : decode cX8_link 5 = .ok (.invokevirtual 108, 3) := by decide +kernel
theorem dX8_link_8 : decode cX8_link 8 = .ok (.ifCond .eq 12, 3) := by decide +kernel
theorem dX8_link_11 : decode cX8_link 11 = .ok (.iload_n 2, 1) := by decide +kernel
theorem dX8_link_12 : decode cX8_link 12 = .ok (.ifCond .lt 8, 3) := by decide +kernel
theorem dX8_link_15 : decode cX8_link 15 = .ok (.iload_n 2, 1) := by decide +kernel
theorem dX8_link_16 : decode cX8_link 16 = .ok (.iconst 2, 1) := by decide +kernel
theorem dX8_link_17 : decode cX8_link 17 = .ok (.if_icmp .lt 5, 3) := by decide +kernel
theorem dX8_link_20 : decode cX8_link 20 = .ok (.iconst (-1), 1) := by decide +kernel
theorem dX8_link_21 : decode cX8_link 21 = .ok (.ireturn, 1) := by decide +kernel
theorem dX8_link_22 : decode cX8_link 22 = .ok (.aload_n 0, 1) := by decide +kernel
theorem dX8_link_23 : decode cX8_link 23 = .ok (.getfield 10, 3) := by decide +kernel
theorem dX8_link_26 : decode cX8_link 26 = .ok (.iload_n 1, 1) := by decide +kernel
theorem dX8_link_27 : decode cX8_link 27 = .ok (.iload_n 2, 1) := by decide +kernel
theorem dX8_link_28 : decode cX8_link 28 = .ok (.invokevirtual 166, 3) := by decide +kernel
theorem dX8_link_31 : decode cX8_link 31 = .ok (.ireturn, 1) := by decide +kernel
theorem dX8_order_0 : decode cX8_order 0 = .ok (.aload_n 0, 1) := by decide +kernel
theorem dX8_order_1 : decode cX8_order 1 = .ok (.getfield 10, 3) := by decide +kernel
theorem dX8_order_4 : decode cX8_order 4 = .ok (.iload_n 1, 1) := by decide +kernel
theorem dX8_order_5 : decode cX8_order 5 = .ok (.invokevirtual 169, 3) := by decide +kernel
theorem dX8_order_8 : decode cX8_order 8 = .ok (.ifCond .eq 12, 3) := by decide +kernel
theorem dX8_order_11 : decode cX8_order 11 = .ok (.iload_n 2, 1) := by decide +kernel
theorem dX8_order_12 : decode cX8_order 12 = .ok (.ifCond .lt 8, 3) := by decide +kernel
theorem dX8_order_15 : decode cX8_order 15 = .ok (.iload_n 2, 1) := by decide +kernel
theorem dX8_order_16 : decode cX8_order 16 = .ok (.iconst 5, 1) := by decide +kernel
theorem dX8_order_17 : decode cX8_order 17 = .ok (.if_icmp .lt 5, 3) := by decide +kernel
theorem dX8_order_20 : decode cX8_order 20 = .ok (.iconst (-1), 1) := by decide +kernel
theorem dX8_order_21 : decode cX8_order 21 = .ok (.ireturn, 1) := by decide +kernel
theorem dX8_order_22 : decode cX8_order 22 = .ok (.aload_n 0, 1) := by decide +kernel
theorem dX8_order_23 : decode cX8_order 23 = .ok (.getfield 10, 3) := by decide +kernel
theorem dX8_order_26 : decode cX8_order 26 = .ok (.iload_n 1, 1) := by decide +kernel
theorem dX8_order_27 : decode cX8_order 27 = .ok (.iload_n 2, 1) := by decide +kernel
theorem dX8_order_28 : decode cX8_order 28 = .ok (.invokevirtual 172, 3) := by decide +kernel
theorem dX8_order_31 : decode cX8_order 31 = .ok (.ireturn, 1) := by decide +kernel
theorem dX8_result_0 : decode cX8_result 0 = .ok (.aload_n 0, 1) := by decide +kernel
theorem dX8_result_1 : decode cX8_result 1 = .ok (.getfield 10, 3) := by decide +kernel
theorem dX8_result_4 : decode cX8_result 4 = .ok (.iload_n 1, 1) := by decide +kernel
theorem dX8_result_5 : decode cX8_result 5 = .ok (.invokevirtual 169, 3) := by decide +kernel
theorem dX8_result_8 : decode cX8_result 8 = .ok (.ifCond .eq 12, 3) := by decide +kernel
theorem dX8_result_11 : decode cX8_result 11 = .ok (.iload_n 2, 1) := by decide +kernel
theorem dX8_result_12 : decode cX8_result 12 = .ok (.ifCond .lt 8, 3) := by decide +kernel
theorem dX8_result_15 : decode cX8_result 15 = .ok (.iload_n 2, 1) := by decide +kernel
theorem dX8_result_16 : decode cX8_result 16 = .ok (.iconst 2, 1) := by decide +kernel
theorem dX8_result_17 : decode cX8_result 17 = .ok (.if_icmp .lt 5, 3) := by decide +kernel
theorem dX8_result_20 : decode cX8_result 20 = .ok (.iconst (-1), 1) := by decide +kernel
theorem dX8_result_21 : decode cX8_result 21 = .ok (.ireturn, 1) := by decide +kernel
theorem dX8_result_22 : decode cX8_result 22 = .ok (.aload_n 0, 1) := by decide +kernel
theorem dX8_result_23 : decode cX8_result 23 = .ok (.getfield 10, 3) := by decide +kernel
theorem dX8_result_26 : decode cX8_result 26 = .ok (.getfield 175, 3) := by decide +kernel
theorem dX8_result_29 : decode cX8_result 29 = .ok (.ifCond .eq 15, 3) := by decide +kernel
theorem dX8_result_32 : decode cX8_result 32 = .ok (.aload_n 0, 1) := by decide +kernel
theorem dX8_result_33 : decode cX8_result 33 = .ok (.getfield 10, 3) := by decide +kernel
theorem dX8_result_36 : decode cX8_result 36 = .ok (.iload_n 1, 1) := by decide +kernel
theorem dX8_result_37 : decode cX8_result 37 = .ok (.iload_n 2, 1) := by decide +kernel
theorem dX8_result_38 : decode cX8_result 38 = .ok (.invokevirtual 178, 3) := by decide +kernel
theorem dX8_result_41 : decode cX8_result 41 = .ok (.goto 5, 3) := by decide +kernel
theorem dX8_result_44 : decode cX8_result 44 = .ok (.bipush (-9), 2) := by decide +kernel
theorem dX8_result_46 : decode cX8_result 46 = .ok (.ireturn, 1) := by decide +kernel
theorem dX8_time_0 : decode cX8_time 0 = .ok (.iload_n 1, 1) := by decide +kernel
theorem dX8_time_1 : decode cX8_time 1 = .ok (.ifCond .lt 8, 3) := by decide +kernel
theorem dX8_time_4 : decode cX8_time 4 = .ok (.iload_n 1, 1) := by decide +kernel
theorem dX8_time_5 : decode cX8_time 5 = .ok (.iconst 2, 1) := by decide +kernel
theorem dX8_time_6 : decode cX8_time 6 = .ok (.if_icmp .lt 5, 3) := by decide +kernel
theorem dX8_time_9 : decode cX8_time 9 = .ok (.iconst (-1), 1) := by decide +kernel
theorem dX8_time_10 : decode cX8_time 10 = .ok (.ireturn, 1) := by decide +kernel
theorem dX8_time_11 : decode cX8_time 11 = .ok (.aload_n 0, 1) := by decide +kernel
theorem dX8_time_12 : decode cX8_time 12 = .ok (.getfield 10, 3) := by decide +kernel
theorem dX8_time_15 : decode cX8_time 15 = .ok (.getfield 181, 3) := by decide +kernel
theorem dX8_time_18 : decode cX8_time 18 = .ok (.iload_n 1, 1) := by decide +kernel
theorem dX8_time_19 : decode cX8_time 19 = .ok (.iaload, 1) := by decide +kernel
theorem dX8_time_20 : decode cX8_time 20 = .ok (.ireturn, 1) := by decide +kernel
theorem dX8_reached_0 : decode cX8_reached 0 = .ok (.iload_n 1, 1) := by decide +kernel
theorem dX8_reached_1 : decode cX8_reached 1 = .ok (.ifCond .lt 8, 3) := by decide +kernel
theorem dX8_reached_4 : decode cX8_reached 4 = .ok (.iload_n 1, 1) := by decide +kernel
theorem dX8_reached_5 : decode cX8_reached 5 = .ok (.iconst 1, 1) := by decide +kernel
theorem dX8_reached_6 : decode cX8_reached 6 = .ok (.if_icmp .le 5, 3) := by decide +kernel
theorem dX8_reached_9 : decode cX8_reached 9 = .ok (.iconst (-1), 1) := by decide +kernel
theorem dX8_reached_10 : decode cX8_reached 10 = .ok (.ireturn, 1) := by decide +kernel
theorem dX8_reached_11 : decode cX8_reached 11 = .ok (.iload_n 1, 1) := by decide +kernel
theorem dX8_reached_12 : decode cX8_reached 12 = .ok (.ifCond .ne 13, 3) := by decide +kernel
theorem dX8_reached_15 : decode cX8_reached 15 = .ok (.aload_n 0, 1) := by decide +kernel
theorem dX8_reached_16 : decode cX8_reached 16 = .ok (.getfield 10, 3) := by decide +kernel
theorem dX8_reached_19 : decode cX8_reached 19 = .ok (.invokevirtual 185, 3) := by decide +kernel
theorem dX8_reached_22 : decode cX8_reached 22 = .ok (.goto 10, 3) := by decide +kernel
theorem dX8_reached_25 : decode cX8_reached 25 = .ok (.aload_n 0, 1) := by decide +kernel
theorem dX8_reached_26 : decode cX8_reached 26 = .ok (.getfield 10, 3) := by decide +kernel
theorem dX8_reached_29 : decode cX8_reached 29 = .ok (.invokevirtual 188, 3) := by decide +kernel
theorem dX8_reached_32 : decode cX8_reached 32 = .ok (.ireturn, 1) := by decide +kernel
theorem dX8_would_0 : decode cX8_would 0 = .ok (.iload_n 1, 1) := by decide +kernel
theorem dX8_would_1 : decode cX8_would 1 = .ok (.ifCond .lt 9, 3) := by decide +kernel
theorem dX8_would_4 : decode cX8_would 4 = .ok (.iload_n 1, 1) := by decide +kernel
theorem dX8_would_5 : decode cX8_would 5 = .ok (.bipush 6, 2) := by decide +kernel
theorem dX8_would_7 : decode cX8_would 7 = .ok (.if_icmp .lt 5, 3) := by decide +kernel
theorem dX8_would_10 : decode cX8_would 10 = .ok (.iconst (-1), 1) := by decide +kernel
theorem dX8_would_11 : decode cX8_would 11 = .ok (.ireturn, 1) := by decide +kernel
theorem dX8_would_12 : decode cX8_would 12 = .ok (.aload_n 0, 1) := by decide +kernel
theorem dX8_would_13 : decode cX8_would 13 = .ok (.bipush (-9), 2) := by decide +kernel
theorem dX8_would_15 : decode cX8_would 15 = .ok (.invokevirtual 191, 3) := by decide +kernel
theorem dX8_would_18 : decode cX8_would 18 = .ok (.aload_n 0, 1) := by decide +kernel
theorem dX8_would_19 : decode cX8_would 19 = .ok (.getfield 19, 3) := by decide +kernel
theorem dX8_would_22 : decode cX8_would 22 = .ok (.iload_n 1, 1) := by decide +kernel
theorem dX8_would_23 : decode cX8_would 23 = .ok (.invokevirtual 194, 3) := by decide +kernel
theorem dX8_would_26 : decode cX8_would 26 = .ok (.ireturn, 1) := by decide +kernel
theorem dX8_sendTrial_0 : decode cX8_sendTrial 0 = .ok (.aload_n 0, 1) := by decide +kernel
theorem dX8_sendTrial_1 : decode cX8_sendTrial 1 = .ok (.getfield 19, 3) := by decide +kernel
theorem dX8_sendTrial_4 : decode cX8_sendTrial 4 = .ok (.aload_n 0, 1) := by decide +kernel
theorem dX8_sendTrial_5 : decode cX8_sendTrial 5 = .ok (.getfield 10, 3) := by decide +kernel
theorem dX8_sendTrial_8 : decode cX8_sendTrial 8 = .ok (.invokevirtual 95, 3) := by decide +kernel
theorem dX8_sendTrial_11 : decode cX8_sendTrial 11 = .ok (.aload_n 0, 1) := by decide +kernel
theorem dX8_sendTrial_12 : decode cX8_sendTrial 12 = .ok (.getfield 19, 3) := by decide +kernel
theorem dX8_sendTrial_15 : decode cX8_sendTrial 15 = .ok (.iload_n 1, 1) := by decide +kernel
theorem dX8_sendTrial_16 : decode cX8_sendTrial 16 = .ok (.invokevirtual 108, 3) := by decide +kernel
theorem dX8_sendTrial_19 : decode cX8_sendTrial 19 = .ok (.ifCond .eq 13, 3) := by decide +kernel
theorem dX8_sendTrial_22 : decode cX8_sendTrial 22 = .ok (.aload_n 0, 1) := by decide +kernel
theorem dX8_sendTrial_23 : decode cX8_sendTrial 23 = .ok (.getfield 19, 3) := by decide +kernel
theorem dX8_sendTrial_26 : decode cX8_sendTrial 26 = .ok (.iload_n 1, 1) := by decide +kernel
theorem dX8_sendTrial_27 : decode cX8_sendTrial 27 = .ok (.iconst 1, 1) := by decide +kernel
theorem dX8_sendTrial_28 : decode cX8_sendTrial 28 = .ok (.iconst 1, 1) := by decide +kernel
theorem dX8_sendTrial_29 : decode cX8_sendTrial 29 = .ok (.invokevirtual 115, 3) := by decide +kernel
theorem dX8_sendTrial_32 : decode cX8_sendTrial 32 = .ok (.aload_n 0, 1) := by decide +kernel
theorem dX8_sendTrial_33 : decode cX8_sendTrial 33 = .ok (.getfield 41, 3) := by decide +kernel
theorem dX8_sendTrial_36 : decode cX8_sendTrial 36 = .ok (.aload_n 0, 1) := by decide +kernel
theorem dX8_sendTrial_37 : decode cX8_sendTrial 37 = .ok (.getfield 19, 3) := by decide +kernel
theorem dX8_sendTrial_40 : decode cX8_sendTrial 40 = .ok (.invokevirtual 197, 3) := by decide +kernel
theorem dX8_sendTrial_43 : decode cX8_sendTrial 43 = .ok (.return_, 1) := by decide +kernel
theorem dX8_sees_0 : decode cX8_sees 0 = .ok (.iload_n 1, 1) := by decide +kernel
theorem dX8_sees_1 : decode cX8_sees 1 = .ok (.iconst 4, 1) := by decide +kernel
theorem dX8_sees_2 : decode cX8_sees 2 = .ok (.if_icmp .lt 13, 3) := by decide +kernel
theorem dX8_sees_5 : decode cX8_sees 5 = .ok (.iload_n 2, 1) := by decide +kernel
theorem dX8_sees_6 : decode cX8_sees 6 = .ok (.bipush (-9), 2) := by decide +kernel
theorem dX8_sees_8 : decode cX8_sees 8 = .ok (.if_icmp .ne 7, 3) := by decide +kernel
theorem dX8_sees_11 : decode cX8_sees 11 = .ok (.iconst 1, 1) := by decide +kernel
theorem dX8_sees_12 : decode cX8_sees 12 = .ok (.goto 4, 3) := by decide +kernel
theorem dX8_sees_15 : decode cX8_sees 15 = .ok (.iconst 0, 1) := by decide +kernel
theorem dX8_sees_16 : decode cX8_sees 16 = .ok (.istore_n 3, 1) := by decide +kernel
theorem dX8_sees_17 : decode cX8_sees 17 = .ok (.iload_n 1, 1) := by decide +kernel
theorem dX8_sees_18 : decode cX8_sees 18 = .ok (.ifCond .lt 24, 3) := by decide +kernel
theorem dX8_sees_21 : decode cX8_sees 21 = .ok (.iload_n 1, 1) := by decide +kernel
theorem dX8_sees_22 : decode cX8_sees 22 = .ok (.bipush 6, 2) := by decide +kernel
theorem dX8_sees_24 : decode cX8_sees 24 = .ok (.if_icmp .ge 18, 3) := by decide +kernel
theorem dX8_sees_27 : decode cX8_sees 27 = .ok (.iload_n 3, 1) := by decide +kernel
theorem dX8_sees_28 : decode cX8_sees 28 = .ok (.ifCond .ne 16, 3) := by decide +kernel
theorem dX8_sees_31 : decode cX8_sees 31 = .ok (.iload_n 2, 1) := by decide +kernel
theorem dX8_sees_32 : decode cX8_sees 32 = .ok (.ifCond .lt 10, 3) := by decide +kernel
theorem dX8_sees_35 : decode cX8_sees 35 = .ok (.iload_n 2, 1) := by decide +kernel
theorem dX8_sees_36 : decode cX8_sees 36 = .ok (.sipush 255, 3) := by decide +kernel
theorem dX8_sees_39 : decode cX8_sees 39 = .ok (.if_icmp .le 5, 3) := by decide +kernel
theorem dX8_sees_42 : decode cX8_sees 42 = .ok (.iconst (-1), 1) := by decide +kernel
theorem dX8_sees_43 : decode cX8_sees 43 = .ok (.ireturn, 1) := by decide +kernel
theorem dX8_sees_44 : decode cX8_sees 44 = .ok (.aload_n 0, 1) := by decide +kernel
theorem dX8_sees_45 : decode cX8_sees 45 = .ok (.getfield 63, 3) := by decide +kernel
theorem dX8_sees_48 : decode cX8_sees 48 = .ok (.getfield 200, 3) := by decide +kernel
theorem dX8_sees_51 : decode cX8_sees 51 = .ok (.bipush 6, 2) := by decide +kernel
theorem dX8_sees_53 : decode cX8_sees 53 = .ok (.if_icmp .lt 6, 3) := by decide +kernel
theorem dX8_sees_56 : decode cX8_sees 56 = .ok (.bipush (-3), 2) := by decide +kernel
theorem dX8_sees_58 : decode cX8_sees 58 = .ok (.ireturn, 1) := by decide +kernel
theorem dX8_sees_59 : decode cX8_sees 59 = .ok (.aload_n 0, 1) := by decide +kernel
theorem dX8_sees_60 : decode cX8_sees 60 = .ok (.getfield 63, 3) := by decide +kernel
theorem dX8_sees_63 : decode cX8_sees 63 = .ok (.iload_n 1, 1) := by decide +kernel
theorem dX8_sees_64 : decode cX8_sees 64 = .ok (.iload_n 2, 1) := by decide +kernel
theorem dX8_sees_65 : decode cX8_sees 65 = .ok (.invokevirtual 201, 3) := by decide +kernel
theorem dX8_sees_68 : decode cX8_sees 68 = .ok (.aload_n 0, 1) := by decide +kernel
theorem dX8_sees_69 : decode cX8_sees 69 = .ok (.getfield 63, 3) := by decide +kernel
theorem dX8_sees_72 : decode cX8_sees 72 = .ok (.getfield 200, 3) := by decide +kernel
theorem dX8_sees_75 : decode cX8_sees 75 = .ok (.ireturn, 1) := by decide +kernel
theorem dX8_forget_0 : decode cX8_forget 0 = .ok (.aload_n 0, 1) := by decide +kernel
theorem dX8_forget_1 : decode cX8_forget 1 = .ok (.getfield 63, 3) := by decide +kernel
theorem dX8_forget_4 : decode cX8_forget 4 = .ok (.getfield 200, 3) := by decide +kernel
theorem dX8_forget_7 : decode cX8_forget 7 = .ok (.istore_n 1, 1) := by decide +kernel
theorem dX8_forget_8 : decode cX8_forget 8 = .ok (.aload_n 0, 1) := by decide +kernel
theorem dX8_forget_9 : decode cX8_forget 9 = .ok (.getfield 63, 3) := by decide +kernel
theorem dX8_forget_12 : decode cX8_forget 12 = .ok (.iconst 0, 1) := by decide +kernel
theorem dX8_forget_13 : decode cX8_forget 13 = .ok (.putfield 200, 3) := by decide +kernel
theorem dX8_forget_16 : decode cX8_forget 16 = .ok (.iload_n 1, 1) := by decide +kernel
theorem dX8_forget_17 : decode cX8_forget 17 = .ok (.ireturn, 1) := by decide +kernel
theorem dX8_which_0 : decode cX8_which 0 = .ok (.iload_n 1, 1) := by decide +kernel
theorem dX8_which_1 : decode cX8_which 1 = .ok (.ifCond .lt 8, 3) := by decide +kernel
theorem dX8_which_4 : decode cX8_which 4 = .ok (.iload_n 1, 1) := by decide +kernel
theorem dX8_which_5 : decode cX8_which 5 = .ok (.iconst 2, 1) := by decide +kernel
theorem dX8_which_6 : decode cX8_which 6 = .ok (.if_icmp .le 5, 3) := by decide +kernel
theorem dX8_which_9 : decode cX8_which 9 = .ok (.iconst (-1), 1) := by decide +kernel
theorem dX8_which_10 : decode cX8_which 10 = .ok (.ireturn, 1) := by decide +kernel
theorem dX8_which_11 : decode cX8_which 11 = .ok (.iload_n 1, 1) := by decide +kernel
theorem dX8_which_12 : decode cX8_which 12 = .ok (.iconst 2, 1) := by decide +kernel
theorem dX8_which_13 : decode cX8_which 13 = .ok (.if_icmp .ne 29, 3) := by decide +kernel
theorem dX8_which_16 : decode cX8_which 16 = .ok (.aload_n 0, 1) := by decide +kernel
theorem dX8_which_17 : decode cX8_which 17 = .ok (.bipush (-9), 2) := by decide +kernel
theorem dX8_which_19 : decode cX8_which 19 = .ok (.invokevirtual 191, 3) := by decide +kernel
theorem dX8_which_22 : decode cX8_which 22 = .ok (.aload_n 0, 1) := by decide +kernel
theorem dX8_which_23 : decode cX8_which 23 = .ok (.getfield 63, 3) := by decide +kernel
theorem dX8_which_26 : decode cX8_which 26 = .ok (.aload_n 0, 1) := by decide +kernel
theorem dX8_which_27 : decode cX8_which 27 = .ok (.getfield 19, 3) := by decide +kernel
theorem dX8_which_30 : decode cX8_which 30 = .ok (.invokevirtual 204, 3) := by decide +kernel
theorem dX8_which_33 : decode cX8_which 33 = .ok (.ifCond .eq 7, 3) := by decide +kernel
theorem dX8_which_36 : decode cX8_which 36 = .ok (.iconst 1, 1) := by decide +kernel
theorem dX8_which_37 : decode cX8_which 37 = .ok (.goto 4, 3) := by decide +kernel
theorem dX8_which_40 : decode cX8_which 40 = .ok (.iconst 0, 1) := by decide +kernel
theorem dX8_which_41 : decode cX8_which 41 = .ok (.ireturn, 1) := by decide +kernel
theorem dX8_which_42 : decode cX8_which 42 = .ok (.aload_n 0, 1) := by decide +kernel
theorem dX8_which_43 : decode cX8_which 43 = .ok (.invokevirtual 207, 3) := by decide +kernel
theorem dX8_which_46 : decode cX8_which 46 = .ok (.iload_n 1, 1) := by decide +kernel
theorem dX8_which_47 : decode cX8_which 47 = .ok (.ifCond .ne 11, 3) := by decide +kernel
theorem dX8_which_50 : decode cX8_which 50 = .ok (.aload_n 0, 1) := by decide +kernel
theorem dX8_which_51 : decode cX8_which 51 = .ok (.getfield 70, 3) := by decide +kernel
theorem dX8_which_54 : decode cX8_which 54 = .ok (.getfield 210, 3) := by decide +kernel
theorem dX8_which_57 : decode cX8_which 57 = .ok (.ireturn, 1) := by decide +kernel
theorem dX8_which_58 : decode cX8_which 58 = .ok (.aload_n 0, 1) := by decide +kernel
theorem dX8_which_59 : decode cX8_which 59 = .ok (.getfield 70, 3) := by decide +kernel
theorem dX8_which_62 : decode cX8_which 62 = .ok (.getfield 210, 3) := by decide +kernel
theorem dX8_which_65 : decode cX8_which 65 = .ok (.ifCond .ne 8, 3) := by decide +kernel
theorem dX8_which_68 : decode cX8_which 68 = .ok (.bipush (-9), 2) := by decide +kernel
theorem dX8_which_70 : decode cX8_which 70 = .ok (.goto 12, 3) := by decide +kernel
theorem dX8_which_73 : decode cX8_which 73 = .ok (.aload_n 0, 1) := by decide +kernel
theorem dX8_which_74 : decode cX8_which 74 = .ok (.getfield 70, 3) := by decide +kernel
theorem dX8_which_77 : decode cX8_which 77 = .ok (.getfield 211, 3) := by decide +kernel
theorem dX8_which_80 : decode cX8_which 80 = .ok (.iconst 0, 1) := by decide +kernel
theorem dX8_which_81 : decode cX8_which 81 = .ok (.iaload, 1) := by decide +kernel
theorem dX8_which_82 : decode cX8_which 82 = .ok (.ireturn, 1) := by decide +kernel
theorem dX8_ask_0 : decode cX8_ask 0 = .ok (.aload_n 0, 1) := by decide +kernel
theorem dX8_ask_1 : decode cX8_ask 1 = .ok (.invokevirtual 207, 3) := by decide +kernel
theorem dX8_ask_4 : decode cX8_ask 4 = .ok (.aload_n 0, 1) := by decide +kernel
theorem dX8_ask_5 : decode cX8_ask 5 = .ok (.getfield 70, 3) := by decide +kernel
theorem dX8_ask_8 : decode cX8_ask 8 = .ok (.getfield 210, 3) := by decide +kernel
theorem dX8_ask_11 : decode cX8_ask 11 = .ok (.iconst 1, 1) := by decide +kernel
theorem dX8_ask_12 : decode cX8_ask 12 = .ok (.if_icmp .gt 8, 3) := by decide +kernel
theorem dX8_ask_15 : decode cX8_ask 15 = .ok (.bipush (-9), 2) := by decide +kernel
theorem dX8_ask_17 : decode cX8_ask 17 = .ok (.goto 10, 3) := by decide +kernel
theorem dX8_ask_20 : decode cX8_ask 20 = .ok (.aload_n 0, 1) := by decide +kernel
theorem dX8_ask_21 : decode cX8_ask 21 = .ok (.getfield 70, 3) := by decide +kernel
theorem dX8_ask_24 : decode cX8_ask 24 = .ok (.invokevirtual 214, 3) := by decide +kernel
theorem dX8_ask_27 : decode cX8_ask 27 = .ok (.ireturn, 1) := by decide +kernel
theorem dX8_findSuspects_0 : decode cX8_findSuspects 0 = .ok (.aload_n 0, 1) := by decide +kernel
theorem dX8_findSuspects_1 : decode cX8_findSuspects 1 = .ok (.getfield 70, 3) := by decide +kernel
theorem dX8_findSuspects_4 : decode cX8_findSuspects 4 = .ok (.iconst 0, 1) := by decide +kernel
theorem dX8_findSuspects_5 : decode cX8_findSuspects 5 = .ok (.putfield 210, 3) := by decide +kernel
theorem dX8_findSuspects_8 : decode cX8_findSuspects 8 = .ok (.aload_n 0, 1) := by decide +kernel
theorem dX8_findSuspects_9 : decode cX8_findSuspects 9 = .ok (.getfield 10, 3) := by decide +kernel
theorem dX8_findSuspects_12 : decode cX8_findSuspects 12 = .ok (.invokevirtual 217, 3) := by decide +kernel
theorem dX8_findSuspects_15 : decode cX8_findSuspects 15 = .ok (.istore_n 1, 1) := by decide +kernel
theorem dX8_findSuspects_16 : decode cX8_findSuspects 16 = .ok (.iconst 0, 1) := by decide +kernel
theorem dX8_findSuspects_17 : decode cX8_findSuspects 17 = .ok (.istore_n 2, 1) := by decide +kernel
theorem dX8_findSuspects_18 : decode cX8_findSuspects 18 = .ok (.iload_n 2, 1) := by decide +kernel
theorem dX8_findSuspects_19 : decode cX8_findSuspects 19 = .ok (.iload_n 1, 1) := by decide +kernel
theorem dX8_findSuspects_20 : decode cX8_findSuspects 20 = .ok (.if_icmp .ge 51, 3) := by decide +kernel
theorem dX8_findSuspects_23 : decode cX8_findSuspects 23 = .ok (.aload_n 0, 1) := by decide +kernel
theorem dX8_findSuspects_24 : decode cX8_findSuspects 24 = .ok (.getfield 10, 3) := by decide +kernel
theorem dX8_findSuspects_27 : decode cX8_findSuspects 27 = .ok (.iload_n 2, 1) := by decide +kernel
theorem dX8_findSuspects_28 : decode cX8_findSuspects 28 = .ok (.invokevirtual 112, 3) := by decide +kernel
theorem dX8_findSuspects_31 : decode cX8_findSuspects 31 = .ok (.ifCond .ne 34, 3) := by decide +kernel
theorem dX8_findSuspects_34 : decode cX8_findSuspects 34 = .ok (.aload_n 0, 1) := by decide +kernel
theorem dX8_findSuspects_35 : decode cX8_findSuspects 35 = .ok (.iload_n 2, 1) := by decide +kernel
theorem dX8_findSuspects_36 : decode cX8_findSuspects 36 = .ok (.invokevirtual 191, 3) := by decide +kernel
theorem dX8_findSuspects_39 : decode cX8_findSuspects 39 = .ok (.aload_n 0, 1) := by decide +kernel
theorem dX8_findSuspects_40 : decode cX8_findSuspects 40 = .ok (.getfield 63, 3) := by decide +kernel
theorem dX8_findSuspects_43 : decode cX8_findSuspects 43 = .ok (.aload_n 0, 1) := by decide +kernel
theorem dX8_findSuspects_44 : decode cX8_findSuspects 44 = .ok (.getfield 19, 3) := by decide +kernel
theorem dX8_findSuspects_47 : decode cX8_findSuspects 47 = .ok (.invokevirtual 204, 3) := by decide +kernel
theorem dX8_findSuspects_50 : decode cX8_findSuspects 50 = .ok (.ifCond .eq 15, 3) := by decide +kernel
theorem dX8_findSuspects_53 : decode cX8_findSuspects 53 = .ok (.aload_n 0, 1) := by decide +kernel
theorem dX8_findSuspects_54 : decode cX8_findSuspects 54 = .ok (.getfield 70, 3) := by decide +kernel
theorem dX8_findSuspects_57 : decode cX8_findSuspects 57 = .ok (.iload_n 2, 1) := by decide +kernel
theorem dX8_findSuspects_58 : decode cX8_findSuspects 58 = .ok (.aload_n 0, 1) := by decide +kernel
theorem dX8_findSuspects_59 : decode cX8_findSuspects 59 = .ok (.getfield 19, 3) := by decide +kernel
theorem dX8_findSuspects_62 : decode cX8_findSuspects 62 = .ok (.invokevirtual 219, 3) := by decide +kernel
theorem dX8_findSuspects_65 : decode cX8_findSuspects 65 = .ok (.iinc 2 1, 3) := by decide +kernel
theorem dX8_findSuspects_68 : decode cX8_findSuspects 68 = .ok (.goto (-50), 3) := by decide +kernel
theorem dX8_findSuspects_71 : decode cX8_findSuspects 71 = .ok (.return_, 1) := by decide +kernel
theorem dX8_keep_0 : decode cX8_keep 0 = .ok (.iload_n 1, 1) := by decide +kernel
theorem dX8_keep_1 : decode cX8_keep 1 = .ok (.ifCond .lt 8, 3) := by decide +kernel
theorem dX8_keep_4 : decode cX8_keep 4 = .ok (.iload_n 1, 1) := by decide +kernel
theorem dX8_keep_5 : decode cX8_keep 5 = .ok (.iconst 2, 1) := by decide +kernel
theorem dX8_keep_6 : decode cX8_keep 6 = .ok (.if_icmp .lt 5, 3) := by decide +kernel
theorem dX8_keep_9 : decode cX8_keep 9 = .ok (.iconst (-1), 1) := by decide +kernel
theorem dX8_keep_10 : decode cX8_keep 10 = .ok (.ireturn, 1) := by decide +kernel
theorem dX8_keep_11 : decode cX8_keep 11 = .ok (.aload_n 0, 1) := by decide +kernel
theorem dX8_keep_12 : decode cX8_keep 12 = .ok (.getfield 52, 3) := by decide +kernel
theorem dX8_keep_15 : decode cX8_keep 15 = .ok (.iload_n 1, 1) := by decide +kernel
theorem dX8_keep_16 : decode cX8_keep 16 = .ok (.aaload, 1) := by decide +kernel
theorem dX8_keep_17 : decode cX8_keep 17 = .ok (.aload_n 0, 1) := by decide +kernel
theorem dX8_keep_18 : decode cX8_keep 18 = .ok (.getfield 10, 3) := by decide +kernel
theorem dX8_keep_21 : decode cX8_keep 21 = .ok (.invokevirtual 95, 3) := by decide +kernel
theorem dX8_keep_24 : decode cX8_keep 24 = .ok (.aload_n 0, 1) := by decide +kernel
theorem dX8_keep_25 : decode cX8_keep 25 = .ok (.getfield 56, 3) := by decide +kernel
theorem dX8_keep_28 : decode cX8_keep 28 = .ok (.iload_n 1, 1) := by decide +kernel
theorem dX8_keep_29 : decode cX8_keep 29 = .ok (.iconst 1, 1) := by decide +kernel
theorem dX8_keep_30 : decode cX8_keep 30 = .ok (.bastore, 1) := by decide +kernel
theorem dX8_keep_31 : decode cX8_keep 31 = .ok (.aload_n 0, 1) := by decide +kernel
theorem dX8_keep_32 : decode cX8_keep 32 = .ok (.getfield 10, 3) := by decide +kernel
theorem dX8_keep_35 : decode cX8_keep 35 = .ok (.getfield 92, 3) := by decide +kernel
theorem dX8_keep_38 : decode cX8_keep 38 = .ok (.ireturn, 1) := by decide +kernel
theorem dX8_back_0 : decode cX8_back 0 = .ok (.iload_n 1, 1) := by decide +kernel
theorem dX8_back_1 : decode cX8_back 1 = .ok (.ifCond .lt 8, 3) := by decide +kernel
theorem dX8_back_4 : decode cX8_back 4 = .ok (.iload_n 1, 1) := by decide +kernel
theorem dX8_back_5 : decode cX8_back 5 = .ok (.iconst 2, 1) := by decide +kernel
theorem dX8_back_6 : decode cX8_back 6 = .ok (.if_icmp .lt 5, 3) := by decide +kernel
theorem dX8_back_9 : decode cX8_back 9 = .ok (.iconst (-1), 1) := by decide +kernel
theorem dX8_back_10 : decode cX8_back 10 = .ok (.ireturn, 1) := by decide +kernel
theorem dX8_back_11 : decode cX8_back 11 = .ok (.aload_n 0, 1) := by decide +kernel
theorem dX8_back_12 : decode cX8_back 12 = .ok (.getfield 56, 3) := by decide +kernel
theorem dX8_back_15 : decode cX8_back 15 = .ok (.iload_n 1, 1) := by decide +kernel
theorem dX8_back_16 : decode cX8_back 16 = .ok (.baload, 1) := by decide +kernel
theorem dX8_back_17 : decode cX8_back 17 = .ok (.ifCond .ne 6, 3) := by decide +kernel
theorem dX8_back_20 : decode cX8_back 20 = .ok (.bipush (-2), 2) := by decide +kernel
theorem dX8_back_22 : decode cX8_back 22 = .ok (.ireturn, 1) := by decide +kernel
theorem dX8_back_23 : decode cX8_back 23 = .ok (.aload_n 0, 1) := by decide +kernel
theorem dX8_back_24 : decode cX8_back 24 = .ok (.getfield 10, 3) := by decide +kernel
theorem dX8_back_27 : decode cX8_back 27 = .ok (.aload_n 0, 1) := by decide +kernel
theorem dX8_back_28 : decode cX8_back 28 = .ok (.getfield 52, 3) := by decide +kernel
theorem dX8_back_31 : decode cX8_back 31 = .ok (.iload_n 1, 1) := by decide +kernel
theorem dX8_back_32 : decode cX8_back 32 = .ok (.aaload, 1) := by decide +kernel
theorem dX8_back_33 : decode cX8_back 33 = .ok (.invokevirtual 95, 3) := by decide +kernel
theorem dX8_back_36 : decode cX8_back 36 = .ok (.aload_n 0, 1) := by decide +kernel
theorem dX8_back_37 : decode cX8_back 37 = .ok (.getfield 48, 3) := by decide +kernel
theorem dX8_back_40 : decode cX8_back 40 = .ok (.iconst 0, 1) := by decide +kernel
theorem dX8_back_41 : decode cX8_back 41 = .ok (.putfield 158, 3) := by decide +kernel
theorem dX8_back_44 : decode cX8_back 44 = .ok (.aload_n 0, 1) := by decide +kernel
theorem dX8_back_45 : decode cX8_back 45 = .ok (.getfield 10, 3) := by decide +kernel
theorem dX8_back_48 : decode cX8_back 48 = .ok (.getfield 92, 3) := by decide +kernel
theorem dX8_back_51 : decode cX8_back 51 = .ok (.ireturn, 1) := by decide +kernel
theorem dX8_count_0 : decode cX8_count 0 = .ok (.iload_n 1, 1) := by decide +kernel
theorem dX8_count_1 : decode cX8_count 1 = .ok (.tableswitch 187 0 12 #[67, 75, 83, 99, 107, 115, 123, 131, 139, 155, 163, 171, 179], 67) := by decide +kernel
theorem dX8_count_68 : decode cX8_count 68 = .ok (.aload_n 0, 1) := by decide +kernel
theorem dX8_count_69 : decode cX8_count 69 = .ok (.getfield 10, 3) := by decide +kernel
theorem dX8_count_72 : decode cX8_count 72 = .ok (.getfield 92, 3) := by decide +kernel
theorem dX8_count_75 : decode cX8_count 75 = .ok (.ireturn, 1) := by decide +kernel
theorem dX8_count_76 : decode cX8_count 76 = .ok (.aload_n 0, 1) := by decide +kernel
theorem dX8_count_77 : decode cX8_count 77 = .ok (.getfield 10, 3) := by decide +kernel
theorem dX8_count_80 : decode cX8_count 80 = .ok (.invokevirtual 217, 3) := by decide +kernel
theorem dX8_count_83 : decode cX8_count 83 = .ok (.ireturn, 1) := by decide +kernel
theorem dX8_count_84 : decode cX8_count 84 = .ok (.aload_n 0, 1) := by decide +kernel
theorem dX8_count_85 : decode cX8_count 85 = .ok (.getfield 10, 3) := by decide +kernel
theorem dX8_count_88 : decode cX8_count 88 = .ok (.getfield 222, 3) := by decide +kernel
theorem dX8_count_91 : decode cX8_count 91 = .ok (.ifCond .eq 7, 3) := by decide +kernel
theorem dX8_count_94 : decode cX8_count 94 = .ok (.iconst 1, 1) := by decide +kernel
theorem dX8_count_95 : decode cX8_count 95 = .ok (.goto 4, 3) := by decide +kernel
theorem dX8_count_98 : decode cX8_count 98 = .ok (.iconst 0, 1) := by decide +kernel
theorem dX8_count_99 : decode cX8_count 99 = .ok (.ireturn, 1) := by decide +kernel
theorem dX8_count_100 : decode cX8_count 100 = .ok (.aload_n 0, 1) := by decide +kernel
theorem dX8_count_101 : decode cX8_count 101 = .ok (.getfield 10, 3) := by decide +kernel
theorem dX8_count_104 : decode cX8_count 104 = .ok (.getfield 225, 3) := by decide +kernel
theorem dX8_count_107 : decode cX8_count 107 = .ok (.ireturn, 1) := by decide +kernel
theorem dX8_count_108 : decode cX8_count 108 = .ok (.aload_n 0, 1) := by decide +kernel
theorem dX8_count_109 : decode cX8_count 109 = .ok (.getfield 10, 3) := by decide +kernel
theorem dX8_count_112 : decode cX8_count 112 = .ok (.getfield 102, 3) := by decide +kernel
theorem dX8_count_115 : decode cX8_count 115 = .ok (.ireturn, 1) := by decide +kernel
theorem dX8_count_116 : decode cX8_count 116 = .ok (.aload_n 0, 1) := by decide +kernel
theorem dX8_count_117 : decode cX8_count 117 = .ok (.getfield 10, 3) := by decide +kernel
theorem dX8_count_120 : decode cX8_count 120 = .ok (.invokevirtual 123, 3) := by decide +kernel
theorem dX8_count_123 : decode cX8_count 123 = .ok (.ireturn, 1) := by decide +kernel
theorem dX8_count_124 : decode cX8_count 124 = .ok (.aload_n 0, 1) := by decide +kernel
theorem dX8_count_125 : decode cX8_count 125 = .ok (.getfield 10, 3) := by decide +kernel
theorem dX8_count_128 : decode cX8_count 128 = .ok (.invokevirtual 130, 3) := by decide +kernel
theorem dX8_count_131 : decode cX8_count 131 = .ok (.ireturn, 1) := by decide +kernel
theorem dX8_count_132 : decode cX8_count 132 = .ok (.aload_n 0, 1) := by decide +kernel
theorem dX8_count_133 : decode cX8_count 133 = .ok (.getfield 10, 3) := by decide +kernel
theorem dX8_count_136 : decode cX8_count 136 = .ok (.getfield 228, 3) := by decide +kernel
theorem dX8_count_139 : decode cX8_count 139 = .ok (.ireturn, 1) := by decide +kernel
theorem dX8_count_140 : decode cX8_count 140 = .ok (.aload_n 0, 1) := by decide +kernel
theorem dX8_count_141 : decode cX8_count 141 = .ok (.getfield 10, 3) := by decide +kernel
theorem dX8_count_144 : decode cX8_count 144 = .ok (.getfield 119, 3) := by decide +kernel
theorem dX8_count_147 : decode cX8_count 147 = .ok (.ifCond .eq 7, 3) := by decide +kernel
theorem dX8_count_150 : decode cX8_count 150 = .ok (.iconst 1, 1) := by decide +kernel
theorem dX8_count_151 : decode cX8_count 151 = .ok (.goto 4, 3) := by decide +kernel
theorem dX8_count_154 : decode cX8_count 154 = .ok (.iconst 0, 1) := by decide +kernel
theorem dX8_count_155 : decode cX8_count 155 = .ok (.ireturn, 1) := by decide +kernel
theorem dX8_count_156 : decode cX8_count 156 = .ok (.aload_n 0, 1) := by decide +kernel
theorem dX8_count_157 : decode cX8_count 157 = .ok (.getfield 10, 3) := by decide +kernel
theorem dX8_count_160 : decode cX8_count 160 = .ok (.invokevirtual 231, 3) := by decide +kernel
theorem dX8_count_163 : decode cX8_count 163 = .ok (.ireturn, 1) := by decide +kernel
theorem dX8_count_164 : decode cX8_count 164 = .ok (.aload_n 0, 1) := by decide +kernel
theorem dX8_count_165 : decode cX8_count 165 = .ok (.getfield 63, 3) := by decide +kernel
theorem dX8_count_168 : decode cX8_count 168 = .ok (.getfield 200, 3) := by decide +kernel
theorem dX8_count_171 : decode cX8_count 171 = .ok (.ireturn, 1) := by decide +kernel
theorem dX8_count_172 : decode cX8_count 172 = .ok (.aload_n 0, 1) := by decide +kernel
theorem dX8_count_173 : decode cX8_count 173 = .ok (.getfield 25, 3) := by decide +kernel
theorem dX8_count_176 : decode cX8_count 176 = .ok (.getfield 74, 3) := by decide +kernel
theorem dX8_count_179 : decode cX8_count 179 = .ok (.ireturn, 1) := by decide +kernel
theorem dX8_count_180 : decode cX8_count 180 = .ok (.aload_n 0, 1) := by decide +kernel
theorem dX8_count_181 : decode cX8_count 181 = .ok (.getfield 48, 3) := by decide +kernel
theorem dX8_count_184 : decode cX8_count 184 = .ok (.getfield 158, 3) := by decide +kernel
theorem dX8_count_187 : decode cX8_count 187 = .ok (.ireturn, 1) := by decide +kernel
theorem dX8_count_188 : decode cX8_count 188 = .ok (.iconst (-1), 1) := by decide +kernel
theorem dX8_count_189 : decode cX8_count 189 = .ok (.ireturn, 1) := by decide +kernel
theorem dX9_init_0 : decode cX9_init 0 = .ok (.aload_n 0, 1) := by decide +kernel
theorem dX9_init_1 : decode cX9_init 1 = .ok (.invokespecial 1, 3) := by decide +kernel
theorem dX9_init_4 : decode cX9_init 4 = .ok (.aload_n 0, 1) := by decide +kernel
theorem dX9_init_5 : decode cX9_init 5 = .ok (.bipush 99, 2) := by decide +kernel
theorem dX9_init_7 : decode cX9_init 7 = .ok (.newarray .int, 2) := by decide +kernel
theorem dX9_init_9 : decode cX9_init 9 = .ok (.putfield 7, 3) := by decide +kernel
theorem dX9_init_12 : decode cX9_init 12 = .ok (.aload_n 0, 1) := by decide +kernel
theorem dX9_init_13 : decode cX9_init 13 = .ok (.bipush 99, 2) := by decide +kernel
theorem dX9_init_15 : decode cX9_init 15 = .ok (.newarray .int, 2) := by decide +kernel
theorem dX9_init_17 : decode cX9_init 17 = .ok (.putfield 13, 3) := by decide +kernel
theorem dX9_init_20 : decode cX9_init 20 = .ok (.aload_n 0, 1) := by decide +kernel
theorem dX9_init_21 : decode cX9_init 21 = .ok (.sipush 594, 3) := by decide +kernel
theorem dX9_init_24 : decode cX9_init 24 = .ok (.newarray .int, 2) := by decide +kernel
theorem dX9_init_26 : decode cX9_init 26 = .ok (.putfield 16, 3) := by decide +kernel
theorem dX9_init_29 : decode cX9_init 29 = .ok (.aload_n 0, 1) := by decide +kernel
theorem dX9_init_30 : decode cX9_init 30 = .ok (.sipush 198, 3) := by decide +kernel
theorem dX9_init_33 : decode cX9_init 33 = .ok (.newarray .int, 2) := by decide +kernel
theorem dX9_init_35 : decode cX9_init 35 = .ok (.putfield 19, 3) := by decide +kernel
theorem dX9_init_38 : decode cX9_init 38 = .ok (.aload_n 0, 1) := by decide +kernel
theorem dX9_init_39 : decode cX9_init 39 = .ok (.iconst 2, 1) := by decide +kernel
theorem dX9_init_40 : decode cX9_init 40 = .ok (.newarray .boolean, 2) := by decide +kernel
theorem dX9_init_42 : decode cX9_init 42 = .ok (.putfield 22, 3) := by decide +kernel
theorem dX9_init_45 : decode cX9_init 45 = .ok (.aload_n 0, 1) := by decide +kernel
theorem dX9_init_46 : decode cX9_init 46 = .ok (.bipush 120, 2) := by decide +kernel
theorem dX9_init_48 : decode cX9_init 48 = .ok (.newarray .int, 2) := by decide +kernel
theorem dX9_init_50 : decode cX9_init 50 = .ok (.putfield 26, 3) := by decide +kernel
theorem dX9_init_53 : decode cX9_init 53 = .ok (.aload_n 0, 1) := by decide +kernel
theorem dX9_init_54 : decode cX9_init 54 = .ok (.bipush 6, 2) := by decide +kernel
theorem dX9_init_56 : decode cX9_init 56 = .ok (.newarray .int, 2) := by decide +kernel
theorem dX9_init_58 : decode cX9_init 58 = .ok (.putfield 29, 3) := by decide +kernel
theorem dX9_init_61 : decode cX9_init 61 = .ok (.aload_n 0, 1) := by decide +kernel
theorem dX9_init_62 : decode cX9_init 62 = .ok (.bipush 6, 2) := by decide +kernel
theorem dX9_init_64 : decode cX9_init 64 = .ok (.newarray .int, 2) := by decide +kernel
theorem dX9_init_66 : decode cX9_init 66 = .ok (.putfield 32, 3) := by decide +kernel
theorem dX9_init_69 : decode cX9_init 69 = .ok (.aload_n 0, 1) := by decide +kernel
theorem dX9_init_70 : decode cX9_init 70 = .ok (.bipush 8, 2) := by decide +kernel
theorem dX9_init_72 : decode cX9_init 72 = .ok (.newarray .int, 2) := by decide +kernel
theorem dX9_init_74 : decode cX9_init 74 = .ok (.putfield 35, 3) := by decide +kernel
theorem dX9_init_77 : decode cX9_init 77 = .ok (.aload_n 0, 1) := by decide +kernel
theorem dX9_init_78 : decode cX9_init 78 = .ok (.bipush 8, 2) := by decide +kernel
theorem dX9_init_80 : decode cX9_init 80 = .ok (.newarray .int, 2) := by decide +kernel
theorem dX9_init_82 : decode cX9_init 82 = .ok (.putfield 38, 3) := by decide +kernel
theorem dX9_init_85 : decode cX9_init 85 = .ok (.aload_n 0, 1) := by decide +kernel
theorem dX9_init_86 : decode cX9_init 86 = .ok (.iconst 4, 1) := by decide +kernel
theorem dX9_init_87 : decode cX9_init 87 = .ok (.newarray .int, 2) := by decide +kernel
theorem dX9_init_89 : decode cX9_init 89 = .ok (.putfield 41, 3) := by decide +kernel
theorem dX9_init_92 : decode cX9_init 92 = .ok (.aload_n 0, 1) := by decide +kernel
theorem dX9_init_93 : decode cX9_init 93 = .ok (.bipush 6, 2) := by decide +kernel
theorem dX9_init_95 : decode cX9_init 95 = .ok (.newarray .boolean, 2) := by decide +kernel
theorem dX9_init_97 : decode cX9_init 97 = .ok (.putfield 44, 3) := by decide +kernel
theorem dX9_init_100 : decode cX9_init 100 = .ok (.aload_n 0, 1) := by decide +kernel
theorem dX9_init_101 : decode cX9_init 101 = .ok (.bipush 6, 2) := by decide +kernel
theorem dX9_init_103 : decode cX9_init 103 = .ok (.newarray .int, 2) := by decide +kernel
theorem dX9_init_105 : decode cX9_init 105 = .ok (.putfield 47, 3) := by decide +kernel
theorem dX9_init_108 : decode cX9_init 108 = .ok (.aload_n 0, 1) := by decide +kernel
theorem dX9_init_109 : decode cX9_init 109 = .ok (.bipush 99, 2) := by decide +kernel
theorem dX9_init_111 : decode cX9_init 111 = .ok (.newarray .int, 2) := by decide +kernel
theorem dX9_init_113 : decode cX9_init 113 = .ok (.putfield 50, 3) := by decide +kernel
theorem dX9_init_116 : decode cX9_init 116 = .ok (.aload_n 0, 1) := by decide +kernel
theorem dX9_init_117 : decode cX9_init 117 = .ok (.bipush 42, 2) := by decide +kernel
theorem dX9_init_119 : decode cX9_init 119 = .ok (.newarray .int, 2) := by decide +kernel
theorem dX9_init_121 : decode cX9_init 121 = .ok (.putfield 53, 3) := by decide +kernel
theorem dX9_init_124 : decode cX9_init 124 = .ok (.aload_n 0, 1) := by decide +kernel
theorem dX9_init_125 : decode cX9_init 125 = .ok (.invokevirtual 56, 3) := by decide +kernel
theorem dX9_init_128 : decode cX9_init 128 = .ok (.aload_n 0, 1) := by decide +kernel
theorem dX9_init_129 : decode cX9_init 129 = .ok (.getfield 13, 3) := by decide +kernel
theorem dX9_init_132 : decode cX9_init 132 = .ok (.iconst 0, 1) := by decide +kernel
theorem dX9_init_133 : decode cX9_init 133 = .ok (.iconst 1, 1) := by decide +kernel
theorem dX9_init_134 : decode cX9_init 134 = .ok (.iastore, 1) := by decide +kernel
theorem dX9_init_135 : decode cX9_init 135 = .ok (.aload_n 0, 1) := by decide +kernel
theorem dX9_init_136 : decode cX9_init 136 = .ok (.getfield 13, 3) := by decide +kernel
theorem dX9_init_139 : decode cX9_init 139 = .ok (.bipush 9, 2) := by decide +kernel
theorem dX9_init_141 : decode cX9_init 141 = .ok (.iconst 1, 1) := by decide +kernel
theorem dX9_init_142 : decode cX9_init 142 = .ok (.iastore, 1) := by decide +kernel
theorem dX9_init_143 : decode cX9_init 143 = .ok (.aload_n 0, 1) := by decide +kernel
theorem dX9_init_144 : decode cX9_init 144 = .ok (.getfield 13, 3) := by decide +kernel
theorem dX9_init_147 : decode cX9_init 147 = .ok (.iconst 0, 1) := by decide +kernel
theorem dX9_init_148 : decode cX9_init 148 = .ok (.aload_n 0, 1) := by decide +kernel
theorem dX9_init_149 : decode cX9_init 149 = .ok (.getfield 7, 3) := by decide +kernel
theorem dX9_init_152 : decode cX9_init 152 = .ok (.iconst 0, 1) := by decide +kernel
theorem dX9_init_153 : decode cX9_init 153 = .ok (.invokestatic 59, 3) := by decide +kernel
theorem dX9_init_156 : decode cX9_init 156 = .ok (.return_, 1) := by decide +kernel
theorem dX9_in_0 : decode cX9_in 0 = .ok (.iload_n 0, 1) := by decide +kernel
theorem dX9_in_1 : decode cX9_in 1 = .ok (.iload_n 1, 1) := by decide +kernel
theorem dX9_in_2 : decode cX9_in 2 = .ok (.if_icmp .lt 12, 3) := by decide +kernel
theorem dX9_in_5 : decode cX9_in 5 = .ok (.iload_n 0, 1) := by decide +kernel
theorem dX9_in_6 : decode cX9_in 6 = .ok (.iload_n 2, 1) := by decide +kernel
theorem dX9_in_7 : decode cX9_in 7 = .ok (.if_icmp .gt 7, 3) := by decide +kernel
theorem dX9_in_10 : decode cX9_in 10 = .ok (.iconst 1, 1) := by decide +kernel
theorem dX9_in_11 : decode cX9_in 11 = .ok (.goto 4, 3) := by decide +kernel
theorem dX9_in_14 : decode cX9_in 14 = .ok (.iconst 0, 1) := by decide +kernel
theorem dX9_in_15 : decode cX9_in 15 = .ok (.ireturn, 1) := by decide +kernel
theorem dX9_bring_0 : decode cX9_bring 0 = .ok (.iconst 0, 1) := by decide +kernel
theorem dX9_bring_1 : decode cX9_bring 1 = .ok (.istore 4, 2) := by decide +kernel
theorem dX9_bring_3 : decode cX9_bring 3 = .ok (.iload 4, 2) := by decide +kernel
theorem dX9_bring_5 : decode cX9_bring 5 = .ok (.bipush 99, 2) := by decide +kernel
theorem dX9_bring_7 : decode cX9_bring 7 = .ok (.if_icmp .ge 21, 3) := by decide +kernel
theorem dX9_bring_10 : decode cX9_bring 10 = .ok (.aload_n 2, 1) := by decide +kernel
theorem dX9_bring_11 : decode cX9_bring 11 = .ok (.iload_n 3, 1) := by decide +kernel
theorem dX9_bring_12 : decode cX9_bring 12 = .ok (.iload 4, 2) := by decide +kernel
theorem dX9_bring_14 : decode cX9_bring 14 = .ok (.iadd, 1) := by decide +kernel
theorem dX9_bring_15 : decode cX9_bring 15 = .ok (.aload_n 0, 1) := by decide +kernel
theorem dX9_bring_16 : decode cX9_bring 16 = .ok (.iload_n 1, 1) := by decide +kernel
theorem dX9_bring_17 : decode cX9_bring 17 = .ok (.iload 4, 2) := by decide +kernel
theorem dX9_bring_19 : decode cX9_bring 19 = .ok (.iadd, 1) := by decide +kernel
theorem dX9_bring_20 : decode cX9_bring 20 = .ok (.iaload, 1) := by decide +kernel
theorem dX9_bring_21 : decode cX9_bring 21 = .ok (.iastore, 1) := by decide +kernel
theorem dX9_bring_22 : decode cX9_bring 22 = .ok (.iinc 4 1, 3) := by decide +kernel
theorem dX9_bring_25 : decode cX9_bring 25 = .ok (.goto (-22), 3) := by decide +kernel
theorem dX9_bring_28 : decode cX9_bring 28 = .ok (.return_, 1) := by decide +kernel
theorem dX9_beginRead_0 : decode cX9_beginRead 0 = .ok (.iconst 0, 1) := by decide +kernel
theorem dX9_beginRead_1 : decode cX9_beginRead 1 = .ok (.istore_n 1, 1) := by decide +kernel
theorem dX9_beginRead_2 : decode cX9_beginRead 2 = .ok (.iload_n 1, 1) := by decide +kernel
theorem dX9_beginRead_3 : decode cX9_beginRead 3 = .ok (.bipush 99, 2) := by decide +kernel
theorem dX9_beginRead_5 : decode cX9_beginRead 5 = .ok (.if_icmp .ge 16, 3) := by decide +kernel
theorem dX9_beginRead_8 : decode cX9_beginRead 8 = .ok (.aload_n 0, 1) := by decide +kernel
theorem dX9_beginRead_9 : decode cX9_beginRead 9 = .ok (.getfield 13, 3) := by decide +kernel
theorem dX9_beginRead_12 : decode cX9_beginRead 12 = .ok (.iload_n 1, 1) := by decide +kernel
theorem dX9_beginRead_13 : decode cX9_beginRead 13 = .ok (.iconst 0, 1) := by decide +kernel
theorem dX9_beginRead_14 : decode cX9_beginRead 14 = .ok (.iastore, 1) := by decide +kernel
theorem dX9_beginRead_15 : decode cX9_beginRead 15 = .ok (.iinc 1 1, 3) := by decide +kernel
theorem dX9_beginRead_18 : decode cX9_beginRead 18 = .ok (.goto (-16), 3) := by decide +kernel
theorem dX9_beginRead_21 : decode cX9_beginRead 21 = .ok (.aload_n 0, 1) := by decide +kernel
theorem dX9_beginRead_22 : decode cX9_beginRead 22 = .ok (.getfield 13, 3) := by decide +kernel
theorem dX9_beginRead_25 : decode cX9_beginRead 25 = .ok (.iconst 2, 1) := by decide +kernel
theorem dX9_beginRead_26 : decode cX9_beginRead 26 = .ok (.iconst 3, 1) := by decide +kernel
theorem dX9_beginRead_27 : decode cX9_beginRead 27 = .ok (.iastore, 1) := by decide +kernel
theorem dX9_beginRead_28 : decode cX9_beginRead 28 = .ok (.aload_n 0, 1) := by decide +kernel
theorem dX9_beginRead_29 : decode cX9_beginRead 29 = .ok (.getfield 13, 3) := by decide +kernel
theorem dX9_beginRead_32 : decode cX9_beginRead 32 = .ok (.iconst 5, 1) := by decide +kernel
theorem dX9_beginRead_33 : decode cX9_beginRead 33 = .ok (.bipush (-9), 2) := by decide +kernel
theorem dX9_beginRead_35 : decode cX9_beginRead 35 = .ok (.iastore, 1) := by decide +kernel
theorem dX9_beginRead_36 : decode cX9_beginRead 36 = .ok (.aload_n 0, 1) := by decide +kernel
theorem dX9_beginRead_37 : decode cX9_beginRead 37 = .ok (.getfield 13, 3) := by decide +kernel
theorem dX9_beginRead_40 : decode cX9_beginRead 40 = .ok (.bipush 6, 2) := by decide +kernel
theorem dX9_beginRead_42 : decode cX9_beginRead 42 = .ok (.bipush (-9), 2) := by decide +kernel
theorem dX9_beginRead_44 : decode cX9_beginRead 44 = .ok (.iastore, 1) := by decide +kernel
theorem dX9_beginRead_45 : decode cX9_beginRead 45 = .ok (.return_, 1) := by decide +kernel
theorem dX9_isLetter_0 : decode cX9_isLetter 0 = .ok (.iload_n 0, 1) := by decide +kernel
theorem dX9_isLetter_1 : decode cX9_isLetter 1 = .ok (.bipush 100, 2) := by decide +kernel
theorem dX9_isLetter_3 : decode cX9_isLetter 3 = .ok (.if_icmp .eq 51, 3) := by decide +kernel
theorem dX9_isLetter_6 : decode cX9_isLetter 6 = .ok (.iload_n 0, 1) := by decide +kernel
theorem dX9_isLetter_7 : decode cX9_isLetter 7 = .ok (.bipush 122, 2) := by decide +kernel
theorem dX9_isLetter_9 : decode cX9_isLetter 9 = .ok (.if_icmp .eq 45, 3) := by decide +kernel
theorem dX9_isLetter_12 : decode cX9_isLetter 12 = .ok (.iload_n 0, 1) := by decide +kernel
theorem dX9_isLetter_13 : decode cX9_isLetter 13 = .ok (.bipush 109, 2) := by decide +kernel
theorem dX9_isLetter_15 : decode cX9_isLetter 15 = .ok (.if_icmp .eq 39, 3) := by decide +kernel
theorem dX9_isLetter_18 : decode cX9_isLetter 18 = .ok (.iload_n 0, 1) := by decide +kernel
theorem dX9_isLetter_19 : decode cX9_isLetter 19 = .ok (.bipush 114, 2) := by decide +kernel
theorem dX9_isLetter_21 : decode cX9_isLetter 21 = .ok (.if_icmp .eq 33, 3) := by decide +kernel
theorem dX9_isLetter_24 : decode cX9_isLetter 24 = .ok (.iload_n 0, 1) := by decide +kernel
theorem dX9_isLetter_25 : decode cX9_isLetter 25 = .ok (.bipush 119, 2) := by decide +kernel
theorem dX9_isLetter_27 : decode cX9_isLetter 27 = .ok (.if_icmp .eq 27, 3) := by decide +kernel
theorem dX9_isLetter_30 : decode cX9_isLetter 30 = .ok (.iload_n 0, 1) := by decide +kernel
theorem dX9_isLetter_31 : decode cX9_isLetter 31 = .ok (.bipush 120, 2) := by decide +kernel
theorem dX9_isLetter_33 : decode cX9_isLetter 33 = .ok (.if_icmp .eq 21, 3) := by decide +kernel
theorem dX9_isLetter_36 : decode cX9_isLetter 36 = .ok (.iload_n 0, 1) := by decide +kernel
theorem dX9_isLetter_37 : decode cX9_isLetter 37 = .ok (.bipush 112, 2) := by decide +kernel
theorem dX9_isLetter_39 : decode cX9_isLetter 39 = .ok (.if_icmp .eq 15, 3) := by decide +kernel
theorem dX9_isLetter_42 : decode cX9_isLetter 42 = .ok (.iload_n 0, 1) := by decide +kernel
theorem dX9_isLetter_43 : decode cX9_isLetter 43 = .ok (.bipush 115, 2) := by decide +kernel
theorem dX9_isLetter_45 : decode cX9_isLetter 45 = .ok (.if_icmp .eq 9, 3) := by decide +kernel
theorem dX9_isLetter_48 : decode cX9_isLetter 48 = .ok (.iload_n 0, 1) := by decide +kernel
theorem dX9_isLetter_49 : decode cX9_isLetter 49 = .ok (.bipush 98, 2) := by decide +kernel
theorem dX9_isLetter_51 : decode cX9_isLetter 51 = .ok (.if_icmp .ne 7, 3) := by decide +kernel
theorem dX9_isLetter_54 : decode cX9_isLetter 54 = .ok (.iconst 1, 1) := by decide +kernel
theorem dX9_isLetter_55 : decode cX9_isLetter 55 = .ok (.goto 4, 3) := by decide +kernel
theorem dX9_isLetter_58 : decode cX9_isLetter 58 = .ok (.iconst 0, 1) := by decide +kernel
theorem dX9_isLetter_59 : decode cX9_isLetter 59 = .ok (.ireturn, 1) := by decide +kernel
theorem dX9_scan_0 : decode cX9_scan 0 = .ok (.aload_n 0, 1) := by decide +kernel
theorem dX9_scan_1 : decode cX9_scan 1 = .ok (.getfield 63, 3) := by decide +kernel
theorem dX9_scan_4 : decode cX9_scan 4 = .ok (.aload_n 0, 1) := by decide +kernel
theorem dX9_scan_5 : decode cX9_scan 5 = .ok (.getfield 67, 3) := by decide +kernel
theorem dX9_scan_8 : decode cX9_scan 8 = .ok (.if_icmp .ge 30, 3) := by decide +kernel
theorem dX9_scan_11 : decode cX9_scan 11 = .ok (.aload_n 0, 1) := by decide +kernel
theorem dX9_scan_12 : decode cX9_scan 12 = .ok (.getfield 26, 3) := by decide +kernel
theorem dX9_scan_15 : decode cX9_scan 15 = .ok (.aload_n 0, 1) := by decide +kernel
theorem dX9_scan_16 : decode cX9_scan 16 = .ok (.getfield 63, 3) := by decide +kernel
theorem dX9_scan_19 : decode cX9_scan 19 = .ok (.iaload, 1) := by decide +kernel
theorem dX9_scan_20 : decode cX9_scan 20 = .ok (.bipush 32, 2) := by decide +kernel
theorem dX9_scan_22 : decode cX9_scan 22 = .ok (.if_icmp .ne 16, 3) := by decide +kernel
theorem dX9_scan_25 : decode cX9_scan 25 = .ok (.aload_n 0, 1) := by decide +kernel
theorem dX9_scan_26 : decode cX9_scan 26 = .ok (.dup, 1) := by decide +kernel
theorem dX9_scan_27 : decode cX9_scan 27 = .ok (.getfield 63, 3) := by decide +kernel
theorem dX9_scan_30 : decode cX9_scan 30 = .ok (.iconst 1, 1) := by decide +kernel
theorem dX9_scan_31 : decode cX9_scan 31 = .ok (.iadd, 1) := by decide +kernel
theorem dX9_scan_32 : decode cX9_scan 32 = .ok (.putfield 63, 3) := by decide +kernel
theorem dX9_scan_35 : decode cX9_scan 35 = .ok (.goto (-35), 3) := by decide +kernel
theorem dX9_scan_38 : decode cX9_scan 38 = .ok (.aload_n 0, 1) := by decide +kernel
theorem dX9_scan_39 : decode cX9_scan 39 = .ok (.aload_n 0, 1) := by decide +kernel
theorem dX9_scan_40 : decode cX9_scan 40 = .ok (.getfield 63, 3) := by decide +kernel
theorem dX9_scan_43 : decode cX9_scan 43 = .ok (.putfield 70, 3) := by decide +kernel
theorem dX9_scan_46 : decode cX9_scan 46 = .ok (.aload_n 0, 1) := by decide +kernel
theorem dX9_scan_47 : decode cX9_scan 47 = .ok (.getfield 63, 3) := by decide +kernel
theorem dX9_scan_50 : decode cX9_scan 50 = .ok (.aload_n 0, 1) := by decide +kernel
theorem dX9_scan_51 : decode cX9_scan 51 = .ok (.getfield 67, 3) := by decide +kernel
theorem dX9_scan_54 : decode cX9_scan 54 = .ok (.if_icmp .ge 15, 3) := by decide +kernel
theorem dX9_scan_57 : decode cX9_scan 57 = .ok (.aload_n 0, 1) := by decide +kernel
theorem dX9_scan_58 : decode cX9_scan 58 = .ok (.getfield 26, 3) := by decide +kernel
theorem dX9_scan_61 : decode cX9_scan 61 = .ok (.aload_n 0, 1) := by decide +kernel
theorem dX9_scan_62 : decode cX9_scan 62 = .ok (.getfield 63, 3) := by decide +kernel
theorem dX9_scan_65 : decode cX9_scan 65 = .ok (.iaload, 1) := by decide +kernel
theorem dX9_scan_66 : decode cX9_scan 66 = .ok (.goto 4, 3) := by decide +kernel
theorem dX9_scan_69 : decode cX9_scan 69 = .ok (.iconst 0, 1) := by decide +kernel
theorem dX9_scan_70 : decode cX9_scan 70 = .ok (.istore_n 1, 1) := by decide +kernel
theorem dX9_scan_71 : decode cX9_scan 71 = .ok (.aload_n 0, 1) := by decide +kernel
theorem dX9_scan_72 : decode cX9_scan 72 = .ok (.getfield 63, 3) := by decide +kernel
theorem dX9_scan_75 : decode cX9_scan 75 = .ok (.aload_n 0, 1) := by decide +kernel
theorem dX9_scan_76 : decode cX9_scan 76 = .ok (.getfield 67, 3) := by decide +kernel
theorem dX9_scan_79 : decode cX9_scan 79 = .ok (.if_icmp .ne 11, 3) := by decide +kernel
theorem dX9_scan_82 : decode cX9_scan 82 = .ok (.aload_n 0, 1) := by decide +kernel
theorem dX9_scan_83 : decode cX9_scan 83 = .ok (.iconst 2, 1) := by decide +kernel
theorem dX9_scan_84 : decode cX9_scan 84 = .ok (.putfield 73, 3) := by decide +kernel
theorem dX9_scan_87 : decode cX9_scan 87 = .ok (.goto 176, 3) := by decide +kernel
theorem dX9_scan_90 : decode cX9_scan 90 = .ok (.iload_n 1, 1) := by decide +kernel
theorem dX9_scan_91 : decode cX9_scan 91 = .ok (.bipush 48, 2) := by decide +kernel
theorem dX9_scan_93 : decode cX9_scan 93 = .ok (.bipush 57, 2) := by decide +kernel
theorem dX9_scan_95 : decode cX9_scan 95 = .ok (.invokestatic 76, 3) := by decide +kernel
theorem dX9_scan_98 : decode cX9_scan 98 = .ok (.ifCond .eq 133, 3) := by decide +kernel
theorem dX9_scan_101 : decode cX9_scan 101 = .ok (.aload_n 0, 1) := by decide +kernel
theorem dX9_scan_102 : decode cX9_scan 102 = .ok (.iconst 0, 1) := by decide +kernel
theorem dX9_scan_103 : decode cX9_scan 103 = .ok (.putfield 80, 3) := by decide +kernel
theorem dX9_scan_106 : decode cX9_scan 106 = .ok (.aload_n 0, 1) := by decide +kernel
theorem dX9_scan_107 : decode cX9_scan 107 = .ok (.getfield 63, 3) := by decide +kernel
theorem dX9_scan_110 : decode cX9_scan 110 = .ok (.aload_n 0, 1) := by decide +kernel
theorem dX9_scan_111 : decode cX9_scan 111 = .ok (.getfield 67, 3) := by decide +kernel
theorem dX9_scan_114 : decode cX9_scan 114 = .ok (.if_icmp .ge 76, 3) := by decide +kernel
theorem dX9_scan_117 : decode cX9_scan 117 = .ok (.aload_n 0, 1) := by decide +kernel
theorem dX9_scan_118 : decode cX9_scan 118 = .ok (.getfield 26, 3) := by decide +kernel
theorem dX9_scan_121 : decode cX9_scan 121 = .ok (.aload_n 0, 1) := by decide +kernel
theorem dX9_scan_122 : decode cX9_scan 122 = .ok (.getfield 63, 3) := by decide +kernel
theorem dX9_scan_125 : decode cX9_scan 125 = .ok (.iaload, 1) := by decide +kernel
theorem dX9_scan_126 : decode cX9_scan 126 = .ok (.bipush 48, 2) := by decide +kernel
theorem dX9_scan_128 : decode cX9_scan 128 = .ok (.bipush 57, 2) := by decide +kernel
theorem dX9_scan_130 : decode cX9_scan 130 = .ok (.invokestatic 76, 3) := by decide +kernel
theorem dX9_scan_133 : decode cX9_scan 133 = .ok (.ifCond .eq 57, 3) := by decide +kernel
theorem dX9_scan_136 : decode cX9_scan 136 = .ok (.aload_n 0, 1) := by decide +kernel
theorem dX9_scan_137 : decode cX9_scan 137 = .ok (.aload_n 0, 1) := by decide +kernel
theorem dX9_scan_138 : decode cX9_scan 138 = .ok (.getfield 80, 3) := by decide +kernel
theorem dX9_scan_141 : decode cX9_scan 141 = .ok (.sipush 255, 3) := by decide +kernel
theorem dX9_scan_144 : decode cX9_scan 144 = .ok (.if_icmp .le 10, 3) := by decide +kernel
theorem dX9_scan_147 : decode cX9_scan 147 = .ok (.aload_n 0, 1) := by decide +kernel
theorem dX9_scan_148 : decode cX9_scan 148 = .ok (.getfield 80, 3) := by decide +kernel
theorem dX9_scan_151 : decode cX9_scan 151 = .ok (.goto 23, 3) := by decide +kernel
theorem dX9_scan_154 : decode cX9_scan 154 = .ok (.bipush 10, 2) := by decide +kernel
theorem dX9_scan_156 : decode cX9_scan 156 = .ok (.aload_n 0, 1) := by decide +kernel
theorem dX9_scan_157 : decode cX9_scan 157 = .ok (.getfield 80, 3) := by decide +kernel
theorem dX9_scan_160 : decode cX9_scan 160 = .ok (.imul, 1) := by decide +kernel
theorem dX9_scan_161 : decode cX9_scan 161 = .ok (.aload_n 0, 1) := by decide +kernel
theorem dX9_scan_162 : decode cX9_scan 162 = .ok (.getfield 26, 3) := by decide +kernel
theorem dX9_scan_165 : decode cX9_scan 165 = .ok (.aload_n 0, 1) := by decide +kernel
theorem dX9_scan_166 : decode cX9_scan 166 = .ok (.getfield 63, 3) := by decide +kernel
theorem dX9_scan_169 : decode cX9_scan 169 = .ok (.iaload, 1) := by decide +kernel
theorem dX9_scan_170 : decode cX9_scan 170 = .ok (.iadd, 1) := by decide +kernel
theorem dX9_scan_171 : decode cX9_scan 171 = .ok (.bipush 48, 2) := by decide +kernel
theorem dX9_scan_173 : decode cX9_scan 173 = .ok (.isub, 1) := by decide +kernel
theorem dX9_scan_174 : decode cX9_scan 174 = .ok (.putfield 80, 3) := by decide +kernel
theorem dX9_scan_177 : decode cX9_scan 177 = .ok (.aload_n 0, 1) := by decide +kernel
theorem dX9_scan_178 : decode cX9_scan 178 = .ok (.dup, 1) := by decide +kernel
theorem dX9_scan_179 : decode cX9_scan 179 = .ok (.getfield 63, 3) := by decide +kernel
theorem dX9_scan_182 : decode cX9_scan 182 = .ok (.iconst 1, 1) := by decide +kernel
theorem dX9_scan_183 : decode cX9_scan 183 = .ok (.iadd, 1) := by decide +kernel
theorem dX9_scan_184 : decode cX9_scan 184 = .ok (.putfield 63, 3) := by decide +kernel
theorem dX9_scan_187 : decode cX9_scan 187 = .ok (.goto (-81), 3) := by decide +kernel
theorem dX9_scan_190 : decode cX9_scan 190 = .ok (.aload_n 0, 1) := by decide +kernel
theorem dX9_scan_191 : decode cX9_scan 191 = .ok (.aload_n 0, 1) := by decide +kernel
theorem dX9_scan_192 : decode cX9_scan 192 = .ok (.getfield 80, 3) := by decide +kernel
theorem dX9_scan_195 : decode cX9_scan 195 = .ok (.sipush 255, 3) := by decide +kernel
theorem dX9_scan_198 : decode cX9_scan 198 = .ok (.if_icmp .gt 22, 3) := by decide +kernel
theorem dX9_scan_201 : decode cX9_scan 201 = .ok (.iload_n 1, 1) := by decide +kernel
theorem dX9_scan_202 : decode cX9_scan 202 = .ok (.bipush 48, 2) := by decide +kernel
theorem dX9_scan_204 : decode cX9_scan 204 = .ok (.if_icmp .ne 20, 3) := by decide +kernel
theorem dX9_scan_207 : decode cX9_scan 207 = .ok (.aload_n 0, 1) := by decide +kernel
theorem dX9_scan_208 : decode cX9_scan 208 = .ok (.getfield 63, 3) := by decide +kernel
theorem dX9_scan_211 : decode cX9_scan 211 = .ok (.aload_n 0, 1) := by decide +kernel
theorem dX9_scan_212 : decode cX9_scan 212 = .ok (.getfield 70, 3) := by decide +kernel
theorem dX9_scan_215 : decode cX9_scan 215 = .ok (.iconst 1, 1) := by decide +kernel
theorem dX9_scan_216 : decode cX9_scan 216 = .ok (.iadd, 1) := by decide +kernel
theorem dX9_scan_217 : decode cX9_scan 217 = .ok (.if_icmp .le 7, 3) := by decide +kernel
theorem dX9_scan_220 : decode cX9_scan 220 = .ok (.iconst 3, 1) := by decide +kernel
theorem dX9_scan_221 : decode cX9_scan 221 = .ok (.goto 4, 3) := by decide +kernel
theorem dX9_scan_224 : decode cX9_scan 224 = .ok (.iconst 1, 1) := by decide +kernel
theorem dX9_scan_225 : decode cX9_scan 225 = .ok (.putfield 73, 3) := by decide +kernel
theorem dX9_scan_228 : decode cX9_scan 228 = .ok (.goto 35, 3) := by decide +kernel
theorem dX9_scan_231 : decode cX9_scan 231 = .ok (.aload_n 0, 1) := by decide +kernel
theorem dX9_scan_232 : decode cX9_scan 232 = .ok (.iload_n 1, 1) := by decide +kernel
theorem dX9_scan_233 : decode cX9_scan 233 = .ok (.invokestatic 83, 3) := by decide +kernel
theorem dX9_scan_236 : decode cX9_scan 236 = .ok (.ifCond .ne 9, 3) := by decide +kernel
theorem dX9_scan_239 : decode cX9_scan 239 = .ok (.iload_n 1, 1) := by decide +kernel
theorem dX9_scan_240 : decode cX9_scan 240 = .ok (.bipush 59, 2) := by decide +kernel
theorem dX9_scan_242 : decode cX9_scan 242 = .ok (.if_icmp .ne 7, 3) := by decide +kernel
theorem dX9_scan_245 : decode cX9_scan 245 = .ok (.iload_n 1, 1) := by decide +kernel
theorem dX9_scan_246 : decode cX9_scan 246 = .ok (.goto 4, 3) := by decide +kernel
theorem dX9_scan_249 : decode cX9_scan 249 = .ok (.iconst 3, 1) := by decide +kernel
theorem dX9_scan_250 : decode cX9_scan 250 = .ok (.putfield 73, 3) := by decide +kernel
theorem dX9_scan_253 : decode cX9_scan 253 = .ok (.aload_n 0, 1) := by decide +kernel
theorem dX9_scan_254 : decode cX9_scan 254 = .ok (.dup, 1) := by decide +kernel
theorem dX9_scan_255 : decode cX9_scan 255 = .ok (.getfield 63, 3) := by decide +kernel
theorem dX9_scan_258 : decode cX9_scan 258 = .ok (.iconst 1, 1) := by decide +kernel
theorem dX9_scan_259 : decode cX9_scan 259 = .ok (.iadd, 1) := by decide +kernel
theorem dX9_scan_260 : decode cX9_scan 260 = .ok (.putfield 63, 3) := by decide +kernel
theorem dX9_scan_263 : decode cX9_scan 263 = .ok (.return_, 1) := by decide +kernel
theorem dX9_scanNumber_0 : decode cX9_scanNumber 0 = .ok (.aload_n 0, 1) := by decide +kernel
theorem dX9_scanNumber_1 : decode cX9_scanNumber 1 = .ok (.invokevirtual 87, 3) := by decide +kernel
theorem dX9_scanNumber_4 : decode cX9_scanNumber 4 = .ok (.aload_n 0, 1) := by decide +kernel
theorem dX9_scanNumber_5 : decode cX9_scanNumber 5 = .ok (.getfield 73, 3) := by decide +kernel
theorem dX9_scanNumber_8 : decode cX9_scanNumber 8 = .ok (.iconst 1, 1) := by decide +kernel
theorem dX9_scanNumber_9 : decode cX9_scanNumber 9 = .ok (.if_icmp .ne 19, 3) := by decide +kernel
theorem dX9_scanNumber_12 : decode cX9_scanNumber 12 = .ok (.aload_n 0, 1) := by decide +kernel
theorem dX9_scanNumber_13 : decode cX9_scanNumber 13 = .ok (.getfield 80, 3) := by decide +kernel
theorem dX9_scanNumber_16 : decode cX9_scanNumber 16 = .ok (.iload_n 1, 1) := by decide +kernel
theorem dX9_scanNumber_17 : decode cX9_scanNumber 17 = .ok (.iload_n 2, 1) := by decide +kernel
theorem dX9_scanNumber_18 : decode cX9_scanNumber 18 = .ok (.invokestatic 76, 3) := by decide +kernel
theorem dX9_scanNumber_21 : decode cX9_scanNumber 21 = .ok (.ifCond .eq 7, 3) := by decide +kernel
theorem dX9_scanNumber_24 : decode cX9_scanNumber 24 = .ok (.iconst 1, 1) := by decide +kernel
theorem dX9_scanNumber_25 : decode cX9_scanNumber 25 = .ok (.goto 4, 3) := by decide +kernel
theorem dX9_scanNumber_28 : decode cX9_scanNumber 28 = .ok (.iconst 0, 1) := by decide +kernel
theorem dX9_scanNumber_29 : decode cX9_scanNumber 29 = .ok (.ireturn, 1) := by decide +kernel
theorem dX9_scanEnd_0 : decode cX9_scanEnd 0 = .ok (.aload_n 0, 1) := by decide +kernel
theorem dX9_scanEnd_1 : decode cX9_scanEnd 1 = .ok (.invokevirtual 87, 3) := by decide +kernel
theorem dX9_scanEnd_4 : decode cX9_scanEnd 4 = .ok (.aload_n 0, 1) := by decide +kernel
theorem dX9_scanEnd_5 : decode cX9_scanEnd 5 = .ok (.getfield 73, 3) := by decide +kernel
theorem dX9_scanEnd_8 : decode cX9_scanEnd 8 = .ok (.bipush 59, 2) := by decide +kernel
theorem dX9_scanEnd_10 : decode cX9_scanEnd 10 = .ok (.if_icmp .ne 7, 3) := by decide +kernel
theorem dX9_scanEnd_13 : decode cX9_scanEnd 13 = .ok (.iconst 1, 1) := by decide +kernel
theorem dX9_scanEnd_14 : decode cX9_scanEnd 14 = .ok (.goto 4, 3) := by decide +kernel
theorem dX9_scanEnd_17 : decode cX9_scanEnd 17 = .ok (.iconst 0, 1) := by decide +kernel
theorem dX9_scanEnd_18 : decode cX9_scanEnd 18 = .ok (.ireturn, 1) := by decide +kernel
theorem dX9_readDrive_0 : decode cX9_readDrive 0 = .ok (.aload_n 0, 1) := by decide +kernel
theorem dX9_readDrive_1 : decode cX9_readDrive 1 = .ok (.getfield 13, 3) := by decide +kernel
theorem dX9_readDrive_4 : decode cX9_readDrive 4 = .ok (.iconst 0, 1) := by decide +kernel
theorem dX9_readDrive_5 : decode cX9_readDrive 5 = .ok (.iaload, 1) := by decide +kernel
theorem dX9_readDrive_6 : decode cX9_readDrive 6 = .ok (.istore_n 1, 1) := by decide +kernel
theorem dX9_readDrive_7 : decode cX9_readDrive 7 = .ok (.iload_n 1, 1) := by decide +kernel
theorem dX9_readDrive_8 : decode cX9_readDrive 8 = .ok (.bipush 6, 2) := by decide +kernel
theorem dX9_readDrive_10 : decode cX9_readDrive 10 = .ok (.if_icmp .eq 23, 3) := by decide +kernel
theorem dX9_readDrive_13 : decode cX9_readDrive 13 = .ok (.aload_n 0, 1) := by decide +kernel
theorem dX9_readDrive_14 : decode cX9_readDrive 14 = .ok (.getfield 13, 3) := by decide +kernel
theorem dX9_readDrive_17 : decode cX9_readDrive 17 = .ok (.iconst 1, 1) := by decide +kernel
theorem dX9_readDrive_18 : decode cX9_readDrive 18 = .ok (.iaload, 1) := by decide +kernel
theorem dX9_readDrive_19 : decode cX9_readDrive 19 = .ok (.iconst 1, 1) := by decide +kernel
theorem dX9_readDrive_20 : decode cX9_readDrive 20 = .ok (.if_icmp .eq 13, 3) := by decide +kernel
theorem dX9_readDrive_23 : decode cX9_readDrive 23 = .ok (.aload_n 0, 1) := by decide +kernel
theorem dX9_readDrive_24 : decode cX9_readDrive 24 = .ok (.iconst 1, 1) := by decide +kernel
theorem dX9_readDrive_25 : decode cX9_readDrive 25 = .ok (.bipush 9, 2) := by decide +kernel
theorem dX9_readDrive_27 : decode cX9_readDrive 27 = .ok (.invokevirtual 90, 3) := by decide +kernel
theorem dX9_readDrive_30 : decode cX9_readDrive 30 = .ok (.ifCond .ne 5, 3) := by decide +kernel
theorem dX9_readDrive_33 : decode cX9_readDrive 33 = .ok (.iconst 0, 1) := by decide +kernel
theorem dX9_readDrive_34 : decode cX9_readDrive 34 = .ok (.ireturn, 1) := by decide +kernel
theorem dX9_readDrive_35 : decode cX9_readDrive 35 = .ok (.aload_n 0, 1) := by decide +kernel
theorem dX9_readDrive_36 : decode cX9_readDrive 36 = .ok (.getfield 13, 3) := by decide +kernel
theorem dX9_readDrive_39 : decode cX9_readDrive 39 = .ok (.bipush 9, 2) := by decide +kernel
theorem dX9_readDrive_41 : decode cX9_readDrive 41 = .ok (.iload_n 1, 1) := by decide +kernel
theorem dX9_readDrive_42 : decode cX9_readDrive 42 = .ok (.iadd, 1) := by decide +kernel
theorem dX9_readDrive_43 : decode cX9_readDrive 43 = .ok (.aload_n 0, 1) := by decide +kernel
theorem dX9_readDrive_44 : decode cX9_readDrive 44 = .ok (.getfield 80, 3) := by decide +kernel
theorem dX9_readDrive_47 : decode cX9_readDrive 47 = .ok (.iastore, 1) := by decide +kernel
theorem dX9_readDrive_48 : decode cX9_readDrive 48 = .ok (.aload_n 0, 1) := by decide +kernel
theorem dX9_readDrive_49 : decode cX9_readDrive 49 = .ok (.iconst 0, 1) := by decide +kernel
theorem dX9_readDrive_50 : decode cX9_readDrive 50 = .ok (.bipush 15, 2) := by decide +kernel
theorem dX9_readDrive_52 : decode cX9_readDrive 52 = .ok (.invokevirtual 90, 3) := by decide +kernel
theorem dX9_readDrive_55 : decode cX9_readDrive 55 = .ok (.ifCond .ne 5, 3) := by decide +kernel
theorem dX9_readDrive_58 : decode cX9_readDrive 58 = .ok (.iconst 0, 1) := by decide +kernel
theorem dX9_readDrive_59 : decode cX9_readDrive 59 = .ok (.ireturn, 1) := by decide +kernel
theorem dX9_readDrive_60 : decode cX9_readDrive 60 = .ok (.aload_n 0, 1) := by decide +kernel
theorem dX9_readDrive_61 : decode cX9_readDrive 61 = .ok (.getfield 13, 3) := by decide +kernel
theorem dX9_readDrive_64 : decode cX9_readDrive 64 = .ok (.bipush 17, 2) := by decide +kernel
theorem dX9_readDrive_66 : decode cX9_readDrive 66 = .ok (.bipush 9, 2) := by decide +kernel
theorem dX9_readDrive_68 : decode cX9_readDrive 68 = .ok (.iload_n 1, 1) := by decide +kernel
theorem dX9_readDrive_69 : decode cX9_readDrive 69 = .ok (.imul, 1) := by decide +kernel
theorem dX9_readDrive_70 : decode cX9_readDrive 70 = .ok (.iadd, 1) := by decide +kernel
theorem dX9_readDrive_71 : decode cX9_readDrive 71 = .ok (.aload_n 0, 1) := by decide +kernel
theorem dX9_readDrive_72 : decode cX9_readDrive 72 = .ok (.getfield 80, 3) := by decide +kernel
theorem dX9_readDrive_75 : decode cX9_readDrive 75 = .ok (.iastore, 1) := by decide +kernel
theorem dX9_readDrive_76 : decode cX9_readDrive 76 = .ok (.aload_n 0, 1) := by decide +kernel
theorem dX9_readDrive_77 : decode cX9_readDrive 77 = .ok (.getfield 13, 3) := by decide +kernel
theorem dX9_readDrive_80 : decode cX9_readDrive 80 = .ok (.iconst 0, 1) := by decide +kernel
theorem dX9_readDrive_81 : decode cX9_readDrive 81 = .ok (.dup2, 1) := by decide +kernel
theorem dX9_readDrive_82 : decode cX9_readDrive 82 = .ok (.iaload, 1) := by decide +kernel
theorem dX9_readDrive_83 : decode cX9_readDrive 83 = .ok (.iconst 1, 1) := by decide +kernel
theorem dX9_readDrive_84 : decode cX9_readDrive 84 = .ok (.iadd, 1) := by decide +kernel
theorem dX9_readDrive_85 : decode cX9_readDrive 85 = .ok (.iastore, 1) := by decide +kernel
theorem dX9_readDrive_86 : decode cX9_readDrive 86 = .ok (.aload_n 0, 1) := by decide +kernel
theorem dX9_readDrive_87 : decode cX9_readDrive 87 = .ok (.invokevirtual 94, 3) := by decide +kernel
theorem dX9_readDrive_90 : decode cX9_readDrive 90 = .ok (.ireturn, 1) := by decide +kernel
theorem dX9_readLast_0 : decode cX9_readLast 0 = .ok (.aload_n 0, 1) := by decide +kernel
theorem dX9_readLast_1 : decode cX9_readLast 1 = .ok (.getfield 13, 3) := by decide +kernel
theorem dX9_readLast_4 : decode cX9_readLast 4 = .ok (.iconst 0, 1) := by decide +kernel
theorem dX9_readLast_5 : decode cX9_readLast 5 = .ok (.iaload, 1) := by decide +kernel
theorem dX9_readLast_6 : decode cX9_readLast 6 = .ok (.ifCond .eq 23, 3) := by decide +kernel
theorem dX9_readLast_9 : decode cX9_readLast 9 = .ok (.aload_n 0, 1) := by decide +kernel
theorem dX9_readLast_10 : decode cX9_readLast 10 = .ok (.getfield 13, 3) := by decide +kernel
theorem dX9_readLast_13 : decode cX9_readLast 13 = .ok (.iconst 1, 1) := by decide +kernel
theorem dX9_readLast_14 : decode cX9_readLast 14 = .ok (.iaload, 1) := by decide +kernel
theorem dX9_readLast_15 : decode cX9_readLast 15 = .ok (.iconst 1, 1) := by decide +kernel
theorem dX9_readLast_16 : decode cX9_readLast 16 = .ok (.if_icmp .eq 13, 3) := by decide +kernel
theorem dX9_readLast_19 : decode cX9_readLast 19 = .ok (.aload_n 0, 1) := by decide +kernel
theorem dX9_readLast_20 : decode cX9_readLast 20 = .ok (.iconst 1, 1) := by decide +kernel
theorem dX9_readLast_21 : decode cX9_readLast 21 = .ok (.bipush 9, 2) := by decide +kernel
theorem dX9_readLast_23 : decode cX9_readLast 23 = .ok (.invokevirtual 90, 3) := by decide +kernel
theorem dX9_readLast_26 : decode cX9_readLast 26 = .ok (.ifCond .ne 5, 3) := by decide +kernel
theorem dX9_readLast_29 : decode cX9_readLast 29 = .ok (.iconst 0, 1) := by decide +kernel
theorem dX9_readLast_30 : decode cX9_readLast 30 = .ok (.ireturn, 1) := by decide +kernel
theorem dX9_readLast_31 : decode cX9_readLast 31 = .ok (.aload_n 0, 1) := by decide +kernel
theorem dX9_readLast_32 : decode cX9_readLast 32 = .ok (.getfield 13, 3) := by decide +kernel
theorem dX9_readLast_35 : decode cX9_readLast 35 = .ok (.bipush 9, 2) := by decide +kernel
theorem dX9_readLast_37 : decode cX9_readLast 37 = .ok (.aload_n 0, 1) := by decide +kernel
theorem dX9_readLast_38 : decode cX9_readLast 38 = .ok (.getfield 13, 3) := by decide +kernel
theorem dX9_readLast_41 : decode cX9_readLast 41 = .ok (.iconst 0, 1) := by decide +kernel
theorem dX9_readLast_42 : decode cX9_readLast 42 = .ok (.iaload, 1) := by decide +kernel
theorem dX9_readLast_43 : decode cX9_readLast 43 = .ok (.iadd, 1) := by decide +kernel
theorem dX9_readLast_44 : decode cX9_readLast 44 = .ok (.aload_n 0, 1) := by decide +kernel
theorem dX9_readLast_45 : decode cX9_readLast 45 = .ok (.getfield 80, 3) := by decide +kernel
theorem dX9_readLast_48 : decode cX9_readLast 48 = .ok (.iastore, 1) := by decide +kernel
theorem dX9_readLast_49 : decode cX9_readLast 49 = .ok (.aload_n 0, 1) := by decide +kernel
theorem dX9_readLast_50 : decode cX9_readLast 50 = .ok (.getfield 13, 3) := by decide +kernel
theorem dX9_readLast_53 : decode cX9_readLast 53 = .ok (.iconst 1, 1) := by decide +kernel
theorem dX9_readLast_54 : decode cX9_readLast 54 = .ok (.iconst 1, 1) := by decide +kernel
theorem dX9_readLast_55 : decode cX9_readLast 55 = .ok (.iastore, 1) := by decide +kernel
theorem dX9_readLast_56 : decode cX9_readLast 56 = .ok (.aload_n 0, 1) := by decide +kernel
theorem dX9_readLast_57 : decode cX9_readLast 57 = .ok (.invokevirtual 94, 3) := by decide +kernel
theorem dX9_readLast_60 : decode cX9_readLast 60 = .ok (.ireturn, 1) := by decide +kernel
theorem dX9_readLimit_0 : decode cX9_readLimit 0 = .ok (.aload_n 0, 1) := by decide +kernel
theorem dX9_readLimit_1 : decode cX9_readLimit 1 = .ok (.getfield 98, 3) := by decide +kernel
theorem dX9_readLimit_4 : decode cX9_readLimit 4 = .ok (.ifCond .ne 13, 3) := by decide +kernel
theorem dX9_readLimit_7 : decode cX9_readLimit 7 = .ok (.aload_n 0, 1) := by decide +kernel
theorem dX9_readLimit_8 : decode cX9_readLimit 8 = .ok (.iconst 1, 1) := by decide +kernel
theorem dX9_readLimit_9 : decode cX9_readLimit 9 = .ok (.bipush 9, 2) := by decide +kernel
theorem dX9_readLimit_11 : decode cX9_readLimit 11 = .ok (.invokevirtual 90, 3) := by decide +kernel
theorem dX9_readLimit_14 : decode cX9_readLimit 14 = .ok (.ifCond .ne 5, 3) := by decide +kernel
theorem dX9_readLimit_17 : decode cX9_readLimit 17 = .ok (.iconst 0, 1) := by decide +kernel
theorem dX9_readLimit_18 : decode cX9_readLimit 18 = .ok (.ireturn, 1) := by decide +kernel
theorem dX9_readLimit_19 : decode cX9_readLimit 19 = .ok (.aload_n 0, 1) := by decide +kernel
theorem dX9_readLimit_20 : decode cX9_readLimit 20 = .ok (.getfield 13, 3) := by decide +kernel
theorem dX9_readLimit_23 : decode cX9_readLimit 23 = .ok (.iconst 2, 1) := by decide +kernel
theorem dX9_readLimit_24 : decode cX9_readLimit 24 = .ok (.aload_n 0, 1) := by decide +kernel
theorem dX9_readLimit_25 : decode cX9_readLimit 25 = .ok (.getfield 80, 3) := by decide +kernel
theorem dX9_readLimit_28 : decode cX9_readLimit 28 = .ok (.iastore, 1) := by decide +kernel
theorem dX9_readLimit_29 : decode cX9_readLimit 29 = .ok (.aload_n 0, 1) := by decide +kernel
theorem dX9_readLimit_30 : decode cX9_readLimit 30 = .ok (.iconst 1, 1) := by decide +kernel
theorem dX9_readLimit_31 : decode cX9_readLimit 31 = .ok (.putfield 98, 3) := by decide +kernel
theorem dX9_readLimit_34 : decode cX9_readLimit 34 = .ok (.aload_n 0, 1) := by decide +kernel
theorem dX9_readLimit_35 : decode cX9_readLimit 35 = .ok (.invokevirtual 94, 3) := by decide +kernel
theorem dX9_readLimit_38 : decode cX9_readLimit 38 = .ok (.ireturn, 1) := by decide +kernel
theorem dX9_readWire_0 : decode cX9_readWire 0 = .ok (.aload_n 0, 1) := by decide +kernel
theorem dX9_readWire_1 : decode cX9_readWire 1 = .ok (.invokevirtual 56, 3) := by decide +kernel
theorem dX9_readWire_4 : decode cX9_readWire 4 = .ok (.aload_n 0, 1) := by decide +kernel
theorem dX9_readWire_5 : decode cX9_readWire 5 = .ok (.iconst 0, 1) := by decide +kernel
theorem dX9_readWire_6 : decode cX9_readWire 6 = .ok (.putfield 98, 3) := by decide +kernel
theorem dX9_readWire_9 : decode cX9_readWire 9 = .ok (.aload_n 0, 1) := by decide +kernel
theorem dX9_readWire_10 : decode cX9_readWire 10 = .ok (.iconst 0, 1) := by decide +kernel
theorem dX9_readWire_11 : decode cX9_readWire 11 = .ok (.putfield 63, 3) := by decide +kernel
theorem dX9_readWire_14 : decode cX9_readWire 14 = .ok (.aload_n 0, 1) := by decide +kernel
theorem dX9_readWire_15 : decode cX9_readWire 15 = .ok (.invokevirtual 87, 3) := by decide +kernel
theorem dX9_readWire_18 : decode cX9_readWire 18 = .ok (.aload_n 0, 1) := by decide +kernel
theorem dX9_readWire_19 : decode cX9_readWire 19 = .ok (.getfield 73, 3) := by decide +kernel
theorem dX9_readWire_22 : decode cX9_readWire 22 = .ok (.iconst 2, 1) := by decide +kernel
theorem dX9_readWire_23 : decode cX9_readWire 23 = .ok (.if_icmp .eq 73, 3) := by decide +kernel
theorem dX9_readWire_26 : decode cX9_readWire 26 = .ok (.aload_n 0, 1) := by decide +kernel
theorem dX9_readWire_27 : decode cX9_readWire 27 = .ok (.getfield 73, 3) := by decide +kernel
theorem dX9_readWire_30 : decode cX9_readWire 30 = .ok (.bipush 100, 2) := by decide +kernel
theorem dX9_readWire_32 : decode cX9_readWire 32 = .ok (.if_icmp .ne 10, 3) := by decide +kernel
theorem dX9_readWire_35 : decode cX9_readWire 35 = .ok (.aload_n 0, 1) := by decide +kernel
theorem dX9_readWire_36 : decode cX9_readWire 36 = .ok (.invokevirtual 102, 3) := by decide +kernel
theorem dX9_readWire_39 : decode cX9_readWire 39 = .ok (.goto 40, 3) := by decide +kernel
theorem dX9_readWire_42 : decode cX9_readWire 42 = .ok (.aload_n 0, 1) := by decide +kernel
theorem dX9_readWire_43 : decode cX9_readWire 43 = .ok (.getfield 73, 3) := by decide +kernel
theorem dX9_readWire_46 : decode cX9_readWire 46 = .ok (.bipush 122, 2) := by decide +kernel
theorem dX9_readWire_48 : decode cX9_readWire 48 = .ok (.if_icmp .ne 10, 3) := by decide +kernel
theorem dX9_readWire_51 : decode cX9_readWire 51 = .ok (.aload_n 0, 1) := by decide +kernel
theorem dX9_readWire_52 : decode cX9_readWire 52 = .ok (.invokevirtual 105, 3) := by decide +kernel
theorem dX9_readWire_55 : decode cX9_readWire 55 = .ok (.goto 24, 3) := by decide +kernel
theorem dX9_readWire_58 : decode cX9_readWire 58 = .ok (.aload_n 0, 1) := by decide +kernel
theorem dX9_readWire_59 : decode cX9_readWire 59 = .ok (.getfield 73, 3) := by decide +kernel
theorem dX9_readWire_62 : decode cX9_readWire 62 = .ok (.bipush 109, 2) := by decide +kernel
theorem dX9_readWire_64 : decode cX9_readWire 64 = .ok (.if_icmp .ne 14, 3) := by decide +kernel
theorem dX9_readWire_67 : decode cX9_readWire 67 = .ok (.aload_n 0, 1) := by decide +kernel
theorem dX9_readWire_68 : decode cX9_readWire 68 = .ok (.invokevirtual 108, 3) := by decide +kernel
theorem dX9_readWire_71 : decode cX9_readWire 71 = .ok (.ifCond .eq 7, 3) := by decide +kernel
theorem dX9_readWire_74 : decode cX9_readWire 74 = .ok (.iconst 1, 1) := by decide +kernel
theorem dX9_readWire_75 : decode cX9_readWire 75 = .ok (.goto 4, 3) := by decide +kernel
theorem dX9_readWire_78 : decode cX9_readWire 78 = .ok (.iconst 0, 1) := by decide +kernel
theorem dX9_readWire_79 : decode cX9_readWire 79 = .ok (.istore_n 1, 1) := by decide +kernel
theorem dX9_readWire_80 : decode cX9_readWire 80 = .ok (.iload_n 1, 1) := by decide +kernel
theorem dX9_readWire_81 : decode cX9_readWire 81 = .ok (.ifCond .ne 8, 3) := by decide +kernel
theorem dX9_readWire_84 : decode cX9_readWire 84 = .ok (.aload_n 0, 1) := by decide +kernel
theorem dX9_readWire_85 : decode cX9_readWire 85 = .ok (.getfield 70, 3) := by decide +kernel
theorem dX9_readWire_88 : decode cX9_readWire 88 = .ok (.ireturn, 1) := by decide +kernel
theorem dX9_readWire_89 : decode cX9_readWire 89 = .ok (.aload_n 0, 1) := by decide +kernel
theorem dX9_readWire_90 : decode cX9_readWire 90 = .ok (.invokevirtual 87, 3) := by decide +kernel
theorem dX9_readWire_93 : decode cX9_readWire 93 = .ok (.goto (-75), 3) := by decide +kernel
theorem dX9_readWire_96 : decode cX9_readWire 96 = .ok (.aload_n 0, 1) := by decide +kernel
theorem dX9_readWire_97 : decode cX9_readWire 97 = .ok (.getfield 13, 3) := by decide +kernel
theorem dX9_readWire_100 : decode cX9_readWire 100 = .ok (.iconst 0, 1) := by decide +kernel
theorem dX9_readWire_101 : decode cX9_readWire 101 = .ok (.iaload, 1) := by decide +kernel
theorem dX9_readWire_102 : decode cX9_readWire 102 = .ok (.ifCond .ne 10, 3) := by decide +kernel
theorem dX9_readWire_105 : decode cX9_readWire 105 = .ok (.aload_n 0, 1) := by decide +kernel
theorem dX9_readWire_106 : decode cX9_readWire 106 = .ok (.getfield 67, 3) := by decide +kernel
theorem dX9_readWire_109 : decode cX9_readWire 109 = .ok (.goto 5, 3) := by decide +kernel
theorem dX9_readWire_112 : decode cX9_readWire 112 = .ok (.bipush (-9), 2) := by decide +kernel
theorem dX9_readWire_114 : decode cX9_readWire 114 = .ok (.ireturn, 1) := by decide +kernel
theorem dX9_readOrder_0 : decode cX9_readOrder 0 = .ok (.aload_n 0, 1) := by decide +kernel
theorem dX9_readOrder_1 : decode cX9_readOrder 1 = .ok (.getfield 13, 3) := by decide +kernel
theorem dX9_readOrder_4 : decode cX9_readOrder 4 = .ok (.iconst 3, 1) := by decide +kernel
theorem dX9_readOrder_5 : decode cX9_readOrder 5 = .ok (.iaload, 1) := by decide +kernel
theorem dX9_readOrder_6 : decode cX9_readOrder 6 = .ok (.iconst 4, 1) := by decide +kernel
theorem dX9_readOrder_7 : decode cX9_readOrder 7 = .ok (.if_icmp .ne 5, 3) := by decide +kernel
theorem dX9_readOrder_10 : decode cX9_readOrder 10 = .ok (.iconst 0, 1) := by decide +kernel
theorem dX9_readOrder_11 : decode cX9_readOrder 11 = .ok (.ireturn, 1) := by decide +kernel
theorem dX9_readOrder_12 : decode cX9_readOrder 12 = .ok (.bipush 71, 2) := by decide +kernel
theorem dX9_readOrder_14 : decode cX9_readOrder 14 = .ok (.iconst 5, 1) := by decide +kernel
theorem dX9_readOrder_15 : decode cX9_readOrder 15 = .ok (.aload_n 0, 1) := by decide +kernel
theorem dX9_readOrder_16 : decode cX9_readOrder 16 = .ok (.getfield 13, 3) := by decide +kernel
theorem dX9_readOrder_19 : decode cX9_readOrder 19 = .ok (.iconst 3, 1) := by decide +kernel
theorem dX9_readOrder_20 : decode cX9_readOrder 20 = .ok (.iaload, 1) := by decide +kernel
theorem dX9_readOrder_21 : decode cX9_readOrder 21 = .ok (.imul, 1) := by decide +kernel
theorem dX9_readOrder_22 : decode cX9_readOrder 22 = .ok (.iadd, 1) := by decide +kernel
theorem dX9_readOrder_23 : decode cX9_readOrder 23 = .ok (.istore_n 1, 1) := by decide +kernel
theorem dX9_readOrder_24 : decode cX9_readOrder 24 = .ok (.aload_n 0, 1) := by decide +kernel
theorem dX9_readOrder_25 : decode cX9_readOrder 25 = .ok (.getfield 13, 3) := by decide +kernel
theorem dX9_readOrder_28 : decode cX9_readOrder 28 = .ok (.iload_n 1, 1) := by decide +kernel
theorem dX9_readOrder_29 : decode cX9_readOrder 29 = .ok (.aload_n 0, 1) := by decide +kernel
theorem dX9_readOrder_30 : decode cX9_readOrder 30 = .ok (.getfield 73, 3) := by decide +kernel
theorem dX9_readOrder_33 : decode cX9_readOrder 33 = .ok (.iastore, 1) := by decide +kernel
theorem dX9_readOrder_34 : decode cX9_readOrder 34 = .ok (.aload_n 0, 1) := by decide +kernel
theorem dX9_readOrder_35 : decode cX9_readOrder 35 = .ok (.invokevirtual 87, 3) := by decide +kernel
theorem dX9_readOrder_38 : decode cX9_readOrder 38 = .ok (.aload_n 0, 1) := by decide +kernel
theorem dX9_readOrder_39 : decode cX9_readOrder 39 = .ok (.getfield 13, 3) := by decide +kernel
theorem dX9_readOrder_42 : decode cX9_readOrder 42 = .ok (.iload_n 1, 1) := by decide +kernel
theorem dX9_readOrder_43 : decode cX9_readOrder 43 = .ok (.iconst 1, 1) := by decide +kernel
theorem dX9_readOrder_44 : decode cX9_readOrder 44 = .ok (.iadd, 1) := by decide +kernel
theorem dX9_readOrder_45 : decode cX9_readOrder 45 = .ok (.aload_n 0, 1) := by decide +kernel
theorem dX9_readOrder_46 : decode cX9_readOrder 46 = .ok (.getfield 73, 3) := by decide +kernel
theorem dX9_readOrder_49 : decode cX9_readOrder 49 = .ok (.iastore, 1) := by decide +kernel
theorem dX9_readOrder_50 : decode cX9_readOrder 50 = .ok (.aload_n 0, 1) := by decide +kernel
theorem dX9_readOrder_51 : decode cX9_readOrder 51 = .ok (.getfield 13, 3) := by decide +kernel
theorem dX9_readOrder_54 : decode cX9_readOrder 54 = .ok (.iload_n 1, 1) := by decide +kernel
theorem dX9_readOrder_55 : decode cX9_readOrder 55 = .ok (.iconst 2, 1) := by decide +kernel
theorem dX9_readOrder_56 : decode cX9_readOrder 56 = .ok (.iadd, 1) := by decide +kernel
theorem dX9_readOrder_57 : decode cX9_readOrder 57 = .ok (.bipush (-9), 2) := by decide +kernel
theorem dX9_readOrder_59 : decode cX9_readOrder 59 = .ok (.iastore, 1) := by decide +kernel
theorem dX9_readOrder_60 : decode cX9_readOrder 60 = .ok (.aload_n 0, 1) := by decide +kernel
theorem dX9_readOrder_61 : decode cX9_readOrder 61 = .ok (.getfield 73, 3) := by decide +kernel
theorem dX9_readOrder_64 : decode cX9_readOrder 64 = .ok (.bipush 112, 2) := by decide +kernel
theorem dX9_readOrder_66 : decode cX9_readOrder 66 = .ok (.if_icmp .eq 12, 3) := by decide +kernel
theorem dX9_readOrder_69 : decode cX9_readOrder 69 = .ok (.aload_n 0, 1) := by decide +kernel
theorem dX9_readOrder_70 : decode cX9_readOrder 70 = .ok (.getfield 73, 3) := by decide +kernel
theorem dX9_readOrder_73 : decode cX9_readOrder 73 = .ok (.bipush 115, 2) := by decide +kernel
theorem dX9_readOrder_75 : decode cX9_readOrder 75 = .ok (.if_icmp .ne 30, 3) := by decide +kernel
theorem dX9_readOrder_78 : decode cX9_readOrder 78 = .ok (.aload_n 0, 1) := by decide +kernel
theorem dX9_readOrder_79 : decode cX9_readOrder 79 = .ok (.iconst 0, 1) := by decide +kernel
theorem dX9_readOrder_80 : decode cX9_readOrder 80 = .ok (.bipush 15, 2) := by decide +kernel
theorem dX9_readOrder_82 : decode cX9_readOrder 82 = .ok (.invokevirtual 90, 3) := by decide +kernel
theorem dX9_readOrder_85 : decode cX9_readOrder 85 = .ok (.ifCond .ne 5, 3) := by decide +kernel
theorem dX9_readOrder_88 : decode cX9_readOrder 88 = .ok (.iconst 0, 1) := by decide +kernel
theorem dX9_readOrder_89 : decode cX9_readOrder 89 = .ok (.ireturn, 1) := by decide +kernel
theorem dX9_readOrder_90 : decode cX9_readOrder 90 = .ok (.aload_n 0, 1) := by decide +kernel
theorem dX9_readOrder_91 : decode cX9_readOrder 91 = .ok (.getfield 13, 3) := by decide +kernel
theorem dX9_readOrder_94 : decode cX9_readOrder 94 = .ok (.iload_n 1, 1) := by decide +kernel
theorem dX9_readOrder_95 : decode cX9_readOrder 95 = .ok (.iconst 2, 1) := by decide +kernel
theorem dX9_readOrder_96 : decode cX9_readOrder 96 = .ok (.iadd, 1) := by decide +kernel
theorem dX9_readOrder_97 : decode cX9_readOrder 97 = .ok (.aload_n 0, 1) := by decide +kernel
theorem dX9_readOrder_98 : decode cX9_readOrder 98 = .ok (.getfield 80, 3) := by decide +kernel
theorem dX9_readOrder_101 : decode cX9_readOrder 101 = .ok (.iastore, 1) := by decide +kernel
theorem dX9_readOrder_102 : decode cX9_readOrder 102 = .ok (.goto 14, 3) := by decide +kernel
theorem dX9_readOrder_105 : decode cX9_readOrder 105 = .ok (.aload_n 0, 1) := by decide +kernel
theorem dX9_readOrder_106 : decode cX9_readOrder 106 = .ok (.getfield 73, 3) := by decide +kernel
theorem dX9_readOrder_109 : decode cX9_readOrder 109 = .ok (.bipush 98, 2) := by decide +kernel
theorem dX9_readOrder_111 : decode cX9_readOrder 111 = .ok (.if_icmp .eq 5, 3) := by decide +kernel
theorem dX9_readOrder_114 : decode cX9_readOrder 114 = .ok (.iconst 0, 1) := by decide +kernel
theorem dX9_readOrder_115 : decode cX9_readOrder 115 = .ok (.ireturn, 1) := by decide +kernel
theorem dX9_readOrder_116 : decode cX9_readOrder 116 = .ok (.aload_n 0, 1) := by decide +kernel
theorem dX9_readOrder_117 : decode cX9_readOrder 117 = .ok (.iconst 0, 1) := by decide +kernel
theorem dX9_readOrder_118 : decode cX9_readOrder 118 = .ok (.iconst 3, 1) := by decide +kernel
theorem dX9_readOrder_119 : decode cX9_readOrder 119 = .ok (.invokevirtual 90, 3) := by decide +kernel
theorem dX9_readOrder_122 : decode cX9_readOrder 122 = .ok (.ifCond .ne 5, 3) := by decide +kernel
theorem dX9_readOrder_125 : decode cX9_readOrder 125 = .ok (.iconst 0, 1) := by decide +kernel
theorem dX9_readOrder_126 : decode cX9_readOrder 126 = .ok (.ireturn, 1) := by decide +kernel
theorem dX9_readOrder_127 : decode cX9_readOrder 127 = .ok (.aload_n 0, 1) := by decide +kernel
theorem dX9_readOrder_128 : decode cX9_readOrder 128 = .ok (.getfield 13, 3) := by decide +kernel
theorem dX9_readOrder_131 : decode cX9_readOrder 131 = .ok (.iload_n 1, 1) := by decide +kernel
theorem dX9_readOrder_132 : decode cX9_readOrder 132 = .ok (.iconst 3, 1) := by decide +kernel
theorem dX9_readOrder_133 : decode cX9_readOrder 133 = .ok (.iadd, 1) := by decide +kernel
theorem dX9_readOrder_134 : decode cX9_readOrder 134 = .ok (.aload_n 0, 1) := by decide +kernel
theorem dX9_readOrder_135 : decode cX9_readOrder 135 = .ok (.getfield 80, 3) := by decide +kernel
theorem dX9_readOrder_138 : decode cX9_readOrder 138 = .ok (.iastore, 1) := by decide +kernel
theorem dX9_readOrder_139 : decode cX9_readOrder 139 = .ok (.aload_n 0, 1) := by decide +kernel
theorem dX9_readOrder_140 : decode cX9_readOrder 140 = .ok (.iconst 0, 1) := by decide +kernel
theorem dX9_readOrder_141 : decode cX9_readOrder 141 = .ok (.sipush 255, 3) := by decide +kernel
theorem dX9_readOrder_144 : decode cX9_readOrder 144 = .ok (.invokevirtual 90, 3) := by decide +kernel
theorem dX9_readOrder_147 : decode cX9_readOrder 147 = .ok (.ifCond .ne 5, 3) := by decide +kernel
theorem dX9_readOrder_150 : decode cX9_readOrder 150 = .ok (.iconst 0, 1) := by decide +kernel
theorem dX9_readOrder_151 : decode cX9_readOrder 151 = .ok (.ireturn, 1) := by decide +kernel
theorem dX9_readOrder_152 : decode cX9_readOrder 152 = .ok (.aload_n 0, 1) := by decide +kernel
theorem dX9_readOrder_153 : decode cX9_readOrder 153 = .ok (.getfield 13, 3) := by decide +kernel
theorem dX9_readOrder_156 : decode cX9_readOrder 156 = .ok (.iload_n 1, 1) := by decide +kernel
theorem dX9_readOrder_157 : decode cX9_readOrder 157 = .ok (.iconst 4, 1) := by decide +kernel
theorem dX9_readOrder_158 : decode cX9_readOrder 158 = .ok (.iadd, 1) := by decide +kernel
theorem dX9_readOrder_159 : decode cX9_readOrder 159 = .ok (.aload_n 0, 1) := by decide +kernel
theorem dX9_readOrder_160 : decode cX9_readOrder 160 = .ok (.getfield 80, 3) := by decide +kernel
theorem dX9_readOrder_163 : decode cX9_readOrder 163 = .ok (.iastore, 1) := by decide +kernel
theorem dX9_readOrder_164 : decode cX9_readOrder 164 = .ok (.aload_n 0, 1) := by decide +kernel
theorem dX9_readOrder_165 : decode cX9_readOrder 165 = .ok (.getfield 13, 3) := by decide +kernel
theorem dX9_readOrder_168 : decode cX9_readOrder 168 = .ok (.iconst 3, 1) := by decide +kernel
theorem dX9_readOrder_169 : decode cX9_readOrder 169 = .ok (.dup2, 1) := by decide +kernel
theorem dX9_readOrder_170 : decode cX9_readOrder 170 = .ok (.iaload, 1) := by decide +kernel
theorem dX9_readOrder_171 : decode cX9_readOrder 171 = .ok (.iconst 1, 1) := by decide +kernel
theorem dX9_readOrder_172 : decode cX9_readOrder 172 = .ok (.iadd, 1) := by decide +kernel
theorem dX9_readOrder_173 : decode cX9_readOrder 173 = .ok (.iastore, 1) := by decide +kernel
theorem dX9_readOrder_174 : decode cX9_readOrder 174 = .ok (.aload_n 0, 1) := by decide +kernel
theorem dX9_readOrder_175 : decode cX9_readOrder 175 = .ok (.invokevirtual 94, 3) := by decide +kernel
theorem dX9_readOrder_178 : decode cX9_readOrder 178 = .ok (.ireturn, 1) := by decide +kernel
theorem dX9_readFrame_0 : decode cX9_readFrame 0 = .ok (.aload_n 0, 1) := by decide +kernel
theorem dX9_readFrame_1 : decode cX9_readFrame 1 = .ok (.invokevirtual 56, 3) := by decide +kernel
theorem dX9_readFrame_4 : decode cX9_readFrame 4 = .ok (.aload_n 0, 1) := by decide +kernel
theorem dX9_readFrame_5 : decode cX9_readFrame 5 = .ok (.iconst 0, 1) := by decide +kernel
theorem dX9_readFrame_6 : decode cX9_readFrame 6 = .ok (.putfield 63, 3) := by decide +kernel
theorem dX9_readFrame_9 : decode cX9_readFrame 9 = .ok (.aload_n 0, 1) := by decide +kernel
theorem dX9_readFrame_10 : decode cX9_readFrame 10 = .ok (.invokevirtual 87, 3) := by decide +kernel
theorem dX9_readFrame_13 : decode cX9_readFrame 13 = .ok (.aload_n 0, 1) := by decide +kernel
theorem dX9_readFrame_14 : decode cX9_readFrame 14 = .ok (.getfield 73, 3) := by decide +kernel
theorem dX9_readFrame_17 : decode cX9_readFrame 17 = .ok (.iconst 2, 1) := by decide +kernel
theorem dX9_readFrame_18 : decode cX9_readFrame 18 = .ok (.if_icmp .eq 49, 3) := by decide +kernel
theorem dX9_readFrame_21 : decode cX9_readFrame 21 = .ok (.aload_n 0, 1) := by decide +kernel
theorem dX9_readFrame_22 : decode cX9_readFrame 22 = .ok (.getfield 73, 3) := by decide +kernel
theorem dX9_readFrame_25 : decode cX9_readFrame 25 = .ok (.bipush 114, 2) := by decide +kernel
theorem dX9_readFrame_27 : decode cX9_readFrame 27 = .ok (.if_icmp .eq 21, 3) := by decide +kernel
theorem dX9_readFrame_30 : decode cX9_readFrame 30 = .ok (.aload_n 0, 1) := by decide +kernel
theorem dX9_readFrame_31 : decode cX9_readFrame 31 = .ok (.getfield 73, 3) := by decide +kernel
theorem dX9_readFrame_34 : decode cX9_readFrame 34 = .ok (.bipush 119, 2) := by decide +kernel
theorem dX9_readFrame_36 : decode cX9_readFrame 36 = .ok (.if_icmp .eq 12, 3) := by decide +kernel
theorem dX9_readFrame_39 : decode cX9_readFrame 39 = .ok (.aload_n 0, 1) := by decide +kernel
theorem dX9_readFrame_40 : decode cX9_readFrame 40 = .ok (.getfield 73, 3) := by decide +kernel
theorem dX9_readFrame_43 : decode cX9_readFrame 43 = .ok (.bipush 120, 2) := by decide +kernel
theorem dX9_readFrame_45 : decode cX9_readFrame 45 = .ok (.if_icmp .ne 10, 3) := by decide +kernel
theorem dX9_readFrame_48 : decode cX9_readFrame 48 = .ok (.aload_n 0, 1) := by decide +kernel
theorem dX9_readFrame_49 : decode cX9_readFrame 49 = .ok (.invokevirtual 111, 3) := by decide +kernel
theorem dX9_readFrame_52 : decode cX9_readFrame 52 = .ok (.ifCond .ne 8, 3) := by decide +kernel
theorem dX9_readFrame_55 : decode cX9_readFrame 55 = .ok (.aload_n 0, 1) := by decide +kernel
theorem dX9_readFrame_56 : decode cX9_readFrame 56 = .ok (.getfield 70, 3) := by decide +kernel
theorem dX9_readFrame_59 : decode cX9_readFrame 59 = .ok (.ireturn, 1) := by decide +kernel
theorem dX9_readFrame_60 : decode cX9_readFrame 60 = .ok (.aload_n 0, 1) := by decide +kernel
theorem dX9_readFrame_61 : decode cX9_readFrame 61 = .ok (.invokevirtual 87, 3) := by decide +kernel
theorem dX9_readFrame_64 : decode cX9_readFrame 64 = .ok (.goto (-51), 3) := by decide +kernel
theorem dX9_readFrame_67 : decode cX9_readFrame 67 = .ok (.aload_n 0, 1) := by decide +kernel
theorem dX9_readFrame_68 : decode cX9_readFrame 68 = .ok (.getfield 13, 3) := by decide +kernel
theorem dX9_readFrame_71 : decode cX9_readFrame 71 = .ok (.iconst 3, 1) := by decide +kernel
theorem dX9_readFrame_72 : decode cX9_readFrame 72 = .ok (.iaload, 1) := by decide +kernel
theorem dX9_readFrame_73 : decode cX9_readFrame 73 = .ok (.ifCond .ne 10, 3) := by decide +kernel
theorem dX9_readFrame_76 : decode cX9_readFrame 76 = .ok (.aload_n 0, 1) := by decide +kernel
theorem dX9_readFrame_77 : decode cX9_readFrame 77 = .ok (.getfield 67, 3) := by decide +kernel
theorem dX9_readFrame_80 : decode cX9_readFrame 80 = .ok (.goto 5, 3) := by decide +kernel
theorem dX9_readFrame_83 : decode cX9_readFrame 83 = .ok (.bipush (-9), 2) := by decide +kernel
theorem dX9_readFrame_85 : decode cX9_readFrame 85 = .ok (.ireturn, 1) := by decide +kernel
theorem dX9_type_0 : decode cX9_type 0 = .ok (.iload_n 1, 1) := by decide +kernel
theorem dX9_type_1 : decode cX9_type 1 = .ok (.iconst 0, 1) := by decide +kernel
theorem dX9_type_2 : decode cX9_type 2 = .ok (.sipush 255, 3) := by decide +kernel
theorem dX9_type_5 : decode cX9_type 5 = .ok (.invokestatic 76, 3) := by decide +kernel
theorem dX9_type_8 : decode cX9_type 8 = .ok (.ifCond .ne 5, 3) := by decide +kernel
theorem dX9_type_11 : decode cX9_type 11 = .ok (.iconst (-1), 1) := by decide +kernel
theorem dX9_type_12 : decode cX9_type 12 = .ok (.ireturn, 1) := by decide +kernel
theorem dX9_type_13 : decode cX9_type 13 = .ok (.aload_n 0, 1) := by decide +kernel
theorem dX9_type_14 : decode cX9_type 14 = .ok (.getfield 67, 3) := by decide +kernel
theorem dX9_type_17 : decode cX9_type 17 = .ok (.bipush 120, 2) := by decide +kernel
theorem dX9_type_19 : decode cX9_type 19 = .ok (.if_icmp .ne 6, 3) := by decide +kernel
theorem dX9_type_22 : decode cX9_type 22 = .ok (.bipush (-3), 2) := by decide +kernel
theorem dX9_type_24 : decode cX9_type 24 = .ok (.ireturn, 1) := by decide +kernel
theorem dX9_type_25 : decode cX9_type 25 = .ok (.aload_n 0, 1) := by decide +kernel
theorem dX9_type_26 : decode cX9_type 26 = .ok (.getfield 26, 3) := by decide +kernel
theorem dX9_type_29 : decode cX9_type 29 = .ok (.aload_n 0, 1) := by decide +kernel
theorem dX9_type_30 : decode cX9_type 30 = .ok (.getfield 67, 3) := by decide +kernel
theorem dX9_type_33 : decode cX9_type 33 = .ok (.iload_n 1, 1) := by decide +kernel
theorem dX9_type_34 : decode cX9_type 34 = .ok (.iastore, 1) := by decide +kernel
theorem dX9_type_35 : decode cX9_type 35 = .ok (.aload_n 0, 1) := by decide +kernel
theorem dX9_type_36 : decode cX9_type 36 = .ok (.dup, 1) := by decide +kernel
theorem dX9_type_37 : decode cX9_type 37 = .ok (.getfield 67, 3) := by decide +kernel
theorem dX9_type_40 : decode cX9_type 40 = .ok (.iconst 1, 1) := by decide +kernel
theorem dX9_type_41 : decode cX9_type 41 = .ok (.iadd, 1) := by decide +kernel
theorem dX9_type_42 : decode cX9_type 42 = .ok (.putfield 67, 3) := by decide +kernel
theorem dX9_type_45 : decode cX9_type 45 = .ok (.aload_n 0, 1) := by decide +kernel
theorem dX9_type_46 : decode cX9_type 46 = .ok (.getfield 67, 3) := by decide +kernel
theorem dX9_type_49 : decode cX9_type 49 = .ok (.ireturn, 1) := by decide +kernel
theorem dX9_clear_0 : decode cX9_clear 0 = .ok (.aload_n 0, 1) := by decide +kernel
theorem dX9_clear_1 : decode cX9_clear 1 = .ok (.getfield 67, 3) := by decide +kernel
theorem dX9_clear_4 : decode cX9_clear 4 = .ok (.istore_n 1, 1) := by decide +kernel
theorem dX9_clear_5 : decode cX9_clear 5 = .ok (.aload_n 0, 1) := by decide +kernel
theorem dX9_clear_6 : decode cX9_clear 6 = .ok (.iconst 0, 1) := by decide +kernel
theorem dX9_clear_7 : decode cX9_clear 7 = .ok (.putfield 67, 3) := by decide +kernel
theorem dX9_clear_10 : decode cX9_clear 10 = .ok (.iload_n 1, 1) := by decide +kernel
theorem dX9_clear_11 : decode cX9_clear 11 = .ok (.ireturn, 1) := by decide +kernel
theorem dX9_wires_0 : decode cX9_wires 0 = .ok (.aload_n 0, 1) := by decide +kernel
theorem dX9_wires_1 : decode cX9_wires 1 = .ok (.invokevirtual 114, 3) := by decide +kernel
theorem dX9_wires_4 : decode cX9_wires 4 = .ok (.istore_n 1, 1) := by decide +kernel
theorem dX9_wires_5 : decode cX9_wires 5 = .ok (.iload_n 1, 1) := by decide +kernel
theorem dX9_wires_6 : decode cX9_wires 6 = .ok (.bipush (-9), 2) := by decide +kernel
theorem dX9_wires_8 : decode cX9_wires 8 = .ok (.if_icmp .eq 8, 3) := by decide +kernel
theorem dX9_wires_11 : decode cX9_wires 11 = .ok (.bipush (-10), 2) := by decide +kernel
theorem dX9_wires_13 : decode cX9_wires 13 = .ok (.iload_n 1, 1) := by decide +kernel
theorem dX9_wires_14 : decode cX9_wires 14 = .ok (.isub, 1) := by decide +kernel
theorem dX9_wires_15 : decode cX9_wires 15 = .ok (.ireturn, 1) := by decide +kernel
theorem dX9_wires_16 : decode cX9_wires 16 = .ok (.aload_n 0, 1) := by decide +kernel
theorem dX9_wires_17 : decode cX9_wires 17 = .ok (.invokevirtual 118, 3) := by decide +kernel
theorem dX9_wires_20 : decode cX9_wires 20 = .ok (.aload_n 0, 1) := by decide +kernel
theorem dX9_wires_21 : decode cX9_wires 21 = .ok (.getfield 13, 3) := by decide +kernel
theorem dX9_wires_24 : decode cX9_wires 24 = .ok (.iconst 0, 1) := by decide +kernel
theorem dX9_wires_25 : decode cX9_wires 25 = .ok (.aload_n 0, 1) := by decide +kernel
theorem dX9_wires_26 : decode cX9_wires 26 = .ok (.getfield 7, 3) := by decide +kernel
theorem dX9_wires_29 : decode cX9_wires 29 = .ok (.iconst 0, 1) := by decide +kernel
theorem dX9_wires_30 : decode cX9_wires 30 = .ok (.invokestatic 59, 3) := by decide +kernel
theorem dX9_wires_33 : decode cX9_wires 33 = .ok (.aload_n 0, 1) := by decide +kernel
theorem dX9_wires_34 : decode cX9_wires 34 = .ok (.iconst 0, 1) := by decide +kernel
theorem dX9_wires_35 : decode cX9_wires 35 = .ok (.putfield 67, 3) := by decide +kernel
theorem dX9_wires_38 : decode cX9_wires 38 = .ok (.aload_n 0, 1) := by decide +kernel
theorem dX9_wires_39 : decode cX9_wires 39 = .ok (.getfield 7, 3) := by decide +kernel
theorem dX9_wires_42 : decode cX9_wires 42 = .ok (.iconst 0, 1) := by decide +kernel
theorem dX9_wires_43 : decode cX9_wires 43 = .ok (.iaload, 1) := by decide +kernel
theorem dX9_wires_44 : decode cX9_wires 44 = .ok (.ireturn, 1) := by decide +kernel
theorem dX9_frames_0 : decode cX9_frames 0 = .ok (.aload_n 0, 1) := by decide +kernel
theorem dX9_frames_1 : decode cX9_frames 1 = .ok (.invokevirtual 121, 3) := by decide +kernel
theorem dX9_frames_4 : decode cX9_frames 4 = .ok (.istore_n 1, 1) := by decide +kernel
theorem dX9_frames_5 : decode cX9_frames 5 = .ok (.iload_n 1, 1) := by decide +kernel
theorem dX9_frames_6 : decode cX9_frames 6 = .ok (.bipush (-9), 2) := by decide +kernel
theorem dX9_frames_8 : decode cX9_frames 8 = .ok (.if_icmp .eq 8, 3) := by decide +kernel
theorem dX9_frames_11 : decode cX9_frames 11 = .ok (.bipush (-10), 2) := by decide +kernel
theorem dX9_frames_13 : decode cX9_frames 13 = .ok (.iload_n 1, 1) := by decide +kernel
theorem dX9_frames_14 : decode cX9_frames 14 = .ok (.isub, 1) := by decide +kernel
theorem dX9_frames_15 : decode cX9_frames 15 = .ok (.ireturn, 1) := by decide +kernel
theorem dX9_frames_16 : decode cX9_frames 16 = .ok (.aload_n 0, 1) := by decide +kernel
theorem dX9_frames_17 : decode cX9_frames 17 = .ok (.invokevirtual 118, 3) := by decide +kernel
theorem dX9_frames_20 : decode cX9_frames 20 = .ok (.bipush 71, 2) := by decide +kernel
theorem dX9_frames_22 : decode cX9_frames 22 = .ok (.istore_n 2, 1) := by decide +kernel
theorem dX9_frames_23 : decode cX9_frames 23 = .ok (.iload_n 2, 1) := by decide +kernel
theorem dX9_frames_24 : decode cX9_frames 24 = .ok (.bipush 99, 2) := by decide +kernel
theorem dX9_frames_26 : decode cX9_frames 26 = .ok (.if_icmp .ge 21, 3) := by decide +kernel
theorem dX9_frames_29 : decode cX9_frames 29 = .ok (.aload_n 0, 1) := by decide +kernel
theorem dX9_frames_30 : decode cX9_frames 30 = .ok (.getfield 7, 3) := by decide +kernel
theorem dX9_frames_33 : decode cX9_frames 33 = .ok (.iload_n 2, 1) := by decide +kernel
theorem dX9_frames_34 : decode cX9_frames 34 = .ok (.aload_n 0, 1) := by decide +kernel
theorem dX9_frames_35 : decode cX9_frames 35 = .ok (.getfield 13, 3) := by decide +kernel
theorem dX9_frames_38 : decode cX9_frames 38 = .ok (.iload_n 2, 1) := by decide +kernel
theorem dX9_frames_39 : decode cX9_frames 39 = .ok (.iaload, 1) := by decide +kernel
theorem dX9_frames_40 : decode cX9_frames 40 = .ok (.iastore, 1) := by decide +kernel
theorem dX9_frames_41 : decode cX9_frames 41 = .ok (.iinc 2 1, 3) := by decide +kernel
theorem dX9_frames_44 : decode cX9_frames 44 = .ok (.goto (-21), 3) := by decide +kernel
theorem dX9_frames_47 : decode cX9_frames 47 = .ok (.aload_n 0, 1) := by decide +kernel
theorem dX9_frames_48 : decode cX9_frames 48 = .ok (.getfield 7, 3) := by decide +kernel
theorem dX9_frames_51 : decode cX9_frames 51 = .ok (.iconst 3, 1) := by decide +kernel
theorem dX9_frames_52 : decode cX9_frames 52 = .ok (.aload_n 0, 1) := by decide +kernel
theorem dX9_frames_53 : decode cX9_frames 53 = .ok (.getfield 13, 3) := by decide +kernel
theorem dX9_frames_56 : decode cX9_frames 56 = .ok (.iconst 3, 1) := by decide +kernel
theorem dX9_frames_57 : decode cX9_frames 57 = .ok (.iaload, 1) := by decide +kernel
theorem dX9_frames_58 : decode cX9_frames 58 = .ok (.iastore, 1) := by decide +kernel
theorem dX9_frames_59 : decode cX9_frames 59 = .ok (.aload_n 0, 1) := by decide +kernel
theorem dX9_frames_60 : decode cX9_frames 60 = .ok (.getfield 7, 3) := by decide +kernel
theorem dX9_frames_63 : decode cX9_frames 63 = .ok (.iconst 4, 1) := by decide +kernel
theorem dX9_frames_64 : decode cX9_frames 64 = .ok (.iconst 0, 1) := by decide +kernel
theorem dX9_frames_65 : decode cX9_frames 65 = .ok (.iastore, 1) := by decide +kernel
theorem dX9_frames_66 : decode cX9_frames 66 = .ok (.aload_n 0, 1) := by decide +kernel
theorem dX9_frames_67 : decode cX9_frames 67 = .ok (.getfield 7, 3) := by decide +kernel
theorem dX9_frames_70 : decode cX9_frames 70 = .ok (.iconst 5, 1) := by decide +kernel
theorem dX9_frames_71 : decode cX9_frames 71 = .ok (.bipush (-9), 2) := by decide +kernel
theorem dX9_frames_73 : decode cX9_frames 73 = .ok (.iastore, 1) := by decide +kernel
theorem dX9_frames_74 : decode cX9_frames 74 = .ok (.aload_n 0, 1) := by decide +kernel
theorem dX9_frames_75 : decode cX9_frames 75 = .ok (.getfield 7, 3) := by decide +kernel
theorem dX9_frames_78 : decode cX9_frames 78 = .ok (.bipush 6, 2) := by decide +kernel
theorem dX9_frames_80 : decode cX9_frames 80 = .ok (.bipush (-9), 2) := by decide +kernel
theorem dX9_frames_82 : decode cX9_frames 82 = .ok (.iastore, 1) := by decide +kernel
theorem dX9_frames_83 : decode cX9_frames 83 = .ok (.aload_n 0, 1) := by decide +kernel
theorem dX9_frames_84 : decode cX9_frames 84 = .ok (.iconst 0, 1) := by decide +kernel
theorem dX9_frames_85 : decode cX9_frames 85 = .ok (.putfield 67, 3) := by decide +kernel
theorem dX9_frames_88 : decode cX9_frames 88 = .ok (.aload_n 0, 1) := by decide +kernel
theorem dX9_frames_89 : decode cX9_frames 89 = .ok (.getfield 7, 3) := by decide +kernel
theorem dX9_frames_92 : decode cX9_frames 92 = .ok (.iconst 3, 1) := by decide +kernel
theorem dX9_frames_93 : decode cX9_frames 93 = .ok (.iaload, 1) := by decide +kernel
theorem dX9_frames_94 : decode cX9_frames 94 = .ok (.ireturn, 1) := by decide +kernel
theorem dX9_has_0 : decode cX9_has 0 = .ok (.iload_n 0, 1) := by decide +kernel
theorem dX9_has_1 : decode cX9_has 1 = .ok (.iload_n 1, 1) := by decide +kernel
theorem dX9_has_2 : decode cX9_has 2 = .ok (.ishr, 1) := by decide +kernel
theorem dX9_has_3 : decode cX9_has 3 = .ok (.iconst 1, 1) := by decide +kernel
theorem dX9_has_4 : decode cX9_has 4 = .ok (.iand, 1) := by decide +kernel
theorem dX9_has_5 : decode cX9_has 5 = .ok (.iconst 1, 1) := by decide +kernel
theorem dX9_has_6 : decode cX9_has 6 = .ok (.if_icmp .ne 7, 3) := by decide +kernel
theorem dX9_has_9 : decode cX9_has 9 = .ok (.iconst 1, 1) := by decide +kernel
theorem dX9_has_10 : decode cX9_has 10 = .ok (.goto 4, 3) := by decide +kernel
theorem dX9_has_13 : decode cX9_has 13 = .ok (.iconst 0, 1) := by decide +kernel
theorem dX9_has_14 : decode cX9_has 14 = .ok (.ireturn, 1) := by decide +kernel
theorem dX9_links_0 : decode cX9_links 0 = .ok (.aload_n 0, 1) := by decide +kernel
theorem dX9_links_1 : decode cX9_links 1 = .ok (.getfield 7, 3) := by decide +kernel
theorem dX9_links_4 : decode cX9_links 4 = .ok (.iconst 0, 1) := by decide +kernel
theorem dX9_links_5 : decode cX9_links 5 = .ok (.iaload, 1) := by decide +kernel
theorem dX9_links_6 : decode cX9_links 6 = .ok (.aload_n 0, 1) := by decide +kernel
theorem dX9_links_7 : decode cX9_links 7 = .ok (.getfield 7, 3) := by decide +kernel
theorem dX9_links_10 : decode cX9_links 10 = .ok (.iconst 1, 1) := by decide +kernel
theorem dX9_links_11 : decode cX9_links 11 = .ok (.iaload, 1) := by decide +kernel
theorem dX9_links_12 : decode cX9_links 12 = .ok (.iadd, 1) := by decide +kernel
theorem dX9_links_13 : decode cX9_links 13 = .ok (.ireturn, 1) := by decide +kernel
theorem dX9_lastOfA_0 : decode cX9_lastOfA 0 = .ok (.iconst (-1), 1) := by decide +kernel
theorem dX9_lastOfA_1 : decode cX9_lastOfA 1 = .ok (.istore_n 2, 1) := by decide +kernel
theorem dX9_lastOfA_2 : decode cX9_lastOfA 2 = .ok (.iload_n 2, 1) := by decide +kernel
theorem dX9_lastOfA_3 : decode cX9_lastOfA 3 = .ok (.iconst 1, 1) := by decide +kernel
theorem dX9_lastOfA_4 : decode cX9_lastOfA 4 = .ok (.iadd, 1) := by decide +kernel
theorem dX9_lastOfA_5 : decode cX9_lastOfA 5 = .ok (.aload_n 0, 1) := by decide +kernel
theorem dX9_lastOfA_6 : decode cX9_lastOfA 6 = .ok (.getfield 7, 3) := by decide +kernel
theorem dX9_lastOfA_9 : decode cX9_lastOfA 9 = .ok (.iconst 0, 1) := by decide +kernel
theorem dX9_lastOfA_10 : decode cX9_lastOfA 10 = .ok (.iaload, 1) := by decide +kernel
theorem dX9_lastOfA_11 : decode cX9_lastOfA 11 = .ok (.if_icmp .ge 19, 3) := by decide +kernel
theorem dX9_lastOfA_14 : decode cX9_lastOfA 14 = .ok (.iload_n 1, 1) := by decide +kernel
theorem dX9_lastOfA_15 : decode cX9_lastOfA 15 = .ok (.iload_n 2, 1) := by decide +kernel
theorem dX9_lastOfA_16 : decode cX9_lastOfA 16 = .ok (.iconst 1, 1) := by decide +kernel
theorem dX9_lastOfA_17 : decode cX9_lastOfA 17 = .ok (.iadd, 1) := by decide +kernel
theorem dX9_lastOfA_18 : decode cX9_lastOfA 18 = .ok (.invokestatic 124, 3) := by decide +kernel
theorem dX9_lastOfA_21 : decode cX9_lastOfA 21 = .ok (.ifCond .ne 9, 3) := by decide +kernel
theorem dX9_lastOfA_24 : decode cX9_lastOfA 24 = .ok (.iinc 2 1, 3) := by decide +kernel
theorem dX9_lastOfA_27 : decode cX9_lastOfA 27 = .ok (.goto (-25), 3) := by decide +kernel
theorem dX9_lastOfA_30 : decode cX9_lastOfA 30 = .ok (.iload_n 2, 1) := by decide +kernel
theorem dX9_lastOfA_31 : decode cX9_lastOfA 31 = .ok (.ireturn, 1) := by decide +kernel
theorem dX9_isWhole_0 : decode cX9_isWhole 0 = .ok (.aload_n 0, 1) := by decide +kernel
theorem dX9_isWhole_1 : decode cX9_isWhole 1 = .ok (.getfield 7, 3) := by decide +kernel
theorem dX9_isWhole_4 : decode cX9_isWhole 4 = .ok (.iconst 1, 1) := by decide +kernel
theorem dX9_isWhole_5 : decode cX9_isWhole 5 = .ok (.iaload, 1) := by decide +kernel
theorem dX9_isWhole_6 : decode cX9_isWhole 6 = .ok (.iconst 1, 1) := by decide +kernel
theorem dX9_isWhole_7 : decode cX9_isWhole 7 = .ok (.if_icmp .ne 11, 3) := by decide +kernel
theorem dX9_isWhole_10 : decode cX9_isWhole 10 = .ok (.iload_n 1, 1) := by decide +kernel
theorem dX9_isWhole_11 : decode cX9_isWhole 11 = .ok (.ifCond .ne 7, 3) := by decide +kernel
theorem dX9_isWhole_14 : decode cX9_isWhole 14 = .ok (.iconst 1, 1) := by decide +kernel
theorem dX9_isWhole_15 : decode cX9_isWhole 15 = .ok (.goto 4, 3) := by decide +kernel
theorem dX9_isWhole_18 : decode cX9_isWhole 18 = .ok (.iconst 0, 1) := by decide +kernel
theorem dX9_isWhole_19 : decode cX9_isWhole 19 = .ok (.ireturn, 1) := by decide +kernel
theorem dX9_firstOfB_0 : decode cX9_firstOfB 0 = .ok (.aload_n 0, 1) := by decide +kernel
theorem dX9_firstOfB_1 : decode cX9_firstOfB 1 = .ok (.getfield 7, 3) := by decide +kernel
theorem dX9_firstOfB_4 : decode cX9_firstOfB 4 = .ok (.iconst 0, 1) := by decide +kernel
theorem dX9_firstOfB_5 : decode cX9_firstOfB 5 = .ok (.iaload, 1) := by decide +kernel
theorem dX9_firstOfB_6 : decode cX9_firstOfB 6 = .ok (.istore_n 2, 1) := by decide +kernel
theorem dX9_firstOfB_7 : decode cX9_firstOfB 7 = .ok (.aload_n 0, 1) := by decide +kernel
theorem dX9_firstOfB_8 : decode cX9_firstOfB 8 = .ok (.getfield 7, 3) := by decide +kernel
theorem dX9_firstOfB_11 : decode cX9_firstOfB 11 = .ok (.iconst 1, 1) := by decide +kernel
theorem dX9_firstOfB_12 : decode cX9_firstOfB 12 = .ok (.iaload, 1) := by decide +kernel
theorem dX9_firstOfB_13 : decode cX9_firstOfB 13 = .ok (.ifCond .eq 15, 3) := by decide +kernel
theorem dX9_firstOfB_16 : decode cX9_firstOfB 16 = .ok (.iload_n 1, 1) := by decide +kernel
theorem dX9_firstOfB_17 : decode cX9_firstOfB 17 = .ok (.ifCond .eq 11, 3) := by decide +kernel
theorem dX9_firstOfB_20 : decode cX9_firstOfB 20 = .ok (.iload_n 1, 1) := by decide +kernel
theorem dX9_firstOfB_21 : decode cX9_firstOfB 21 = .ok (.iload_n 2, 1) := by decide +kernel
theorem dX9_firstOfB_22 : decode cX9_firstOfB 22 = .ok (.invokestatic 124, 3) := by decide +kernel
theorem dX9_firstOfB_25 : decode cX9_firstOfB 25 = .ok (.ifCond .eq 5, 3) := by decide +kernel
theorem dX9_firstOfB_28 : decode cX9_firstOfB 28 = .ok (.iload_n 2, 1) := by decide +kernel
theorem dX9_firstOfB_29 : decode cX9_firstOfB 29 = .ok (.ireturn, 1) := by decide +kernel
theorem dX9_firstOfB_30 : decode cX9_firstOfB 30 = .ok (.iload_n 2, 1) := by decide +kernel
theorem dX9_firstOfB_31 : decode cX9_firstOfB 31 = .ok (.iconst 1, 1) := by decide +kernel
theorem dX9_firstOfB_32 : decode cX9_firstOfB 32 = .ok (.isub, 1) := by decide +kernel
theorem dX9_firstOfB_33 : decode cX9_firstOfB 33 = .ok (.istore_n 3, 1) := by decide +kernel
theorem dX9_firstOfB_34 : decode cX9_firstOfB 34 = .ok (.iload_n 1, 1) := by decide +kernel
theorem dX9_firstOfB_35 : decode cX9_firstOfB 35 = .ok (.iload_n 3, 1) := by decide +kernel
theorem dX9_firstOfB_36 : decode cX9_firstOfB 36 = .ok (.invokestatic 124, 3) := by decide +kernel
theorem dX9_firstOfB_39 : decode cX9_firstOfB 39 = .ok (.ifCond .ne 9, 3) := by decide +kernel
theorem dX9_firstOfB_42 : decode cX9_firstOfB 42 = .ok (.iinc 3 (-1), 3) := by decide +kernel
theorem dX9_firstOfB_45 : decode cX9_firstOfB 45 = .ok (.goto (-11), 3) := by decide +kernel
theorem dX9_firstOfB_48 : decode cX9_firstOfB 48 = .ok (.iload_n 3, 1) := by decide +kernel
theorem dX9_firstOfB_49 : decode cX9_firstOfB 49 = .ok (.ireturn, 1) := by decide +kernel
theorem dX9_way_0 : decode cX9_way 0 = .ok (.iconst 0, 1) := by decide +kernel
theorem dX9_way_1 : decode cX9_way 1 = .ok (.istore_n 3, 1) := by decide +kernel
theorem dX9_way_2 : decode cX9_way 2 = .ok (.iload_n 1, 1) := by decide +kernel
theorem dX9_way_3 : decode cX9_way 3 = .ok (.istore 4, 2) := by decide +kernel
theorem dX9_way_5 : decode cX9_way 5 = .ok (.iload 4, 2) := by decide +kernel
theorem dX9_way_7 : decode cX9_way 7 = .ok (.iload_n 2, 1) := by decide +kernel
theorem dX9_way_8 : decode cX9_way 8 = .ok (.if_icmp .gt 22, 3) := by decide +kernel
theorem dX9_way_11 : decode cX9_way 11 = .ok (.iload_n 3, 1) := by decide +kernel
theorem dX9_way_12 : decode cX9_way 12 = .ok (.aload_n 0, 1) := by decide +kernel
theorem dX9_way_13 : decode cX9_way 13 = .ok (.getfield 7, 3) := by decide +kernel
theorem dX9_way_16 : decode cX9_way 16 = .ok (.bipush 9, 2) := by decide +kernel
theorem dX9_way_18 : decode cX9_way 18 = .ok (.iload 4, 2) := by decide +kernel
theorem dX9_way_20 : decode cX9_way 20 = .ok (.iadd, 1) := by decide +kernel
theorem dX9_way_21 : decode cX9_way 21 = .ok (.iaload, 1) := by decide +kernel
theorem dX9_way_22 : decode cX9_way 22 = .ok (.iadd, 1) := by decide +kernel
theorem dX9_way_23 : decode cX9_way 23 = .ok (.istore_n 3, 1) := by decide +kernel
theorem dX9_way_24 : decode cX9_way 24 = .ok (.iinc 4 1, 3) := by decide +kernel
theorem dX9_way_27 : decode cX9_way 27 = .ok (.goto (-22), 3) := by decide +kernel
theorem dX9_way_30 : decode cX9_way 30 = .ok (.iload_n 3, 1) := by decide +kernel
theorem dX9_way_31 : decode cX9_way 31 = .ok (.ireturn, 1) := by decide +kernel
theorem dX9_timeOf_0 : decode cX9_timeOf 0 = .ok (.aload_n 0, 1) := by decide +kernel
theorem dX9_timeOf_1 : decode cX9_timeOf 1 = .ok (.getfield 7, 3) := by decide +kernel
theorem dX9_timeOf_4 : decode cX9_timeOf 4 = .ok (.iconst 0, 1) := by decide +kernel
theorem dX9_timeOf_5 : decode cX9_timeOf 5 = .ok (.iaload, 1) := by decide +kernel
theorem dX9_timeOf_6 : decode cX9_timeOf 6 = .ok (.istore_n 3, 1) := by decide +kernel
theorem dX9_timeOf_7 : decode cX9_timeOf 7 = .ok (.aload_n 0, 1) := by decide +kernel
theorem dX9_timeOf_8 : decode cX9_timeOf 8 = .ok (.iload_n 2, 1) := by decide +kernel
theorem dX9_timeOf_9 : decode cX9_timeOf 9 = .ok (.invokevirtual 127, 3) := by decide +kernel
theorem dX9_timeOf_12 : decode cX9_timeOf 12 = .ok (.ifCond .eq 12, 3) := by decide +kernel
theorem dX9_timeOf_15 : decode cX9_timeOf 15 = .ok (.aload_n 0, 1) := by decide +kernel
theorem dX9_timeOf_16 : decode cX9_timeOf 16 = .ok (.iconst 0, 1) := by decide +kernel
theorem dX9_timeOf_17 : decode cX9_timeOf 17 = .ok (.iload_n 3, 1) := by decide +kernel
theorem dX9_timeOf_18 : decode cX9_timeOf 18 = .ok (.invokevirtual 130, 3) := by decide +kernel
theorem dX9_timeOf_21 : decode cX9_timeOf 21 = .ok (.iload_n 3, 1) := by decide +kernel
theorem dX9_timeOf_22 : decode cX9_timeOf 22 = .ok (.iadd, 1) := by decide +kernel
theorem dX9_timeOf_23 : decode cX9_timeOf 23 = .ok (.ireturn, 1) := by decide +kernel
theorem dX9_timeOf_24 : decode cX9_timeOf 24 = .ok (.aload_n 0, 1) := by decide +kernel
theorem dX9_timeOf_25 : decode cX9_timeOf 25 = .ok (.iload_n 2, 1) := by decide +kernel
theorem dX9_timeOf_26 : decode cX9_timeOf 26 = .ok (.invokevirtual 134, 3) := by decide +kernel
theorem dX9_timeOf_29 : decode cX9_timeOf 29 = .ok (.istore 4, 2) := by decide +kernel
theorem dX9_timeOf_31 : decode cX9_timeOf 31 = .ok (.aload_n 0, 1) := by decide +kernel
theorem dX9_timeOf_32 : decode cX9_timeOf 32 = .ok (.iload_n 2, 1) := by decide +kernel
theorem dX9_timeOf_33 : decode cX9_timeOf 33 = .ok (.invokevirtual 138, 3) := by decide +kernel
theorem dX9_timeOf_36 : decode cX9_timeOf 36 = .ok (.istore 5, 2) := by decide +kernel
theorem dX9_timeOf_38 : decode cX9_timeOf 38 = .ok (.iload_n 1, 1) := by decide +kernel
theorem dX9_timeOf_39 : decode cX9_timeOf 39 = .ok (.ifCond .ne 30, 3) := by decide +kernel
theorem dX9_timeOf_42 : decode cX9_timeOf 42 = .ok (.iload 4, 2) := by decide +kernel
theorem dX9_timeOf_44 : decode cX9_timeOf 44 = .ok (.ifCond .ge 8, 3) := by decide +kernel
theorem dX9_timeOf_47 : decode cX9_timeOf 47 = .ok (.bipush (-9), 2) := by decide +kernel
theorem dX9_timeOf_49 : decode cX9_timeOf 49 = .ok (.goto 19, 3) := by decide +kernel
theorem dX9_timeOf_52 : decode cX9_timeOf 52 = .ok (.iconst 2, 1) := by decide +kernel
theorem dX9_timeOf_53 : decode cX9_timeOf 53 = .ok (.aload_n 0, 1) := by decide +kernel
theorem dX9_timeOf_54 : decode cX9_timeOf 54 = .ok (.iconst 0, 1) := by decide +kernel
theorem dX9_timeOf_55 : decode cX9_timeOf 55 = .ok (.iload 4, 2) := by decide +kernel
theorem dX9_timeOf_57 : decode cX9_timeOf 57 = .ok (.invokevirtual 130, 3) := by decide +kernel
theorem dX9_timeOf_60 : decode cX9_timeOf 60 = .ok (.imul, 1) := by decide +kernel
theorem dX9_timeOf_61 : decode cX9_timeOf 61 = .ok (.iconst 2, 1) := by decide +kernel
theorem dX9_timeOf_62 : decode cX9_timeOf 62 = .ok (.iload 4, 2) := by decide +kernel
theorem dX9_timeOf_64 : decode cX9_timeOf 64 = .ok (.imul, 1) := by decide +kernel
theorem dX9_timeOf_65 : decode cX9_timeOf 65 = .ok (.iadd, 1) := by decide +kernel
theorem dX9_timeOf_66 : decode cX9_timeOf 66 = .ok (.iconst 1, 1) := by decide +kernel
theorem dX9_timeOf_67 : decode cX9_timeOf 67 = .ok (.iadd, 1) := by decide +kernel
theorem dX9_timeOf_68 : decode cX9_timeOf 68 = .ok (.ireturn, 1) := by decide +kernel
theorem dX9_timeOf_69 : decode cX9_timeOf 69 = .ok (.iload 5, 2) := by decide +kernel
theorem dX9_timeOf_71 : decode cX9_timeOf 71 = .ok (.iload_n 3, 1) := by decide +kernel
theorem dX9_timeOf_72 : decode cX9_timeOf 72 = .ok (.if_icmp .ne 8, 3) := by decide +kernel
theorem dX9_timeOf_75 : decode cX9_timeOf 75 = .ok (.bipush (-9), 2) := by decide +kernel
theorem dX9_timeOf_77 : decode cX9_timeOf 77 = .ok (.goto 25, 3) := by decide +kernel
theorem dX9_timeOf_80 : decode cX9_timeOf 80 = .ok (.iconst 2, 1) := by decide +kernel
theorem dX9_timeOf_81 : decode cX9_timeOf 81 = .ok (.aload_n 0, 1) := by decide +kernel
theorem dX9_timeOf_82 : decode cX9_timeOf 82 = .ok (.iload 5, 2) := by decide +kernel
theorem dX9_timeOf_84 : decode cX9_timeOf 84 = .ok (.iconst 1, 1) := by decide +kernel
theorem dX9_timeOf_85 : decode cX9_timeOf 85 = .ok (.iadd, 1) := by decide +kernel
theorem dX9_timeOf_86 : decode cX9_timeOf 86 = .ok (.iload_n 3, 1) := by decide +kernel
theorem dX9_timeOf_87 : decode cX9_timeOf 87 = .ok (.invokevirtual 130, 3) := by decide +kernel
theorem dX9_timeOf_90 : decode cX9_timeOf 90 = .ok (.imul, 1) := by decide +kernel
theorem dX9_timeOf_91 : decode cX9_timeOf 91 = .ok (.iconst 2, 1) := by decide +kernel
theorem dX9_timeOf_92 : decode cX9_timeOf 92 = .ok (.iload_n 3, 1) := by decide +kernel
theorem dX9_timeOf_93 : decode cX9_timeOf 93 = .ok (.iconst 1, 1) := by decide +kernel
theorem dX9_timeOf_94 : decode cX9_timeOf 94 = .ok (.isub, 1) := by decide +kernel
theorem dX9_timeOf_95 : decode cX9_timeOf 95 = .ok (.iload 5, 2) := by decide +kernel
theorem dX9_timeOf_97 : decode cX9_timeOf 97 = .ok (.isub, 1) := by decide +kernel
theorem dX9_timeOf_98 : decode cX9_timeOf 98 = .ok (.imul, 1) := by decide +kernel
theorem dX9_timeOf_99 : decode cX9_timeOf 99 = .ok (.iadd, 1) := by decide +kernel
theorem dX9_timeOf_100 : decode cX9_timeOf 100 = .ok (.iconst 1, 1) := by decide +kernel
theorem dX9_timeOf_101 : decode cX9_timeOf 101 = .ok (.iadd, 1) := by decide +kernel
theorem dX9_timeOf_102 : decode cX9_timeOf 102 = .ok (.ireturn, 1) := by decide +kernel
theorem dX9_handle_0 : decode cX9_handle 0 = .ok (.bipush 71, 2) := by decide +kernel
theorem dX9_handle_2 : decode cX9_handle 2 = .ok (.iconst 5, 1) := by decide +kernel
theorem dX9_handle_3 : decode cX9_handle 3 = .ok (.iload_n 2, 1) := by decide +kernel
theorem dX9_handle_4 : decode cX9_handle 4 = .ok (.imul, 1) := by decide +kernel
theorem dX9_handle_5 : decode cX9_handle 5 = .ok (.iadd, 1) := by decide +kernel
theorem dX9_handle_6 : decode cX9_handle 6 = .ok (.istore 4, 2) := by decide +kernel
theorem dX9_handle_8 : decode cX9_handle 8 = .ok (.bipush 17, 2) := by decide +kernel
theorem dX9_handle_10 : decode cX9_handle 10 = .ok (.bipush 9, 2) := by decide +kernel
theorem dX9_handle_12 : decode cX9_handle 12 = .ok (.iload_n 3, 1) := by decide +kernel
theorem dX9_handle_13 : decode cX9_handle 13 = .ok (.imul, 1) := by decide +kernel
theorem dX9_handle_14 : decode cX9_handle 14 = .ok (.iadd, 1) := by decide +kernel
theorem dX9_handle_15 : decode cX9_handle 15 = .ok (.istore 5, 2) := by decide +kernel
theorem dX9_handle_17 : decode cX9_handle 17 = .ok (.aload_n 0, 1) := by decide +kernel
theorem dX9_handle_18 : decode cX9_handle 18 = .ok (.getfield 7, 3) := by decide +kernel
theorem dX9_handle_21 : decode cX9_handle 21 = .ok (.iload 4, 2) := by decide +kernel
theorem dX9_handle_23 : decode cX9_handle 23 = .ok (.iconst 1, 1) := by decide +kernel
theorem dX9_handle_24 : decode cX9_handle 24 = .ok (.iadd, 1) := by decide +kernel
theorem dX9_handle_25 : decode cX9_handle 25 = .ok (.iaload, 1) := by decide +kernel
theorem dX9_handle_26 : decode cX9_handle 26 = .ok (.istore 6, 2) := by decide +kernel
theorem dX9_handle_28 : decode cX9_handle 28 = .ok (.iload 6, 2) := by decide +kernel
theorem dX9_handle_30 : decode cX9_handle 30 = .ok (.bipush 98, 2) := by decide +kernel
theorem dX9_handle_32 : decode cX9_handle 32 = .ok (.if_icmp .eq 45, 3) := by decide +kernel
theorem dX9_handle_35 : decode cX9_handle 35 = .ok (.iload 6, 2) := by decide +kernel
theorem dX9_handle_37 : decode cX9_handle 37 = .ok (.bipush 115, 2) := by decide +kernel
theorem dX9_handle_39 : decode cX9_handle 39 = .ok (.if_icmp .ne 22, 3) := by decide +kernel
theorem dX9_handle_42 : decode cX9_handle 42 = .ok (.aload_n 0, 1) := by decide +kernel
theorem dX9_handle_43 : decode cX9_handle 43 = .ok (.getfield 7, 3) := by decide +kernel
theorem dX9_handle_46 : decode cX9_handle 46 = .ok (.iload 4, 2) := by decide +kernel
theorem dX9_handle_48 : decode cX9_handle 48 = .ok (.iconst 2, 1) := by decide +kernel
theorem dX9_handle_49 : decode cX9_handle 49 = .ok (.iadd, 1) := by decide +kernel
theorem dX9_handle_50 : decode cX9_handle 50 = .ok (.iaload, 1) := by decide +kernel
theorem dX9_handle_51 : decode cX9_handle 51 = .ok (.aload_n 0, 1) := by decide +kernel
theorem dX9_handle_52 : decode cX9_handle 52 = .ok (.getfield 7, 3) := by decide +kernel
theorem dX9_handle_55 : decode cX9_handle 55 = .ok (.iload 5, 2) := by decide +kernel
theorem dX9_handle_57 : decode cX9_handle 57 = .ok (.iaload, 1) := by decide +kernel
theorem dX9_handle_58 : decode cX9_handle 58 = .ok (.if_icmp .eq 19, 3) := by decide +kernel
theorem dX9_handle_61 : decode cX9_handle 61 = .ok (.iload 6, 2) := by decide +kernel
theorem dX9_handle_63 : decode cX9_handle 63 = .ok (.bipush 112, 2) := by decide +kernel
theorem dX9_handle_65 : decode cX9_handle 65 = .ok (.if_icmp .ne 16, 3) := by decide +kernel
theorem dX9_handle_68 : decode cX9_handle 68 = .ok (.aload_n 0, 1) := by decide +kernel
theorem dX9_handle_69 : decode cX9_handle 69 = .ok (.getfield 41, 3) := by decide +kernel
theorem dX9_handle_72 : decode cX9_handle 72 = .ok (.iload_n 2, 1) := by decide +kernel
theorem dX9_handle_73 : decode cX9_handle 73 = .ok (.iaload, 1) := by decide +kernel
theorem dX9_handle_74 : decode cX9_handle 74 = .ok (.ifCond .ne 7, 3) := by decide +kernel
theorem dX9_handle_77 : decode cX9_handle 77 = .ok (.iconst 1, 1) := by decide +kernel
theorem dX9_handle_78 : decode cX9_handle 78 = .ok (.goto 4, 3) := by decide +kernel
theorem dX9_handle_81 : decode cX9_handle 81 = .ok (.iconst 0, 1) := by decide +kernel
theorem dX9_handle_82 : decode cX9_handle 82 = .ok (.istore 7, 2) := by decide +kernel
theorem dX9_handle_84 : decode cX9_handle 84 = .ok (.aload_n 0, 1) := by decide +kernel
theorem dX9_handle_85 : decode cX9_handle 85 = .ok (.getfield 41, 3) := by decide +kernel
theorem dX9_handle_88 : decode cX9_handle 88 = .ok (.iload_n 2, 1) := by decide +kernel
theorem dX9_handle_89 : decode cX9_handle 89 = .ok (.dup2, 1) := by decide +kernel
theorem dX9_handle_90 : decode cX9_handle 90 = .ok (.iaload, 1) := by decide +kernel
theorem dX9_handle_91 : decode cX9_handle 91 = .ok (.iconst 1, 1) := by decide +kernel
theorem dX9_handle_92 : decode cX9_handle 92 = .ok (.isub, 1) := by decide +kernel
theorem dX9_handle_93 : decode cX9_handle 93 = .ok (.iastore, 1) := by decide +kernel
theorem dX9_handle_94 : decode cX9_handle 94 = .ok (.iload 7, 2) := by decide +kernel
theorem dX9_handle_96 : decode cX9_handle 96 = .ok (.ifCond .ne 4, 3) := by decide +kernel
theorem dX9_handle_99 : decode cX9_handle 99 = .ok (.return_, 1) := by decide +kernel
theorem dX9_handle_100 : decode cX9_handle 100 = .ok (.aload_n 0, 1) := by decide +kernel
theorem dX9_handle_101 : decode cX9_handle 101 = .ok (.getfield 44, 3) := by decide +kernel
theorem dX9_handle_104 : decode cX9_handle 104 = .ok (.iload_n 3, 1) := by decide +kernel
theorem dX9_handle_105 : decode cX9_handle 105 = .ok (.iconst 1, 1) := by decide +kernel
theorem dX9_handle_106 : decode cX9_handle 106 = .ok (.bastore, 1) := by decide +kernel
theorem dX9_handle_107 : decode cX9_handle 107 = .ok (.iconst 4, 1) := by decide +kernel
theorem dX9_handle_108 : decode cX9_handle 108 = .ok (.iload_n 1, 1) := by decide +kernel
theorem dX9_handle_109 : decode cX9_handle 109 = .ok (.imul, 1) := by decide +kernel
theorem dX9_handle_110 : decode cX9_handle 110 = .ok (.iload_n 2, 1) := by decide +kernel
theorem dX9_handle_111 : decode cX9_handle 111 = .ok (.iadd, 1) := by decide +kernel
theorem dX9_handle_112 : decode cX9_handle 112 = .ok (.istore 8, 2) := by decide +kernel
theorem dX9_handle_114 : decode cX9_handle 114 = .ok (.iload 5, 2) := by decide +kernel
theorem dX9_handle_116 : decode cX9_handle 116 = .ok (.iconst 1, 1) := by decide +kernel
theorem dX9_handle_117 : decode cX9_handle 117 = .ok (.iadd, 1) := by decide +kernel
theorem dX9_handle_118 : decode cX9_handle 118 = .ok (.aload_n 0, 1) := by decide +kernel
theorem dX9_handle_119 : decode cX9_handle 119 = .ok (.getfield 7, 3) := by decide +kernel
theorem dX9_handle_122 : decode cX9_handle 122 = .ok (.iload 4, 2) := by decide +kernel
theorem dX9_handle_124 : decode cX9_handle 124 = .ok (.iconst 3, 1) := by decide +kernel
theorem dX9_handle_125 : decode cX9_handle 125 = .ok (.iadd, 1) := by decide +kernel
theorem dX9_handle_126 : decode cX9_handle 126 = .ok (.iaload, 1) := by decide +kernel
theorem dX9_handle_127 : decode cX9_handle 127 = .ok (.iadd, 1) := by decide +kernel
theorem dX9_handle_128 : decode cX9_handle 128 = .ok (.istore 9, 2) := by decide +kernel
theorem dX9_handle_130 : decode cX9_handle 130 = .ok (.aload_n 0, 1) := by decide +kernel
theorem dX9_handle_131 : decode cX9_handle 131 = .ok (.getfield 7, 3) := by decide +kernel
theorem dX9_handle_134 : decode cX9_handle 134 = .ok (.iload 9, 2) := by decide +kernel
theorem dX9_handle_136 : decode cX9_handle 136 = .ok (.iaload, 1) := by decide +kernel
theorem dX9_handle_137 : decode cX9_handle 137 = .ok (.istore 10, 2) := by decide +kernel
theorem dX9_handle_139 : decode cX9_handle 139 = .ok (.aload_n 0, 1) := by decide +kernel
theorem dX9_handle_140 : decode cX9_handle 140 = .ok (.getfield 7, 3) := by decide +kernel
theorem dX9_handle_143 : decode cX9_handle 143 = .ok (.iload 5, 2) := by decide +kernel
theorem dX9_handle_145 : decode cX9_handle 145 = .ok (.bipush 6, 2) := by decide +kernel
theorem dX9_handle_147 : decode cX9_handle 147 = .ok (.iadd, 1) := by decide +kernel
theorem dX9_handle_148 : decode cX9_handle 148 = .ok (.iaload, 1) := by decide +kernel
theorem dX9_handle_149 : decode cX9_handle 149 = .ok (.iconst 1, 1) := by decide +kernel
theorem dX9_handle_150 : decode cX9_handle 150 = .ok (.if_icmp .ne 7, 3) := by decide +kernel
theorem dX9_handle_153 : decode cX9_handle 153 = .ok (.iconst 1, 1) := by decide +kernel
theorem dX9_handle_154 : decode cX9_handle 154 = .ok (.goto 4, 3) := by decide +kernel
theorem dX9_handle_157 : decode cX9_handle 157 = .ok (.iconst 0, 1) := by decide +kernel
theorem dX9_handle_158 : decode cX9_handle 158 = .ok (.istore 11, 2) := by decide +kernel
theorem dX9_handle_160 : decode cX9_handle 160 = .ok (.aload_n 0, 1) := by decide +kernel
theorem dX9_handle_161 : decode cX9_handle 161 = .ok (.getfield 7, 3) := by decide +kernel
theorem dX9_handle_164 : decode cX9_handle 164 = .ok (.iload 4, 2) := by decide +kernel
theorem dX9_handle_166 : decode cX9_handle 166 = .ok (.iaload, 1) := by decide +kernel
theorem dX9_handle_167 : decode cX9_handle 167 = .ok (.bipush 114, 2) := by decide +kernel
theorem dX9_handle_169 : decode cX9_handle 169 = .ok (.if_icmp .ne 46, 3) := by decide +kernel
theorem dX9_handle_172 : decode cX9_handle 172 = .ok (.aload_n 0, 1) := by decide +kernel
theorem dX9_handle_173 : decode cX9_handle 173 = .ok (.getfield 35, 3) := by decide +kernel
theorem dX9_handle_176 : decode cX9_handle 176 = .ok (.iload 8, 2) := by decide +kernel
theorem dX9_handle_178 : decode cX9_handle 178 = .ok (.iload 6, 2) := by decide +kernel
theorem dX9_handle_180 : decode cX9_handle 180 = .ok (.bipush 98, 2) := by decide +kernel
theorem dX9_handle_182 : decode cX9_handle 182 = .ok (.if_icmp .ne 16, 3) := by decide +kernel
theorem dX9_handle_185 : decode cX9_handle 185 = .ok (.aload_n 0, 1) := by decide +kernel
theorem dX9_handle_186 : decode cX9_handle 186 = .ok (.getfield 35, 3) := by decide +kernel
theorem dX9_handle_189 : decode cX9_handle 189 = .ok (.iload 8, 2) := by decide +kernel
theorem dX9_handle_191 : decode cX9_handle 191 = .ok (.iaload, 1) := by decide +kernel
theorem dX9_handle_192 : decode cX9_handle 192 = .ok (.iload 10, 2) := by decide +kernel
theorem dX9_handle_194 : decode cX9_handle 194 = .ok (.ior, 1) := by decide +kernel
theorem dX9_handle_195 : decode cX9_handle 195 = .ok (.goto 5, 3) := by decide +kernel
theorem dX9_handle_198 : decode cX9_handle 198 = .ok (.iload 10, 2) := by decide +kernel
theorem dX9_handle_200 : decode cX9_handle 200 = .ok (.iastore, 1) := by decide +kernel
theorem dX9_handle_201 : decode cX9_handle 201 = .ok (.aload_n 0, 1) := by decide +kernel
theorem dX9_handle_202 : decode cX9_handle 202 = .ok (.getfield 38, 3) := by decide +kernel
theorem dX9_handle_205 : decode cX9_handle 205 = .ok (.iload 8, 2) := by decide +kernel
theorem dX9_handle_207 : decode cX9_handle 207 = .ok (.dup2, 1) := by decide +kernel
theorem dX9_handle_208 : decode cX9_handle 208 = .ok (.iaload, 1) := by decide +kernel
theorem dX9_handle_209 : decode cX9_handle 209 = .ok (.iconst 1, 1) := by decide +kernel
theorem dX9_handle_210 : decode cX9_handle 210 = .ok (.iadd, 1) := by decide +kernel
theorem dX9_handle_211 : decode cX9_handle 211 = .ok (.iastore, 1) := by decide +kernel
theorem dX9_handle_212 : decode cX9_handle 212 = .ok (.goto 115, 3) := by decide +kernel
theorem dX9_handle_215 : decode cX9_handle 215 = .ok (.aload_n 0, 1) := by decide +kernel
theorem dX9_handle_216 : decode cX9_handle 216 = .ok (.getfield 7, 3) := by decide +kernel
theorem dX9_handle_219 : decode cX9_handle 219 = .ok (.iload 4, 2) := by decide +kernel
theorem dX9_handle_221 : decode cX9_handle 221 = .ok (.iaload, 1) := by decide +kernel
theorem dX9_handle_222 : decode cX9_handle 222 = .ok (.bipush 119, 2) := by decide +kernel
theorem dX9_handle_224 : decode cX9_handle 224 = .ok (.if_icmp .ne 50, 3) := by decide +kernel
theorem dX9_handle_227 : decode cX9_handle 227 = .ok (.aload_n 0, 1) := by decide +kernel
theorem dX9_handle_228 : decode cX9_handle 228 = .ok (.getfield 7, 3) := by decide +kernel
theorem dX9_handle_231 : decode cX9_handle 231 = .ok (.iload 9, 2) := by decide +kernel
theorem dX9_handle_233 : decode cX9_handle 233 = .ok (.iload 11, 2) := by decide +kernel
theorem dX9_handle_235 : decode cX9_handle 235 = .ok (.ifCond .eq 8, 3) := by decide +kernel
theorem dX9_handle_238 : decode cX9_handle 238 = .ok (.iload 10, 2) := by decide +kernel
theorem dX9_handle_240 : decode cX9_handle 240 = .ok (.goto 10, 3) := by decide +kernel
theorem dX9_handle_243 : decode cX9_handle 243 = .ok (.aload_n 0, 1) := by decide +kernel
theorem dX9_handle_244 : decode cX9_handle 244 = .ok (.getfield 35, 3) := by decide +kernel
theorem dX9_handle_247 : decode cX9_handle 247 = .ok (.iload 8, 2) := by decide +kernel
theorem dX9_handle_249 : decode cX9_handle 249 = .ok (.iaload, 1) := by decide +kernel
theorem dX9_handle_250 : decode cX9_handle 250 = .ok (.iastore, 1) := by decide +kernel
theorem dX9_handle_251 : decode cX9_handle 251 = .ok (.aload_n 0, 1) := by decide +kernel
theorem dX9_handle_252 : decode cX9_handle 252 = .ok (.getfield 38, 3) := by decide +kernel
theorem dX9_handle_255 : decode cX9_handle 255 = .ok (.iload 8, 2) := by decide +kernel
theorem dX9_handle_257 : decode cX9_handle 257 = .ok (.dup2, 1) := by decide +kernel
theorem dX9_handle_258 : decode cX9_handle 258 = .ok (.iaload, 1) := by decide +kernel
theorem dX9_handle_259 : decode cX9_handle 259 = .ok (.iload 11, 2) := by decide +kernel
theorem dX9_handle_261 : decode cX9_handle 261 = .ok (.ifCond .eq 7, 3) := by decide +kernel
theorem dX9_handle_264 : decode cX9_handle 264 = .ok (.iconst 0, 1) := by decide +kernel
theorem dX9_handle_265 : decode cX9_handle 265 = .ok (.goto 4, 3) := by decide +kernel
theorem dX9_handle_268 : decode cX9_handle 268 = .ok (.iconst 1, 1) := by decide +kernel
theorem dX9_handle_269 : decode cX9_handle 269 = .ok (.iadd, 1) := by decide +kernel
theorem dX9_handle_270 : decode cX9_handle 270 = .ok (.iastore, 1) := by decide +kernel
theorem dX9_handle_271 : decode cX9_handle 271 = .ok (.goto 56, 3) := by decide +kernel
theorem dX9_handle_274 : decode cX9_handle 274 = .ok (.aload_n 0, 1) := by decide +kernel
theorem dX9_handle_275 : decode cX9_handle 275 = .ok (.getfield 7, 3) := by decide +kernel
theorem dX9_handle_278 : decode cX9_handle 278 = .ok (.iload 9, 2) := by decide +kernel
theorem dX9_handle_280 : decode cX9_handle 280 = .ok (.iload 11, 2) := by decide +kernel
theorem dX9_handle_282 : decode cX9_handle 282 = .ok (.ifCond .eq 8, 3) := by decide +kernel
theorem dX9_handle_285 : decode cX9_handle 285 = .ok (.iload 10, 2) := by decide +kernel
theorem dX9_handle_287 : decode cX9_handle 287 = .ok (.goto 10, 3) := by decide +kernel
theorem dX9_handle_290 : decode cX9_handle 290 = .ok (.aload_n 0, 1) := by decide +kernel
theorem dX9_handle_291 : decode cX9_handle 291 = .ok (.getfield 35, 3) := by decide +kernel
theorem dX9_handle_294 : decode cX9_handle 294 = .ok (.iload 8, 2) := by decide +kernel
theorem dX9_handle_296 : decode cX9_handle 296 = .ok (.iaload, 1) := by decide +kernel
theorem dX9_handle_297 : decode cX9_handle 297 = .ok (.iastore, 1) := by decide +kernel
theorem dX9_handle_298 : decode cX9_handle 298 = .ok (.aload_n 0, 1) := by decide +kernel
theorem dX9_handle_299 : decode cX9_handle 299 = .ok (.getfield 35, 3) := by decide +kernel
theorem dX9_handle_302 : decode cX9_handle 302 = .ok (.iload 8, 2) := by decide +kernel
theorem dX9_handle_304 : decode cX9_handle 304 = .ok (.iload 10, 2) := by decide +kernel
theorem dX9_handle_306 : decode cX9_handle 306 = .ok (.iastore, 1) := by decide +kernel
theorem dX9_handle_307 : decode cX9_handle 307 = .ok (.aload_n 0, 1) := by decide +kernel
theorem dX9_handle_308 : decode cX9_handle 308 = .ok (.getfield 38, 3) := by decide +kernel
theorem dX9_handle_311 : decode cX9_handle 311 = .ok (.iload 8, 2) := by decide +kernel
theorem dX9_handle_313 : decode cX9_handle 313 = .ok (.dup2, 1) := by decide +kernel
theorem dX9_handle_314 : decode cX9_handle 314 = .ok (.iaload, 1) := by decide +kernel
theorem dX9_handle_315 : decode cX9_handle 315 = .ok (.iload 11, 2) := by decide +kernel
theorem dX9_handle_317 : decode cX9_handle 317 = .ok (.ifCond .eq 7, 3) := by decide +kernel
theorem dX9_handle_320 : decode cX9_handle 320 = .ok (.iconst 1, 1) := by decide +kernel
theorem dX9_handle_321 : decode cX9_handle 321 = .ok (.goto 4, 3) := by decide +kernel
theorem dX9_handle_324 : decode cX9_handle 324 = .ok (.iconst 3, 1) := by decide +kernel
theorem dX9_handle_325 : decode cX9_handle 325 = .ok (.iadd, 1) := by decide +kernel
theorem dX9_handle_326 : decode cX9_handle 326 = .ok (.iastore, 1) := by decide +kernel
theorem dX9_handle_327 : decode cX9_handle 327 = .ok (.return_, 1) := by decide +kernel
theorem dX9_passThrough_0 : decode cX9_passThrough 0 = .ok (.iconst 0, 1) := by decide +kernel
theorem dX9_passThrough_1 : decode cX9_passThrough 1 = .ok (.istore 4, 2) := by decide +kernel
theorem dX9_passThrough_3 : decode cX9_passThrough 3 = .ok (.iload 4, 2) := by decide +kernel
theorem dX9_passThrough_5 : decode cX9_passThrough 5 = .ok (.aload_n 0, 1) := by decide +kernel
theorem dX9_passThrough_6 : decode cX9_passThrough 6 = .ok (.getfield 7, 3) := by decide +kernel
theorem dX9_passThrough_9 : decode cX9_passThrough 9 = .ok (.iconst 3, 1) := by decide +kernel
theorem dX9_passThrough_10 : decode cX9_passThrough 10 = .ok (.iaload, 1) := by decide +kernel
theorem dX9_passThrough_11 : decode cX9_passThrough 11 = .ok (.if_icmp .ge 30, 3) := by decide +kernel
theorem dX9_passThrough_14 : decode cX9_passThrough 14 = .ok (.aload_n 0, 1) := by decide +kernel
theorem dX9_passThrough_15 : decode cX9_passThrough 15 = .ok (.getfield 41, 3) := by decide +kernel
theorem dX9_passThrough_18 : decode cX9_passThrough 18 = .ok (.iload 4, 2) := by decide +kernel
theorem dX9_passThrough_20 : decode cX9_passThrough 20 = .ok (.aload_n 0, 1) := by decide +kernel
theorem dX9_passThrough_21 : decode cX9_passThrough 21 = .ok (.getfield 7, 3) := by decide +kernel
theorem dX9_passThrough_24 : decode cX9_passThrough 24 = .ok (.bipush 71, 2) := by decide +kernel
theorem dX9_passThrough_26 : decode cX9_passThrough 26 = .ok (.iconst 5, 1) := by decide +kernel
theorem dX9_passThrough_27 : decode cX9_passThrough 27 = .ok (.iload 4, 2) := by decide +kernel
theorem dX9_passThrough_29 : decode cX9_passThrough 29 = .ok (.imul, 1) := by decide +kernel
theorem dX9_passThrough_30 : decode cX9_passThrough 30 = .ok (.iadd, 1) := by decide +kernel
theorem dX9_passThrough_31 : decode cX9_passThrough 31 = .ok (.iconst 2, 1) := by decide +kernel
theorem dX9_passThrough_32 : decode cX9_passThrough 32 = .ok (.iadd, 1) := by decide +kernel
theorem dX9_passThrough_33 : decode cX9_passThrough 33 = .ok (.iaload, 1) := by decide +kernel
theorem dX9_passThrough_34 : decode cX9_passThrough 34 = .ok (.iastore, 1) := by decide +kernel
theorem dX9_passThrough_35 : decode cX9_passThrough 35 = .ok (.iinc 4 1, 3) := by decide +kernel
theorem dX9_passThrough_38 : decode cX9_passThrough 38 = .ok (.goto (-35), 3) := by decide +kernel
theorem dX9_passThrough_41 : decode cX9_passThrough 41 = .ok (.iload_n 2, 1) := by decide +kernel
theorem dX9_passThrough_42 : decode cX9_passThrough 42 = .ok (.istore 4, 2) := by decide +kernel
theorem dX9_passThrough_44 : decode cX9_passThrough 44 = .ok (.iload 4, 2) := by decide +kernel
theorem dX9_passThrough_46 : decode cX9_passThrough 46 = .ok (.iload_n 3, 1) := by decide +kernel
theorem dX9_passThrough_47 : decode cX9_passThrough 47 = .ok (.if_icmp .gt 38, 3) := by decide +kernel
theorem dX9_passThrough_50 : decode cX9_passThrough 50 = .ok (.iconst 0, 1) := by decide +kernel
theorem dX9_passThrough_51 : decode cX9_passThrough 51 = .ok (.istore 5, 2) := by decide +kernel
theorem dX9_passThrough_53 : decode cX9_passThrough 53 = .ok (.iload 5, 2) := by decide +kernel
theorem dX9_passThrough_55 : decode cX9_passThrough 55 = .ok (.aload_n 0, 1) := by decide +kernel
theorem dX9_passThrough_56 : decode cX9_passThrough 56 = .ok (.getfield 7, 3) := by decide +kernel
theorem dX9_passThrough_59 : decode cX9_passThrough 59 = .ok (.iconst 3, 1) := by decide +kernel
theorem dX9_passThrough_60 : decode cX9_passThrough 60 = .ok (.iaload, 1) := by decide +kernel
theorem dX9_passThrough_61 : decode cX9_passThrough 61 = .ok (.if_icmp .ge 18, 3) := by decide +kernel
theorem dX9_passThrough_64 : decode cX9_passThrough 64 = .ok (.aload_n 0, 1) := by decide +kernel
theorem dX9_passThrough_65 : decode cX9_passThrough 65 = .ok (.iload_n 1, 1) := by decide +kernel
theorem dX9_passThrough_66 : decode cX9_passThrough 66 = .ok (.iload 5, 2) := by decide +kernel
theorem dX9_passThrough_68 : decode cX9_passThrough 68 = .ok (.iload 4, 2) := by decide +kernel
theorem dX9_passThrough_70 : decode cX9_passThrough 70 = .ok (.invokevirtual 141, 3) := by decide +kernel
theorem dX9_passThrough_73 : decode cX9_passThrough 73 = .ok (.iinc 5 1, 3) := by decide +kernel
theorem dX9_passThrough_76 : decode cX9_passThrough 76 = .ok (.goto (-23), 3) := by decide +kernel
theorem dX9_passThrough_79 : decode cX9_passThrough 79 = .ok (.iinc 4 1, 3) := by decide +kernel
theorem dX9_passThrough_82 : decode cX9_passThrough 82 = .ok (.goto (-38), 3) := by decide +kernel
theorem dX9_passThrough_85 : decode cX9_passThrough 85 = .ok (.return_, 1) := by decide +kernel
theorem dX9_beginCopies_0 : decode cX9_beginCopies 0 = .ok (.iconst 0, 1) := by decide +kernel
theorem dX9_beginCopies_1 : decode cX9_beginCopies 1 = .ok (.istore_n 1, 1) := by decide +kernel
theorem dX9_beginCopies_2 : decode cX9_beginCopies 2 = .ok (.iload_n 1, 1) := by decide +kernel
theorem dX9_beginCopies_3 : decode cX9_beginCopies 3 = .ok (.bipush 6, 2) := by decide +kernel
theorem dX9_beginCopies_5 : decode cX9_beginCopies 5 = .ok (.if_icmp .ge 16, 3) := by decide +kernel
theorem dX9_beginCopies_8 : decode cX9_beginCopies 8 = .ok (.aload_n 0, 1) := by decide +kernel
theorem dX9_beginCopies_9 : decode cX9_beginCopies 9 = .ok (.getfield 44, 3) := by decide +kernel
theorem dX9_beginCopies_12 : decode cX9_beginCopies 12 = .ok (.iload_n 1, 1) := by decide +kernel
theorem dX9_beginCopies_13 : decode cX9_beginCopies 13 = .ok (.iconst 0, 1) := by decide +kernel
theorem dX9_beginCopies_14 : decode cX9_beginCopies 14 = .ok (.bastore, 1) := by decide +kernel
theorem dX9_beginCopies_15 : decode cX9_beginCopies 15 = .ok (.iinc 1 1, 3) := by decide +kernel
theorem dX9_beginCopies_18 : decode cX9_beginCopies 18 = .ok (.goto (-16), 3) := by decide +kernel
theorem dX9_beginCopies_21 : decode cX9_beginCopies 21 = .ok (.iconst 0, 1) := by decide +kernel
theorem dX9_beginCopies_22 : decode cX9_beginCopies 22 = .ok (.istore_n 1, 1) := by decide +kernel
theorem dX9_beginCopies_23 : decode cX9_beginCopies 23 = .ok (.iload_n 1, 1) := by decide +kernel
theorem dX9_beginCopies_24 : decode cX9_beginCopies 24 = .ok (.bipush 8, 2) := by decide +kernel
theorem dX9_beginCopies_26 : decode cX9_beginCopies 26 = .ok (.if_icmp .ge 37, 3) := by decide +kernel
theorem dX9_beginCopies_29 : decode cX9_beginCopies 29 = .ok (.aload_n 0, 1) := by decide +kernel
theorem dX9_beginCopies_30 : decode cX9_beginCopies 30 = .ok (.getfield 35, 3) := by decide +kernel
theorem dX9_beginCopies_33 : decode cX9_beginCopies 33 = .ok (.iload_n 1, 1) := by decide +kernel
theorem dX9_beginCopies_34 : decode cX9_beginCopies 34 = .ok (.aload_n 0, 1) := by decide +kernel
theorem dX9_beginCopies_35 : decode cX9_beginCopies 35 = .ok (.getfield 7, 3) := by decide +kernel
theorem dX9_beginCopies_38 : decode cX9_beginCopies 38 = .ok (.bipush 71, 2) := by decide +kernel
theorem dX9_beginCopies_40 : decode cX9_beginCopies 40 = .ok (.iconst 5, 1) := by decide +kernel
theorem dX9_beginCopies_41 : decode cX9_beginCopies 41 = .ok (.iload_n 1, 1) := by decide +kernel
theorem dX9_beginCopies_42 : decode cX9_beginCopies 42 = .ok (.iconst 4, 1) := by decide +kernel
theorem dX9_beginCopies_43 : decode cX9_beginCopies 43 = .ok (.irem, 1) := by decide +kernel
theorem dX9_beginCopies_44 : decode cX9_beginCopies 44 = .ok (.imul, 1) := by decide +kernel
theorem dX9_beginCopies_45 : decode cX9_beginCopies 45 = .ok (.iadd, 1) := by decide +kernel
theorem dX9_beginCopies_46 : decode cX9_beginCopies 46 = .ok (.iconst 4, 1) := by decide +kernel
theorem dX9_beginCopies_47 : decode cX9_beginCopies 47 = .ok (.iadd, 1) := by decide +kernel
theorem dX9_beginCopies_48 : decode cX9_beginCopies 48 = .ok (.iaload, 1) := by decide +kernel
theorem dX9_beginCopies_49 : decode cX9_beginCopies 49 = .ok (.iastore, 1) := by decide +kernel
theorem dX9_beginCopies_50 : decode cX9_beginCopies 50 = .ok (.aload_n 0, 1) := by decide +kernel
theorem dX9_beginCopies_51 : decode cX9_beginCopies 51 = .ok (.getfield 38, 3) := by decide +kernel
theorem dX9_beginCopies_54 : decode cX9_beginCopies 54 = .ok (.iload_n 1, 1) := by decide +kernel
theorem dX9_beginCopies_55 : decode cX9_beginCopies 55 = .ok (.iconst 0, 1) := by decide +kernel
theorem dX9_beginCopies_56 : decode cX9_beginCopies 56 = .ok (.iastore, 1) := by decide +kernel
theorem dX9_beginCopies_57 : decode cX9_beginCopies 57 = .ok (.iinc 1 1, 3) := by decide +kernel
theorem dX9_beginCopies_60 : decode cX9_beginCopies 60 = .ok (.goto (-37), 3) := by decide +kernel
theorem dX9_beginCopies_63 : decode cX9_beginCopies 63 = .ok (.return_, 1) := by decide +kernel
theorem dX9_send_0 : decode cX9_send 0 = .ok (.aload_n 0, 1) := by decide +kernel
theorem dX9_send_1 : decode cX9_send 1 = .ok (.invokevirtual 145, 3) := by decide +kernel
theorem dX9_send_4 : decode cX9_send 4 = .ok (.aload_n 0, 1) := by decide +kernel
theorem dX9_send_5 : decode cX9_send 5 = .ok (.iconst 0, 1) := by decide +kernel
theorem dX9_send_6 : decode cX9_send 6 = .ok (.iconst 0, 1) := by decide +kernel
theorem dX9_send_7 : decode cX9_send 7 = .ok (.aload_n 0, 1) := by decide +kernel
theorem dX9_send_8 : decode cX9_send 8 = .ok (.iload_n 1, 1) := by decide +kernel
theorem dX9_send_9 : decode cX9_send 9 = .ok (.invokevirtual 134, 3) := by decide +kernel
theorem dX9_send_12 : decode cX9_send 12 = .ok (.invokevirtual 148, 3) := by decide +kernel
theorem dX9_send_15 : decode cX9_send 15 = .ok (.aload_n 0, 1) := by decide +kernel
theorem dX9_send_16 : decode cX9_send 16 = .ok (.iconst 1, 1) := by decide +kernel
theorem dX9_send_17 : decode cX9_send 17 = .ok (.aload_n 0, 1) := by decide +kernel
theorem dX9_send_18 : decode cX9_send 18 = .ok (.iload_n 1, 1) := by decide +kernel
theorem dX9_send_19 : decode cX9_send 19 = .ok (.invokevirtual 138, 3) := by decide +kernel
theorem dX9_send_22 : decode cX9_send 22 = .ok (.aload_n 0, 1) := by decide +kernel
theorem dX9_send_23 : decode cX9_send 23 = .ok (.getfield 7, 3) := by decide +kernel
theorem dX9_send_26 : decode cX9_send 26 = .ok (.iconst 0, 1) := by decide +kernel
theorem dX9_send_27 : decode cX9_send 27 = .ok (.iaload, 1) := by decide +kernel
theorem dX9_send_28 : decode cX9_send 28 = .ok (.iconst 1, 1) := by decide +kernel
theorem dX9_send_29 : decode cX9_send 29 = .ok (.isub, 1) := by decide +kernel
theorem dX9_send_30 : decode cX9_send 30 = .ok (.invokevirtual 148, 3) := by decide +kernel
theorem dX9_send_33 : decode cX9_send 33 = .ok (.return_, 1) := by decide +kernel
theorem dX9_countOf_0 : decode cX9_countOf 0 = .ok (.iload_n 1, 1) := by decide +kernel
theorem dX9_countOf_1 : decode cX9_countOf 1 = .ok (.aload_n 0, 1) := by decide +kernel
theorem dX9_countOf_2 : decode cX9_countOf 2 = .ok (.getfield 7, 3) := by decide +kernel
theorem dX9_countOf_5 : decode cX9_countOf 5 = .ok (.iconst 3, 1) := by decide +kernel
theorem dX9_countOf_6 : decode cX9_countOf 6 = .ok (.iaload, 1) := by decide +kernel
theorem dX9_countOf_7 : decode cX9_countOf 7 = .ok (.if_icmp .ge 21, 3) := by decide +kernel
theorem dX9_countOf_10 : decode cX9_countOf 10 = .ok (.aload_n 0, 1) := by decide +kernel
theorem dX9_countOf_11 : decode cX9_countOf 11 = .ok (.getfield 38, 3) := by decide +kernel
theorem dX9_countOf_14 : decode cX9_countOf 14 = .ok (.iload_n 1, 1) := by decide +kernel
theorem dX9_countOf_15 : decode cX9_countOf 15 = .ok (.iaload, 1) := by decide +kernel
theorem dX9_countOf_16 : decode cX9_countOf 16 = .ok (.aload_n 0, 1) := by decide +kernel
theorem dX9_countOf_17 : decode cX9_countOf 17 = .ok (.getfield 38, 3) := by decide +kernel
theorem dX9_countOf_20 : decode cX9_countOf 20 = .ok (.iconst 4, 1) := by decide +kernel
theorem dX9_countOf_21 : decode cX9_countOf 21 = .ok (.iload_n 1, 1) := by decide +kernel
theorem dX9_countOf_22 : decode cX9_countOf 22 = .ok (.iadd, 1) := by decide +kernel
theorem dX9_countOf_23 : decode cX9_countOf 23 = .ok (.iaload, 1) := by decide +kernel
theorem dX9_countOf_24 : decode cX9_countOf 24 = .ok (.iadd, 1) := by decide +kernel
theorem dX9_countOf_25 : decode cX9_countOf 25 = .ok (.goto 4, 3) := by decide +kernel
theorem dX9_countOf_28 : decode cX9_countOf 28 = .ok (.iconst 0, 1) := by decide +kernel
theorem dX9_countOf_29 : decode cX9_countOf 29 = .ok (.ireturn, 1) := by decide +kernel
theorem dX9_dataOf_0 : decode cX9_dataOf 0 = .ok (.aload_n 0, 1) := by decide +kernel
theorem dX9_dataOf_1 : decode cX9_dataOf 1 = .ok (.getfield 7, 3) := by decide +kernel
theorem dX9_dataOf_4 : decode cX9_dataOf 4 = .ok (.bipush 71, 2) := by decide +kernel
theorem dX9_dataOf_6 : decode cX9_dataOf 6 = .ok (.iconst 5, 1) := by decide +kernel
theorem dX9_dataOf_7 : decode cX9_dataOf 7 = .ok (.iload_n 1, 1) := by decide +kernel
theorem dX9_dataOf_8 : decode cX9_dataOf 8 = .ok (.imul, 1) := by decide +kernel
theorem dX9_dataOf_9 : decode cX9_dataOf 9 = .ok (.iadd, 1) := by decide +kernel
theorem dX9_dataOf_10 : decode cX9_dataOf 10 = .ok (.iaload, 1) := by decide +kernel
theorem dX9_dataOf_11 : decode cX9_dataOf 11 = .ok (.bipush 114, 2) := by decide +kernel
theorem dX9_dataOf_13 : decode cX9_dataOf 13 = .ok (.if_icmp .ne 25, 3) := by decide +kernel
theorem dX9_dataOf_16 : decode cX9_dataOf 16 = .ok (.aload_n 0, 1) := by decide +kernel
theorem dX9_dataOf_17 : decode cX9_dataOf 17 = .ok (.getfield 7, 3) := by decide +kernel
theorem dX9_dataOf_20 : decode cX9_dataOf 20 = .ok (.bipush 71, 2) := by decide +kernel
theorem dX9_dataOf_22 : decode cX9_dataOf 22 = .ok (.iconst 5, 1) := by decide +kernel
theorem dX9_dataOf_23 : decode cX9_dataOf 23 = .ok (.iload_n 1, 1) := by decide +kernel
theorem dX9_dataOf_24 : decode cX9_dataOf 24 = .ok (.imul, 1) := by decide +kernel
theorem dX9_dataOf_25 : decode cX9_dataOf 25 = .ok (.iadd, 1) := by decide +kernel
theorem dX9_dataOf_26 : decode cX9_dataOf 26 = .ok (.iconst 1, 1) := by decide +kernel
theorem dX9_dataOf_27 : decode cX9_dataOf 27 = .ok (.iadd, 1) := by decide +kernel
theorem dX9_dataOf_28 : decode cX9_dataOf 28 = .ok (.iaload, 1) := by decide +kernel
theorem dX9_dataOf_29 : decode cX9_dataOf 29 = .ok (.bipush 98, 2) := by decide +kernel
theorem dX9_dataOf_31 : decode cX9_dataOf 31 = .ok (.if_icmp .ne 7, 3) := by decide +kernel
theorem dX9_dataOf_34 : decode cX9_dataOf 34 = .ok (.iconst 1, 1) := by decide +kernel
theorem dX9_dataOf_35 : decode cX9_dataOf 35 = .ok (.goto 4, 3) := by decide +kernel
theorem dX9_dataOf_38 : decode cX9_dataOf 38 = .ok (.iconst 0, 1) := by decide +kernel
theorem dX9_dataOf_39 : decode cX9_dataOf 39 = .ok (.istore_n 2, 1) := by decide +kernel
theorem dX9_dataOf_40 : decode cX9_dataOf 40 = .ok (.iload_n 2, 1) := by decide +kernel
theorem dX9_dataOf_41 : decode cX9_dataOf 41 = .ok (.ifCond .eq 21, 3) := by decide +kernel
theorem dX9_dataOf_44 : decode cX9_dataOf 44 = .ok (.aload_n 0, 1) := by decide +kernel
theorem dX9_dataOf_45 : decode cX9_dataOf 45 = .ok (.getfield 35, 3) := by decide +kernel
theorem dX9_dataOf_48 : decode cX9_dataOf 48 = .ok (.iload_n 1, 1) := by decide +kernel
theorem dX9_dataOf_49 : decode cX9_dataOf 49 = .ok (.iaload, 1) := by decide +kernel
theorem dX9_dataOf_50 : decode cX9_dataOf 50 = .ok (.aload_n 0, 1) := by decide +kernel
theorem dX9_dataOf_51 : decode cX9_dataOf 51 = .ok (.getfield 35, 3) := by decide +kernel
theorem dX9_dataOf_54 : decode cX9_dataOf 54 = .ok (.iconst 4, 1) := by decide +kernel
theorem dX9_dataOf_55 : decode cX9_dataOf 55 = .ok (.iload_n 1, 1) := by decide +kernel
theorem dX9_dataOf_56 : decode cX9_dataOf 56 = .ok (.iadd, 1) := by decide +kernel
theorem dX9_dataOf_57 : decode cX9_dataOf 57 = .ok (.iaload, 1) := by decide +kernel
theorem dX9_dataOf_58 : decode cX9_dataOf 58 = .ok (.ior, 1) := by decide +kernel
theorem dX9_dataOf_59 : decode cX9_dataOf 59 = .ok (.goto 31, 3) := by decide +kernel
theorem dX9_dataOf_62 : decode cX9_dataOf 62 = .ok (.aload_n 0, 1) := by decide +kernel
theorem dX9_dataOf_63 : decode cX9_dataOf 63 = .ok (.getfield 38, 3) := by decide +kernel
theorem dX9_dataOf_66 : decode cX9_dataOf 66 = .ok (.iconst 4, 1) := by decide +kernel
theorem dX9_dataOf_67 : decode cX9_dataOf 67 = .ok (.iload_n 1, 1) := by decide +kernel
theorem dX9_dataOf_68 : decode cX9_dataOf 68 = .ok (.iadd, 1) := by decide +kernel
theorem dX9_dataOf_69 : decode cX9_dataOf 69 = .ok (.iaload, 1) := by decide +kernel
theorem dX9_dataOf_70 : decode cX9_dataOf 70 = .ok (.ifCond .le 14, 3) := by decide +kernel
theorem dX9_dataOf_73 : decode cX9_dataOf 73 = .ok (.aload_n 0, 1) := by decide +kernel
theorem dX9_dataOf_74 : decode cX9_dataOf 74 = .ok (.getfield 35, 3) := by decide +kernel
theorem dX9_dataOf_77 : decode cX9_dataOf 77 = .ok (.iconst 4, 1) := by decide +kernel
theorem dX9_dataOf_78 : decode cX9_dataOf 78 = .ok (.iload_n 1, 1) := by decide +kernel
theorem dX9_dataOf_79 : decode cX9_dataOf 79 = .ok (.iadd, 1) := by decide +kernel
theorem dX9_dataOf_80 : decode cX9_dataOf 80 = .ok (.iaload, 1) := by decide +kernel
theorem dX9_dataOf_81 : decode cX9_dataOf 81 = .ok (.goto 9, 3) := by decide +kernel
theorem dX9_dataOf_84 : decode cX9_dataOf 84 = .ok (.aload_n 0, 1) := by decide +kernel
theorem dX9_dataOf_85 : decode cX9_dataOf 85 = .ok (.getfield 35, 3) := by decide +kernel
theorem dX9_dataOf_88 : decode cX9_dataOf 88 = .ok (.iload_n 1, 1) := by decide +kernel
theorem dX9_dataOf_89 : decode cX9_dataOf 89 = .ok (.iaload, 1) := by decide +kernel
theorem dX9_dataOf_90 : decode cX9_dataOf 90 = .ok (.ireturn, 1) := by decide +kernel
theorem dX9_findFacts_0 : decode cX9_findFacts 0 = .ok (.aload_n 0, 1) := by decide +kernel
theorem dX9_findFacts_1 : decode cX9_findFacts 1 = .ok (.getfield 7, 3) := by decide +kernel
theorem dX9_findFacts_4 : decode cX9_findFacts 4 = .ok (.iconst 0, 1) := by decide +kernel
theorem dX9_findFacts_5 : decode cX9_findFacts 5 = .ok (.aload_n 0, 1) := by decide +kernel
theorem dX9_findFacts_6 : decode cX9_findFacts 6 = .ok (.getfield 50, 3) := by decide +kernel
theorem dX9_findFacts_9 : decode cX9_findFacts 9 = .ok (.iconst 0, 1) := by decide +kernel
theorem dX9_findFacts_10 : decode cX9_findFacts 10 = .ok (.invokestatic 59, 3) := by decide +kernel
theorem dX9_findFacts_13 : decode cX9_findFacts 13 = .ok (.aload_n 0, 1) := by decide +kernel
theorem dX9_findFacts_14 : decode cX9_findFacts 14 = .ok (.iload_n 1, 1) := by decide +kernel
theorem dX9_findFacts_15 : decode cX9_findFacts 15 = .ok (.invokevirtual 151, 3) := by decide +kernel
theorem dX9_findFacts_18 : decode cX9_findFacts 18 = .ok (.aload_n 0, 1) := by decide +kernel
theorem dX9_findFacts_19 : decode cX9_findFacts 19 = .ok (.getfield 50, 3) := by decide +kernel
theorem dX9_findFacts_22 : decode cX9_findFacts 22 = .ok (.iconst 0, 1) := by decide +kernel
theorem dX9_findFacts_23 : decode cX9_findFacts 23 = .ok (.aload_n 0, 1) := by decide +kernel
theorem dX9_findFacts_24 : decode cX9_findFacts 24 = .ok (.getfield 7, 3) := by decide +kernel
theorem dX9_findFacts_27 : decode cX9_findFacts 27 = .ok (.iconst 0, 1) := by decide +kernel
theorem dX9_findFacts_28 : decode cX9_findFacts 28 = .ok (.invokestatic 59, 3) := by decide +kernel
theorem dX9_findFacts_31 : decode cX9_findFacts 31 = .ok (.iconst 0, 1) := by decide +kernel
theorem dX9_findFacts_32 : decode cX9_findFacts 32 = .ok (.istore_n 2, 1) := by decide +kernel
theorem dX9_findFacts_33 : decode cX9_findFacts 33 = .ok (.iload_n 2, 1) := by decide +kernel
theorem dX9_findFacts_34 : decode cX9_findFacts 34 = .ok (.bipush 6, 2) := by decide +kernel
theorem dX9_findFacts_36 : decode cX9_findFacts 36 = .ok (.if_icmp .ge 36, 3) := by decide +kernel
theorem dX9_findFacts_39 : decode cX9_findFacts 39 = .ok (.aload_n 0, 1) := by decide +kernel
theorem dX9_findFacts_40 : decode cX9_findFacts 40 = .ok (.getfield 47, 3) := by decide +kernel
theorem dX9_findFacts_43 : decode cX9_findFacts 43 = .ok (.iload_n 2, 1) := by decide +kernel
theorem dX9_findFacts_44 : decode cX9_findFacts 44 = .ok (.iload_n 2, 1) := by decide +kernel
theorem dX9_findFacts_45 : decode cX9_findFacts 45 = .ok (.iconst 4, 1) := by decide +kernel
theorem dX9_findFacts_46 : decode cX9_findFacts 46 = .ok (.if_icmp .ge 11, 3) := by decide +kernel
theorem dX9_findFacts_49 : decode cX9_findFacts 49 = .ok (.aload_n 0, 1) := by decide +kernel
theorem dX9_findFacts_50 : decode cX9_findFacts 50 = .ok (.iload_n 2, 1) := by decide +kernel
theorem dX9_findFacts_51 : decode cX9_findFacts 51 = .ok (.invokevirtual 155, 3) := by decide +kernel
theorem dX9_findFacts_54 : decode cX9_findFacts 54 = .ok (.goto 11, 3) := by decide +kernel
theorem dX9_findFacts_57 : decode cX9_findFacts 57 = .ok (.aload_n 0, 1) := by decide +kernel
theorem dX9_findFacts_58 : decode cX9_findFacts 58 = .ok (.iload_n 2, 1) := by decide +kernel
theorem dX9_findFacts_59 : decode cX9_findFacts 59 = .ok (.iconst 4, 1) := by decide +kernel
theorem dX9_findFacts_60 : decode cX9_findFacts 60 = .ok (.isub, 1) := by decide +kernel
theorem dX9_findFacts_61 : decode cX9_findFacts 61 = .ok (.iload_n 1, 1) := by decide +kernel
theorem dX9_findFacts_62 : decode cX9_findFacts 62 = .ok (.invokevirtual 158, 3) := by decide +kernel
theorem dX9_findFacts_65 : decode cX9_findFacts 65 = .ok (.iastore, 1) := by decide +kernel
theorem dX9_findFacts_66 : decode cX9_findFacts 66 = .ok (.iinc 2 1, 3) := by decide +kernel
theorem dX9_findFacts_69 : decode cX9_findFacts 69 = .ok (.goto (-36), 3) := by decide +kernel
theorem dX9_findFacts_72 : decode cX9_findFacts 72 = .ok (.return_, 1) := by decide +kernel
theorem dX9_cycleOnce_0 : decode cX9_cycleOnce 0 = .ok (.aload_n 0, 1) := by decide +kernel
theorem dX9_cycleOnce_1 : decode cX9_cycleOnce 1 = .ok (.getfield 7, 3) := by decide +kernel
theorem dX9_cycleOnce_4 : decode cX9_cycleOnce 4 = .ok (.bipush 8, 2) := by decide +kernel
theorem dX9_cycleOnce_6 : decode cX9_cycleOnce 6 = .ok (.iaload, 1) := by decide +kernel
theorem dX9_cycleOnce_7 : decode cX9_cycleOnce 7 = .ok (.iconst 1, 1) := by decide +kernel
theorem dX9_cycleOnce_8 : decode cX9_cycleOnce 8 = .ok (.if_icmp .ne 27, 3) := by decide +kernel
theorem dX9_cycleOnce_11 : decode cX9_cycleOnce 11 = .ok (.aload_n 0, 1) := by decide +kernel
theorem dX9_cycleOnce_12 : decode cX9_cycleOnce 12 = .ok (.invokevirtual 145, 3) := by decide +kernel
theorem dX9_cycleOnce_15 : decode cX9_cycleOnce 15 = .ok (.aload_n 0, 1) := by decide +kernel
theorem dX9_cycleOnce_16 : decode cX9_cycleOnce 16 = .ok (.getfield 7, 3) := by decide +kernel
theorem dX9_cycleOnce_19 : decode cX9_cycleOnce 19 = .ok (.iconst 5, 1) := by decide +kernel
theorem dX9_cycleOnce_20 : decode cX9_cycleOnce 20 = .ok (.bipush (-9), 2) := by decide +kernel
theorem dX9_cycleOnce_22 : decode cX9_cycleOnce 22 = .ok (.iastore, 1) := by decide +kernel
theorem dX9_cycleOnce_23 : decode cX9_cycleOnce 23 = .ok (.aload_n 0, 1) := by decide +kernel
theorem dX9_cycleOnce_24 : decode cX9_cycleOnce 24 = .ok (.getfield 7, 3) := by decide +kernel
theorem dX9_cycleOnce_27 : decode cX9_cycleOnce 27 = .ok (.bipush 6, 2) := by decide +kernel
theorem dX9_cycleOnce_29 : decode cX9_cycleOnce 29 = .ok (.bipush (-9), 2) := by decide +kernel
theorem dX9_cycleOnce_31 : decode cX9_cycleOnce 31 = .ok (.iastore, 1) := by decide +kernel
theorem dX9_cycleOnce_32 : decode cX9_cycleOnce 32 = .ok (.goto 51, 3) := by decide +kernel
theorem dX9_cycleOnce_35 : decode cX9_cycleOnce 35 = .ok (.aload_n 0, 1) := by decide +kernel
theorem dX9_cycleOnce_36 : decode cX9_cycleOnce 36 = .ok (.aload_n 0, 1) := by decide +kernel
theorem dX9_cycleOnce_37 : decode cX9_cycleOnce 37 = .ok (.getfield 7, 3) := by decide +kernel
theorem dX9_cycleOnce_40 : decode cX9_cycleOnce 40 = .ok (.bipush 16, 2) := by decide +kernel
theorem dX9_cycleOnce_42 : decode cX9_cycleOnce 42 = .ok (.iaload, 1) := by decide +kernel
theorem dX9_cycleOnce_43 : decode cX9_cycleOnce 43 = .ok (.invokevirtual 151, 3) := by decide +kernel
theorem dX9_cycleOnce_46 : decode cX9_cycleOnce 46 = .ok (.aload_n 0, 1) := by decide +kernel
theorem dX9_cycleOnce_47 : decode cX9_cycleOnce 47 = .ok (.getfield 7, 3) := by decide +kernel
theorem dX9_cycleOnce_50 : decode cX9_cycleOnce 50 = .ok (.iconst 5, 1) := by decide +kernel
theorem dX9_cycleOnce_51 : decode cX9_cycleOnce 51 = .ok (.aload_n 0, 1) := by decide +kernel
theorem dX9_cycleOnce_52 : decode cX9_cycleOnce 52 = .ok (.iconst 0, 1) := by decide +kernel
theorem dX9_cycleOnce_53 : decode cX9_cycleOnce 53 = .ok (.aload_n 0, 1) := by decide +kernel
theorem dX9_cycleOnce_54 : decode cX9_cycleOnce 54 = .ok (.getfield 7, 3) := by decide +kernel
theorem dX9_cycleOnce_57 : decode cX9_cycleOnce 57 = .ok (.bipush 16, 2) := by decide +kernel
theorem dX9_cycleOnce_59 : decode cX9_cycleOnce 59 = .ok (.iaload, 1) := by decide +kernel
theorem dX9_cycleOnce_60 : decode cX9_cycleOnce 60 = .ok (.invokevirtual 158, 3) := by decide +kernel
theorem dX9_cycleOnce_63 : decode cX9_cycleOnce 63 = .ok (.iastore, 1) := by decide +kernel
theorem dX9_cycleOnce_64 : decode cX9_cycleOnce 64 = .ok (.aload_n 0, 1) := by decide +kernel
theorem dX9_cycleOnce_65 : decode cX9_cycleOnce 65 = .ok (.getfield 7, 3) := by decide +kernel
theorem dX9_cycleOnce_68 : decode cX9_cycleOnce 68 = .ok (.bipush 6, 2) := by decide +kernel
theorem dX9_cycleOnce_70 : decode cX9_cycleOnce 70 = .ok (.aload_n 0, 1) := by decide +kernel
theorem dX9_cycleOnce_71 : decode cX9_cycleOnce 71 = .ok (.iconst 1, 1) := by decide +kernel
theorem dX9_cycleOnce_72 : decode cX9_cycleOnce 72 = .ok (.aload_n 0, 1) := by decide +kernel
theorem dX9_cycleOnce_73 : decode cX9_cycleOnce 73 = .ok (.getfield 7, 3) := by decide +kernel
theorem dX9_cycleOnce_76 : decode cX9_cycleOnce 76 = .ok (.bipush 16, 2) := by decide +kernel
theorem dX9_cycleOnce_78 : decode cX9_cycleOnce 78 = .ok (.iaload, 1) := by decide +kernel
theorem dX9_cycleOnce_79 : decode cX9_cycleOnce 79 = .ok (.invokevirtual 158, 3) := by decide +kernel
theorem dX9_cycleOnce_82 : decode cX9_cycleOnce 82 = .ok (.iastore, 1) := by decide +kernel
theorem dX9_cycleOnce_83 : decode cX9_cycleOnce 83 = .ok (.iconst 0, 1) := by decide +kernel
theorem dX9_cycleOnce_84 : decode cX9_cycleOnce 84 = .ok (.istore_n 1, 1) := by decide +kernel
theorem dX9_cycleOnce_85 : decode cX9_cycleOnce 85 = .ok (.iload_n 1, 1) := by decide +kernel
theorem dX9_cycleOnce_86 : decode cX9_cycleOnce 86 = .ok (.aload_n 0, 1) := by decide +kernel
theorem dX9_cycleOnce_87 : decode cX9_cycleOnce 87 = .ok (.getfield 7, 3) := by decide +kernel
theorem dX9_cycleOnce_90 : decode cX9_cycleOnce 90 = .ok (.iconst 3, 1) := by decide +kernel
theorem dX9_cycleOnce_91 : decode cX9_cycleOnce 91 = .ok (.iaload, 1) := by decide +kernel
theorem dX9_cycleOnce_92 : decode cX9_cycleOnce 92 = .ok (.if_icmp .ge 43, 3) := by decide +kernel
theorem dX9_cycleOnce_95 : decode cX9_cycleOnce 95 = .ok (.aload_n 0, 1) := by decide +kernel
theorem dX9_cycleOnce_96 : decode cX9_cycleOnce 96 = .ok (.getfield 7, 3) := by decide +kernel
theorem dX9_cycleOnce_99 : decode cX9_cycleOnce 99 = .ok (.bipush 91, 2) := by decide +kernel
theorem dX9_cycleOnce_101 : decode cX9_cycleOnce 101 = .ok (.iconst 2, 1) := by decide +kernel
theorem dX9_cycleOnce_102 : decode cX9_cycleOnce 102 = .ok (.iload_n 1, 1) := by decide +kernel
theorem dX9_cycleOnce_103 : decode cX9_cycleOnce 103 = .ok (.imul, 1) := by decide +kernel
theorem dX9_cycleOnce_104 : decode cX9_cycleOnce 104 = .ok (.iadd, 1) := by decide +kernel
theorem dX9_cycleOnce_105 : decode cX9_cycleOnce 105 = .ok (.aload_n 0, 1) := by decide +kernel
theorem dX9_cycleOnce_106 : decode cX9_cycleOnce 106 = .ok (.iload_n 1, 1) := by decide +kernel
theorem dX9_cycleOnce_107 : decode cX9_cycleOnce 107 = .ok (.invokevirtual 155, 3) := by decide +kernel
theorem dX9_cycleOnce_110 : decode cX9_cycleOnce 110 = .ok (.iastore, 1) := by decide +kernel
theorem dX9_cycleOnce_111 : decode cX9_cycleOnce 111 = .ok (.aload_n 0, 1) := by decide +kernel
theorem dX9_cycleOnce_112 : decode cX9_cycleOnce 112 = .ok (.getfield 7, 3) := by decide +kernel
theorem dX9_cycleOnce_115 : decode cX9_cycleOnce 115 = .ok (.bipush 91, 2) := by decide +kernel
theorem dX9_cycleOnce_117 : decode cX9_cycleOnce 117 = .ok (.iconst 2, 1) := by decide +kernel
theorem dX9_cycleOnce_118 : decode cX9_cycleOnce 118 = .ok (.iload_n 1, 1) := by decide +kernel
theorem dX9_cycleOnce_119 : decode cX9_cycleOnce 119 = .ok (.imul, 1) := by decide +kernel
theorem dX9_cycleOnce_120 : decode cX9_cycleOnce 120 = .ok (.iadd, 1) := by decide +kernel
theorem dX9_cycleOnce_121 : decode cX9_cycleOnce 121 = .ok (.iconst 1, 1) := by decide +kernel
theorem dX9_cycleOnce_122 : decode cX9_cycleOnce 122 = .ok (.iadd, 1) := by decide +kernel
theorem dX9_cycleOnce_123 : decode cX9_cycleOnce 123 = .ok (.aload_n 0, 1) := by decide +kernel
theorem dX9_cycleOnce_124 : decode cX9_cycleOnce 124 = .ok (.iload_n 1, 1) := by decide +kernel
theorem dX9_cycleOnce_125 : decode cX9_cycleOnce 125 = .ok (.invokevirtual 161, 3) := by decide +kernel
theorem dX9_cycleOnce_128 : decode cX9_cycleOnce 128 = .ok (.iastore, 1) := by decide +kernel
theorem dX9_cycleOnce_129 : decode cX9_cycleOnce 129 = .ok (.iinc 1 1, 3) := by decide +kernel
theorem dX9_cycleOnce_132 : decode cX9_cycleOnce 132 = .ok (.goto (-47), 3) := by decide +kernel
theorem dX9_cycleOnce_135 : decode cX9_cycleOnce 135 = .ok (.aload_n 0, 1) := by decide +kernel
theorem dX9_cycleOnce_136 : decode cX9_cycleOnce 136 = .ok (.getfield 7, 3) := by decide +kernel
theorem dX9_cycleOnce_139 : decode cX9_cycleOnce 139 = .ok (.iconst 4, 1) := by decide +kernel
theorem dX9_cycleOnce_140 : decode cX9_cycleOnce 140 = .ok (.iconst 1, 1) := by decide +kernel
theorem dX9_cycleOnce_141 : decode cX9_cycleOnce 141 = .ok (.iastore, 1) := by decide +kernel
theorem dX9_cycleOnce_142 : decode cX9_cycleOnce 142 = .ok (.aload_n 0, 1) := by decide +kernel
theorem dX9_cycleOnce_143 : decode cX9_cycleOnce 143 = .ok (.getfield 7, 3) := by decide +kernel
theorem dX9_cycleOnce_146 : decode cX9_cycleOnce 146 = .ok (.bipush 8, 2) := by decide +kernel
theorem dX9_cycleOnce_148 : decode cX9_cycleOnce 148 = .ok (.iconst 0, 1) := by decide +kernel
theorem dX9_cycleOnce_149 : decode cX9_cycleOnce 149 = .ok (.iastore, 1) := by decide +kernel
theorem dX9_cycleOnce_150 : decode cX9_cycleOnce 150 = .ok (.aload_n 0, 1) := by decide +kernel
theorem dX9_cycleOnce_151 : decode cX9_cycleOnce 151 = .ok (.getfield 7, 3) := by decide +kernel
theorem dX9_cycleOnce_154 : decode cX9_cycleOnce 154 = .ok (.bipush 7, 2) := by decide +kernel
theorem dX9_cycleOnce_156 : decode cX9_cycleOnce 156 = .ok (.dup2, 1) := by decide +kernel
theorem dX9_cycleOnce_157 : decode cX9_cycleOnce 157 = .ok (.iaload, 1) := by decide +kernel
theorem dX9_cycleOnce_158 : decode cX9_cycleOnce 158 = .ok (.iconst 1, 1) := by decide +kernel
theorem dX9_cycleOnce_159 : decode cX9_cycleOnce 159 = .ok (.iadd, 1) := by decide +kernel
theorem dX9_cycleOnce_160 : decode cX9_cycleOnce 160 = .ok (.iastore, 1) := by decide +kernel
theorem dX9_cycleOnce_161 : decode cX9_cycleOnce 161 = .ok (.iconst 0, 1) := by decide +kernel
theorem dX9_cycleOnce_162 : decode cX9_cycleOnce 162 = .ok (.istore_n 1, 1) := by decide +kernel
theorem dX9_cycleOnce_163 : decode cX9_cycleOnce 163 = .ok (.iload_n 1, 1) := by decide +kernel
theorem dX9_cycleOnce_164 : decode cX9_cycleOnce 164 = .ok (.aload_n 0, 1) := by decide +kernel
theorem dX9_cycleOnce_165 : decode cX9_cycleOnce 165 = .ok (.getfield 7, 3) := by decide +kernel
theorem dX9_cycleOnce_168 : decode cX9_cycleOnce 168 = .ok (.iconst 0, 1) := by decide +kernel
theorem dX9_cycleOnce_169 : decode cX9_cycleOnce 169 = .ok (.iaload, 1) := by decide +kernel
theorem dX9_cycleOnce_170 : decode cX9_cycleOnce 170 = .ok (.if_icmp .ge 111, 3) := by decide +kernel
theorem dX9_cycleOnce_173 : decode cX9_cycleOnce 173 = .ok (.bipush 17, 2) := by decide +kernel
theorem dX9_cycleOnce_175 : decode cX9_cycleOnce 175 = .ok (.bipush 9, 2) := by decide +kernel
theorem dX9_cycleOnce_177 : decode cX9_cycleOnce 177 = .ok (.iload_n 1, 1) := by decide +kernel
theorem dX9_cycleOnce_178 : decode cX9_cycleOnce 178 = .ok (.imul, 1) := by decide +kernel
theorem dX9_cycleOnce_179 : decode cX9_cycleOnce 179 = .ok (.iadd, 1) := by decide +kernel
theorem dX9_cycleOnce_180 : decode cX9_cycleOnce 180 = .ok (.istore_n 2, 1) := by decide +kernel
theorem dX9_cycleOnce_181 : decode cX9_cycleOnce 181 = .ok (.aload_n 0, 1) := by decide +kernel
theorem dX9_cycleOnce_182 : decode cX9_cycleOnce 182 = .ok (.getfield 7, 3) := by decide +kernel
theorem dX9_cycleOnce_185 : decode cX9_cycleOnce 185 = .ok (.iload_n 2, 1) := by decide +kernel
theorem dX9_cycleOnce_186 : decode cX9_cycleOnce 186 = .ok (.iconst 5, 1) := by decide +kernel
theorem dX9_cycleOnce_187 : decode cX9_cycleOnce 187 = .ok (.iadd, 1) := by decide +kernel
theorem dX9_cycleOnce_188 : decode cX9_cycleOnce 188 = .ok (.aload_n 0, 1) := by decide +kernel
theorem dX9_cycleOnce_189 : decode cX9_cycleOnce 189 = .ok (.getfield 44, 3) := by decide +kernel
theorem dX9_cycleOnce_192 : decode cX9_cycleOnce 192 = .ok (.iload_n 1, 1) := by decide +kernel
theorem dX9_cycleOnce_193 : decode cX9_cycleOnce 193 = .ok (.baload, 1) := by decide +kernel
theorem dX9_cycleOnce_194 : decode cX9_cycleOnce 194 = .ok (.ifCond .eq 7, 3) := by decide +kernel
theorem dX9_cycleOnce_197 : decode cX9_cycleOnce 197 = .ok (.iconst 0, 1) := by decide +kernel
theorem dX9_cycleOnce_198 : decode cX9_cycleOnce 198 = .ok (.goto 13, 3) := by decide +kernel
theorem dX9_cycleOnce_201 : decode cX9_cycleOnce 201 = .ok (.aload_n 0, 1) := by decide +kernel
theorem dX9_cycleOnce_202 : decode cX9_cycleOnce 202 = .ok (.getfield 7, 3) := by decide +kernel
theorem dX9_cycleOnce_205 : decode cX9_cycleOnce 205 = .ok (.iload_n 2, 1) := by decide +kernel
theorem dX9_cycleOnce_206 : decode cX9_cycleOnce 206 = .ok (.iconst 5, 1) := by decide +kernel
theorem dX9_cycleOnce_207 : decode cX9_cycleOnce 207 = .ok (.iadd, 1) := by decide +kernel
theorem dX9_cycleOnce_208 : decode cX9_cycleOnce 208 = .ok (.iaload, 1) := by decide +kernel
theorem dX9_cycleOnce_209 : decode cX9_cycleOnce 209 = .ok (.iconst 1, 1) := by decide +kernel
theorem dX9_cycleOnce_210 : decode cX9_cycleOnce 210 = .ok (.iadd, 1) := by decide +kernel
theorem dX9_cycleOnce_211 : decode cX9_cycleOnce 211 = .ok (.iastore, 1) := by decide +kernel
theorem dX9_cycleOnce_212 : decode cX9_cycleOnce 212 = .ok (.aload_n 0, 1) := by decide +kernel
theorem dX9_cycleOnce_213 : decode cX9_cycleOnce 213 = .ok (.getfield 7, 3) := by decide +kernel
theorem dX9_cycleOnce_216 : decode cX9_cycleOnce 216 = .ok (.iload_n 2, 1) := by decide +kernel
theorem dX9_cycleOnce_217 : decode cX9_cycleOnce 217 = .ok (.iconst 5, 1) := by decide +kernel
theorem dX9_cycleOnce_218 : decode cX9_cycleOnce 218 = .ok (.iadd, 1) := by decide +kernel
theorem dX9_cycleOnce_219 : decode cX9_cycleOnce 219 = .ok (.iaload, 1) := by decide +kernel
theorem dX9_cycleOnce_220 : decode cX9_cycleOnce 220 = .ok (.aload_n 0, 1) := by decide +kernel
theorem dX9_cycleOnce_221 : decode cX9_cycleOnce 221 = .ok (.getfield 7, 3) := by decide +kernel
theorem dX9_cycleOnce_224 : decode cX9_cycleOnce 224 = .ok (.iconst 2, 1) := by decide +kernel
theorem dX9_cycleOnce_225 : decode cX9_cycleOnce 225 = .ok (.iaload, 1) := by decide +kernel
theorem dX9_cycleOnce_226 : decode cX9_cycleOnce 226 = .ok (.if_icmp .lt 49, 3) := by decide +kernel
theorem dX9_cycleOnce_229 : decode cX9_cycleOnce 229 = .ok (.aload_n 0, 1) := by decide +kernel
theorem dX9_cycleOnce_230 : decode cX9_cycleOnce 230 = .ok (.getfield 7, 3) := by decide +kernel
theorem dX9_cycleOnce_233 : decode cX9_cycleOnce 233 = .ok (.iload_n 2, 1) := by decide +kernel
theorem dX9_cycleOnce_234 : decode cX9_cycleOnce 234 = .ok (.bipush 6, 2) := by decide +kernel
theorem dX9_cycleOnce_236 : decode cX9_cycleOnce 236 = .ok (.iadd, 1) := by decide +kernel
theorem dX9_cycleOnce_237 : decode cX9_cycleOnce 237 = .ok (.iaload, 1) := by decide +kernel
theorem dX9_cycleOnce_238 : decode cX9_cycleOnce 238 = .ok (.ifCond .ne 37, 3) := by decide +kernel
theorem dX9_cycleOnce_241 : decode cX9_cycleOnce 241 = .ok (.aload_n 0, 1) := by decide +kernel
theorem dX9_cycleOnce_242 : decode cX9_cycleOnce 242 = .ok (.getfield 7, 3) := by decide +kernel
theorem dX9_cycleOnce_245 : decode cX9_cycleOnce 245 = .ok (.iload_n 2, 1) := by decide +kernel
theorem dX9_cycleOnce_246 : decode cX9_cycleOnce 246 = .ok (.bipush 6, 2) := by decide +kernel
theorem dX9_cycleOnce_248 : decode cX9_cycleOnce 248 = .ok (.iadd, 1) := by decide +kernel
theorem dX9_cycleOnce_249 : decode cX9_cycleOnce 249 = .ok (.iconst 1, 1) := by decide +kernel
theorem dX9_cycleOnce_250 : decode cX9_cycleOnce 250 = .ok (.iastore, 1) := by decide +kernel
theorem dX9_cycleOnce_251 : decode cX9_cycleOnce 251 = .ok (.iconst 0, 1) := by decide +kernel
theorem dX9_cycleOnce_252 : decode cX9_cycleOnce 252 = .ok (.istore_n 3, 1) := by decide +kernel
theorem dX9_cycleOnce_253 : decode cX9_cycleOnce 253 = .ok (.iload_n 3, 1) := by decide +kernel
theorem dX9_cycleOnce_254 : decode cX9_cycleOnce 254 = .ok (.iconst 4, 1) := by decide +kernel
theorem dX9_cycleOnce_255 : decode cX9_cycleOnce 255 = .ok (.if_icmp .ge 20, 3) := by decide +kernel
theorem dX9_cycleOnce_258 : decode cX9_cycleOnce 258 = .ok (.aload_n 0, 1) := by decide +kernel
theorem dX9_cycleOnce_259 : decode cX9_cycleOnce 259 = .ok (.getfield 7, 3) := by decide +kernel
theorem dX9_cycleOnce_262 : decode cX9_cycleOnce 262 = .ok (.iload_n 2, 1) := by decide +kernel
theorem dX9_cycleOnce_263 : decode cX9_cycleOnce 263 = .ok (.iconst 1, 1) := by decide +kernel
theorem dX9_cycleOnce_264 : decode cX9_cycleOnce 264 = .ok (.iadd, 1) := by decide +kernel
theorem dX9_cycleOnce_265 : decode cX9_cycleOnce 265 = .ok (.iload_n 3, 1) := by decide +kernel
theorem dX9_cycleOnce_266 : decode cX9_cycleOnce 266 = .ok (.iadd, 1) := by decide +kernel
theorem dX9_cycleOnce_267 : decode cX9_cycleOnce 267 = .ok (.iconst 0, 1) := by decide +kernel
theorem dX9_cycleOnce_268 : decode cX9_cycleOnce 268 = .ok (.iastore, 1) := by decide +kernel
theorem dX9_cycleOnce_269 : decode cX9_cycleOnce 269 = .ok (.iinc 3 1, 3) := by decide +kernel
theorem dX9_cycleOnce_272 : decode cX9_cycleOnce 272 = .ok (.goto (-19), 3) := by decide +kernel
theorem dX9_cycleOnce_275 : decode cX9_cycleOnce 275 = .ok (.iinc 1 1, 3) := by decide +kernel
theorem dX9_cycleOnce_278 : decode cX9_cycleOnce 278 = .ok (.goto (-115), 3) := by decide +kernel
theorem dX9_cycleOnce_281 : decode cX9_cycleOnce 281 = .ok (.return_, 1) := by decide +kernel
theorem dX9_note_0 : decode cX9_note 0 = .ok (.aload_n 0, 1) := by decide +kernel
theorem dX9_note_1 : decode cX9_note 1 = .ok (.getfield 164, 3) := by decide +kernel
theorem dX9_note_4 : decode cX9_note 4 = .ok (.bipush 6, 2) := by decide +kernel
theorem dX9_note_6 : decode cX9_note 6 = .ok (.if_icmp .ne 43, 3) := by decide +kernel
theorem dX9_note_9 : decode cX9_note 9 = .ok (.iconst 0, 1) := by decide +kernel
theorem dX9_note_10 : decode cX9_note 10 = .ok (.istore_n 1, 1) := by decide +kernel
theorem dX9_note_11 : decode cX9_note 11 = .ok (.iload_n 1, 1) := by decide +kernel
theorem dX9_note_12 : decode cX9_note 12 = .ok (.sipush 495, 3) := by decide +kernel
theorem dX9_note_15 : decode cX9_note 15 = .ok (.if_icmp .ge 24, 3) := by decide +kernel
theorem dX9_note_18 : decode cX9_note 18 = .ok (.aload_n 0, 1) := by decide +kernel
theorem dX9_note_19 : decode cX9_note 19 = .ok (.getfield 16, 3) := by decide +kernel
theorem dX9_note_22 : decode cX9_note 22 = .ok (.iload_n 1, 1) := by decide +kernel
theorem dX9_note_23 : decode cX9_note 23 = .ok (.aload_n 0, 1) := by decide +kernel
theorem dX9_note_24 : decode cX9_note 24 = .ok (.getfield 16, 3) := by decide +kernel
theorem dX9_note_27 : decode cX9_note 27 = .ok (.iload_n 1, 1) := by decide +kernel
theorem dX9_note_28 : decode cX9_note 28 = .ok (.bipush 99, 2) := by decide +kernel
theorem dX9_note_30 : decode cX9_note 30 = .ok (.iadd, 1) := by decide +kernel
theorem dX9_note_31 : decode cX9_note 31 = .ok (.iaload, 1) := by decide +kernel
theorem dX9_note_32 : decode cX9_note 32 = .ok (.iastore, 1) := by decide +kernel
theorem dX9_note_33 : decode cX9_note 33 = .ok (.iinc 1 1, 3) := by decide +kernel
theorem dX9_note_36 : decode cX9_note 36 = .ok (.goto (-25), 3) := by decide +kernel
theorem dX9_note_39 : decode cX9_note 39 = .ok (.aload_n 0, 1) := by decide +kernel
theorem dX9_note_40 : decode cX9_note 40 = .ok (.dup, 1) := by decide +kernel
theorem dX9_note_41 : decode cX9_note 41 = .ok (.getfield 164, 3) := by decide +kernel
theorem dX9_note_44 : decode cX9_note 44 = .ok (.iconst 1, 1) := by decide +kernel
theorem dX9_note_45 : decode cX9_note 45 = .ok (.isub, 1) := by decide +kernel
theorem dX9_note_46 : decode cX9_note 46 = .ok (.putfield 164, 3) := by decide +kernel
theorem dX9_note_49 : decode cX9_note 49 = .ok (.aload_n 0, 1) := by decide +kernel
theorem dX9_note_50 : decode cX9_note 50 = .ok (.getfield 7, 3) := by decide +kernel
theorem dX9_note_53 : decode cX9_note 53 = .ok (.iconst 0, 1) := by decide +kernel
theorem dX9_note_54 : decode cX9_note 54 = .ok (.aload_n 0, 1) := by decide +kernel
theorem dX9_note_55 : decode cX9_note 55 = .ok (.getfield 16, 3) := by decide +kernel
theorem dX9_note_58 : decode cX9_note 58 = .ok (.bipush 99, 2) := by decide +kernel
theorem dX9_note_60 : decode cX9_note 60 = .ok (.aload_n 0, 1) := by decide +kernel
theorem dX9_note_61 : decode cX9_note 61 = .ok (.getfield 164, 3) := by decide +kernel
theorem dX9_note_64 : decode cX9_note 64 = .ok (.imul, 1) := by decide +kernel
theorem dX9_note_65 : decode cX9_note 65 = .ok (.invokestatic 59, 3) := by decide +kernel
theorem dX9_note_68 : decode cX9_note 68 = .ok (.aload_n 0, 1) := by decide +kernel
theorem dX9_note_69 : decode cX9_note 69 = .ok (.dup, 1) := by decide +kernel
theorem dX9_note_70 : decode cX9_note 70 = .ok (.getfield 164, 3) := by decide +kernel
theorem dX9_note_73 : decode cX9_note 73 = .ok (.iconst 1, 1) := by decide +kernel
theorem dX9_note_74 : decode cX9_note 74 = .ok (.iadd, 1) := by decide +kernel
theorem dX9_note_75 : decode cX9_note 75 = .ok (.putfield 164, 3) := by decide +kernel
theorem dX9_note_78 : decode cX9_note 78 = .ok (.return_, 1) := by decide +kernel
theorem dX9_undo_0 : decode cX9_undo 0 = .ok (.aload_n 0, 1) := by decide +kernel
theorem dX9_undo_1 : decode cX9_undo 1 = .ok (.getfield 164, 3) := by decide +kernel
theorem dX9_undo_4 : decode cX9_undo 4 = .ok (.ifCond .ne 6, 3) := by decide +kernel
theorem dX9_undo_7 : decode cX9_undo 7 = .ok (.bipush (-2), 2) := by decide +kernel
theorem dX9_undo_9 : decode cX9_undo 9 = .ok (.ireturn, 1) := by decide +kernel
theorem dX9_undo_10 : decode cX9_undo 10 = .ok (.aload_n 0, 1) := by decide +kernel
theorem dX9_undo_11 : decode cX9_undo 11 = .ok (.dup, 1) := by decide +kernel
theorem dX9_undo_12 : decode cX9_undo 12 = .ok (.getfield 164, 3) := by decide +kernel
theorem dX9_undo_15 : decode cX9_undo 15 = .ok (.iconst 1, 1) := by decide +kernel
theorem dX9_undo_16 : decode cX9_undo 16 = .ok (.isub, 1) := by decide +kernel
theorem dX9_undo_17 : decode cX9_undo 17 = .ok (.putfield 164, 3) := by decide +kernel
theorem dX9_undo_20 : decode cX9_undo 20 = .ok (.aload_n 0, 1) := by decide +kernel
theorem dX9_undo_21 : decode cX9_undo 21 = .ok (.getfield 16, 3) := by decide +kernel
theorem dX9_undo_24 : decode cX9_undo 24 = .ok (.bipush 99, 2) := by decide +kernel
theorem dX9_undo_26 : decode cX9_undo 26 = .ok (.aload_n 0, 1) := by decide +kernel
theorem dX9_undo_27 : decode cX9_undo 27 = .ok (.getfield 164, 3) := by decide +kernel
theorem dX9_undo_30 : decode cX9_undo 30 = .ok (.imul, 1) := by decide +kernel
theorem dX9_undo_31 : decode cX9_undo 31 = .ok (.aload_n 0, 1) := by decide +kernel
theorem dX9_undo_32 : decode cX9_undo 32 = .ok (.getfield 7, 3) := by decide +kernel
theorem dX9_undo_35 : decode cX9_undo 35 = .ok (.iconst 0, 1) := by decide +kernel
theorem dX9_undo_36 : decode cX9_undo 36 = .ok (.invokestatic 59, 3) := by decide +kernel
theorem dX9_undo_39 : decode cX9_undo 39 = .ok (.aload_n 0, 1) := by decide +kernel
theorem dX9_undo_40 : decode cX9_undo 40 = .ok (.getfield 164, 3) := by decide +kernel
theorem dX9_undo_43 : decode cX9_undo 43 = .ok (.ireturn, 1) := by decide +kernel
theorem dX9_ones_0 : decode cX9_ones 0 = .ok (.iconst 0, 1) := by decide +kernel
theorem dX9_ones_1 : decode cX9_ones 1 = .ok (.istore_n 1, 1) := by decide +kernel
theorem dX9_ones_2 : decode cX9_ones 2 = .ok (.iconst 0, 1) := by decide +kernel
theorem dX9_ones_3 : decode cX9_ones 3 = .ok (.istore_n 2, 1) := by decide +kernel
theorem dX9_ones_4 : decode cX9_ones 4 = .ok (.iload_n 2, 1) := by decide +kernel
theorem dX9_ones_5 : decode cX9_ones 5 = .ok (.bipush 8, 2) := by decide +kernel
theorem dX9_ones_7 : decode cX9_ones 7 = .ok (.if_icmp .ge 17, 3) := by decide +kernel
theorem dX9_ones_10 : decode cX9_ones 10 = .ok (.iload_n 1, 1) := by decide +kernel
theorem dX9_ones_11 : decode cX9_ones 11 = .ok (.iload_n 0, 1) := by decide +kernel
theorem dX9_ones_12 : decode cX9_ones 12 = .ok (.iload_n 2, 1) := by decide +kernel
theorem dX9_ones_13 : decode cX9_ones 13 = .ok (.ishr, 1) := by decide +kernel
theorem dX9_ones_14 : decode cX9_ones 14 = .ok (.iconst 1, 1) := by decide +kernel
theorem dX9_ones_15 : decode cX9_ones 15 = .ok (.iand, 1) := by decide +kernel
theorem dX9_ones_16 : decode cX9_ones 16 = .ok (.iadd, 1) := by decide +kernel
theorem dX9_ones_17 : decode cX9_ones 17 = .ok (.istore_n 1, 1) := by decide +kernel
theorem dX9_ones_18 : decode cX9_ones 18 = .ok (.iinc 2 1, 3) := by decide +kernel
theorem dX9_ones_21 : decode cX9_ones 21 = .ok (.goto (-17), 3) := by decide +kernel
theorem dX9_ones_24 : decode cX9_ones 24 = .ok (.iload_n 1, 1) := by decide +kernel
theorem dX9_ones_25 : decode cX9_ones 25 = .ok (.ireturn, 1) := by decide +kernel
theorem dX9_isLink_0 : decode cX9_isLink 0 = .ok (.iload_n 1, 1) := by decide +kernel
theorem dX9_isLink_1 : decode cX9_isLink 1 = .ok (.iconst 0, 1) := by decide +kernel
theorem dX9_isLink_2 : decode cX9_isLink 2 = .ok (.aload_n 0, 1) := by decide +kernel
theorem dX9_isLink_3 : decode cX9_isLink 3 = .ok (.invokevirtual 167, 3) := by decide +kernel
theorem dX9_isLink_6 : decode cX9_isLink 6 = .ok (.iconst 1, 1) := by decide +kernel
theorem dX9_isLink_7 : decode cX9_isLink 7 = .ok (.isub, 1) := by decide +kernel
theorem dX9_isLink_8 : decode cX9_isLink 8 = .ok (.invokestatic 76, 3) := by decide +kernel
theorem dX9_isLink_11 : decode cX9_isLink 11 = .ok (.ireturn, 1) := by decide +kernel
theorem dX9_isDrive_0 : decode cX9_isDrive 0 = .ok (.iload_n 1, 1) := by decide +kernel
theorem dX9_isDrive_1 : decode cX9_isDrive 1 = .ok (.iconst 0, 1) := by decide +kernel
theorem dX9_isDrive_2 : decode cX9_isDrive 2 = .ok (.aload_n 0, 1) := by decide +kernel
theorem dX9_isDrive_3 : decode cX9_isDrive 3 = .ok (.getfield 7, 3) := by decide +kernel
theorem dX9_isDrive_6 : decode cX9_isDrive 6 = .ok (.iconst 0, 1) := by decide +kernel
theorem dX9_isDrive_7 : decode cX9_isDrive 7 = .ok (.iaload, 1) := by decide +kernel
theorem dX9_isDrive_8 : decode cX9_isDrive 8 = .ok (.iconst 1, 1) := by decide +kernel
theorem dX9_isDrive_9 : decode cX9_isDrive 9 = .ok (.isub, 1) := by decide +kernel
theorem dX9_isDrive_10 : decode cX9_isDrive 10 = .ok (.invokestatic 76, 3) := by decide +kernel
theorem dX9_isDrive_13 : decode cX9_isDrive 13 = .ok (.ireturn, 1) := by decide +kernel
theorem dX9_cuts_0 : decode cX9_cuts 0 = .ok (.aload_n 0, 1) := by decide +kernel
theorem dX9_cuts_1 : decode cX9_cuts 1 = .ok (.iload_n 1, 1) := by decide +kernel
theorem dX9_cuts_2 : decode cX9_cuts 2 = .ok (.invokevirtual 170, 3) := by decide +kernel
theorem dX9_cuts_5 : decode cX9_cuts 5 = .ok (.ifCond .ne 5, 3) := by decide +kernel
theorem dX9_cuts_8 : decode cX9_cuts 8 = .ok (.iconst (-1), 1) := by decide +kernel
theorem dX9_cuts_9 : decode cX9_cuts 9 = .ok (.ireturn, 1) := by decide +kernel
theorem dX9_cuts_10 : decode cX9_cuts 10 = .ok (.aload_n 0, 1) := by decide +kernel
theorem dX9_cuts_11 : decode cX9_cuts 11 = .ok (.getfield 7, 3) := by decide +kernel
theorem dX9_cuts_14 : decode cX9_cuts 14 = .ok (.bipush 16, 2) := by decide +kernel
theorem dX9_cuts_16 : decode cX9_cuts 16 = .ok (.iaload, 1) := by decide +kernel
theorem dX9_cuts_17 : decode cX9_cuts 17 = .ok (.iload_n 1, 1) := by decide +kernel
theorem dX9_cuts_18 : decode cX9_cuts 18 = .ok (.invokestatic 124, 3) := by decide +kernel
theorem dX9_cuts_21 : decode cX9_cuts 21 = .ok (.ifCond .eq 6, 3) := by decide +kernel
theorem dX9_cuts_24 : decode cX9_cuts 24 = .ok (.bipush (-2), 2) := by decide +kernel
theorem dX9_cuts_26 : decode cX9_cuts 26 = .ok (.ireturn, 1) := by decide +kernel
theorem dX9_cuts_27 : decode cX9_cuts 27 = .ok (.aload_n 0, 1) := by decide +kernel
theorem dX9_cuts_28 : decode cX9_cuts 28 = .ok (.invokevirtual 118, 3) := by decide +kernel
theorem dX9_cuts_31 : decode cX9_cuts 31 = .ok (.aload_n 0, 1) := by decide +kernel
theorem dX9_cuts_32 : decode cX9_cuts 32 = .ok (.getfield 7, 3) := by decide +kernel
theorem dX9_cuts_35 : decode cX9_cuts 35 = .ok (.bipush 16, 2) := by decide +kernel
theorem dX9_cuts_37 : decode cX9_cuts 37 = .ok (.dup2, 1) := by decide +kernel
theorem dX9_cuts_38 : decode cX9_cuts 38 = .ok (.iaload, 1) := by decide +kernel
theorem dX9_cuts_39 : decode cX9_cuts 39 = .ok (.iconst 1, 1) := by decide +kernel
theorem dX9_cuts_40 : decode cX9_cuts 40 = .ok (.iload_n 1, 1) := by decide +kernel
theorem dX9_cuts_41 : decode cX9_cuts 41 = .ok (.ishl, 1) := by decide +kernel
theorem dX9_cuts_42 : decode cX9_cuts 42 = .ok (.ior, 1) := by decide +kernel
theorem dX9_cuts_43 : decode cX9_cuts 43 = .ok (.iastore, 1) := by decide +kernel
theorem dX9_cuts_44 : decode cX9_cuts 44 = .ok (.aload_n 0, 1) := by decide +kernel
theorem dX9_cuts_45 : decode cX9_cuts 45 = .ok (.getfield 7, 3) := by decide +kernel
theorem dX9_cuts_48 : decode cX9_cuts 48 = .ok (.bipush 8, 2) := by decide +kernel
theorem dX9_cuts_50 : decode cX9_cuts 50 = .ok (.iconst 1, 1) := by decide +kernel
theorem dX9_cuts_51 : decode cX9_cuts 51 = .ok (.iastore, 1) := by decide +kernel
theorem dX9_cuts_52 : decode cX9_cuts 52 = .ok (.aload_n 0, 1) := by decide +kernel
theorem dX9_cuts_53 : decode cX9_cuts 53 = .ok (.getfield 7, 3) := by decide +kernel
theorem dX9_cuts_56 : decode cX9_cuts 56 = .ok (.bipush 16, 2) := by decide +kernel
theorem dX9_cuts_58 : decode cX9_cuts 58 = .ok (.iaload, 1) := by decide +kernel
theorem dX9_cuts_59 : decode cX9_cuts 59 = .ok (.invokestatic 173, 3) := by decide +kernel
theorem dX9_cuts_62 : decode cX9_cuts 62 = .ok (.ireturn, 1) := by decide +kernel
theorem dX9_heals_0 : decode cX9_heals 0 = .ok (.aload_n 0, 1) := by decide +kernel
theorem dX9_heals_1 : decode cX9_heals 1 = .ok (.iload_n 1, 1) := by decide +kernel
theorem dX9_heals_2 : decode cX9_heals 2 = .ok (.invokevirtual 170, 3) := by decide +kernel
theorem dX9_heals_5 : decode cX9_heals 5 = .ok (.ifCond .ne 5, 3) := by decide +kernel
theorem dX9_heals_8 : decode cX9_heals 8 = .ok (.iconst (-1), 1) := by decide +kernel
theorem dX9_heals_9 : decode cX9_heals 9 = .ok (.ireturn, 1) := by decide +kernel
theorem dX9_heals_10 : decode cX9_heals 10 = .ok (.aload_n 0, 1) := by decide +kernel
theorem dX9_heals_11 : decode cX9_heals 11 = .ok (.getfield 7, 3) := by decide +kernel
theorem dX9_heals_14 : decode cX9_heals 14 = .ok (.bipush 16, 2) := by decide +kernel
theorem dX9_heals_16 : decode cX9_heals 16 = .ok (.iaload, 1) := by decide +kernel
theorem dX9_heals_17 : decode cX9_heals 17 = .ok (.iload_n 1, 1) := by decide +kernel
theorem dX9_heals_18 : decode cX9_heals 18 = .ok (.invokestatic 124, 3) := by decide +kernel
theorem dX9_heals_21 : decode cX9_heals 21 = .ok (.ifCond .ne 6, 3) := by decide +kernel
theorem dX9_heals_24 : decode cX9_heals 24 = .ok (.bipush (-2), 2) := by decide +kernel
theorem dX9_heals_26 : decode cX9_heals 26 = .ok (.ireturn, 1) := by decide +kernel
theorem dX9_heals_27 : decode cX9_heals 27 = .ok (.aload_n 0, 1) := by decide +kernel
theorem dX9_heals_28 : decode cX9_heals 28 = .ok (.invokevirtual 118, 3) := by decide +kernel
theorem dX9_heals_31 : decode cX9_heals 31 = .ok (.aload_n 0, 1) := by decide +kernel
theorem dX9_heals_32 : decode cX9_heals 32 = .ok (.getfield 7, 3) := by decide +kernel
theorem dX9_heals_35 : decode cX9_heals 35 = .ok (.bipush 16, 2) := by decide +kernel
theorem dX9_heals_37 : decode cX9_heals 37 = .ok (.dup2, 1) := by decide +kernel
theorem dX9_heals_38 : decode cX9_heals 38 = .ok (.iaload, 1) := by decide +kernel
theorem dX9_heals_39 : decode cX9_heals 39 = .ok (.iconst 1, 1) := by decide +kernel
theorem dX9_heals_40 : decode cX9_heals 40 = .ok (.iload_n 1, 1) := by decide +kernel
theorem dX9_heals_41 : decode cX9_heals 41 = .ok (.ishl, 1) := by decide +kernel
theorem dX9_heals_42 : decode cX9_heals 42 = .ok (.isub, 1) := by decide +kernel
theorem dX9_heals_43 : decode cX9_heals 43 = .ok (.iastore, 1) := by decide +kernel
theorem dX9_heals_44 : decode cX9_heals 44 = .ok (.aload_n 0, 1) := by decide +kernel
theorem dX9_heals_45 : decode cX9_heals 45 = .ok (.getfield 7, 3) := by decide +kernel
theorem dX9_heals_48 : decode cX9_heals 48 = .ok (.bipush 16, 2) := by decide +kernel
theorem dX9_heals_50 : decode cX9_heals 50 = .ok (.iaload, 1) := by decide +kernel
theorem dX9_heals_51 : decode cX9_heals 51 = .ok (.invokestatic 173, 3) := by decide +kernel
theorem dX9_heals_54 : decode cX9_heals 54 = .ok (.ireturn, 1) := by decide +kernel
theorem dX9_safeMany_0 : decode cX9_safeMany 0 = .ok (.iconst 0, 1) := by decide +kernel
theorem dX9_safeMany_1 : decode cX9_safeMany 1 = .ok (.istore_n 1, 1) := by decide +kernel
theorem dX9_safeMany_2 : decode cX9_safeMany 2 = .ok (.iconst 0, 1) := by decide +kernel
theorem dX9_safeMany_3 : decode cX9_safeMany 3 = .ok (.istore_n 2, 1) := by decide +kernel
theorem dX9_safeMany_4 : decode cX9_safeMany 4 = .ok (.iload_n 2, 1) := by decide +kernel
theorem dX9_safeMany_5 : decode cX9_safeMany 5 = .ok (.aload_n 0, 1) := by decide +kernel
theorem dX9_safeMany_6 : decode cX9_safeMany 6 = .ok (.getfield 7, 3) := by decide +kernel
theorem dX9_safeMany_9 : decode cX9_safeMany 9 = .ok (.iconst 0, 1) := by decide +kernel
theorem dX9_safeMany_10 : decode cX9_safeMany 10 = .ok (.iaload, 1) := by decide +kernel
theorem dX9_safeMany_11 : decode cX9_safeMany 11 = .ok (.if_icmp .ge 27, 3) := by decide +kernel
theorem dX9_safeMany_14 : decode cX9_safeMany 14 = .ok (.iload_n 1, 1) := by decide +kernel
theorem dX9_safeMany_15 : decode cX9_safeMany 15 = .ok (.aload_n 0, 1) := by decide +kernel
theorem dX9_safeMany_16 : decode cX9_safeMany 16 = .ok (.getfield 7, 3) := by decide +kernel
theorem dX9_safeMany_19 : decode cX9_safeMany 19 = .ok (.bipush 17, 2) := by decide +kernel
theorem dX9_safeMany_21 : decode cX9_safeMany 21 = .ok (.bipush 9, 2) := by decide +kernel
theorem dX9_safeMany_23 : decode cX9_safeMany 23 = .ok (.iload_n 2, 1) := by decide +kernel
theorem dX9_safeMany_24 : decode cX9_safeMany 24 = .ok (.imul, 1) := by decide +kernel
theorem dX9_safeMany_25 : decode cX9_safeMany 25 = .ok (.iadd, 1) := by decide +kernel
theorem dX9_safeMany_26 : decode cX9_safeMany 26 = .ok (.bipush 6, 2) := by decide +kernel
theorem dX9_safeMany_28 : decode cX9_safeMany 28 = .ok (.iadd, 1) := by decide +kernel
theorem dX9_safeMany_29 : decode cX9_safeMany 29 = .ok (.iaload, 1) := by decide +kernel
theorem dX9_safeMany_30 : decode cX9_safeMany 30 = .ok (.iadd, 1) := by decide +kernel
theorem dX9_safeMany_31 : decode cX9_safeMany 31 = .ok (.istore_n 1, 1) := by decide +kernel
theorem dX9_safeMany_32 : decode cX9_safeMany 32 = .ok (.iinc 2 1, 3) := by decide +kernel
theorem dX9_safeMany_35 : decode cX9_safeMany 35 = .ok (.goto (-31), 3) := by decide +kernel
theorem dX9_safeMany_38 : decode cX9_safeMany 38 = .ok (.iload_n 1, 1) := by decide +kernel
theorem dX9_safeMany_39 : decode cX9_safeMany 39 = .ok (.ireturn, 1) := by decide +kernel
theorem dX9_cycles_0 : decode cX9_cycles 0 = .ok (.iload_n 1, 1) := by decide +kernel
theorem dX9_cycles_1 : decode cX9_cycles 1 = .ok (.iconst 1, 1) := by decide +kernel
theorem dX9_cycles_2 : decode cX9_cycles 2 = .ok (.bipush 20, 2) := by decide +kernel
theorem dX9_cycles_4 : decode cX9_cycles 4 = .ok (.invokestatic 76, 3) := by decide +kernel
theorem dX9_cycles_7 : decode cX9_cycles 7 = .ok (.ifCond .ne 5, 3) := by decide +kernel
theorem dX9_cycles_10 : decode cX9_cycles 10 = .ok (.iconst (-1), 1) := by decide +kernel
theorem dX9_cycles_11 : decode cX9_cycles 11 = .ok (.ireturn, 1) := by decide +kernel
theorem dX9_cycles_12 : decode cX9_cycles 12 = .ok (.aload_n 0, 1) := by decide +kernel
theorem dX9_cycles_13 : decode cX9_cycles 13 = .ok (.getfield 7, 3) := by decide +kernel
theorem dX9_cycles_16 : decode cX9_cycles 16 = .ok (.iconst 3, 1) := by decide +kernel
theorem dX9_cycles_17 : decode cX9_cycles 17 = .ok (.iaload, 1) := by decide +kernel
theorem dX9_cycles_18 : decode cX9_cycles 18 = .ok (.ifCond .ne 6, 3) := by decide +kernel
theorem dX9_cycles_21 : decode cX9_cycles 21 = .ok (.bipush (-2), 2) := by decide +kernel
theorem dX9_cycles_23 : decode cX9_cycles 23 = .ok (.ireturn, 1) := by decide +kernel
theorem dX9_cycles_24 : decode cX9_cycles 24 = .ok (.aload_n 0, 1) := by decide +kernel
theorem dX9_cycles_25 : decode cX9_cycles 25 = .ok (.invokevirtual 118, 3) := by decide +kernel
theorem dX9_cycles_28 : decode cX9_cycles 28 = .ok (.iconst 0, 1) := by decide +kernel
theorem dX9_cycles_29 : decode cX9_cycles 29 = .ok (.istore_n 2, 1) := by decide +kernel
theorem dX9_cycles_30 : decode cX9_cycles 30 = .ok (.iload_n 2, 1) := by decide +kernel
theorem dX9_cycles_31 : decode cX9_cycles 31 = .ok (.iload_n 1, 1) := by decide +kernel
theorem dX9_cycles_32 : decode cX9_cycles 32 = .ok (.if_icmp .ge 13, 3) := by decide +kernel
theorem dX9_cycles_35 : decode cX9_cycles 35 = .ok (.aload_n 0, 1) := by decide +kernel
theorem dX9_cycles_36 : decode cX9_cycles 36 = .ok (.invokevirtual 176, 3) := by decide +kernel
theorem dX9_cycles_39 : decode cX9_cycles 39 = .ok (.iinc 2 1, 3) := by decide +kernel
theorem dX9_cycles_42 : decode cX9_cycles 42 = .ok (.goto (-12), 3) := by decide +kernel
theorem dX9_cycles_45 : decode cX9_cycles 45 = .ok (.aload_n 0, 1) := by decide +kernel
theorem dX9_cycles_46 : decode cX9_cycles 46 = .ok (.invokevirtual 179, 3) := by decide +kernel
theorem dX9_cycles_49 : decode cX9_cycles 49 = .ok (.ireturn, 1) := by decide +kernel
theorem dX9_resets_0 : decode cX9_resets 0 = .ok (.aload_n 0, 1) := by decide +kernel
theorem dX9_resets_1 : decode cX9_resets 1 = .ok (.iload_n 1, 1) := by decide +kernel
theorem dX9_resets_2 : decode cX9_resets 2 = .ok (.invokevirtual 182, 3) := by decide +kernel
theorem dX9_resets_5 : decode cX9_resets 5 = .ok (.ifCond .ne 5, 3) := by decide +kernel
theorem dX9_resets_8 : decode cX9_resets 8 = .ok (.iconst (-1), 1) := by decide +kernel
theorem dX9_resets_9 : decode cX9_resets 9 = .ok (.ireturn, 1) := by decide +kernel
theorem dX9_resets_10 : decode cX9_resets 10 = .ok (.bipush 17, 2) := by decide +kernel
theorem dX9_resets_12 : decode cX9_resets 12 = .ok (.bipush 9, 2) := by decide +kernel
theorem dX9_resets_14 : decode cX9_resets 14 = .ok (.iload_n 1, 1) := by decide +kernel
theorem dX9_resets_15 : decode cX9_resets 15 = .ok (.imul, 1) := by decide +kernel
theorem dX9_resets_16 : decode cX9_resets 16 = .ok (.iadd, 1) := by decide +kernel
theorem dX9_resets_17 : decode cX9_resets 17 = .ok (.istore_n 2, 1) := by decide +kernel
theorem dX9_resets_18 : decode cX9_resets 18 = .ok (.aload_n 0, 1) := by decide +kernel
theorem dX9_resets_19 : decode cX9_resets 19 = .ok (.getfield 7, 3) := by decide +kernel
theorem dX9_resets_22 : decode cX9_resets 22 = .ok (.iload_n 2, 1) := by decide +kernel
theorem dX9_resets_23 : decode cX9_resets 23 = .ok (.iconst 5, 1) := by decide +kernel
theorem dX9_resets_24 : decode cX9_resets 24 = .ok (.iadd, 1) := by decide +kernel
theorem dX9_resets_25 : decode cX9_resets 25 = .ok (.iaload, 1) := by decide +kernel
theorem dX9_resets_26 : decode cX9_resets 26 = .ok (.istore_n 3, 1) := by decide +kernel
theorem dX9_resets_27 : decode cX9_resets 27 = .ok (.aload_n 0, 1) := by decide +kernel
theorem dX9_resets_28 : decode cX9_resets 28 = .ok (.getfield 7, 3) := by decide +kernel
theorem dX9_resets_31 : decode cX9_resets 31 = .ok (.iload_n 2, 1) := by decide +kernel
theorem dX9_resets_32 : decode cX9_resets 32 = .ok (.bipush 6, 2) := by decide +kernel
theorem dX9_resets_34 : decode cX9_resets 34 = .ok (.iadd, 1) := by decide +kernel
theorem dX9_resets_35 : decode cX9_resets 35 = .ok (.iaload, 1) := by decide +kernel
theorem dX9_resets_36 : decode cX9_resets 36 = .ok (.ifCond .ne 10, 3) := by decide +kernel
theorem dX9_resets_39 : decode cX9_resets 39 = .ok (.iload_n 3, 1) := by decide +kernel
theorem dX9_resets_40 : decode cX9_resets 40 = .ok (.ifCond .ne 6, 3) := by decide +kernel
theorem dX9_resets_43 : decode cX9_resets 43 = .ok (.bipush (-2), 2) := by decide +kernel
theorem dX9_resets_45 : decode cX9_resets 45 = .ok (.ireturn, 1) := by decide +kernel
theorem dX9_resets_46 : decode cX9_resets 46 = .ok (.aload_n 0, 1) := by decide +kernel
theorem dX9_resets_47 : decode cX9_resets 47 = .ok (.invokevirtual 118, 3) := by decide +kernel
theorem dX9_resets_50 : decode cX9_resets 50 = .ok (.aload_n 0, 1) := by decide +kernel
theorem dX9_resets_51 : decode cX9_resets 51 = .ok (.getfield 7, 3) := by decide +kernel
theorem dX9_resets_54 : decode cX9_resets 54 = .ok (.iload_n 2, 1) := by decide +kernel
theorem dX9_resets_55 : decode cX9_resets 55 = .ok (.bipush 6, 2) := by decide +kernel
theorem dX9_resets_57 : decode cX9_resets 57 = .ok (.iadd, 1) := by decide +kernel
theorem dX9_resets_58 : decode cX9_resets 58 = .ok (.iconst 0, 1) := by decide +kernel
theorem dX9_resets_59 : decode cX9_resets 59 = .ok (.iastore, 1) := by decide +kernel
theorem dX9_resets_60 : decode cX9_resets 60 = .ok (.aload_n 0, 1) := by decide +kernel
theorem dX9_resets_61 : decode cX9_resets 61 = .ok (.getfield 7, 3) := by decide +kernel
theorem dX9_resets_64 : decode cX9_resets 64 = .ok (.iload_n 2, 1) := by decide +kernel
theorem dX9_resets_65 : decode cX9_resets 65 = .ok (.iconst 5, 1) := by decide +kernel
theorem dX9_resets_66 : decode cX9_resets 66 = .ok (.iadd, 1) := by decide +kernel
theorem dX9_resets_67 : decode cX9_resets 67 = .ok (.iconst 0, 1) := by decide +kernel
theorem dX9_resets_68 : decode cX9_resets 68 = .ok (.iastore, 1) := by decide +kernel
theorem dX9_resets_69 : decode cX9_resets 69 = .ok (.iload_n 3, 1) := by decide +kernel
theorem dX9_resets_70 : decode cX9_resets 70 = .ok (.ireturn, 1) := by decide +kernel
theorem dX9_sets_0 : decode cX9_sets 0 = .ok (.aload_n 0, 1) := by decide +kernel
theorem dX9_sets_1 : decode cX9_sets 1 = .ok (.iload_n 1, 1) := by decide +kernel
theorem dX9_sets_2 : decode cX9_sets 2 = .ok (.invokevirtual 182, 3) := by decide +kernel
theorem dX9_sets_5 : decode cX9_sets 5 = .ok (.ifCond .eq 23, 3) := by decide +kernel
theorem dX9_sets_8 : decode cX9_sets 8 = .ok (.iload_n 2, 1) := by decide +kernel
theorem dX9_sets_9 : decode cX9_sets 9 = .ok (.iconst 0, 1) := by decide +kernel
theorem dX9_sets_10 : decode cX9_sets 10 = .ok (.iconst 3, 1) := by decide +kernel
theorem dX9_sets_11 : decode cX9_sets 11 = .ok (.invokestatic 76, 3) := by decide +kernel
theorem dX9_sets_14 : decode cX9_sets 14 = .ok (.ifCond .eq 14, 3) := by decide +kernel
theorem dX9_sets_17 : decode cX9_sets 17 = .ok (.iload_n 3, 1) := by decide +kernel
theorem dX9_sets_18 : decode cX9_sets 18 = .ok (.iconst 0, 1) := by decide +kernel
theorem dX9_sets_19 : decode cX9_sets 19 = .ok (.sipush 255, 3) := by decide +kernel
theorem dX9_sets_22 : decode cX9_sets 22 = .ok (.invokestatic 76, 3) := by decide +kernel
theorem dX9_sets_25 : decode cX9_sets 25 = .ok (.ifCond .ne 5, 3) := by decide +kernel
theorem dX9_sets_28 : decode cX9_sets 28 = .ok (.iconst (-1), 1) := by decide +kernel
theorem dX9_sets_29 : decode cX9_sets 29 = .ok (.ireturn, 1) := by decide +kernel
theorem dX9_sets_30 : decode cX9_sets 30 = .ok (.bipush 17, 2) := by decide +kernel
theorem dX9_sets_32 : decode cX9_sets 32 = .ok (.bipush 9, 2) := by decide +kernel
theorem dX9_sets_34 : decode cX9_sets 34 = .ok (.iload_n 1, 1) := by decide +kernel
theorem dX9_sets_35 : decode cX9_sets 35 = .ok (.imul, 1) := by decide +kernel
theorem dX9_sets_36 : decode cX9_sets 36 = .ok (.iadd, 1) := by decide +kernel
theorem dX9_sets_37 : decode cX9_sets 37 = .ok (.istore 4, 2) := by decide +kernel
theorem dX9_sets_39 : decode cX9_sets 39 = .ok (.aload_n 0, 1) := by decide +kernel
theorem dX9_sets_40 : decode cX9_sets 40 = .ok (.getfield 7, 3) := by decide +kernel
theorem dX9_sets_43 : decode cX9_sets 43 = .ok (.iload 4, 2) := by decide +kernel
theorem dX9_sets_45 : decode cX9_sets 45 = .ok (.iconst 1, 1) := by decide +kernel
theorem dX9_sets_46 : decode cX9_sets 46 = .ok (.iadd, 1) := by decide +kernel
theorem dX9_sets_47 : decode cX9_sets 47 = .ok (.iload_n 2, 1) := by decide +kernel
theorem dX9_sets_48 : decode cX9_sets 48 = .ok (.iadd, 1) := by decide +kernel
theorem dX9_sets_49 : decode cX9_sets 49 = .ok (.iaload, 1) := by decide +kernel
theorem dX9_sets_50 : decode cX9_sets 50 = .ok (.istore 5, 2) := by decide +kernel
theorem dX9_sets_52 : decode cX9_sets 52 = .ok (.iload 5, 2) := by decide +kernel
theorem dX9_sets_54 : decode cX9_sets 54 = .ok (.iload_n 3, 1) := by decide +kernel
theorem dX9_sets_55 : decode cX9_sets 55 = .ok (.if_icmp .eq 17, 3) := by decide +kernel
theorem dX9_sets_58 : decode cX9_sets 58 = .ok (.aload_n 0, 1) := by decide +kernel
theorem dX9_sets_59 : decode cX9_sets 59 = .ok (.getfield 7, 3) := by decide +kernel
theorem dX9_sets_62 : decode cX9_sets 62 = .ok (.iload 4, 2) := by decide +kernel
theorem dX9_sets_64 : decode cX9_sets 64 = .ok (.bipush 6, 2) := by decide +kernel
theorem dX9_sets_66 : decode cX9_sets 66 = .ok (.iadd, 1) := by decide +kernel
theorem dX9_sets_67 : decode cX9_sets 67 = .ok (.iaload, 1) := by decide +kernel
theorem dX9_sets_68 : decode cX9_sets 68 = .ok (.iconst 1, 1) := by decide +kernel
theorem dX9_sets_69 : decode cX9_sets 69 = .ok (.if_icmp .ne 6, 3) := by decide +kernel
theorem dX9_sets_72 : decode cX9_sets 72 = .ok (.bipush (-2), 2) := by decide +kernel
theorem dX9_sets_74 : decode cX9_sets 74 = .ok (.ireturn, 1) := by decide +kernel
theorem dX9_sets_75 : decode cX9_sets 75 = .ok (.aload_n 0, 1) := by decide +kernel
theorem dX9_sets_76 : decode cX9_sets 76 = .ok (.invokevirtual 118, 3) := by decide +kernel
theorem dX9_sets_79 : decode cX9_sets 79 = .ok (.aload_n 0, 1) := by decide +kernel
theorem dX9_sets_80 : decode cX9_sets 80 = .ok (.getfield 7, 3) := by decide +kernel
theorem dX9_sets_83 : decode cX9_sets 83 = .ok (.iload 4, 2) := by decide +kernel
theorem dX9_sets_85 : decode cX9_sets 85 = .ok (.iconst 1, 1) := by decide +kernel
theorem dX9_sets_86 : decode cX9_sets 86 = .ok (.iadd, 1) := by decide +kernel
theorem dX9_sets_87 : decode cX9_sets 87 = .ok (.iload_n 2, 1) := by decide +kernel
theorem dX9_sets_88 : decode cX9_sets 88 = .ok (.iadd, 1) := by decide +kernel
theorem dX9_sets_89 : decode cX9_sets 89 = .ok (.iload_n 3, 1) := by decide +kernel
theorem dX9_sets_90 : decode cX9_sets 90 = .ok (.iastore, 1) := by decide +kernel
theorem dX9_sets_91 : decode cX9_sets 91 = .ok (.iload 5, 2) := by decide +kernel
theorem dX9_sets_93 : decode cX9_sets 93 = .ok (.ireturn, 1) := by decide +kernel
theorem dX9_drifts_0 : decode cX9_drifts 0 = .ok (.aload_n 0, 1) := by decide +kernel
theorem dX9_drifts_1 : decode cX9_drifts 1 = .ok (.iload_n 1, 1) := by decide +kernel
theorem dX9_drifts_2 : decode cX9_drifts 2 = .ok (.invokevirtual 182, 3) := by decide +kernel
theorem dX9_drifts_5 : decode cX9_drifts 5 = .ok (.ifCond .eq 14, 3) := by decide +kernel
theorem dX9_drifts_8 : decode cX9_drifts 8 = .ok (.iload_n 2, 1) := by decide +kernel
theorem dX9_drifts_9 : decode cX9_drifts 9 = .ok (.bipush (-50), 2) := by decide +kernel
theorem dX9_drifts_11 : decode cX9_drifts 11 = .ok (.bipush 50, 2) := by decide +kernel
theorem dX9_drifts_13 : decode cX9_drifts 13 = .ok (.invokestatic 76, 3) := by decide +kernel
theorem dX9_drifts_16 : decode cX9_drifts 16 = .ok (.ifCond .ne 5, 3) := by decide +kernel
theorem dX9_drifts_19 : decode cX9_drifts 19 = .ok (.iconst (-1), 1) := by decide +kernel
theorem dX9_drifts_20 : decode cX9_drifts 20 = .ok (.ireturn, 1) := by decide +kernel
theorem dX9_drifts_21 : decode cX9_drifts 21 = .ok (.bipush 17, 2) := by decide +kernel
theorem dX9_drifts_23 : decode cX9_drifts 23 = .ok (.bipush 9, 2) := by decide +kernel
theorem dX9_drifts_25 : decode cX9_drifts 25 = .ok (.iload_n 1, 1) := by decide +kernel
theorem dX9_drifts_26 : decode cX9_drifts 26 = .ok (.imul, 1) := by decide +kernel
theorem dX9_drifts_27 : decode cX9_drifts 27 = .ok (.iadd, 1) := by decide +kernel
theorem dX9_drifts_28 : decode cX9_drifts 28 = .ok (.istore_n 3, 1) := by decide +kernel
theorem dX9_drifts_29 : decode cX9_drifts 29 = .ok (.aload_n 0, 1) := by decide +kernel
theorem dX9_drifts_30 : decode cX9_drifts 30 = .ok (.getfield 7, 3) := by decide +kernel
theorem dX9_drifts_33 : decode cX9_drifts 33 = .ok (.iload_n 3, 1) := by decide +kernel
theorem dX9_drifts_34 : decode cX9_drifts 34 = .ok (.bipush 7, 2) := by decide +kernel
theorem dX9_drifts_36 : decode cX9_drifts 36 = .ok (.iadd, 1) := by decide +kernel
theorem dX9_drifts_37 : decode cX9_drifts 37 = .ok (.iaload, 1) := by decide +kernel
theorem dX9_drifts_38 : decode cX9_drifts 38 = .ok (.iload_n 2, 1) := by decide +kernel
theorem dX9_drifts_39 : decode cX9_drifts 39 = .ok (.if_icmp .ne 6, 3) := by decide +kernel
theorem dX9_drifts_42 : decode cX9_drifts 42 = .ok (.bipush (-2), 2) := by decide +kernel
theorem dX9_drifts_44 : decode cX9_drifts 44 = .ok (.ireturn, 1) := by decide +kernel
theorem dX9_drifts_45 : decode cX9_drifts 45 = .ok (.aload_n 0, 1) := by decide +kernel
theorem dX9_drifts_46 : decode cX9_drifts 46 = .ok (.invokevirtual 118, 3) := by decide +kernel
theorem dX9_drifts_49 : decode cX9_drifts 49 = .ok (.aload_n 0, 1) := by decide +kernel
theorem dX9_drifts_50 : decode cX9_drifts 50 = .ok (.getfield 7, 3) := by decide +kernel
theorem dX9_drifts_53 : decode cX9_drifts 53 = .ok (.iload_n 3, 1) := by decide +kernel
theorem dX9_drifts_54 : decode cX9_drifts 54 = .ok (.bipush 7, 2) := by decide +kernel
theorem dX9_drifts_56 : decode cX9_drifts 56 = .ok (.iadd, 1) := by decide +kernel
theorem dX9_drifts_57 : decode cX9_drifts 57 = .ok (.iload_n 2, 1) := by decide +kernel
theorem dX9_drifts_58 : decode cX9_drifts 58 = .ok (.iastore, 1) := by decide +kernel
theorem dX9_drifts_59 : decode cX9_drifts 59 = .ok (.iconst 1, 1) := by decide +kernel
theorem dX9_drifts_60 : decode cX9_drifts 60 = .ok (.ireturn, 1) := by decide +kernel
theorem dX9_measures_0 : decode cX9_measures 0 = .ok (.aload_n 0, 1) := by decide +kernel
theorem dX9_measures_1 : decode cX9_measures 1 = .ok (.getfield 7, 3) := by decide +kernel
theorem dX9_measures_4 : decode cX9_measures 4 = .ok (.bipush 16, 2) := by decide +kernel
theorem dX9_measures_6 : decode cX9_measures 6 = .ok (.iaload, 1) := by decide +kernel
theorem dX9_measures_7 : decode cX9_measures 7 = .ok (.istore_n 1, 1) := by decide +kernel
theorem dX9_measures_8 : decode cX9_measures 8 = .ok (.aload_n 0, 1) := by decide +kernel
theorem dX9_measures_9 : decode cX9_measures 9 = .ok (.iload_n 1, 1) := by decide +kernel
theorem dX9_measures_10 : decode cX9_measures 10 = .ok (.invokevirtual 127, 3) := by decide +kernel
theorem dX9_measures_13 : decode cX9_measures 13 = .ok (.ifCond .eq 7, 3) := by decide +kernel
theorem dX9_measures_16 : decode cX9_measures 16 = .ok (.iconst (-1), 1) := by decide +kernel
theorem dX9_measures_17 : decode cX9_measures 17 = .ok (.goto 8, 3) := by decide +kernel
theorem dX9_measures_20 : decode cX9_measures 20 = .ok (.aload_n 0, 1) := by decide +kernel
theorem dX9_measures_21 : decode cX9_measures 21 = .ok (.iload_n 1, 1) := by decide +kernel
theorem dX9_measures_22 : decode cX9_measures 22 = .ok (.invokevirtual 134, 3) := by decide +kernel
theorem dX9_measures_25 : decode cX9_measures 25 = .ok (.istore_n 2, 1) := by decide +kernel
theorem dX9_measures_26 : decode cX9_measures 26 = .ok (.aload_n 0, 1) := by decide +kernel
theorem dX9_measures_27 : decode cX9_measures 27 = .ok (.iload_n 1, 1) := by decide +kernel
theorem dX9_measures_28 : decode cX9_measures 28 = .ok (.invokevirtual 138, 3) := by decide +kernel
theorem dX9_measures_31 : decode cX9_measures 31 = .ok (.istore_n 3, 1) := by decide +kernel
theorem dX9_measures_32 : decode cX9_measures 32 = .ok (.iload_n 2, 1) := by decide +kernel
theorem dX9_measures_33 : decode cX9_measures 33 = .ok (.ifCond .ge 16, 3) := by decide +kernel
theorem dX9_measures_36 : decode cX9_measures 36 = .ok (.iload_n 3, 1) := by decide +kernel
theorem dX9_measures_37 : decode cX9_measures 37 = .ok (.aload_n 0, 1) := by decide +kernel
theorem dX9_measures_38 : decode cX9_measures 38 = .ok (.getfield 7, 3) := by decide +kernel
theorem dX9_measures_41 : decode cX9_measures 41 = .ok (.iconst 0, 1) := by decide +kernel
theorem dX9_measures_42 : decode cX9_measures 42 = .ok (.iaload, 1) := by decide +kernel
theorem dX9_measures_43 : decode cX9_measures 43 = .ok (.if_icmp .ne 6, 3) := by decide +kernel
theorem dX9_measures_46 : decode cX9_measures 46 = .ok (.bipush (-2), 2) := by decide +kernel
theorem dX9_measures_48 : decode cX9_measures 48 = .ok (.ireturn, 1) := by decide +kernel
theorem dX9_measures_49 : decode cX9_measures 49 = .ok (.aload_n 0, 1) := by decide +kernel
theorem dX9_measures_50 : decode cX9_measures 50 = .ok (.invokevirtual 118, 3) := by decide +kernel
theorem dX9_measures_53 : decode cX9_measures 53 = .ok (.iconst 0, 1) := by decide +kernel
theorem dX9_measures_54 : decode cX9_measures 54 = .ok (.istore 4, 2) := by decide +kernel
theorem dX9_measures_56 : decode cX9_measures 56 = .ok (.iconst 0, 1) := by decide +kernel
theorem dX9_measures_57 : decode cX9_measures 57 = .ok (.istore 5, 2) := by decide +kernel
theorem dX9_measures_59 : decode cX9_measures 59 = .ok (.iload 5, 2) := by decide +kernel
theorem dX9_measures_61 : decode cX9_measures 61 = .ok (.aload_n 0, 1) := by decide +kernel
theorem dX9_measures_62 : decode cX9_measures 62 = .ok (.getfield 7, 3) := by decide +kernel
theorem dX9_measures_65 : decode cX9_measures 65 = .ok (.iconst 0, 1) := by decide +kernel
theorem dX9_measures_66 : decode cX9_measures 66 = .ok (.iaload, 1) := by decide +kernel
theorem dX9_measures_67 : decode cX9_measures 67 = .ok (.if_icmp .ge 56, 3) := by decide +kernel
theorem dX9_measures_70 : decode cX9_measures 70 = .ok (.iload 5, 2) := by decide +kernel
theorem dX9_measures_72 : decode cX9_measures 72 = .ok (.iload_n 2, 1) := by decide +kernel
theorem dX9_measures_73 : decode cX9_measures 73 = .ok (.if_icmp .le 9, 3) := by decide +kernel
theorem dX9_measures_76 : decode cX9_measures 76 = .ok (.iload 5, 2) := by decide +kernel
theorem dX9_measures_78 : decode cX9_measures 78 = .ok (.iload_n 3, 1) := by decide +kernel
theorem dX9_measures_79 : decode cX9_measures 79 = .ok (.if_icmp .lt 38, 3) := by decide +kernel
theorem dX9_measures_82 : decode cX9_measures 82 = .ok (.aload_n 0, 1) := by decide +kernel
theorem dX9_measures_83 : decode cX9_measures 83 = .ok (.getfield 7, 3) := by decide +kernel
theorem dX9_measures_86 : decode cX9_measures 86 = .ok (.bipush 17, 2) := by decide +kernel
theorem dX9_measures_88 : decode cX9_measures 88 = .ok (.bipush 9, 2) := by decide +kernel
theorem dX9_measures_90 : decode cX9_measures 90 = .ok (.iload 5, 2) := by decide +kernel
theorem dX9_measures_92 : decode cX9_measures 92 = .ok (.imul, 1) := by decide +kernel
theorem dX9_measures_93 : decode cX9_measures 93 = .ok (.iadd, 1) := by decide +kernel
theorem dX9_measures_94 : decode cX9_measures 94 = .ok (.bipush 8, 2) := by decide +kernel
theorem dX9_measures_96 : decode cX9_measures 96 = .ok (.iadd, 1) := by decide +kernel
theorem dX9_measures_97 : decode cX9_measures 97 = .ok (.aload_n 0, 1) := by decide +kernel
theorem dX9_measures_98 : decode cX9_measures 98 = .ok (.getfield 7, 3) := by decide +kernel
theorem dX9_measures_101 : decode cX9_measures 101 = .ok (.bipush 17, 2) := by decide +kernel
theorem dX9_measures_103 : decode cX9_measures 103 = .ok (.bipush 9, 2) := by decide +kernel
theorem dX9_measures_105 : decode cX9_measures 105 = .ok (.iload 5, 2) := by decide +kernel
theorem dX9_measures_107 : decode cX9_measures 107 = .ok (.imul, 1) := by decide +kernel
theorem dX9_measures_108 : decode cX9_measures 108 = .ok (.iadd, 1) := by decide +kernel
theorem dX9_measures_109 : decode cX9_measures 109 = .ok (.bipush 7, 2) := by decide +kernel
theorem dX9_measures_111 : decode cX9_measures 111 = .ok (.iadd, 1) := by decide +kernel
theorem dX9_measures_112 : decode cX9_measures 112 = .ok (.iaload, 1) := by decide +kernel
theorem dX9_measures_113 : decode cX9_measures 113 = .ok (.iastore, 1) := by decide +kernel
theorem dX9_measures_114 : decode cX9_measures 114 = .ok (.iinc 4 1, 3) := by decide +kernel
theorem dX9_measures_117 : decode cX9_measures 117 = .ok (.iinc 5 1, 3) := by decide +kernel
theorem dX9_measures_120 : decode cX9_measures 120 = .ok (.goto (-61), 3) := by decide +kernel
theorem dX9_measures_123 : decode cX9_measures 123 = .ok (.iload 4, 2) := by decide +kernel
theorem dX9_measures_125 : decode cX9_measures 125 = .ok (.ireturn, 1) := by decide +kernel
theorem dX9_offOf_0 : decode cX9_offOf 0 = .ok (.aload_n 0, 1) := by decide +kernel
theorem dX9_offOf_1 : decode cX9_offOf 1 = .ok (.getfield 7, 3) := by decide +kernel
theorem dX9_offOf_4 : decode cX9_offOf 4 = .ok (.bipush 17, 2) := by decide +kernel
theorem dX9_offOf_6 : decode cX9_offOf 6 = .ok (.bipush 9, 2) := by decide +kernel
theorem dX9_offOf_8 : decode cX9_offOf 8 = .ok (.iload_n 1, 1) := by decide +kernel
theorem dX9_offOf_9 : decode cX9_offOf 9 = .ok (.imul, 1) := by decide +kernel
theorem dX9_offOf_10 : decode cX9_offOf 10 = .ok (.iadd, 1) := by decide +kernel
theorem dX9_offOf_11 : decode cX9_offOf 11 = .ok (.bipush 7, 2) := by decide +kernel
theorem dX9_offOf_13 : decode cX9_offOf 13 = .ok (.iadd, 1) := by decide +kernel
theorem dX9_offOf_14 : decode cX9_offOf 14 = .ok (.iaload, 1) := by decide +kernel
theorem dX9_offOf_15 : decode cX9_offOf 15 = .ok (.aload_n 0, 1) := by decide +kernel
theorem dX9_offOf_16 : decode cX9_offOf 16 = .ok (.getfield 7, 3) := by decide +kernel
theorem dX9_offOf_19 : decode cX9_offOf 19 = .ok (.bipush 17, 2) := by decide +kernel
theorem dX9_offOf_21 : decode cX9_offOf 21 = .ok (.bipush 9, 2) := by decide +kernel
theorem dX9_offOf_23 : decode cX9_offOf 23 = .ok (.iload_n 1, 1) := by decide +kernel
theorem dX9_offOf_24 : decode cX9_offOf 24 = .ok (.imul, 1) := by decide +kernel
theorem dX9_offOf_25 : decode cX9_offOf 25 = .ok (.iadd, 1) := by decide +kernel
theorem dX9_offOf_26 : decode cX9_offOf 26 = .ok (.bipush 8, 2) := by decide +kernel
theorem dX9_offOf_28 : decode cX9_offOf 28 = .ok (.iadd, 1) := by decide +kernel
theorem dX9_offOf_29 : decode cX9_offOf 29 = .ok (.iaload, 1) := by decide +kernel
theorem dX9_offOf_30 : decode cX9_offOf 30 = .ok (.isub, 1) := by decide +kernel
theorem dX9_offOf_31 : decode cX9_offOf 31 = .ok (.ireturn, 1) := by decide +kernel
theorem dX9_drive_0 : decode cX9_drive 0 = .ok (.aload_n 0, 1) := by decide +kernel
theorem dX9_drive_1 : decode cX9_drive 1 = .ok (.iload_n 1, 1) := by decide +kernel
theorem dX9_drive_2 : decode cX9_drive 2 = .ok (.invokevirtual 182, 3) := by decide +kernel
theorem dX9_drive_5 : decode cX9_drive 5 = .ok (.ifCond .eq 13, 3) := by decide +kernel
theorem dX9_drive_8 : decode cX9_drive 8 = .ok (.iload_n 2, 1) := by decide +kernel
theorem dX9_drive_9 : decode cX9_drive 9 = .ok (.iconst 0, 1) := by decide +kernel
theorem dX9_drive_10 : decode cX9_drive 10 = .ok (.bipush 9, 2) := by decide +kernel
theorem dX9_drive_12 : decode cX9_drive 12 = .ok (.invokestatic 76, 3) := by decide +kernel
theorem dX9_drive_15 : decode cX9_drive 15 = .ok (.ifCond .ne 6, 3) := by decide +kernel
theorem dX9_drive_18 : decode cX9_drive 18 = .ok (.ldc 185, 2) := by decide +kernel
theorem dX9_drive_20 : decode cX9_drive 20 = .ok (.ireturn, 1) := by decide +kernel
theorem dX9_drive_21 : decode cX9_drive 21 = .ok (.iload_n 2, 1) := by decide +kernel
theorem dX9_drive_22 : decode cX9_drive 22 = .ok (.bipush 9, 2) := by decide +kernel
theorem dX9_drive_24 : decode cX9_drive 24 = .ok (.if_icmp .ne 11, 3) := by decide +kernel
theorem dX9_drive_27 : decode cX9_drive 27 = .ok (.aload_n 0, 1) := by decide +kernel
theorem dX9_drive_28 : decode cX9_drive 28 = .ok (.iload_n 1, 1) := by decide +kernel
theorem dX9_drive_29 : decode cX9_drive 29 = .ok (.invokevirtual 186, 3) := by decide +kernel
theorem dX9_drive_32 : decode cX9_drive 32 = .ok (.goto 17, 3) := by decide +kernel
theorem dX9_drive_35 : decode cX9_drive 35 = .ok (.aload_n 0, 1) := by decide +kernel
theorem dX9_drive_36 : decode cX9_drive 36 = .ok (.getfield 7, 3) := by decide +kernel
theorem dX9_drive_39 : decode cX9_drive 39 = .ok (.bipush 17, 2) := by decide +kernel
theorem dX9_drive_41 : decode cX9_drive 41 = .ok (.bipush 9, 2) := by decide +kernel
theorem dX9_drive_43 : decode cX9_drive 43 = .ok (.iload_n 1, 1) := by decide +kernel
theorem dX9_drive_44 : decode cX9_drive 44 = .ok (.imul, 1) := by decide +kernel
theorem dX9_drive_45 : decode cX9_drive 45 = .ok (.iadd, 1) := by decide +kernel
theorem dX9_drive_46 : decode cX9_drive 46 = .ok (.iload_n 2, 1) := by decide +kernel
theorem dX9_drive_47 : decode cX9_drive 47 = .ok (.iadd, 1) := by decide +kernel
theorem dX9_drive_48 : decode cX9_drive 48 = .ok (.iaload, 1) := by decide +kernel
theorem dX9_drive_49 : decode cX9_drive 49 = .ok (.ireturn, 1) := by decide +kernel
theorem dX9_link_0 : decode cX9_link 0 = .ok (.aload_n 0, 1) := by decide +kernel
theorem dX9_link_1 : decode cX9_link 1 = .ok (.iload_n 1, 1) := by decide +kernel
theorem dX9_link_2 : decode cX9_link 2 = .ok (.invokevirtual 170, 3) := by decide +kernel
theorem dX9_link_5 : decode cX9_link 5 = .ok (.ifCond .eq 12, 3) := by decide +kernel
theorem dX9_link_8 : decode cX9_link 8 = .ok (.iload_n 2, 1) := by decide +kernel
theorem dX9_link_9 : decode cX9_link 9 = .ok (.iconst 0, 1) := by decide +kernel
theorem dX9_link_10 : decode cX9_link 10 = .ok (.iconst 1, 1) := by decide +kernel
theorem dX9_link_11 : decode cX9_link 11 = .ok (.invokestatic 76, 3) := by decide +kernel
theorem dX9_link_14 : decode cX9_link 14 = .ok (.ifCond .ne 5, 3) := by decide +kernel
theorem dX9_link_17 : decode cX9_link 17 = .ok (.iconst (-1), 1) := by decide +kernel
theorem dX9_link_18 : decode cX9_link 18 = .ok (.ireturn, 1) := by decide +kernel
theorem dX9_link_19 : decode cX9_link 19 = .ok (.iload_n 2, 1) := by decide +kernel
theorem dX9_link_20 : decode cX9_link 20 = .ok (.ifCond .ne 15, 3) := by decide +kernel
theorem dX9_link_23 : decode cX9_link 23 = .ok (.aload_n 0, 1) := by decide +kernel
theorem dX9_link_24 : decode cX9_link 24 = .ok (.getfield 7, 3) := by decide +kernel
theorem dX9_link_27 : decode cX9_link 27 = .ok (.bipush 9, 2) := by decide +kernel
theorem dX9_link_29 : decode cX9_link 29 = .ok (.iload_n 1, 1) := by decide +kernel
theorem dX9_link_30 : decode cX9_link 30 = .ok (.iadd, 1) := by decide +kernel
theorem dX9_link_31 : decode cX9_link 31 = .ok (.iaload, 1) := by decide +kernel
theorem dX9_link_32 : decode cX9_link 32 = .ok (.goto 22, 3) := by decide +kernel
theorem dX9_link_35 : decode cX9_link 35 = .ok (.aload_n 0, 1) := by decide +kernel
theorem dX9_link_36 : decode cX9_link 36 = .ok (.getfield 7, 3) := by decide +kernel
theorem dX9_link_39 : decode cX9_link 39 = .ok (.bipush 16, 2) := by decide +kernel
theorem dX9_link_41 : decode cX9_link 41 = .ok (.iaload, 1) := by decide +kernel
theorem dX9_link_42 : decode cX9_link 42 = .ok (.iload_n 1, 1) := by decide +kernel
theorem dX9_link_43 : decode cX9_link 43 = .ok (.invokestatic 124, 3) := by decide +kernel
theorem dX9_link_46 : decode cX9_link 46 = .ok (.ifCond .eq 7, 3) := by decide +kernel
theorem dX9_link_49 : decode cX9_link 49 = .ok (.iconst 1, 1) := by decide +kernel
theorem dX9_link_50 : decode cX9_link 50 = .ok (.goto 4, 3) := by decide +kernel
theorem dX9_link_53 : decode cX9_link 53 = .ok (.iconst 0, 1) := by decide +kernel
theorem dX9_link_54 : decode cX9_link 54 = .ok (.ireturn, 1) := by decide +kernel
theorem dX9_isOrder_0 : decode cX9_isOrder 0 = .ok (.iload_n 1, 1) := by decide +kernel
theorem dX9_isOrder_1 : decode cX9_isOrder 1 = .ok (.iconst 0, 1) := by decide +kernel
theorem dX9_isOrder_2 : decode cX9_isOrder 2 = .ok (.aload_n 0, 1) := by decide +kernel
theorem dX9_isOrder_3 : decode cX9_isOrder 3 = .ok (.getfield 7, 3) := by decide +kernel
theorem dX9_isOrder_6 : decode cX9_isOrder 6 = .ok (.iconst 3, 1) := by decide +kernel
theorem dX9_isOrder_7 : decode cX9_isOrder 7 = .ok (.iaload, 1) := by decide +kernel
theorem dX9_isOrder_8 : decode cX9_isOrder 8 = .ok (.iconst 1, 1) := by decide +kernel
theorem dX9_isOrder_9 : decode cX9_isOrder 9 = .ok (.isub, 1) := by decide +kernel
theorem dX9_isOrder_10 : decode cX9_isOrder 10 = .ok (.invokestatic 76, 3) := by decide +kernel
theorem dX9_isOrder_13 : decode cX9_isOrder 13 = .ok (.ireturn, 1) := by decide +kernel
theorem dX9_order_0 : decode cX9_order 0 = .ok (.aload_n 0, 1) := by decide +kernel
theorem dX9_order_1 : decode cX9_order 1 = .ok (.iload_n 1, 1) := by decide +kernel
theorem dX9_order_2 : decode cX9_order 2 = .ok (.invokevirtual 189, 3) := by decide +kernel
theorem dX9_order_5 : decode cX9_order 5 = .ok (.ifCond .eq 28, 3) := by decide +kernel
theorem dX9_order_8 : decode cX9_order 8 = .ok (.iload_n 2, 1) := by decide +kernel
theorem dX9_order_9 : decode cX9_order 9 = .ok (.iconst 0, 1) := by decide +kernel
theorem dX9_order_10 : decode cX9_order 10 = .ok (.iconst 4, 1) := by decide +kernel
theorem dX9_order_11 : decode cX9_order 11 = .ok (.invokestatic 76, 3) := by decide +kernel
theorem dX9_order_14 : decode cX9_order 14 = .ok (.ifCond .eq 19, 3) := by decide +kernel
theorem dX9_order_17 : decode cX9_order 17 = .ok (.aload_n 0, 1) := by decide +kernel
theorem dX9_order_18 : decode cX9_order 18 = .ok (.getfield 7, 3) := by decide +kernel
theorem dX9_order_21 : decode cX9_order 21 = .ok (.bipush 71, 2) := by decide +kernel
theorem dX9_order_23 : decode cX9_order 23 = .ok (.iconst 5, 1) := by decide +kernel
theorem dX9_order_24 : decode cX9_order 24 = .ok (.iload_n 1, 1) := by decide +kernel
theorem dX9_order_25 : decode cX9_order 25 = .ok (.imul, 1) := by decide +kernel
theorem dX9_order_26 : decode cX9_order 26 = .ok (.iadd, 1) := by decide +kernel
theorem dX9_order_27 : decode cX9_order 27 = .ok (.iload_n 2, 1) := by decide +kernel
theorem dX9_order_28 : decode cX9_order 28 = .ok (.iadd, 1) := by decide +kernel
theorem dX9_order_29 : decode cX9_order 29 = .ok (.iaload, 1) := by decide +kernel
theorem dX9_order_30 : decode cX9_order 30 = .ok (.goto 4, 3) := by decide +kernel
theorem dX9_order_33 : decode cX9_order 33 = .ok (.iconst (-1), 1) := by decide +kernel
theorem dX9_order_34 : decode cX9_order 34 = .ok (.ireturn, 1) := by decide +kernel
theorem dX9_result_0 : decode cX9_result 0 = .ok (.aload_n 0, 1) := by decide +kernel
theorem dX9_result_1 : decode cX9_result 1 = .ok (.iload_n 1, 1) := by decide +kernel
theorem dX9_result_2 : decode cX9_result 2 = .ok (.invokevirtual 189, 3) := by decide +kernel
theorem dX9_result_5 : decode cX9_result 5 = .ok (.ifCond .eq 12, 3) := by decide +kernel
theorem dX9_result_8 : decode cX9_result 8 = .ok (.iload_n 2, 1) := by decide +kernel
theorem dX9_result_9 : decode cX9_result 9 = .ok (.iconst 0, 1) := by decide +kernel
theorem dX9_result_10 : decode cX9_result 10 = .ok (.iconst 1, 1) := by decide +kernel
theorem dX9_result_11 : decode cX9_result 11 = .ok (.invokestatic 76, 3) := by decide +kernel
theorem dX9_result_14 : decode cX9_result 14 = .ok (.ifCond .ne 5, 3) := by decide +kernel
theorem dX9_result_17 : decode cX9_result 17 = .ok (.iconst (-1), 1) := by decide +kernel
theorem dX9_result_18 : decode cX9_result 18 = .ok (.ireturn, 1) := by decide +kernel
theorem dX9_result_19 : decode cX9_result 19 = .ok (.aload_n 0, 1) := by decide +kernel
theorem dX9_result_20 : decode cX9_result 20 = .ok (.getfield 7, 3) := by decide +kernel
theorem dX9_result_23 : decode cX9_result 23 = .ok (.iconst 4, 1) := by decide +kernel
theorem dX9_result_24 : decode cX9_result 24 = .ok (.iaload, 1) := by decide +kernel
theorem dX9_result_25 : decode cX9_result 25 = .ok (.iconst 1, 1) := by decide +kernel
theorem dX9_result_26 : decode cX9_result 26 = .ok (.if_icmp .ne 19, 3) := by decide +kernel
theorem dX9_result_29 : decode cX9_result 29 = .ok (.aload_n 0, 1) := by decide +kernel
theorem dX9_result_30 : decode cX9_result 30 = .ok (.getfield 7, 3) := by decide +kernel
theorem dX9_result_33 : decode cX9_result 33 = .ok (.bipush 91, 2) := by decide +kernel
theorem dX9_result_35 : decode cX9_result 35 = .ok (.iconst 2, 1) := by decide +kernel
theorem dX9_result_36 : decode cX9_result 36 = .ok (.iload_n 1, 1) := by decide +kernel
theorem dX9_result_37 : decode cX9_result 37 = .ok (.imul, 1) := by decide +kernel
theorem dX9_result_38 : decode cX9_result 38 = .ok (.iadd, 1) := by decide +kernel
theorem dX9_result_39 : decode cX9_result 39 = .ok (.iload_n 2, 1) := by decide +kernel
theorem dX9_result_40 : decode cX9_result 40 = .ok (.iadd, 1) := by decide +kernel
theorem dX9_result_41 : decode cX9_result 41 = .ok (.iaload, 1) := by decide +kernel
theorem dX9_result_42 : decode cX9_result 42 = .ok (.goto 5, 3) := by decide +kernel
theorem dX9_result_45 : decode cX9_result 45 = .ok (.bipush (-9), 2) := by decide +kernel
theorem dX9_result_47 : decode cX9_result 47 = .ok (.ireturn, 1) := by decide +kernel
theorem dX9_time_0 : decode cX9_time 0 = .ok (.iload_n 1, 1) := by decide +kernel
theorem dX9_time_1 : decode cX9_time 1 = .ok (.iconst 0, 1) := by decide +kernel
theorem dX9_time_2 : decode cX9_time 2 = .ok (.iconst 1, 1) := by decide +kernel
theorem dX9_time_3 : decode cX9_time 3 = .ok (.invokestatic 76, 3) := by decide +kernel
theorem dX9_time_6 : decode cX9_time 6 = .ok (.ifCond .eq 14, 3) := by decide +kernel
theorem dX9_time_9 : decode cX9_time 9 = .ok (.aload_n 0, 1) := by decide +kernel
theorem dX9_time_10 : decode cX9_time 10 = .ok (.getfield 7, 3) := by decide +kernel
theorem dX9_time_13 : decode cX9_time 13 = .ok (.iconst 5, 1) := by decide +kernel
theorem dX9_time_14 : decode cX9_time 14 = .ok (.iload_n 1, 1) := by decide +kernel
theorem dX9_time_15 : decode cX9_time 15 = .ok (.iadd, 1) := by decide +kernel
theorem dX9_time_16 : decode cX9_time 16 = .ok (.iaload, 1) := by decide +kernel
theorem dX9_time_17 : decode cX9_time 17 = .ok (.goto 4, 3) := by decide +kernel
theorem dX9_time_20 : decode cX9_time 20 = .ok (.iconst (-1), 1) := by decide +kernel
theorem dX9_time_21 : decode cX9_time 21 = .ok (.ireturn, 1) := by decide +kernel
theorem dX9_reached_0 : decode cX9_reached 0 = .ok (.iload_n 1, 1) := by decide +kernel
theorem dX9_reached_1 : decode cX9_reached 1 = .ok (.iconst 0, 1) := by decide +kernel
theorem dX9_reached_2 : decode cX9_reached 2 = .ok (.iconst 1, 1) := by decide +kernel
theorem dX9_reached_3 : decode cX9_reached 3 = .ok (.invokestatic 76, 3) := by decide +kernel
theorem dX9_reached_6 : decode cX9_reached 6 = .ok (.ifCond .ne 5, 3) := by decide +kernel
theorem dX9_reached_9 : decode cX9_reached 9 = .ok (.iconst (-1), 1) := by decide +kernel
theorem dX9_reached_10 : decode cX9_reached 10 = .ok (.ireturn, 1) := by decide +kernel
theorem dX9_reached_11 : decode cX9_reached 11 = .ok (.aload_n 0, 1) := by decide +kernel
theorem dX9_reached_12 : decode cX9_reached 12 = .ok (.getfield 7, 3) := by decide +kernel
theorem dX9_reached_15 : decode cX9_reached 15 = .ok (.iconst 0, 1) := by decide +kernel
theorem dX9_reached_16 : decode cX9_reached 16 = .ok (.iaload, 1) := by decide +kernel
theorem dX9_reached_17 : decode cX9_reached 17 = .ok (.istore_n 2, 1) := by decide +kernel
theorem dX9_reached_18 : decode cX9_reached 18 = .ok (.iconst 1, 1) := by decide +kernel
theorem dX9_reached_19 : decode cX9_reached 19 = .ok (.iload_n 2, 1) := by decide +kernel
theorem dX9_reached_20 : decode cX9_reached 20 = .ok (.ishl, 1) := by decide +kernel
theorem dX9_reached_21 : decode cX9_reached 21 = .ok (.iconst 1, 1) := by decide +kernel
theorem dX9_reached_22 : decode cX9_reached 22 = .ok (.isub, 1) := by decide +kernel
theorem dX9_reached_23 : decode cX9_reached 23 = .ok (.istore_n 3, 1) := by decide +kernel
theorem dX9_reached_24 : decode cX9_reached 24 = .ok (.iload_n 1, 1) := by decide +kernel
theorem dX9_reached_25 : decode cX9_reached 25 = .ok (.ifCond .ne 23, 3) := by decide +kernel
theorem dX9_reached_28 : decode cX9_reached 28 = .ok (.iconst 1, 1) := by decide +kernel
theorem dX9_reached_29 : decode cX9_reached 29 = .ok (.aload_n 0, 1) := by decide +kernel
theorem dX9_reached_30 : decode cX9_reached 30 = .ok (.aload_n 0, 1) := by decide +kernel
theorem dX9_reached_31 : decode cX9_reached 31 = .ok (.getfield 7, 3) := by decide +kernel
theorem dX9_reached_34 : decode cX9_reached 34 = .ok (.bipush 16, 2) := by decide +kernel
theorem dX9_reached_36 : decode cX9_reached 36 = .ok (.iaload, 1) := by decide +kernel
theorem dX9_reached_37 : decode cX9_reached 37 = .ok (.invokevirtual 134, 3) := by decide +kernel
theorem dX9_reached_40 : decode cX9_reached 40 = .ok (.iconst 1, 1) := by decide +kernel
theorem dX9_reached_41 : decode cX9_reached 41 = .ok (.iadd, 1) := by decide +kernel
theorem dX9_reached_42 : decode cX9_reached 42 = .ok (.ishl, 1) := by decide +kernel
theorem dX9_reached_43 : decode cX9_reached 43 = .ok (.iconst 1, 1) := by decide +kernel
theorem dX9_reached_44 : decode cX9_reached 44 = .ok (.isub, 1) := by decide +kernel
theorem dX9_reached_45 : decode cX9_reached 45 = .ok (.goto 22, 3) := by decide +kernel
theorem dX9_reached_48 : decode cX9_reached 48 = .ok (.iload_n 3, 1) := by decide +kernel
theorem dX9_reached_49 : decode cX9_reached 49 = .ok (.iconst 1, 1) := by decide +kernel
theorem dX9_reached_50 : decode cX9_reached 50 = .ok (.aload_n 0, 1) := by decide +kernel
theorem dX9_reached_51 : decode cX9_reached 51 = .ok (.aload_n 0, 1) := by decide +kernel
theorem dX9_reached_52 : decode cX9_reached 52 = .ok (.getfield 7, 3) := by decide +kernel
theorem dX9_reached_55 : decode cX9_reached 55 = .ok (.bipush 16, 2) := by decide +kernel
theorem dX9_reached_57 : decode cX9_reached 57 = .ok (.iaload, 1) := by decide +kernel
theorem dX9_reached_58 : decode cX9_reached 58 = .ok (.invokevirtual 138, 3) := by decide +kernel
theorem dX9_reached_61 : decode cX9_reached 61 = .ok (.ishl, 1) := by decide +kernel
theorem dX9_reached_62 : decode cX9_reached 62 = .ok (.iconst 1, 1) := by decide +kernel
theorem dX9_reached_63 : decode cX9_reached 63 = .ok (.isub, 1) := by decide +kernel
theorem dX9_reached_64 : decode cX9_reached 64 = .ok (.iconst (-1), 1) := by decide +kernel
theorem dX9_reached_65 : decode cX9_reached 65 = .ok (.ixor, 1) := by decide +kernel
theorem dX9_reached_66 : decode cX9_reached 66 = .ok (.iand, 1) := by decide +kernel
theorem dX9_reached_67 : decode cX9_reached 67 = .ok (.ireturn, 1) := by decide +kernel
theorem dX9_would_0 : decode cX9_would 0 = .ok (.iload_n 1, 1) := by decide +kernel
theorem dX9_would_1 : decode cX9_would 1 = .ok (.iconst 0, 1) := by decide +kernel
theorem dX9_would_2 : decode cX9_would 2 = .ok (.iconst 5, 1) := by decide +kernel
theorem dX9_would_3 : decode cX9_would 3 = .ok (.invokestatic 76, 3) := by decide +kernel
theorem dX9_would_6 : decode cX9_would 6 = .ok (.ifCond .ne 5, 3) := by decide +kernel
theorem dX9_would_9 : decode cX9_would 9 = .ok (.iconst (-1), 1) := by decide +kernel
theorem dX9_would_10 : decode cX9_would 10 = .ok (.ireturn, 1) := by decide +kernel
theorem dX9_would_11 : decode cX9_would 11 = .ok (.aload_n 0, 1) := by decide +kernel
theorem dX9_would_12 : decode cX9_would 12 = .ok (.aload_n 0, 1) := by decide +kernel
theorem dX9_would_13 : decode cX9_would 13 = .ok (.getfield 7, 3) := by decide +kernel
theorem dX9_would_16 : decode cX9_would 16 = .ok (.bipush 16, 2) := by decide +kernel
theorem dX9_would_18 : decode cX9_would 18 = .ok (.iaload, 1) := by decide +kernel
theorem dX9_would_19 : decode cX9_would 19 = .ok (.invokevirtual 192, 3) := by decide +kernel
theorem dX9_would_22 : decode cX9_would 22 = .ok (.aload_n 0, 1) := by decide +kernel
theorem dX9_would_23 : decode cX9_would 23 = .ok (.getfield 47, 3) := by decide +kernel
theorem dX9_would_26 : decode cX9_would 26 = .ok (.iload_n 1, 1) := by decide +kernel
theorem dX9_would_27 : decode cX9_would 27 = .ok (.iaload, 1) := by decide +kernel
theorem dX9_would_28 : decode cX9_would 28 = .ok (.ireturn, 1) := by decide +kernel
theorem dX9_sees_0 : decode cX9_sees 0 = .ok (.iload_n 1, 1) := by decide +kernel
theorem dX9_sees_1 : decode cX9_sees 1 = .ok (.iconst 0, 1) := by decide +kernel
theorem dX9_sees_2 : decode cX9_sees 2 = .ok (.iconst 5, 1) := by decide +kernel
theorem dX9_sees_3 : decode cX9_sees 3 = .ok (.invokestatic 76, 3) := by decide +kernel
theorem dX9_sees_6 : decode cX9_sees 6 = .ok (.ifCond .eq 25, 3) := by decide +kernel
theorem dX9_sees_9 : decode cX9_sees 9 = .ok (.iload_n 2, 1) := by decide +kernel
theorem dX9_sees_10 : decode cX9_sees 10 = .ok (.iconst 0, 1) := by decide +kernel
theorem dX9_sees_11 : decode cX9_sees 11 = .ok (.sipush 255, 3) := by decide +kernel
theorem dX9_sees_14 : decode cX9_sees 14 = .ok (.invokestatic 76, 3) := by decide +kernel
theorem dX9_sees_17 : decode cX9_sees 17 = .ok (.ifCond .ne 16, 3) := by decide +kernel
theorem dX9_sees_20 : decode cX9_sees 20 = .ok (.iload_n 1, 1) := by decide +kernel
theorem dX9_sees_21 : decode cX9_sees 21 = .ok (.iconst 3, 1) := by decide +kernel
theorem dX9_sees_22 : decode cX9_sees 22 = .ok (.if_icmp .le 9, 3) := by decide +kernel
theorem dX9_sees_25 : decode cX9_sees 25 = .ok (.iload_n 2, 1) := by decide +kernel
theorem dX9_sees_26 : decode cX9_sees 26 = .ok (.bipush (-9), 2) := by decide +kernel
theorem dX9_sees_28 : decode cX9_sees 28 = .ok (.if_icmp .eq 5, 3) := by decide +kernel
theorem dX9_sees_31 : decode cX9_sees 31 = .ok (.iconst (-1), 1) := by decide +kernel
theorem dX9_sees_32 : decode cX9_sees 32 = .ok (.ireturn, 1) := by decide +kernel
theorem dX9_sees_33 : decode cX9_sees 33 = .ok (.aload_n 0, 1) := by decide +kernel
theorem dX9_sees_34 : decode cX9_sees 34 = .ok (.getfield 195, 3) := by decide +kernel
theorem dX9_sees_37 : decode cX9_sees 37 = .ok (.bipush 6, 2) := by decide +kernel
theorem dX9_sees_39 : decode cX9_sees 39 = .ok (.if_icmp .ne 6, 3) := by decide +kernel
theorem dX9_sees_42 : decode cX9_sees 42 = .ok (.bipush (-3), 2) := by decide +kernel
theorem dX9_sees_44 : decode cX9_sees 44 = .ok (.ireturn, 1) := by decide +kernel
theorem dX9_sees_45 : decode cX9_sees 45 = .ok (.aload_n 0, 1) := by decide +kernel
theorem dX9_sees_46 : decode cX9_sees 46 = .ok (.getfield 29, 3) := by decide +kernel
theorem dX9_sees_49 : decode cX9_sees 49 = .ok (.aload_n 0, 1) := by decide +kernel
theorem dX9_sees_50 : decode cX9_sees 50 = .ok (.getfield 195, 3) := by decide +kernel
theorem dX9_sees_53 : decode cX9_sees 53 = .ok (.iload_n 1, 1) := by decide +kernel
theorem dX9_sees_54 : decode cX9_sees 54 = .ok (.iastore, 1) := by decide +kernel
theorem dX9_sees_55 : decode cX9_sees 55 = .ok (.aload_n 0, 1) := by decide +kernel
theorem dX9_sees_56 : decode cX9_sees 56 = .ok (.getfield 32, 3) := by decide +kernel
theorem dX9_sees_59 : decode cX9_sees 59 = .ok (.aload_n 0, 1) := by decide +kernel
theorem dX9_sees_60 : decode cX9_sees 60 = .ok (.getfield 195, 3) := by decide +kernel
theorem dX9_sees_63 : decode cX9_sees 63 = .ok (.iload_n 2, 1) := by decide +kernel
theorem dX9_sees_64 : decode cX9_sees 64 = .ok (.iastore, 1) := by decide +kernel
theorem dX9_sees_65 : decode cX9_sees 65 = .ok (.aload_n 0, 1) := by decide +kernel
theorem dX9_sees_66 : decode cX9_sees 66 = .ok (.dup, 1) := by decide +kernel
theorem dX9_sees_67 : decode cX9_sees 67 = .ok (.getfield 195, 3) := by decide +kernel
theorem dX9_sees_70 : decode cX9_sees 70 = .ok (.iconst 1, 1) := by decide +kernel
theorem dX9_sees_71 : decode cX9_sees 71 = .ok (.iadd, 1) := by decide +kernel
theorem dX9_sees_72 : decode cX9_sees 72 = .ok (.putfield 195, 3) := by decide +kernel
theorem dX9_sees_75 : decode cX9_sees 75 = .ok (.aload_n 0, 1) := by decide +kernel
theorem dX9_sees_76 : decode cX9_sees 76 = .ok (.getfield 195, 3) := by decide +kernel
theorem dX9_sees_79 : decode cX9_sees 79 = .ok (.ireturn, 1) := by decide +kernel
theorem dX9_forget_0 : decode cX9_forget 0 = .ok (.aload_n 0, 1) := by decide +kernel
theorem dX9_forget_1 : decode cX9_forget 1 = .ok (.getfield 195, 3) := by decide +kernel
theorem dX9_forget_4 : decode cX9_forget 4 = .ok (.istore_n 1, 1) := by decide +kernel
theorem dX9_forget_5 : decode cX9_forget 5 = .ok (.aload_n 0, 1) := by decide +kernel
theorem dX9_forget_6 : decode cX9_forget 6 = .ok (.iconst 0, 1) := by decide +kernel
theorem dX9_forget_7 : decode cX9_forget 7 = .ok (.putfield 195, 3) := by decide +kernel
theorem dX9_forget_10 : decode cX9_forget 10 = .ok (.iload_n 1, 1) := by decide +kernel
theorem dX9_forget_11 : decode cX9_forget 11 = .ok (.ireturn, 1) := by decide +kernel
theorem dX9_isSo_0 : decode cX9_isSo 0 = .ok (.aload_n 0, 1) := by decide +kernel
theorem dX9_isSo_1 : decode cX9_isSo 1 = .ok (.iload_n 1, 1) := by decide +kernel
theorem dX9_isSo_2 : decode cX9_isSo 2 = .ok (.invokevirtual 192, 3) := by decide +kernel
theorem dX9_isSo_5 : decode cX9_isSo 5 = .ok (.iconst 1, 1) := by decide +kernel
theorem dX9_isSo_6 : decode cX9_isSo 6 = .ok (.istore_n 2, 1) := by decide +kernel
theorem dX9_isSo_7 : decode cX9_isSo 7 = .ok (.iconst 0, 1) := by decide +kernel
theorem dX9_isSo_8 : decode cX9_isSo 8 = .ok (.istore_n 3, 1) := by decide +kernel
theorem dX9_isSo_9 : decode cX9_isSo 9 = .ok (.iload_n 3, 1) := by decide +kernel
theorem dX9_isSo_10 : decode cX9_isSo 10 = .ok (.aload_n 0, 1) := by decide +kernel
theorem dX9_isSo_11 : decode cX9_isSo 11 = .ok (.getfield 195, 3) := by decide +kernel
theorem dX9_isSo_14 : decode cX9_isSo 14 = .ok (.if_icmp .ge 39, 3) := by decide +kernel
theorem dX9_isSo_17 : decode cX9_isSo 17 = .ok (.iload_n 2, 1) := by decide +kernel
theorem dX9_isSo_18 : decode cX9_isSo 18 = .ok (.ifCond .eq 27, 3) := by decide +kernel
theorem dX9_isSo_21 : decode cX9_isSo 21 = .ok (.aload_n 0, 1) := by decide +kernel
theorem dX9_isSo_22 : decode cX9_isSo 22 = .ok (.getfield 47, 3) := by decide +kernel
theorem dX9_isSo_25 : decode cX9_isSo 25 = .ok (.aload_n 0, 1) := by decide +kernel
theorem dX9_isSo_26 : decode cX9_isSo 26 = .ok (.getfield 29, 3) := by decide +kernel
theorem dX9_isSo_29 : decode cX9_isSo 29 = .ok (.iload_n 3, 1) := by decide +kernel
theorem dX9_isSo_30 : decode cX9_isSo 30 = .ok (.iaload, 1) := by decide +kernel
theorem dX9_isSo_31 : decode cX9_isSo 31 = .ok (.iaload, 1) := by decide +kernel
theorem dX9_isSo_32 : decode cX9_isSo 32 = .ok (.aload_n 0, 1) := by decide +kernel
theorem dX9_isSo_33 : decode cX9_isSo 33 = .ok (.getfield 32, 3) := by decide +kernel
theorem dX9_isSo_36 : decode cX9_isSo 36 = .ok (.iload_n 3, 1) := by decide +kernel
theorem dX9_isSo_37 : decode cX9_isSo 37 = .ok (.iaload, 1) := by decide +kernel
theorem dX9_isSo_38 : decode cX9_isSo 38 = .ok (.if_icmp .ne 7, 3) := by decide +kernel
theorem dX9_isSo_41 : decode cX9_isSo 41 = .ok (.iconst 1, 1) := by decide +kernel
theorem dX9_isSo_42 : decode cX9_isSo 42 = .ok (.goto 4, 3) := by decide +kernel
theorem dX9_isSo_45 : decode cX9_isSo 45 = .ok (.iconst 0, 1) := by decide +kernel
theorem dX9_isSo_46 : decode cX9_isSo 46 = .ok (.istore_n 2, 1) := by decide +kernel
theorem dX9_isSo_47 : decode cX9_isSo 47 = .ok (.iinc 3 1, 3) := by decide +kernel
theorem dX9_isSo_50 : decode cX9_isSo 50 = .ok (.goto (-41), 3) := by decide +kernel
theorem dX9_isSo_53 : decode cX9_isSo 53 = .ok (.iload_n 2, 1) := by decide +kernel
theorem dX9_isSo_54 : decode cX9_isSo 54 = .ok (.ireturn, 1) := by decide +kernel
theorem dX9_findLinks_0 : decode cX9_findLinks 0 = .ok (.iconst 0, 1) := by decide +kernel
theorem dX9_findLinks_1 : decode cX9_findLinks 1 = .ok (.istore_n 1, 1) := by decide +kernel
theorem dX9_findLinks_2 : decode cX9_findLinks 2 = .ok (.iconst 0, 1) := by decide +kernel
theorem dX9_findLinks_3 : decode cX9_findLinks 3 = .ok (.istore_n 2, 1) := by decide +kernel
theorem dX9_findLinks_4 : decode cX9_findLinks 4 = .ok (.iload_n 2, 1) := by decide +kernel
theorem dX9_findLinks_5 : decode cX9_findLinks 5 = .ok (.aload_n 0, 1) := by decide +kernel
theorem dX9_findLinks_6 : decode cX9_findLinks 6 = .ok (.invokevirtual 167, 3) := by decide +kernel
theorem dX9_findLinks_9 : decode cX9_findLinks 9 = .ok (.if_icmp .ge 78, 3) := by decide +kernel
theorem dX9_findLinks_12 : decode cX9_findLinks 12 = .ok (.aload_n 0, 1) := by decide +kernel
theorem dX9_findLinks_13 : decode cX9_findLinks 13 = .ok (.getfield 7, 3) := by decide +kernel
theorem dX9_findLinks_16 : decode cX9_findLinks 16 = .ok (.bipush 16, 2) := by decide +kernel
theorem dX9_findLinks_18 : decode cX9_findLinks 18 = .ok (.iaload, 1) := by decide +kernel
theorem dX9_findLinks_19 : decode cX9_findLinks 19 = .ok (.iload_n 2, 1) := by decide +kernel
theorem dX9_findLinks_20 : decode cX9_findLinks 20 = .ok (.invokestatic 124, 3) := by decide +kernel
theorem dX9_findLinks_23 : decode cX9_findLinks 23 = .ok (.ifCond .ne 58, 3) := by decide +kernel
theorem dX9_findLinks_26 : decode cX9_findLinks 26 = .ok (.aload_n 0, 1) := by decide +kernel
theorem dX9_findLinks_27 : decode cX9_findLinks 27 = .ok (.aload_n 0, 1) := by decide +kernel
theorem dX9_findLinks_28 : decode cX9_findLinks 28 = .ok (.getfield 7, 3) := by decide +kernel
theorem dX9_findLinks_31 : decode cX9_findLinks 31 = .ok (.bipush 16, 2) := by decide +kernel
theorem dX9_findLinks_33 : decode cX9_findLinks 33 = .ok (.iaload, 1) := by decide +kernel
theorem dX9_findLinks_34 : decode cX9_findLinks 34 = .ok (.iconst 1, 1) := by decide +kernel
theorem dX9_findLinks_35 : decode cX9_findLinks 35 = .ok (.iload_n 2, 1) := by decide +kernel
theorem dX9_findLinks_36 : decode cX9_findLinks 36 = .ok (.ishl, 1) := by decide +kernel
theorem dX9_findLinks_37 : decode cX9_findLinks 37 = .ok (.ior, 1) := by decide +kernel
theorem dX9_findLinks_38 : decode cX9_findLinks 38 = .ok (.invokevirtual 198, 3) := by decide +kernel
theorem dX9_findLinks_41 : decode cX9_findLinks 41 = .ok (.ifCond .eq 40, 3) := by decide +kernel
theorem dX9_findLinks_44 : decode cX9_findLinks 44 = .ok (.iload_n 1, 1) := by decide +kernel
theorem dX9_findLinks_45 : decode cX9_findLinks 45 = .ok (.iconst 1, 1) := by decide +kernel
theorem dX9_findLinks_46 : decode cX9_findLinks 46 = .ok (.iload_n 2, 1) := by decide +kernel
theorem dX9_findLinks_47 : decode cX9_findLinks 47 = .ok (.ishl, 1) := by decide +kernel
theorem dX9_findLinks_48 : decode cX9_findLinks 48 = .ok (.ior, 1) := by decide +kernel
theorem dX9_findLinks_49 : decode cX9_findLinks 49 = .ok (.istore_n 1, 1) := by decide +kernel
theorem dX9_findLinks_50 : decode cX9_findLinks 50 = .ok (.iconst 0, 1) := by decide +kernel
theorem dX9_findLinks_51 : decode cX9_findLinks 51 = .ok (.istore_n 3, 1) := by decide +kernel
theorem dX9_findLinks_52 : decode cX9_findLinks 52 = .ok (.iload_n 3, 1) := by decide +kernel
theorem dX9_findLinks_53 : decode cX9_findLinks 53 = .ok (.bipush 6, 2) := by decide +kernel
theorem dX9_findLinks_55 : decode cX9_findLinks 55 = .ok (.if_icmp .ge 26, 3) := by decide +kernel
theorem dX9_findLinks_58 : decode cX9_findLinks 58 = .ok (.aload_n 0, 1) := by decide +kernel
theorem dX9_findLinks_59 : decode cX9_findLinks 59 = .ok (.getfield 53, 3) := by decide +kernel
theorem dX9_findLinks_62 : decode cX9_findLinks 62 = .ok (.bipush 6, 2) := by decide +kernel
theorem dX9_findLinks_64 : decode cX9_findLinks 64 = .ok (.iload_n 2, 1) := by decide +kernel
theorem dX9_findLinks_65 : decode cX9_findLinks 65 = .ok (.imul, 1) := by decide +kernel
theorem dX9_findLinks_66 : decode cX9_findLinks 66 = .ok (.iload_n 3, 1) := by decide +kernel
theorem dX9_findLinks_67 : decode cX9_findLinks 67 = .ok (.iadd, 1) := by decide +kernel
theorem dX9_findLinks_68 : decode cX9_findLinks 68 = .ok (.aload_n 0, 1) := by decide +kernel
theorem dX9_findLinks_69 : decode cX9_findLinks 69 = .ok (.getfield 47, 3) := by decide +kernel
theorem dX9_findLinks_72 : decode cX9_findLinks 72 = .ok (.iload_n 3, 1) := by decide +kernel
theorem dX9_findLinks_73 : decode cX9_findLinks 73 = .ok (.iaload, 1) := by decide +kernel
theorem dX9_findLinks_74 : decode cX9_findLinks 74 = .ok (.iastore, 1) := by decide +kernel
theorem dX9_findLinks_75 : decode cX9_findLinks 75 = .ok (.iinc 3 1, 3) := by decide +kernel
theorem dX9_findLinks_78 : decode cX9_findLinks 78 = .ok (.goto (-26), 3) := by decide +kernel
theorem dX9_findLinks_81 : decode cX9_findLinks 81 = .ok (.iinc 2 1, 3) := by decide +kernel
theorem dX9_findLinks_84 : decode cX9_findLinks 84 = .ok (.goto (-80), 3) := by decide +kernel
theorem dX9_findLinks_87 : decode cX9_findLinks 87 = .ok (.iload_n 1, 1) := by decide +kernel
theorem dX9_findLinks_88 : decode cX9_findLinks 88 = .ok (.ireturn, 1) := by decide +kernel
theorem dX9_which_0 : decode cX9_which 0 = .ok (.iload_n 1, 1) := by decide +kernel
theorem dX9_which_1 : decode cX9_which 1 = .ok (.iconst 0, 1) := by decide +kernel
theorem dX9_which_2 : decode cX9_which 2 = .ok (.iconst 2, 1) := by decide +kernel
theorem dX9_which_3 : decode cX9_which 3 = .ok (.invokestatic 76, 3) := by decide +kernel
theorem dX9_which_6 : decode cX9_which 6 = .ok (.ifCond .ne 5, 3) := by decide +kernel
theorem dX9_which_9 : decode cX9_which 9 = .ok (.iconst (-1), 1) := by decide +kernel
theorem dX9_which_10 : decode cX9_which 10 = .ok (.ireturn, 1) := by decide +kernel
theorem dX9_which_11 : decode cX9_which 11 = .ok (.iload_n 1, 1) := by decide +kernel
theorem dX9_which_12 : decode cX9_which 12 = .ok (.iconst 2, 1) := by decide +kernel
theorem dX9_which_13 : decode cX9_which 13 = .ok (.if_icmp .ne 23, 3) := by decide +kernel
theorem dX9_which_16 : decode cX9_which 16 = .ok (.aload_n 0, 1) := by decide +kernel
theorem dX9_which_17 : decode cX9_which 17 = .ok (.aload_n 0, 1) := by decide +kernel
theorem dX9_which_18 : decode cX9_which 18 = .ok (.getfield 7, 3) := by decide +kernel
theorem dX9_which_21 : decode cX9_which 21 = .ok (.bipush 16, 2) := by decide +kernel
theorem dX9_which_23 : decode cX9_which 23 = .ok (.iaload, 1) := by decide +kernel
theorem dX9_which_24 : decode cX9_which 24 = .ok (.invokevirtual 198, 3) := by decide +kernel
theorem dX9_which_27 : decode cX9_which 27 = .ok (.ifCond .eq 7, 3) := by decide +kernel
theorem dX9_which_30 : decode cX9_which 30 = .ok (.iconst 1, 1) := by decide +kernel
theorem dX9_which_31 : decode cX9_which 31 = .ok (.goto 4, 3) := by decide +kernel
theorem dX9_which_34 : decode cX9_which 34 = .ok (.iconst 0, 1) := by decide +kernel
theorem dX9_which_35 : decode cX9_which 35 = .ok (.ireturn, 1) := by decide +kernel
theorem dX9_which_36 : decode cX9_which 36 = .ok (.aload_n 0, 1) := by decide +kernel
theorem dX9_which_37 : decode cX9_which 37 = .ok (.invokevirtual 201, 3) := by decide +kernel
theorem dX9_which_40 : decode cX9_which 40 = .ok (.istore_n 2, 1) := by decide +kernel
theorem dX9_which_41 : decode cX9_which 41 = .ok (.iload_n 1, 1) := by decide +kernel
theorem dX9_which_42 : decode cX9_which 42 = .ok (.ifCond .ne 8, 3) := by decide +kernel
theorem dX9_which_45 : decode cX9_which 45 = .ok (.iload_n 2, 1) := by decide +kernel
theorem dX9_which_46 : decode cX9_which 46 = .ok (.invokestatic 173, 3) := by decide +kernel
theorem dX9_which_49 : decode cX9_which 49 = .ok (.ireturn, 1) := by decide +kernel
theorem dX9_which_50 : decode cX9_which 50 = .ok (.iconst 0, 1) := by decide +kernel
theorem dX9_which_51 : decode cX9_which 51 = .ok (.istore_n 3, 1) := by decide +kernel
theorem dX9_which_52 : decode cX9_which 52 = .ok (.iload_n 3, 1) := by decide +kernel
theorem dX9_which_53 : decode cX9_which 53 = .ok (.bipush 7, 2) := by decide +kernel
theorem dX9_which_55 : decode cX9_which 55 = .ok (.if_icmp .ge 19, 3) := by decide +kernel
theorem dX9_which_58 : decode cX9_which 58 = .ok (.iload_n 2, 1) := by decide +kernel
theorem dX9_which_59 : decode cX9_which 59 = .ok (.iload_n 3, 1) := by decide +kernel
theorem dX9_which_60 : decode cX9_which 60 = .ok (.invokestatic 124, 3) := by decide +kernel
theorem dX9_which_63 : decode cX9_which 63 = .ok (.ifCond .eq 5, 3) := by decide +kernel
theorem dX9_which_66 : decode cX9_which 66 = .ok (.iload_n 3, 1) := by decide +kernel
theorem dX9_which_67 : decode cX9_which 67 = .ok (.ireturn, 1) := by decide +kernel
theorem dX9_which_68 : decode cX9_which 68 = .ok (.iinc 3 1, 3) := by decide +kernel
theorem dX9_which_71 : decode cX9_which 71 = .ok (.goto (-19), 3) := by decide +kernel
theorem dX9_which_74 : decode cX9_which 74 = .ok (.bipush (-9), 2) := by decide +kernel
theorem dX9_which_76 : decode cX9_which 76 = .ok (.ireturn, 1) := by decide +kernel
theorem dX9_ask_0 : decode cX9_ask 0 = .ok (.aload_n 0, 1) := by decide +kernel
theorem dX9_ask_1 : decode cX9_ask 1 = .ok (.invokevirtual 201, 3) := by decide +kernel
theorem dX9_ask_4 : decode cX9_ask 4 = .ok (.istore_n 1, 1) := by decide +kernel
theorem dX9_ask_5 : decode cX9_ask 5 = .ok (.iload_n 1, 1) := by decide +kernel
theorem dX9_ask_6 : decode cX9_ask 6 = .ok (.invokestatic 173, 3) := by decide +kernel
theorem dX9_ask_9 : decode cX9_ask 9 = .ok (.iconst 2, 1) := by decide +kernel
theorem dX9_ask_10 : decode cX9_ask 10 = .ok (.if_icmp .ge 6, 3) := by decide +kernel
theorem dX9_ask_13 : decode cX9_ask 13 = .ok (.bipush (-9), 2) := by decide +kernel
theorem dX9_ask_15 : decode cX9_ask 15 = .ok (.ireturn, 1) := by decide +kernel
theorem dX9_ask_16 : decode cX9_ask 16 = .ok (.bipush (-9), 2) := by decide +kernel
theorem dX9_ask_18 : decode cX9_ask 18 = .ok (.istore_n 2, 1) := by decide +kernel
theorem dX9_ask_19 : decode cX9_ask 19 = .ok (.bipush 8, 2) := by decide +kernel
theorem dX9_ask_21 : decode cX9_ask 21 = .ok (.istore_n 3, 1) := by decide +kernel
theorem dX9_ask_22 : decode cX9_ask 22 = .ok (.iconst 0, 1) := by decide +kernel
theorem dX9_ask_23 : decode cX9_ask 23 = .ok (.istore 4, 2) := by decide +kernel
theorem dX9_ask_25 : decode cX9_ask 25 = .ok (.iload 4, 2) := by decide +kernel
theorem dX9_ask_27 : decode cX9_ask 27 = .ok (.bipush 6, 2) := by decide +kernel
theorem dX9_ask_29 : decode cX9_ask 29 = .ok (.if_icmp .ge 146, 3) := by decide +kernel
theorem dX9_ask_32 : decode cX9_ask 32 = .ok (.iconst 0, 1) := by decide +kernel
theorem dX9_ask_33 : decode cX9_ask 33 = .ok (.istore 5, 2) := by decide +kernel
theorem dX9_ask_35 : decode cX9_ask 35 = .ok (.iconst 0, 1) := by decide +kernel
theorem dX9_ask_36 : decode cX9_ask 36 = .ok (.istore 6, 2) := by decide +kernel
theorem dX9_ask_38 : decode cX9_ask 38 = .ok (.iload 6, 2) := by decide +kernel
theorem dX9_ask_40 : decode cX9_ask 40 = .ok (.bipush 7, 2) := by decide +kernel
theorem dX9_ask_42 : decode cX9_ask 42 = .ok (.if_icmp .ge 101, 3) := by decide +kernel
theorem dX9_ask_45 : decode cX9_ask 45 = .ok (.iconst 0, 1) := by decide +kernel
theorem dX9_ask_46 : decode cX9_ask 46 = .ok (.istore 7, 2) := by decide +kernel
theorem dX9_ask_48 : decode cX9_ask 48 = .ok (.iconst 0, 1) := by decide +kernel
theorem dX9_ask_49 : decode cX9_ask 49 = .ok (.istore 8, 2) := by decide +kernel
theorem dX9_ask_51 : decode cX9_ask 51 = .ok (.iload 8, 2) := by decide +kernel
theorem dX9_ask_53 : decode cX9_ask 53 = .ok (.bipush 7, 2) := by decide +kernel
theorem dX9_ask_55 : decode cX9_ask 55 = .ok (.if_icmp .ge 66, 3) := by decide +kernel
theorem dX9_ask_58 : decode cX9_ask 58 = .ok (.iload 7, 2) := by decide +kernel
theorem dX9_ask_60 : decode cX9_ask 60 = .ok (.iload_n 1, 1) := by decide +kernel
theorem dX9_ask_61 : decode cX9_ask 61 = .ok (.iload 6, 2) := by decide +kernel
theorem dX9_ask_63 : decode cX9_ask 63 = .ok (.invokestatic 124, 3) := by decide +kernel
theorem dX9_ask_66 : decode cX9_ask 66 = .ok (.ifCond .eq 45, 3) := by decide +kernel
theorem dX9_ask_69 : decode cX9_ask 69 = .ok (.iload_n 1, 1) := by decide +kernel
theorem dX9_ask_70 : decode cX9_ask 70 = .ok (.iload 8, 2) := by decide +kernel
theorem dX9_ask_72 : decode cX9_ask 72 = .ok (.invokestatic 124, 3) := by decide +kernel
theorem dX9_ask_75 : decode cX9_ask 75 = .ok (.ifCond .eq 36, 3) := by decide +kernel
theorem dX9_ask_78 : decode cX9_ask 78 = .ok (.aload_n 0, 1) := by decide +kernel
theorem dX9_ask_79 : decode cX9_ask 79 = .ok (.getfield 53, 3) := by decide +kernel
theorem dX9_ask_82 : decode cX9_ask 82 = .ok (.bipush 6, 2) := by decide +kernel
theorem dX9_ask_84 : decode cX9_ask 84 = .ok (.iload 6, 2) := by decide +kernel
theorem dX9_ask_86 : decode cX9_ask 86 = .ok (.imul, 1) := by decide +kernel
theorem dX9_ask_87 : decode cX9_ask 87 = .ok (.iload 4, 2) := by decide +kernel
theorem dX9_ask_89 : decode cX9_ask 89 = .ok (.iadd, 1) := by decide +kernel
theorem dX9_ask_90 : decode cX9_ask 90 = .ok (.iaload, 1) := by decide +kernel
theorem dX9_ask_91 : decode cX9_ask 91 = .ok (.aload_n 0, 1) := by decide +kernel
theorem dX9_ask_92 : decode cX9_ask 92 = .ok (.getfield 53, 3) := by decide +kernel
theorem dX9_ask_95 : decode cX9_ask 95 = .ok (.bipush 6, 2) := by decide +kernel
theorem dX9_ask_97 : decode cX9_ask 97 = .ok (.iload 8, 2) := by decide +kernel
theorem dX9_ask_99 : decode cX9_ask 99 = .ok (.imul, 1) := by decide +kernel
theorem dX9_ask_100 : decode cX9_ask 100 = .ok (.iload 4, 2) := by decide +kernel
theorem dX9_ask_102 : decode cX9_ask 102 = .ok (.iadd, 1) := by decide +kernel
theorem dX9_ask_103 : decode cX9_ask 103 = .ok (.iaload, 1) := by decide +kernel
theorem dX9_ask_104 : decode cX9_ask 104 = .ok (.if_icmp .ne 7, 3) := by decide +kernel
theorem dX9_ask_107 : decode cX9_ask 107 = .ok (.iconst 1, 1) := by decide +kernel
theorem dX9_ask_108 : decode cX9_ask 108 = .ok (.goto 4, 3) := by decide +kernel
theorem dX9_ask_111 : decode cX9_ask 111 = .ok (.iconst 0, 1) := by decide +kernel
theorem dX9_ask_112 : decode cX9_ask 112 = .ok (.iadd, 1) := by decide +kernel
theorem dX9_ask_113 : decode cX9_ask 113 = .ok (.istore 7, 2) := by decide +kernel
theorem dX9_ask_115 : decode cX9_ask 115 = .ok (.iinc 8 1, 3) := by decide +kernel
theorem dX9_ask_118 : decode cX9_ask 118 = .ok (.goto (-67), 3) := by decide +kernel
theorem dX9_ask_121 : decode cX9_ask 121 = .ok (.iload 7, 2) := by decide +kernel
theorem dX9_ask_123 : decode cX9_ask 123 = .ok (.iload 5, 2) := by decide +kernel
theorem dX9_ask_125 : decode cX9_ask 125 = .ok (.if_icmp .le 8, 3) := by decide +kernel
theorem dX9_ask_128 : decode cX9_ask 128 = .ok (.iload 7, 2) := by decide +kernel
theorem dX9_ask_130 : decode cX9_ask 130 = .ok (.goto 5, 3) := by decide +kernel
theorem dX9_ask_133 : decode cX9_ask 133 = .ok (.iload 5, 2) := by decide +kernel
theorem dX9_ask_135 : decode cX9_ask 135 = .ok (.istore 5, 2) := by decide +kernel
theorem dX9_ask_137 : decode cX9_ask 137 = .ok (.iinc 6 1, 3) := by decide +kernel
theorem dX9_ask_140 : decode cX9_ask 140 = .ok (.goto (-102), 3) := by decide +kernel
theorem dX9_ask_143 : decode cX9_ask 143 = .ok (.iload 5, 2) := by decide +kernel
theorem dX9_ask_145 : decode cX9_ask 145 = .ok (.iload_n 3, 1) := by decide +kernel
theorem dX9_ask_146 : decode cX9_ask 146 = .ok (.if_icmp .ge 8, 3) := by decide +kernel
theorem dX9_ask_149 : decode cX9_ask 149 = .ok (.iload 4, 2) := by decide +kernel
theorem dX9_ask_151 : decode cX9_ask 151 = .ok (.goto 4, 3) := by decide +kernel
theorem dX9_ask_154 : decode cX9_ask 154 = .ok (.iload_n 2, 1) := by decide +kernel
theorem dX9_ask_155 : decode cX9_ask 155 = .ok (.istore_n 2, 1) := by decide +kernel
theorem dX9_ask_156 : decode cX9_ask 156 = .ok (.iload 5, 2) := by decide +kernel
theorem dX9_ask_158 : decode cX9_ask 158 = .ok (.iload_n 3, 1) := by decide +kernel
theorem dX9_ask_159 : decode cX9_ask 159 = .ok (.if_icmp .ge 8, 3) := by decide +kernel
theorem dX9_ask_162 : decode cX9_ask 162 = .ok (.iload 5, 2) := by decide +kernel
theorem dX9_ask_164 : decode cX9_ask 164 = .ok (.goto 4, 3) := by decide +kernel
theorem dX9_ask_167 : decode cX9_ask 167 = .ok (.iload_n 3, 1) := by decide +kernel
theorem dX9_ask_168 : decode cX9_ask 168 = .ok (.istore_n 3, 1) := by decide +kernel
theorem dX9_ask_169 : decode cX9_ask 169 = .ok (.iinc 4 1, 3) := by decide +kernel
theorem dX9_ask_172 : decode cX9_ask 172 = .ok (.goto (-147), 3) := by decide +kernel
theorem dX9_ask_175 : decode cX9_ask 175 = .ok (.iload_n 2, 1) := by decide +kernel
theorem dX9_ask_176 : decode cX9_ask 176 = .ok (.ireturn, 1) := by decide +kernel
theorem dX9_keep_0 : decode cX9_keep 0 = .ok (.iload_n 1, 1) := by decide +kernel
theorem dX9_keep_1 : decode cX9_keep 1 = .ok (.iconst 0, 1) := by decide +kernel
theorem dX9_keep_2 : decode cX9_keep 2 = .ok (.iconst 1, 1) := by decide +kernel
theorem dX9_keep_3 : decode cX9_keep 3 = .ok (.invokestatic 76, 3) := by decide +kernel
theorem dX9_keep_6 : decode cX9_keep 6 = .ok (.ifCond .ne 5, 3) := by decide +kernel
theorem dX9_keep_9 : decode cX9_keep 9 = .ok (.iconst (-1), 1) := by decide +kernel
theorem dX9_keep_10 : decode cX9_keep 10 = .ok (.ireturn, 1) := by decide +kernel
theorem dX9_keep_11 : decode cX9_keep 11 = .ok (.aload_n 0, 1) := by decide +kernel
theorem dX9_keep_12 : decode cX9_keep 12 = .ok (.getfield 7, 3) := by decide +kernel
theorem dX9_keep_15 : decode cX9_keep 15 = .ok (.iconst 0, 1) := by decide +kernel
theorem dX9_keep_16 : decode cX9_keep 16 = .ok (.aload_n 0, 1) := by decide +kernel
theorem dX9_keep_17 : decode cX9_keep 17 = .ok (.getfield 19, 3) := by decide +kernel
theorem dX9_keep_20 : decode cX9_keep 20 = .ok (.bipush 99, 2) := by decide +kernel
theorem dX9_keep_22 : decode cX9_keep 22 = .ok (.iload_n 1, 1) := by decide +kernel
theorem dX9_keep_23 : decode cX9_keep 23 = .ok (.imul, 1) := by decide +kernel
theorem dX9_keep_24 : decode cX9_keep 24 = .ok (.invokestatic 59, 3) := by decide +kernel
theorem dX9_keep_27 : decode cX9_keep 27 = .ok (.aload_n 0, 1) := by decide +kernel
theorem dX9_keep_28 : decode cX9_keep 28 = .ok (.getfield 22, 3) := by decide +kernel
theorem dX9_keep_31 : decode cX9_keep 31 = .ok (.iload_n 1, 1) := by decide +kernel
theorem dX9_keep_32 : decode cX9_keep 32 = .ok (.iconst 1, 1) := by decide +kernel
theorem dX9_keep_33 : decode cX9_keep 33 = .ok (.bastore, 1) := by decide +kernel
theorem dX9_keep_34 : decode cX9_keep 34 = .ok (.aload_n 0, 1) := by decide +kernel
theorem dX9_keep_35 : decode cX9_keep 35 = .ok (.getfield 7, 3) := by decide +kernel
theorem dX9_keep_38 : decode cX9_keep 38 = .ok (.iconst 0, 1) := by decide +kernel
theorem dX9_keep_39 : decode cX9_keep 39 = .ok (.iaload, 1) := by decide +kernel
theorem dX9_keep_40 : decode cX9_keep 40 = .ok (.ireturn, 1) := by decide +kernel
theorem dX9_back_0 : decode cX9_back 0 = .ok (.iload_n 1, 1) := by decide +kernel
theorem dX9_back_1 : decode cX9_back 1 = .ok (.iconst 0, 1) := by decide +kernel
theorem dX9_back_2 : decode cX9_back 2 = .ok (.iconst 1, 1) := by decide +kernel
theorem dX9_back_3 : decode cX9_back 3 = .ok (.invokestatic 76, 3) := by decide +kernel
theorem dX9_back_6 : decode cX9_back 6 = .ok (.ifCond .ne 5, 3) := by decide +kernel
theorem dX9_back_9 : decode cX9_back 9 = .ok (.iconst (-1), 1) := by decide +kernel
theorem dX9_back_10 : decode cX9_back 10 = .ok (.ireturn, 1) := by decide +kernel
theorem dX9_back_11 : decode cX9_back 11 = .ok (.aload_n 0, 1) := by decide +kernel
theorem dX9_back_12 : decode cX9_back 12 = .ok (.getfield 22, 3) := by decide +kernel
theorem dX9_back_15 : decode cX9_back 15 = .ok (.iload_n 1, 1) := by decide +kernel
theorem dX9_back_16 : decode cX9_back 16 = .ok (.baload, 1) := by decide +kernel
theorem dX9_back_17 : decode cX9_back 17 = .ok (.ifCond .ne 6, 3) := by decide +kernel
theorem dX9_back_20 : decode cX9_back 20 = .ok (.bipush (-2), 2) := by decide +kernel
theorem dX9_back_22 : decode cX9_back 22 = .ok (.ireturn, 1) := by decide +kernel
theorem dX9_back_23 : decode cX9_back 23 = .ok (.aload_n 0, 1) := by decide +kernel
theorem dX9_back_24 : decode cX9_back 24 = .ok (.getfield 19, 3) := by decide +kernel
theorem dX9_back_27 : decode cX9_back 27 = .ok (.bipush 99, 2) := by decide +kernel
theorem dX9_back_29 : decode cX9_back 29 = .ok (.iload_n 1, 1) := by decide +kernel
theorem dX9_back_30 : decode cX9_back 30 = .ok (.imul, 1) := by decide +kernel
theorem dX9_back_31 : decode cX9_back 31 = .ok (.aload_n 0, 1) := by decide +kernel
theorem dX9_back_32 : decode cX9_back 32 = .ok (.getfield 7, 3) := by decide +kernel
theorem dX9_back_35 : decode cX9_back 35 = .ok (.iconst 0, 1) := by decide +kernel
theorem dX9_back_36 : decode cX9_back 36 = .ok (.invokestatic 59, 3) := by decide +kernel
theorem dX9_back_39 : decode cX9_back 39 = .ok (.aload_n 0, 1) := by decide +kernel
theorem dX9_back_40 : decode cX9_back 40 = .ok (.iconst 0, 1) := by decide +kernel
theorem dX9_back_41 : decode cX9_back 41 = .ok (.putfield 164, 3) := by decide +kernel
theorem dX9_back_44 : decode cX9_back 44 = .ok (.aload_n 0, 1) := by decide +kernel
theorem dX9_back_45 : decode cX9_back 45 = .ok (.getfield 7, 3) := by decide +kernel
theorem dX9_back_48 : decode cX9_back 48 = .ok (.iconst 0, 1) := by decide +kernel
theorem dX9_back_49 : decode cX9_back 49 = .ok (.iaload, 1) := by decide +kernel
theorem dX9_back_50 : decode cX9_back 50 = .ok (.ireturn, 1) := by decide +kernel
theorem dX9_spread_0 : decode cX9_spread 0 = .ok (.aload_n 0, 1) := by decide +kernel
theorem dX9_spread_1 : decode cX9_spread 1 = .ok (.iconst 0, 1) := by decide +kernel
theorem dX9_spread_2 : decode cX9_spread 2 = .ok (.invokevirtual 186, 3) := by decide +kernel
theorem dX9_spread_5 : decode cX9_spread 5 = .ok (.istore_n 1, 1) := by decide +kernel
theorem dX9_spread_6 : decode cX9_spread 6 = .ok (.aload_n 0, 1) := by decide +kernel
theorem dX9_spread_7 : decode cX9_spread 7 = .ok (.iconst 0, 1) := by decide +kernel
theorem dX9_spread_8 : decode cX9_spread 8 = .ok (.invokevirtual 186, 3) := by decide +kernel
theorem dX9_spread_11 : decode cX9_spread 11 = .ok (.istore_n 2, 1) := by decide +kernel
theorem dX9_spread_12 : decode cX9_spread 12 = .ok (.iconst 1, 1) := by decide +kernel
theorem dX9_spread_13 : decode cX9_spread 13 = .ok (.istore_n 3, 1) := by decide +kernel
theorem dX9_spread_14 : decode cX9_spread 14 = .ok (.iload_n 3, 1) := by decide +kernel
theorem dX9_spread_15 : decode cX9_spread 15 = .ok (.aload_n 0, 1) := by decide +kernel
theorem dX9_spread_16 : decode cX9_spread 16 = .ok (.getfield 7, 3) := by decide +kernel
theorem dX9_spread_19 : decode cX9_spread 19 = .ok (.iconst 0, 1) := by decide +kernel
theorem dX9_spread_20 : decode cX9_spread 20 = .ok (.iaload, 1) := by decide +kernel
theorem dX9_spread_21 : decode cX9_spread 21 = .ok (.if_icmp .ge 47, 3) := by decide +kernel
theorem dX9_spread_24 : decode cX9_spread 24 = .ok (.aload_n 0, 1) := by decide +kernel
theorem dX9_spread_25 : decode cX9_spread 25 = .ok (.iload_n 3, 1) := by decide +kernel
theorem dX9_spread_26 : decode cX9_spread 26 = .ok (.invokevirtual 186, 3) := by decide +kernel
theorem dX9_spread_29 : decode cX9_spread 29 = .ok (.iload_n 1, 1) := by decide +kernel
theorem dX9_spread_30 : decode cX9_spread 30 = .ok (.if_icmp .ge 11, 3) := by decide +kernel
theorem dX9_spread_33 : decode cX9_spread 33 = .ok (.aload_n 0, 1) := by decide +kernel
theorem dX9_spread_34 : decode cX9_spread 34 = .ok (.iload_n 3, 1) := by decide +kernel
theorem dX9_spread_35 : decode cX9_spread 35 = .ok (.invokevirtual 186, 3) := by decide +kernel
theorem dX9_spread_38 : decode cX9_spread 38 = .ok (.goto 4, 3) := by decide +kernel
theorem dX9_spread_41 : decode cX9_spread 41 = .ok (.iload_n 1, 1) := by decide +kernel
theorem dX9_spread_42 : decode cX9_spread 42 = .ok (.istore_n 1, 1) := by decide +kernel
theorem dX9_spread_43 : decode cX9_spread 43 = .ok (.aload_n 0, 1) := by decide +kernel
theorem dX9_spread_44 : decode cX9_spread 44 = .ok (.iload_n 3, 1) := by decide +kernel
theorem dX9_spread_45 : decode cX9_spread 45 = .ok (.invokevirtual 186, 3) := by decide +kernel
theorem dX9_spread_48 : decode cX9_spread 48 = .ok (.iload_n 2, 1) := by decide +kernel
theorem dX9_spread_49 : decode cX9_spread 49 = .ok (.if_icmp .le 11, 3) := by decide +kernel
theorem dX9_spread_52 : decode cX9_spread 52 = .ok (.aload_n 0, 1) := by decide +kernel
theorem dX9_spread_53 : decode cX9_spread 53 = .ok (.iload_n 3, 1) := by decide +kernel
theorem dX9_spread_54 : decode cX9_spread 54 = .ok (.invokevirtual 186, 3) := by decide +kernel
theorem dX9_spread_57 : decode cX9_spread 57 = .ok (.goto 4, 3) := by decide +kernel
theorem dX9_spread_60 : decode cX9_spread 60 = .ok (.iload_n 2, 1) := by decide +kernel
theorem dX9_spread_61 : decode cX9_spread 61 = .ok (.istore_n 2, 1) := by decide +kernel
theorem dX9_spread_62 : decode cX9_spread 62 = .ok (.iinc 3 1, 3) := by decide +kernel
theorem dX9_spread_65 : decode cX9_spread 65 = .ok (.goto (-51), 3) := by decide +kernel
theorem dX9_spread_68 : decode cX9_spread 68 = .ok (.iload_n 2, 1) := by decide +kernel
theorem dX9_spread_69 : decode cX9_spread 69 = .ok (.iload_n 1, 1) := by decide +kernel
theorem dX9_spread_70 : decode cX9_spread 70 = .ok (.isub, 1) := by decide +kernel
theorem dX9_spread_71 : decode cX9_spread 71 = .ok (.ireturn, 1) := by decide +kernel
theorem dX9_count_0 : decode cX9_count 0 = .ok (.iload_n 1, 1) := by decide +kernel
theorem dX9_count_1 : decode cX9_count 1 = .ok (.tableswitch 152 0 12 #[67, 74, 79, 86, 93, 100, 111, 116, 124, 132, 137, 142, 147], 67) := by decide +kernel
theorem dX9_count_68 : decode cX9_count 68 = .ok (.aload_n 0, 1) := by decide +kernel
theorem dX9_count_69 : decode cX9_count 69 = .ok (.getfield 7, 3) := by decide +kernel
theorem dX9_count_72 : decode cX9_count 72 = .ok (.iconst 0, 1) := by decide +kernel
theorem dX9_count_73 : decode cX9_count 73 = .ok (.iaload, 1) := by decide +kernel
theorem dX9_count_74 : decode cX9_count 74 = .ok (.ireturn, 1) := by decide +kernel
theorem dX9_count_75 : decode cX9_count 75 = .ok (.aload_n 0, 1) := by decide +kernel
theorem dX9_count_76 : decode cX9_count 76 = .ok (.invokevirtual 167, 3) := by decide +kernel
theorem dX9_count_79 : decode cX9_count 79 = .ok (.ireturn, 1) := by decide +kernel
theorem dX9_count_80 : decode cX9_count 80 = .ok (.aload_n 0, 1) := by decide +kernel
theorem dX9_count_81 : decode cX9_count 81 = .ok (.getfield 7, 3) := by decide +kernel
theorem dX9_count_84 : decode cX9_count 84 = .ok (.iconst 1, 1) := by decide +kernel
theorem dX9_count_85 : decode cX9_count 85 = .ok (.iaload, 1) := by decide +kernel
theorem dX9_count_86 : decode cX9_count 86 = .ok (.ireturn, 1) := by decide +kernel
theorem dX9_count_87 : decode cX9_count 87 = .ok (.aload_n 0, 1) := by decide +kernel
theorem dX9_count_88 : decode cX9_count 88 = .ok (.getfield 7, 3) := by decide +kernel
theorem dX9_count_91 : decode cX9_count 91 = .ok (.iconst 2, 1) := by decide +kernel
theorem dX9_count_92 : decode cX9_count 92 = .ok (.iaload, 1) := by decide +kernel
theorem dX9_count_93 : decode cX9_count 93 = .ok (.ireturn, 1) := by decide +kernel
theorem dX9_count_94 : decode cX9_count 94 = .ok (.aload_n 0, 1) := by decide +kernel
theorem dX9_count_95 : decode cX9_count 95 = .ok (.getfield 7, 3) := by decide +kernel
theorem dX9_count_98 : decode cX9_count 98 = .ok (.iconst 3, 1) := by decide +kernel
theorem dX9_count_99 : decode cX9_count 99 = .ok (.iaload, 1) := by decide +kernel
theorem dX9_count_100 : decode cX9_count 100 = .ok (.ireturn, 1) := by decide +kernel
theorem dX9_count_101 : decode cX9_count 101 = .ok (.aload_n 0, 1) := by decide +kernel
theorem dX9_count_102 : decode cX9_count 102 = .ok (.getfield 7, 3) := by decide +kernel
theorem dX9_count_105 : decode cX9_count 105 = .ok (.bipush 16, 2) := by decide +kernel
theorem dX9_count_107 : decode cX9_count 107 = .ok (.iaload, 1) := by decide +kernel
theorem dX9_count_108 : decode cX9_count 108 = .ok (.invokestatic 173, 3) := by decide +kernel
theorem dX9_count_111 : decode cX9_count 111 = .ok (.ireturn, 1) := by decide +kernel
theorem dX9_count_112 : decode cX9_count 112 = .ok (.aload_n 0, 1) := by decide +kernel
theorem dX9_count_113 : decode cX9_count 113 = .ok (.invokevirtual 179, 3) := by decide +kernel
theorem dX9_count_116 : decode cX9_count 116 = .ok (.ireturn, 1) := by decide +kernel
theorem dX9_count_117 : decode cX9_count 117 = .ok (.aload_n 0, 1) := by decide +kernel
theorem dX9_count_118 : decode cX9_count 118 = .ok (.getfield 7, 3) := by decide +kernel
theorem dX9_count_121 : decode cX9_count 121 = .ok (.bipush 7, 2) := by decide +kernel
theorem dX9_count_123 : decode cX9_count 123 = .ok (.iaload, 1) := by decide +kernel
theorem dX9_count_124 : decode cX9_count 124 = .ok (.ireturn, 1) := by decide +kernel
theorem dX9_count_125 : decode cX9_count 125 = .ok (.aload_n 0, 1) := by decide +kernel
theorem dX9_count_126 : decode cX9_count 126 = .ok (.getfield 7, 3) := by decide +kernel
theorem dX9_count_129 : decode cX9_count 129 = .ok (.bipush 8, 2) := by decide +kernel
theorem dX9_count_131 : decode cX9_count 131 = .ok (.iaload, 1) := by decide +kernel
theorem dX9_count_132 : decode cX9_count 132 = .ok (.ireturn, 1) := by decide +kernel
theorem dX9_count_133 : decode cX9_count 133 = .ok (.aload_n 0, 1) := by decide +kernel
theorem dX9_count_134 : decode cX9_count 134 = .ok (.invokevirtual 204, 3) := by decide +kernel
theorem dX9_count_137 : decode cX9_count 137 = .ok (.ireturn, 1) := by decide +kernel
theorem dX9_count_138 : decode cX9_count 138 = .ok (.aload_n 0, 1) := by decide +kernel
theorem dX9_count_139 : decode cX9_count 139 = .ok (.getfield 195, 3) := by decide +kernel
theorem dX9_count_142 : decode cX9_count 142 = .ok (.ireturn, 1) := by decide +kernel
theorem dX9_count_143 : decode cX9_count 143 = .ok (.aload_n 0, 1) := by decide +kernel
theorem dX9_count_144 : decode cX9_count 144 = .ok (.getfield 67, 3) := by decide +kernel
theorem dX9_count_147 : decode cX9_count 147 = .ok (.ireturn, 1) := by decide +kernel
theorem dX9_count_148 : decode cX9_count 148 = .ok (.aload_n 0, 1) := by decide +kernel
theorem dX9_count_149 : decode cX9_count 149 = .ok (.getfield 164, 3) := by decide +kernel
theorem dX9_count_152 : decode cX9_count 152 = .ok (.ireturn, 1) := by decide +kernel
theorem dX9_count_153 : decode cX9_count 153 = .ok (.iconst (-1), 1) := by decide +kernel
theorem dX9_count_154 : decode cX9_count 154 = .ok (.ireturn, 1) := by decide +kernel
theorem dJ6_bitCount_0f7a4_0 : decode cJ6_bitCount_0f7a4 0 = .ok (.iload_n 0, 1) := by decide +kernel
theorem dJ6_bitCount_0f7a4_1 : decode cJ6_bitCount_0f7a4 1 = .ok (.iload_n 0, 1) := by decide +kernel
theorem dJ6_bitCount_0f7a4_2 : decode cJ6_bitCount_0f7a4 2 = .ok (.iconst 1, 1) := by decide +kernel
theorem dJ6_bitCount_0f7a4_3 : decode cJ6_bitCount_0f7a4 3 = .ok (.iushr, 1) := by decide +kernel
theorem dJ6_bitCount_0f7a4_4 : decode cJ6_bitCount_0f7a4 4 = .ok (.ldc_w 265, 3) := by decide +kernel
theorem dJ6_bitCount_0f7a4_7 : decode cJ6_bitCount_0f7a4 7 = .ok (.iand, 1) := by decide +kernel
theorem dJ6_bitCount_0f7a4_8 : decode cJ6_bitCount_0f7a4 8 = .ok (.isub, 1) := by decide +kernel
theorem dJ6_bitCount_0f7a4_9 : decode cJ6_bitCount_0f7a4 9 = .ok (.istore_n 0, 1) := by decide +kernel
theorem dJ6_bitCount_0f7a4_10 : decode cJ6_bitCount_0f7a4 10 = .ok (.iload_n 0, 1) := by decide +kernel
theorem dJ6_bitCount_0f7a4_11 : decode cJ6_bitCount_0f7a4 11 = .ok (.ldc_w 266, 3) := by decide +kernel
theorem dJ6_bitCount_0f7a4_14 : decode cJ6_bitCount_0f7a4 14 = .ok (.iand, 1) := by decide +kernel
theorem dJ6_bitCount_0f7a4_15 : decode cJ6_bitCount_0f7a4 15 = .ok (.iload_n 0, 1) := by decide +kernel
theorem dJ6_bitCount_0f7a4_16 : decode cJ6_bitCount_0f7a4 16 = .ok (.iconst 2, 1) := by decide +kernel
theorem dJ6_bitCount_0f7a4_17 : decode cJ6_bitCount_0f7a4 17 = .ok (.iushr, 1) := by decide +kernel
theorem dJ6_bitCount_0f7a4_18 : decode cJ6_bitCount_0f7a4 18 = .ok (.ldc_w 266, 3) := by decide +kernel
theorem dJ6_bitCount_0f7a4_21 : decode cJ6_bitCount_0f7a4 21 = .ok (.iand, 1) := by decide +kernel
theorem dJ6_bitCount_0f7a4_22 : decode cJ6_bitCount_0f7a4 22 = .ok (.iadd, 1) := by decide +kernel
theorem dJ6_bitCount_0f7a4_23 : decode cJ6_bitCount_0f7a4 23 = .ok (.istore_n 0, 1) := by decide +kernel
theorem dJ6_bitCount_0f7a4_24 : decode cJ6_bitCount_0f7a4 24 = .ok (.iload_n 0, 1) := by decide +kernel
theorem dJ6_bitCount_0f7a4_25 : decode cJ6_bitCount_0f7a4 25 = .ok (.iload_n 0, 1) := by decide +kernel
theorem dJ6_bitCount_0f7a4_26 : decode cJ6_bitCount_0f7a4 26 = .ok (.iconst 4, 1) := by decide +kernel
theorem dJ6_bitCount_0f7a4_27 : decode cJ6_bitCount_0f7a4 27 = .ok (.iushr, 1) := by decide +kernel
theorem dJ6_bitCount_0f7a4_28 : decode cJ6_bitCount_0f7a4 28 = .ok (.iadd, 1) := by decide +kernel
theorem dJ6_bitCount_0f7a4_29 : decode cJ6_bitCount_0f7a4 29 = .ok (.ldc_w 267, 3) := by decide +kernel
theorem dJ6_bitCount_0f7a4_32 : decode cJ6_bitCount_0f7a4 32 = .ok (.iand, 1) := by decide +kernel
theorem dJ6_bitCount_0f7a4_33 : decode cJ6_bitCount_0f7a4 33 = .ok (.istore_n 0, 1) := by decide +kernel
theorem dJ6_bitCount_0f7a4_34 : decode cJ6_bitCount_0f7a4 34 = .ok (.iload_n 0, 1) := by decide +kernel
theorem dJ6_bitCount_0f7a4_35 : decode cJ6_bitCount_0f7a4 35 = .ok (.iload_n 0, 1) := by decide +kernel
theorem dJ6_bitCount_0f7a4_36 : decode cJ6_bitCount_0f7a4 36 = .ok (.bipush 8, 2) := by decide +kernel
theorem dJ6_bitCount_0f7a4_38 : decode cJ6_bitCount_0f7a4 38 = .ok (.iushr, 1) := by decide +kernel
theorem dJ6_bitCount_0f7a4_39 : decode cJ6_bitCount_0f7a4 39 = .ok (.iadd, 1) := by decide +kernel
theorem dJ6_bitCount_0f7a4_40 : decode cJ6_bitCount_0f7a4 40 = .ok (.istore_n 0, 1) := by decide +kernel
theorem dJ6_bitCount_0f7a4_41 : decode cJ6_bitCount_0f7a4 41 = .ok (.iload_n 0, 1) := by decide +kernel
theorem dJ6_bitCount_0f7a4_42 : decode cJ6_bitCount_0f7a4 42 = .ok (.iload_n 0, 1) := by decide +kernel
theorem dJ6_bitCount_0f7a4_43 : decode cJ6_bitCount_0f7a4 43 = .ok (.bipush 16, 2) := by decide +kernel
theorem dJ6_bitCount_0f7a4_45 : decode cJ6_bitCount_0f7a4 45 = .ok (.iushr, 1) := by decide +kernel
theorem dJ6_bitCount_0f7a4_46 : decode cJ6_bitCount_0f7a4 46 = .ok (.iadd, 1) := by decide +kernel
theorem dJ6_bitCount_0f7a4_47 : decode cJ6_bitCount_0f7a4 47 = .ok (.istore_n 0, 1) := by decide +kernel
theorem dJ6_bitCount_0f7a4_48 : decode cJ6_bitCount_0f7a4 48 = .ok (.iload_n 0, 1) := by decide +kernel
theorem dJ6_bitCount_0f7a4_49 : decode cJ6_bitCount_0f7a4 49 = .ok (.bipush 63, 2) := by decide +kernel
theorem dJ6_bitCount_0f7a4_51 : decode cJ6_bitCount_0f7a4 51 = .ok (.iand, 1) := by decide +kernel
theorem dJ6_bitCount_0f7a4_52 : decode cJ6_bitCount_0f7a4 52 = .ok (.ireturn, 1) := by decide +kernel
theorem dJ9_max_7cf53_0 : decode cJ9_max_7cf53 0 = .ok (.iload_n 0, 1) := by decide +kernel
theorem dJ9_max_7cf53_1 : decode cJ9_max_7cf53 1 = .ok (.iload_n 1, 1) := by decide +kernel
theorem dJ9_max_7cf53_2 : decode cJ9_max_7cf53 2 = .ok (.if_icmp .lt 7, 3) := by decide +kernel
theorem dJ9_max_7cf53_5 : decode cJ9_max_7cf53 5 = .ok (.iload_n 0, 1) := by decide +kernel
theorem dJ9_max_7cf53_6 : decode cJ9_max_7cf53 6 = .ok (.goto 4, 3) := by decide +kernel
theorem dJ9_max_7cf53_9 : decode cJ9_max_7cf53 9 = .ok (.iload_n 1, 1) := by decide +kernel
theorem dJ9_max_7cf53_10 : decode cJ9_max_7cf53 10 = .ok (.ireturn, 1) := by decide +kernel
theorem dJ9_min_7cf53_0 : decode cJ9_min_7cf53 0 = .ok (.iload_n 0, 1) := by decide +kernel
theorem dJ9_min_7cf53_1 : decode cJ9_min_7cf53 1 = .ok (.iload_n 1, 1) := by decide +kernel
theorem dJ9_min_7cf53_2 : decode cJ9_min_7cf53 2 = .ok (.if_icmp .gt 7, 3) := by decide +kernel
theorem dJ9_min_7cf53_5 : decode cJ9_min_7cf53 5 = .ok (.iload_n 0, 1) := by decide +kernel
theorem dJ9_min_7cf53_6 : decode cJ9_min_7cf53 6 = .ok (.goto 4, 3) := by decide +kernel
theorem dJ9_min_7cf53_9 : decode cJ9_min_7cf53 9 = .ok (.iload_n 1, 1) := by decide +kernel
theorem dJ9_min_7cf53_10 : decode cJ9_min_7cf53 10 = .ok (.ireturn, 1) := by decide +kernel
theorem dJ7_rangeCheck_23922_0 : decode cJ7_rangeCheck_23922 0 = .ok (.iload_n 1, 1) := by decide +kernel
theorem dJ7_rangeCheck_23922_1 : decode cJ7_rangeCheck_23922 1 = .ok (.iload_n 2, 1) := by decide +kernel
theorem dJ7_rangeCheck_23922_2 : decode cJ7_rangeCheck_23922 2 = .ok (.if_icmp .le 44, 3) := by decide +kernel
theorem dJ7_rangeCheck_23922_5 : decode cJ7_rangeCheck_23922 5 = .ok (.new 43, 3) := by decide +kernel
theorem dJ7_rangeCheck_23922_8 : decode cJ7_rangeCheck_23922 8 = .ok (.dup, 1) := by decide +kernel
theorem dJ7_rangeCheck_23922_9 : decode cJ7_rangeCheck_23922 9 = .ok (.new 45, 3) := by decide +kernel
theorem dJ7_rangeCheck_23922_12 : decode cJ7_rangeCheck_23922 12 = .ok (.dup, 1) := by decide +kernel
theorem dJ7_rangeCheck_23922_13 : decode cJ7_rangeCheck_23922 13 = .ok (.invokespecial 47, 3) := by decide +kernel
theorem dJ7_rangeCheck_23922_16 : decode cJ7_rangeCheck_23922 16 = .ok (.ldc 48, 2) := by decide +kernel
theorem dJ7_rangeCheck_23922_18 : decode cJ7_rangeCheck_23922 18 = .ok (.invokevirtual 50, 3) := by decide +kernel
theorem dJ7_rangeCheck_23922_21 : decode cJ7_rangeCheck_23922 21 = .ok (.iload_n 1, 1) := by decide +kernel
theorem dJ7_rangeCheck_23922_22 : decode cJ7_rangeCheck_23922 22 = .ok (.invokevirtual 54, 3) := by decide +kernel
theorem dJ7_rangeCheck_23922_25 : decode cJ7_rangeCheck_23922 25 = .ok (.ldc 57, 2) := by decide +kernel
theorem dJ7_rangeCheck_23922_27 : decode cJ7_rangeCheck_23922 27 = .ok (.invokevirtual 50, 3) := by decide +kernel
theorem dJ7_rangeCheck_23922_30 : decode cJ7_rangeCheck_23922 30 = .ok (.iload_n 2, 1) := by decide +kernel
theorem dJ7_rangeCheck_23922_31 : decode cJ7_rangeCheck_23922 31 = .ok (.invokevirtual 54, 3) := by decide +kernel
theorem dJ7_rangeCheck_23922_34 : decode cJ7_rangeCheck_23922 34 = .ok (.ldc 59, 2) := by decide +kernel
theorem dJ7_rangeCheck_23922_36 : decode cJ7_rangeCheck_23922 36 = .ok (.invokevirtual 50, 3) := by decide +kernel
theorem dJ7_rangeCheck_23922_39 : decode cJ7_rangeCheck_23922 39 = .ok (.invokevirtual 61, 3) := by decide +kernel
theorem dJ7_rangeCheck_23922_42 : decode cJ7_rangeCheck_23922 42 = .ok (.invokespecial 65, 3) := by decide +kernel
theorem dJ7_rangeCheck_23922_45 : decode cJ7_rangeCheck_23922 45 = .ok (.athrow, 1) := by decide +kernel
theorem dJ7_rangeCheck_23922_46 : decode cJ7_rangeCheck_23922 46 = .ok (.iload_n 1, 1) := by decide +kernel
theorem dJ7_rangeCheck_23922_47 : decode cJ7_rangeCheck_23922 47 = .ok (.ifCond .ge 12, 3) := by decide +kernel
theorem dJ7_rangeCheck_23922_50 : decode cJ7_rangeCheck_23922 50 = .ok (.new 68, 3) := by decide +kernel
theorem dJ7_rangeCheck_23922_53 : decode cJ7_rangeCheck_23922 53 = .ok (.dup, 1) := by decide +kernel
theorem dJ7_rangeCheck_23922_54 : decode cJ7_rangeCheck_23922 54 = .ok (.iload_n 1, 1) := by decide +kernel
theorem dJ7_rangeCheck_23922_55 : decode cJ7_rangeCheck_23922 55 = .ok (.invokespecial 70, 3) := by decide +kernel
theorem dJ7_rangeCheck_23922_58 : decode cJ7_rangeCheck_23922 58 = .ok (.athrow, 1) := by decide +kernel
theorem dJ7_rangeCheck_23922_59 : decode cJ7_rangeCheck_23922 59 = .ok (.iload_n 2, 1) := by decide +kernel
theorem dJ7_rangeCheck_23922_60 : decode cJ7_rangeCheck_23922 60 = .ok (.iload_n 0, 1) := by decide +kernel
theorem dJ7_rangeCheck_23922_61 : decode cJ7_rangeCheck_23922 61 = .ok (.if_icmp .le 12, 3) := by decide +kernel
theorem dJ7_rangeCheck_23922_64 : decode cJ7_rangeCheck_23922 64 = .ok (.new 68, 3) := by decide +kernel
theorem dJ7_rangeCheck_23922_67 : decode cJ7_rangeCheck_23922 67 = .ok (.dup, 1) := by decide +kernel
theorem dJ7_rangeCheck_23922_68 : decode cJ7_rangeCheck_23922 68 = .ok (.iload_n 2, 1) := by decide +kernel
theorem dJ7_rangeCheck_23922_69 : decode cJ7_rangeCheck_23922 69 = .ok (.invokespecial 70, 3) := by decide +kernel
theorem dJ7_rangeCheck_23922_72 : decode cJ7_rangeCheck_23922 72 = .ok (.athrow, 1) := by decide +kernel
theorem dJ7_rangeCheck_23922_73 : decode cJ7_rangeCheck_23922 73 = .ok (.return_, 1) := by decide +kernel
theorem dJ7_fill_53178_0 : decode cJ7_fill_53178 0 = .ok (.iconst 0, 1) := by decide +kernel
theorem dJ7_fill_53178_1 : decode cJ7_fill_53178 1 = .ok (.istore_n 2, 1) := by decide +kernel
theorem dJ7_fill_53178_2 : decode cJ7_fill_53178 2 = .ok (.aload_n 0, 1) := by decide +kernel
theorem dJ7_fill_53178_3 : decode cJ7_fill_53178 3 = .ok (.arraylength, 1) := by decide +kernel
theorem dJ7_fill_53178_4 : decode cJ7_fill_53178 4 = .ok (.istore_n 3, 1) := by decide +kernel
theorem dJ7_fill_53178_5 : decode cJ7_fill_53178 5 = .ok (.iload_n 2, 1) := by decide +kernel
theorem dJ7_fill_53178_6 : decode cJ7_fill_53178 6 = .ok (.iload_n 3, 1) := by decide +kernel
theorem dJ7_fill_53178_7 : decode cJ7_fill_53178 7 = .ok (.if_icmp .ge 13, 3) := by decide +kernel
theorem dJ7_fill_53178_10 : decode cJ7_fill_53178 10 = .ok (.aload_n 0, 1) := by decide +kernel
theorem dJ7_fill_53178_11 : decode cJ7_fill_53178 11 = .ok (.iload_n 2, 1) := by decide +kernel
theorem dJ7_fill_53178_12 : decode cJ7_fill_53178 12 = .ok (.iload_n 1, 1) := by decide +kernel
theorem dJ7_fill_53178_13 : decode cJ7_fill_53178 13 = .ok (.iastore, 1) := by decide +kernel
theorem dJ7_fill_53178_14 : decode cJ7_fill_53178 14 = .ok (.iinc 2 1, 3) := by decide +kernel
theorem dJ7_fill_53178_17 : decode cJ7_fill_53178 17 = .ok (.goto (-12), 3) := by decide +kernel
theorem dJ7_fill_53178_20 : decode cJ7_fill_53178 20 = .ok (.return_, 1) := by decide +kernel
theorem dJ7_fill_fda19_0 : decode cJ7_fill_fda19 0 = .ok (.aload_n 0, 1) := by decide +kernel
theorem dJ7_fill_fda19_1 : decode cJ7_fill_fda19 1 = .ok (.arraylength, 1) := by decide +kernel
theorem dJ7_fill_fda19_2 : decode cJ7_fill_fda19 2 = .ok (.iload_n 1, 1) := by decide +kernel
theorem dJ7_fill_fda19_3 : decode cJ7_fill_fda19 3 = .ok (.iload_n 2, 1) := by decide +kernel
theorem dJ7_fill_fda19_4 : decode cJ7_fill_fda19 4 = .ok (.invokestatic 13, 3) := by decide +kernel
theorem dJ7_fill_fda19_7 : decode cJ7_fill_fda19 7 = .ok (.iload_n 1, 1) := by decide +kernel
theorem dJ7_fill_fda19_8 : decode cJ7_fill_fda19 8 = .ok (.istore 4, 2) := by decide +kernel
theorem dJ7_fill_fda19_10 : decode cJ7_fill_fda19 10 = .ok (.iload 4, 2) := by decide +kernel
theorem dJ7_fill_fda19_12 : decode cJ7_fill_fda19 12 = .ok (.iload_n 2, 1) := by decide +kernel
theorem dJ7_fill_fda19_13 : decode cJ7_fill_fda19 13 = .ok (.if_icmp .ge 14, 3) := by decide +kernel
theorem dJ7_fill_fda19_16 : decode cJ7_fill_fda19 16 = .ok (.aload_n 0, 1) := by decide +kernel
theorem dJ7_fill_fda19_17 : decode cJ7_fill_fda19 17 = .ok (.iload 4, 2) := by decide +kernel
theorem dJ7_fill_fda19_19 : decode cJ7_fill_fda19 19 = .ok (.iload_n 3, 1) := by decide +kernel
theorem dJ7_fill_fda19_20 : decode cJ7_fill_fda19 20 = .ok (.iastore, 1) := by decide +kernel
theorem dJ7_fill_fda19_21 : decode cJ7_fill_fda19 21 = .ok (.iinc 4 1, 3) := by decide +kernel
theorem dJ7_fill_fda19_24 : decode cJ7_fill_fda19 24 = .ok (.goto (-14), 3) := by decide +kernel
theorem dJ7_fill_fda19_27 : decode cJ7_fill_fda19 27 = .ok (.return_, 1) := by decide +kernel
theorem dL_law_0 : decode cL_law 0 = .ok (.new 7, 3) := by decide +kernel
theorem dL_law_3 : decode cL_law 3 = .ok (.dup, 1) := by decide +kernel
theorem dL_law_4 : decode cL_law 4 = .ok (.invokespecial 9, 3) := by decide +kernel
theorem dL_law_7 : decode cL_law 7 = .ok (.astore_n 1, 1) := by decide +kernel
theorem dL_law_8 : decode cL_law 8 = .ok (.new 10, 3) := by decide +kernel
theorem dL_law_11 : decode cL_law 11 = .ok (.dup, 1) := by decide +kernel
theorem dL_law_12 : decode cL_law 12 = .ok (.invokespecial 12, 3) := by decide +kernel
theorem dL_law_15 : decode cL_law 15 = .ok (.astore_n 2, 1) := by decide +kernel
theorem dL_law_16 : decode cL_law 16 = .ok (.iconst 0, 1) := by decide +kernel
theorem dL_law_17 : decode cL_law 17 = .ok (.istore_n 3, 1) := by decide +kernel
theorem dL_law_18 : decode cL_law 18 = .ok (.iload_n 3, 1) := by decide +kernel
theorem dL_law_19 : decode cL_law 19 = .ok (.aload_n 0, 1) := by decide +kernel
theorem dL_law_20 : decode cL_law 20 = .ok (.arraylength, 1) := by decide +kernel
theorem dL_law_21 : decode cL_law 21 = .ok (.iconst 4, 1) := by decide +kernel
theorem dL_law_22 : decode cL_law 22 = .ok (.isub, 1) := by decide +kernel
theorem dL_law_23 : decode cL_law 23 = .ok (.if_icmp .gt 743, 3) := by decide +kernel
theorem dL_law_26 : decode cL_law 26 = .ok (.aload_n 0, 1) := by decide +kernel
theorem dL_law_27 : decode cL_law 27 = .ok (.iload_n 3, 1) := by decide +kernel
theorem dL_law_28 : decode cL_law 28 = .ok (.iaload, 1) := by decide +kernel
theorem dL_law_29 : decode cL_law 29 = .ok (.bipush 31, 2) := by decide +kernel
theorem dL_law_31 : decode cL_law 31 = .ok (.iand, 1) := by decide +kernel
theorem dL_law_32 : decode cL_law 32 = .ok (.tableswitch 728 0 25 #[120, 143, 156, 169, 182, 205, 228, 251, 274, 317, 350, 363, 376, 409, 442, 475, 508, 531, 554, 577, 610, 623, 646, 659, 682, 705], 120) := by decide +kernel
theorem dL_law_152 : decode cL_law 152 = .ok (.aload_n 1, 1) := by decide +kernel
theorem dL_law_153 : decode cL_law 153 = .ok (.aload_n 0, 1) := by decide +kernel
theorem dL_law_154 : decode cL_law 154 = .ok (.iload_n 3, 1) := by decide +kernel
theorem dL_law_155 : decode cL_law 155 = .ok (.iconst 1, 1) := by decide +kernel
theorem dL_law_156 : decode cL_law 156 = .ok (.iadd, 1) := by decide +kernel
theorem dL_law_157 : decode cL_law 157 = .ok (.iaload, 1) := by decide +kernel
theorem dL_law_158 : decode cL_law 158 = .ok (.invokevirtual 13, 3) := by decide +kernel
theorem dL_law_161 : decode cL_law 161 = .ok (.aload_n 2, 1) := by decide +kernel
theorem dL_law_162 : decode cL_law 162 = .ok (.aload_n 0, 1) := by decide +kernel
theorem dL_law_163 : decode cL_law 163 = .ok (.iload_n 3, 1) := by decide +kernel
theorem dL_law_164 : decode cL_law 164 = .ok (.iconst 1, 1) := by decide +kernel
theorem dL_law_165 : decode cL_law 165 = .ok (.iadd, 1) := by decide +kernel
theorem dL_law_166 : decode cL_law 166 = .ok (.iaload, 1) := by decide +kernel
theorem dL_law_167 : decode cL_law 167 = .ok (.invokevirtual 17, 3) := by decide +kernel
theorem dL_law_170 : decode cL_law 170 = .ok (.if_icmp .eq 590, 3) := by decide +kernel
theorem dL_law_173 : decode cL_law 173 = .ok (.iconst 0, 1) := by decide +kernel
theorem dL_law_174 : decode cL_law 174 = .ok (.ireturn, 1) := by decide +kernel
theorem dL_law_175 : decode cL_law 175 = .ok (.aload_n 1, 1) := by decide +kernel
theorem dL_law_176 : decode cL_law 176 = .ok (.invokevirtual 18, 3) := by decide +kernel
theorem dL_law_179 : decode cL_law 179 = .ok (.aload_n 2, 1) := by decide +kernel
theorem dL_law_180 : decode cL_law 180 = .ok (.invokevirtual 22, 3) := by decide +kernel
theorem dL_law_183 : decode cL_law 183 = .ok (.if_icmp .eq 577, 3) := by decide +kernel
theorem dL_law_186 : decode cL_law 186 = .ok (.iconst 0, 1) := by decide +kernel
theorem dL_law_187 : decode cL_law 187 = .ok (.ireturn, 1) := by decide +kernel
theorem dL_law_188 : decode cL_law 188 = .ok (.aload_n 1, 1) := by decide +kernel
theorem dL_law_189 : decode cL_law 189 = .ok (.invokevirtual 23, 3) := by decide +kernel
theorem dL_law_192 : decode cL_law 192 = .ok (.aload_n 2, 1) := by decide +kernel
theorem dL_law_193 : decode cL_law 193 = .ok (.invokevirtual 26, 3) := by decide +kernel
theorem dL_law_196 : decode cL_law 196 = .ok (.if_icmp .eq 564, 3) := by decide +kernel
theorem dL_law_199 : decode cL_law 199 = .ok (.iconst 0, 1) := by decide +kernel
theorem dL_law_200 : decode cL_law 200 = .ok (.ireturn, 1) := by decide +kernel
theorem dL_law_201 : decode cL_law 201 = .ok (.aload_n 1, 1) := by decide +kernel
theorem dL_law_202 : decode cL_law 202 = .ok (.invokevirtual 27, 3) := by decide +kernel
theorem dL_law_205 : decode cL_law 205 = .ok (.aload_n 2, 1) := by decide +kernel
theorem dL_law_206 : decode cL_law 206 = .ok (.invokevirtual 30, 3) := by decide +kernel
theorem dL_law_209 : decode cL_law 209 = .ok (.if_icmp .eq 551, 3) := by decide +kernel
theorem dL_law_212 : decode cL_law 212 = .ok (.iconst 0, 1) := by decide +kernel
theorem dL_law_213 : decode cL_law 213 = .ok (.ireturn, 1) := by decide +kernel
theorem dL_law_214 : decode cL_law 214 = .ok (.aload_n 1, 1) := by decide +kernel
theorem dL_law_215 : decode cL_law 215 = .ok (.aload_n 0, 1) := by decide +kernel
theorem dL_law_216 : decode cL_law 216 = .ok (.iload_n 3, 1) := by decide +kernel
theorem dL_law_217 : decode cL_law 217 = .ok (.iconst 1, 1) := by decide +kernel
theorem dL_law_218 : decode cL_law 218 = .ok (.iadd, 1) := by decide +kernel
theorem dL_law_219 : decode cL_law 219 = .ok (.iaload, 1) := by decide +kernel
theorem dL_law_220 : decode cL_law 220 = .ok (.invokevirtual 31, 3) := by decide +kernel
theorem dL_law_223 : decode cL_law 223 = .ok (.aload_n 2, 1) := by decide +kernel
theorem dL_law_224 : decode cL_law 224 = .ok (.aload_n 0, 1) := by decide +kernel
theorem dL_law_225 : decode cL_law 225 = .ok (.iload_n 3, 1) := by decide +kernel
theorem dL_law_226 : decode cL_law 226 = .ok (.iconst 1, 1) := by decide +kernel
theorem dL_law_227 : decode cL_law 227 = .ok (.iadd, 1) := by decide +kernel
theorem dL_law_228 : decode cL_law 228 = .ok (.iaload, 1) := by decide +kernel
theorem dL_law_229 : decode cL_law 229 = .ok (.invokevirtual 34, 3) := by decide +kernel
theorem dL_law_232 : decode cL_law 232 = .ok (.if_icmp .eq 528, 3) := by decide +kernel
theorem dL_law_235 : decode cL_law 235 = .ok (.iconst 0, 1) := by decide +kernel
theorem dL_law_236 : decode cL_law 236 = .ok (.ireturn, 1) := by decide +kernel
theorem dL_law_237 : decode cL_law 237 = .ok (.aload_n 1, 1) := by decide +kernel
theorem dL_law_238 : decode cL_law 238 = .ok (.aload_n 0, 1) := by decide +kernel
theorem dL_law_239 : decode cL_law 239 = .ok (.iload_n 3, 1) := by decide +kernel
theorem dL_law_240 : decode cL_law 240 = .ok (.iconst 1, 1) := by decide +kernel
theorem dL_law_241 : decode cL_law 241 = .ok (.iadd, 1) := by decide +kernel
theorem dL_law_242 : decode cL_law 242 = .ok (.iaload, 1) := by decide +kernel
theorem dL_law_243 : decode cL_law 243 = .ok (.invokevirtual 35, 3) := by decide +kernel
theorem dL_law_246 : decode cL_law 246 = .ok (.aload_n 2, 1) := by decide +kernel
theorem dL_law_247 : decode cL_law 247 = .ok (.aload_n 0, 1) := by decide +kernel
theorem dL_law_248 : decode cL_law 248 = .ok (.iload_n 3, 1) := by decide +kernel
theorem dL_law_249 : decode cL_law 249 = .ok (.iconst 1, 1) := by decide +kernel
theorem dL_law_250 : decode cL_law 250 = .ok (.iadd, 1) := by decide +kernel
theorem dL_law_251 : decode cL_law 251 = .ok (.iaload, 1) := by decide +kernel
theorem dL_law_252 : decode cL_law 252 = .ok (.invokevirtual 38, 3) := by decide +kernel
theorem dL_law_255 : decode cL_law 255 = .ok (.if_icmp .eq 505, 3) := by decide +kernel
theorem dL_law_258 : decode cL_law 258 = .ok (.iconst 0, 1) := by decide +kernel
theorem dL_law_259 : decode cL_law 259 = .ok (.ireturn, 1) := by decide +kernel
theorem dL_law_260 : decode cL_law 260 = .ok (.aload_n 1, 1) := by decide +kernel
theorem dL_law_261 : decode cL_law 261 = .ok (.aload_n 0, 1) := by decide +kernel
theorem dL_law_262 : decode cL_law 262 = .ok (.iload_n 3, 1) := by decide +kernel
theorem dL_law_263 : decode cL_law 263 = .ok (.iconst 1, 1) := by decide +kernel
theorem dL_law_264 : decode cL_law 264 = .ok (.iadd, 1) := by decide +kernel
theorem dL_law_265 : decode cL_law 265 = .ok (.iaload, 1) := by decide +kernel
theorem dL_law_266 : decode cL_law 266 = .ok (.invokevirtual 39, 3) := by decide +kernel
theorem dL_law_269 : decode cL_law 269 = .ok (.aload_n 2, 1) := by decide +kernel
theorem dL_law_270 : decode cL_law 270 = .ok (.aload_n 0, 1) := by decide +kernel
theorem dL_law_271 : decode cL_law 271 = .ok (.iload_n 3, 1) := by decide +kernel
theorem dL_law_272 : decode cL_law 272 = .ok (.iconst 1, 1) := by decide +kernel
theorem dL_law_273 : decode cL_law 273 = .ok (.iadd, 1) := by decide +kernel
theorem dL_law_274 : decode cL_law 274 = .ok (.iaload, 1) := by decide +kernel
theorem dL_law_275 : decode cL_law 275 = .ok (.invokevirtual 42, 3) := by decide +kernel
theorem dL_law_278 : decode cL_law 278 = .ok (.if_icmp .eq 482, 3) := by decide +kernel
theorem dL_law_281 : decode cL_law 281 = .ok (.iconst 0, 1) := by decide +kernel
theorem dL_law_282 : decode cL_law 282 = .ok (.ireturn, 1) := by decide +kernel
theorem dL_law_283 : decode cL_law 283 = .ok (.aload_n 1, 1) := by decide +kernel
theorem dL_law_284 : decode cL_law 284 = .ok (.aload_n 0, 1) := by decide +kernel
theorem dL_law_285 : decode cL_law 285 = .ok (.iload_n 3, 1) := by decide +kernel
theorem dL_law_286 : decode cL_law 286 = .ok (.iconst 1, 1) := by decide +kernel
theorem dL_law_287 : decode cL_law 287 = .ok (.iadd, 1) := by decide +kernel
theorem dL_law_288 : decode cL_law 288 = .ok (.iaload, 1) := by decide +kernel
theorem dL_law_289 : decode cL_law 289 = .ok (.invokevirtual 43, 3) := by decide +kernel
theorem dL_law_292 : decode cL_law 292 = .ok (.aload_n 2, 1) := by decide +kernel
theorem dL_law_293 : decode cL_law 293 = .ok (.aload_n 0, 1) := by decide +kernel
theorem dL_law_294 : decode cL_law 294 = .ok (.iload_n 3, 1) := by decide +kernel
theorem dL_law_295 : decode cL_law 295 = .ok (.iconst 1, 1) := by decide +kernel
theorem dL_law_296 : decode cL_law 296 = .ok (.iadd, 1) := by decide +kernel
theorem dL_law_297 : decode cL_law 297 = .ok (.iaload, 1) := by decide +kernel
theorem dL_law_298 : decode cL_law 298 = .ok (.invokevirtual 46, 3) := by decide +kernel
theorem dL_law_301 : decode cL_law 301 = .ok (.if_icmp .eq 459, 3) := by decide +kernel
theorem dL_law_304 : decode cL_law 304 = .ok (.iconst 0, 1) := by decide +kernel
theorem dL_law_305 : decode cL_law 305 = .ok (.ireturn, 1) := by decide +kernel
theorem dL_law_306 : decode cL_law 306 = .ok (.aload_n 1, 1) := by decide +kernel
theorem dL_law_307 : decode cL_law 307 = .ok (.aload_n 0, 1) := by decide +kernel
theorem dL_law_308 : decode cL_law 308 = .ok (.iload_n 3, 1) := by decide +kernel
theorem dL_law_309 : decode cL_law 309 = .ok (.iconst 1, 1) := by decide +kernel
theorem dL_law_310 : decode cL_law 310 = .ok (.iadd, 1) := by decide +kernel
theorem dL_law_311 : decode cL_law 311 = .ok (.iaload, 1) := by decide +kernel
theorem dL_law_312 : decode cL_law 312 = .ok (.aload_n 0, 1) := by decide +kernel
theorem dL_law_313 : decode cL_law 313 = .ok (.iload_n 3, 1) := by decide +kernel
theorem dL_law_314 : decode cL_law 314 = .ok (.iconst 2, 1) := by decide +kernel
theorem dL_law_315 : decode cL_law 315 = .ok (.iadd, 1) := by decide +kernel
theorem dL_law_316 : decode cL_law 316 = .ok (.iaload, 1) := by decide +kernel
theorem dL_law_317 : decode cL_law 317 = .ok (.aload_n 0, 1) := by decide +kernel
theorem dL_law_318 : decode cL_law 318 = .ok (.iload_n 3, 1) := by decide +kernel
theorem dL_law_319 : decode cL_law 319 = .ok (.iconst 3, 1) := by decide +kernel
theorem dL_law_320 : decode cL_law 320 = .ok (.iadd, 1) := by decide +kernel
theorem dL_law_321 : decode cL_law 321 = .ok (.iaload, 1) := by decide +kernel
theorem dL_law_322 : decode cL_law 322 = .ok (.invokevirtual 47, 3) := by decide +kernel
theorem dL_law_325 : decode cL_law 325 = .ok (.aload_n 2, 1) := by decide +kernel
theorem dL_law_326 : decode cL_law 326 = .ok (.aload_n 0, 1) := by decide +kernel
theorem dL_law_327 : decode cL_law 327 = .ok (.iload_n 3, 1) := by decide +kernel
theorem dL_law_328 : decode cL_law 328 = .ok (.iconst 1, 1) := by decide +kernel
theorem dL_law_329 : decode cL_law 329 = .ok (.iadd, 1) := by decide +kernel
theorem dL_law_330 : decode cL_law 330 = .ok (.iaload, 1) := by decide +kernel
theorem dL_law_331 : decode cL_law 331 = .ok (.aload_n 0, 1) := by decide +kernel
theorem dL_law_332 : decode cL_law 332 = .ok (.iload_n 3, 1) := by decide +kernel
theorem dL_law_333 : decode cL_law 333 = .ok (.iconst 2, 1) := by decide +kernel
theorem dL_law_334 : decode cL_law 334 = .ok (.iadd, 1) := by decide +kernel
theorem dL_law_335 : decode cL_law 335 = .ok (.iaload, 1) := by decide +kernel
theorem dL_law_336 : decode cL_law 336 = .ok (.aload_n 0, 1) := by decide +kernel
theorem dL_law_337 : decode cL_law 337 = .ok (.iload_n 3, 1) := by decide +kernel
theorem dL_law_338 : decode cL_law 338 = .ok (.iconst 3, 1) := by decide +kernel
theorem dL_law_339 : decode cL_law 339 = .ok (.iadd, 1) := by decide +kernel
theorem dL_law_340 : decode cL_law 340 = .ok (.iaload, 1) := by decide +kernel
theorem dL_law_341 : decode cL_law 341 = .ok (.invokevirtual 51, 3) := by decide +kernel
theorem dL_law_344 : decode cL_law 344 = .ok (.if_icmp .eq 416, 3) := by decide +kernel
theorem dL_law_347 : decode cL_law 347 = .ok (.iconst 0, 1) := by decide +kernel
theorem dL_law_348 : decode cL_law 348 = .ok (.ireturn, 1) := by decide +kernel
theorem dL_law_349 : decode cL_law 349 = .ok (.aload_n 1, 1) := by decide +kernel
theorem dL_law_350 : decode cL_law 350 = .ok (.aload_n 0, 1) := by decide +kernel
theorem dL_law_351 : decode cL_law 351 = .ok (.iload_n 3, 1) := by decide +kernel
theorem dL_law_352 : decode cL_law 352 = .ok (.iconst 1, 1) := by decide +kernel
theorem dL_law_353 : decode cL_law 353 = .ok (.iadd, 1) := by decide +kernel
theorem dL_law_354 : decode cL_law 354 = .ok (.iaload, 1) := by decide +kernel
theorem dL_law_355 : decode cL_law 355 = .ok (.aload_n 0, 1) := by decide +kernel
theorem dL_law_356 : decode cL_law 356 = .ok (.iload_n 3, 1) := by decide +kernel
theorem dL_law_357 : decode cL_law 357 = .ok (.iconst 2, 1) := by decide +kernel
theorem dL_law_358 : decode cL_law 358 = .ok (.iadd, 1) := by decide +kernel
theorem dL_law_359 : decode cL_law 359 = .ok (.iaload, 1) := by decide +kernel
theorem dL_law_360 : decode cL_law 360 = .ok (.invokevirtual 52, 3) := by decide +kernel
theorem dL_law_363 : decode cL_law 363 = .ok (.aload_n 2, 1) := by decide +kernel
theorem dL_law_364 : decode cL_law 364 = .ok (.aload_n 0, 1) := by decide +kernel
theorem dL_law_365 : decode cL_law 365 = .ok (.iload_n 3, 1) := by decide +kernel
theorem dL_law_366 : decode cL_law 366 = .ok (.iconst 1, 1) := by decide +kernel
theorem dL_law_367 : decode cL_law 367 = .ok (.iadd, 1) := by decide +kernel
theorem dL_law_368 : decode cL_law 368 = .ok (.iaload, 1) := by decide +kernel
theorem dL_law_369 : decode cL_law 369 = .ok (.aload_n 0, 1) := by decide +kernel
theorem dL_law_370 : decode cL_law 370 = .ok (.iload_n 3, 1) := by decide +kernel
theorem dL_law_371 : decode cL_law 371 = .ok (.iconst 2, 1) := by decide +kernel
theorem dL_law_372 : decode cL_law 372 = .ok (.iadd, 1) := by decide +kernel
theorem dL_law_373 : decode cL_law 373 = .ok (.iaload, 1) := by decide +kernel
theorem dL_law_374 : decode cL_law 374 = .ok (.invokevirtual 56, 3) := by decide +kernel
theorem dL_law_377 : decode cL_law 377 = .ok (.if_icmp .eq 383, 3) := by decide +kernel
theorem dL_law_380 : decode cL_law 380 = .ok (.iconst 0, 1) := by decide +kernel
theorem dL_law_381 : decode cL_law 381 = .ok (.ireturn, 1) := by decide +kernel
theorem dL_law_382 : decode cL_law 382 = .ok (.aload_n 1, 1) := by decide +kernel
theorem dL_law_383 : decode cL_law 383 = .ok (.invokevirtual 57, 3) := by decide +kernel
theorem dL_law_386 : decode cL_law 386 = .ok (.aload_n 2, 1) := by decide +kernel
theorem dL_law_387 : decode cL_law 387 = .ok (.invokevirtual 60, 3) := by decide +kernel
theorem dL_law_390 : decode cL_law 390 = .ok (.if_icmp .eq 370, 3) := by decide +kernel
theorem dL_law_393 : decode cL_law 393 = .ok (.iconst 0, 1) := by decide +kernel
theorem dL_law_394 : decode cL_law 394 = .ok (.ireturn, 1) := by decide +kernel
theorem dL_law_395 : decode cL_law 395 = .ok (.aload_n 1, 1) := by decide +kernel
theorem dL_law_396 : decode cL_law 396 = .ok (.invokevirtual 61, 3) := by decide +kernel
theorem dL_law_399 : decode cL_law 399 = .ok (.aload_n 2, 1) := by decide +kernel
theorem dL_law_400 : decode cL_law 400 = .ok (.invokevirtual 64, 3) := by decide +kernel
theorem dL_law_403 : decode cL_law 403 = .ok (.if_icmp .eq 357, 3) := by decide +kernel
theorem dL_law_406 : decode cL_law 406 = .ok (.iconst 0, 1) := by decide +kernel
theorem dL_law_407 : decode cL_law 407 = .ok (.ireturn, 1) := by decide +kernel
theorem dL_law_408 : decode cL_law 408 = .ok (.aload_n 1, 1) := by decide +kernel
theorem dL_law_409 : decode cL_law 409 = .ok (.aload_n 0, 1) := by decide +kernel
theorem dL_law_410 : decode cL_law 410 = .ok (.iload_n 3, 1) := by decide +kernel
theorem dL_law_411 : decode cL_law 411 = .ok (.iconst 1, 1) := by decide +kernel
theorem dL_law_412 : decode cL_law 412 = .ok (.iadd, 1) := by decide +kernel
theorem dL_law_413 : decode cL_law 413 = .ok (.iaload, 1) := by decide +kernel
theorem dL_law_414 : decode cL_law 414 = .ok (.aload_n 0, 1) := by decide +kernel
theorem dL_law_415 : decode cL_law 415 = .ok (.iload_n 3, 1) := by decide +kernel
theorem dL_law_416 : decode cL_law 416 = .ok (.iconst 2, 1) := by decide +kernel
theorem dL_law_417 : decode cL_law 417 = .ok (.iadd, 1) := by decide +kernel
theorem dL_law_418 : decode cL_law 418 = .ok (.iaload, 1) := by decide +kernel
theorem dL_law_419 : decode cL_law 419 = .ok (.invokevirtual 65, 3) := by decide +kernel
theorem dL_law_422 : decode cL_law 422 = .ok (.aload_n 2, 1) := by decide +kernel
theorem dL_law_423 : decode cL_law 423 = .ok (.aload_n 0, 1) := by decide +kernel
theorem dL_law_424 : decode cL_law 424 = .ok (.iload_n 3, 1) := by decide +kernel
theorem dL_law_425 : decode cL_law 425 = .ok (.iconst 1, 1) := by decide +kernel
theorem dL_law_426 : decode cL_law 426 = .ok (.iadd, 1) := by decide +kernel
theorem dL_law_427 : decode cL_law 427 = .ok (.iaload, 1) := by decide +kernel
theorem dL_law_428 : decode cL_law 428 = .ok (.aload_n 0, 1) := by decide +kernel
theorem dL_law_429 : decode cL_law 429 = .ok (.iload_n 3, 1) := by decide +kernel
theorem dL_law_430 : decode cL_law 430 = .ok (.iconst 2, 1) := by decide +kernel
theorem dL_law_431 : decode cL_law 431 = .ok (.iadd, 1) := by decide +kernel
theorem dL_law_432 : decode cL_law 432 = .ok (.iaload, 1) := by decide +kernel
theorem dL_law_433 : decode cL_law 433 = .ok (.invokevirtual 68, 3) := by decide +kernel
theorem dL_law_436 : decode cL_law 436 = .ok (.if_icmp .eq 324, 3) := by decide +kernel
theorem dL_law_439 : decode cL_law 439 = .ok (.iconst 0, 1) := by decide +kernel
theorem dL_law_440 : decode cL_law 440 = .ok (.ireturn, 1) := by decide +kernel
theorem dL_law_441 : decode cL_law 441 = .ok (.aload_n 1, 1) := by decide +kernel
theorem dL_law_442 : decode cL_law 442 = .ok (.aload_n 0, 1) := by decide +kernel
theorem dL_law_443 : decode cL_law 443 = .ok (.iload_n 3, 1) := by decide +kernel
theorem dL_law_444 : decode cL_law 444 = .ok (.iconst 1, 1) := by decide +kernel
theorem dL_law_445 : decode cL_law 445 = .ok (.iadd, 1) := by decide +kernel
theorem dL_law_446 : decode cL_law 446 = .ok (.iaload, 1) := by decide +kernel
theorem dL_law_447 : decode cL_law 447 = .ok (.aload_n 0, 1) := by decide +kernel
theorem dL_law_448 : decode cL_law 448 = .ok (.iload_n 3, 1) := by decide +kernel
theorem dL_law_449 : decode cL_law 449 = .ok (.iconst 2, 1) := by decide +kernel
theorem dL_law_450 : decode cL_law 450 = .ok (.iadd, 1) := by decide +kernel
theorem dL_law_451 : decode cL_law 451 = .ok (.iaload, 1) := by decide +kernel
theorem dL_law_452 : decode cL_law 452 = .ok (.invokevirtual 69, 3) := by decide +kernel
theorem dL_law_455 : decode cL_law 455 = .ok (.aload_n 2, 1) := by decide +kernel
theorem dL_law_456 : decode cL_law 456 = .ok (.aload_n 0, 1) := by decide +kernel
theorem dL_law_457 : decode cL_law 457 = .ok (.iload_n 3, 1) := by decide +kernel
theorem dL_law_458 : decode cL_law 458 = .ok (.iconst 1, 1) := by decide +kernel
theorem dL_law_459 : decode cL_law 459 = .ok (.iadd, 1) := by decide +kernel
theorem dL_law_460 : decode cL_law 460 = .ok (.iaload, 1) := by decide +kernel
theorem dL_law_461 : decode cL_law 461 = .ok (.aload_n 0, 1) := by decide +kernel
theorem dL_law_462 : decode cL_law 462 = .ok (.iload_n 3, 1) := by decide +kernel
theorem dL_law_463 : decode cL_law 463 = .ok (.iconst 2, 1) := by decide +kernel
theorem dL_law_464 : decode cL_law 464 = .ok (.iadd, 1) := by decide +kernel
theorem dL_law_465 : decode cL_law 465 = .ok (.iaload, 1) := by decide +kernel
theorem dL_law_466 : decode cL_law 466 = .ok (.invokevirtual 72, 3) := by decide +kernel
theorem dL_law_469 : decode cL_law 469 = .ok (.if_icmp .eq 291, 3) := by decide +kernel
theorem dL_law_472 : decode cL_law 472 = .ok (.iconst 0, 1) := by decide +kernel
theorem dL_law_473 : decode cL_law 473 = .ok (.ireturn, 1) := by decide +kernel
theorem dL_law_474 : decode cL_law 474 = .ok (.aload_n 1, 1) := by decide +kernel
theorem dL_law_475 : decode cL_law 475 = .ok (.aload_n 0, 1) := by decide +kernel
theorem dL_law_476 : decode cL_law 476 = .ok (.iload_n 3, 1) := by decide +kernel
theorem dL_law_477 : decode cL_law 477 = .ok (.iconst 1, 1) := by decide +kernel
theorem dL_law_478 : decode cL_law 478 = .ok (.iadd, 1) := by decide +kernel
theorem dL_law_479 : decode cL_law 479 = .ok (.iaload, 1) := by decide +kernel
theorem dL_law_480 : decode cL_law 480 = .ok (.aload_n 0, 1) := by decide +kernel
theorem dL_law_481 : decode cL_law 481 = .ok (.iload_n 3, 1) := by decide +kernel
theorem dL_law_482 : decode cL_law 482 = .ok (.iconst 2, 1) := by decide +kernel
theorem dL_law_483 : decode cL_law 483 = .ok (.iadd, 1) := by decide +kernel
theorem dL_law_484 : decode cL_law 484 = .ok (.iaload, 1) := by decide +kernel
theorem dL_law_485 : decode cL_law 485 = .ok (.invokevirtual 73, 3) := by decide +kernel
theorem dL_law_488 : decode cL_law 488 = .ok (.aload_n 2, 1) := by decide +kernel
theorem dL_law_489 : decode cL_law 489 = .ok (.aload_n 0, 1) := by decide +kernel
theorem dL_law_490 : decode cL_law 490 = .ok (.iload_n 3, 1) := by decide +kernel
theorem dL_law_491 : decode cL_law 491 = .ok (.iconst 1, 1) := by decide +kernel
theorem dL_law_492 : decode cL_law 492 = .ok (.iadd, 1) := by decide +kernel
theorem dL_law_493 : decode cL_law 493 = .ok (.iaload, 1) := by decide +kernel
theorem dL_law_494 : decode cL_law 494 = .ok (.aload_n 0, 1) := by decide +kernel
theorem dL_law_495 : decode cL_law 495 = .ok (.iload_n 3, 1) := by decide +kernel
theorem dL_law_496 : decode cL_law 496 = .ok (.iconst 2, 1) := by decide +kernel
theorem dL_law_497 : decode cL_law 497 = .ok (.iadd, 1) := by decide +kernel
theorem dL_law_498 : decode cL_law 498 = .ok (.iaload, 1) := by decide +kernel
theorem dL_law_499 : decode cL_law 499 = .ok (.invokevirtual 76, 3) := by decide +kernel
theorem dL_law_502 : decode cL_law 502 = .ok (.if_icmp .eq 258, 3) := by decide +kernel
theorem dL_law_505 : decode cL_law 505 = .ok (.iconst 0, 1) := by decide +kernel
theorem dL_law_506 : decode cL_law 506 = .ok (.ireturn, 1) := by decide +kernel
theorem dL_law_507 : decode cL_law 507 = .ok (.aload_n 1, 1) := by decide +kernel
theorem dL_law_508 : decode cL_law 508 = .ok (.aload_n 0, 1) := by decide +kernel
theorem dL_law_509 : decode cL_law 509 = .ok (.iload_n 3, 1) := by decide +kernel
theorem dL_law_510 : decode cL_law 510 = .ok (.iconst 1, 1) := by decide +kernel
theorem dL_law_511 : decode cL_law 511 = .ok (.iadd, 1) := by decide +kernel
theorem dL_law_512 : decode cL_law 512 = .ok (.iaload, 1) := by decide +kernel
theorem dL_law_513 : decode cL_law 513 = .ok (.aload_n 0, 1) := by decide +kernel
theorem dL_law_514 : decode cL_law 514 = .ok (.iload_n 3, 1) := by decide +kernel
theorem dL_law_515 : decode cL_law 515 = .ok (.iconst 2, 1) := by decide +kernel
theorem dL_law_516 : decode cL_law 516 = .ok (.iadd, 1) := by decide +kernel
theorem dL_law_517 : decode cL_law 517 = .ok (.iaload, 1) := by decide +kernel
theorem dL_law_518 : decode cL_law 518 = .ok (.invokevirtual 77, 3) := by decide +kernel
theorem dL_law_521 : decode cL_law 521 = .ok (.aload_n 2, 1) := by decide +kernel
theorem dL_law_522 : decode cL_law 522 = .ok (.aload_n 0, 1) := by decide +kernel
theorem dL_law_523 : decode cL_law 523 = .ok (.iload_n 3, 1) := by decide +kernel
theorem dL_law_524 : decode cL_law 524 = .ok (.iconst 1, 1) := by decide +kernel
theorem dL_law_525 : decode cL_law 525 = .ok (.iadd, 1) := by decide +kernel
theorem dL_law_526 : decode cL_law 526 = .ok (.iaload, 1) := by decide +kernel
theorem dL_law_527 : decode cL_law 527 = .ok (.aload_n 0, 1) := by decide +kernel
theorem dL_law_528 : decode cL_law 528 = .ok (.iload_n 3, 1) := by decide +kernel
theorem dL_law_529 : decode cL_law 529 = .ok (.iconst 2, 1) := by decide +kernel
theorem dL_law_530 : decode cL_law 530 = .ok (.iadd, 1) := by decide +kernel
theorem dL_law_531 : decode cL_law 531 = .ok (.iaload, 1) := by decide +kernel
theorem dL_law_532 : decode cL_law 532 = .ok (.invokevirtual 80, 3) := by decide +kernel
theorem dL_law_535 : decode cL_law 535 = .ok (.if_icmp .eq 225, 3) := by decide +kernel
theorem dL_law_538 : decode cL_law 538 = .ok (.iconst 0, 1) := by decide +kernel
theorem dL_law_539 : decode cL_law 539 = .ok (.ireturn, 1) := by decide +kernel
theorem dL_law_540 : decode cL_law 540 = .ok (.aload_n 1, 1) := by decide +kernel
theorem dL_law_541 : decode cL_law 541 = .ok (.aload_n 0, 1) := by decide +kernel
theorem dL_law_542 : decode cL_law 542 = .ok (.iload_n 3, 1) := by decide +kernel
theorem dL_law_543 : decode cL_law 543 = .ok (.iconst 1, 1) := by decide +kernel
theorem dL_law_544 : decode cL_law 544 = .ok (.iadd, 1) := by decide +kernel
theorem dL_law_545 : decode cL_law 545 = .ok (.iaload, 1) := by decide +kernel
theorem dL_law_546 : decode cL_law 546 = .ok (.invokevirtual 81, 3) := by decide +kernel
theorem dL_law_549 : decode cL_law 549 = .ok (.aload_n 2, 1) := by decide +kernel
theorem dL_law_550 : decode cL_law 550 = .ok (.aload_n 0, 1) := by decide +kernel
theorem dL_law_551 : decode cL_law 551 = .ok (.iload_n 3, 1) := by decide +kernel
theorem dL_law_552 : decode cL_law 552 = .ok (.iconst 1, 1) := by decide +kernel
theorem dL_law_553 : decode cL_law 553 = .ok (.iadd, 1) := by decide +kernel
theorem dL_law_554 : decode cL_law 554 = .ok (.iaload, 1) := by decide +kernel
theorem dL_law_555 : decode cL_law 555 = .ok (.invokevirtual 84, 3) := by decide +kernel
theorem dL_law_558 : decode cL_law 558 = .ok (.if_icmp .eq 202, 3) := by decide +kernel
theorem dL_law_561 : decode cL_law 561 = .ok (.iconst 0, 1) := by decide +kernel
theorem dL_law_562 : decode cL_law 562 = .ok (.ireturn, 1) := by decide +kernel
theorem dL_law_563 : decode cL_law 563 = .ok (.aload_n 1, 1) := by decide +kernel
theorem dL_law_564 : decode cL_law 564 = .ok (.aload_n 0, 1) := by decide +kernel
theorem dL_law_565 : decode cL_law 565 = .ok (.iload_n 3, 1) := by decide +kernel
theorem dL_law_566 : decode cL_law 566 = .ok (.iconst 1, 1) := by decide +kernel
theorem dL_law_567 : decode cL_law 567 = .ok (.iadd, 1) := by decide +kernel
theorem dL_law_568 : decode cL_law 568 = .ok (.iaload, 1) := by decide +kernel
theorem dL_law_569 : decode cL_law 569 = .ok (.invokevirtual 85, 3) := by decide +kernel
theorem dL_law_572 : decode cL_law 572 = .ok (.aload_n 2, 1) := by decide +kernel
theorem dL_law_573 : decode cL_law 573 = .ok (.aload_n 0, 1) := by decide +kernel
theorem dL_law_574 : decode cL_law 574 = .ok (.iload_n 3, 1) := by decide +kernel
theorem dL_law_575 : decode cL_law 575 = .ok (.iconst 1, 1) := by decide +kernel
theorem dL_law_576 : decode cL_law 576 = .ok (.iadd, 1) := by decide +kernel
theorem dL_law_577 : decode cL_law 577 = .ok (.iaload, 1) := by decide +kernel
theorem dL_law_578 : decode cL_law 578 = .ok (.invokevirtual 88, 3) := by decide +kernel
theorem dL_law_581 : decode cL_law 581 = .ok (.if_icmp .eq 179, 3) := by decide +kernel
theorem dL_law_584 : decode cL_law 584 = .ok (.iconst 0, 1) := by decide +kernel
theorem dL_law_585 : decode cL_law 585 = .ok (.ireturn, 1) := by decide +kernel
theorem dL_law_586 : decode cL_law 586 = .ok (.aload_n 1, 1) := by decide +kernel
theorem dL_law_587 : decode cL_law 587 = .ok (.aload_n 0, 1) := by decide +kernel
theorem dL_law_588 : decode cL_law 588 = .ok (.iload_n 3, 1) := by decide +kernel
theorem dL_law_589 : decode cL_law 589 = .ok (.iconst 1, 1) := by decide +kernel
theorem dL_law_590 : decode cL_law 590 = .ok (.iadd, 1) := by decide +kernel
theorem dL_law_591 : decode cL_law 591 = .ok (.iaload, 1) := by decide +kernel
theorem dL_law_592 : decode cL_law 592 = .ok (.invokevirtual 89, 3) := by decide +kernel
theorem dL_law_595 : decode cL_law 595 = .ok (.aload_n 2, 1) := by decide +kernel
theorem dL_law_596 : decode cL_law 596 = .ok (.aload_n 0, 1) := by decide +kernel
theorem dL_law_597 : decode cL_law 597 = .ok (.iload_n 3, 1) := by decide +kernel
theorem dL_law_598 : decode cL_law 598 = .ok (.iconst 1, 1) := by decide +kernel
theorem dL_law_599 : decode cL_law 599 = .ok (.iadd, 1) := by decide +kernel
theorem dL_law_600 : decode cL_law 600 = .ok (.iaload, 1) := by decide +kernel
theorem dL_law_601 : decode cL_law 601 = .ok (.invokevirtual 92, 3) := by decide +kernel
theorem dL_law_604 : decode cL_law 604 = .ok (.if_icmp .eq 156, 3) := by decide +kernel
theorem dL_law_607 : decode cL_law 607 = .ok (.iconst 0, 1) := by decide +kernel
theorem dL_law_608 : decode cL_law 608 = .ok (.ireturn, 1) := by decide +kernel
theorem dL_law_609 : decode cL_law 609 = .ok (.aload_n 1, 1) := by decide +kernel
theorem dL_law_610 : decode cL_law 610 = .ok (.aload_n 0, 1) := by decide +kernel
theorem dL_law_611 : decode cL_law 611 = .ok (.iload_n 3, 1) := by decide +kernel
theorem dL_law_612 : decode cL_law 612 = .ok (.iconst 1, 1) := by decide +kernel
theorem dL_law_613 : decode cL_law 613 = .ok (.iadd, 1) := by decide +kernel
theorem dL_law_614 : decode cL_law 614 = .ok (.iaload, 1) := by decide +kernel
theorem dL_law_615 : decode cL_law 615 = .ok (.aload_n 0, 1) := by decide +kernel
theorem dL_law_616 : decode cL_law 616 = .ok (.iload_n 3, 1) := by decide +kernel
theorem dL_law_617 : decode cL_law 617 = .ok (.iconst 2, 1) := by decide +kernel
theorem dL_law_618 : decode cL_law 618 = .ok (.iadd, 1) := by decide +kernel
theorem dL_law_619 : decode cL_law 619 = .ok (.iaload, 1) := by decide +kernel
theorem dL_law_620 : decode cL_law 620 = .ok (.invokevirtual 93, 3) := by decide +kernel
theorem dL_law_623 : decode cL_law 623 = .ok (.aload_n 2, 1) := by decide +kernel
theorem dL_law_624 : decode cL_law 624 = .ok (.aload_n 0, 1) := by decide +kernel
theorem dL_law_625 : decode cL_law 625 = .ok (.iload_n 3, 1) := by decide +kernel
theorem dL_law_626 : decode cL_law 626 = .ok (.iconst 1, 1) := by decide +kernel
theorem dL_law_627 : decode cL_law 627 = .ok (.iadd, 1) := by decide +kernel
theorem dL_law_628 : decode cL_law 628 = .ok (.iaload, 1) := by decide +kernel
theorem dL_law_629 : decode cL_law 629 = .ok (.aload_n 0, 1) := by decide +kernel
theorem dL_law_630 : decode cL_law 630 = .ok (.iload_n 3, 1) := by decide +kernel
theorem dL_law_631 : decode cL_law 631 = .ok (.iconst 2, 1) := by decide +kernel
theorem dL_law_632 : decode cL_law 632 = .ok (.iadd, 1) := by decide +kernel
theorem dL_law_633 : decode cL_law 633 = .ok (.iaload, 1) := by decide +kernel
theorem dL_law_634 : decode cL_law 634 = .ok (.invokevirtual 96, 3) := by decide +kernel
theorem dL_law_637 : decode cL_law 637 = .ok (.if_icmp .eq 123, 3) := by decide +kernel
theorem dL_law_640 : decode cL_law 640 = .ok (.iconst 0, 1) := by decide +kernel
theorem dL_law_641 : decode cL_law 641 = .ok (.ireturn, 1) := by decide +kernel
theorem dL_law_642 : decode cL_law 642 = .ok (.aload_n 1, 1) := by decide +kernel
theorem dL_law_643 : decode cL_law 643 = .ok (.invokevirtual 97, 3) := by decide +kernel
theorem dL_law_646 : decode cL_law 646 = .ok (.aload_n 2, 1) := by decide +kernel
theorem dL_law_647 : decode cL_law 647 = .ok (.invokevirtual 100, 3) := by decide +kernel
theorem dL_law_650 : decode cL_law 650 = .ok (.if_icmp .eq 110, 3) := by decide +kernel
theorem dL_law_653 : decode cL_law 653 = .ok (.iconst 0, 1) := by decide +kernel
theorem dL_law_654 : decode cL_law 654 = .ok (.ireturn, 1) := by decide +kernel
theorem dL_law_655 : decode cL_law 655 = .ok (.aload_n 1, 1) := by decide +kernel
theorem dL_law_656 : decode cL_law 656 = .ok (.aload_n 0, 1) := by decide +kernel
theorem dL_law_657 : decode cL_law 657 = .ok (.iload_n 3, 1) := by decide +kernel
theorem dL_law_658 : decode cL_law 658 = .ok (.iconst 1, 1) := by decide +kernel
theorem dL_law_659 : decode cL_law 659 = .ok (.iadd, 1) := by decide +kernel
theorem dL_law_660 : decode cL_law 660 = .ok (.iaload, 1) := by decide +kernel
theorem dL_law_661 : decode cL_law 661 = .ok (.invokevirtual 101, 3) := by decide +kernel
theorem dL_law_664 : decode cL_law 664 = .ok (.aload_n 2, 1) := by decide +kernel
theorem dL_law_665 : decode cL_law 665 = .ok (.aload_n 0, 1) := by decide +kernel
theorem dL_law_666 : decode cL_law 666 = .ok (.iload_n 3, 1) := by decide +kernel
theorem dL_law_667 : decode cL_law 667 = .ok (.iconst 1, 1) := by decide +kernel
theorem dL_law_668 : decode cL_law 668 = .ok (.iadd, 1) := by decide +kernel
theorem dL_law_669 : decode cL_law 669 = .ok (.iaload, 1) := by decide +kernel
theorem dL_law_670 : decode cL_law 670 = .ok (.invokevirtual 104, 3) := by decide +kernel
theorem dL_law_673 : decode cL_law 673 = .ok (.if_icmp .eq 87, 3) := by decide +kernel
theorem dL_law_676 : decode cL_law 676 = .ok (.iconst 0, 1) := by decide +kernel
theorem dL_law_677 : decode cL_law 677 = .ok (.ireturn, 1) := by decide +kernel
theorem dL_law_678 : decode cL_law 678 = .ok (.aload_n 1, 1) := by decide +kernel
theorem dL_law_679 : decode cL_law 679 = .ok (.invokevirtual 105, 3) := by decide +kernel
theorem dL_law_682 : decode cL_law 682 = .ok (.aload_n 2, 1) := by decide +kernel
theorem dL_law_683 : decode cL_law 683 = .ok (.invokevirtual 108, 3) := by decide +kernel
theorem dL_law_686 : decode cL_law 686 = .ok (.if_icmp .eq 74, 3) := by decide +kernel
theorem dL_law_689 : decode cL_law 689 = .ok (.iconst 0, 1) := by decide +kernel
theorem dL_law_690 : decode cL_law 690 = .ok (.ireturn, 1) := by decide +kernel
theorem dL_law_691 : decode cL_law 691 = .ok (.aload_n 1, 1) := by decide +kernel
theorem dL_law_692 : decode cL_law 692 = .ok (.aload_n 0, 1) := by decide +kernel
theorem dL_law_693 : decode cL_law 693 = .ok (.iload_n 3, 1) := by decide +kernel
theorem dL_law_694 : decode cL_law 694 = .ok (.iconst 1, 1) := by decide +kernel
theorem dL_law_695 : decode cL_law 695 = .ok (.iadd, 1) := by decide +kernel
theorem dL_law_696 : decode cL_law 696 = .ok (.iaload, 1) := by decide +kernel
theorem dL_law_697 : decode cL_law 697 = .ok (.invokevirtual 109, 3) := by decide +kernel
theorem dL_law_700 : decode cL_law 700 = .ok (.aload_n 2, 1) := by decide +kernel
theorem dL_law_701 : decode cL_law 701 = .ok (.aload_n 0, 1) := by decide +kernel
theorem dL_law_702 : decode cL_law 702 = .ok (.iload_n 3, 1) := by decide +kernel
theorem dL_law_703 : decode cL_law 703 = .ok (.iconst 1, 1) := by decide +kernel
theorem dL_law_704 : decode cL_law 704 = .ok (.iadd, 1) := by decide +kernel
theorem dL_law_705 : decode cL_law 705 = .ok (.iaload, 1) := by decide +kernel
theorem dL_law_706 : decode cL_law 706 = .ok (.invokevirtual 112, 3) := by decide +kernel
theorem dL_law_709 : decode cL_law 709 = .ok (.if_icmp .eq 51, 3) := by decide +kernel
theorem dL_law_712 : decode cL_law 712 = .ok (.iconst 0, 1) := by decide +kernel
theorem dL_law_713 : decode cL_law 713 = .ok (.ireturn, 1) := by decide +kernel
theorem dL_law_714 : decode cL_law 714 = .ok (.aload_n 1, 1) := by decide +kernel
theorem dL_law_715 : decode cL_law 715 = .ok (.aload_n 0, 1) := by decide +kernel
theorem dL_law_716 : decode cL_law 716 = .ok (.iload_n 3, 1) := by decide +kernel
theorem dL_law_717 : decode cL_law 717 = .ok (.iconst 1, 1) := by decide +kernel
theorem dL_law_718 : decode cL_law 718 = .ok (.iadd, 1) := by decide +kernel
theorem dL_law_719 : decode cL_law 719 = .ok (.iaload, 1) := by decide +kernel
theorem dL_law_720 : decode cL_law 720 = .ok (.invokevirtual 113, 3) := by decide +kernel
theorem dL_law_723 : decode cL_law 723 = .ok (.aload_n 2, 1) := by decide +kernel
theorem dL_law_724 : decode cL_law 724 = .ok (.aload_n 0, 1) := by decide +kernel
theorem dL_law_725 : decode cL_law 725 = .ok (.iload_n 3, 1) := by decide +kernel
theorem dL_law_726 : decode cL_law 726 = .ok (.iconst 1, 1) := by decide +kernel
theorem dL_law_727 : decode cL_law 727 = .ok (.iadd, 1) := by decide +kernel
theorem dL_law_728 : decode cL_law 728 = .ok (.iaload, 1) := by decide +kernel
theorem dL_law_729 : decode cL_law 729 = .ok (.invokevirtual 116, 3) := by decide +kernel
theorem dL_law_732 : decode cL_law 732 = .ok (.if_icmp .eq 28, 3) := by decide +kernel
theorem dL_law_735 : decode cL_law 735 = .ok (.iconst 0, 1) := by decide +kernel
theorem dL_law_736 : decode cL_law 736 = .ok (.ireturn, 1) := by decide +kernel
theorem dL_law_737 : decode cL_law 737 = .ok (.aload_n 1, 1) := by decide +kernel
theorem dL_law_738 : decode cL_law 738 = .ok (.aload_n 0, 1) := by decide +kernel
theorem dL_law_739 : decode cL_law 739 = .ok (.iload_n 3, 1) := by decide +kernel
theorem dL_law_740 : decode cL_law 740 = .ok (.iconst 1, 1) := by decide +kernel
theorem dL_law_741 : decode cL_law 741 = .ok (.iadd, 1) := by decide +kernel
theorem dL_law_742 : decode cL_law 742 = .ok (.iaload, 1) := by decide +kernel
theorem dL_law_743 : decode cL_law 743 = .ok (.invokevirtual 117, 3) := by decide +kernel
theorem dL_law_746 : decode cL_law 746 = .ok (.aload_n 2, 1) := by decide +kernel
theorem dL_law_747 : decode cL_law 747 = .ok (.aload_n 0, 1) := by decide +kernel
theorem dL_law_748 : decode cL_law 748 = .ok (.iload_n 3, 1) := by decide +kernel
theorem dL_law_749 : decode cL_law 749 = .ok (.iconst 1, 1) := by decide +kernel
theorem dL_law_750 : decode cL_law 750 = .ok (.iadd, 1) := by decide +kernel
theorem dL_law_751 : decode cL_law 751 = .ok (.iaload, 1) := by decide +kernel
theorem dL_law_752 : decode cL_law 752 = .ok (.invokevirtual 120, 3) := by decide +kernel
theorem dL_law_755 : decode cL_law 755 = .ok (.if_icmp .eq 5, 3) := by decide +kernel
theorem dL_law_758 : decode cL_law 758 = .ok (.iconst 0, 1) := by decide +kernel
theorem dL_law_759 : decode cL_law 759 = .ok (.ireturn, 1) := by decide +kernel
theorem dL_law_760 : decode cL_law 760 = .ok (.iinc 3 4, 3) := by decide +kernel
theorem dL_law_763 : decode cL_law 763 = .ok (.goto (-745), 3) := by decide +kernel
theorem dL_law_766 : decode cL_law 766 = .ok (.iconst 1, 1) := by decide +kernel
theorem dL_law_767 : decode cL_law 767 = .ok (.ireturn, 1) := by decide +kernel
