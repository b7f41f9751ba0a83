theorem d_Md_init_0 : decode b_Md_init 0 = .ok (.aload_n 0, 1) := by decide +kernel
theorem d_Md_init_1 : decode b_Md_init 1 = .ok (.invokespecial 1, 3) := by decide +kernel
theorem d_Md_init_4 : decode b_Md_init 4 = .ok (.aload_n 0, 1) := by decide +kernel
theorem d_Md_init_5 : decode b_Md_init 5 = .ok (.bipush 64, 2) := by decide +kernel
theorem d_Md_init_7 : decode b_Md_init 7 = .ok (.newarray .boolean, 2) := by decide +kernel
theorem d_Md_init_9 : decode b_Md_init 9 = .ok (.putfield 7, 3) := by decide +kernel
theorem d_Md_init_12 : decode b_Md_init 12 = .ok (.aload_n 0, 1) := by decide +kernel
theorem d_Md_init_13 : decode b_Md_init 13 = .ok (.bipush 64, 2) := by decide +kernel
theorem d_Md_init_15 : decode b_Md_init 15 = .ok (.newarray .int, 2) := by decide +kernel
theorem d_Md_init_17 : decode b_Md_init 17 = .ok (.putfield 13, 3) := by decide +kernel
theorem d_Md_init_20 : decode b_Md_init 20 = .ok (.aload_n 0, 1) := by decide +kernel
theorem d_Md_init_21 : decode b_Md_init 21 = .ok (.bipush 64, 2) := by decide +kernel
theorem d_Md_init_23 : decode b_Md_init 23 = .ok (.newarray .int, 2) := by decide +kernel
theorem d_Md_init_25 : decode b_Md_init 25 = .ok (.putfield 17, 3) := by decide +kernel
theorem d_Md_init_28 : decode b_Md_init 28 = .ok (.aload_n 0, 1) := by decide +kernel
theorem d_Md_init_29 : decode b_Md_init 29 = .ok (.bipush 64, 2) := by decide +kernel
theorem d_Md_init_31 : decode b_Md_init 31 = .ok (.newarray .int, 2) := by decide +kernel
theorem d_Md_init_33 : decode b_Md_init 33 = .ok (.putfield 20, 3) := by decide +kernel
theorem d_Md_init_36 : decode b_Md_init 36 = .ok (.aload_n 0, 1) := by decide +kernel
theorem d_Md_init_37 : decode b_Md_init 37 = .ok (.bipush 64, 2) := by decide +kernel
theorem d_Md_init_39 : decode b_Md_init 39 = .ok (.newarray .int, 2) := by decide +kernel
theorem d_Md_init_41 : decode b_Md_init 41 = .ok (.putfield 23, 3) := by decide +kernel
theorem d_Md_init_44 : decode b_Md_init 44 = .ok (.aload_n 0, 1) := by decide +kernel
theorem d_Md_init_45 : decode b_Md_init 45 = .ok (.bipush 64, 2) := by decide +kernel
theorem d_Md_init_47 : decode b_Md_init 47 = .ok (.newarray .int, 2) := by decide +kernel
theorem d_Md_init_49 : decode b_Md_init 49 = .ok (.putfield 26, 3) := by decide +kernel
theorem d_Md_init_52 : decode b_Md_init 52 = .ok (.return_, 1) := by decide +kernel
theorem d_Md_put_0 : decode b_Md_put 0 = .ok (.aload_n 0, 1) := by decide +kernel
theorem d_Md_put_1 : decode b_Md_put 1 = .ok (.iconst 0, 1) := by decide +kernel
theorem d_Md_put_2 : decode b_Md_put 2 = .ok (.putfield 29, 3) := by decide +kernel
theorem d_Md_put_5 : decode b_Md_put 5 = .ok (.aload_n 0, 1) := by decide +kernel
theorem d_Md_put_6 : decode b_Md_put 6 = .ok (.invokevirtual 44, 3) := by decide +kernel
theorem d_Md_put_9 : decode b_Md_put 9 = .ok (.istore 5, 2) := by decide +kernel
theorem d_Md_put_11 : decode b_Md_put 11 = .ok (.iload_n 1, 1) := by decide +kernel
theorem d_Md_put_12 : decode b_Md_put 12 = .ok (.sipush 2000, 3) := by decide +kernel
theorem d_Md_put_15 : decode b_Md_put 15 = .ok (.invokestatic 48, 3) := by decide +kernel
theorem d_Md_put_18 : decode b_Md_put 18 = .ok (.ifCond .eq 50, 3) := by decide +kernel
theorem d_Md_put_21 : decode b_Md_put 21 = .ok (.iload_n 2, 1) := by decide +kernel
theorem d_Md_put_22 : decode b_Md_put 22 = .ok (.sipush 2000, 3) := by decide +kernel
theorem d_Md_put_25 : decode b_Md_put 25 = .ok (.invokestatic 48, 3) := by decide +kernel
theorem d_Md_put_28 : decode b_Md_put 28 = .ok (.ifCond .eq 40, 3) := by decide +kernel
theorem d_Md_put_31 : decode b_Md_put 31 = .ok (.iload_n 3, 1) := by decide +kernel
theorem d_Md_put_32 : decode b_Md_put 32 = .ok (.sipush 2000, 3) := by decide +kernel
theorem d_Md_put_35 : decode b_Md_put 35 = .ok (.invokestatic 48, 3) := by decide +kernel
theorem d_Md_put_38 : decode b_Md_put 38 = .ok (.ifCond .eq 30, 3) := by decide +kernel
theorem d_Md_put_41 : decode b_Md_put 41 = .ok (.iload 4, 2) := by decide +kernel
theorem d_Md_put_43 : decode b_Md_put 43 = .ok (.sipush 2000, 3) := by decide +kernel
theorem d_Md_put_46 : decode b_Md_put 46 = .ok (.invokestatic 48, 3) := by decide +kernel
theorem d_Md_put_49 : decode b_Md_put 49 = .ok (.ifCond .eq 19, 3) := by decide +kernel
theorem d_Md_put_52 : decode b_Md_put 52 = .ok (.iload_n 1, 1) := by decide +kernel
theorem d_Md_put_53 : decode b_Md_put 53 = .ok (.iload_n 3, 1) := by decide +kernel
theorem d_Md_put_54 : decode b_Md_put 54 = .ok (.if_icmp .ne 9, 3) := by decide +kernel
theorem d_Md_put_57 : decode b_Md_put 57 = .ok (.iload_n 2, 1) := by decide +kernel
theorem d_Md_put_58 : decode b_Md_put 58 = .ok (.iload 4, 2) := by decide +kernel
theorem d_Md_put_60 : decode b_Md_put 60 = .ok (.if_icmp .eq 8, 3) := by decide +kernel
theorem d_Md_put_63 : decode b_Md_put 63 = .ok (.iload 5, 2) := by decide +kernel
theorem d_Md_put_65 : decode b_Md_put 65 = .ok (.ifCond .ge 5, 3) := by decide +kernel
theorem d_Md_put_68 : decode b_Md_put 68 = .ok (.iconst (-1), 1) := by decide +kernel
theorem d_Md_put_69 : decode b_Md_put 69 = .ok (.ireturn, 1) := by decide +kernel
theorem d_Md_put_70 : decode b_Md_put 70 = .ok (.aload_n 0, 1) := by decide +kernel
theorem d_Md_put_71 : decode b_Md_put 71 = .ok (.getfield 13, 3) := by decide +kernel
theorem d_Md_put_74 : decode b_Md_put 74 = .ok (.iload 5, 2) := by decide +kernel
theorem d_Md_put_76 : decode b_Md_put 76 = .ok (.iload_n 1, 1) := by decide +kernel
theorem d_Md_put_77 : decode b_Md_put 77 = .ok (.iastore, 1) := by decide +kernel
theorem d_Md_put_78 : decode b_Md_put 78 = .ok (.aload_n 0, 1) := by decide +kernel
theorem d_Md_put_79 : decode b_Md_put 79 = .ok (.getfield 17, 3) := by decide +kernel
theorem d_Md_put_82 : decode b_Md_put 82 = .ok (.iload 5, 2) := by decide +kernel
theorem d_Md_put_84 : decode b_Md_put 84 = .ok (.iload_n 2, 1) := by decide +kernel
theorem d_Md_put_85 : decode b_Md_put 85 = .ok (.iastore, 1) := by decide +kernel
theorem d_Md_put_86 : decode b_Md_put 86 = .ok (.aload_n 0, 1) := by decide +kernel
theorem d_Md_put_87 : decode b_Md_put 87 = .ok (.getfield 20, 3) := by decide +kernel
theorem d_Md_put_90 : decode b_Md_put 90 = .ok (.iload 5, 2) := by decide +kernel
theorem d_Md_put_92 : decode b_Md_put 92 = .ok (.iload_n 3, 1) := by decide +kernel
theorem d_Md_put_93 : decode b_Md_put 93 = .ok (.iastore, 1) := by decide +kernel
theorem d_Md_put_94 : decode b_Md_put 94 = .ok (.aload_n 0, 1) := by decide +kernel
theorem d_Md_put_95 : decode b_Md_put 95 = .ok (.getfield 23, 3) := by decide +kernel
theorem d_Md_put_98 : decode b_Md_put 98 = .ok (.iload 5, 2) := by decide +kernel
theorem d_Md_put_100 : decode b_Md_put 100 = .ok (.iload 4, 2) := by decide +kernel
theorem d_Md_put_102 : decode b_Md_put 102 = .ok (.iastore, 1) := by decide +kernel
theorem d_Md_put_103 : decode b_Md_put 103 = .ok (.iconst 0, 1) := by decide +kernel
theorem d_Md_put_104 : decode b_Md_put 104 = .ok (.istore 6, 2) := by decide +kernel
theorem d_Md_put_106 : decode b_Md_put 106 = .ok (.iload 6, 2) := by decide +kernel
theorem d_Md_put_108 : decode b_Md_put 108 = .ok (.bipush 64, 2) := by decide +kernel
theorem d_Md_put_110 : decode b_Md_put 110 = .ok (.if_icmp .ge 32, 3) := by decide +kernel
theorem d_Md_put_113 : decode b_Md_put 113 = .ok (.aload_n 0, 1) := by decide +kernel
theorem d_Md_put_114 : decode b_Md_put 114 = .ok (.getfield 7, 3) := by decide +kernel
theorem d_Md_put_117 : decode b_Md_put 117 = .ok (.iload 6, 2) := by decide +kernel
theorem d_Md_put_119 : decode b_Md_put 119 = .ok (.baload, 1) := by decide +kernel
theorem d_Md_put_120 : decode b_Md_put 120 = .ok (.ifCond .eq 16, 3) := by decide +kernel
theorem d_Md_put_123 : decode b_Md_put 123 = .ok (.aload_n 0, 1) := by decide +kernel
theorem d_Md_put_124 : decode b_Md_put 124 = .ok (.iload 5, 2) := by decide +kernel
theorem d_Md_put_126 : decode b_Md_put 126 = .ok (.iload 6, 2) := by decide +kernel
theorem d_Md_put_128 : decode b_Md_put 128 = .ok (.invokevirtual 52, 3) := by decide +kernel
theorem d_Md_put_131 : decode b_Md_put 131 = .ok (.ifCond .ne 5, 3) := by decide +kernel
theorem d_Md_put_134 : decode b_Md_put 134 = .ok (.iconst (-1), 1) := by decide +kernel
theorem d_Md_put_135 : decode b_Md_put 135 = .ok (.ireturn, 1) := by decide +kernel
theorem d_Md_put_136 : decode b_Md_put 136 = .ok (.iinc 6 1, 3) := by decide +kernel
theorem d_Md_put_139 : decode b_Md_put 139 = .ok (.goto (-33), 3) := by decide +kernel
theorem d_Md_put_142 : decode b_Md_put 142 = .ok (.aload_n 0, 1) := by decide +kernel
theorem d_Md_put_143 : decode b_Md_put 143 = .ok (.getfield 7, 3) := by decide +kernel
theorem d_Md_put_146 : decode b_Md_put 146 = .ok (.iload 5, 2) := by decide +kernel
theorem d_Md_put_148 : decode b_Md_put 148 = .ok (.iconst 1, 1) := by decide +kernel
theorem d_Md_put_149 : decode b_Md_put 149 = .ok (.bastore, 1) := by decide +kernel
theorem d_Md_put_150 : decode b_Md_put 150 = .ok (.aload_n 0, 1) := by decide +kernel
theorem d_Md_put_151 : decode b_Md_put 151 = .ok (.dup, 1) := by decide +kernel
theorem d_Md_put_152 : decode b_Md_put 152 = .ok (.getfield 55, 3) := by decide +kernel
theorem d_Md_put_155 : decode b_Md_put 155 = .ok (.iconst 1, 1) := by decide +kernel
theorem d_Md_put_156 : decode b_Md_put 156 = .ok (.iadd, 1) := by decide +kernel
theorem d_Md_put_157 : decode b_Md_put 157 = .ok (.putfield 55, 3) := by decide +kernel
theorem d_Md_put_160 : decode b_Md_put 160 = .ok (.iload 5, 2) := by decide +kernel
theorem d_Md_put_162 : decode b_Md_put 162 = .ok (.ireturn, 1) := by decide +kernel
theorem d_Md_take_0 : decode b_Md_take 0 = .ok (.aload_n 0, 1) := by decide +kernel
theorem d_Md_take_1 : decode b_Md_take 1 = .ok (.iconst 0, 1) := by decide +kernel
theorem d_Md_take_2 : decode b_Md_take 2 = .ok (.putfield 29, 3) := by decide +kernel
theorem d_Md_take_5 : decode b_Md_take 5 = .ok (.aload_n 0, 1) := by decide +kernel
theorem d_Md_take_6 : decode b_Md_take 6 = .ok (.iload_n 1, 1) := by decide +kernel
theorem d_Md_take_7 : decode b_Md_take 7 = .ok (.invokevirtual 58, 3) := by decide +kernel
theorem d_Md_take_10 : decode b_Md_take 10 = .ok (.ifCond .ne 5, 3) := by decide +kernel
theorem d_Md_take_13 : decode b_Md_take 13 = .ok (.iconst 0, 1) := by decide +kernel
theorem d_Md_take_14 : decode b_Md_take 14 = .ok (.ireturn, 1) := by decide +kernel
theorem d_Md_take_15 : decode b_Md_take 15 = .ok (.aload_n 0, 1) := by decide +kernel
theorem d_Md_take_16 : decode b_Md_take 16 = .ok (.getfield 7, 3) := by decide +kernel
theorem d_Md_take_19 : decode b_Md_take 19 = .ok (.iload_n 1, 1) := by decide +kernel
theorem d_Md_take_20 : decode b_Md_take 20 = .ok (.iconst 0, 1) := by decide +kernel
theorem d_Md_take_21 : decode b_Md_take 21 = .ok (.bastore, 1) := by decide +kernel
theorem d_Md_take_22 : decode b_Md_take 22 = .ok (.aload_n 0, 1) := by decide +kernel
theorem d_Md_take_23 : decode b_Md_take 23 = .ok (.dup, 1) := by decide +kernel
theorem d_Md_take_24 : decode b_Md_take 24 = .ok (.getfield 55, 3) := by decide +kernel
theorem d_Md_take_27 : decode b_Md_take 27 = .ok (.iconst 1, 1) := by decide +kernel
theorem d_Md_take_28 : decode b_Md_take 28 = .ok (.isub, 1) := by decide +kernel
theorem d_Md_take_29 : decode b_Md_take 29 = .ok (.putfield 55, 3) := by decide +kernel
theorem d_Md_take_32 : decode b_Md_take 32 = .ok (.iconst 1, 1) := by decide +kernel
theorem d_Md_take_33 : decode b_Md_take 33 = .ok (.ireturn, 1) := by decide +kernel
theorem d_Md_turn_0 : decode b_Md_turn 0 = .ok (.aload_n 0, 1) := by decide +kernel
theorem d_Md_turn_1 : decode b_Md_turn 1 = .ok (.iconst 0, 1) := by decide +kernel
theorem d_Md_turn_2 : decode b_Md_turn 2 = .ok (.putfield 29, 3) := by decide +kernel
theorem d_Md_turn_5 : decode b_Md_turn 5 = .ok (.aload_n 0, 1) := by decide +kernel
theorem d_Md_turn_6 : decode b_Md_turn 6 = .ok (.iload_n 1, 1) := by decide +kernel
theorem d_Md_turn_7 : decode b_Md_turn 7 = .ok (.invokevirtual 58, 3) := by decide +kernel
theorem d_Md_turn_10 : decode b_Md_turn 10 = .ok (.ifCond .ne 5, 3) := by decide +kernel
theorem d_Md_turn_13 : decode b_Md_turn 13 = .ok (.iconst 0, 1) := by decide +kernel
theorem d_Md_turn_14 : decode b_Md_turn 14 = .ok (.ireturn, 1) := by decide +kernel
theorem d_Md_turn_15 : decode b_Md_turn 15 = .ok (.aload_n 0, 1) := by decide +kernel
theorem d_Md_turn_16 : decode b_Md_turn 16 = .ok (.getfield 13, 3) := by decide +kernel
theorem d_Md_turn_19 : decode b_Md_turn 19 = .ok (.iload_n 1, 1) := by decide +kernel
theorem d_Md_turn_20 : decode b_Md_turn 20 = .ok (.iaload, 1) := by decide +kernel
theorem d_Md_turn_21 : decode b_Md_turn 21 = .ok (.istore_n 2, 1) := by decide +kernel
theorem d_Md_turn_22 : decode b_Md_turn 22 = .ok (.aload_n 0, 1) := by decide +kernel
theorem d_Md_turn_23 : decode b_Md_turn 23 = .ok (.getfield 17, 3) := by decide +kernel
theorem d_Md_turn_26 : decode b_Md_turn 26 = .ok (.iload_n 1, 1) := by decide +kernel
theorem d_Md_turn_27 : decode b_Md_turn 27 = .ok (.iaload, 1) := by decide +kernel
theorem d_Md_turn_28 : decode b_Md_turn 28 = .ok (.istore_n 3, 1) := by decide +kernel
theorem d_Md_turn_29 : decode b_Md_turn 29 = .ok (.aload_n 0, 1) := by decide +kernel
theorem d_Md_turn_30 : decode b_Md_turn 30 = .ok (.getfield 13, 3) := by decide +kernel
theorem d_Md_turn_33 : decode b_Md_turn 33 = .ok (.iload_n 1, 1) := by decide +kernel
theorem d_Md_turn_34 : decode b_Md_turn 34 = .ok (.aload_n 0, 1) := by decide +kernel
theorem d_Md_turn_35 : decode b_Md_turn 35 = .ok (.getfield 20, 3) := by decide +kernel
theorem d_Md_turn_38 : decode b_Md_turn 38 = .ok (.iload_n 1, 1) := by decide +kernel
theorem d_Md_turn_39 : decode b_Md_turn 39 = .ok (.iaload, 1) := by decide +kernel
theorem d_Md_turn_40 : decode b_Md_turn 40 = .ok (.iastore, 1) := by decide +kernel
theorem d_Md_turn_41 : decode b_Md_turn 41 = .ok (.aload_n 0, 1) := by decide +kernel
theorem d_Md_turn_42 : decode b_Md_turn 42 = .ok (.getfield 17, 3) := by decide +kernel
theorem d_Md_turn_45 : decode b_Md_turn 45 = .ok (.iload_n 1, 1) := by decide +kernel
theorem d_Md_turn_46 : decode b_Md_turn 46 = .ok (.aload_n 0, 1) := by decide +kernel
theorem d_Md_turn_47 : decode b_Md_turn 47 = .ok (.getfield 23, 3) := by decide +kernel
theorem d_Md_turn_50 : decode b_Md_turn 50 = .ok (.iload_n 1, 1) := by decide +kernel
theorem d_Md_turn_51 : decode b_Md_turn 51 = .ok (.iaload, 1) := by decide +kernel
theorem d_Md_turn_52 : decode b_Md_turn 52 = .ok (.iastore, 1) := by decide +kernel
theorem d_Md_turn_53 : decode b_Md_turn 53 = .ok (.aload_n 0, 1) := by decide +kernel
theorem d_Md_turn_54 : decode b_Md_turn 54 = .ok (.getfield 20, 3) := by decide +kernel
theorem d_Md_turn_57 : decode b_Md_turn 57 = .ok (.iload_n 1, 1) := by decide +kernel
theorem d_Md_turn_58 : decode b_Md_turn 58 = .ok (.iload_n 2, 1) := by decide +kernel
theorem d_Md_turn_59 : decode b_Md_turn 59 = .ok (.iastore, 1) := by decide +kernel
theorem d_Md_turn_60 : decode b_Md_turn 60 = .ok (.aload_n 0, 1) := by decide +kernel
theorem d_Md_turn_61 : decode b_Md_turn 61 = .ok (.getfield 23, 3) := by decide +kernel
theorem d_Md_turn_64 : decode b_Md_turn 64 = .ok (.iload_n 1, 1) := by decide +kernel
theorem d_Md_turn_65 : decode b_Md_turn 65 = .ok (.iload_n 3, 1) := by decide +kernel
theorem d_Md_turn_66 : decode b_Md_turn 66 = .ok (.iastore, 1) := by decide +kernel
theorem d_Md_turn_67 : decode b_Md_turn 67 = .ok (.iconst 1, 1) := by decide +kernel
theorem d_Md_turn_68 : decode b_Md_turn 68 = .ok (.ireturn, 1) := by decide +kernel
theorem d_Md_clear_0 : decode b_Md_clear 0 = .ok (.aload_n 0, 1) := by decide +kernel
theorem d_Md_clear_1 : decode b_Md_clear 1 = .ok (.iconst 0, 1) := by decide +kernel
theorem d_Md_clear_2 : decode b_Md_clear 2 = .ok (.putfield 29, 3) := by decide +kernel
theorem d_Md_clear_5 : decode b_Md_clear 5 = .ok (.aload_n 0, 1) := by decide +kernel
theorem d_Md_clear_6 : decode b_Md_clear 6 = .ok (.iconst 0, 1) := by decide +kernel
theorem d_Md_clear_7 : decode b_Md_clear 7 = .ok (.putfield 55, 3) := by decide +kernel
theorem d_Md_clear_10 : decode b_Md_clear 10 = .ok (.iconst 0, 1) := by decide +kernel
theorem d_Md_clear_11 : decode b_Md_clear 11 = .ok (.istore_n 1, 1) := by decide +kernel
theorem d_Md_clear_12 : decode b_Md_clear 12 = .ok (.iload_n 1, 1) := by decide +kernel
theorem d_Md_clear_13 : decode b_Md_clear 13 = .ok (.bipush 64, 2) := by decide +kernel
theorem d_Md_clear_15 : decode b_Md_clear 15 = .ok (.if_icmp .ge 16, 3) := by decide +kernel
theorem d_Md_clear_18 : decode b_Md_clear 18 = .ok (.aload_n 0, 1) := by decide +kernel
theorem d_Md_clear_19 : decode b_Md_clear 19 = .ok (.getfield 7, 3) := by decide +kernel
theorem d_Md_clear_22 : decode b_Md_clear 22 = .ok (.iload_n 1, 1) := by decide +kernel
theorem d_Md_clear_23 : decode b_Md_clear 23 = .ok (.iconst 0, 1) := by decide +kernel
theorem d_Md_clear_24 : decode b_Md_clear 24 = .ok (.bastore, 1) := by decide +kernel
theorem d_Md_clear_25 : decode b_Md_clear 25 = .ok (.iinc 1 1, 3) := by decide +kernel
theorem d_Md_clear_28 : decode b_Md_clear 28 = .ok (.goto (-16), 3) := by decide +kernel
theorem d_Md_clear_31 : decode b_Md_clear 31 = .ok (.return_, 1) := by decide +kernel
theorem d_Md_ray_0 : decode b_Md_ray 0 = .ok (.aload_n 0, 1) := by decide +kernel
theorem d_Md_ray_1 : decode b_Md_ray 1 = .ok (.iconst 0, 1) := by decide +kernel
theorem d_Md_ray_2 : decode b_Md_ray 2 = .ok (.putfield 29, 3) := by decide +kernel
theorem d_Md_ray_5 : decode b_Md_ray 5 = .ok (.iload_n 1, 1) := by decide +kernel
theorem d_Md_ray_6 : decode b_Md_ray 6 = .ok (.sipush 4000, 3) := by decide +kernel
theorem d_Md_ray_9 : decode b_Md_ray 9 = .ok (.invokestatic 48, 3) := by decide +kernel
theorem d_Md_ray_12 : decode b_Md_ray 12 = .ok (.ifCond .eq 43, 3) := by decide +kernel
theorem d_Md_ray_15 : decode b_Md_ray 15 = .ok (.iload_n 2, 1) := by decide +kernel
theorem d_Md_ray_16 : decode b_Md_ray 16 = .ok (.sipush 4000, 3) := by decide +kernel
theorem d_Md_ray_19 : decode b_Md_ray 19 = .ok (.invokestatic 48, 3) := by decide +kernel
theorem d_Md_ray_22 : decode b_Md_ray 22 = .ok (.ifCond .eq 33, 3) := by decide +kernel
theorem d_Md_ray_25 : decode b_Md_ray 25 = .ok (.iload_n 3, 1) := by decide +kernel
theorem d_Md_ray_26 : decode b_Md_ray 26 = .ok (.sipush 20000, 3) := by decide +kernel
theorem d_Md_ray_29 : decode b_Md_ray 29 = .ok (.invokestatic 48, 3) := by decide +kernel
theorem d_Md_ray_32 : decode b_Md_ray 32 = .ok (.ifCond .eq 23, 3) := by decide +kernel
theorem d_Md_ray_35 : decode b_Md_ray 35 = .ok (.iload 4, 2) := by decide +kernel
theorem d_Md_ray_37 : decode b_Md_ray 37 = .ok (.sipush 20000, 3) := by decide +kernel
theorem d_Md_ray_40 : decode b_Md_ray 40 = .ok (.invokestatic 48, 3) := by decide +kernel
theorem d_Md_ray_43 : decode b_Md_ray 43 = .ok (.ifCond .eq 12, 3) := by decide +kernel
theorem d_Md_ray_46 : decode b_Md_ray 46 = .ok (.iload_n 3, 1) := by decide +kernel
theorem d_Md_ray_47 : decode b_Md_ray 47 = .ok (.ifCond .ne 10, 3) := by decide +kernel
theorem d_Md_ray_50 : decode b_Md_ray 50 = .ok (.iload 4, 2) := by decide +kernel
theorem d_Md_ray_52 : decode b_Md_ray 52 = .ok (.ifCond .ne 5, 3) := by decide +kernel
theorem d_Md_ray_55 : decode b_Md_ray 55 = .ok (.iconst 0, 1) := by decide +kernel
theorem d_Md_ray_56 : decode b_Md_ray 56 = .ok (.ireturn, 1) := by decide +kernel
theorem d_Md_ray_57 : decode b_Md_ray 57 = .ok (.aload_n 0, 1) := by decide +kernel
theorem d_Md_ray_58 : decode b_Md_ray 58 = .ok (.iconst 1, 1) := by decide +kernel
theorem d_Md_ray_59 : decode b_Md_ray 59 = .ok (.putfield 62, 3) := by decide +kernel
theorem d_Md_ray_62 : decode b_Md_ray 62 = .ok (.aload_n 0, 1) := by decide +kernel
theorem d_Md_ray_63 : decode b_Md_ray 63 = .ok (.iload_n 1, 1) := by decide +kernel
theorem d_Md_ray_64 : decode b_Md_ray 64 = .ok (.putfield 66, 3) := by decide +kernel
theorem d_Md_ray_67 : decode b_Md_ray 67 = .ok (.aload_n 0, 1) := by decide +kernel
theorem d_Md_ray_68 : decode b_Md_ray 68 = .ok (.iload_n 2, 1) := by decide +kernel
theorem d_Md_ray_69 : decode b_Md_ray 69 = .ok (.putfield 69, 3) := by decide +kernel
theorem d_Md_ray_72 : decode b_Md_ray 72 = .ok (.aload_n 0, 1) := by decide +kernel
theorem d_Md_ray_73 : decode b_Md_ray 73 = .ok (.iload_n 3, 1) := by decide +kernel
theorem d_Md_ray_74 : decode b_Md_ray 74 = .ok (.putfield 72, 3) := by decide +kernel
theorem d_Md_ray_77 : decode b_Md_ray 77 = .ok (.aload_n 0, 1) := by decide +kernel
theorem d_Md_ray_78 : decode b_Md_ray 78 = .ok (.iload 4, 2) := by decide +kernel
theorem d_Md_ray_80 : decode b_Md_ray 80 = .ok (.putfield 75, 3) := by decide +kernel
theorem d_Md_ray_83 : decode b_Md_ray 83 = .ok (.iconst 1, 1) := by decide +kernel
theorem d_Md_ray_84 : decode b_Md_ray 84 = .ok (.ireturn, 1) := by decide +kernel
theorem d_Md_meets_0 : decode b_Md_meets 0 = .ok (.aload_n 0, 1) := by decide +kernel
theorem d_Md_meets_1 : decode b_Md_meets 1 = .ok (.aload_n 0, 1) := by decide +kernel
theorem d_Md_meets_2 : decode b_Md_meets 2 = .ok (.getfield 72, 3) := by decide +kernel
theorem d_Md_meets_5 : decode b_Md_meets 5 = .ok (.i2l, 1) := by decide +kernel
theorem d_Md_meets_6 : decode b_Md_meets 6 = .ok (.aload_n 0, 1) := by decide +kernel
theorem d_Md_meets_7 : decode b_Md_meets 7 = .ok (.getfield 75, 3) := by decide +kernel
theorem d_Md_meets_10 : decode b_Md_meets 10 = .ok (.i2l, 1) := by decide +kernel
theorem d_Md_meets_11 : decode b_Md_meets 11 = .ok (.aload_n 0, 1) := by decide +kernel
theorem d_Md_meets_12 : decode b_Md_meets 12 = .ok (.getfield 13, 3) := by decide +kernel
theorem d_Md_meets_15 : decode b_Md_meets 15 = .ok (.iload_n 1, 1) := by decide +kernel
theorem d_Md_meets_16 : decode b_Md_meets 16 = .ok (.iaload, 1) := by decide +kernel
theorem d_Md_meets_17 : decode b_Md_meets 17 = .ok (.aload_n 0, 1) := by decide +kernel
theorem d_Md_meets_18 : decode b_Md_meets 18 = .ok (.getfield 66, 3) := by decide +kernel
theorem d_Md_meets_21 : decode b_Md_meets 21 = .ok (.isub, 1) := by decide +kernel
theorem d_Md_meets_22 : decode b_Md_meets 22 = .ok (.i2l, 1) := by decide +kernel
theorem d_Md_meets_23 : decode b_Md_meets 23 = .ok (.aload_n 0, 1) := by decide +kernel
theorem d_Md_meets_24 : decode b_Md_meets 24 = .ok (.getfield 17, 3) := by decide +kernel
theorem d_Md_meets_27 : decode b_Md_meets 27 = .ok (.iload_n 1, 1) := by decide +kernel
theorem d_Md_meets_28 : decode b_Md_meets 28 = .ok (.iaload, 1) := by decide +kernel
theorem d_Md_meets_29 : decode b_Md_meets 29 = .ok (.aload_n 0, 1) := by decide +kernel
theorem d_Md_meets_30 : decode b_Md_meets 30 = .ok (.getfield 69, 3) := by decide +kernel
theorem d_Md_meets_33 : decode b_Md_meets 33 = .ok (.isub, 1) := by decide +kernel
theorem d_Md_meets_34 : decode b_Md_meets 34 = .ok (.i2l, 1) := by decide +kernel
theorem d_Md_meets_35 : decode b_Md_meets 35 = .ok (.invokestatic 33, 3) := by decide +kernel
theorem d_Md_meets_38 : decode b_Md_meets 38 = .ok (.putfield 78, 3) := by decide +kernel
theorem d_Md_meets_41 : decode b_Md_meets 41 = .ok (.aload_n 0, 1) := by decide +kernel
theorem d_Md_meets_42 : decode b_Md_meets 42 = .ok (.aload_n 0, 1) := by decide +kernel
theorem d_Md_meets_43 : decode b_Md_meets 43 = .ok (.getfield 72, 3) := by decide +kernel
theorem d_Md_meets_46 : decode b_Md_meets 46 = .ok (.i2l, 1) := by decide +kernel
theorem d_Md_meets_47 : decode b_Md_meets 47 = .ok (.aload_n 0, 1) := by decide +kernel
theorem d_Md_meets_48 : decode b_Md_meets 48 = .ok (.getfield 75, 3) := by decide +kernel
theorem d_Md_meets_51 : decode b_Md_meets 51 = .ok (.i2l, 1) := by decide +kernel
theorem d_Md_meets_52 : decode b_Md_meets 52 = .ok (.aload_n 0, 1) := by decide +kernel
theorem d_Md_meets_53 : decode b_Md_meets 53 = .ok (.getfield 20, 3) := by decide +kernel
theorem d_Md_meets_56 : decode b_Md_meets 56 = .ok (.iload_n 1, 1) := by decide +kernel
theorem d_Md_meets_57 : decode b_Md_meets 57 = .ok (.iaload, 1) := by decide +kernel
theorem d_Md_meets_58 : decode b_Md_meets 58 = .ok (.aload_n 0, 1) := by decide +kernel
theorem d_Md_meets_59 : decode b_Md_meets 59 = .ok (.getfield 66, 3) := by decide +kernel
theorem d_Md_meets_62 : decode b_Md_meets 62 = .ok (.isub, 1) := by decide +kernel
theorem d_Md_meets_63 : decode b_Md_meets 63 = .ok (.i2l, 1) := by decide +kernel
theorem d_Md_meets_64 : decode b_Md_meets 64 = .ok (.aload_n 0, 1) := by decide +kernel
theorem d_Md_meets_65 : decode b_Md_meets 65 = .ok (.getfield 23, 3) := by decide +kernel
theorem d_Md_meets_68 : decode b_Md_meets 68 = .ok (.iload_n 1, 1) := by decide +kernel
theorem d_Md_meets_69 : decode b_Md_meets 69 = .ok (.iaload, 1) := by decide +kernel
theorem d_Md_meets_70 : decode b_Md_meets 70 = .ok (.aload_n 0, 1) := by decide +kernel
theorem d_Md_meets_71 : decode b_Md_meets 71 = .ok (.getfield 69, 3) := by decide +kernel
theorem d_Md_meets_74 : decode b_Md_meets 74 = .ok (.isub, 1) := by decide +kernel
theorem d_Md_meets_75 : decode b_Md_meets 75 = .ok (.i2l, 1) := by decide +kernel
theorem d_Md_meets_76 : decode b_Md_meets 76 = .ok (.invokestatic 33, 3) := by decide +kernel
theorem d_Md_meets_79 : decode b_Md_meets 79 = .ok (.putfield 82, 3) := by decide +kernel
theorem d_Md_meets_82 : decode b_Md_meets 82 = .ok (.aload_n 0, 1) := by decide +kernel
theorem d_Md_meets_83 : decode b_Md_meets 83 = .ok (.aload_n 0, 1) := by decide +kernel
theorem d_Md_meets_84 : decode b_Md_meets 84 = .ok (.getfield 13, 3) := by decide +kernel
theorem d_Md_meets_87 : decode b_Md_meets 87 = .ok (.iload_n 1, 1) := by decide +kernel
theorem d_Md_meets_88 : decode b_Md_meets 88 = .ok (.iaload, 1) := by decide +kernel
theorem d_Md_meets_89 : decode b_Md_meets 89 = .ok (.aload_n 0, 1) := by decide +kernel
theorem d_Md_meets_90 : decode b_Md_meets 90 = .ok (.getfield 66, 3) := by decide +kernel
theorem d_Md_meets_93 : decode b_Md_meets 93 = .ok (.isub, 1) := by decide +kernel
theorem d_Md_meets_94 : decode b_Md_meets 94 = .ok (.i2l, 1) := by decide +kernel
theorem d_Md_meets_95 : decode b_Md_meets 95 = .ok (.aload_n 0, 1) := by decide +kernel
theorem d_Md_meets_96 : decode b_Md_meets 96 = .ok (.getfield 17, 3) := by decide +kernel
theorem d_Md_meets_99 : decode b_Md_meets 99 = .ok (.iload_n 1, 1) := by decide +kernel
theorem d_Md_meets_100 : decode b_Md_meets 100 = .ok (.iaload, 1) := by decide +kernel
theorem d_Md_meets_101 : decode b_Md_meets 101 = .ok (.aload_n 0, 1) := by decide +kernel
theorem d_Md_meets_102 : decode b_Md_meets 102 = .ok (.getfield 69, 3) := by decide +kernel
theorem d_Md_meets_105 : decode b_Md_meets 105 = .ok (.isub, 1) := by decide +kernel
theorem d_Md_meets_106 : decode b_Md_meets 106 = .ok (.i2l, 1) := by decide +kernel
theorem d_Md_meets_107 : decode b_Md_meets 107 = .ok (.aload_n 0, 1) := by decide +kernel
theorem d_Md_meets_108 : decode b_Md_meets 108 = .ok (.getfield 20, 3) := by decide +kernel
theorem d_Md_meets_111 : decode b_Md_meets 111 = .ok (.iload_n 1, 1) := by decide +kernel
theorem d_Md_meets_112 : decode b_Md_meets 112 = .ok (.iaload, 1) := by decide +kernel
theorem d_Md_meets_113 : decode b_Md_meets 113 = .ok (.aload_n 0, 1) := by decide +kernel
theorem d_Md_meets_114 : decode b_Md_meets 114 = .ok (.getfield 13, 3) := by decide +kernel
theorem d_Md_meets_117 : decode b_Md_meets 117 = .ok (.iload_n 1, 1) := by decide +kernel
theorem d_Md_meets_118 : decode b_Md_meets 118 = .ok (.iaload, 1) := by decide +kernel
theorem d_Md_meets_119 : decode b_Md_meets 119 = .ok (.isub, 1) := by decide +kernel
theorem d_Md_meets_120 : decode b_Md_meets 120 = .ok (.i2l, 1) := by decide +kernel
theorem d_Md_meets_121 : decode b_Md_meets 121 = .ok (.aload_n 0, 1) := by decide +kernel
theorem d_Md_meets_122 : decode b_Md_meets 122 = .ok (.getfield 23, 3) := by decide +kernel
theorem d_Md_meets_125 : decode b_Md_meets 125 = .ok (.iload_n 1, 1) := by decide +kernel
theorem d_Md_meets_126 : decode b_Md_meets 126 = .ok (.iaload, 1) := by decide +kernel
theorem d_Md_meets_127 : decode b_Md_meets 127 = .ok (.aload_n 0, 1) := by decide +kernel
theorem d_Md_meets_128 : decode b_Md_meets 128 = .ok (.getfield 17, 3) := by decide +kernel
theorem d_Md_meets_131 : decode b_Md_meets 131 = .ok (.iload_n 1, 1) := by decide +kernel
theorem d_Md_meets_132 : decode b_Md_meets 132 = .ok (.iaload, 1) := by decide +kernel
theorem d_Md_meets_133 : decode b_Md_meets 133 = .ok (.isub, 1) := by decide +kernel
theorem d_Md_meets_134 : decode b_Md_meets 134 = .ok (.i2l, 1) := by decide +kernel
theorem d_Md_meets_135 : decode b_Md_meets 135 = .ok (.invokestatic 33, 3) := by decide +kernel
theorem d_Md_meets_138 : decode b_Md_meets 138 = .ok (.putfield 85, 3) := by decide +kernel
theorem d_Md_meets_141 : decode b_Md_meets 141 = .ok (.aload_n 0, 1) := by decide +kernel
theorem d_Md_meets_142 : decode b_Md_meets 142 = .ok (.aload_n 0, 1) := by decide +kernel
theorem d_Md_meets_143 : decode b_Md_meets 143 = .ok (.getfield 82, 3) := by decide +kernel
theorem d_Md_meets_146 : decode b_Md_meets 146 = .ok (.aload_n 0, 1) := by decide +kernel
theorem d_Md_meets_147 : decode b_Md_meets 147 = .ok (.getfield 78, 3) := by decide +kernel
theorem d_Md_meets_150 : decode b_Md_meets 150 = .ok (.lsub, 1) := by decide +kernel
theorem d_Md_meets_151 : decode b_Md_meets 151 = .ok (.putfield 88, 3) := by decide +kernel
theorem d_Md_meets_154 : decode b_Md_meets 154 = .ok (.aload_n 0, 1) := by decide +kernel
theorem d_Md_meets_155 : decode b_Md_meets 155 = .ok (.aload_n 0, 1) := by decide +kernel
theorem d_Md_meets_156 : decode b_Md_meets 156 = .ok (.getfield 85, 3) := by decide +kernel
theorem d_Md_meets_159 : decode b_Md_meets 159 = .ok (.lconst 0, 1) := by decide +kernel
theorem d_Md_meets_160 : decode b_Md_meets 160 = .ok (.lcmp, 1) := by decide +kernel
theorem d_Md_meets_161 : decode b_Md_meets 161 = .ok (.ifCond .ge 7, 3) := by decide +kernel
theorem d_Md_meets_164 : decode b_Md_meets 164 = .ok (.iconst 1, 1) := by decide +kernel
theorem d_Md_meets_165 : decode b_Md_meets 165 = .ok (.goto 4, 3) := by decide +kernel
theorem d_Md_meets_168 : decode b_Md_meets 168 = .ok (.iconst 0, 1) := by decide +kernel
theorem d_Md_meets_169 : decode b_Md_meets 169 = .ok (.putfield 91, 3) := by decide +kernel
theorem d_Md_meets_172 : decode b_Md_meets 172 = .ok (.aload_n 0, 1) := by decide +kernel
theorem d_Md_meets_173 : decode b_Md_meets 173 = .ok (.getfield 88, 3) := by decide +kernel
theorem d_Md_meets_176 : decode b_Md_meets 176 = .ok (.lconst 0, 1) := by decide +kernel
theorem d_Md_meets_177 : decode b_Md_meets 177 = .ok (.lcmp, 1) := by decide +kernel
theorem d_Md_meets_178 : decode b_Md_meets 178 = .ok (.ifCond .ge 21, 3) := by decide +kernel
theorem d_Md_meets_181 : decode b_Md_meets 181 = .ok (.aload_n 0, 1) := by decide +kernel
theorem d_Md_meets_182 : decode b_Md_meets 182 = .ok (.aload_n 0, 1) := by decide +kernel
theorem d_Md_meets_183 : decode b_Md_meets 183 = .ok (.getfield 85, 3) := by decide +kernel
theorem d_Md_meets_186 : decode b_Md_meets 186 = .ok (.lneg, 1) := by decide +kernel
theorem d_Md_meets_187 : decode b_Md_meets 187 = .ok (.putfield 85, 3) := by decide +kernel
theorem d_Md_meets_190 : decode b_Md_meets 190 = .ok (.aload_n 0, 1) := by decide +kernel
theorem d_Md_meets_191 : decode b_Md_meets 191 = .ok (.aload_n 0, 1) := by decide +kernel
theorem d_Md_meets_192 : decode b_Md_meets 192 = .ok (.getfield 88, 3) := by decide +kernel
theorem d_Md_meets_195 : decode b_Md_meets 195 = .ok (.lneg, 1) := by decide +kernel
theorem d_Md_meets_196 : decode b_Md_meets 196 = .ok (.putfield 88, 3) := by decide +kernel
theorem d_Md_meets_199 : decode b_Md_meets 199 = .ok (.aload_n 0, 1) := by decide +kernel
theorem d_Md_meets_200 : decode b_Md_meets 200 = .ok (.getfield 78, 3) := by decide +kernel
theorem d_Md_meets_203 : decode b_Md_meets 203 = .ok (.lconst 0, 1) := by decide +kernel
theorem d_Md_meets_204 : decode b_Md_meets 204 = .ok (.lcmp, 1) := by decide +kernel
theorem d_Md_meets_205 : decode b_Md_meets 205 = .ok (.ifCond .ge 7, 3) := by decide +kernel
theorem d_Md_meets_208 : decode b_Md_meets 208 = .ok (.iconst 1, 1) := by decide +kernel
theorem d_Md_meets_209 : decode b_Md_meets 209 = .ok (.goto 4, 3) := by decide +kernel
theorem d_Md_meets_212 : decode b_Md_meets 212 = .ok (.iconst 0, 1) := by decide +kernel
theorem d_Md_meets_213 : decode b_Md_meets 213 = .ok (.aload_n 0, 1) := by decide +kernel
theorem d_Md_meets_214 : decode b_Md_meets 214 = .ok (.getfield 82, 3) := by decide +kernel
theorem d_Md_meets_217 : decode b_Md_meets 217 = .ok (.lconst 0, 1) := by decide +kernel
theorem d_Md_meets_218 : decode b_Md_meets 218 = .ok (.lcmp, 1) := by decide +kernel
theorem d_Md_meets_219 : decode b_Md_meets 219 = .ok (.ifCond .ge 7, 3) := by decide +kernel
theorem d_Md_meets_222 : decode b_Md_meets 222 = .ok (.iconst 1, 1) := by decide +kernel
theorem d_Md_meets_223 : decode b_Md_meets 223 = .ok (.goto 4, 3) := by decide +kernel
theorem d_Md_meets_226 : decode b_Md_meets 226 = .ok (.iconst 0, 1) := by decide +kernel
theorem d_Md_meets_227 : decode b_Md_meets 227 = .ok (.if_icmp .eq 16, 3) := by decide +kernel
theorem d_Md_meets_230 : decode b_Md_meets 230 = .ok (.aload_n 0, 1) := by decide +kernel
theorem d_Md_meets_231 : decode b_Md_meets 231 = .ok (.getfield 85, 3) := by decide +kernel
theorem d_Md_meets_234 : decode b_Md_meets 234 = .ok (.lconst 0, 1) := by decide +kernel
theorem d_Md_meets_235 : decode b_Md_meets 235 = .ok (.lcmp, 1) := by decide +kernel
theorem d_Md_meets_236 : decode b_Md_meets 236 = .ok (.ifCond .le 7, 3) := by decide +kernel
theorem d_Md_meets_239 : decode b_Md_meets 239 = .ok (.iconst 1, 1) := by decide +kernel
theorem d_Md_meets_240 : decode b_Md_meets 240 = .ok (.goto 4, 3) := by decide +kernel
theorem d_Md_meets_243 : decode b_Md_meets 243 = .ok (.iconst 0, 1) := by decide +kernel
theorem d_Md_meets_244 : decode b_Md_meets 244 = .ok (.ireturn, 1) := by decide +kernel
theorem d_Md_isAhead_0 : decode b_Md_isAhead 0 = .ok (.aload_n 0, 1) := by decide +kernel
theorem d_Md_isAhead_1 : decode b_Md_isAhead 1 = .ok (.iload_n 1, 1) := by decide +kernel
theorem d_Md_isAhead_2 : decode b_Md_isAhead 2 = .ok (.invokevirtual 94, 3) := by decide +kernel
theorem d_Md_isAhead_5 : decode b_Md_isAhead 5 = .ok (.istore_n 3, 1) := by decide +kernel
theorem d_Md_isAhead_6 : decode b_Md_isAhead 6 = .ok (.aload_n 0, 1) := by decide +kernel
theorem d_Md_isAhead_7 : decode b_Md_isAhead 7 = .ok (.getfield 85, 3) := by decide +kernel
theorem d_Md_isAhead_10 : decode b_Md_isAhead 10 = .ok (.lstore 4, 2) := by decide +kernel
theorem d_Md_isAhead_12 : decode b_Md_isAhead 12 = .ok (.aload_n 0, 1) := by decide +kernel
theorem d_Md_isAhead_13 : decode b_Md_isAhead 13 = .ok (.getfield 88, 3) := by decide +kernel
theorem d_Md_isAhead_16 : decode b_Md_isAhead 16 = .ok (.lstore 6, 2) := by decide +kernel
theorem d_Md_isAhead_18 : decode b_Md_isAhead 18 = .ok (.aload_n 0, 1) := by decide +kernel
theorem d_Md_isAhead_19 : decode b_Md_isAhead 19 = .ok (.iload_n 2, 1) := by decide +kernel
theorem d_Md_isAhead_20 : decode b_Md_isAhead 20 = .ok (.invokevirtual 94, 3) := by decide +kernel
theorem d_Md_isAhead_23 : decode b_Md_isAhead 23 = .ok (.istore_n 3, 1) := by decide +kernel
theorem d_Md_isAhead_24 : decode b_Md_isAhead 24 = .ok (.lload 4, 2) := by decide +kernel
theorem d_Md_isAhead_26 : decode b_Md_isAhead 26 = .ok (.aload_n 0, 1) := by decide +kernel
theorem d_Md_isAhead_27 : decode b_Md_isAhead 27 = .ok (.getfield 88, 3) := by decide +kernel
theorem d_Md_isAhead_30 : decode b_Md_isAhead 30 = .ok (.lmul, 1) := by decide +kernel
theorem d_Md_isAhead_31 : decode b_Md_isAhead 31 = .ok (.aload_n 0, 1) := by decide +kernel
theorem d_Md_isAhead_32 : decode b_Md_isAhead 32 = .ok (.getfield 85, 3) := by decide +kernel
theorem d_Md_isAhead_35 : decode b_Md_isAhead 35 = .ok (.lload 6, 2) := by decide +kernel
theorem d_Md_isAhead_37 : decode b_Md_isAhead 37 = .ok (.lmul, 1) := by decide +kernel
theorem d_Md_isAhead_38 : decode b_Md_isAhead 38 = .ok (.lcmp, 1) := by decide +kernel
theorem d_Md_isAhead_39 : decode b_Md_isAhead 39 = .ok (.ifCond .lt 26, 3) := by decide +kernel
theorem d_Md_isAhead_42 : decode b_Md_isAhead 42 = .ok (.lload 4, 2) := by decide +kernel
theorem d_Md_isAhead_44 : decode b_Md_isAhead 44 = .ok (.aload_n 0, 1) := by decide +kernel
theorem d_Md_isAhead_45 : decode b_Md_isAhead 45 = .ok (.getfield 88, 3) := by decide +kernel
theorem d_Md_isAhead_48 : decode b_Md_isAhead 48 = .ok (.lmul, 1) := by decide +kernel
theorem d_Md_isAhead_49 : decode b_Md_isAhead 49 = .ok (.aload_n 0, 1) := by decide +kernel
theorem d_Md_isAhead_50 : decode b_Md_isAhead 50 = .ok (.getfield 85, 3) := by decide +kernel
theorem d_Md_isAhead_53 : decode b_Md_isAhead 53 = .ok (.lload 6, 2) := by decide +kernel
theorem d_Md_isAhead_55 : decode b_Md_isAhead 55 = .ok (.lmul, 1) := by decide +kernel
theorem d_Md_isAhead_56 : decode b_Md_isAhead 56 = .ok (.lcmp, 1) := by decide +kernel
theorem d_Md_isAhead_57 : decode b_Md_isAhead 57 = .ok (.ifCond .ne 12, 3) := by decide +kernel
theorem d_Md_isAhead_60 : decode b_Md_isAhead 60 = .ok (.iload_n 1, 1) := by decide +kernel
theorem d_Md_isAhead_61 : decode b_Md_isAhead 61 = .ok (.iload_n 2, 1) := by decide +kernel
theorem d_Md_isAhead_62 : decode b_Md_isAhead 62 = .ok (.if_icmp .ge 7, 3) := by decide +kernel
theorem d_Md_isAhead_65 : decode b_Md_isAhead 65 = .ok (.iconst 1, 1) := by decide +kernel
theorem d_Md_isAhead_66 : decode b_Md_isAhead 66 = .ok (.goto 4, 3) := by decide +kernel
theorem d_Md_isAhead_69 : decode b_Md_isAhead 69 = .ok (.iconst 0, 1) := by decide +kernel
theorem d_Md_isAhead_70 : decode b_Md_isAhead 70 = .ok (.ireturn, 1) := by decide +kernel
theorem d_Md_gather_0 : decode b_Md_gather 0 = .ok (.iconst 0, 1) := by decide +kernel
theorem d_Md_gather_1 : decode b_Md_gather 1 = .ok (.istore_n 1, 1) := by decide +kernel
theorem d_Md_gather_2 : decode b_Md_gather 2 = .ok (.iconst 0, 1) := by decide +kernel
theorem d_Md_gather_3 : decode b_Md_gather 3 = .ok (.istore_n 2, 1) := by decide +kernel
theorem d_Md_gather_4 : decode b_Md_gather 4 = .ok (.iload_n 2, 1) := by decide +kernel
theorem d_Md_gather_5 : decode b_Md_gather 5 = .ok (.bipush 64, 2) := by decide +kernel
theorem d_Md_gather_7 : decode b_Md_gather 7 = .ok (.if_icmp .ge 85, 3) := by decide +kernel
theorem d_Md_gather_10 : decode b_Md_gather 10 = .ok (.aload_n 0, 1) := by decide +kernel
theorem d_Md_gather_11 : decode b_Md_gather 11 = .ok (.getfield 62, 3) := by decide +kernel
theorem d_Md_gather_14 : decode b_Md_gather 14 = .ok (.ifCond .eq 78, 3) := by decide +kernel
theorem d_Md_gather_17 : decode b_Md_gather 17 = .ok (.aload_n 0, 1) := by decide +kernel
theorem d_Md_gather_18 : decode b_Md_gather 18 = .ok (.getfield 7, 3) := by decide +kernel
theorem d_Md_gather_21 : decode b_Md_gather 21 = .ok (.iload_n 2, 1) := by decide +kernel
theorem d_Md_gather_22 : decode b_Md_gather 22 = .ok (.baload, 1) := by decide +kernel
theorem d_Md_gather_23 : decode b_Md_gather 23 = .ok (.ifCond .eq 63, 3) := by decide +kernel
theorem d_Md_gather_26 : decode b_Md_gather 26 = .ok (.aload_n 0, 1) := by decide +kernel
theorem d_Md_gather_27 : decode b_Md_gather 27 = .ok (.iload_n 2, 1) := by decide +kernel
theorem d_Md_gather_28 : decode b_Md_gather 28 = .ok (.invokevirtual 94, 3) := by decide +kernel
theorem d_Md_gather_31 : decode b_Md_gather 31 = .ok (.ifCond .eq 55, 3) := by decide +kernel
theorem d_Md_gather_34 : decode b_Md_gather 34 = .ok (.iload_n 1, 1) := by decide +kernel
theorem d_Md_gather_35 : decode b_Md_gather 35 = .ok (.istore_n 3, 1) := by decide +kernel
theorem d_Md_gather_36 : decode b_Md_gather 36 = .ok (.iload_n 3, 1) := by decide +kernel
theorem d_Md_gather_37 : decode b_Md_gather 37 = .ok (.ifCond .le 39, 3) := by decide +kernel
theorem d_Md_gather_40 : decode b_Md_gather 40 = .ok (.aload_n 0, 1) := by decide +kernel
theorem d_Md_gather_41 : decode b_Md_gather 41 = .ok (.iload_n 2, 1) := by decide +kernel
theorem d_Md_gather_42 : decode b_Md_gather 42 = .ok (.aload_n 0, 1) := by decide +kernel
theorem d_Md_gather_43 : decode b_Md_gather 43 = .ok (.getfield 26, 3) := by decide +kernel
theorem d_Md_gather_46 : decode b_Md_gather 46 = .ok (.iload_n 3, 1) := by decide +kernel
theorem d_Md_gather_47 : decode b_Md_gather 47 = .ok (.iconst 1, 1) := by decide +kernel
theorem d_Md_gather_48 : decode b_Md_gather 48 = .ok (.isub, 1) := by decide +kernel
theorem d_Md_gather_49 : decode b_Md_gather 49 = .ok (.iaload, 1) := by decide +kernel
theorem d_Md_gather_50 : decode b_Md_gather 50 = .ok (.invokevirtual 97, 3) := by decide +kernel
theorem d_Md_gather_53 : decode b_Md_gather 53 = .ok (.ifCond .eq 23, 3) := by decide +kernel
theorem d_Md_gather_56 : decode b_Md_gather 56 = .ok (.aload_n 0, 1) := by decide +kernel
theorem d_Md_gather_57 : decode b_Md_gather 57 = .ok (.getfield 26, 3) := by decide +kernel
theorem d_Md_gather_60 : decode b_Md_gather 60 = .ok (.iload_n 3, 1) := by decide +kernel
theorem d_Md_gather_61 : decode b_Md_gather 61 = .ok (.aload_n 0, 1) := by decide +kernel
theorem d_Md_gather_62 : decode b_Md_gather 62 = .ok (.getfield 26, 3) := by decide +kernel
theorem d_Md_gather_65 : decode b_Md_gather 65 = .ok (.iload_n 3, 1) := by decide +kernel
theorem d_Md_gather_66 : decode b_Md_gather 66 = .ok (.iconst 1, 1) := by decide +kernel
theorem d_Md_gather_67 : decode b_Md_gather 67 = .ok (.isub, 1) := by decide +kernel
theorem d_Md_gather_68 : decode b_Md_gather 68 = .ok (.iaload, 1) := by decide +kernel
theorem d_Md_gather_69 : decode b_Md_gather 69 = .ok (.iastore, 1) := by decide +kernel
theorem d_Md_gather_70 : decode b_Md_gather 70 = .ok (.iinc 3 (-1), 3) := by decide +kernel
theorem d_Md_gather_73 : decode b_Md_gather 73 = .ok (.goto (-37), 3) := by decide +kernel
theorem d_Md_gather_76 : decode b_Md_gather 76 = .ok (.aload_n 0, 1) := by decide +kernel
theorem d_Md_gather_77 : decode b_Md_gather 77 = .ok (.getfield 26, 3) := by decide +kernel
theorem d_Md_gather_80 : decode b_Md_gather 80 = .ok (.iload_n 3, 1) := by decide +kernel
theorem d_Md_gather_81 : decode b_Md_gather 81 = .ok (.iload_n 2, 1) := by decide +kernel
theorem d_Md_gather_82 : decode b_Md_gather 82 = .ok (.iastore, 1) := by decide +kernel
theorem d_Md_gather_83 : decode b_Md_gather 83 = .ok (.iinc 1 1, 3) := by decide +kernel
theorem d_Md_gather_86 : decode b_Md_gather 86 = .ok (.iinc 2 1, 3) := by decide +kernel
theorem d_Md_gather_89 : decode b_Md_gather 89 = .ok (.goto (-85), 3) := by decide +kernel
theorem d_Md_gather_92 : decode b_Md_gather 92 = .ok (.iload_n 1, 1) := by decide +kernel
theorem d_Md_gather_93 : decode b_Md_gather 93 = .ok (.ireturn, 1) := by decide +kernel
theorem d_Md_met_0 : decode b_Md_met 0 = .ok (.aload_n 0, 1) := by decide +kernel
theorem d_Md_met_1 : decode b_Md_met 1 = .ok (.iconst 0, 1) := by decide +kernel
theorem d_Md_met_2 : decode b_Md_met 2 = .ok (.putfield 29, 3) := by decide +kernel
theorem d_Md_met_5 : decode b_Md_met 5 = .ok (.aload_n 0, 1) := by decide +kernel
theorem d_Md_met_6 : decode b_Md_met 6 = .ok (.getfield 62, 3) := by decide +kernel
theorem d_Md_met_9 : decode b_Md_met 9 = .ok (.ifCond .eq 10, 3) := by decide +kernel
theorem d_Md_met_12 : decode b_Md_met 12 = .ok (.aload_n 0, 1) := by decide +kernel
theorem d_Md_met_13 : decode b_Md_met 13 = .ok (.invokevirtual 100, 3) := by decide +kernel
theorem d_Md_met_16 : decode b_Md_met 16 = .ok (.goto 4, 3) := by decide +kernel
theorem d_Md_met_19 : decode b_Md_met 19 = .ok (.iconst (-1), 1) := by decide +kernel
theorem d_Md_met_20 : decode b_Md_met 20 = .ok (.ireturn, 1) := by decide +kernel
theorem d_Md_isMet_0 : decode b_Md_isMet 0 = .ok (.iload_n 1, 1) := by decide +kernel
theorem d_Md_isMet_1 : decode b_Md_isMet 1 = .ok (.ifCond .lt 15, 3) := by decide +kernel
theorem d_Md_isMet_4 : decode b_Md_isMet 4 = .ok (.iload_n 1, 1) := by decide +kernel
theorem d_Md_isMet_5 : decode b_Md_isMet 5 = .ok (.aload_n 0, 1) := by decide +kernel
theorem d_Md_isMet_6 : decode b_Md_isMet 6 = .ok (.invokevirtual 100, 3) := by decide +kernel
theorem d_Md_isMet_9 : decode b_Md_isMet 9 = .ok (.if_icmp .ge 7, 3) := by decide +kernel
theorem d_Md_isMet_12 : decode b_Md_isMet 12 = .ok (.iconst 1, 1) := by decide +kernel
theorem d_Md_isMet_13 : decode b_Md_isMet 13 = .ok (.goto 4, 3) := by decide +kernel
theorem d_Md_isMet_16 : decode b_Md_isMet 16 = .ok (.iconst 0, 1) := by decide +kernel
theorem d_Md_isMet_17 : decode b_Md_isMet 17 = .ok (.ireturn, 1) := by decide +kernel
theorem d_Md_wall_0 : decode b_Md_wall 0 = .ok (.aload_n 0, 1) := by decide +kernel
theorem d_Md_wall_1 : decode b_Md_wall 1 = .ok (.iconst 0, 1) := by decide +kernel
theorem d_Md_wall_2 : decode b_Md_wall 2 = .ok (.putfield 29, 3) := by decide +kernel
theorem d_Md_wall_5 : decode b_Md_wall 5 = .ok (.aload_n 0, 1) := by decide +kernel
theorem d_Md_wall_6 : decode b_Md_wall 6 = .ok (.iload_n 1, 1) := by decide +kernel
theorem d_Md_wall_7 : decode b_Md_wall 7 = .ok (.invokevirtual 103, 3) := by decide +kernel
theorem d_Md_wall_10 : decode b_Md_wall 10 = .ok (.ifCond .eq 12, 3) := by decide +kernel
theorem d_Md_wall_13 : decode b_Md_wall 13 = .ok (.aload_n 0, 1) := by decide +kernel
theorem d_Md_wall_14 : decode b_Md_wall 14 = .ok (.getfield 26, 3) := by decide +kernel
theorem d_Md_wall_17 : decode b_Md_wall 17 = .ok (.iload_n 1, 1) := by decide +kernel
theorem d_Md_wall_18 : decode b_Md_wall 18 = .ok (.iaload, 1) := by decide +kernel
theorem d_Md_wall_19 : decode b_Md_wall 19 = .ok (.goto 4, 3) := by decide +kernel
theorem d_Md_wall_22 : decode b_Md_wall 22 = .ok (.iconst (-1), 1) := by decide +kernel
theorem d_Md_wall_23 : decode b_Md_wall 23 = .ok (.ireturn, 1) := by decide +kernel
theorem d_Md_isRight_0 : decode b_Md_isRight 0 = .ok (.aload_n 0, 1) := by decide +kernel
theorem d_Md_isRight_1 : decode b_Md_isRight 1 = .ok (.iconst 0, 1) := by decide +kernel
theorem d_Md_isRight_2 : decode b_Md_isRight 2 = .ok (.putfield 29, 3) := by decide +kernel
theorem d_Md_isRight_5 : decode b_Md_isRight 5 = .ok (.aload_n 0, 1) := by decide +kernel
theorem d_Md_isRight_6 : decode b_Md_isRight 6 = .ok (.iload_n 1, 1) := by decide +kernel
theorem d_Md_isRight_7 : decode b_Md_isRight 7 = .ok (.invokevirtual 103, 3) := by decide +kernel
theorem d_Md_isRight_10 : decode b_Md_isRight 10 = .ok (.ifCond .eq 27, 3) := by decide +kernel
theorem d_Md_isRight_13 : decode b_Md_isRight 13 = .ok (.aload_n 0, 1) := by decide +kernel
theorem d_Md_isRight_14 : decode b_Md_isRight 14 = .ok (.aload_n 0, 1) := by decide +kernel
theorem d_Md_isRight_15 : decode b_Md_isRight 15 = .ok (.getfield 26, 3) := by decide +kernel
theorem d_Md_isRight_18 : decode b_Md_isRight 18 = .ok (.iload_n 1, 1) := by decide +kernel
theorem d_Md_isRight_19 : decode b_Md_isRight 19 = .ok (.iaload, 1) := by decide +kernel
theorem d_Md_isRight_20 : decode b_Md_isRight 20 = .ok (.invokevirtual 94, 3) := by decide +kernel
theorem d_Md_isRight_23 : decode b_Md_isRight 23 = .ok (.ifCond .eq 14, 3) := by decide +kernel
theorem d_Md_isRight_26 : decode b_Md_isRight 26 = .ok (.aload_n 0, 1) := by decide +kernel
theorem d_Md_isRight_27 : decode b_Md_isRight 27 = .ok (.getfield 91, 3) := by decide +kernel
theorem d_Md_isRight_30 : decode b_Md_isRight 30 = .ok (.ifCond .eq 7, 3) := by decide +kernel
theorem d_Md_isRight_33 : decode b_Md_isRight 33 = .ok (.iconst 1, 1) := by decide +kernel
theorem d_Md_isRight_34 : decode b_Md_isRight 34 = .ok (.goto 4, 3) := by decide +kernel
theorem d_Md_isRight_37 : decode b_Md_isRight 37 = .ok (.iconst 0, 1) := by decide +kernel
theorem d_Md_isRight_38 : decode b_Md_isRight 38 = .ok (.ireturn, 1) := by decide +kernel
theorem d_Md_times_0 : decode b_Md_times 0 = .ok (.aload_n 0, 1) := by decide +kernel
theorem d_Md_times_1 : decode b_Md_times 1 = .ok (.iconst 0, 1) := by decide +kernel
theorem d_Md_times_2 : decode b_Md_times 2 = .ok (.putfield 29, 3) := by decide +kernel
theorem d_Md_times_5 : decode b_Md_times 5 = .ok (.aload_n 0, 1) := by decide +kernel
theorem d_Md_times_6 : decode b_Md_times 6 = .ok (.iload_n 1, 1) := by decide +kernel
theorem d_Md_times_7 : decode b_Md_times 7 = .ok (.invokevirtual 103, 3) := by decide +kernel
theorem d_Md_times_10 : decode b_Md_times 10 = .ok (.ifCond .eq 13, 3) := by decide +kernel
theorem d_Md_times_13 : decode b_Md_times 13 = .ok (.iload_n 2, 1) := by decide +kernel
theorem d_Md_times_14 : decode b_Md_times 14 = .ok (.ifCond .lt 9, 3) := by decide +kernel
theorem d_Md_times_17 : decode b_Md_times 17 = .ok (.iload_n 2, 1) := by decide +kernel
theorem d_Md_times_18 : decode b_Md_times 18 = .ok (.ldc 106, 2) := by decide +kernel
theorem d_Md_times_20 : decode b_Md_times 20 = .ok (.if_icmp .le 7, 3) := by decide +kernel
theorem d_Md_times_23 : decode b_Md_times 23 = .ok (.ldc2_w 107, 3) := by decide +kernel
theorem d_Md_times_26 : decode b_Md_times 26 = .ok (.lreturn, 1) := by decide +kernel
theorem d_Md_times_27 : decode b_Md_times 27 = .ok (.aload_n 0, 1) := by decide +kernel
theorem d_Md_times_28 : decode b_Md_times 28 = .ok (.aload_n 0, 1) := by decide +kernel
theorem d_Md_times_29 : decode b_Md_times 29 = .ok (.getfield 26, 3) := by decide +kernel
theorem d_Md_times_32 : decode b_Md_times 32 = .ok (.iload_n 1, 1) := by decide +kernel
theorem d_Md_times_33 : decode b_Md_times 33 = .ok (.iaload, 1) := by decide +kernel
theorem d_Md_times_34 : decode b_Md_times 34 = .ok (.invokevirtual 94, 3) := by decide +kernel
theorem d_Md_times_37 : decode b_Md_times 37 = .ok (.istore_n 3, 1) := by decide +kernel
theorem d_Md_times_38 : decode b_Md_times 38 = .ok (.iload_n 2, 1) := by decide +kernel
theorem d_Md_times_39 : decode b_Md_times 39 = .ok (.i2l, 1) := by decide +kernel
theorem d_Md_times_40 : decode b_Md_times 40 = .ok (.aload_n 0, 1) := by decide +kernel
theorem d_Md_times_41 : decode b_Md_times 41 = .ok (.getfield 85, 3) := by decide +kernel
theorem d_Md_times_44 : decode b_Md_times 44 = .ok (.lmul, 1) := by decide +kernel
theorem d_Md_times_45 : decode b_Md_times 45 = .ok (.aload_n 0, 1) := by decide +kernel
theorem d_Md_times_46 : decode b_Md_times 46 = .ok (.getfield 88, 3) := by decide +kernel
theorem d_Md_times_49 : decode b_Md_times 49 = .ok (.ldiv, 1) := by decide +kernel
theorem d_Md_times_50 : decode b_Md_times 50 = .ok (.lreturn, 1) := by decide +kernel
theorem d_Md_along_0 : decode b_Md_along 0 = .ok (.aload_n 0, 1) := by decide +kernel
theorem d_Md_along_1 : decode b_Md_along 1 = .ok (.iconst 0, 1) := by decide +kernel
theorem d_Md_along_2 : decode b_Md_along 2 = .ok (.putfield 29, 3) := by decide +kernel
theorem d_Md_along_5 : decode b_Md_along 5 = .ok (.aload_n 0, 1) := by decide +kernel
theorem d_Md_along_6 : decode b_Md_along 6 = .ok (.iload_n 1, 1) := by decide +kernel
theorem d_Md_along_7 : decode b_Md_along 7 = .ok (.invokevirtual 103, 3) := by decide +kernel
theorem d_Md_along_10 : decode b_Md_along 10 = .ok (.ifCond .ne 5, 3) := by decide +kernel
theorem d_Md_along_13 : decode b_Md_along 13 = .ok (.iconst (-1), 1) := by decide +kernel
theorem d_Md_along_14 : decode b_Md_along 14 = .ok (.ireturn, 1) := by decide +kernel
theorem d_Md_along_15 : decode b_Md_along 15 = .ok (.aload_n 0, 1) := by decide +kernel
theorem d_Md_along_16 : decode b_Md_along 16 = .ok (.aload_n 0, 1) := by decide +kernel
theorem d_Md_along_17 : decode b_Md_along 17 = .ok (.getfield 26, 3) := by decide +kernel
theorem d_Md_along_20 : decode b_Md_along 20 = .ok (.iload_n 1, 1) := by decide +kernel
theorem d_Md_along_21 : decode b_Md_along 21 = .ok (.iaload, 1) := by decide +kernel
theorem d_Md_along_22 : decode b_Md_along 22 = .ok (.invokevirtual 94, 3) := by decide +kernel
theorem d_Md_along_25 : decode b_Md_along 25 = .ok (.istore_n 2, 1) := by decide +kernel
theorem d_Md_along_26 : decode b_Md_along 26 = .ok (.ldc2_w 109, 3) := by decide +kernel
theorem d_Md_along_29 : decode b_Md_along 29 = .ok (.aload_n 0, 1) := by decide +kernel
theorem d_Md_along_30 : decode b_Md_along 30 = .ok (.getfield 78, 3) := by decide +kernel
theorem d_Md_along_33 : decode b_Md_along 33 = .ok (.lmul, 1) := by decide +kernel
theorem d_Md_along_34 : decode b_Md_along 34 = .ok (.aload_n 0, 1) := by decide +kernel
theorem d_Md_along_35 : decode b_Md_along 35 = .ok (.getfield 78, 3) := by decide +kernel
theorem d_Md_along_38 : decode b_Md_along 38 = .ok (.aload_n 0, 1) := by decide +kernel
theorem d_Md_along_39 : decode b_Md_along 39 = .ok (.getfield 82, 3) := by decide +kernel
theorem d_Md_along_42 : decode b_Md_along 42 = .ok (.lsub, 1) := by decide +kernel
theorem d_Md_along_43 : decode b_Md_along 43 = .ok (.invokestatic 111, 3) := by decide +kernel
theorem d_Md_along_46 : decode b_Md_along 46 = .ok (.l2i, 1) := by decide +kernel
theorem d_Md_along_47 : decode b_Md_along 47 = .ok (.ireturn, 1) := by decide +kernel
theorem d_Md_within_0 : decode b_Md_within 0 = .ok (.aload_n 0, 1) := by decide +kernel
theorem d_Md_within_1 : decode b_Md_within 1 = .ok (.iconst 0, 1) := by decide +kernel
theorem d_Md_within_2 : decode b_Md_within 2 = .ok (.putfield 29, 3) := by decide +kernel
theorem d_Md_within_5 : decode b_Md_within 5 = .ok (.aload_n 0, 1) := by decide +kernel
theorem d_Md_within_6 : decode b_Md_within 6 = .ok (.getfield 62, 3) := by decide +kernel
theorem d_Md_within_9 : decode b_Md_within 9 = .ok (.ifCond .eq 24, 3) := by decide +kernel
theorem d_Md_within_12 : decode b_Md_within 12 = .ok (.iload_n 1, 1) := by decide +kernel
theorem d_Md_within_13 : decode b_Md_within 13 = .ok (.ifCond .lt 20, 3) := by decide +kernel
theorem d_Md_within_16 : decode b_Md_within 16 = .ok (.iload_n 1, 1) := by decide +kernel
theorem d_Md_within_17 : decode b_Md_within 17 = .ok (.ldc 106, 2) := by decide +kernel
theorem d_Md_within_19 : decode b_Md_within 19 = .ok (.if_icmp .gt 14, 3) := by decide +kernel
theorem d_Md_within_22 : decode b_Md_within 22 = .ok (.iload_n 2, 1) := by decide +kernel
theorem d_Md_within_23 : decode b_Md_within 23 = .ok (.iconst 1, 1) := by decide +kernel
theorem d_Md_within_24 : decode b_Md_within 24 = .ok (.if_icmp .lt 9, 3) := by decide +kernel
theorem d_Md_within_27 : decode b_Md_within 27 = .ok (.iload_n 2, 1) := by decide +kernel
theorem d_Md_within_28 : decode b_Md_within 28 = .ok (.ldc 106, 2) := by decide +kernel
theorem d_Md_within_30 : decode b_Md_within 30 = .ok (.if_icmp .le 5, 3) := by decide +kernel
theorem d_Md_within_33 : decode b_Md_within 33 = .ok (.iconst (-1), 1) := by decide +kernel
theorem d_Md_within_34 : decode b_Md_within 34 = .ok (.ireturn, 1) := by decide +kernel
theorem d_Md_within_35 : decode b_Md_within 35 = .ok (.iconst 0, 1) := by decide +kernel
theorem d_Md_within_36 : decode b_Md_within 36 = .ok (.istore_n 3, 1) := by decide +kernel
theorem d_Md_within_37 : decode b_Md_within 37 = .ok (.iconst 0, 1) := by decide +kernel
theorem d_Md_within_38 : decode b_Md_within 38 = .ok (.istore 4, 2) := by decide +kernel
theorem d_Md_within_40 : decode b_Md_within 40 = .ok (.iload 4, 2) := by decide +kernel
theorem d_Md_within_42 : decode b_Md_within 42 = .ok (.bipush 64, 2) := by decide +kernel
theorem d_Md_within_44 : decode b_Md_within 44 = .ok (.if_icmp .ge 54, 3) := by decide +kernel
theorem d_Md_within_47 : decode b_Md_within 47 = .ok (.aload_n 0, 1) := by decide +kernel
theorem d_Md_within_48 : decode b_Md_within 48 = .ok (.getfield 7, 3) := by decide +kernel
theorem d_Md_within_51 : decode b_Md_within 51 = .ok (.iload 4, 2) := by decide +kernel
theorem d_Md_within_53 : decode b_Md_within 53 = .ok (.baload, 1) := by decide +kernel
theorem d_Md_within_54 : decode b_Md_within 54 = .ok (.ifCond .eq 38, 3) := by decide +kernel
theorem d_Md_within_57 : decode b_Md_within 57 = .ok (.aload_n 0, 1) := by decide +kernel
theorem d_Md_within_58 : decode b_Md_within 58 = .ok (.iload 4, 2) := by decide +kernel
theorem d_Md_within_60 : decode b_Md_within 60 = .ok (.invokevirtual 94, 3) := by decide +kernel
theorem d_Md_within_63 : decode b_Md_within 63 = .ok (.ifCond .eq 29, 3) := by decide +kernel
theorem d_Md_within_66 : decode b_Md_within 66 = .ok (.iload_n 3, 1) := by decide +kernel
theorem d_Md_within_67 : decode b_Md_within 67 = .ok (.aload_n 0, 1) := by decide +kernel
theorem d_Md_within_68 : decode b_Md_within 68 = .ok (.getfield 85, 3) := by decide +kernel
theorem d_Md_within_71 : decode b_Md_within 71 = .ok (.iload_n 2, 1) := by decide +kernel
theorem d_Md_within_72 : decode b_Md_within 72 = .ok (.i2l, 1) := by decide +kernel
theorem d_Md_within_73 : decode b_Md_within 73 = .ok (.lmul, 1) := by decide +kernel
theorem d_Md_within_74 : decode b_Md_within 74 = .ok (.iload_n 1, 1) := by decide +kernel
theorem d_Md_within_75 : decode b_Md_within 75 = .ok (.i2l, 1) := by decide +kernel
theorem d_Md_within_76 : decode b_Md_within 76 = .ok (.aload_n 0, 1) := by decide +kernel
theorem d_Md_within_77 : decode b_Md_within 77 = .ok (.getfield 88, 3) := by decide +kernel
theorem d_Md_within_80 : decode b_Md_within 80 = .ok (.lmul, 1) := by decide +kernel
theorem d_Md_within_81 : decode b_Md_within 81 = .ok (.lcmp, 1) := by decide +kernel
theorem d_Md_within_82 : decode b_Md_within 82 = .ok (.ifCond .gt 7, 3) := by decide +kernel
theorem d_Md_within_85 : decode b_Md_within 85 = .ok (.iconst 1, 1) := by decide +kernel
theorem d_Md_within_86 : decode b_Md_within 86 = .ok (.goto 4, 3) := by decide +kernel
theorem d_Md_within_89 : decode b_Md_within 89 = .ok (.iconst 0, 1) := by decide +kernel
theorem d_Md_within_90 : decode b_Md_within 90 = .ok (.iadd, 1) := by decide +kernel
theorem d_Md_within_91 : decode b_Md_within 91 = .ok (.istore_n 3, 1) := by decide +kernel
theorem d_Md_within_92 : decode b_Md_within 92 = .ok (.iinc 4 1, 3) := by decide +kernel
theorem d_Md_within_95 : decode b_Md_within 95 = .ok (.goto (-55), 3) := by decide +kernel
theorem d_Md_within_98 : decode b_Md_within 98 = .ok (.iload_n 3, 1) := by decide +kernel
theorem d_Md_within_99 : decode b_Md_within 99 = .ok (.ireturn, 1) := by decide +kernel
theorem d_Md_on_0 : decode b_Md_on 0 = .ok (.aload_n 0, 1) := by decide +kernel
theorem d_Md_on_1 : decode b_Md_on 1 = .ok (.iconst 0, 1) := by decide +kernel
theorem d_Md_on_2 : decode b_Md_on 2 = .ok (.putfield 29, 3) := by decide +kernel
theorem d_Md_on_5 : decode b_Md_on 5 = .ok (.iconst 0, 1) := by decide +kernel
theorem d_Md_on_6 : decode b_Md_on 6 = .ok (.istore_n 3, 1) := by decide +kernel
theorem d_Md_on_7 : decode b_Md_on 7 = .ok (.iload_n 3, 1) := by decide +kernel
theorem d_Md_on_8 : decode b_Md_on 8 = .ok (.bipush 64, 2) := by decide +kernel
theorem d_Md_on_10 : decode b_Md_on 10 = .ok (.if_icmp .ge 50, 3) := by decide +kernel
theorem d_Md_on_13 : decode b_Md_on 13 = .ok (.iload_n 1, 1) := by decide +kernel
theorem d_Md_on_14 : decode b_Md_on 14 = .ok (.sipush 4000, 3) := by decide +kernel
theorem d_Md_on_17 : decode b_Md_on 17 = .ok (.invokestatic 48, 3) := by decide +kernel
theorem d_Md_on_20 : decode b_Md_on 20 = .ok (.ifCond .eq 40, 3) := by decide +kernel
theorem d_Md_on_23 : decode b_Md_on 23 = .ok (.iload_n 2, 1) := by decide +kernel
theorem d_Md_on_24 : decode b_Md_on 24 = .ok (.sipush 4000, 3) := by decide +kernel
theorem d_Md_on_27 : decode b_Md_on 27 = .ok (.invokestatic 48, 3) := by decide +kernel
theorem d_Md_on_30 : decode b_Md_on 30 = .ok (.ifCond .eq 30, 3) := by decide +kernel
theorem d_Md_on_33 : decode b_Md_on 33 = .ok (.aload_n 0, 1) := by decide +kernel
theorem d_Md_on_34 : decode b_Md_on 34 = .ok (.getfield 7, 3) := by decide +kernel
theorem d_Md_on_37 : decode b_Md_on 37 = .ok (.iload_n 3, 1) := by decide +kernel
theorem d_Md_on_38 : decode b_Md_on 38 = .ok (.baload, 1) := by decide +kernel
theorem d_Md_on_39 : decode b_Md_on 39 = .ok (.ifCond .eq 15, 3) := by decide +kernel
theorem d_Md_on_42 : decode b_Md_on 42 = .ok (.aload_n 0, 1) := by decide +kernel
theorem d_Md_on_43 : decode b_Md_on 43 = .ok (.iload_n 3, 1) := by decide +kernel
theorem d_Md_on_44 : decode b_Md_on 44 = .ok (.iload_n 1, 1) := by decide +kernel
theorem d_Md_on_45 : decode b_Md_on 45 = .ok (.iload_n 2, 1) := by decide +kernel
theorem d_Md_on_46 : decode b_Md_on 46 = .ok (.invokevirtual 41, 3) := by decide +kernel
theorem d_Md_on_49 : decode b_Md_on 49 = .ok (.ifCond .eq 5, 3) := by decide +kernel
theorem d_Md_on_52 : decode b_Md_on 52 = .ok (.iload_n 3, 1) := by decide +kernel
theorem d_Md_on_53 : decode b_Md_on 53 = .ok (.ireturn, 1) := by decide +kernel
theorem d_Md_on_54 : decode b_Md_on 54 = .ok (.iinc 3 1, 3) := by decide +kernel
theorem d_Md_on_57 : decode b_Md_on 57 = .ok (.goto (-50), 3) := by decide +kernel
theorem d_Md_on_60 : decode b_Md_on 60 = .ok (.iconst (-1), 1) := by decide +kernel
theorem d_Md_on_61 : decode b_Md_on 61 = .ok (.ireturn, 1) := by decide +kernel
theorem d_Md_of_0 : decode b_Md_of 0 = .ok (.aload_n 0, 1) := by decide +kernel
theorem d_Md_of_1 : decode b_Md_of 1 = .ok (.iconst 0, 1) := by decide +kernel
theorem d_Md_of_2 : decode b_Md_of 2 = .ok (.putfield 29, 3) := by decide +kernel
theorem d_Md_of_5 : decode b_Md_of 5 = .ok (.aload_n 0, 1) := by decide +kernel
theorem d_Md_of_6 : decode b_Md_of 6 = .ok (.iload_n 1, 1) := by decide +kernel
theorem d_Md_of_7 : decode b_Md_of 7 = .ok (.invokevirtual 58, 3) := by decide +kernel
theorem d_Md_of_10 : decode b_Md_of 10 = .ok (.ifCond .ne 6, 3) := by decide +kernel
theorem d_Md_of_13 : decode b_Md_of 13 = .ok (.ldc 115, 2) := by decide +kernel
theorem d_Md_of_15 : decode b_Md_of 15 = .ok (.ireturn, 1) := by decide +kernel
theorem d_Md_of_16 : decode b_Md_of 16 = .ok (.iload_n 2, 1) := by decide +kernel
theorem d_Md_of_17 : decode b_Md_of 17 = .ok (.ifCond .ne 12, 3) := by decide +kernel
theorem d_Md_of_20 : decode b_Md_of 20 = .ok (.aload_n 0, 1) := by decide +kernel
theorem d_Md_of_21 : decode b_Md_of 21 = .ok (.getfield 13, 3) := by decide +kernel
theorem d_Md_of_24 : decode b_Md_of 24 = .ok (.iload_n 1, 1) := by decide +kernel
theorem d_Md_of_25 : decode b_Md_of 25 = .ok (.iaload, 1) := by decide +kernel
theorem d_Md_of_26 : decode b_Md_of 26 = .ok (.goto 47, 3) := by decide +kernel
theorem d_Md_of_29 : decode b_Md_of 29 = .ok (.iload_n 2, 1) := by decide +kernel
theorem d_Md_of_30 : decode b_Md_of 30 = .ok (.iconst 1, 1) := by decide +kernel
theorem d_Md_of_31 : decode b_Md_of 31 = .ok (.if_icmp .ne 12, 3) := by decide +kernel
theorem d_Md_of_34 : decode b_Md_of 34 = .ok (.aload_n 0, 1) := by decide +kernel
theorem d_Md_of_35 : decode b_Md_of 35 = .ok (.getfield 17, 3) := by decide +kernel
theorem d_Md_of_38 : decode b_Md_of 38 = .ok (.iload_n 1, 1) := by decide +kernel
theorem d_Md_of_39 : decode b_Md_of 39 = .ok (.iaload, 1) := by decide +kernel
theorem d_Md_of_40 : decode b_Md_of 40 = .ok (.goto 33, 3) := by decide +kernel
theorem d_Md_of_43 : decode b_Md_of 43 = .ok (.iload_n 2, 1) := by decide +kernel
theorem d_Md_of_44 : decode b_Md_of 44 = .ok (.iconst 2, 1) := by decide +kernel
theorem d_Md_of_45 : decode b_Md_of 45 = .ok (.if_icmp .ne 12, 3) := by decide +kernel
theorem d_Md_of_48 : decode b_Md_of 48 = .ok (.aload_n 0, 1) := by decide +kernel
theorem d_Md_of_49 : decode b_Md_of 49 = .ok (.getfield 20, 3) := by decide +kernel
theorem d_Md_of_52 : decode b_Md_of 52 = .ok (.iload_n 1, 1) := by decide +kernel
theorem d_Md_of_53 : decode b_Md_of 53 = .ok (.iaload, 1) := by decide +kernel
theorem d_Md_of_54 : decode b_Md_of 54 = .ok (.goto 19, 3) := by decide +kernel
theorem d_Md_of_57 : decode b_Md_of 57 = .ok (.iload_n 2, 1) := by decide +kernel
theorem d_Md_of_58 : decode b_Md_of 58 = .ok (.iconst 3, 1) := by decide +kernel
theorem d_Md_of_59 : decode b_Md_of 59 = .ok (.if_icmp .ne 12, 3) := by decide +kernel
theorem d_Md_of_62 : decode b_Md_of 62 = .ok (.aload_n 0, 1) := by decide +kernel
theorem d_Md_of_63 : decode b_Md_of 63 = .ok (.getfield 23, 3) := by decide +kernel
theorem d_Md_of_66 : decode b_Md_of 66 = .ok (.iload_n 1, 1) := by decide +kernel
theorem d_Md_of_67 : decode b_Md_of 67 = .ok (.iaload, 1) := by decide +kernel
theorem d_Md_of_68 : decode b_Md_of 68 = .ok (.goto 5, 3) := by decide +kernel
theorem d_Md_of_71 : decode b_Md_of 71 = .ok (.ldc 115, 2) := by decide +kernel
theorem d_Md_of_73 : decode b_Md_of 73 = .ok (.ireturn, 1) := by decide +kernel
theorem d_Md_look_0 : decode b_Md_look 0 = .ok (.aload_n 0, 1) := by decide +kernel
theorem d_Md_look_1 : decode b_Md_look 1 = .ok (.iconst 0, 1) := by decide +kernel
theorem d_Md_look_2 : decode b_Md_look 2 = .ok (.putfield 29, 3) := by decide +kernel
theorem d_Md_look_5 : decode b_Md_look 5 = .ok (.iload_n 1, 1) := by decide +kernel
theorem d_Md_look_6 : decode b_Md_look 6 = .ok (.ifCond .ne 10, 3) := by decide +kernel
theorem d_Md_look_9 : decode b_Md_look 9 = .ok (.aload_n 0, 1) := by decide +kernel
theorem d_Md_look_10 : decode b_Md_look 10 = .ok (.getfield 55, 3) := by decide +kernel
theorem d_Md_look_13 : decode b_Md_look 13 = .ok (.goto 36, 3) := by decide +kernel
theorem d_Md_look_16 : decode b_Md_look 16 = .ok (.iload_n 1, 1) := by decide +kernel
theorem d_Md_look_17 : decode b_Md_look 17 = .ok (.iconst 1, 1) := by decide +kernel
theorem d_Md_look_18 : decode b_Md_look 18 = .ok (.if_icmp .ne 10, 3) := by decide +kernel
theorem d_Md_look_21 : decode b_Md_look 21 = .ok (.aload_n 0, 1) := by decide +kernel
theorem d_Md_look_22 : decode b_Md_look 22 = .ok (.invokevirtual 44, 3) := by decide +kernel
theorem d_Md_look_25 : decode b_Md_look 25 = .ok (.goto 24, 3) := by decide +kernel
theorem d_Md_look_28 : decode b_Md_look 28 = .ok (.iload_n 1, 1) := by decide +kernel
theorem d_Md_look_29 : decode b_Md_look 29 = .ok (.iconst 2, 1) := by decide +kernel
theorem d_Md_look_30 : decode b_Md_look 30 = .ok (.if_icmp .ne 18, 3) := by decide +kernel
theorem d_Md_look_33 : decode b_Md_look 33 = .ok (.aload_n 0, 1) := by decide +kernel
theorem d_Md_look_34 : decode b_Md_look 34 = .ok (.getfield 62, 3) := by decide +kernel
theorem d_Md_look_37 : decode b_Md_look 37 = .ok (.ifCond .eq 7, 3) := by decide +kernel
theorem d_Md_look_40 : decode b_Md_look 40 = .ok (.iconst 1, 1) := by decide +kernel
theorem d_Md_look_41 : decode b_Md_look 41 = .ok (.goto 8, 3) := by decide +kernel
theorem d_Md_look_44 : decode b_Md_look 44 = .ok (.iconst 0, 1) := by decide +kernel
theorem d_Md_look_45 : decode b_Md_look 45 = .ok (.goto 4, 3) := by decide +kernel
theorem d_Md_look_48 : decode b_Md_look 48 = .ok (.iconst (-1), 1) := by decide +kernel
theorem d_Md_look_49 : decode b_Md_look 49 = .ok (.ireturn, 1) := by decide +kernel
