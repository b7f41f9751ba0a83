theorem d_RF_init_0 : decode b_RF_init 0 = .ok (.aload_n 0, 1) := by decide +kernel
theorem d_RF_init_1 : decode b_RF_init 1 = .ok (.invokespecial 1, 3) := by decide +kernel
theorem d_RF_init_4 : decode b_RF_init 4 = .ok (.aload_n 0, 1) := by decide +kernel
theorem d_RF_init_5 : decode b_RF_init 5 = .ok (.bipush 64, 2) := by decide +kernel
theorem d_RF_init_7 : decode b_RF_init 7 = .ok (.anewarray 9, 3) := by decide +kernel
theorem d_RF_init_10 : decode b_RF_init 10 = .ok (.putfield 11, 3) := by decide +kernel
theorem d_RF_init_13 : decode b_RF_init 13 = .ok (.aload_n 0, 1) := by decide +kernel
theorem d_RF_init_14 : decode b_RF_init 14 = .ok (.bipush 64, 2) := by decide +kernel
theorem d_RF_init_16 : decode b_RF_init 16 = .ok (.anewarray 15, 3) := by decide +kernel
theorem d_RF_init_19 : decode b_RF_init 19 = .ok (.putfield 17, 3) := by decide +kernel
theorem d_RF_init_22 : decode b_RF_init 22 = .ok (.return_, 1) := by decide +kernel
theorem d_RF_put_0 : decode b_RF_put 0 = .ok (.iload_n 1, 1) := by decide +kernel
theorem d_RF_put_1 : decode b_RF_put 1 = .ok (.iload_n 2, 1) := by decide +kernel
theorem d_RF_put_2 : decode b_RF_put 2 = .ok (.sipush 2000, 3) := by decide +kernel
theorem d_RF_put_5 : decode b_RF_put 5 = .ok (.invokestatic 21, 3) := by decide +kernel
theorem d_RF_put_8 : decode b_RF_put 8 = .ok (.ifCond .eq 15, 3) := by decide +kernel
theorem d_RF_put_11 : decode b_RF_put 11 = .ok (.iload_n 3, 1) := by decide +kernel
theorem d_RF_put_12 : decode b_RF_put 12 = .ok (.iload 4, 2) := by decide +kernel
theorem d_RF_put_14 : decode b_RF_put 14 = .ok (.sipush 2000, 3) := by decide +kernel
theorem d_RF_put_17 : decode b_RF_put 17 = .ok (.invokestatic 21, 3) := by decide +kernel
theorem d_RF_put_20 : decode b_RF_put 20 = .ok (.ifCond .ne 5, 3) := by decide +kernel
theorem d_RF_put_23 : decode b_RF_put 23 = .ok (.iconst (-1), 1) := by decide +kernel
theorem d_RF_put_24 : decode b_RF_put 24 = .ok (.ireturn, 1) := by decide +kernel
theorem d_RF_put_25 : decode b_RF_put 25 = .ok (.iload_n 1, 1) := by decide +kernel
theorem d_RF_put_26 : decode b_RF_put 26 = .ok (.iload_n 3, 1) := by decide +kernel
theorem d_RF_put_27 : decode b_RF_put 27 = .ok (.if_icmp .ne 11, 3) := by decide +kernel
theorem d_RF_put_30 : decode b_RF_put 30 = .ok (.iload_n 2, 1) := by decide +kernel
theorem d_RF_put_31 : decode b_RF_put 31 = .ok (.iload 4, 2) := by decide +kernel
theorem d_RF_put_33 : decode b_RF_put 33 = .ok (.if_icmp .ne 5, 3) := by decide +kernel
theorem d_RF_put_36 : decode b_RF_put 36 = .ok (.iconst (-1), 1) := by decide +kernel
theorem d_RF_put_37 : decode b_RF_put 37 = .ok (.ireturn, 1) := by decide +kernel
theorem d_RF_put_38 : decode b_RF_put 38 = .ok (.aload_n 0, 1) := by decide +kernel
theorem d_RF_put_39 : decode b_RF_put 39 = .ok (.invokevirtual 25, 3) := by decide +kernel
theorem d_RF_put_42 : decode b_RF_put 42 = .ok (.istore 5, 2) := by decide +kernel
theorem d_RF_put_44 : decode b_RF_put 44 = .ok (.iload 5, 2) := by decide +kernel
theorem d_RF_put_46 : decode b_RF_put 46 = .ok (.invokestatic 29, 3) := by decide +kernel
theorem d_RF_put_49 : decode b_RF_put 49 = .ok (.ifCond .ne 5, 3) := by decide +kernel
theorem d_RF_put_52 : decode b_RF_put 52 = .ok (.iconst (-1), 1) := by decide +kernel
theorem d_RF_put_53 : decode b_RF_put 53 = .ok (.ireturn, 1) := by decide +kernel
theorem d_RF_put_54 : decode b_RF_put 54 = .ok (.new 9, 3) := by decide +kernel
theorem d_RF_put_57 : decode b_RF_put 57 = .ok (.dup, 1) := by decide +kernel
theorem d_RF_put_58 : decode b_RF_put 58 = .ok (.iload_n 1, 1) := by decide +kernel
theorem d_RF_put_59 : decode b_RF_put 59 = .ok (.iload_n 2, 1) := by decide +kernel
theorem d_RF_put_60 : decode b_RF_put 60 = .ok (.iload_n 3, 1) := by decide +kernel
theorem d_RF_put_61 : decode b_RF_put 61 = .ok (.iload 4, 2) := by decide +kernel
theorem d_RF_put_63 : decode b_RF_put 63 = .ok (.invokespecial 33, 3) := by decide +kernel
theorem d_RF_put_66 : decode b_RF_put 66 = .ok (.astore 6, 2) := by decide +kernel
theorem d_RF_put_68 : decode b_RF_put 68 = .ok (.aload_n 0, 1) := by decide +kernel
theorem d_RF_put_69 : decode b_RF_put 69 = .ok (.aload 6, 2) := by decide +kernel
theorem d_RF_put_71 : decode b_RF_put 71 = .ok (.invokevirtual 36, 3) := by decide +kernel
theorem d_RF_put_74 : decode b_RF_put 74 = .ok (.ifCond .eq 5, 3) := by decide +kernel
theorem d_RF_put_77 : decode b_RF_put 77 = .ok (.iconst (-1), 1) := by decide +kernel
theorem d_RF_put_78 : decode b_RF_put 78 = .ok (.ireturn, 1) := by decide +kernel
theorem d_RF_put_79 : decode b_RF_put 79 = .ok (.aload_n 0, 1) := by decide +kernel
theorem d_RF_put_80 : decode b_RF_put 80 = .ok (.getfield 11, 3) := by decide +kernel
theorem d_RF_put_83 : decode b_RF_put 83 = .ok (.iload 5, 2) := by decide +kernel
theorem d_RF_put_85 : decode b_RF_put 85 = .ok (.aload 6, 2) := by decide +kernel
theorem d_RF_put_87 : decode b_RF_put 87 = .ok (.aastore, 1) := by decide +kernel
theorem d_RF_put_88 : decode b_RF_put 88 = .ok (.aload_n 0, 1) := by decide +kernel
theorem d_RF_put_89 : decode b_RF_put 89 = .ok (.dup, 1) := by decide +kernel
theorem d_RF_put_90 : decode b_RF_put 90 = .ok (.getfield 40, 3) := by decide +kernel
theorem d_RF_put_93 : decode b_RF_put 93 = .ok (.iconst 1, 1) := by decide +kernel
theorem d_RF_put_94 : decode b_RF_put 94 = .ok (.iadd, 1) := by decide +kernel
theorem d_RF_put_95 : decode b_RF_put 95 = .ok (.putfield 40, 3) := by decide +kernel
theorem d_RF_put_98 : decode b_RF_put 98 = .ok (.aload_n 0, 1) := by decide +kernel
theorem d_RF_put_99 : decode b_RF_put 99 = .ok (.invokevirtual 44, 3) := by decide +kernel
theorem d_RF_put_102 : decode b_RF_put 102 = .ok (.iload 5, 2) := by decide +kernel
theorem d_RF_put_104 : decode b_RF_put 104 = .ok (.ireturn, 1) := by decide +kernel
theorem d_RF_take_0 : decode b_RF_take 0 = .ok (.aload_n 0, 1) := by decide +kernel
theorem d_RF_take_1 : decode b_RF_take 1 = .ok (.iload_n 1, 1) := by decide +kernel
theorem d_RF_take_2 : decode b_RF_take 2 = .ok (.invokevirtual 47, 3) := by decide +kernel
theorem d_RF_take_5 : decode b_RF_take 5 = .ok (.ifnonnull 5, 3) := by decide +kernel
theorem d_RF_take_8 : decode b_RF_take 8 = .ok (.iconst 0, 1) := by decide +kernel
theorem d_RF_take_9 : decode b_RF_take 9 = .ok (.ireturn, 1) := by decide +kernel
theorem d_RF_take_10 : decode b_RF_take 10 = .ok (.aload_n 0, 1) := by decide +kernel
theorem d_RF_take_11 : decode b_RF_take 11 = .ok (.getfield 11, 3) := by decide +kernel
theorem d_RF_take_14 : decode b_RF_take 14 = .ok (.iload_n 1, 1) := by decide +kernel
theorem d_RF_take_15 : decode b_RF_take 15 = .ok (.aconst_null, 1) := by decide +kernel
theorem d_RF_take_16 : decode b_RF_take 16 = .ok (.aastore, 1) := by decide +kernel
theorem d_RF_take_17 : decode b_RF_take 17 = .ok (.aload_n 0, 1) := by decide +kernel
theorem d_RF_take_18 : decode b_RF_take 18 = .ok (.dup, 1) := by decide +kernel
theorem d_RF_take_19 : decode b_RF_take 19 = .ok (.getfield 40, 3) := by decide +kernel
theorem d_RF_take_22 : decode b_RF_take 22 = .ok (.iconst 1, 1) := by decide +kernel
theorem d_RF_take_23 : decode b_RF_take 23 = .ok (.isub, 1) := by decide +kernel
theorem d_RF_take_24 : decode b_RF_take 24 = .ok (.putfield 40, 3) := by decide +kernel
theorem d_RF_take_27 : decode b_RF_take 27 = .ok (.aload_n 0, 1) := by decide +kernel
theorem d_RF_take_28 : decode b_RF_take 28 = .ok (.invokevirtual 44, 3) := by decide +kernel
theorem d_RF_take_31 : decode b_RF_take 31 = .ok (.iconst 1, 1) := by decide +kernel
theorem d_RF_take_32 : decode b_RF_take 32 = .ok (.ireturn, 1) := by decide +kernel
theorem d_RF_turn_0 : decode b_RF_turn 0 = .ok (.aload_n 0, 1) := by decide +kernel
theorem d_RF_turn_1 : decode b_RF_turn 1 = .ok (.iload_n 1, 1) := by decide +kernel
theorem d_RF_turn_2 : decode b_RF_turn 2 = .ok (.invokevirtual 47, 3) := by decide +kernel
theorem d_RF_turn_5 : decode b_RF_turn 5 = .ok (.astore_n 2, 1) := by decide +kernel
theorem d_RF_turn_6 : decode b_RF_turn 6 = .ok (.aload_n 2, 1) := by decide +kernel
theorem d_RF_turn_7 : decode b_RF_turn 7 = .ok (.ifnonnull 5, 3) := by decide +kernel
theorem d_RF_turn_10 : decode b_RF_turn 10 = .ok (.iconst 0, 1) := by decide +kernel
theorem d_RF_turn_11 : decode b_RF_turn 11 = .ok (.ireturn, 1) := by decide +kernel
theorem d_RF_turn_12 : decode b_RF_turn 12 = .ok (.aload_n 2, 1) := by decide +kernel
theorem d_RF_turn_13 : decode b_RF_turn 13 = .ok (.invokevirtual 51, 3) := by decide +kernel
theorem d_RF_turn_16 : decode b_RF_turn 16 = .ok (.aload_n 0, 1) := by decide +kernel
theorem d_RF_turn_17 : decode b_RF_turn 17 = .ok (.invokevirtual 44, 3) := by decide +kernel
theorem d_RF_turn_20 : decode b_RF_turn 20 = .ok (.iconst 1, 1) := by decide +kernel
theorem d_RF_turn_21 : decode b_RF_turn 21 = .ok (.ireturn, 1) := by decide +kernel
theorem d_RF_clear_0 : decode b_RF_clear 0 = .ok (.iconst 0, 1) := by decide +kernel
theorem d_RF_clear_1 : decode b_RF_clear 1 = .ok (.istore_n 1, 1) := by decide +kernel
theorem d_RF_clear_2 : decode b_RF_clear 2 = .ok (.iload_n 1, 1) := by decide +kernel
theorem d_RF_clear_3 : decode b_RF_clear 3 = .ok (.aload_n 0, 1) := by decide +kernel
theorem d_RF_clear_4 : decode b_RF_clear 4 = .ok (.getfield 11, 3) := by decide +kernel
theorem d_RF_clear_7 : decode b_RF_clear 7 = .ok (.arraylength, 1) := by decide +kernel
theorem d_RF_clear_8 : decode b_RF_clear 8 = .ok (.if_icmp .ge 16, 3) := by decide +kernel
theorem d_RF_clear_11 : decode b_RF_clear 11 = .ok (.aload_n 0, 1) := by decide +kernel
theorem d_RF_clear_12 : decode b_RF_clear 12 = .ok (.getfield 11, 3) := by decide +kernel
theorem d_RF_clear_15 : decode b_RF_clear 15 = .ok (.iload_n 1, 1) := by decide +kernel
theorem d_RF_clear_16 : decode b_RF_clear 16 = .ok (.aconst_null, 1) := by decide +kernel
theorem d_RF_clear_17 : decode b_RF_clear 17 = .ok (.aastore, 1) := by decide +kernel
theorem d_RF_clear_18 : decode b_RF_clear 18 = .ok (.iinc 1 1, 3) := by decide +kernel
theorem d_RF_clear_21 : decode b_RF_clear 21 = .ok (.goto (-19), 3) := by decide +kernel
theorem d_RF_clear_24 : decode b_RF_clear 24 = .ok (.aload_n 0, 1) := by decide +kernel
theorem d_RF_clear_25 : decode b_RF_clear 25 = .ok (.iconst 0, 1) := by decide +kernel
theorem d_RF_clear_26 : decode b_RF_clear 26 = .ok (.putfield 40, 3) := by decide +kernel
theorem d_RF_clear_29 : decode b_RF_clear 29 = .ok (.aload_n 0, 1) := by decide +kernel
theorem d_RF_clear_30 : decode b_RF_clear 30 = .ok (.invokevirtual 44, 3) := by decide +kernel
theorem d_RF_clear_33 : decode b_RF_clear 33 = .ok (.return_, 1) := by decide +kernel
theorem d_RF_ray_0 : decode b_RF_ray 0 = .ok (.iload_n 1, 1) := by decide +kernel
theorem d_RF_ray_1 : decode b_RF_ray 1 = .ok (.iload_n 2, 1) := by decide +kernel
theorem d_RF_ray_2 : decode b_RF_ray 2 = .ok (.sipush 4000, 3) := by decide +kernel
theorem d_RF_ray_5 : decode b_RF_ray 5 = .ok (.invokestatic 21, 3) := by decide +kernel
theorem d_RF_ray_8 : decode b_RF_ray 8 = .ok (.ifCond .eq 15, 3) := by decide +kernel
theorem d_RF_ray_11 : decode b_RF_ray 11 = .ok (.iload_n 3, 1) := by decide +kernel
theorem d_RF_ray_12 : decode b_RF_ray 12 = .ok (.iload 4, 2) := by decide +kernel
theorem d_RF_ray_14 : decode b_RF_ray 14 = .ok (.sipush 20000, 3) := by decide +kernel
theorem d_RF_ray_17 : decode b_RF_ray 17 = .ok (.invokestatic 21, 3) := by decide +kernel
theorem d_RF_ray_20 : decode b_RF_ray 20 = .ok (.ifCond .ne 5, 3) := by decide +kernel
theorem d_RF_ray_23 : decode b_RF_ray 23 = .ok (.iconst 0, 1) := by decide +kernel
theorem d_RF_ray_24 : decode b_RF_ray 24 = .ok (.ireturn, 1) := by decide +kernel
theorem d_RF_ray_25 : decode b_RF_ray 25 = .ok (.iload_n 3, 1) := by decide +kernel
theorem d_RF_ray_26 : decode b_RF_ray 26 = .ok (.ifCond .ne 10, 3) := by decide +kernel
theorem d_RF_ray_29 : decode b_RF_ray 29 = .ok (.iload 4, 2) := by decide +kernel
theorem d_RF_ray_31 : decode b_RF_ray 31 = .ok (.ifCond .ne 5, 3) := by decide +kernel
theorem d_RF_ray_34 : decode b_RF_ray 34 = .ok (.iconst 0, 1) := by decide +kernel
theorem d_RF_ray_35 : decode b_RF_ray 35 = .ok (.ireturn, 1) := by decide +kernel
theorem d_RF_ray_36 : decode b_RF_ray 36 = .ok (.aload_n 0, 1) := by decide +kernel
theorem d_RF_ray_37 : decode b_RF_ray 37 = .ok (.new 54, 3) := by decide +kernel
theorem d_RF_ray_40 : decode b_RF_ray 40 = .ok (.dup, 1) := by decide +kernel
theorem d_RF_ray_41 : decode b_RF_ray 41 = .ok (.iload_n 1, 1) := by decide +kernel
theorem d_RF_ray_42 : decode b_RF_ray 42 = .ok (.iload_n 2, 1) := by decide +kernel
theorem d_RF_ray_43 : decode b_RF_ray 43 = .ok (.iload_n 3, 1) := by decide +kernel
theorem d_RF_ray_44 : decode b_RF_ray 44 = .ok (.iload 4, 2) := by decide +kernel
theorem d_RF_ray_46 : decode b_RF_ray 46 = .ok (.invokespecial 56, 3) := by decide +kernel
theorem d_RF_ray_49 : decode b_RF_ray 49 = .ok (.putfield 57, 3) := by decide +kernel
theorem d_RF_ray_52 : decode b_RF_ray 52 = .ok (.aload_n 0, 1) := by decide +kernel
theorem d_RF_ray_53 : decode b_RF_ray 53 = .ok (.invokevirtual 44, 3) := by decide +kernel
theorem d_RF_ray_56 : decode b_RF_ray 56 = .ok (.iconst 1, 1) := by decide +kernel
theorem d_RF_ray_57 : decode b_RF_ray 57 = .ok (.ireturn, 1) := by decide +kernel
theorem d_RF_met_0 : decode b_RF_met 0 = .ok (.aload_n 0, 1) := by decide +kernel
theorem d_RF_met_1 : decode b_RF_met 1 = .ok (.getfield 57, 3) := by decide +kernel
theorem d_RF_met_4 : decode b_RF_met 4 = .ok (.ifnonnull 7, 3) := by decide +kernel
theorem d_RF_met_7 : decode b_RF_met 7 = .ok (.iconst (-1), 1) := by decide +kernel
theorem d_RF_met_8 : decode b_RF_met 8 = .ok (.goto 7, 3) := by decide +kernel
theorem d_RF_met_11 : decode b_RF_met 11 = .ok (.aload_n 0, 1) := by decide +kernel
theorem d_RF_met_12 : decode b_RF_met 12 = .ok (.getfield 61, 3) := by decide +kernel
theorem d_RF_met_15 : decode b_RF_met 15 = .ok (.ireturn, 1) := by decide +kernel
theorem d_RF_wall_0 : decode b_RF_wall 0 = .ok (.aload_n 0, 1) := by decide +kernel
theorem d_RF_wall_1 : decode b_RF_wall 1 = .ok (.iload_n 1, 1) := by decide +kernel
theorem d_RF_wall_2 : decode b_RF_wall 2 = .ok (.invokevirtual 64, 3) := by decide +kernel
theorem d_RF_wall_5 : decode b_RF_wall 5 = .ok (.astore_n 2, 1) := by decide +kernel
theorem d_RF_wall_6 : decode b_RF_wall 6 = .ok (.aload_n 2, 1) := by decide +kernel
theorem d_RF_wall_7 : decode b_RF_wall 7 = .ok (.ifnonnull 7, 3) := by decide +kernel
theorem d_RF_wall_10 : decode b_RF_wall 10 = .ok (.iconst (-1), 1) := by decide +kernel
theorem d_RF_wall_11 : decode b_RF_wall 11 = .ok (.goto 7, 3) := by decide +kernel
theorem d_RF_wall_14 : decode b_RF_wall 14 = .ok (.aload_n 2, 1) := by decide +kernel
theorem d_RF_wall_15 : decode b_RF_wall 15 = .ok (.getfield 68, 3) := by decide +kernel
theorem d_RF_wall_18 : decode b_RF_wall 18 = .ok (.ireturn, 1) := by decide +kernel
theorem d_RF_isRight_0 : decode b_RF_isRight 0 = .ok (.aload_n 0, 1) := by decide +kernel
theorem d_RF_isRight_1 : decode b_RF_isRight 1 = .ok (.iload_n 1, 1) := by decide +kernel
theorem d_RF_isRight_2 : decode b_RF_isRight 2 = .ok (.invokevirtual 64, 3) := by decide +kernel
theorem d_RF_isRight_5 : decode b_RF_isRight 5 = .ok (.astore_n 2, 1) := by decide +kernel
theorem d_RF_isRight_6 : decode b_RF_isRight 6 = .ok (.aload_n 2, 1) := by decide +kernel
theorem d_RF_isRight_7 : decode b_RF_isRight 7 = .ok (.ifnull 14, 3) := by decide +kernel
theorem d_RF_isRight_10 : decode b_RF_isRight 10 = .ok (.aload_n 2, 1) := by decide +kernel
theorem d_RF_isRight_11 : decode b_RF_isRight 11 = .ok (.getfield 71, 3) := by decide +kernel
theorem d_RF_isRight_14 : decode b_RF_isRight 14 = .ok (.ifCond .eq 7, 3) := by decide +kernel
theorem d_RF_isRight_17 : decode b_RF_isRight 17 = .ok (.iconst 1, 1) := by decide +kernel
theorem d_RF_isRight_18 : decode b_RF_isRight 18 = .ok (.goto 4, 3) := by decide +kernel
theorem d_RF_isRight_21 : decode b_RF_isRight 21 = .ok (.iconst 0, 1) := by decide +kernel
theorem d_RF_isRight_22 : decode b_RF_isRight 22 = .ok (.ireturn, 1) := by decide +kernel
theorem d_RF_times_0 : decode b_RF_times 0 = .ok (.aload_n 0, 1) := by decide +kernel
theorem d_RF_times_1 : decode b_RF_times 1 = .ok (.iload_n 1, 1) := by decide +kernel
theorem d_RF_times_2 : decode b_RF_times 2 = .ok (.invokevirtual 64, 3) := by decide +kernel
theorem d_RF_times_5 : decode b_RF_times 5 = .ok (.astore_n 3, 1) := by decide +kernel
theorem d_RF_times_6 : decode b_RF_times 6 = .ok (.aload_n 3, 1) := by decide +kernel
theorem d_RF_times_7 : decode b_RF_times 7 = .ok (.ifnull 13, 3) := by decide +kernel
theorem d_RF_times_10 : decode b_RF_times 10 = .ok (.iload_n 2, 1) := by decide +kernel
theorem d_RF_times_11 : decode b_RF_times 11 = .ok (.iconst 0, 1) := by decide +kernel
theorem d_RF_times_12 : decode b_RF_times 12 = .ok (.ldc 75, 2) := by decide +kernel
theorem d_RF_times_14 : decode b_RF_times 14 = .ok (.invokestatic 76, 3) := by decide +kernel
theorem d_RF_times_17 : decode b_RF_times 17 = .ok (.ifCond .ne 7, 3) := by decide +kernel
theorem d_RF_times_20 : decode b_RF_times 20 = .ok (.ldc2_w 79, 3) := by decide +kernel
theorem d_RF_times_23 : decode b_RF_times 23 = .ok (.lreturn, 1) := by decide +kernel
theorem d_RF_times_24 : decode b_RF_times 24 = .ok (.aload_n 3, 1) := by decide +kernel
theorem d_RF_times_25 : decode b_RF_times 25 = .ok (.iload_n 2, 1) := by decide +kernel
theorem d_RF_times_26 : decode b_RF_times 26 = .ok (.i2l, 1) := by decide +kernel
theorem d_RF_times_27 : decode b_RF_times 27 = .ok (.aload_n 3, 1) := by decide +kernel
theorem d_RF_times_28 : decode b_RF_times 28 = .ok (.getfield 81, 3) := by decide +kernel
theorem d_RF_times_31 : decode b_RF_times 31 = .ok (.lmul, 1) := by decide +kernel
theorem d_RF_times_32 : decode b_RF_times 32 = .ok (.invokevirtual 85, 3) := by decide +kernel
theorem d_RF_times_35 : decode b_RF_times 35 = .ok (.lreturn, 1) := by decide +kernel
theorem d_RF_along_0 : decode b_RF_along 0 = .ok (.aload_n 0, 1) := by decide +kernel
theorem d_RF_along_1 : decode b_RF_along 1 = .ok (.iload_n 1, 1) := by decide +kernel
theorem d_RF_along_2 : decode b_RF_along 2 = .ok (.invokevirtual 64, 3) := by decide +kernel
theorem d_RF_along_5 : decode b_RF_along 5 = .ok (.astore_n 2, 1) := by decide +kernel
theorem d_RF_along_6 : decode b_RF_along 6 = .ok (.aload_n 2, 1) := by decide +kernel
theorem d_RF_along_7 : decode b_RF_along 7 = .ok (.ifnonnull 7, 3) := by decide +kernel
theorem d_RF_along_10 : decode b_RF_along 10 = .ok (.iconst (-1), 1) := by decide +kernel
theorem d_RF_along_11 : decode b_RF_along 11 = .ok (.goto 16, 3) := by decide +kernel
theorem d_RF_along_14 : decode b_RF_along 14 = .ok (.aload_n 2, 1) := by decide +kernel
theorem d_RF_along_15 : decode b_RF_along 15 = .ok (.ldc2_w 89, 3) := by decide +kernel
theorem d_RF_along_18 : decode b_RF_along 18 = .ok (.aload_n 2, 1) := by decide +kernel
theorem d_RF_along_19 : decode b_RF_along 19 = .ok (.getfield 91, 3) := by decide +kernel
theorem d_RF_along_22 : decode b_RF_along 22 = .ok (.lmul, 1) := by decide +kernel
theorem d_RF_along_23 : decode b_RF_along 23 = .ok (.invokevirtual 85, 3) := by decide +kernel
theorem d_RF_along_26 : decode b_RF_along 26 = .ok (.l2i, 1) := by decide +kernel
theorem d_RF_along_27 : decode b_RF_along 27 = .ok (.ireturn, 1) := by decide +kernel
theorem d_RF_within_0 : decode b_RF_within 0 = .ok (.aload_n 0, 1) := by decide +kernel
theorem d_RF_within_1 : decode b_RF_within 1 = .ok (.getfield 57, 3) := by decide +kernel
theorem d_RF_within_4 : decode b_RF_within 4 = .ok (.ifnull 23, 3) := by decide +kernel
theorem d_RF_within_7 : decode b_RF_within 7 = .ok (.iload_n 1, 1) := by decide +kernel
theorem d_RF_within_8 : decode b_RF_within 8 = .ok (.iconst 0, 1) := by decide +kernel
theorem d_RF_within_9 : decode b_RF_within 9 = .ok (.ldc 75, 2) := by decide +kernel
theorem d_RF_within_11 : decode b_RF_within 11 = .ok (.invokestatic 76, 3) := by decide +kernel
theorem d_RF_within_14 : decode b_RF_within 14 = .ok (.ifCond .eq 13, 3) := by decide +kernel
theorem d_RF_within_17 : decode b_RF_within 17 = .ok (.iload_n 2, 1) := by decide +kernel
theorem d_RF_within_18 : decode b_RF_within 18 = .ok (.iconst 1, 1) := by decide +kernel
theorem d_RF_within_19 : decode b_RF_within 19 = .ok (.ldc 75, 2) := by decide +kernel
theorem d_RF_within_21 : decode b_RF_within 21 = .ok (.invokestatic 76, 3) := by decide +kernel
theorem d_RF_within_24 : decode b_RF_within 24 = .ok (.ifCond .ne 5, 3) := by decide +kernel
theorem d_RF_within_27 : decode b_RF_within 27 = .ok (.iconst (-1), 1) := by decide +kernel
theorem d_RF_within_28 : decode b_RF_within 28 = .ok (.ireturn, 1) := by decide +kernel
theorem d_RF_within_29 : decode b_RF_within 29 = .ok (.iconst 0, 1) := by decide +kernel
theorem d_RF_within_30 : decode b_RF_within 30 = .ok (.istore_n 3, 1) := by decide +kernel
theorem d_RF_within_31 : decode b_RF_within 31 = .ok (.iconst 0, 1) := by decide +kernel
theorem d_RF_within_32 : decode b_RF_within 32 = .ok (.istore 4, 2) := by decide +kernel
theorem d_RF_within_34 : decode b_RF_within 34 = .ok (.iload 4, 2) := by decide +kernel
theorem d_RF_within_36 : decode b_RF_within 36 = .ok (.aload_n 0, 1) := by decide +kernel
theorem d_RF_within_37 : decode b_RF_within 37 = .ok (.getfield 61, 3) := by decide +kernel
theorem d_RF_within_40 : decode b_RF_within 40 = .ok (.if_icmp .ge 37, 3) := by decide +kernel
theorem d_RF_within_43 : decode b_RF_within 43 = .ok (.aload_n 0, 1) := by decide +kernel
theorem d_RF_within_44 : decode b_RF_within 44 = .ok (.iload 4, 2) := by decide +kernel
theorem d_RF_within_46 : decode b_RF_within 46 = .ok (.invokevirtual 64, 3) := by decide +kernel
theorem d_RF_within_49 : decode b_RF_within 49 = .ok (.astore 5, 2) := by decide +kernel
theorem d_RF_within_51 : decode b_RF_within 51 = .ok (.aload 5, 2) := by decide +kernel
theorem d_RF_within_53 : decode b_RF_within 53 = .ok (.ifnull 18, 3) := by decide +kernel
theorem d_RF_within_56 : decode b_RF_within 56 = .ok (.aload 5, 2) := by decide +kernel
theorem d_RF_within_58 : decode b_RF_within 58 = .ok (.iload_n 1, 1) := by decide +kernel
theorem d_RF_within_59 : decode b_RF_within 59 = .ok (.i2l, 1) := by decide +kernel
theorem d_RF_within_60 : decode b_RF_within 60 = .ok (.iload_n 2, 1) := by decide +kernel
theorem d_RF_within_61 : decode b_RF_within 61 = .ok (.i2l, 1) := by decide +kernel
theorem d_RF_within_62 : decode b_RF_within 62 = .ok (.invokevirtual 94, 3) := by decide +kernel
theorem d_RF_within_65 : decode b_RF_within 65 = .ok (.ifCond .eq 6, 3) := by decide +kernel
theorem d_RF_within_68 : decode b_RF_within 68 = .ok (.iinc 3 1, 3) := by decide +kernel
theorem d_RF_within_71 : decode b_RF_within 71 = .ok (.iinc 4 1, 3) := by decide +kernel
theorem d_RF_within_74 : decode b_RF_within 74 = .ok (.goto (-40), 3) := by decide +kernel
theorem d_RF_within_77 : decode b_RF_within 77 = .ok (.iload_n 3, 1) := by decide +kernel
theorem d_RF_within_78 : decode b_RF_within 78 = .ok (.ireturn, 1) := by decide +kernel
theorem d_RF_on_0 : decode b_RF_on 0 = .ok (.iload_n 1, 1) := by decide +kernel
theorem d_RF_on_1 : decode b_RF_on 1 = .ok (.iload_n 2, 1) := by decide +kernel
theorem d_RF_on_2 : decode b_RF_on 2 = .ok (.sipush 4000, 3) := by decide +kernel
theorem d_RF_on_5 : decode b_RF_on 5 = .ok (.invokestatic 21, 3) := by decide +kernel
theorem d_RF_on_8 : decode b_RF_on 8 = .ok (.ifCond .ne 5, 3) := by decide +kernel
theorem d_RF_on_11 : decode b_RF_on 11 = .ok (.iconst (-1), 1) := by decide +kernel
theorem d_RF_on_12 : decode b_RF_on 12 = .ok (.ireturn, 1) := by decide +kernel
theorem d_RF_on_13 : decode b_RF_on 13 = .ok (.iconst 0, 1) := by decide +kernel
theorem d_RF_on_14 : decode b_RF_on 14 = .ok (.istore_n 3, 1) := by decide +kernel
theorem d_RF_on_15 : decode b_RF_on 15 = .ok (.iload_n 3, 1) := by decide +kernel
theorem d_RF_on_16 : decode b_RF_on 16 = .ok (.aload_n 0, 1) := by decide +kernel
theorem d_RF_on_17 : decode b_RF_on 17 = .ok (.getfield 11, 3) := by decide +kernel
theorem d_RF_on_20 : decode b_RF_on 20 = .ok (.arraylength, 1) := by decide +kernel
theorem d_RF_on_21 : decode b_RF_on 21 = .ok (.if_icmp .ge 34, 3) := by decide +kernel
theorem d_RF_on_24 : decode b_RF_on 24 = .ok (.aload_n 0, 1) := by decide +kernel
theorem d_RF_on_25 : decode b_RF_on 25 = .ok (.getfield 11, 3) := by decide +kernel
theorem d_RF_on_28 : decode b_RF_on 28 = .ok (.iload_n 3, 1) := by decide +kernel
theorem d_RF_on_29 : decode b_RF_on 29 = .ok (.aaload, 1) := by decide +kernel
theorem d_RF_on_30 : decode b_RF_on 30 = .ok (.astore 4, 2) := by decide +kernel
theorem d_RF_on_32 : decode b_RF_on 32 = .ok (.aload 4, 2) := by decide +kernel
theorem d_RF_on_34 : decode b_RF_on 34 = .ok (.ifnull 15, 3) := by decide +kernel
theorem d_RF_on_37 : decode b_RF_on 37 = .ok (.aload 4, 2) := by decide +kernel
theorem d_RF_on_39 : decode b_RF_on 39 = .ok (.iload_n 1, 1) := by decide +kernel
theorem d_RF_on_40 : decode b_RF_on 40 = .ok (.iload_n 2, 1) := by decide +kernel
theorem d_RF_on_41 : decode b_RF_on 41 = .ok (.invokevirtual 98, 3) := by decide +kernel
theorem d_RF_on_44 : decode b_RF_on 44 = .ok (.ifCond .eq 5, 3) := by decide +kernel
theorem d_RF_on_47 : decode b_RF_on 47 = .ok (.iload_n 3, 1) := by decide +kernel
theorem d_RF_on_48 : decode b_RF_on 48 = .ok (.ireturn, 1) := by decide +kernel
theorem d_RF_on_49 : decode b_RF_on 49 = .ok (.iinc 3 1, 3) := by decide +kernel
theorem d_RF_on_52 : decode b_RF_on 52 = .ok (.goto (-37), 3) := by decide +kernel
theorem d_RF_on_55 : decode b_RF_on 55 = .ok (.iconst (-1), 1) := by decide +kernel
theorem d_RF_on_56 : decode b_RF_on 56 = .ok (.ireturn, 1) := by decide +kernel
theorem d_RF_of_0 : decode b_RF_of 0 = .ok (.aload_n 0, 1) := by decide +kernel
theorem d_RF_of_1 : decode b_RF_of 1 = .ok (.iload_n 1, 1) := by decide +kernel
theorem d_RF_of_2 : decode b_RF_of 2 = .ok (.invokevirtual 47, 3) := by decide +kernel
theorem d_RF_of_5 : decode b_RF_of 5 = .ok (.astore_n 3, 1) := by decide +kernel
theorem d_RF_of_6 : decode b_RF_of 6 = .ok (.aload_n 3, 1) := by decide +kernel
theorem d_RF_of_7 : decode b_RF_of 7 = .ok (.ifnonnull 6, 3) := by decide +kernel
theorem d_RF_of_10 : decode b_RF_of 10 = .ok (.ldc 102, 2) := by decide +kernel
theorem d_RF_of_12 : decode b_RF_of 12 = .ok (.ireturn, 1) := by decide +kernel
theorem d_RF_of_13 : decode b_RF_of 13 = .ok (.iload_n 2, 1) := by decide +kernel
theorem d_RF_of_14 : decode b_RF_of 14 = .ok (.tableswitch 50 0 3 #[30, 35, 40, 45], 30) := by decide +kernel
theorem d_RF_of_44 : decode b_RF_of 44 = .ok (.aload_n 3, 1) := by decide +kernel
theorem d_RF_of_45 : decode b_RF_of 45 = .ok (.getfield 103, 3) := by decide +kernel
theorem d_RF_of_48 : decode b_RF_of 48 = .ok (.ireturn, 1) := by decide +kernel
theorem d_RF_of_49 : decode b_RF_of 49 = .ok (.aload_n 3, 1) := by decide +kernel
theorem d_RF_of_50 : decode b_RF_of 50 = .ok (.getfield 106, 3) := by decide +kernel
theorem d_RF_of_53 : decode b_RF_of 53 = .ok (.ireturn, 1) := by decide +kernel
theorem d_RF_of_54 : decode b_RF_of 54 = .ok (.aload_n 3, 1) := by decide +kernel
theorem d_RF_of_55 : decode b_RF_of 55 = .ok (.getfield 109, 3) := by decide +kernel
theorem d_RF_of_58 : decode b_RF_of 58 = .ok (.ireturn, 1) := by decide +kernel
theorem d_RF_of_59 : decode b_RF_of 59 = .ok (.aload_n 3, 1) := by decide +kernel
theorem d_RF_of_60 : decode b_RF_of 60 = .ok (.getfield 112, 3) := by decide +kernel
theorem d_RF_of_63 : decode b_RF_of 63 = .ok (.ireturn, 1) := by decide +kernel
theorem d_RF_of_64 : decode b_RF_of 64 = .ok (.ldc 102, 2) := by decide +kernel
theorem d_RF_of_66 : decode b_RF_of 66 = .ok (.ireturn, 1) := by decide +kernel
theorem d_RF_look_0 : decode b_RF_look 0 = .ok (.iload_n 1, 1) := by decide +kernel
theorem d_RF_look_1 : decode b_RF_look 1 = .ok (.tableswitch 50 0 2 #[27, 32, 37], 27) := by decide +kernel
theorem d_RF_look_28 : decode b_RF_look 28 = .ok (.aload_n 0, 1) := by decide +kernel
theorem d_RF_look_29 : decode b_RF_look 29 = .ok (.getfield 40, 3) := by decide +kernel
theorem d_RF_look_32 : decode b_RF_look 32 = .ok (.ireturn, 1) := by decide +kernel
theorem d_RF_look_33 : decode b_RF_look 33 = .ok (.aload_n 0, 1) := by decide +kernel
theorem d_RF_look_34 : decode b_RF_look 34 = .ok (.invokevirtual 25, 3) := by decide +kernel
theorem d_RF_look_37 : decode b_RF_look 37 = .ok (.ireturn, 1) := by decide +kernel
theorem d_RF_look_38 : decode b_RF_look 38 = .ok (.aload_n 0, 1) := by decide +kernel
theorem d_RF_look_39 : decode b_RF_look 39 = .ok (.getfield 57, 3) := by decide +kernel
theorem d_RF_look_42 : decode b_RF_look 42 = .ok (.ifnonnull 7, 3) := by decide +kernel
theorem d_RF_look_45 : decode b_RF_look 45 = .ok (.iconst 0, 1) := by decide +kernel
theorem d_RF_look_46 : decode b_RF_look 46 = .ok (.goto 4, 3) := by decide +kernel
theorem d_RF_look_49 : decode b_RF_look 49 = .ok (.iconst 1, 1) := by decide +kernel
theorem d_RF_look_50 : decode b_RF_look 50 = .ok (.ireturn, 1) := by decide +kernel
theorem d_RF_look_51 : decode b_RF_look 51 = .ok (.iconst (-1), 1) := by decide +kernel
theorem d_RF_look_52 : decode b_RF_look 52 = .ok (.ireturn, 1) := by decide +kernel
theorem d_RF_leastFreeNumber_0 : decode b_RF_leastFreeNumber 0 = .ok (.iconst 0, 1) := by decide +kernel
theorem d_RF_leastFreeNumber_1 : decode b_RF_leastFreeNumber 1 = .ok (.istore_n 1, 1) := by decide +kernel
theorem d_RF_leastFreeNumber_2 : decode b_RF_leastFreeNumber 2 = .ok (.iload_n 1, 1) := by decide +kernel
theorem d_RF_leastFreeNumber_3 : decode b_RF_leastFreeNumber 3 = .ok (.aload_n 0, 1) := by decide +kernel
theorem d_RF_leastFreeNumber_4 : decode b_RF_leastFreeNumber 4 = .ok (.getfield 11, 3) := by decide +kernel
theorem d_RF_leastFreeNumber_7 : decode b_RF_leastFreeNumber 7 = .ok (.arraylength, 1) := by decide +kernel
theorem d_RF_leastFreeNumber_8 : decode b_RF_leastFreeNumber 8 = .ok (.if_icmp .ge 20, 3) := by decide +kernel
theorem d_RF_leastFreeNumber_11 : decode b_RF_leastFreeNumber 11 = .ok (.aload_n 0, 1) := by decide +kernel
theorem d_RF_leastFreeNumber_12 : decode b_RF_leastFreeNumber 12 = .ok (.getfield 11, 3) := by decide +kernel
theorem d_RF_leastFreeNumber_15 : decode b_RF_leastFreeNumber 15 = .ok (.iload_n 1, 1) := by decide +kernel
theorem d_RF_leastFreeNumber_16 : decode b_RF_leastFreeNumber 16 = .ok (.aaload, 1) := by decide +kernel
theorem d_RF_leastFreeNumber_17 : decode b_RF_leastFreeNumber 17 = .ok (.ifnonnull 5, 3) := by decide +kernel
theorem d_RF_leastFreeNumber_20 : decode b_RF_leastFreeNumber 20 = .ok (.iload_n 1, 1) := by decide +kernel
theorem d_RF_leastFreeNumber_21 : decode b_RF_leastFreeNumber 21 = .ok (.ireturn, 1) := by decide +kernel
theorem d_RF_leastFreeNumber_22 : decode b_RF_leastFreeNumber 22 = .ok (.iinc 1 1, 3) := by decide +kernel
theorem d_RF_leastFreeNumber_25 : decode b_RF_leastFreeNumber 25 = .ok (.goto (-23), 3) := by decide +kernel
theorem d_RF_leastFreeNumber_28 : decode b_RF_leastFreeNumber 28 = .ok (.iconst (-1), 1) := by decide +kernel
theorem d_RF_leastFreeNumber_29 : decode b_RF_leastFreeNumber 29 = .ok (.ireturn, 1) := by decide +kernel
theorem d_RF_wallNumbered_0 : decode b_RF_wallNumbered 0 = .ok (.iload_n 1, 1) := by decide +kernel
theorem d_RF_wallNumbered_1 : decode b_RF_wallNumbered 1 = .ok (.invokestatic 29, 3) := by decide +kernel
theorem d_RF_wallNumbered_4 : decode b_RF_wallNumbered 4 = .ok (.ifCond .eq 12, 3) := by decide +kernel
theorem d_RF_wallNumbered_7 : decode b_RF_wallNumbered 7 = .ok (.aload_n 0, 1) := by decide +kernel
theorem d_RF_wallNumbered_8 : decode b_RF_wallNumbered 8 = .ok (.getfield 11, 3) := by decide +kernel
theorem d_RF_wallNumbered_11 : decode b_RF_wallNumbered 11 = .ok (.iload_n 1, 1) := by decide +kernel
theorem d_RF_wallNumbered_12 : decode b_RF_wallNumbered 12 = .ok (.aaload, 1) := by decide +kernel
theorem d_RF_wallNumbered_13 : decode b_RF_wallNumbered 13 = .ok (.goto 4, 3) := by decide +kernel
theorem d_RF_wallNumbered_16 : decode b_RF_wallNumbered 16 = .ok (.aconst_null, 1) := by decide +kernel
theorem d_RF_wallNumbered_17 : decode b_RF_wallNumbered 17 = .ok (.areturn, 1) := by decide +kernel
theorem d_RF_clashes_0 : decode b_RF_clashes 0 = .ok (.iconst 0, 1) := by decide +kernel
theorem d_RF_clashes_1 : decode b_RF_clashes 1 = .ok (.istore_n 2, 1) := by decide +kernel
theorem d_RF_clashes_2 : decode b_RF_clashes 2 = .ok (.iload_n 2, 1) := by decide +kernel
theorem d_RF_clashes_3 : decode b_RF_clashes 3 = .ok (.aload_n 0, 1) := by decide +kernel
theorem d_RF_clashes_4 : decode b_RF_clashes 4 = .ok (.getfield 11, 3) := by decide +kernel
theorem d_RF_clashes_7 : decode b_RF_clashes 7 = .ok (.arraylength, 1) := by decide +kernel
theorem d_RF_clashes_8 : decode b_RF_clashes 8 = .ok (.if_icmp .ge 30, 3) := by decide +kernel
theorem d_RF_clashes_11 : decode b_RF_clashes 11 = .ok (.aload_n 0, 1) := by decide +kernel
theorem d_RF_clashes_12 : decode b_RF_clashes 12 = .ok (.getfield 11, 3) := by decide +kernel
theorem d_RF_clashes_15 : decode b_RF_clashes 15 = .ok (.iload_n 2, 1) := by decide +kernel
theorem d_RF_clashes_16 : decode b_RF_clashes 16 = .ok (.aaload, 1) := by decide +kernel
theorem d_RF_clashes_17 : decode b_RF_clashes 17 = .ok (.astore_n 3, 1) := by decide +kernel
theorem d_RF_clashes_18 : decode b_RF_clashes 18 = .ok (.aload_n 3, 1) := by decide +kernel
theorem d_RF_clashes_19 : decode b_RF_clashes 19 = .ok (.ifnull 13, 3) := by decide +kernel
theorem d_RF_clashes_22 : decode b_RF_clashes 22 = .ok (.aload_n 1, 1) := by decide +kernel
theorem d_RF_clashes_23 : decode b_RF_clashes 23 = .ok (.aload_n 3, 1) := by decide +kernel
theorem d_RF_clashes_24 : decode b_RF_clashes 24 = .ok (.invokevirtual 115, 3) := by decide +kernel
theorem d_RF_clashes_27 : decode b_RF_clashes 27 = .ok (.ifCond .eq 5, 3) := by decide +kernel
theorem d_RF_clashes_30 : decode b_RF_clashes 30 = .ok (.iconst 1, 1) := by decide +kernel
theorem d_RF_clashes_31 : decode b_RF_clashes 31 = .ok (.ireturn, 1) := by decide +kernel
theorem d_RF_clashes_32 : decode b_RF_clashes 32 = .ok (.iinc 2 1, 3) := by decide +kernel
theorem d_RF_clashes_35 : decode b_RF_clashes 35 = .ok (.goto (-33), 3) := by decide +kernel
theorem d_RF_clashes_38 : decode b_RF_clashes 38 = .ok (.iconst 0, 1) := by decide +kernel
theorem d_RF_clashes_39 : decode b_RF_clashes 39 = .ok (.ireturn, 1) := by decide +kernel
theorem d_RF_meetingAt_0 : decode b_RF_meetingAt 0 = .ok (.iload_n 1, 1) := by decide +kernel
theorem d_RF_meetingAt_1 : decode b_RF_meetingAt 1 = .ok (.ifCond .lt 29, 3) := by decide +kernel
theorem d_RF_meetingAt_4 : decode b_RF_meetingAt 4 = .ok (.iload_n 1, 1) := by decide +kernel
theorem d_RF_meetingAt_5 : decode b_RF_meetingAt 5 = .ok (.aload_n 0, 1) := by decide +kernel
theorem d_RF_meetingAt_6 : decode b_RF_meetingAt 6 = .ok (.getfield 61, 3) := by decide +kernel
theorem d_RF_meetingAt_9 : decode b_RF_meetingAt 9 = .ok (.if_icmp .ge 21, 3) := by decide +kernel
theorem d_RF_meetingAt_12 : decode b_RF_meetingAt 12 = .ok (.iload_n 1, 1) := by decide +kernel
theorem d_RF_meetingAt_13 : decode b_RF_meetingAt 13 = .ok (.aload_n 0, 1) := by decide +kernel
theorem d_RF_meetingAt_14 : decode b_RF_meetingAt 14 = .ok (.getfield 17, 3) := by decide +kernel
theorem d_RF_meetingAt_17 : decode b_RF_meetingAt 17 = .ok (.arraylength, 1) := by decide +kernel
theorem d_RF_meetingAt_18 : decode b_RF_meetingAt 18 = .ok (.if_icmp .ge 12, 3) := by decide +kernel
theorem d_RF_meetingAt_21 : decode b_RF_meetingAt 21 = .ok (.aload_n 0, 1) := by decide +kernel
theorem d_RF_meetingAt_22 : decode b_RF_meetingAt 22 = .ok (.getfield 17, 3) := by decide +kernel
theorem d_RF_meetingAt_25 : decode b_RF_meetingAt 25 = .ok (.iload_n 1, 1) := by decide +kernel
theorem d_RF_meetingAt_26 : decode b_RF_meetingAt 26 = .ok (.aaload, 1) := by decide +kernel
theorem d_RF_meetingAt_27 : decode b_RF_meetingAt 27 = .ok (.goto 4, 3) := by decide +kernel
theorem d_RF_meetingAt_30 : decode b_RF_meetingAt 30 = .ok (.aconst_null, 1) := by decide +kernel
theorem d_RF_meetingAt_31 : decode b_RF_meetingAt 31 = .ok (.areturn, 1) := by decide +kernel
theorem d_RF_meetAgain_0 : decode b_RF_meetAgain 0 = .ok (.aload_n 0, 1) := by decide +kernel
theorem d_RF_meetAgain_1 : decode b_RF_meetAgain 1 = .ok (.iconst 0, 1) := by decide +kernel
theorem d_RF_meetAgain_2 : decode b_RF_meetAgain 2 = .ok (.putfield 61, 3) := by decide +kernel
theorem d_RF_meetAgain_5 : decode b_RF_meetAgain 5 = .ok (.aload_n 0, 1) := by decide +kernel
theorem d_RF_meetAgain_6 : decode b_RF_meetAgain 6 = .ok (.getfield 57, 3) := by decide +kernel
theorem d_RF_meetAgain_9 : decode b_RF_meetAgain 9 = .ok (.astore_n 1, 1) := by decide +kernel
theorem d_RF_meetAgain_10 : decode b_RF_meetAgain 10 = .ok (.aload_n 1, 1) := by decide +kernel
theorem d_RF_meetAgain_11 : decode b_RF_meetAgain 11 = .ok (.ifnonnull 4, 3) := by decide +kernel
theorem d_RF_meetAgain_14 : decode b_RF_meetAgain 14 = .ok (.return_, 1) := by decide +kernel
theorem d_RF_meetAgain_15 : decode b_RF_meetAgain 15 = .ok (.iconst 0, 1) := by decide +kernel
theorem d_RF_meetAgain_16 : decode b_RF_meetAgain 16 = .ok (.istore_n 2, 1) := by decide +kernel
theorem d_RF_meetAgain_17 : decode b_RF_meetAgain 17 = .ok (.iload_n 2, 1) := by decide +kernel
theorem d_RF_meetAgain_18 : decode b_RF_meetAgain 18 = .ok (.aload_n 0, 1) := by decide +kernel
theorem d_RF_meetAgain_19 : decode b_RF_meetAgain 19 = .ok (.getfield 11, 3) := by decide +kernel
theorem d_RF_meetAgain_22 : decode b_RF_meetAgain 22 = .ok (.arraylength, 1) := by decide +kernel
theorem d_RF_meetAgain_23 : decode b_RF_meetAgain 23 = .ok (.if_icmp .ge 39, 3) := by decide +kernel
theorem d_RF_meetAgain_26 : decode b_RF_meetAgain 26 = .ok (.aload_n 0, 1) := by decide +kernel
theorem d_RF_meetAgain_27 : decode b_RF_meetAgain 27 = .ok (.getfield 11, 3) := by decide +kernel
theorem d_RF_meetAgain_30 : decode b_RF_meetAgain 30 = .ok (.iload_n 2, 1) := by decide +kernel
theorem d_RF_meetAgain_31 : decode b_RF_meetAgain 31 = .ok (.aaload, 1) := by decide +kernel
theorem d_RF_meetAgain_32 : decode b_RF_meetAgain 32 = .ok (.astore_n 3, 1) := by decide +kernel
theorem d_RF_meetAgain_33 : decode b_RF_meetAgain 33 = .ok (.aload_n 3, 1) := by decide +kernel
theorem d_RF_meetAgain_34 : decode b_RF_meetAgain 34 = .ok (.ifnull 22, 3) := by decide +kernel
theorem d_RF_meetAgain_37 : decode b_RF_meetAgain 37 = .ok (.aload_n 0, 1) := by decide +kernel
theorem d_RF_meetAgain_38 : decode b_RF_meetAgain 38 = .ok (.getfield 61, 3) := by decide +kernel
theorem d_RF_meetAgain_41 : decode b_RF_meetAgain 41 = .ok (.aload_n 0, 1) := by decide +kernel
theorem d_RF_meetAgain_42 : decode b_RF_meetAgain 42 = .ok (.getfield 17, 3) := by decide +kernel
theorem d_RF_meetAgain_45 : decode b_RF_meetAgain 45 = .ok (.arraylength, 1) := by decide +kernel
theorem d_RF_meetAgain_46 : decode b_RF_meetAgain 46 = .ok (.if_icmp .ge 10, 3) := by decide +kernel
theorem d_RF_meetAgain_49 : decode b_RF_meetAgain 49 = .ok (.aload_n 0, 1) := by decide +kernel
theorem d_RF_meetAgain_50 : decode b_RF_meetAgain 50 = .ok (.iload_n 2, 1) := by decide +kernel
theorem d_RF_meetAgain_51 : decode b_RF_meetAgain 51 = .ok (.aload_n 3, 1) := by decide +kernel
theorem d_RF_meetAgain_52 : decode b_RF_meetAgain 52 = .ok (.aload_n 1, 1) := by decide +kernel
theorem d_RF_meetAgain_53 : decode b_RF_meetAgain 53 = .ok (.invokevirtual 118, 3) := by decide +kernel
theorem d_RF_meetAgain_56 : decode b_RF_meetAgain 56 = .ok (.iinc 2 1, 3) := by decide +kernel
theorem d_RF_meetAgain_59 : decode b_RF_meetAgain 59 = .ok (.goto (-42), 3) := by decide +kernel
theorem d_RF_meetAgain_62 : decode b_RF_meetAgain 62 = .ok (.return_, 1) := by decide +kernel
theorem d_RF_meetOne_0 : decode b_RF_meetOne 0 = .ok (.aload_n 0, 1) := by decide +kernel
theorem d_RF_meetOne_1 : decode b_RF_meetOne 1 = .ok (.getfield 17, 3) := by decide +kernel
theorem d_RF_meetOne_4 : decode b_RF_meetOne 4 = .ok (.aload_n 0, 1) := by decide +kernel
theorem d_RF_meetOne_5 : decode b_RF_meetOne 5 = .ok (.getfield 61, 3) := by decide +kernel
theorem d_RF_meetOne_8 : decode b_RF_meetOne 8 = .ok (.aaload, 1) := by decide +kernel
theorem d_RF_meetOne_9 : decode b_RF_meetOne 9 = .ok (.astore 4, 2) := by decide +kernel
theorem d_RF_meetOne_11 : decode b_RF_meetOne 11 = .ok (.aload 4, 2) := by decide +kernel
theorem d_RF_meetOne_13 : decode b_RF_meetOne 13 = .ok (.ifnonnull 23, 3) := by decide +kernel
theorem d_RF_meetOne_16 : decode b_RF_meetOne 16 = .ok (.new 15, 3) := by decide +kernel
theorem d_RF_meetOne_19 : decode b_RF_meetOne 19 = .ok (.dup, 1) := by decide +kernel
theorem d_RF_meetOne_20 : decode b_RF_meetOne 20 = .ok (.invokespecial 122, 3) := by decide +kernel
theorem d_RF_meetOne_23 : decode b_RF_meetOne 23 = .ok (.astore 4, 2) := by decide +kernel
theorem d_RF_meetOne_25 : decode b_RF_meetOne 25 = .ok (.aload_n 0, 1) := by decide +kernel
theorem d_RF_meetOne_26 : decode b_RF_meetOne 26 = .ok (.getfield 17, 3) := by decide +kernel
theorem d_RF_meetOne_29 : decode b_RF_meetOne 29 = .ok (.aload_n 0, 1) := by decide +kernel
theorem d_RF_meetOne_30 : decode b_RF_meetOne 30 = .ok (.getfield 61, 3) := by decide +kernel
theorem d_RF_meetOne_33 : decode b_RF_meetOne 33 = .ok (.aload 4, 2) := by decide +kernel
theorem d_RF_meetOne_35 : decode b_RF_meetOne 35 = .ok (.aastore, 1) := by decide +kernel
theorem d_RF_meetOne_36 : decode b_RF_meetOne 36 = .ok (.aload 4, 2) := by decide +kernel
theorem d_RF_meetOne_38 : decode b_RF_meetOne 38 = .ok (.iload_n 1, 1) := by decide +kernel
theorem d_RF_meetOne_39 : decode b_RF_meetOne 39 = .ok (.aload_n 2, 1) := by decide +kernel
theorem d_RF_meetOne_40 : decode b_RF_meetOne 40 = .ok (.aload_n 3, 1) := by decide +kernel
theorem d_RF_meetOne_41 : decode b_RF_meetOne 41 = .ok (.invokevirtual 123, 3) := by decide +kernel
theorem d_RF_meetOne_44 : decode b_RF_meetOne 44 = .ok (.ifCond .eq 9, 3) := by decide +kernel
theorem d_RF_meetOne_47 : decode b_RF_meetOne 47 = .ok (.aload_n 0, 1) := by decide +kernel
theorem d_RF_meetOne_48 : decode b_RF_meetOne 48 = .ok (.aload 4, 2) := by decide +kernel
theorem d_RF_meetOne_50 : decode b_RF_meetOne 50 = .ok (.invokevirtual 127, 3) := by decide +kernel
theorem d_RF_meetOne_53 : decode b_RF_meetOne 53 = .ok (.return_, 1) := by decide +kernel
theorem d_RF_sortIn_0 : decode b_RF_sortIn 0 = .ok (.aload_n 0, 1) := by decide +kernel
theorem d_RF_sortIn_1 : decode b_RF_sortIn 1 = .ok (.getfield 61, 3) := by decide +kernel
theorem d_RF_sortIn_4 : decode b_RF_sortIn 4 = .ok (.istore_n 2, 1) := by decide +kernel
theorem d_RF_sortIn_5 : decode b_RF_sortIn 5 = .ok (.iload_n 2, 1) := by decide +kernel
theorem d_RF_sortIn_6 : decode b_RF_sortIn 6 = .ok (.ifCond .le 40, 3) := by decide +kernel
theorem d_RF_sortIn_9 : decode b_RF_sortIn 9 = .ok (.aload_n 0, 1) := by decide +kernel
theorem d_RF_sortIn_10 : decode b_RF_sortIn 10 = .ok (.getfield 17, 3) := by decide +kernel
theorem d_RF_sortIn_13 : decode b_RF_sortIn 13 = .ok (.iload_n 2, 1) := by decide +kernel
theorem d_RF_sortIn_14 : decode b_RF_sortIn 14 = .ok (.iconst 1, 1) := by decide +kernel
theorem d_RF_sortIn_15 : decode b_RF_sortIn 15 = .ok (.isub, 1) := by decide +kernel
theorem d_RF_sortIn_16 : decode b_RF_sortIn 16 = .ok (.aaload, 1) := by decide +kernel
theorem d_RF_sortIn_17 : decode b_RF_sortIn 17 = .ok (.astore_n 3, 1) := by decide +kernel
theorem d_RF_sortIn_18 : decode b_RF_sortIn 18 = .ok (.aload_n 3, 1) := by decide +kernel
theorem d_RF_sortIn_19 : decode b_RF_sortIn 19 = .ok (.ifnull 27, 3) := by decide +kernel
theorem d_RF_sortIn_22 : decode b_RF_sortIn 22 = .ok (.aload_n 1, 1) := by decide +kernel
theorem d_RF_sortIn_23 : decode b_RF_sortIn 23 = .ok (.aload_n 3, 1) := by decide +kernel
theorem d_RF_sortIn_24 : decode b_RF_sortIn 24 = .ok (.invokevirtual 131, 3) := by decide +kernel
theorem d_RF_sortIn_27 : decode b_RF_sortIn 27 = .ok (.ifCond .ne 6, 3) := by decide +kernel
theorem d_RF_sortIn_30 : decode b_RF_sortIn 30 = .ok (.goto 16, 3) := by decide +kernel
theorem d_RF_sortIn_33 : decode b_RF_sortIn 33 = .ok (.aload_n 0, 1) := by decide +kernel
theorem d_RF_sortIn_34 : decode b_RF_sortIn 34 = .ok (.getfield 17, 3) := by decide +kernel
theorem d_RF_sortIn_37 : decode b_RF_sortIn 37 = .ok (.iload_n 2, 1) := by decide +kernel
theorem d_RF_sortIn_38 : decode b_RF_sortIn 38 = .ok (.aload_n 3, 1) := by decide +kernel
theorem d_RF_sortIn_39 : decode b_RF_sortIn 39 = .ok (.aastore, 1) := by decide +kernel
theorem d_RF_sortIn_40 : decode b_RF_sortIn 40 = .ok (.iinc 2 (-1), 3) := by decide +kernel
theorem d_RF_sortIn_43 : decode b_RF_sortIn 43 = .ok (.goto (-38), 3) := by decide +kernel
theorem d_RF_sortIn_46 : decode b_RF_sortIn 46 = .ok (.aload_n 0, 1) := by decide +kernel
theorem d_RF_sortIn_47 : decode b_RF_sortIn 47 = .ok (.getfield 17, 3) := by decide +kernel
theorem d_RF_sortIn_50 : decode b_RF_sortIn 50 = .ok (.iload_n 2, 1) := by decide +kernel
theorem d_RF_sortIn_51 : decode b_RF_sortIn 51 = .ok (.aload_n 1, 1) := by decide +kernel
theorem d_RF_sortIn_52 : decode b_RF_sortIn 52 = .ok (.aastore, 1) := by decide +kernel
theorem d_RF_sortIn_53 : decode b_RF_sortIn 53 = .ok (.aload_n 0, 1) := by decide +kernel
theorem d_RF_sortIn_54 : decode b_RF_sortIn 54 = .ok (.dup, 1) := by decide +kernel
theorem d_RF_sortIn_55 : decode b_RF_sortIn 55 = .ok (.getfield 61, 3) := by decide +kernel
theorem d_RF_sortIn_58 : decode b_RF_sortIn 58 = .ok (.iconst 1, 1) := by decide +kernel
theorem d_RF_sortIn_59 : decode b_RF_sortIn 59 = .ok (.iadd, 1) := by decide +kernel
theorem d_RF_sortIn_60 : decode b_RF_sortIn 60 = .ok (.putfield 61, 3) := by decide +kernel
theorem d_RF_sortIn_63 : decode b_RF_sortIn 63 = .ok (.return_, 1) := by decide +kernel
theorem d_RF_isNumber_0 : decode b_RF_isNumber 0 = .ok (.iload_n 0, 1) := by decide +kernel
theorem d_RF_isNumber_1 : decode b_RF_isNumber 1 = .ok (.iconst 0, 1) := by decide +kernel
theorem d_RF_isNumber_2 : decode b_RF_isNumber 2 = .ok (.bipush 63, 2) := by decide +kernel
theorem d_RF_isNumber_4 : decode b_RF_isNumber 4 = .ok (.invokestatic 76, 3) := by decide +kernel
theorem d_RF_isNumber_7 : decode b_RF_isNumber 7 = .ok (.ireturn, 1) := by decide +kernel
theorem d_RF_isPlace_0 : decode b_RF_isPlace 0 = .ok (.iload_n 0, 1) := by decide +kernel
theorem d_RF_isPlace_1 : decode b_RF_isPlace 1 = .ok (.iload_n 2, 1) := by decide +kernel
theorem d_RF_isPlace_2 : decode b_RF_isPlace 2 = .ok (.ineg, 1) := by decide +kernel
theorem d_RF_isPlace_3 : decode b_RF_isPlace 3 = .ok (.iload_n 2, 1) := by decide +kernel
theorem d_RF_isPlace_4 : decode b_RF_isPlace 4 = .ok (.invokestatic 76, 3) := by decide +kernel
theorem d_RF_isPlace_7 : decode b_RF_isPlace 7 = .ok (.ifCond .eq 17, 3) := by decide +kernel
theorem d_RF_isPlace_10 : decode b_RF_isPlace 10 = .ok (.iload_n 1, 1) := by decide +kernel
theorem d_RF_isPlace_11 : decode b_RF_isPlace 11 = .ok (.iload_n 2, 1) := by decide +kernel
theorem d_RF_isPlace_12 : decode b_RF_isPlace 12 = .ok (.ineg, 1) := by decide +kernel
theorem d_RF_isPlace_13 : decode b_RF_isPlace 13 = .ok (.iload_n 2, 1) := by decide +kernel
theorem d_RF_isPlace_14 : decode b_RF_isPlace 14 = .ok (.invokestatic 76, 3) := by decide +kernel
theorem d_RF_isPlace_17 : decode b_RF_isPlace 17 = .ok (.ifCond .eq 7, 3) := by decide +kernel
theorem d_RF_isPlace_20 : decode b_RF_isPlace 20 = .ok (.iconst 1, 1) := by decide +kernel
theorem d_RF_isPlace_21 : decode b_RF_isPlace 21 = .ok (.goto 4, 3) := by decide +kernel
theorem d_RF_isPlace_24 : decode b_RF_isPlace 24 = .ok (.iconst 0, 1) := by decide +kernel
theorem d_RF_isPlace_25 : decode b_RF_isPlace 25 = .ok (.ireturn, 1) := by decide +kernel
theorem d_RF_isBetween_0 : decode b_RF_isBetween 0 = .ok (.iload_n 0, 1) := by decide +kernel
theorem d_RF_isBetween_1 : decode b_RF_isBetween 1 = .ok (.iload_n 1, 1) := by decide +kernel
theorem d_RF_isBetween_2 : decode b_RF_isBetween 2 = .ok (.if_icmp .lt 12, 3) := by decide +kernel
theorem d_RF_isBetween_5 : decode b_RF_isBetween 5 = .ok (.iload_n 0, 1) := by decide +kernel
theorem d_RF_isBetween_6 : decode b_RF_isBetween 6 = .ok (.iload_n 2, 1) := by decide +kernel
theorem d_RF_isBetween_7 : decode b_RF_isBetween 7 = .ok (.if_icmp .gt 7, 3) := by decide +kernel
theorem d_RF_isBetween_10 : decode b_RF_isBetween 10 = .ok (.iconst 1, 1) := by decide +kernel
theorem d_RF_isBetween_11 : decode b_RF_isBetween 11 = .ok (.goto 4, 3) := by decide +kernel
theorem d_RF_isBetween_14 : decode b_RF_isBetween 14 = .ok (.iconst 0, 1) := by decide +kernel
theorem d_RF_isBetween_15 : decode b_RF_isBetween 15 = .ok (.ireturn, 1) := by decide +kernel
theorem d_RF_cross_0 : decode b_RF_cross 0 = .ok (.lload_n 0, 1) := by decide +kernel
theorem d_RF_cross_1 : decode b_RF_cross 1 = .ok (.lload 6, 2) := by decide +kernel
theorem d_RF_cross_3 : decode b_RF_cross 3 = .ok (.lmul, 1) := by decide +kernel
theorem d_RF_cross_4 : decode b_RF_cross 4 = .ok (.lload_n 2, 1) := by decide +kernel
theorem d_RF_cross_5 : decode b_RF_cross 5 = .ok (.lload 4, 2) := by decide +kernel
theorem d_RF_cross_7 : decode b_RF_cross 7 = .ok (.lmul, 1) := by decide +kernel
theorem d_RF_cross_8 : decode b_RF_cross 8 = .ok (.lsub, 1) := by decide +kernel
theorem d_RF_cross_9 : decode b_RF_cross 9 = .ok (.lreturn, 1) := by decide +kernel
theorem d_Meeting_init_0 : decode b_Meeting_init 0 = .ok (.aload_n 0, 1) := by decide +kernel
theorem d_Meeting_init_1 : decode b_Meeting_init 1 = .ok (.invokespecial 3, 3) := by decide +kernel
theorem d_Meeting_init_4 : decode b_Meeting_init 4 = .ok (.return_, 1) := by decide +kernel
theorem d_Meeting_fill_0 : decode b_Meeting_fill 0 = .ok (.aload_n 3, 1) := by decide +kernel
theorem d_Meeting_fill_1 : decode b_Meeting_fill 1 = .ok (.aload_n 2, 1) := by decide +kernel
theorem d_Meeting_fill_2 : decode b_Meeting_fill 2 = .ok (.getfield 9, 3) := by decide +kernel
theorem d_Meeting_fill_5 : decode b_Meeting_fill 5 = .ok (.aload_n 2, 1) := by decide +kernel
theorem d_Meeting_fill_6 : decode b_Meeting_fill 6 = .ok (.getfield 15, 3) := by decide +kernel
theorem d_Meeting_fill_9 : decode b_Meeting_fill 9 = .ok (.invokevirtual 18, 3) := by decide +kernel
theorem d_Meeting_fill_12 : decode b_Meeting_fill 12 = .ok (.lstore 4, 2) := by decide +kernel
theorem d_Meeting_fill_14 : decode b_Meeting_fill 14 = .ok (.aload_n 3, 1) := by decide +kernel
theorem d_Meeting_fill_15 : decode b_Meeting_fill 15 = .ok (.aload_n 2, 1) := by decide +kernel
theorem d_Meeting_fill_16 : decode b_Meeting_fill 16 = .ok (.getfield 24, 3) := by decide +kernel
theorem d_Meeting_fill_19 : decode b_Meeting_fill 19 = .ok (.aload_n 2, 1) := by decide +kernel
theorem d_Meeting_fill_20 : decode b_Meeting_fill 20 = .ok (.getfield 27, 3) := by decide +kernel
theorem d_Meeting_fill_23 : decode b_Meeting_fill 23 = .ok (.invokevirtual 18, 3) := by decide +kernel
theorem d_Meeting_fill_26 : decode b_Meeting_fill 26 = .ok (.lstore 6, 2) := by decide +kernel
theorem d_Meeting_fill_28 : decode b_Meeting_fill 28 = .ok (.lload 4, 2) := by decide +kernel
theorem d_Meeting_fill_30 : decode b_Meeting_fill 30 = .ok (.lconst 0, 1) := by decide +kernel
theorem d_Meeting_fill_31 : decode b_Meeting_fill 31 = .ok (.lcmp, 1) := by decide +kernel
theorem d_Meeting_fill_32 : decode b_Meeting_fill 32 = .ok (.ifCond .ge 7, 3) := by decide +kernel
theorem d_Meeting_fill_35 : decode b_Meeting_fill 35 = .ok (.iconst 1, 1) := by decide +kernel
theorem d_Meeting_fill_36 : decode b_Meeting_fill 36 = .ok (.goto 4, 3) := by decide +kernel
theorem d_Meeting_fill_39 : decode b_Meeting_fill 39 = .ok (.iconst 0, 1) := by decide +kernel
theorem d_Meeting_fill_40 : decode b_Meeting_fill 40 = .ok (.lload 6, 2) := by decide +kernel
theorem d_Meeting_fill_42 : decode b_Meeting_fill 42 = .ok (.lconst 0, 1) := by decide +kernel
theorem d_Meeting_fill_43 : decode b_Meeting_fill 43 = .ok (.lcmp, 1) := by decide +kernel
theorem d_Meeting_fill_44 : decode b_Meeting_fill 44 = .ok (.ifCond .ge 7, 3) := by decide +kernel
theorem d_Meeting_fill_47 : decode b_Meeting_fill 47 = .ok (.iconst 1, 1) := by decide +kernel
theorem d_Meeting_fill_48 : decode b_Meeting_fill 48 = .ok (.goto 4, 3) := by decide +kernel
theorem d_Meeting_fill_51 : decode b_Meeting_fill 51 = .ok (.iconst 0, 1) := by decide +kernel
theorem d_Meeting_fill_52 : decode b_Meeting_fill 52 = .ok (.if_icmp .ne 5, 3) := by decide +kernel
theorem d_Meeting_fill_55 : decode b_Meeting_fill 55 = .ok (.iconst 0, 1) := by decide +kernel
theorem d_Meeting_fill_56 : decode b_Meeting_fill 56 = .ok (.ireturn, 1) := by decide +kernel
theorem d_Meeting_fill_57 : decode b_Meeting_fill 57 = .ok (.aload_n 2, 1) := by decide +kernel
theorem d_Meeting_fill_58 : decode b_Meeting_fill 58 = .ok (.aload_n 3, 1) := by decide +kernel
theorem d_Meeting_fill_59 : decode b_Meeting_fill 59 = .ok (.getfield 30, 3) := by decide +kernel
theorem d_Meeting_fill_62 : decode b_Meeting_fill 62 = .ok (.aload_n 3, 1) := by decide +kernel
theorem d_Meeting_fill_63 : decode b_Meeting_fill 63 = .ok (.getfield 33, 3) := by decide +kernel
theorem d_Meeting_fill_66 : decode b_Meeting_fill 66 = .ok (.invokevirtual 36, 3) := by decide +kernel
theorem d_Meeting_fill_69 : decode b_Meeting_fill 69 = .ok (.lstore 8, 2) := by decide +kernel
theorem d_Meeting_fill_71 : decode b_Meeting_fill 71 = .ok (.lload 6, 2) := by decide +kernel
theorem d_Meeting_fill_73 : decode b_Meeting_fill 73 = .ok (.lload 4, 2) := by decide +kernel
theorem d_Meeting_fill_75 : decode b_Meeting_fill 75 = .ok (.lsub, 1) := by decide +kernel
theorem d_Meeting_fill_76 : decode b_Meeting_fill 76 = .ok (.lstore 10, 2) := by decide +kernel
theorem d_Meeting_fill_78 : decode b_Meeting_fill 78 = .ok (.lload 8, 2) := by decide +kernel
theorem d_Meeting_fill_80 : decode b_Meeting_fill 80 = .ok (.lconst 0, 1) := by decide +kernel
theorem d_Meeting_fill_81 : decode b_Meeting_fill 81 = .ok (.lcmp, 1) := by decide +kernel
theorem d_Meeting_fill_82 : decode b_Meeting_fill 82 = .ok (.ifCond .eq 30, 3) := by decide +kernel
theorem d_Meeting_fill_85 : decode b_Meeting_fill 85 = .ok (.lload 8, 2) := by decide +kernel
theorem d_Meeting_fill_87 : decode b_Meeting_fill 87 = .ok (.lconst 0, 1) := by decide +kernel
theorem d_Meeting_fill_88 : decode b_Meeting_fill 88 = .ok (.lcmp, 1) := by decide +kernel
theorem d_Meeting_fill_89 : decode b_Meeting_fill 89 = .ok (.ifCond .ge 7, 3) := by decide +kernel
theorem d_Meeting_fill_92 : decode b_Meeting_fill 92 = .ok (.iconst 1, 1) := by decide +kernel
theorem d_Meeting_fill_93 : decode b_Meeting_fill 93 = .ok (.goto 4, 3) := by decide +kernel
theorem d_Meeting_fill_96 : decode b_Meeting_fill 96 = .ok (.iconst 0, 1) := by decide +kernel
theorem d_Meeting_fill_97 : decode b_Meeting_fill 97 = .ok (.lload 10, 2) := by decide +kernel
theorem d_Meeting_fill_99 : decode b_Meeting_fill 99 = .ok (.lconst 0, 1) := by decide +kernel
theorem d_Meeting_fill_100 : decode b_Meeting_fill 100 = .ok (.lcmp, 1) := by decide +kernel
theorem d_Meeting_fill_101 : decode b_Meeting_fill 101 = .ok (.ifCond .ge 7, 3) := by decide +kernel
theorem d_Meeting_fill_104 : decode b_Meeting_fill 104 = .ok (.iconst 1, 1) := by decide +kernel
theorem d_Meeting_fill_105 : decode b_Meeting_fill 105 = .ok (.goto 4, 3) := by decide +kernel
theorem d_Meeting_fill_108 : decode b_Meeting_fill 108 = .ok (.iconst 0, 1) := by decide +kernel
theorem d_Meeting_fill_109 : decode b_Meeting_fill 109 = .ok (.if_icmp .eq 5, 3) := by decide +kernel
theorem d_Meeting_fill_112 : decode b_Meeting_fill 112 = .ok (.iconst 0, 1) := by decide +kernel
theorem d_Meeting_fill_113 : decode b_Meeting_fill 113 = .ok (.ireturn, 1) := by decide +kernel
theorem d_Meeting_fill_114 : decode b_Meeting_fill 114 = .ok (.aload_n 0, 1) := by decide +kernel
theorem d_Meeting_fill_115 : decode b_Meeting_fill 115 = .ok (.iload_n 1, 1) := by decide +kernel
theorem d_Meeting_fill_116 : decode b_Meeting_fill 116 = .ok (.putfield 37, 3) := by decide +kernel
theorem d_Meeting_fill_119 : decode b_Meeting_fill 119 = .ok (.aload_n 0, 1) := by decide +kernel
theorem d_Meeting_fill_120 : decode b_Meeting_fill 120 = .ok (.lload 8, 2) := by decide +kernel
theorem d_Meeting_fill_122 : decode b_Meeting_fill 122 = .ok (.lconst 0, 1) := by decide +kernel
theorem d_Meeting_fill_123 : decode b_Meeting_fill 123 = .ok (.lcmp, 1) := by decide +kernel
theorem d_Meeting_fill_124 : decode b_Meeting_fill 124 = .ok (.ifCond .ge 7, 3) := by decide +kernel
theorem d_Meeting_fill_127 : decode b_Meeting_fill 127 = .ok (.iconst 1, 1) := by decide +kernel
theorem d_Meeting_fill_128 : decode b_Meeting_fill 128 = .ok (.goto 4, 3) := by decide +kernel
theorem d_Meeting_fill_131 : decode b_Meeting_fill 131 = .ok (.iconst 0, 1) := by decide +kernel
theorem d_Meeting_fill_132 : decode b_Meeting_fill 132 = .ok (.putfield 42, 3) := by decide +kernel
theorem d_Meeting_fill_135 : decode b_Meeting_fill 135 = .ok (.aload_n 0, 1) := by decide +kernel
theorem d_Meeting_fill_136 : decode b_Meeting_fill 136 = .ok (.lload 8, 2) := by decide +kernel
theorem d_Meeting_fill_138 : decode b_Meeting_fill 138 = .ok (.invokestatic 46, 3) := by decide +kernel
theorem d_Meeting_fill_141 : decode b_Meeting_fill 141 = .ok (.putfield 52, 3) := by decide +kernel
theorem d_Meeting_fill_144 : decode b_Meeting_fill 144 = .ok (.aload_n 0, 1) := by decide +kernel
theorem d_Meeting_fill_145 : decode b_Meeting_fill 145 = .ok (.lload 4, 2) := by decide +kernel
theorem d_Meeting_fill_147 : decode b_Meeting_fill 147 = .ok (.invokestatic 46, 3) := by decide +kernel
theorem d_Meeting_fill_150 : decode b_Meeting_fill 150 = .ok (.putfield 56, 3) := by decide +kernel
theorem d_Meeting_fill_153 : decode b_Meeting_fill 153 = .ok (.aload_n 0, 1) := by decide +kernel
theorem d_Meeting_fill_154 : decode b_Meeting_fill 154 = .ok (.lload 10, 2) := by decide +kernel
theorem d_Meeting_fill_156 : decode b_Meeting_fill 156 = .ok (.invokestatic 46, 3) := by decide +kernel
theorem d_Meeting_fill_159 : decode b_Meeting_fill 159 = .ok (.putfield 59, 3) := by decide +kernel
theorem d_Meeting_fill_162 : decode b_Meeting_fill 162 = .ok (.iconst 1, 1) := by decide +kernel
theorem d_Meeting_fill_163 : decode b_Meeting_fill 163 = .ok (.ireturn, 1) := by decide +kernel
theorem d_Meeting_isNearerThan_0 : decode b_Meeting_isNearerThan 0 = .ok (.aload_n 0, 1) := by decide +kernel
theorem d_Meeting_isNearerThan_1 : decode b_Meeting_isNearerThan 1 = .ok (.getfield 52, 3) := by decide +kernel
theorem d_Meeting_isNearerThan_4 : decode b_Meeting_isNearerThan 4 = .ok (.aload_n 1, 1) := by decide +kernel
theorem d_Meeting_isNearerThan_5 : decode b_Meeting_isNearerThan 5 = .ok (.getfield 59, 3) := by decide +kernel
theorem d_Meeting_isNearerThan_8 : decode b_Meeting_isNearerThan 8 = .ok (.lmul, 1) := by decide +kernel
theorem d_Meeting_isNearerThan_9 : decode b_Meeting_isNearerThan 9 = .ok (.aload_n 1, 1) := by decide +kernel
theorem d_Meeting_isNearerThan_10 : decode b_Meeting_isNearerThan 10 = .ok (.getfield 52, 3) := by decide +kernel
theorem d_Meeting_isNearerThan_13 : decode b_Meeting_isNearerThan 13 = .ok (.aload_n 0, 1) := by decide +kernel
theorem d_Meeting_isNearerThan_14 : decode b_Meeting_isNearerThan 14 = .ok (.getfield 59, 3) := by decide +kernel
theorem d_Meeting_isNearerThan_17 : decode b_Meeting_isNearerThan 17 = .ok (.lmul, 1) := by decide +kernel
theorem d_Meeting_isNearerThan_18 : decode b_Meeting_isNearerThan 18 = .ok (.lcmp, 1) := by decide +kernel
theorem d_Meeting_isNearerThan_19 : decode b_Meeting_isNearerThan 19 = .ok (.ifCond .ge 7, 3) := by decide +kernel
theorem d_Meeting_isNearerThan_22 : decode b_Meeting_isNearerThan 22 = .ok (.iconst 1, 1) := by decide +kernel
theorem d_Meeting_isNearerThan_23 : decode b_Meeting_isNearerThan 23 = .ok (.goto 4, 3) := by decide +kernel
theorem d_Meeting_isNearerThan_26 : decode b_Meeting_isNearerThan 26 = .ok (.iconst 0, 1) := by decide +kernel
theorem d_Meeting_isNearerThan_27 : decode b_Meeting_isNearerThan 27 = .ok (.ireturn, 1) := by decide +kernel
theorem d_Meeting_isAtMost_0 : decode b_Meeting_isAtMost 0 = .ok (.aload_n 0, 1) := by decide +kernel
theorem d_Meeting_isAtMost_1 : decode b_Meeting_isAtMost 1 = .ok (.getfield 52, 3) := by decide +kernel
theorem d_Meeting_isAtMost_4 : decode b_Meeting_isAtMost 4 = .ok (.lload_n 3, 1) := by decide +kernel
theorem d_Meeting_isAtMost_5 : decode b_Meeting_isAtMost 5 = .ok (.lmul, 1) := by decide +kernel
theorem d_Meeting_isAtMost_6 : decode b_Meeting_isAtMost 6 = .ok (.lload_n 1, 1) := by decide +kernel
theorem d_Meeting_isAtMost_7 : decode b_Meeting_isAtMost 7 = .ok (.aload_n 0, 1) := by decide +kernel
theorem d_Meeting_isAtMost_8 : decode b_Meeting_isAtMost 8 = .ok (.getfield 59, 3) := by decide +kernel
theorem d_Meeting_isAtMost_11 : decode b_Meeting_isAtMost 11 = .ok (.lmul, 1) := by decide +kernel
theorem d_Meeting_isAtMost_12 : decode b_Meeting_isAtMost 12 = .ok (.lcmp, 1) := by decide +kernel
theorem d_Meeting_isAtMost_13 : decode b_Meeting_isAtMost 13 = .ok (.ifCond .gt 7, 3) := by decide +kernel
theorem d_Meeting_isAtMost_16 : decode b_Meeting_isAtMost 16 = .ok (.iconst 1, 1) := by decide +kernel
theorem d_Meeting_isAtMost_17 : decode b_Meeting_isAtMost 17 = .ok (.goto 4, 3) := by decide +kernel
theorem d_Meeting_isAtMost_20 : decode b_Meeting_isAtMost 20 = .ok (.iconst 0, 1) := by decide +kernel
theorem d_Meeting_isAtMost_21 : decode b_Meeting_isAtMost 21 = .ok (.ireturn, 1) := by decide +kernel
theorem d_Meeting_roundedDown_0 : decode b_Meeting_roundedDown 0 = .ok (.aload_n 0, 1) := by decide +kernel
theorem d_Meeting_roundedDown_1 : decode b_Meeting_roundedDown 1 = .ok (.getfield 59, 3) := by decide +kernel
theorem d_Meeting_roundedDown_4 : decode b_Meeting_roundedDown 4 = .ok (.lconst 0, 1) := by decide +kernel
theorem d_Meeting_roundedDown_5 : decode b_Meeting_roundedDown 5 = .ok (.lcmp, 1) := by decide +kernel
theorem d_Meeting_roundedDown_6 : decode b_Meeting_roundedDown 6 = .ok (.ifCond .le 14, 3) := by decide +kernel
theorem d_Meeting_roundedDown_9 : decode b_Meeting_roundedDown 9 = .ok (.lload_n 1, 1) := by decide +kernel
theorem d_Meeting_roundedDown_10 : decode b_Meeting_roundedDown 10 = .ok (.aload_n 0, 1) := by decide +kernel
theorem d_Meeting_roundedDown_11 : decode b_Meeting_roundedDown 11 = .ok (.getfield 59, 3) := by decide +kernel
theorem d_Meeting_roundedDown_14 : decode b_Meeting_roundedDown 14 = .ok (.invokestatic 62, 3) := by decide +kernel
theorem d_Meeting_roundedDown_17 : decode b_Meeting_roundedDown 17 = .ok (.goto 6, 3) := by decide +kernel
theorem d_Meeting_roundedDown_20 : decode b_Meeting_roundedDown 20 = .ok (.ldc2_w 66, 3) := by decide +kernel
theorem d_Meeting_roundedDown_23 : decode b_Meeting_roundedDown 23 = .ok (.lreturn, 1) := by decide +kernel
theorem d_Ray_init_0 : decode b_Ray_init 0 = .ok (.aload_n 0, 1) := by decide +kernel
theorem d_Ray_init_1 : decode b_Ray_init 1 = .ok (.invokespecial 1, 3) := by decide +kernel
theorem d_Ray_init_4 : decode b_Ray_init 4 = .ok (.aload_n 0, 1) := by decide +kernel
theorem d_Ray_init_5 : decode b_Ray_init 5 = .ok (.iload_n 1, 1) := by decide +kernel
theorem d_Ray_init_6 : decode b_Ray_init 6 = .ok (.putfield 7, 3) := by decide +kernel
theorem d_Ray_init_9 : decode b_Ray_init 9 = .ok (.aload_n 0, 1) := by decide +kernel
theorem d_Ray_init_10 : decode b_Ray_init 10 = .ok (.iload_n 2, 1) := by decide +kernel
theorem d_Ray_init_11 : decode b_Ray_init 11 = .ok (.putfield 13, 3) := by decide +kernel
theorem d_Ray_init_14 : decode b_Ray_init 14 = .ok (.aload_n 0, 1) := by decide +kernel
theorem d_Ray_init_15 : decode b_Ray_init 15 = .ok (.iload_n 3, 1) := by decide +kernel
theorem d_Ray_init_16 : decode b_Ray_init 16 = .ok (.putfield 16, 3) := by decide +kernel
theorem d_Ray_init_19 : decode b_Ray_init 19 = .ok (.aload_n 0, 1) := by decide +kernel
theorem d_Ray_init_20 : decode b_Ray_init 20 = .ok (.iload 4, 2) := by decide +kernel
theorem d_Ray_init_22 : decode b_Ray_init 22 = .ok (.putfield 19, 3) := by decide +kernel
theorem d_Ray_init_25 : decode b_Ray_init 25 = .ok (.return_, 1) := by decide +kernel
theorem d_Ray_side_0 : decode b_Ray_side 0 = .ok (.aload_n 0, 1) := by decide +kernel
theorem d_Ray_side_1 : decode b_Ray_side 1 = .ok (.getfield 16, 3) := by decide +kernel
theorem d_Ray_side_4 : decode b_Ray_side 4 = .ok (.i2l, 1) := by decide +kernel
theorem d_Ray_side_5 : decode b_Ray_side 5 = .ok (.aload_n 0, 1) := by decide +kernel
theorem d_Ray_side_6 : decode b_Ray_side 6 = .ok (.getfield 19, 3) := by decide +kernel
theorem d_Ray_side_9 : decode b_Ray_side 9 = .ok (.i2l, 1) := by decide +kernel
theorem d_Ray_side_10 : decode b_Ray_side 10 = .ok (.iload_n 1, 1) := by decide +kernel
theorem d_Ray_side_11 : decode b_Ray_side 11 = .ok (.aload_n 0, 1) := by decide +kernel
theorem d_Ray_side_12 : decode b_Ray_side 12 = .ok (.getfield 7, 3) := by decide +kernel
theorem d_Ray_side_15 : decode b_Ray_side 15 = .ok (.isub, 1) := by decide +kernel
theorem d_Ray_side_16 : decode b_Ray_side 16 = .ok (.i2l, 1) := by decide +kernel
theorem d_Ray_side_17 : decode b_Ray_side 17 = .ok (.iload_n 2, 1) := by decide +kernel
theorem d_Ray_side_18 : decode b_Ray_side 18 = .ok (.aload_n 0, 1) := by decide +kernel
theorem d_Ray_side_19 : decode b_Ray_side 19 = .ok (.getfield 13, 3) := by decide +kernel
theorem d_Ray_side_22 : decode b_Ray_side 22 = .ok (.isub, 1) := by decide +kernel
theorem d_Ray_side_23 : decode b_Ray_side 23 = .ok (.i2l, 1) := by decide +kernel
theorem d_Ray_side_24 : decode b_Ray_side 24 = .ok (.invokestatic 22, 3) := by decide +kernel
theorem d_Ray_side_27 : decode b_Ray_side 27 = .ok (.lreturn, 1) := by decide +kernel
theorem d_Wall_init_0 : decode b_Wall_init 0 = .ok (.aload_n 0, 1) := by decide +kernel
theorem d_Wall_init_1 : decode b_Wall_init 1 = .ok (.invokespecial 1, 3) := by decide +kernel
theorem d_Wall_init_4 : decode b_Wall_init 4 = .ok (.aload_n 0, 1) := by decide +kernel
theorem d_Wall_init_5 : decode b_Wall_init 5 = .ok (.iload_n 1, 1) := by decide +kernel
theorem d_Wall_init_6 : decode b_Wall_init 6 = .ok (.putfield 7, 3) := by decide +kernel
theorem d_Wall_init_9 : decode b_Wall_init 9 = .ok (.aload_n 0, 1) := by decide +kernel
theorem d_Wall_init_10 : decode b_Wall_init 10 = .ok (.iload_n 2, 1) := by decide +kernel
theorem d_Wall_init_11 : decode b_Wall_init 11 = .ok (.putfield 13, 3) := by decide +kernel
theorem d_Wall_init_14 : decode b_Wall_init 14 = .ok (.aload_n 0, 1) := by decide +kernel
theorem d_Wall_init_15 : decode b_Wall_init 15 = .ok (.iload_n 3, 1) := by decide +kernel
theorem d_Wall_init_16 : decode b_Wall_init 16 = .ok (.putfield 16, 3) := by decide +kernel
theorem d_Wall_init_19 : decode b_Wall_init 19 = .ok (.aload_n 0, 1) := by decide +kernel
theorem d_Wall_init_20 : decode b_Wall_init 20 = .ok (.iload 4, 2) := by decide +kernel
theorem d_Wall_init_22 : decode b_Wall_init 22 = .ok (.putfield 19, 3) := by decide +kernel
theorem d_Wall_init_25 : decode b_Wall_init 25 = .ok (.return_, 1) := by decide +kernel
theorem d_Wall_exchangeEnds_0 : decode b_Wall_exchangeEnds 0 = .ok (.aload_n 0, 1) := by decide +kernel
theorem d_Wall_exchangeEnds_1 : decode b_Wall_exchangeEnds 1 = .ok (.getfield 7, 3) := by decide +kernel
theorem d_Wall_exchangeEnds_4 : decode b_Wall_exchangeEnds 4 = .ok (.istore_n 1, 1) := by decide +kernel
theorem d_Wall_exchangeEnds_5 : decode b_Wall_exchangeEnds 5 = .ok (.aload_n 0, 1) := by decide +kernel
theorem d_Wall_exchangeEnds_6 : decode b_Wall_exchangeEnds 6 = .ok (.getfield 13, 3) := by decide +kernel
theorem d_Wall_exchangeEnds_9 : decode b_Wall_exchangeEnds 9 = .ok (.istore_n 2, 1) := by decide +kernel
theorem d_Wall_exchangeEnds_10 : decode b_Wall_exchangeEnds 10 = .ok (.aload_n 0, 1) := by decide +kernel
theorem d_Wall_exchangeEnds_11 : decode b_Wall_exchangeEnds 11 = .ok (.aload_n 0, 1) := by decide +kernel
theorem d_Wall_exchangeEnds_12 : decode b_Wall_exchangeEnds 12 = .ok (.getfield 16, 3) := by decide +kernel
theorem d_Wall_exchangeEnds_15 : decode b_Wall_exchangeEnds 15 = .ok (.putfield 7, 3) := by decide +kernel
theorem d_Wall_exchangeEnds_18 : decode b_Wall_exchangeEnds 18 = .ok (.aload_n 0, 1) := by decide +kernel
theorem d_Wall_exchangeEnds_19 : decode b_Wall_exchangeEnds 19 = .ok (.aload_n 0, 1) := by decide +kernel
theorem d_Wall_exchangeEnds_20 : decode b_Wall_exchangeEnds 20 = .ok (.getfield 19, 3) := by decide +kernel
theorem d_Wall_exchangeEnds_23 : decode b_Wall_exchangeEnds 23 = .ok (.putfield 13, 3) := by decide +kernel
theorem d_Wall_exchangeEnds_26 : decode b_Wall_exchangeEnds 26 = .ok (.aload_n 0, 1) := by decide +kernel
theorem d_Wall_exchangeEnds_27 : decode b_Wall_exchangeEnds 27 = .ok (.iload_n 1, 1) := by decide +kernel
theorem d_Wall_exchangeEnds_28 : decode b_Wall_exchangeEnds 28 = .ok (.putfield 16, 3) := by decide +kernel
theorem d_Wall_exchangeEnds_31 : decode b_Wall_exchangeEnds 31 = .ok (.aload_n 0, 1) := by decide +kernel
theorem d_Wall_exchangeEnds_32 : decode b_Wall_exchangeEnds 32 = .ok (.iload_n 2, 1) := by decide +kernel
theorem d_Wall_exchangeEnds_33 : decode b_Wall_exchangeEnds 33 = .ok (.putfield 19, 3) := by decide +kernel
theorem d_Wall_exchangeEnds_36 : decode b_Wall_exchangeEnds 36 = .ok (.return_, 1) := by decide +kernel
theorem d_Wall_side_0 : decode b_Wall_side 0 = .ok (.aload_n 0, 1) := by decide +kernel
theorem d_Wall_side_1 : decode b_Wall_side 1 = .ok (.getfield 16, 3) := by decide +kernel
theorem d_Wall_side_4 : decode b_Wall_side 4 = .ok (.aload_n 0, 1) := by decide +kernel
theorem d_Wall_side_5 : decode b_Wall_side 5 = .ok (.getfield 7, 3) := by decide +kernel
theorem d_Wall_side_8 : decode b_Wall_side 8 = .ok (.isub, 1) := by decide +kernel
theorem d_Wall_side_9 : decode b_Wall_side 9 = .ok (.i2l, 1) := by decide +kernel
theorem d_Wall_side_10 : decode b_Wall_side 10 = .ok (.aload_n 0, 1) := by decide +kernel
theorem d_Wall_side_11 : decode b_Wall_side 11 = .ok (.getfield 19, 3) := by decide +kernel
theorem d_Wall_side_14 : decode b_Wall_side 14 = .ok (.aload_n 0, 1) := by decide +kernel
theorem d_Wall_side_15 : decode b_Wall_side 15 = .ok (.getfield 13, 3) := by decide +kernel
theorem d_Wall_side_18 : decode b_Wall_side 18 = .ok (.isub, 1) := by decide +kernel
theorem d_Wall_side_19 : decode b_Wall_side 19 = .ok (.i2l, 1) := by decide +kernel
theorem d_Wall_side_20 : decode b_Wall_side 20 = .ok (.iload_n 1, 1) := by decide +kernel
theorem d_Wall_side_21 : decode b_Wall_side 21 = .ok (.aload_n 0, 1) := by decide +kernel
theorem d_Wall_side_22 : decode b_Wall_side 22 = .ok (.getfield 7, 3) := by decide +kernel
theorem d_Wall_side_25 : decode b_Wall_side 25 = .ok (.isub, 1) := by decide +kernel
theorem d_Wall_side_26 : decode b_Wall_side 26 = .ok (.i2l, 1) := by decide +kernel
theorem d_Wall_side_27 : decode b_Wall_side 27 = .ok (.iload_n 2, 1) := by decide +kernel
theorem d_Wall_side_28 : decode b_Wall_side 28 = .ok (.aload_n 0, 1) := by decide +kernel
theorem d_Wall_side_29 : decode b_Wall_side 29 = .ok (.getfield 13, 3) := by decide +kernel
theorem d_Wall_side_32 : decode b_Wall_side 32 = .ok (.isub, 1) := by decide +kernel
theorem d_Wall_side_33 : decode b_Wall_side 33 = .ok (.i2l, 1) := by decide +kernel
theorem d_Wall_side_34 : decode b_Wall_side 34 = .ok (.invokestatic 22, 3) := by decide +kernel
theorem d_Wall_side_37 : decode b_Wall_side 37 = .ok (.lreturn, 1) := by decide +kernel
theorem d_Wall_covers_0 : decode b_Wall_covers 0 = .ok (.aload_n 0, 1) := by decide +kernel
theorem d_Wall_covers_1 : decode b_Wall_covers 1 = .ok (.iload_n 1, 1) := by decide +kernel
theorem d_Wall_covers_2 : decode b_Wall_covers 2 = .ok (.iload_n 2, 1) := by decide +kernel
theorem d_Wall_covers_3 : decode b_Wall_covers 3 = .ok (.invokevirtual 28, 3) := by decide +kernel
theorem d_Wall_covers_6 : decode b_Wall_covers 6 = .ok (.lconst 0, 1) := by decide +kernel
theorem d_Wall_covers_7 : decode b_Wall_covers 7 = .ok (.lcmp, 1) := by decide +kernel
theorem d_Wall_covers_8 : decode b_Wall_covers 8 = .ok (.ifCond .ne 65, 3) := by decide +kernel
theorem d_Wall_covers_11 : decode b_Wall_covers 11 = .ok (.iload_n 1, 1) := by decide +kernel
theorem d_Wall_covers_12 : decode b_Wall_covers 12 = .ok (.aload_n 0, 1) := by decide +kernel
theorem d_Wall_covers_13 : decode b_Wall_covers 13 = .ok (.getfield 7, 3) := by decide +kernel
theorem d_Wall_covers_16 : decode b_Wall_covers 16 = .ok (.aload_n 0, 1) := by decide +kernel
theorem d_Wall_covers_17 : decode b_Wall_covers 17 = .ok (.getfield 16, 3) := by decide +kernel
theorem d_Wall_covers_20 : decode b_Wall_covers 20 = .ok (.invokestatic 32, 3) := by decide +kernel
theorem d_Wall_covers_23 : decode b_Wall_covers 23 = .ok (.aload_n 0, 1) := by decide +kernel
theorem d_Wall_covers_24 : decode b_Wall_covers 24 = .ok (.getfield 7, 3) := by decide +kernel
theorem d_Wall_covers_27 : decode b_Wall_covers 27 = .ok (.aload_n 0, 1) := by decide +kernel
theorem d_Wall_covers_28 : decode b_Wall_covers 28 = .ok (.getfield 16, 3) := by decide +kernel
theorem d_Wall_covers_31 : decode b_Wall_covers 31 = .ok (.invokestatic 38, 3) := by decide +kernel
theorem d_Wall_covers_34 : decode b_Wall_covers 34 = .ok (.invokestatic 41, 3) := by decide +kernel
theorem d_Wall_covers_37 : decode b_Wall_covers 37 = .ok (.ifCond .eq 36, 3) := by decide +kernel
theorem d_Wall_covers_40 : decode b_Wall_covers 40 = .ok (.iload_n 2, 1) := by decide +kernel
theorem d_Wall_covers_41 : decode b_Wall_covers 41 = .ok (.aload_n 0, 1) := by decide +kernel
theorem d_Wall_covers_42 : decode b_Wall_covers 42 = .ok (.getfield 13, 3) := by decide +kernel
theorem d_Wall_covers_45 : decode b_Wall_covers 45 = .ok (.aload_n 0, 1) := by decide +kernel
theorem d_Wall_covers_46 : decode b_Wall_covers 46 = .ok (.getfield 19, 3) := by decide +kernel
theorem d_Wall_covers_49 : decode b_Wall_covers 49 = .ok (.invokestatic 32, 3) := by decide +kernel
theorem d_Wall_covers_52 : decode b_Wall_covers 52 = .ok (.aload_n 0, 1) := by decide +kernel
theorem d_Wall_covers_53 : decode b_Wall_covers 53 = .ok (.getfield 13, 3) := by decide +kernel
theorem d_Wall_covers_56 : decode b_Wall_covers 56 = .ok (.aload_n 0, 1) := by decide +kernel
theorem d_Wall_covers_57 : decode b_Wall_covers 57 = .ok (.getfield 19, 3) := by decide +kernel
theorem d_Wall_covers_60 : decode b_Wall_covers 60 = .ok (.invokestatic 38, 3) := by decide +kernel
theorem d_Wall_covers_63 : decode b_Wall_covers 63 = .ok (.invokestatic 41, 3) := by decide +kernel
theorem d_Wall_covers_66 : decode b_Wall_covers 66 = .ok (.ifCond .eq 7, 3) := by decide +kernel
theorem d_Wall_covers_69 : decode b_Wall_covers 69 = .ok (.iconst 1, 1) := by decide +kernel
theorem d_Wall_covers_70 : decode b_Wall_covers 70 = .ok (.goto 4, 3) := by decide +kernel
theorem d_Wall_covers_73 : decode b_Wall_covers 73 = .ok (.iconst 0, 1) := by decide +kernel
theorem d_Wall_covers_74 : decode b_Wall_covers 74 = .ok (.ireturn, 1) := by decide +kernel
theorem d_Wall_clashesWith_0 : decode b_Wall_clashesWith 0 = .ok (.aload_n 0, 1) := by decide +kernel
theorem d_Wall_clashesWith_1 : decode b_Wall_clashesWith 1 = .ok (.aload_n 1, 1) := by decide +kernel
theorem d_Wall_clashesWith_2 : decode b_Wall_clashesWith 2 = .ok (.getfield 7, 3) := by decide +kernel
theorem d_Wall_clashesWith_5 : decode b_Wall_clashesWith 5 = .ok (.aload_n 1, 1) := by decide +kernel
theorem d_Wall_clashesWith_6 : decode b_Wall_clashesWith 6 = .ok (.getfield 13, 3) := by decide +kernel
theorem d_Wall_clashesWith_9 : decode b_Wall_clashesWith 9 = .ok (.invokevirtual 28, 3) := by decide +kernel
theorem d_Wall_clashesWith_12 : decode b_Wall_clashesWith 12 = .ok (.lstore_n 2, 1) := by decide +kernel
theorem d_Wall_clashesWith_13 : decode b_Wall_clashesWith 13 = .ok (.aload_n 0, 1) := by decide +kernel
theorem d_Wall_clashesWith_14 : decode b_Wall_clashesWith 14 = .ok (.aload_n 1, 1) := by decide +kernel
theorem d_Wall_clashesWith_15 : decode b_Wall_clashesWith 15 = .ok (.getfield 16, 3) := by decide +kernel
theorem d_Wall_clashesWith_18 : decode b_Wall_clashesWith 18 = .ok (.aload_n 1, 1) := by decide +kernel
theorem d_Wall_clashesWith_19 : decode b_Wall_clashesWith 19 = .ok (.getfield 19, 3) := by decide +kernel
theorem d_Wall_clashesWith_22 : decode b_Wall_clashesWith 22 = .ok (.invokevirtual 28, 3) := by decide +kernel
theorem d_Wall_clashesWith_25 : decode b_Wall_clashesWith 25 = .ok (.lstore 4, 2) := by decide +kernel
theorem d_Wall_clashesWith_27 : decode b_Wall_clashesWith 27 = .ok (.lload_n 2, 1) := by decide +kernel
theorem d_Wall_clashesWith_28 : decode b_Wall_clashesWith 28 = .ok (.lconst 0, 1) := by decide +kernel
theorem d_Wall_clashesWith_29 : decode b_Wall_clashesWith 29 = .ok (.lcmp, 1) := by decide +kernel
theorem d_Wall_clashesWith_30 : decode b_Wall_clashesWith 30 = .ok (.ifCond .ne 16, 3) := by decide +kernel
theorem d_Wall_clashesWith_33 : decode b_Wall_clashesWith 33 = .ok (.lload 4, 2) := by decide +kernel
theorem d_Wall_clashesWith_35 : decode b_Wall_clashesWith 35 = .ok (.lconst 0, 1) := by decide +kernel
theorem d_Wall_clashesWith_36 : decode b_Wall_clashesWith 36 = .ok (.lcmp, 1) := by decide +kernel
theorem d_Wall_clashesWith_37 : decode b_Wall_clashesWith 37 = .ok (.ifCond .ne 9, 3) := by decide +kernel
theorem d_Wall_clashesWith_40 : decode b_Wall_clashesWith 40 = .ok (.aload_n 0, 1) := by decide +kernel
theorem d_Wall_clashesWith_41 : decode b_Wall_clashesWith 41 = .ok (.aload_n 1, 1) := by decide +kernel
theorem d_Wall_clashesWith_42 : decode b_Wall_clashesWith 42 = .ok (.invokevirtual 45, 3) := by decide +kernel
theorem d_Wall_clashesWith_45 : decode b_Wall_clashesWith 45 = .ok (.ireturn, 1) := by decide +kernel
theorem d_Wall_clashesWith_46 : decode b_Wall_clashesWith 46 = .ok (.aload_n 0, 1) := by decide +kernel
theorem d_Wall_clashesWith_47 : decode b_Wall_clashesWith 47 = .ok (.aload_n 1, 1) := by decide +kernel
theorem d_Wall_clashesWith_48 : decode b_Wall_clashesWith 48 = .ok (.invokevirtual 49, 3) := by decide +kernel
theorem d_Wall_clashesWith_51 : decode b_Wall_clashesWith 51 = .ok (.ifCond .ne 46, 3) := by decide +kernel
theorem d_Wall_clashesWith_54 : decode b_Wall_clashesWith 54 = .ok (.lload_n 2, 1) := by decide +kernel
theorem d_Wall_clashesWith_55 : decode b_Wall_clashesWith 55 = .ok (.lload 4, 2) := by decide +kernel
theorem d_Wall_clashesWith_57 : decode b_Wall_clashesWith 57 = .ok (.lmul, 1) := by decide +kernel
theorem d_Wall_clashesWith_58 : decode b_Wall_clashesWith 58 = .ok (.lconst 0, 1) := by decide +kernel
theorem d_Wall_clashesWith_59 : decode b_Wall_clashesWith 59 = .ok (.lcmp, 1) := by decide +kernel
theorem d_Wall_clashesWith_60 : decode b_Wall_clashesWith 60 = .ok (.ifCond .gt 37, 3) := by decide +kernel
theorem d_Wall_clashesWith_63 : decode b_Wall_clashesWith 63 = .ok (.aload_n 1, 1) := by decide +kernel
theorem d_Wall_clashesWith_64 : decode b_Wall_clashesWith 64 = .ok (.aload_n 0, 1) := by decide +kernel
theorem d_Wall_clashesWith_65 : decode b_Wall_clashesWith 65 = .ok (.getfield 7, 3) := by decide +kernel
theorem d_Wall_clashesWith_68 : decode b_Wall_clashesWith 68 = .ok (.aload_n 0, 1) := by decide +kernel
theorem d_Wall_clashesWith_69 : decode b_Wall_clashesWith 69 = .ok (.getfield 13, 3) := by decide +kernel
theorem d_Wall_clashesWith_72 : decode b_Wall_clashesWith 72 = .ok (.invokevirtual 28, 3) := by decide +kernel
theorem d_Wall_clashesWith_75 : decode b_Wall_clashesWith 75 = .ok (.aload_n 1, 1) := by decide +kernel
theorem d_Wall_clashesWith_76 : decode b_Wall_clashesWith 76 = .ok (.aload_n 0, 1) := by decide +kernel
theorem d_Wall_clashesWith_77 : decode b_Wall_clashesWith 77 = .ok (.getfield 16, 3) := by decide +kernel
theorem d_Wall_clashesWith_80 : decode b_Wall_clashesWith 80 = .ok (.aload_n 0, 1) := by decide +kernel
theorem d_Wall_clashesWith_81 : decode b_Wall_clashesWith 81 = .ok (.getfield 19, 3) := by decide +kernel
theorem d_Wall_clashesWith_84 : decode b_Wall_clashesWith 84 = .ok (.invokevirtual 28, 3) := by decide +kernel
theorem d_Wall_clashesWith_87 : decode b_Wall_clashesWith 87 = .ok (.lmul, 1) := by decide +kernel
theorem d_Wall_clashesWith_88 : decode b_Wall_clashesWith 88 = .ok (.lconst 0, 1) := by decide +kernel
theorem d_Wall_clashesWith_89 : decode b_Wall_clashesWith 89 = .ok (.lcmp, 1) := by decide +kernel
theorem d_Wall_clashesWith_90 : decode b_Wall_clashesWith 90 = .ok (.ifCond .gt 7, 3) := by decide +kernel
theorem d_Wall_clashesWith_93 : decode b_Wall_clashesWith 93 = .ok (.iconst 1, 1) := by decide +kernel
theorem d_Wall_clashesWith_94 : decode b_Wall_clashesWith 94 = .ok (.goto 4, 3) := by decide +kernel
theorem d_Wall_clashesWith_97 : decode b_Wall_clashesWith 97 = .ok (.iconst 0, 1) := by decide +kernel
theorem d_Wall_clashesWith_98 : decode b_Wall_clashesWith 98 = .ok (.ireturn, 1) := by decide +kernel
theorem d_Wall_overlapsOnItsLine_0 : decode b_Wall_overlapsOnItsLine 0 = .ok (.aload_n 0, 1) := by decide +kernel
theorem d_Wall_overlapsOnItsLine_1 : decode b_Wall_overlapsOnItsLine 1 = .ok (.getfield 7, 3) := by decide +kernel
theorem d_Wall_overlapsOnItsLine_4 : decode b_Wall_overlapsOnItsLine 4 = .ok (.aload_n 0, 1) := by decide +kernel
theorem d_Wall_overlapsOnItsLine_5 : decode b_Wall_overlapsOnItsLine 5 = .ok (.getfield 16, 3) := by decide +kernel
theorem d_Wall_overlapsOnItsLine_8 : decode b_Wall_overlapsOnItsLine 8 = .ok (.aload_n 1, 1) := by decide +kernel
theorem d_Wall_overlapsOnItsLine_9 : decode b_Wall_overlapsOnItsLine 9 = .ok (.getfield 7, 3) := by decide +kernel
theorem d_Wall_overlapsOnItsLine_12 : decode b_Wall_overlapsOnItsLine 12 = .ok (.aload_n 1, 1) := by decide +kernel
theorem d_Wall_overlapsOnItsLine_13 : decode b_Wall_overlapsOnItsLine 13 = .ok (.getfield 16, 3) := by decide +kernel
theorem d_Wall_overlapsOnItsLine_16 : decode b_Wall_overlapsOnItsLine 16 = .ok (.invokestatic 52, 3) := by decide +kernel
theorem d_Wall_overlapsOnItsLine_19 : decode b_Wall_overlapsOnItsLine 19 = .ok (.ifCond .gt 25, 3) := by decide +kernel
theorem d_Wall_overlapsOnItsLine_22 : decode b_Wall_overlapsOnItsLine 22 = .ok (.aload_n 0, 1) := by decide +kernel
theorem d_Wall_overlapsOnItsLine_23 : decode b_Wall_overlapsOnItsLine 23 = .ok (.getfield 13, 3) := by decide +kernel
theorem d_Wall_overlapsOnItsLine_26 : decode b_Wall_overlapsOnItsLine 26 = .ok (.aload_n 0, 1) := by decide +kernel
theorem d_Wall_overlapsOnItsLine_27 : decode b_Wall_overlapsOnItsLine 27 = .ok (.getfield 19, 3) := by decide +kernel
theorem d_Wall_overlapsOnItsLine_30 : decode b_Wall_overlapsOnItsLine 30 = .ok (.aload_n 1, 1) := by decide +kernel
theorem d_Wall_overlapsOnItsLine_31 : decode b_Wall_overlapsOnItsLine 31 = .ok (.getfield 13, 3) := by decide +kernel
theorem d_Wall_overlapsOnItsLine_34 : decode b_Wall_overlapsOnItsLine 34 = .ok (.aload_n 1, 1) := by decide +kernel
theorem d_Wall_overlapsOnItsLine_35 : decode b_Wall_overlapsOnItsLine 35 = .ok (.getfield 19, 3) := by decide +kernel
theorem d_Wall_overlapsOnItsLine_38 : decode b_Wall_overlapsOnItsLine 38 = .ok (.invokestatic 52, 3) := by decide +kernel
theorem d_Wall_overlapsOnItsLine_41 : decode b_Wall_overlapsOnItsLine 41 = .ok (.ifCond .le 7, 3) := by decide +kernel
theorem d_Wall_overlapsOnItsLine_44 : decode b_Wall_overlapsOnItsLine 44 = .ok (.iconst 1, 1) := by decide +kernel
theorem d_Wall_overlapsOnItsLine_45 : decode b_Wall_overlapsOnItsLine 45 = .ok (.goto 4, 3) := by decide +kernel
theorem d_Wall_overlapsOnItsLine_48 : decode b_Wall_overlapsOnItsLine 48 = .ok (.iconst 0, 1) := by decide +kernel
theorem d_Wall_overlapsOnItsLine_49 : decode b_Wall_overlapsOnItsLine 49 = .ok (.ireturn, 1) := by decide +kernel
theorem d_Wall_sharesEndWith_0 : decode b_Wall_sharesEndWith 0 = .ok (.aload_n 1, 1) := by decide +kernel
theorem d_Wall_sharesEndWith_1 : decode b_Wall_sharesEndWith 1 = .ok (.aload_n 0, 1) := by decide +kernel
theorem d_Wall_sharesEndWith_2 : decode b_Wall_sharesEndWith 2 = .ok (.getfield 7, 3) := by decide +kernel
theorem d_Wall_sharesEndWith_5 : decode b_Wall_sharesEndWith 5 = .ok (.aload_n 0, 1) := by decide +kernel
theorem d_Wall_sharesEndWith_6 : decode b_Wall_sharesEndWith 6 = .ok (.getfield 13, 3) := by decide +kernel
theorem d_Wall_sharesEndWith_9 : decode b_Wall_sharesEndWith 9 = .ok (.invokevirtual 56, 3) := by decide +kernel
theorem d_Wall_sharesEndWith_12 : decode b_Wall_sharesEndWith 12 = .ok (.ifCond .ne 18, 3) := by decide +kernel
theorem d_Wall_sharesEndWith_15 : decode b_Wall_sharesEndWith 15 = .ok (.aload_n 1, 1) := by decide +kernel
theorem d_Wall_sharesEndWith_16 : decode b_Wall_sharesEndWith 16 = .ok (.aload_n 0, 1) := by decide +kernel
theorem d_Wall_sharesEndWith_17 : decode b_Wall_sharesEndWith 17 = .ok (.getfield 16, 3) := by decide +kernel
theorem d_Wall_sharesEndWith_20 : decode b_Wall_sharesEndWith 20 = .ok (.aload_n 0, 1) := by decide +kernel
theorem d_Wall_sharesEndWith_21 : decode b_Wall_sharesEndWith 21 = .ok (.getfield 19, 3) := by decide +kernel
theorem d_Wall_sharesEndWith_24 : decode b_Wall_sharesEndWith 24 = .ok (.invokevirtual 56, 3) := by decide +kernel
theorem d_Wall_sharesEndWith_27 : decode b_Wall_sharesEndWith 27 = .ok (.ifCond .eq 7, 3) := by decide +kernel
theorem d_Wall_sharesEndWith_30 : decode b_Wall_sharesEndWith 30 = .ok (.iconst 1, 1) := by decide +kernel
theorem d_Wall_sharesEndWith_31 : decode b_Wall_sharesEndWith 31 = .ok (.goto 4, 3) := by decide +kernel
theorem d_Wall_sharesEndWith_34 : decode b_Wall_sharesEndWith 34 = .ok (.iconst 0, 1) := by decide +kernel
theorem d_Wall_sharesEndWith_35 : decode b_Wall_sharesEndWith 35 = .ok (.ireturn, 1) := by decide +kernel
theorem d_Wall_hasEnd_0 : decode b_Wall_hasEnd 0 = .ok (.iload_n 1, 1) := by decide +kernel
theorem d_Wall_hasEnd_1 : decode b_Wall_hasEnd 1 = .ok (.aload_n 0, 1) := by decide +kernel
theorem d_Wall_hasEnd_2 : decode b_Wall_hasEnd 2 = .ok (.getfield 7, 3) := by decide +kernel
theorem d_Wall_hasEnd_5 : decode b_Wall_hasEnd 5 = .ok (.if_icmp .ne 11, 3) := by decide +kernel
theorem d_Wall_hasEnd_8 : decode b_Wall_hasEnd 8 = .ok (.iload_n 2, 1) := by decide +kernel
theorem d_Wall_hasEnd_9 : decode b_Wall_hasEnd 9 = .ok (.aload_n 0, 1) := by decide +kernel
theorem d_Wall_hasEnd_10 : decode b_Wall_hasEnd 10 = .ok (.getfield 13, 3) := by decide +kernel
theorem d_Wall_hasEnd_13 : decode b_Wall_hasEnd 13 = .ok (.if_icmp .eq 19, 3) := by decide +kernel
theorem d_Wall_hasEnd_16 : decode b_Wall_hasEnd 16 = .ok (.iload_n 1, 1) := by decide +kernel
theorem d_Wall_hasEnd_17 : decode b_Wall_hasEnd 17 = .ok (.aload_n 0, 1) := by decide +kernel
theorem d_Wall_hasEnd_18 : decode b_Wall_hasEnd 18 = .ok (.getfield 16, 3) := by decide +kernel
theorem d_Wall_hasEnd_21 : decode b_Wall_hasEnd 21 = .ok (.if_icmp .ne 15, 3) := by decide +kernel
theorem d_Wall_hasEnd_24 : decode b_Wall_hasEnd 24 = .ok (.iload_n 2, 1) := by decide +kernel
theorem d_Wall_hasEnd_25 : decode b_Wall_hasEnd 25 = .ok (.aload_n 0, 1) := by decide +kernel
theorem d_Wall_hasEnd_26 : decode b_Wall_hasEnd 26 = .ok (.getfield 19, 3) := by decide +kernel
theorem d_Wall_hasEnd_29 : decode b_Wall_hasEnd 29 = .ok (.if_icmp .ne 7, 3) := by decide +kernel
theorem d_Wall_hasEnd_32 : decode b_Wall_hasEnd 32 = .ok (.iconst 1, 1) := by decide +kernel
theorem d_Wall_hasEnd_33 : decode b_Wall_hasEnd 33 = .ok (.goto 4, 3) := by decide +kernel
theorem d_Wall_hasEnd_36 : decode b_Wall_hasEnd 36 = .ok (.iconst 0, 1) := by decide +kernel
theorem d_Wall_hasEnd_37 : decode b_Wall_hasEnd 37 = .ok (.ireturn, 1) := by decide +kernel
theorem d_Wall_commonLength_0 : decode b_Wall_commonLength 0 = .ok (.iload_n 0, 1) := by decide +kernel
theorem d_Wall_commonLength_1 : decode b_Wall_commonLength 1 = .ok (.iload_n 1, 1) := by decide +kernel
theorem d_Wall_commonLength_2 : decode b_Wall_commonLength 2 = .ok (.invokestatic 32, 3) := by decide +kernel
theorem d_Wall_commonLength_5 : decode b_Wall_commonLength 5 = .ok (.iload_n 2, 1) := by decide +kernel
theorem d_Wall_commonLength_6 : decode b_Wall_commonLength 6 = .ok (.iload_n 3, 1) := by decide +kernel
theorem d_Wall_commonLength_7 : decode b_Wall_commonLength 7 = .ok (.invokestatic 32, 3) := by decide +kernel
theorem d_Wall_commonLength_10 : decode b_Wall_commonLength 10 = .ok (.invokestatic 38, 3) := by decide +kernel
theorem d_Wall_commonLength_13 : decode b_Wall_commonLength 13 = .ok (.istore 4, 2) := by decide +kernel
theorem d_Wall_commonLength_15 : decode b_Wall_commonLength 15 = .ok (.iload_n 0, 1) := by decide +kernel
theorem d_Wall_commonLength_16 : decode b_Wall_commonLength 16 = .ok (.iload_n 1, 1) := by decide +kernel
theorem d_Wall_commonLength_17 : decode b_Wall_commonLength 17 = .ok (.invokestatic 38, 3) := by decide +kernel
theorem d_Wall_commonLength_20 : decode b_Wall_commonLength 20 = .ok (.iload_n 2, 1) := by decide +kernel
theorem d_Wall_commonLength_21 : decode b_Wall_commonLength 21 = .ok (.iload_n 3, 1) := by decide +kernel
theorem d_Wall_commonLength_22 : decode b_Wall_commonLength 22 = .ok (.invokestatic 38, 3) := by decide +kernel
theorem d_Wall_commonLength_25 : decode b_Wall_commonLength 25 = .ok (.invokestatic 32, 3) := by decide +kernel
theorem d_Wall_commonLength_28 : decode b_Wall_commonLength 28 = .ok (.istore 5, 2) := by decide +kernel
theorem d_Wall_commonLength_30 : decode b_Wall_commonLength 30 = .ok (.iload 5, 2) := by decide +kernel
theorem d_Wall_commonLength_32 : decode b_Wall_commonLength 32 = .ok (.iload 4, 2) := by decide +kernel
theorem d_Wall_commonLength_34 : decode b_Wall_commonLength 34 = .ok (.isub, 1) := by decide +kernel
theorem d_Wall_commonLength_35 : decode b_Wall_commonLength 35 = .ok (.ireturn, 1) := by decide +kernel
theorem d_Math_floorDiv_0 : decode b_Math_floorDiv 0 = .ok (.lload_n 0, 1) := by decide +kernel
theorem d_Math_floorDiv_1 : decode b_Math_floorDiv 1 = .ok (.lload_n 2, 1) := by decide +kernel
theorem d_Math_floorDiv_2 : decode b_Math_floorDiv 2 = .ok (.ldiv, 1) := by decide +kernel
theorem d_Math_floorDiv_3 : decode b_Math_floorDiv 3 = .ok (.lstore 4, 2) := by decide +kernel
theorem d_Math_floorDiv_5 : decode b_Math_floorDiv 5 = .ok (.lload_n 0, 1) := by decide +kernel
theorem d_Math_floorDiv_6 : decode b_Math_floorDiv 6 = .ok (.lload_n 2, 1) := by decide +kernel
theorem d_Math_floorDiv_7 : decode b_Math_floorDiv 7 = .ok (.lxor, 1) := by decide +kernel
theorem d_Math_floorDiv_8 : decode b_Math_floorDiv 8 = .ok (.lconst 0, 1) := by decide +kernel
theorem d_Math_floorDiv_9 : decode b_Math_floorDiv 9 = .ok (.lcmp, 1) := by decide +kernel
theorem d_Math_floorDiv_10 : decode b_Math_floorDiv 10 = .ok (.ifCond .ge 17, 3) := by decide +kernel
theorem d_Math_floorDiv_13 : decode b_Math_floorDiv 13 = .ok (.lload 4, 2) := by decide +kernel
theorem d_Math_floorDiv_15 : decode b_Math_floorDiv 15 = .ok (.lload_n 2, 1) := by decide +kernel
theorem d_Math_floorDiv_16 : decode b_Math_floorDiv 16 = .ok (.lmul, 1) := by decide +kernel
theorem d_Math_floorDiv_17 : decode b_Math_floorDiv 17 = .ok (.lload_n 0, 1) := by decide +kernel
theorem d_Math_floorDiv_18 : decode b_Math_floorDiv 18 = .ok (.lcmp, 1) := by decide +kernel
theorem d_Math_floorDiv_19 : decode b_Math_floorDiv 19 = .ok (.ifCond .eq 8, 3) := by decide +kernel
theorem d_Math_floorDiv_22 : decode b_Math_floorDiv 22 = .ok (.lload 4, 2) := by decide +kernel
theorem d_Math_floorDiv_24 : decode b_Math_floorDiv 24 = .ok (.lconst 1, 1) := by decide +kernel
theorem d_Math_floorDiv_25 : decode b_Math_floorDiv 25 = .ok (.lsub, 1) := by decide +kernel
theorem d_Math_floorDiv_26 : decode b_Math_floorDiv 26 = .ok (.lreturn, 1) := by decide +kernel
theorem d_Math_floorDiv_27 : decode b_Math_floorDiv 27 = .ok (.lload 4, 2) := by decide +kernel
theorem d_Math_floorDiv_29 : decode b_Math_floorDiv 29 = .ok (.lreturn, 1) := by decide +kernel
