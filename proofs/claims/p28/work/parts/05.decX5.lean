theorem dX5_init_0 : decode cX5_init 0 = .ok (.aload_n 0, 1) := by decide +kernel
theorem dX5_init_1 : decode cX5_init 1 = .ok (.invokespecial 3, 3) := by decide +kernel
theorem dX5_init_4 : decode cX5_init 4 = .ok (.aload_n 0, 1) := by decide +kernel
theorem dX5_init_5 : decode cX5_init 5 = .ok (.new 9, 3) := by decide +kernel
theorem dX5_init_8 : decode cX5_init 8 = .ok (.dup, 1) := by decide +kernel
theorem dX5_init_9 : decode cX5_init 9 = .ok (.invokespecial 11, 3) := by decide +kernel
theorem dX5_init_12 : decode cX5_init 12 = .ok (.putfield 12, 3) := by decide +kernel
theorem dX5_init_15 : decode cX5_init 15 = .ok (.aload_n 0, 1) := by decide +kernel
theorem dX5_init_16 : decode cX5_init 16 = .ok (.new 9, 3) := by decide +kernel
theorem dX5_init_19 : decode cX5_init 19 = .ok (.dup, 1) := by decide +kernel
theorem dX5_init_20 : decode cX5_init 20 = .ok (.invokespecial 11, 3) := by decide +kernel
theorem dX5_init_23 : decode cX5_init 23 = .ok (.putfield 16, 3) := by decide +kernel
theorem dX5_init_26 : decode cX5_init 26 = .ok (.aload_n 0, 1) := by decide +kernel
theorem dX5_init_27 : decode cX5_init 27 = .ok (.new 9, 3) := by decide +kernel
theorem dX5_init_30 : decode cX5_init 30 = .ok (.dup, 1) := by decide +kernel
theorem dX5_init_31 : decode cX5_init 31 = .ok (.invokespecial 11, 3) := by decide +kernel
theorem dX5_init_34 : decode cX5_init 34 = .ok (.putfield 19, 3) := by decide +kernel
theorem dX5_init_37 : decode cX5_init 37 = .ok (.aload_n 0, 1) := by decide +kernel
theorem dX5_init_38 : decode cX5_init 38 = .ok (.new 22, 3) := by decide +kernel
theorem dX5_init_41 : decode cX5_init 41 = .ok (.dup, 1) := by decide +kernel
theorem dX5_init_42 : decode cX5_init 42 = .ok (.invokespecial 24, 3) := by decide +kernel
theorem dX5_init_45 : decode cX5_init 45 = .ok (.putfield 25, 3) := by decide +kernel
theorem dX5_init_48 : decode cX5_init 48 = .ok (.aload_n 0, 1) := by decide +kernel
theorem dX5_init_49 : decode cX5_init 49 = .ok (.new 29, 3) := by decide +kernel
theorem dX5_init_52 : decode cX5_init 52 = .ok (.dup, 1) := by decide +kernel
theorem dX5_init_53 : decode cX5_init 53 = .ok (.invokespecial 31, 3) := by decide +kernel
theorem dX5_init_56 : decode cX5_init 56 = .ok (.putfield 32, 3) := by decide +kernel
theorem dX5_init_59 : decode cX5_init 59 = .ok (.aload_n 0, 1) := by decide +kernel
theorem dX5_init_60 : decode cX5_init 60 = .ok (.iconst 0, 1) := by decide +kernel
theorem dX5_init_61 : decode cX5_init 61 = .ok (.putfield 36, 3) := by decide +kernel
theorem dX5_init_64 : decode cX5_init 64 = .ok (.return_, 1) := by decide +kernel
theorem dX5_lend_0 : decode cX5_lend 0 = .ok (.iload_n 1, 1) := by decide +kernel
theorem dX5_lend_1 : decode cX5_lend 1 = .ok (.invokestatic 40, 3) := by decide +kernel
theorem dX5_lend_4 : decode cX5_lend 4 = .ok (.ifCond .eq 10, 3) := by decide +kernel
theorem dX5_lend_7 : decode cX5_lend 7 = .ok (.iload_n 2, 1) := by decide +kernel
theorem dX5_lend_8 : decode cX5_lend 8 = .ok (.invokestatic 44, 3) := by decide +kernel
theorem dX5_lend_11 : decode cX5_lend 11 = .ok (.ifCond .ne 5, 3) := by decide +kernel
theorem dX5_lend_14 : decode cX5_lend 14 = .ok (.iconst (-1), 1) := by decide +kernel
theorem dX5_lend_15 : decode cX5_lend 15 = .ok (.ireturn, 1) := by decide +kernel
theorem dX5_lend_16 : decode cX5_lend 16 = .ok (.aload_n 0, 1) := by decide +kernel
theorem dX5_lend_17 : decode cX5_lend 17 = .ok (.getfield 12, 3) := by decide +kernel
theorem dX5_lend_20 : decode cX5_lend 20 = .ok (.getfield 47, 3) := by decide +kernel
theorem dX5_lend_23 : decode cX5_lend 23 = .ok (.iload_n 1, 1) := by decide +kernel
theorem dX5_lend_24 : decode cX5_lend 24 = .ok (.iaload, 1) := by decide +kernel
theorem dX5_lend_25 : decode cX5_lend 25 = .ok (.istore_n 3, 1) := by decide +kernel
theorem dX5_lend_26 : decode cX5_lend 26 = .ok (.iload_n 3, 1) := by decide +kernel
theorem dX5_lend_27 : decode cX5_lend 27 = .ok (.iload_n 2, 1) := by decide +kernel
theorem dX5_lend_28 : decode cX5_lend 28 = .ok (.if_icmp .ne 6, 3) := by decide +kernel
theorem dX5_lend_31 : decode cX5_lend 31 = .ok (.bipush (-5), 2) := by decide +kernel
theorem dX5_lend_33 : decode cX5_lend 33 = .ok (.ireturn, 1) := by decide +kernel
theorem dX5_lend_34 : decode cX5_lend 34 = .ok (.aload_n 0, 1) := by decide +kernel
theorem dX5_lend_35 : decode cX5_lend 35 = .ok (.getfield 25, 3) := by decide +kernel
theorem dX5_lend_38 : decode cX5_lend 38 = .ok (.aload_n 0, 1) := by decide +kernel
theorem dX5_lend_39 : decode cX5_lend 39 = .ok (.getfield 12, 3) := by decide +kernel
theorem dX5_lend_42 : decode cX5_lend 42 = .ok (.invokevirtual 51, 3) := by decide +kernel
theorem dX5_lend_45 : decode cX5_lend 45 = .ok (.aload_n 0, 1) := by decide +kernel
theorem dX5_lend_46 : decode cX5_lend 46 = .ok (.getfield 12, 3) := by decide +kernel
theorem dX5_lend_49 : decode cX5_lend 49 = .ok (.getfield 47, 3) := by decide +kernel
theorem dX5_lend_52 : decode cX5_lend 52 = .ok (.iload_n 1, 1) := by decide +kernel
theorem dX5_lend_53 : decode cX5_lend 53 = .ok (.iload_n 2, 1) := by decide +kernel
theorem dX5_lend_54 : decode cX5_lend 54 = .ok (.iastore, 1) := by decide +kernel
theorem dX5_lend_55 : decode cX5_lend 55 = .ok (.iload_n 3, 1) := by decide +kernel
theorem dX5_lend_56 : decode cX5_lend 56 = .ok (.ireturn, 1) := by decide +kernel
theorem dX5_handOver_0 : decode cX5_handOver 0 = .ok (.iload_n 1, 1) := by decide +kernel
theorem dX5_handOver_1 : decode cX5_handOver 1 = .ok (.invokestatic 40, 3) := by decide +kernel
theorem dX5_handOver_4 : decode cX5_handOver 4 = .ok (.ifCond .eq 10, 3) := by decide +kernel
theorem dX5_handOver_7 : decode cX5_handOver 7 = .ok (.iload_n 2, 1) := by decide +kernel
theorem dX5_handOver_8 : decode cX5_handOver 8 = .ok (.invokestatic 44, 3) := by decide +kernel
theorem dX5_handOver_11 : decode cX5_handOver 11 = .ok (.ifCond .ne 5, 3) := by decide +kernel
theorem dX5_handOver_14 : decode cX5_handOver 14 = .ok (.iconst (-1), 1) := by decide +kernel
theorem dX5_handOver_15 : decode cX5_handOver 15 = .ok (.ireturn, 1) := by decide +kernel
theorem dX5_handOver_16 : decode cX5_handOver 16 = .ok (.aload_n 0, 1) := by decide +kernel
theorem dX5_handOver_17 : decode cX5_handOver 17 = .ok (.getfield 12, 3) := by decide +kernel
theorem dX5_handOver_20 : decode cX5_handOver 20 = .ok (.getfield 55, 3) := by decide +kernel
theorem dX5_handOver_23 : decode cX5_handOver 23 = .ok (.iload_n 1, 1) := by decide +kernel
theorem dX5_handOver_24 : decode cX5_handOver 24 = .ok (.iaload, 1) := by decide +kernel
theorem dX5_handOver_25 : decode cX5_handOver 25 = .ok (.istore_n 3, 1) := by decide +kernel
theorem dX5_handOver_26 : decode cX5_handOver 26 = .ok (.iload_n 3, 1) := by decide +kernel
theorem dX5_handOver_27 : decode cX5_handOver 27 = .ok (.iload_n 2, 1) := by decide +kernel
theorem dX5_handOver_28 : decode cX5_handOver 28 = .ok (.if_icmp .ne 6, 3) := by decide +kernel
theorem dX5_handOver_31 : decode cX5_handOver 31 = .ok (.bipush (-5), 2) := by decide +kernel
theorem dX5_handOver_33 : decode cX5_handOver 33 = .ok (.ireturn, 1) := by decide +kernel
theorem dX5_handOver_34 : decode cX5_handOver 34 = .ok (.aload_n 0, 1) := by decide +kernel
theorem dX5_handOver_35 : decode cX5_handOver 35 = .ok (.getfield 25, 3) := by decide +kernel
theorem dX5_handOver_38 : decode cX5_handOver 38 = .ok (.aload_n 0, 1) := by decide +kernel
theorem dX5_handOver_39 : decode cX5_handOver 39 = .ok (.getfield 12, 3) := by decide +kernel
theorem dX5_handOver_42 : decode cX5_handOver 42 = .ok (.invokevirtual 51, 3) := by decide +kernel
theorem dX5_handOver_45 : decode cX5_handOver 45 = .ok (.aload_n 0, 1) := by decide +kernel
theorem dX5_handOver_46 : decode cX5_handOver 46 = .ok (.getfield 12, 3) := by decide +kernel
theorem dX5_handOver_49 : decode cX5_handOver 49 = .ok (.getfield 55, 3) := by decide +kernel
theorem dX5_handOver_52 : decode cX5_handOver 52 = .ok (.iload_n 1, 1) := by decide +kernel
theorem dX5_handOver_53 : decode cX5_handOver 53 = .ok (.iload_n 2, 1) := by decide +kernel
theorem dX5_handOver_54 : decode cX5_handOver 54 = .ok (.iastore, 1) := by decide +kernel
theorem dX5_handOver_55 : decode cX5_handOver 55 = .ok (.aload_n 0, 1) := by decide +kernel
theorem dX5_handOver_56 : decode cX5_handOver 56 = .ok (.getfield 12, 3) := by decide +kernel
theorem dX5_handOver_59 : decode cX5_handOver 59 = .ok (.getfield 47, 3) := by decide +kernel
theorem dX5_handOver_62 : decode cX5_handOver 62 = .ok (.iload_n 1, 1) := by decide +kernel
theorem dX5_handOver_63 : decode cX5_handOver 63 = .ok (.iload_n 2, 1) := by decide +kernel
theorem dX5_handOver_64 : decode cX5_handOver 64 = .ok (.iastore, 1) := by decide +kernel
theorem dX5_handOver_65 : decode cX5_handOver 65 = .ok (.iload_n 3, 1) := by decide +kernel
theorem dX5_handOver_66 : decode cX5_handOver 66 = .ok (.ireturn, 1) := by decide +kernel
theorem dX5_setDays_0 : decode cX5_setDays 0 = .ok (.iload_n 1, 1) := by decide +kernel
theorem dX5_setDays_1 : decode cX5_setDays 1 = .ok (.invokestatic 44, 3) := by decide +kernel
theorem dX5_setDays_4 : decode cX5_setDays 4 = .ok (.ifCond .ne 5, 3) := by decide +kernel
theorem dX5_setDays_7 : decode cX5_setDays 7 = .ok (.iconst (-1), 1) := by decide +kernel
theorem dX5_setDays_8 : decode cX5_setDays 8 = .ok (.ireturn, 1) := by decide +kernel
theorem dX5_setDays_9 : decode cX5_setDays 9 = .ok (.iload_n 2, 1) := by decide +kernel
theorem dX5_setDays_10 : decode cX5_setDays 10 = .ok (.iconst 0, 1) := by decide +kernel
theorem dX5_setDays_11 : decode cX5_setDays 11 = .ok (.bipush 20, 2) := by decide +kernel
theorem dX5_setDays_13 : decode cX5_setDays 13 = .ok (.invokestatic 58, 3) := by decide +kernel
theorem dX5_setDays_16 : decode cX5_setDays 16 = .ok (.ifCond .ne 6, 3) := by decide +kernel
theorem dX5_setDays_19 : decode cX5_setDays 19 = .ok (.bipush (-2), 2) := by decide +kernel
theorem dX5_setDays_21 : decode cX5_setDays 21 = .ok (.ireturn, 1) := by decide +kernel
theorem dX5_setDays_22 : decode cX5_setDays 22 = .ok (.aload_n 0, 1) := by decide +kernel
theorem dX5_setDays_23 : decode cX5_setDays 23 = .ok (.getfield 12, 3) := by decide +kernel
theorem dX5_setDays_26 : decode cX5_setDays 26 = .ok (.getfield 62, 3) := by decide +kernel
theorem dX5_setDays_29 : decode cX5_setDays 29 = .ok (.iload_n 1, 1) := by decide +kernel
theorem dX5_setDays_30 : decode cX5_setDays 30 = .ok (.iaload, 1) := by decide +kernel
theorem dX5_setDays_31 : decode cX5_setDays 31 = .ok (.istore_n 3, 1) := by decide +kernel
theorem dX5_setDays_32 : decode cX5_setDays 32 = .ok (.iload_n 3, 1) := by decide +kernel
theorem dX5_setDays_33 : decode cX5_setDays 33 = .ok (.iload_n 2, 1) := by decide +kernel
theorem dX5_setDays_34 : decode cX5_setDays 34 = .ok (.if_icmp .ne 6, 3) := by decide +kernel
theorem dX5_setDays_37 : decode cX5_setDays 37 = .ok (.bipush (-5), 2) := by decide +kernel
theorem dX5_setDays_39 : decode cX5_setDays 39 = .ok (.ireturn, 1) := by decide +kernel
theorem dX5_setDays_40 : decode cX5_setDays 40 = .ok (.aload_n 0, 1) := by decide +kernel
theorem dX5_setDays_41 : decode cX5_setDays 41 = .ok (.getfield 25, 3) := by decide +kernel
theorem dX5_setDays_44 : decode cX5_setDays 44 = .ok (.aload_n 0, 1) := by decide +kernel
theorem dX5_setDays_45 : decode cX5_setDays 45 = .ok (.getfield 12, 3) := by decide +kernel
theorem dX5_setDays_48 : decode cX5_setDays 48 = .ok (.invokevirtual 51, 3) := by decide +kernel
theorem dX5_setDays_51 : decode cX5_setDays 51 = .ok (.aload_n 0, 1) := by decide +kernel
theorem dX5_setDays_52 : decode cX5_setDays 52 = .ok (.getfield 12, 3) := by decide +kernel
theorem dX5_setDays_55 : decode cX5_setDays 55 = .ok (.getfield 62, 3) := by decide +kernel
theorem dX5_setDays_58 : decode cX5_setDays 58 = .ok (.iload_n 1, 1) := by decide +kernel
theorem dX5_setDays_59 : decode cX5_setDays 59 = .ok (.iload_n 2, 1) := by decide +kernel
theorem dX5_setDays_60 : decode cX5_setDays 60 = .ok (.iastore, 1) := by decide +kernel
theorem dX5_setDays_61 : decode cX5_setDays 61 = .ok (.iload_n 3, 1) := by decide +kernel
theorem dX5_setDays_62 : decode cX5_setDays 62 = .ok (.ireturn, 1) := by decide +kernel
theorem dX5_set_0 : decode cX5_set 0 = .ok (.iload_n 1, 1) := by decide +kernel
theorem dX5_set_1 : decode cX5_set 1 = .ok (.iload_n 2, 1) := by decide +kernel
theorem dX5_set_2 : decode cX5_set 2 = .ok (.invokestatic 65, 3) := by decide +kernel
theorem dX5_set_5 : decode cX5_set 5 = .ok (.ifCond .ne 6, 3) := by decide +kernel
theorem dX5_set_8 : decode cX5_set 8 = .ok (.bipush (-2), 2) := by decide +kernel
theorem dX5_set_10 : decode cX5_set 10 = .ok (.ireturn, 1) := by decide +kernel
theorem dX5_set_11 : decode cX5_set 11 = .ok (.iload_n 1, 1) := by decide +kernel
theorem dX5_set_12 : decode cX5_set 12 = .ok (.ifCond .ne 13, 3) := by decide +kernel
theorem dX5_set_15 : decode cX5_set 15 = .ok (.aload_n 0, 1) := by decide +kernel
theorem dX5_set_16 : decode cX5_set 16 = .ok (.getfield 12, 3) := by decide +kernel
theorem dX5_set_19 : decode cX5_set 19 = .ok (.getfield 69, 3) := by decide +kernel
theorem dX5_set_22 : decode cX5_set 22 = .ok (.goto 10, 3) := by decide +kernel
theorem dX5_set_25 : decode cX5_set 25 = .ok (.aload_n 0, 1) := by decide +kernel
theorem dX5_set_26 : decode cX5_set 26 = .ok (.getfield 12, 3) := by decide +kernel
theorem dX5_set_29 : decode cX5_set 29 = .ok (.getfield 73, 3) := by decide +kernel
theorem dX5_set_32 : decode cX5_set 32 = .ok (.istore_n 3, 1) := by decide +kernel
theorem dX5_set_33 : decode cX5_set 33 = .ok (.iload_n 3, 1) := by decide +kernel
theorem dX5_set_34 : decode cX5_set 34 = .ok (.iload_n 2, 1) := by decide +kernel
theorem dX5_set_35 : decode cX5_set 35 = .ok (.if_icmp .ne 6, 3) := by decide +kernel
theorem dX5_set_38 : decode cX5_set 38 = .ok (.bipush (-5), 2) := by decide +kernel
theorem dX5_set_40 : decode cX5_set 40 = .ok (.ireturn, 1) := by decide +kernel
theorem dX5_set_41 : decode cX5_set 41 = .ok (.aload_n 0, 1) := by decide +kernel
theorem dX5_set_42 : decode cX5_set 42 = .ok (.getfield 25, 3) := by decide +kernel
theorem dX5_set_45 : decode cX5_set 45 = .ok (.aload_n 0, 1) := by decide +kernel
theorem dX5_set_46 : decode cX5_set 46 = .ok (.getfield 12, 3) := by decide +kernel
theorem dX5_set_49 : decode cX5_set 49 = .ok (.invokevirtual 51, 3) := by decide +kernel
theorem dX5_set_52 : decode cX5_set 52 = .ok (.iload_n 1, 1) := by decide +kernel
theorem dX5_set_53 : decode cX5_set 53 = .ok (.ifCond .ne 14, 3) := by decide +kernel
theorem dX5_set_56 : decode cX5_set 56 = .ok (.aload_n 0, 1) := by decide +kernel
theorem dX5_set_57 : decode cX5_set 57 = .ok (.getfield 12, 3) := by decide +kernel
theorem dX5_set_60 : decode cX5_set 60 = .ok (.iload_n 2, 1) := by decide +kernel
theorem dX5_set_61 : decode cX5_set 61 = .ok (.putfield 69, 3) := by decide +kernel
theorem dX5_set_64 : decode cX5_set 64 = .ok (.goto 11, 3) := by decide +kernel
theorem dX5_set_67 : decode cX5_set 67 = .ok (.aload_n 0, 1) := by decide +kernel
theorem dX5_set_68 : decode cX5_set 68 = .ok (.getfield 12, 3) := by decide +kernel
theorem dX5_set_71 : decode cX5_set 71 = .ok (.iload_n 2, 1) := by decide +kernel
theorem dX5_set_72 : decode cX5_set 72 = .ok (.putfield 73, 3) := by decide +kernel
theorem dX5_set_75 : decode cX5_set 75 = .ok (.iload_n 3, 1) := by decide +kernel
theorem dX5_set_76 : decode cX5_set 76 = .ok (.ireturn, 1) := by decide +kernel
theorem dX5_cut_0 : decode cX5_cut 0 = .ok (.iload_n 1, 1) := by decide +kernel
theorem dX5_cut_1 : decode cX5_cut 1 = .ok (.invokestatic 44, 3) := by decide +kernel
theorem dX5_cut_4 : decode cX5_cut 4 = .ok (.ifCond .eq 10, 3) := by decide +kernel
theorem dX5_cut_7 : decode cX5_cut 7 = .ok (.iload_n 2, 1) := by decide +kernel
theorem dX5_cut_8 : decode cX5_cut 8 = .ok (.invokestatic 40, 3) := by decide +kernel
theorem dX5_cut_11 : decode cX5_cut 11 = .ok (.ifCond .ne 5, 3) := by decide +kernel
theorem dX5_cut_14 : decode cX5_cut 14 = .ok (.iconst (-1), 1) := by decide +kernel
theorem dX5_cut_15 : decode cX5_cut 15 = .ok (.ireturn, 1) := by decide +kernel
theorem dX5_cut_16 : decode cX5_cut 16 = .ok (.aload_n 0, 1) := by decide +kernel
theorem dX5_cut_17 : decode cX5_cut 17 = .ok (.getfield 12, 3) := by decide +kernel
theorem dX5_cut_20 : decode cX5_cut 20 = .ok (.iload_n 1, 1) := by decide +kernel
theorem dX5_cut_21 : decode cX5_cut 21 = .ok (.iload_n 2, 1) := by decide +kernel
theorem dX5_cut_22 : decode cX5_cut 22 = .ok (.invokevirtual 76, 3) := by decide +kernel
theorem dX5_cut_25 : decode cX5_cut 25 = .ok (.ifCond .ne 16, 3) := by decide +kernel
theorem dX5_cut_28 : decode cX5_cut 28 = .ok (.aload_n 0, 1) := by decide +kernel
theorem dX5_cut_29 : decode cX5_cut 29 = .ok (.getfield 12, 3) := by decide +kernel
theorem dX5_cut_32 : decode cX5_cut 32 = .ok (.getfield 80, 3) := by decide +kernel
theorem dX5_cut_35 : decode cX5_cut 35 = .ok (.invokevirtual 84, 3) := by decide +kernel
theorem dX5_cut_38 : decode cX5_cut 38 = .ok (.ifCond .ne 6, 3) := by decide +kernel
theorem dX5_cut_41 : decode cX5_cut 41 = .ok (.bipush (-4), 2) := by decide +kernel
theorem dX5_cut_43 : decode cX5_cut 43 = .ok (.ireturn, 1) := by decide +kernel
theorem dX5_cut_44 : decode cX5_cut 44 = .ok (.aload_n 0, 1) := by decide +kernel
theorem dX5_cut_45 : decode cX5_cut 45 = .ok (.getfield 25, 3) := by decide +kernel
theorem dX5_cut_48 : decode cX5_cut 48 = .ok (.aload_n 0, 1) := by decide +kernel
theorem dX5_cut_49 : decode cX5_cut 49 = .ok (.getfield 12, 3) := by decide +kernel
theorem dX5_cut_52 : decode cX5_cut 52 = .ok (.invokevirtual 51, 3) := by decide +kernel
theorem dX5_cut_55 : decode cX5_cut 55 = .ok (.aload_n 0, 1) := by decide +kernel
theorem dX5_cut_56 : decode cX5_cut 56 = .ok (.getfield 12, 3) := by decide +kernel
theorem dX5_cut_59 : decode cX5_cut 59 = .ok (.iload_n 1, 1) := by decide +kernel
theorem dX5_cut_60 : decode cX5_cut 60 = .ok (.iload_n 2, 1) := by decide +kernel
theorem dX5_cut_61 : decode cX5_cut 61 = .ok (.invokevirtual 90, 3) := by decide +kernel
theorem dX5_cut_64 : decode cX5_cut 64 = .ok (.ireturn, 1) := by decide +kernel
theorem dX5_turn_0 : decode cX5_turn 0 = .ok (.aload_n 0, 1) := by decide +kernel
theorem dX5_turn_1 : decode cX5_turn 1 = .ok (.getfield 12, 3) := by decide +kernel
theorem dX5_turn_4 : decode cX5_turn 4 = .ok (.getfield 80, 3) := by decide +kernel
theorem dX5_turn_7 : decode cX5_turn 7 = .ok (.iload_n 1, 1) := by decide +kernel
theorem dX5_turn_8 : decode cX5_turn 8 = .ok (.invokevirtual 93, 3) := by decide +kernel
theorem dX5_turn_11 : decode cX5_turn 11 = .ok (.ifCond .ne 5, 3) := by decide +kernel
theorem dX5_turn_14 : decode cX5_turn 14 = .ok (.iconst (-1), 1) := by decide +kernel
theorem dX5_turn_15 : decode cX5_turn 15 = .ok (.ireturn, 1) := by decide +kernel
theorem dX5_turn_16 : decode cX5_turn 16 = .ok (.aload_n 0, 1) := by decide +kernel
theorem dX5_turn_17 : decode cX5_turn 17 = .ok (.getfield 12, 3) := by decide +kernel
theorem dX5_turn_20 : decode cX5_turn 20 = .ok (.getfield 80, 3) := by decide +kernel
theorem dX5_turn_23 : decode cX5_turn 23 = .ok (.getfield 96, 3) := by decide +kernel
theorem dX5_turn_26 : decode cX5_turn 26 = .ok (.iload_n 1, 1) := by decide +kernel
theorem dX5_turn_27 : decode cX5_turn 27 = .ok (.baload, 1) := by decide +kernel
theorem dX5_turn_28 : decode cX5_turn 28 = .ok (.ifCond .eq 6, 3) := by decide +kernel
theorem dX5_turn_31 : decode cX5_turn 31 = .ok (.bipush (-4), 2) := by decide +kernel
theorem dX5_turn_33 : decode cX5_turn 33 = .ok (.ireturn, 1) := by decide +kernel
theorem dX5_turn_34 : decode cX5_turn 34 = .ok (.aload_n 0, 1) := by decide +kernel
theorem dX5_turn_35 : decode cX5_turn 35 = .ok (.getfield 12, 3) := by decide +kernel
theorem dX5_turn_38 : decode cX5_turn 38 = .ok (.getfield 80, 3) := by decide +kernel
theorem dX5_turn_41 : decode cX5_turn 41 = .ok (.getfield 100, 3) := by decide +kernel
theorem dX5_turn_44 : decode cX5_turn 44 = .ok (.iload_n 1, 1) := by decide +kernel
theorem dX5_turn_45 : decode cX5_turn 45 = .ok (.baload, 1) := by decide +kernel
theorem dX5_turn_46 : decode cX5_turn 46 = .ok (.ifCond .eq 6, 3) := by decide +kernel
theorem dX5_turn_49 : decode cX5_turn 49 = .ok (.bipush (-5), 2) := by decide +kernel
theorem dX5_turn_51 : decode cX5_turn 51 = .ok (.ireturn, 1) := by decide +kernel
theorem dX5_turn_52 : decode cX5_turn 52 = .ok (.aload_n 0, 1) := by decide +kernel
theorem dX5_turn_53 : decode cX5_turn 53 = .ok (.getfield 25, 3) := by decide +kernel
theorem dX5_turn_56 : decode cX5_turn 56 = .ok (.aload_n 0, 1) := by decide +kernel
theorem dX5_turn_57 : decode cX5_turn 57 = .ok (.getfield 12, 3) := by decide +kernel
theorem dX5_turn_60 : decode cX5_turn 60 = .ok (.invokevirtual 51, 3) := by decide +kernel
theorem dX5_turn_63 : decode cX5_turn 63 = .ok (.aload_n 0, 1) := by decide +kernel
theorem dX5_turn_64 : decode cX5_turn 64 = .ok (.getfield 12, 3) := by decide +kernel
theorem dX5_turn_67 : decode cX5_turn 67 = .ok (.getfield 80, 3) := by decide +kernel
theorem dX5_turn_70 : decode cX5_turn 70 = .ok (.getfield 100, 3) := by decide +kernel
theorem dX5_turn_73 : decode cX5_turn 73 = .ok (.iload_n 1, 1) := by decide +kernel
theorem dX5_turn_74 : decode cX5_turn 74 = .ok (.iconst 1, 1) := by decide +kernel
theorem dX5_turn_75 : decode cX5_turn 75 = .ok (.bastore, 1) := by decide +kernel
theorem dX5_turn_76 : decode cX5_turn 76 = .ok (.aload_n 0, 1) := by decide +kernel
theorem dX5_turn_77 : decode cX5_turn 77 = .ok (.getfield 12, 3) := by decide +kernel
theorem dX5_turn_80 : decode cX5_turn 80 = .ok (.getfield 80, 3) := by decide +kernel
theorem dX5_turn_83 : decode cX5_turn 83 = .ok (.getfield 103, 3) := by decide +kernel
theorem dX5_turn_86 : decode cX5_turn 86 = .ok (.iload_n 1, 1) := by decide +kernel
theorem dX5_turn_87 : decode cX5_turn 87 = .ok (.iaload, 1) := by decide +kernel
theorem dX5_turn_88 : decode cX5_turn 88 = .ok (.ireturn, 1) := by decide +kernel
theorem dX5_stack_0 : decode cX5_stack 0 = .ok (.aload_n 0, 1) := by decide +kernel
theorem dX5_stack_1 : decode cX5_stack 1 = .ok (.getfield 12, 3) := by decide +kernel
theorem dX5_stack_4 : decode cX5_stack 4 = .ok (.getfield 80, 3) := by decide +kernel
theorem dX5_stack_7 : decode cX5_stack 7 = .ok (.iload_n 1, 1) := by decide +kernel
theorem dX5_stack_8 : decode cX5_stack 8 = .ok (.invokevirtual 93, 3) := by decide +kernel
theorem dX5_stack_11 : decode cX5_stack 11 = .ok (.ifCond .ne 5, 3) := by decide +kernel
theorem dX5_stack_14 : decode cX5_stack 14 = .ok (.iconst (-1), 1) := by decide +kernel
theorem dX5_stack_15 : decode cX5_stack 15 = .ok (.ireturn, 1) := by decide +kernel
theorem dX5_stack_16 : decode cX5_stack 16 = .ok (.aload_n 0, 1) := by decide +kernel
theorem dX5_stack_17 : decode cX5_stack 17 = .ok (.getfield 12, 3) := by decide +kernel
theorem dX5_stack_20 : decode cX5_stack 20 = .ok (.getfield 80, 3) := by decide +kernel
theorem dX5_stack_23 : decode cX5_stack 23 = .ok (.iload_n 1, 1) := by decide +kernel
theorem dX5_stack_24 : decode cX5_stack 24 = .ok (.invokevirtual 106, 3) := by decide +kernel
theorem dX5_stack_27 : decode cX5_stack 27 = .ok (.ifCond .ne 6, 3) := by decide +kernel
theorem dX5_stack_30 : decode cX5_stack 30 = .ok (.bipush (-4), 2) := by decide +kernel
theorem dX5_stack_32 : decode cX5_stack 32 = .ok (.ireturn, 1) := by decide +kernel
theorem dX5_stack_33 : decode cX5_stack 33 = .ok (.aload_n 0, 1) := by decide +kernel
theorem dX5_stack_34 : decode cX5_stack 34 = .ok (.getfield 12, 3) := by decide +kernel
theorem dX5_stack_37 : decode cX5_stack 37 = .ok (.getfield 80, 3) := by decide +kernel
theorem dX5_stack_40 : decode cX5_stack 40 = .ok (.getfield 96, 3) := by decide +kernel
theorem dX5_stack_43 : decode cX5_stack 43 = .ok (.iload_n 1, 1) := by decide +kernel
theorem dX5_stack_44 : decode cX5_stack 44 = .ok (.baload, 1) := by decide +kernel
theorem dX5_stack_45 : decode cX5_stack 45 = .ok (.ifCond .eq 6, 3) := by decide +kernel
theorem dX5_stack_48 : decode cX5_stack 48 = .ok (.bipush (-5), 2) := by decide +kernel
theorem dX5_stack_50 : decode cX5_stack 50 = .ok (.ireturn, 1) := by decide +kernel
theorem dX5_stack_51 : decode cX5_stack 51 = .ok (.aload_n 0, 1) := by decide +kernel
theorem dX5_stack_52 : decode cX5_stack 52 = .ok (.getfield 25, 3) := by decide +kernel
theorem dX5_stack_55 : decode cX5_stack 55 = .ok (.aload_n 0, 1) := by decide +kernel
theorem dX5_stack_56 : decode cX5_stack 56 = .ok (.getfield 12, 3) := by decide +kernel
theorem dX5_stack_59 : decode cX5_stack 59 = .ok (.invokevirtual 51, 3) := by decide +kernel
theorem dX5_stack_62 : decode cX5_stack 62 = .ok (.aload_n 0, 1) := by decide +kernel
theorem dX5_stack_63 : decode cX5_stack 63 = .ok (.getfield 12, 3) := by decide +kernel
theorem dX5_stack_66 : decode cX5_stack 66 = .ok (.getfield 80, 3) := by decide +kernel
theorem dX5_stack_69 : decode cX5_stack 69 = .ok (.getfield 96, 3) := by decide +kernel
theorem dX5_stack_72 : decode cX5_stack 72 = .ok (.iload_n 1, 1) := by decide +kernel
theorem dX5_stack_73 : decode cX5_stack 73 = .ok (.iconst 1, 1) := by decide +kernel
theorem dX5_stack_74 : decode cX5_stack 74 = .ok (.bastore, 1) := by decide +kernel
theorem dX5_stack_75 : decode cX5_stack 75 = .ok (.aload_n 0, 1) := by decide +kernel
theorem dX5_stack_76 : decode cX5_stack 76 = .ok (.getfield 12, 3) := by decide +kernel
theorem dX5_stack_79 : decode cX5_stack 79 = .ok (.getfield 80, 3) := by decide +kernel
theorem dX5_stack_82 : decode cX5_stack 82 = .ok (.aload_n 0, 1) := by decide +kernel
theorem dX5_stack_83 : decode cX5_stack 83 = .ok (.getfield 12, 3) := by decide +kernel
theorem dX5_stack_86 : decode cX5_stack 86 = .ok (.getfield 80, 3) := by decide +kernel
theorem dX5_stack_89 : decode cX5_stack 89 = .ok (.getfield 109, 3) := by decide +kernel
theorem dX5_stack_92 : decode cX5_stack 92 = .ok (.iload_n 1, 1) := by decide +kernel
theorem dX5_stack_93 : decode cX5_stack 93 = .ok (.iaload, 1) := by decide +kernel
theorem dX5_stack_94 : decode cX5_stack 94 = .ok (.invokevirtual 112, 3) := by decide +kernel
theorem dX5_stack_97 : decode cX5_stack 97 = .ok (.ireturn, 1) := by decide +kernel
theorem dX5_pass_0 : decode cX5_pass 0 = .ok (.iload_n 1, 1) := by decide +kernel
theorem dX5_pass_1 : decode cX5_pass 1 = .ok (.invokestatic 116, 3) := by decide +kernel
theorem dX5_pass_4 : decode cX5_pass 4 = .ok (.ifCond .ne 6, 3) := by decide +kernel
theorem dX5_pass_7 : decode cX5_pass 7 = .ok (.bipush (-2), 2) := by decide +kernel
theorem dX5_pass_9 : decode cX5_pass 9 = .ok (.ireturn, 1) := by decide +kernel
theorem dX5_pass_10 : decode cX5_pass 10 = .ok (.aload_n 0, 1) := by decide +kernel
theorem dX5_pass_11 : decode cX5_pass 11 = .ok (.getfield 25, 3) := by decide +kernel
theorem dX5_pass_14 : decode cX5_pass 14 = .ok (.aload_n 0, 1) := by decide +kernel
theorem dX5_pass_15 : decode cX5_pass 15 = .ok (.getfield 12, 3) := by decide +kernel
theorem dX5_pass_18 : decode cX5_pass 18 = .ok (.invokevirtual 51, 3) := by decide +kernel
theorem dX5_pass_21 : decode cX5_pass 21 = .ok (.aload_n 0, 1) := by decide +kernel
theorem dX5_pass_22 : decode cX5_pass 22 = .ok (.getfield 12, 3) := by decide +kernel
theorem dX5_pass_25 : decode cX5_pass 25 = .ok (.iconst 1, 1) := by decide +kernel
theorem dX5_pass_26 : decode cX5_pass 26 = .ok (.iload_n 1, 1) := by decide +kernel
theorem dX5_pass_27 : decode cX5_pass 27 = .ok (.invokevirtual 119, 3) := by decide +kernel
theorem dX5_pass_30 : decode cX5_pass 30 = .ok (.ireturn, 1) := by decide +kernel
theorem dX5_passAll_0 : decode cX5_passAll 0 = .ok (.aload_n 0, 1) := by decide +kernel
theorem dX5_passAll_1 : decode cX5_passAll 1 = .ok (.getfield 32, 3) := by decide +kernel
theorem dX5_passAll_4 : decode cX5_passAll 4 = .ok (.invokevirtual 122, 3) := by decide +kernel
theorem dX5_passAll_7 : decode cX5_passAll 7 = .ok (.istore_n 1, 1) := by decide +kernel
theorem dX5_passAll_8 : decode cX5_passAll 8 = .ok (.iload_n 1, 1) := by decide +kernel
theorem dX5_passAll_9 : decode cX5_passAll 9 = .ok (.iconst (-1), 1) := by decide +kernel
theorem dX5_passAll_10 : decode cX5_passAll 10 = .ok (.if_icmp .eq 8, 3) := by decide +kernel
theorem dX5_passAll_13 : decode cX5_passAll 13 = .ok (.bipush (-100), 2) := by decide +kernel
theorem dX5_passAll_15 : decode cX5_passAll 15 = .ok (.iload_n 1, 1) := by decide +kernel
theorem dX5_passAll_16 : decode cX5_passAll 16 = .ok (.isub, 1) := by decide +kernel
theorem dX5_passAll_17 : decode cX5_passAll 17 = .ok (.ireturn, 1) := by decide +kernel
theorem dX5_passAll_18 : decode cX5_passAll 18 = .ok (.aload_n 0, 1) := by decide +kernel
theorem dX5_passAll_19 : decode cX5_passAll 19 = .ok (.getfield 25, 3) := by decide +kernel
theorem dX5_passAll_22 : decode cX5_passAll 22 = .ok (.aload_n 0, 1) := by decide +kernel
theorem dX5_passAll_23 : decode cX5_passAll 23 = .ok (.getfield 12, 3) := by decide +kernel
theorem dX5_passAll_26 : decode cX5_passAll 26 = .ok (.invokevirtual 51, 3) := by decide +kernel
theorem dX5_passAll_29 : decode cX5_passAll 29 = .ok (.iconst 0, 1) := by decide +kernel
theorem dX5_passAll_30 : decode cX5_passAll 30 = .ok (.istore_n 2, 1) := by decide +kernel
theorem dX5_passAll_31 : decode cX5_passAll 31 = .ok (.iconst 0, 1) := by decide +kernel
theorem dX5_passAll_32 : decode cX5_passAll 32 = .ok (.istore_n 3, 1) := by decide +kernel
theorem dX5_passAll_33 : decode cX5_passAll 33 = .ok (.iload_n 3, 1) := by decide +kernel
theorem dX5_passAll_34 : decode cX5_passAll 34 = .ok (.aload_n 0, 1) := by decide +kernel
theorem dX5_passAll_35 : decode cX5_passAll 35 = .ok (.getfield 32, 3) := by decide +kernel
theorem dX5_passAll_38 : decode cX5_passAll 38 = .ok (.getfield 126, 3) := by decide +kernel
theorem dX5_passAll_41 : decode cX5_passAll 41 = .ok (.if_icmp .ge 47, 3) := by decide +kernel
theorem dX5_passAll_44 : decode cX5_passAll 44 = .ok (.aload_n 0, 1) := by decide +kernel
theorem dX5_passAll_45 : decode cX5_passAll 45 = .ok (.getfield 12, 3) := by decide +kernel
theorem dX5_passAll_48 : decode cX5_passAll 48 = .ok (.aload_n 0, 1) := by decide +kernel
theorem dX5_passAll_49 : decode cX5_passAll 49 = .ok (.getfield 32, 3) := by decide +kernel
theorem dX5_passAll_52 : decode cX5_passAll 52 = .ok (.getfield 129, 3) := by decide +kernel
theorem dX5_passAll_55 : decode cX5_passAll 55 = .ok (.iload_n 3, 1) := by decide +kernel
theorem dX5_passAll_56 : decode cX5_passAll 56 = .ok (.iaload, 1) := by decide +kernel
theorem dX5_passAll_57 : decode cX5_passAll 57 = .ok (.aload_n 0, 1) := by decide +kernel
theorem dX5_passAll_58 : decode cX5_passAll 58 = .ok (.getfield 32, 3) := by decide +kernel
theorem dX5_passAll_61 : decode cX5_passAll 61 = .ok (.getfield 132, 3) := by decide +kernel
theorem dX5_passAll_64 : decode cX5_passAll 64 = .ok (.iload_n 3, 1) := by decide +kernel
theorem dX5_passAll_65 : decode cX5_passAll 65 = .ok (.iaload, 1) := by decide +kernel
theorem dX5_passAll_66 : decode cX5_passAll 66 = .ok (.invokevirtual 119, 3) := by decide +kernel
theorem dX5_passAll_69 : decode cX5_passAll 69 = .ok (.pop, 1) := by decide +kernel
theorem dX5_passAll_70 : decode cX5_passAll 70 = .ok (.iload_n 2, 1) := by decide +kernel
theorem dX5_passAll_71 : decode cX5_passAll 71 = .ok (.aload_n 0, 1) := by decide +kernel
theorem dX5_passAll_72 : decode cX5_passAll 72 = .ok (.getfield 32, 3) := by decide +kernel
theorem dX5_passAll_75 : decode cX5_passAll 75 = .ok (.getfield 129, 3) := by decide +kernel
theorem dX5_passAll_78 : decode cX5_passAll 78 = .ok (.iload_n 3, 1) := by decide +kernel
theorem dX5_passAll_79 : decode cX5_passAll 79 = .ok (.iaload, 1) := by decide +kernel
theorem dX5_passAll_80 : decode cX5_passAll 80 = .ok (.iadd, 1) := by decide +kernel
theorem dX5_passAll_81 : decode cX5_passAll 81 = .ok (.istore_n 2, 1) := by decide +kernel
theorem dX5_passAll_82 : decode cX5_passAll 82 = .ok (.iinc 3 1, 3) := by decide +kernel
theorem dX5_passAll_85 : decode cX5_passAll 85 = .ok (.goto (-52), 3) := by decide +kernel
theorem dX5_passAll_88 : decode cX5_passAll 88 = .ok (.iload_n 2, 1) := by decide +kernel
theorem dX5_passAll_89 : decode cX5_passAll 89 = .ok (.ireturn, 1) := by decide +kernel
theorem dX5_settle_0 : decode cX5_settle 0 = .ok (.aload_n 0, 1) := by decide +kernel
theorem dX5_settle_1 : decode cX5_settle 1 = .ok (.getfield 12, 3) := by decide +kernel
theorem dX5_settle_4 : decode cX5_settle 4 = .ok (.getfield 135, 3) := by decide +kernel
theorem dX5_settle_7 : decode cX5_settle 7 = .ok (.invokevirtual 139, 3) := by decide +kernel
theorem dX5_settle_10 : decode cX5_settle 10 = .ok (.ifCond .ne 6, 3) := by decide +kernel
theorem dX5_settle_13 : decode cX5_settle 13 = .ok (.bipush (-5), 2) := by decide +kernel
theorem dX5_settle_15 : decode cX5_settle 15 = .ok (.ireturn, 1) := by decide +kernel
theorem dX5_settle_16 : decode cX5_settle 16 = .ok (.aload_n 0, 1) := by decide +kernel
theorem dX5_settle_17 : decode cX5_settle 17 = .ok (.getfield 25, 3) := by decide +kernel
theorem dX5_settle_20 : decode cX5_settle 20 = .ok (.aload_n 0, 1) := by decide +kernel
theorem dX5_settle_21 : decode cX5_settle 21 = .ok (.getfield 12, 3) := by decide +kernel
theorem dX5_settle_24 : decode cX5_settle 24 = .ok (.invokevirtual 51, 3) := by decide +kernel
theorem dX5_settle_27 : decode cX5_settle 27 = .ok (.aload_n 0, 1) := by decide +kernel
theorem dX5_settle_28 : decode cX5_settle 28 = .ok (.getfield 12, 3) := by decide +kernel
theorem dX5_settle_31 : decode cX5_settle 31 = .ok (.invokevirtual 144, 3) := by decide +kernel
theorem dX5_settle_34 : decode cX5_settle 34 = .ok (.ireturn, 1) := by decide +kernel
theorem dX5_endYear_0 : decode cX5_endYear 0 = .ok (.aload_n 0, 1) := by decide +kernel
theorem dX5_endYear_1 : decode cX5_endYear 1 = .ok (.getfield 25, 3) := by decide +kernel
theorem dX5_endYear_4 : decode cX5_endYear 4 = .ok (.aload_n 0, 1) := by decide +kernel
theorem dX5_endYear_5 : decode cX5_endYear 5 = .ok (.getfield 12, 3) := by decide +kernel
theorem dX5_endYear_8 : decode cX5_endYear 8 = .ok (.invokevirtual 51, 3) := by decide +kernel
theorem dX5_endYear_11 : decode cX5_endYear 11 = .ok (.aload_n 0, 1) := by decide +kernel
theorem dX5_endYear_12 : decode cX5_endYear 12 = .ok (.getfield 12, 3) := by decide +kernel
theorem dX5_endYear_15 : decode cX5_endYear 15 = .ok (.invokevirtual 147, 3) := by decide +kernel
theorem dX5_endYear_18 : decode cX5_endYear 18 = .ok (.ireturn, 1) := by decide +kernel
theorem dX5_type_0 : decode cX5_type 0 = .ok (.aload_n 0, 1) := by decide +kernel
theorem dX5_type_1 : decode cX5_type 1 = .ok (.getfield 32, 3) := by decide +kernel
theorem dX5_type_4 : decode cX5_type 4 = .ok (.iload_n 1, 1) := by decide +kernel
theorem dX5_type_5 : decode cX5_type 5 = .ok (.invokevirtual 150, 3) := by decide +kernel
theorem dX5_type_8 : decode cX5_type 8 = .ok (.ifCond .eq 13, 3) := by decide +kernel
theorem dX5_type_11 : decode cX5_type 11 = .ok (.aload_n 0, 1) := by decide +kernel
theorem dX5_type_12 : decode cX5_type 12 = .ok (.getfield 32, 3) := by decide +kernel
theorem dX5_type_15 : decode cX5_type 15 = .ok (.getfield 154, 3) := by decide +kernel
theorem dX5_type_18 : decode cX5_type 18 = .ok (.goto 5, 3) := by decide +kernel
theorem dX5_type_21 : decode cX5_type 21 = .ok (.bipush (-3), 2) := by decide +kernel
theorem dX5_type_23 : decode cX5_type 23 = .ok (.ireturn, 1) := by decide +kernel
theorem dX5_clearText_0 : decode cX5_clearText 0 = .ok (.aload_n 0, 1) := by decide +kernel
theorem dX5_clearText_1 : decode cX5_clearText 1 = .ok (.getfield 32, 3) := by decide +kernel
theorem dX5_clearText_4 : decode cX5_clearText 4 = .ok (.getfield 154, 3) := by decide +kernel
theorem dX5_clearText_7 : decode cX5_clearText 7 = .ok (.istore_n 1, 1) := by decide +kernel
theorem dX5_clearText_8 : decode cX5_clearText 8 = .ok (.aload_n 0, 1) := by decide +kernel
theorem dX5_clearText_9 : decode cX5_clearText 9 = .ok (.getfield 32, 3) := by decide +kernel
theorem dX5_clearText_12 : decode cX5_clearText 12 = .ok (.iconst 0, 1) := by decide +kernel
theorem dX5_clearText_13 : decode cX5_clearText 13 = .ok (.putfield 154, 3) := by decide +kernel
theorem dX5_clearText_16 : decode cX5_clearText 16 = .ok (.iload_n 1, 1) := by decide +kernel
theorem dX5_clearText_17 : decode cX5_clearText 17 = .ok (.ireturn, 1) := by decide +kernel
theorem dX5_undo_0 : decode cX5_undo 0 = .ok (.aload_n 0, 1) := by decide +kernel
theorem dX5_undo_1 : decode cX5_undo 1 = .ok (.getfield 25, 3) := by decide +kernel
theorem dX5_undo_4 : decode cX5_undo 4 = .ok (.getfield 157, 3) := by decide +kernel
theorem dX5_undo_7 : decode cX5_undo 7 = .ok (.ifCond .ne 6, 3) := by decide +kernel
theorem dX5_undo_10 : decode cX5_undo 10 = .ok (.bipush (-5), 2) := by decide +kernel
theorem dX5_undo_12 : decode cX5_undo 12 = .ok (.ireturn, 1) := by decide +kernel
theorem dX5_undo_13 : decode cX5_undo 13 = .ok (.aload_n 0, 1) := by decide +kernel
theorem dX5_undo_14 : decode cX5_undo 14 = .ok (.getfield 25, 3) := by decide +kernel
theorem dX5_undo_17 : decode cX5_undo 17 = .ok (.aload_n 0, 1) := by decide +kernel
theorem dX5_undo_18 : decode cX5_undo 18 = .ok (.getfield 12, 3) := by decide +kernel
theorem dX5_undo_21 : decode cX5_undo 21 = .ok (.invokevirtual 160, 3) := by decide +kernel
theorem dX5_undo_24 : decode cX5_undo 24 = .ok (.aload_n 0, 1) := by decide +kernel
theorem dX5_undo_25 : decode cX5_undo 25 = .ok (.getfield 25, 3) := by decide +kernel
theorem dX5_undo_28 : decode cX5_undo 28 = .ok (.getfield 157, 3) := by decide +kernel
theorem dX5_undo_31 : decode cX5_undo 31 = .ok (.ireturn, 1) := by decide +kernel
theorem dX5_keep_0 : decode cX5_keep 0 = .ok (.aload_n 0, 1) := by decide +kernel
theorem dX5_keep_1 : decode cX5_keep 1 = .ok (.getfield 16, 3) := by decide +kernel
theorem dX5_keep_4 : decode cX5_keep 4 = .ok (.aload_n 0, 1) := by decide +kernel
theorem dX5_keep_5 : decode cX5_keep 5 = .ok (.getfield 12, 3) := by decide +kernel
theorem dX5_keep_8 : decode cX5_keep 8 = .ok (.invokevirtual 163, 3) := by decide +kernel
theorem dX5_keep_11 : decode cX5_keep 11 = .ok (.aload_n 0, 1) := by decide +kernel
theorem dX5_keep_12 : decode cX5_keep 12 = .ok (.iconst 1, 1) := by decide +kernel
theorem dX5_keep_13 : decode cX5_keep 13 = .ok (.putfield 36, 3) := by decide +kernel
theorem dX5_keep_16 : decode cX5_keep 16 = .ok (.aload_n 0, 1) := by decide +kernel
theorem dX5_keep_17 : decode cX5_keep 17 = .ok (.getfield 12, 3) := by decide +kernel
theorem dX5_keep_20 : decode cX5_keep 20 = .ok (.getfield 80, 3) := by decide +kernel
theorem dX5_keep_23 : decode cX5_keep 23 = .ok (.invokevirtual 166, 3) := by decide +kernel
theorem dX5_keep_26 : decode cX5_keep 26 = .ok (.ireturn, 1) := by decide +kernel
theorem dX5_restore_0 : decode cX5_restore 0 = .ok (.aload_n 0, 1) := by decide +kernel
theorem dX5_restore_1 : decode cX5_restore 1 = .ok (.getfield 36, 3) := by decide +kernel
theorem dX5_restore_4 : decode cX5_restore 4 = .ok (.ifCond .ne 6, 3) := by decide +kernel
theorem dX5_restore_7 : decode cX5_restore 7 = .ok (.bipush (-5), 2) := by decide +kernel
theorem dX5_restore_9 : decode cX5_restore 9 = .ok (.ireturn, 1) := by decide +kernel
theorem dX5_restore_10 : decode cX5_restore 10 = .ok (.aload_n 0, 1) := by decide +kernel
theorem dX5_restore_11 : decode cX5_restore 11 = .ok (.getfield 25, 3) := by decide +kernel
theorem dX5_restore_14 : decode cX5_restore 14 = .ok (.aload_n 0, 1) := by decide +kernel
theorem dX5_restore_15 : decode cX5_restore 15 = .ok (.getfield 12, 3) := by decide +kernel
theorem dX5_restore_18 : decode cX5_restore 18 = .ok (.invokevirtual 51, 3) := by decide +kernel
theorem dX5_restore_21 : decode cX5_restore 21 = .ok (.aload_n 0, 1) := by decide +kernel
theorem dX5_restore_22 : decode cX5_restore 22 = .ok (.getfield 12, 3) := by decide +kernel
theorem dX5_restore_25 : decode cX5_restore 25 = .ok (.aload_n 0, 1) := by decide +kernel
theorem dX5_restore_26 : decode cX5_restore 26 = .ok (.getfield 16, 3) := by decide +kernel
theorem dX5_restore_29 : decode cX5_restore 29 = .ok (.invokevirtual 163, 3) := by decide +kernel
theorem dX5_restore_32 : decode cX5_restore 32 = .ok (.aload_n 0, 1) := by decide +kernel
theorem dX5_restore_33 : decode cX5_restore 33 = .ok (.getfield 12, 3) := by decide +kernel
theorem dX5_restore_36 : decode cX5_restore 36 = .ok (.getfield 80, 3) := by decide +kernel
theorem dX5_restore_39 : decode cX5_restore 39 = .ok (.invokevirtual 166, 3) := by decide +kernel
theorem dX5_restore_42 : decode cX5_restore 42 = .ok (.ireturn, 1) := by decide +kernel
theorem dX5_commoner_0 : decode cX5_commoner 0 = .ok (.iload_n 1, 1) := by decide +kernel
theorem dX5_commoner_1 : decode cX5_commoner 1 = .ok (.invokestatic 44, 3) := by decide +kernel
theorem dX5_commoner_4 : decode cX5_commoner 4 = .ok (.ifCond .ne 5, 3) := by decide +kernel
theorem dX5_commoner_7 : decode cX5_commoner 7 = .ok (.iconst (-1), 1) := by decide +kernel
theorem dX5_commoner_8 : decode cX5_commoner 8 = .ok (.ireturn, 1) := by decide +kernel
theorem dX5_commoner_9 : decode cX5_commoner 9 = .ok (.iload_n 2, 1) := by decide +kernel
theorem dX5_commoner_10 : decode cX5_commoner 10 = .ok (.tableswitch 136 0 7 #[46, 56, 66, 76, 88, 100, 112, 124], 46) := by decide +kernel
theorem dX5_commoner_56 : decode cX5_commoner 56 = .ok (.aload_n 0, 1) := by decide +kernel
theorem dX5_commoner_57 : decode cX5_commoner 57 = .ok (.getfield 12, 3) := by decide +kernel
theorem dX5_commoner_60 : decode cX5_commoner 60 = .ok (.getfield 62, 3) := by decide +kernel
theorem dX5_commoner_63 : decode cX5_commoner 63 = .ok (.iload_n 1, 1) := by decide +kernel
theorem dX5_commoner_64 : decode cX5_commoner 64 = .ok (.iaload, 1) := by decide +kernel
theorem dX5_commoner_65 : decode cX5_commoner 65 = .ok (.ireturn, 1) := by decide +kernel
theorem dX5_commoner_66 : decode cX5_commoner 66 = .ok (.aload_n 0, 1) := by decide +kernel
theorem dX5_commoner_67 : decode cX5_commoner 67 = .ok (.getfield 12, 3) := by decide +kernel
theorem dX5_commoner_70 : decode cX5_commoner 70 = .ok (.getfield 169, 3) := by decide +kernel
theorem dX5_commoner_73 : decode cX5_commoner 73 = .ok (.iload_n 1, 1) := by decide +kernel
theorem dX5_commoner_74 : decode cX5_commoner 74 = .ok (.iaload, 1) := by decide +kernel
theorem dX5_commoner_75 : decode cX5_commoner 75 = .ok (.ireturn, 1) := by decide +kernel
theorem dX5_commoner_76 : decode cX5_commoner 76 = .ok (.aload_n 0, 1) := by decide +kernel
theorem dX5_commoner_77 : decode cX5_commoner 77 = .ok (.getfield 12, 3) := by decide +kernel
theorem dX5_commoner_80 : decode cX5_commoner 80 = .ok (.getfield 172, 3) := by decide +kernel
theorem dX5_commoner_83 : decode cX5_commoner 83 = .ok (.iload_n 1, 1) := by decide +kernel
theorem dX5_commoner_84 : decode cX5_commoner 84 = .ok (.iaload, 1) := by decide +kernel
theorem dX5_commoner_85 : decode cX5_commoner 85 = .ok (.ireturn, 1) := by decide +kernel
theorem dX5_commoner_86 : decode cX5_commoner 86 = .ok (.aload_n 0, 1) := by decide +kernel
theorem dX5_commoner_87 : decode cX5_commoner 87 = .ok (.getfield 12, 3) := by decide +kernel
theorem dX5_commoner_90 : decode cX5_commoner 90 = .ok (.getfield 80, 3) := by decide +kernel
theorem dX5_commoner_93 : decode cX5_commoner 93 = .ok (.iload_n 1, 1) := by decide +kernel
theorem dX5_commoner_94 : decode cX5_commoner 94 = .ok (.invokevirtual 175, 3) := by decide +kernel
theorem dX5_commoner_97 : decode cX5_commoner 97 = .ok (.ireturn, 1) := by decide +kernel
theorem dX5_commoner_98 : decode cX5_commoner 98 = .ok (.aload_n 0, 1) := by decide +kernel
theorem dX5_commoner_99 : decode cX5_commoner 99 = .ok (.getfield 12, 3) := by decide +kernel
theorem dX5_commoner_102 : decode cX5_commoner 102 = .ok (.getfield 80, 3) := by decide +kernel
theorem dX5_commoner_105 : decode cX5_commoner 105 = .ok (.iload_n 1, 1) := by decide +kernel
theorem dX5_commoner_106 : decode cX5_commoner 106 = .ok (.invokevirtual 112, 3) := by decide +kernel
theorem dX5_commoner_109 : decode cX5_commoner 109 = .ok (.ireturn, 1) := by decide +kernel
theorem dX5_commoner_110 : decode cX5_commoner 110 = .ok (.aload_n 0, 1) := by decide +kernel
theorem dX5_commoner_111 : decode cX5_commoner 111 = .ok (.getfield 12, 3) := by decide +kernel
theorem dX5_commoner_114 : decode cX5_commoner 114 = .ok (.getfield 55, 3) := by decide +kernel
theorem dX5_commoner_117 : decode cX5_commoner 117 = .ok (.iload_n 1, 1) := by decide +kernel
theorem dX5_commoner_118 : decode cX5_commoner 118 = .ok (.invokestatic 178, 3) := by decide +kernel
theorem dX5_commoner_121 : decode cX5_commoner 121 = .ok (.ireturn, 1) := by decide +kernel
theorem dX5_commoner_122 : decode cX5_commoner 122 = .ok (.aload_n 0, 1) := by decide +kernel
theorem dX5_commoner_123 : decode cX5_commoner 123 = .ok (.getfield 12, 3) := by decide +kernel
theorem dX5_commoner_126 : decode cX5_commoner 126 = .ok (.getfield 47, 3) := by decide +kernel
theorem dX5_commoner_129 : decode cX5_commoner 129 = .ok (.iload_n 1, 1) := by decide +kernel
theorem dX5_commoner_130 : decode cX5_commoner 130 = .ok (.invokestatic 178, 3) := by decide +kernel
theorem dX5_commoner_133 : decode cX5_commoner 133 = .ok (.ireturn, 1) := by decide +kernel
theorem dX5_commoner_134 : decode cX5_commoner 134 = .ok (.aload_n 0, 1) := by decide +kernel
theorem dX5_commoner_135 : decode cX5_commoner 135 = .ok (.getfield 12, 3) := by decide +kernel
theorem dX5_commoner_138 : decode cX5_commoner 138 = .ok (.getfield 135, 3) := by decide +kernel
theorem dX5_commoner_141 : decode cX5_commoner 141 = .ok (.iload_n 1, 1) := by decide +kernel
theorem dX5_commoner_142 : decode cX5_commoner 142 = .ok (.invokevirtual 182, 3) := by decide +kernel
theorem dX5_commoner_145 : decode cX5_commoner 145 = .ok (.ireturn, 1) := by decide +kernel
theorem dX5_commoner_146 : decode cX5_commoner 146 = .ok (.bipush (-2), 2) := by decide +kernel
theorem dX5_commoner_148 : decode cX5_commoner 148 = .ok (.ireturn, 1) := by decide +kernel
theorem dX5_plot_0 : decode cX5_plot 0 = .ok (.iload_n 1, 1) := by decide +kernel
theorem dX5_plot_1 : decode cX5_plot 1 = .ok (.invokestatic 40, 3) := by decide +kernel
theorem dX5_plot_4 : decode cX5_plot 4 = .ok (.ifCond .ne 5, 3) := by decide +kernel
theorem dX5_plot_7 : decode cX5_plot 7 = .ok (.iconst (-1), 1) := by decide +kernel
theorem dX5_plot_8 : decode cX5_plot 8 = .ok (.ireturn, 1) := by decide +kernel
theorem dX5_plot_9 : decode cX5_plot 9 = .ok (.iload_n 2, 1) := by decide +kernel
theorem dX5_plot_10 : decode cX5_plot 10 = .ok (.tableswitch 90 0 3 #[30, 40, 50, 60], 30) := by decide +kernel
theorem dX5_plot_40 : decode cX5_plot 40 = .ok (.aload_n 0, 1) := by decide +kernel
theorem dX5_plot_41 : decode cX5_plot 41 = .ok (.getfield 12, 3) := by decide +kernel
theorem dX5_plot_44 : decode cX5_plot 44 = .ok (.getfield 185, 3) := by decide +kernel
theorem dX5_plot_47 : decode cX5_plot 47 = .ok (.iload_n 1, 1) := by decide +kernel
theorem dX5_plot_48 : decode cX5_plot 48 = .ok (.iaload, 1) := by decide +kernel
theorem dX5_plot_49 : decode cX5_plot 49 = .ok (.ireturn, 1) := by decide +kernel
theorem dX5_plot_50 : decode cX5_plot 50 = .ok (.aload_n 0, 1) := by decide +kernel
theorem dX5_plot_51 : decode cX5_plot 51 = .ok (.getfield 12, 3) := by decide +kernel
theorem dX5_plot_54 : decode cX5_plot 54 = .ok (.getfield 55, 3) := by decide +kernel
theorem dX5_plot_57 : decode cX5_plot 57 = .ok (.iload_n 1, 1) := by decide +kernel
theorem dX5_plot_58 : decode cX5_plot 58 = .ok (.iaload, 1) := by decide +kernel
theorem dX5_plot_59 : decode cX5_plot 59 = .ok (.ireturn, 1) := by decide +kernel
theorem dX5_plot_60 : decode cX5_plot 60 = .ok (.aload_n 0, 1) := by decide +kernel
theorem dX5_plot_61 : decode cX5_plot 61 = .ok (.getfield 12, 3) := by decide +kernel
theorem dX5_plot_64 : decode cX5_plot 64 = .ok (.getfield 47, 3) := by decide +kernel
theorem dX5_plot_67 : decode cX5_plot 67 = .ok (.iload_n 1, 1) := by decide +kernel
theorem dX5_plot_68 : decode cX5_plot 68 = .ok (.iaload, 1) := by decide +kernel
theorem dX5_plot_69 : decode cX5_plot 69 = .ok (.ireturn, 1) := by decide +kernel
theorem dX5_plot_70 : decode cX5_plot 70 = .ok (.aload_n 0, 1) := by decide +kernel
theorem dX5_plot_71 : decode cX5_plot 71 = .ok (.getfield 12, 3) := by decide +kernel
theorem dX5_plot_74 : decode cX5_plot 74 = .ok (.getfield 47, 3) := by decide +kernel
theorem dX5_plot_77 : decode cX5_plot 77 = .ok (.iload_n 1, 1) := by decide +kernel
theorem dX5_plot_78 : decode cX5_plot 78 = .ok (.iaload, 1) := by decide +kernel
theorem dX5_plot_79 : decode cX5_plot 79 = .ok (.aload_n 0, 1) := by decide +kernel
theorem dX5_plot_80 : decode cX5_plot 80 = .ok (.getfield 12, 3) := by decide +kernel
theorem dX5_plot_83 : decode cX5_plot 83 = .ok (.getfield 55, 3) := by decide +kernel
theorem dX5_plot_86 : decode cX5_plot 86 = .ok (.iload_n 1, 1) := by decide +kernel
theorem dX5_plot_87 : decode cX5_plot 87 = .ok (.iaload, 1) := by decide +kernel
theorem dX5_plot_88 : decode cX5_plot 88 = .ok (.if_icmp .eq 7, 3) := by decide +kernel
theorem dX5_plot_91 : decode cX5_plot 91 = .ok (.iconst 1, 1) := by decide +kernel
theorem dX5_plot_92 : decode cX5_plot 92 = .ok (.goto 4, 3) := by decide +kernel
theorem dX5_plot_95 : decode cX5_plot 95 = .ok (.iconst 0, 1) := by decide +kernel
theorem dX5_plot_96 : decode cX5_plot 96 = .ok (.invokestatic 188, 3) := by decide +kernel
theorem dX5_plot_99 : decode cX5_plot 99 = .ok (.ireturn, 1) := by decide +kernel
theorem dX5_plot_100 : decode cX5_plot 100 = .ok (.bipush (-2), 2) := by decide +kernel
theorem dX5_plot_102 : decode cX5_plot 102 = .ok (.ireturn, 1) := by decide +kernel
theorem dX5_row_0 : decode cX5_row 0 = .ok (.aload_n 0, 1) := by decide +kernel
theorem dX5_row_1 : decode cX5_row 1 = .ok (.getfield 12, 3) := by decide +kernel
theorem dX5_row_4 : decode cX5_row 4 = .ok (.getfield 80, 3) := by decide +kernel
theorem dX5_row_7 : decode cX5_row 7 = .ok (.iload_n 1, 1) := by decide +kernel
theorem dX5_row_8 : decode cX5_row 8 = .ok (.invokevirtual 93, 3) := by decide +kernel
theorem dX5_row_11 : decode cX5_row 11 = .ok (.ifCond .ne 5, 3) := by decide +kernel
theorem dX5_row_14 : decode cX5_row 14 = .ok (.iconst (-1), 1) := by decide +kernel
theorem dX5_row_15 : decode cX5_row 15 = .ok (.ireturn, 1) := by decide +kernel
theorem dX5_row_16 : decode cX5_row 16 = .ok (.iload_n 2, 1) := by decide +kernel
theorem dX5_row_17 : decode cX5_row 17 = .ok (.tableswitch 141 0 6 #[43, 56, 69, 82, 98, 114, 129], 43) := by decide +kernel
theorem dX5_row_60 : decode cX5_row 60 = .ok (.aload_n 0, 1) := by decide +kernel
theorem dX5_row_61 : decode cX5_row 61 = .ok (.getfield 12, 3) := by decide +kernel
theorem dX5_row_64 : decode cX5_row 64 = .ok (.getfield 80, 3) := by decide +kernel
theorem dX5_row_67 : decode cX5_row 67 = .ok (.getfield 109, 3) := by decide +kernel
theorem dX5_row_70 : decode cX5_row 70 = .ok (.iload_n 1, 1) := by decide +kernel
theorem dX5_row_71 : decode cX5_row 71 = .ok (.iaload, 1) := by decide +kernel
theorem dX5_row_72 : decode cX5_row 72 = .ok (.ireturn, 1) := by decide +kernel
theorem dX5_row_73 : decode cX5_row 73 = .ok (.aload_n 0, 1) := by decide +kernel
theorem dX5_row_74 : decode cX5_row 74 = .ok (.getfield 12, 3) := by decide +kernel
theorem dX5_row_77 : decode cX5_row 77 = .ok (.getfield 80, 3) := by decide +kernel
theorem dX5_row_80 : decode cX5_row 80 = .ok (.getfield 192, 3) := by decide +kernel
theorem dX5_row_83 : decode cX5_row 83 = .ok (.iload_n 1, 1) := by decide +kernel
theorem dX5_row_84 : decode cX5_row 84 = .ok (.iaload, 1) := by decide +kernel
theorem dX5_row_85 : decode cX5_row 85 = .ok (.ireturn, 1) := by decide +kernel
theorem dX5_row_86 : decode cX5_row 86 = .ok (.aload_n 0, 1) := by decide +kernel
theorem dX5_row_87 : decode cX5_row 87 = .ok (.getfield 12, 3) := by decide +kernel
theorem dX5_row_90 : decode cX5_row 90 = .ok (.getfield 80, 3) := by decide +kernel
theorem dX5_row_93 : decode cX5_row 93 = .ok (.getfield 103, 3) := by decide +kernel
theorem dX5_row_96 : decode cX5_row 96 = .ok (.iload_n 1, 1) := by decide +kernel
theorem dX5_row_97 : decode cX5_row 97 = .ok (.iaload, 1) := by decide +kernel
theorem dX5_row_98 : decode cX5_row 98 = .ok (.ireturn, 1) := by decide +kernel
theorem dX5_row_99 : decode cX5_row 99 = .ok (.aload_n 0, 1) := by decide +kernel
theorem dX5_row_100 : decode cX5_row 100 = .ok (.getfield 12, 3) := by decide +kernel
theorem dX5_row_103 : decode cX5_row 103 = .ok (.getfield 80, 3) := by decide +kernel
theorem dX5_row_106 : decode cX5_row 106 = .ok (.getfield 100, 3) := by decide +kernel
theorem dX5_row_109 : decode cX5_row 109 = .ok (.iload_n 1, 1) := by decide +kernel
theorem dX5_row_110 : decode cX5_row 110 = .ok (.baload, 1) := by decide +kernel
theorem dX5_row_111 : decode cX5_row 111 = .ok (.invokestatic 188, 3) := by decide +kernel
theorem dX5_row_114 : decode cX5_row 114 = .ok (.ireturn, 1) := by decide +kernel
theorem dX5_row_115 : decode cX5_row 115 = .ok (.aload_n 0, 1) := by decide +kernel
theorem dX5_row_116 : decode cX5_row 116 = .ok (.getfield 12, 3) := by decide +kernel
theorem dX5_row_119 : decode cX5_row 119 = .ok (.getfield 80, 3) := by decide +kernel
theorem dX5_row_122 : decode cX5_row 122 = .ok (.getfield 96, 3) := by decide +kernel
theorem dX5_row_125 : decode cX5_row 125 = .ok (.iload_n 1, 1) := by decide +kernel
theorem dX5_row_126 : decode cX5_row 126 = .ok (.baload, 1) := by decide +kernel
theorem dX5_row_127 : decode cX5_row 127 = .ok (.invokestatic 188, 3) := by decide +kernel
theorem dX5_row_130 : decode cX5_row 130 = .ok (.ireturn, 1) := by decide +kernel
theorem dX5_row_131 : decode cX5_row 131 = .ok (.aload_n 0, 1) := by decide +kernel
theorem dX5_row_132 : decode cX5_row 132 = .ok (.getfield 12, 3) := by decide +kernel
theorem dX5_row_135 : decode cX5_row 135 = .ok (.getfield 80, 3) := by decide +kernel
theorem dX5_row_138 : decode cX5_row 138 = .ok (.iload_n 1, 1) := by decide +kernel
theorem dX5_row_139 : decode cX5_row 139 = .ok (.invokevirtual 106, 3) := by decide +kernel
theorem dX5_row_142 : decode cX5_row 142 = .ok (.invokestatic 188, 3) := by decide +kernel
theorem dX5_row_145 : decode cX5_row 145 = .ok (.ireturn, 1) := by decide +kernel
theorem dX5_row_146 : decode cX5_row 146 = .ok (.aload_n 0, 1) := by decide +kernel
theorem dX5_row_147 : decode cX5_row 147 = .ok (.getfield 12, 3) := by decide +kernel
theorem dX5_row_150 : decode cX5_row 150 = .ok (.getfield 80, 3) := by decide +kernel
theorem dX5_row_153 : decode cX5_row 153 = .ok (.iload_n 1, 1) := by decide +kernel
theorem dX5_row_154 : decode cX5_row 154 = .ok (.invokevirtual 195, 3) := by decide +kernel
theorem dX5_row_157 : decode cX5_row 157 = .ok (.ireturn, 1) := by decide +kernel
theorem dX5_row_158 : decode cX5_row 158 = .ok (.bipush (-2), 2) := by decide +kernel
theorem dX5_row_160 : decode cX5_row 160 = .ok (.ireturn, 1) := by decide +kernel
theorem dX5_why_0 : decode cX5_why 0 = .ok (.iload_n 1, 1) := by decide +kernel
theorem dX5_why_1 : decode cX5_why 1 = .ok (.invokestatic 44, 3) := by decide +kernel
theorem dX5_why_4 : decode cX5_why 4 = .ok (.ifCond .eq 10, 3) := by decide +kernel
theorem dX5_why_7 : decode cX5_why 7 = .ok (.iload_n 2, 1) := by decide +kernel
theorem dX5_why_8 : decode cX5_why 8 = .ok (.invokestatic 40, 3) := by decide +kernel
theorem dX5_why_11 : decode cX5_why 11 = .ok (.ifCond .ne 5, 3) := by decide +kernel
theorem dX5_why_14 : decode cX5_why 14 = .ok (.iconst (-1), 1) := by decide +kernel
theorem dX5_why_15 : decode cX5_why 15 = .ok (.ireturn, 1) := by decide +kernel
theorem dX5_why_16 : decode cX5_why 16 = .ok (.aload_n 0, 1) := by decide +kernel
theorem dX5_why_17 : decode cX5_why 17 = .ok (.getfield 12, 3) := by decide +kernel
theorem dX5_why_20 : decode cX5_why 20 = .ok (.iload_n 1, 1) := by decide +kernel
theorem dX5_why_21 : decode cX5_why 21 = .ok (.iload_n 2, 1) := by decide +kernel
theorem dX5_why_22 : decode cX5_why 22 = .ok (.invokevirtual 76, 3) := by decide +kernel
theorem dX5_why_25 : decode cX5_why 25 = .ok (.ireturn, 1) := by decide +kernel
theorem dX5_dispute_0 : decode cX5_dispute 0 = .ok (.iload_n 1, 1) := by decide +kernel
theorem dX5_dispute_1 : decode cX5_dispute 1 = .ok (.ifCond .lt 12, 3) := by decide +kernel
theorem dX5_dispute_4 : decode cX5_dispute 4 = .ok (.iload_n 2, 1) := by decide +kernel
theorem dX5_dispute_5 : decode cX5_dispute 5 = .ok (.iconst 0, 1) := by decide +kernel
theorem dX5_dispute_6 : decode cX5_dispute 6 = .ok (.iconst 3, 1) := by decide +kernel
theorem dX5_dispute_7 : decode cX5_dispute 7 = .ok (.invokestatic 58, 3) := by decide +kernel
theorem dX5_dispute_10 : decode cX5_dispute 10 = .ok (.ifCond .ne 6, 3) := by decide +kernel
theorem dX5_dispute_13 : decode cX5_dispute 13 = .ok (.bipush (-2), 2) := by decide +kernel
theorem dX5_dispute_15 : decode cX5_dispute 15 = .ok (.ireturn, 1) := by decide +kernel
theorem dX5_dispute_16 : decode cX5_dispute 16 = .ok (.aload_n 0, 1) := by decide +kernel
theorem dX5_dispute_17 : decode cX5_dispute 17 = .ok (.getfield 12, 3) := by decide +kernel
theorem dX5_dispute_20 : decode cX5_dispute 20 = .ok (.getfield 135, 3) := by decide +kernel
theorem dX5_dispute_23 : decode cX5_dispute 23 = .ok (.iload_n 1, 1) := by decide +kernel
theorem dX5_dispute_24 : decode cX5_dispute 24 = .ok (.invokevirtual 201, 3) := by decide +kernel
theorem dX5_dispute_27 : decode cX5_dispute 27 = .ok (.istore_n 3, 1) := by decide +kernel
theorem dX5_dispute_28 : decode cX5_dispute 28 = .ok (.iload_n 3, 1) := by decide +kernel
theorem dX5_dispute_29 : decode cX5_dispute 29 = .ok (.bipush (-5), 2) := by decide +kernel
theorem dX5_dispute_31 : decode cX5_dispute 31 = .ok (.if_icmp .ne 6, 3) := by decide +kernel
theorem dX5_dispute_34 : decode cX5_dispute 34 = .ok (.bipush (-5), 2) := by decide +kernel
theorem dX5_dispute_36 : decode cX5_dispute 36 = .ok (.ireturn, 1) := by decide +kernel
theorem dX5_dispute_37 : decode cX5_dispute 37 = .ok (.iload_n 2, 1) := by decide +kernel
theorem dX5_dispute_38 : decode cX5_dispute 38 = .ok (.tableswitch 65 0 2 #[26, 39, 52], 26) := by decide +kernel
theorem dX5_dispute_64 : decode cX5_dispute 64 = .ok (.aload_n 0, 1) := by decide +kernel
theorem dX5_dispute_65 : decode cX5_dispute 65 = .ok (.getfield 12, 3) := by decide +kernel
theorem dX5_dispute_68 : decode cX5_dispute 68 = .ok (.getfield 135, 3) := by decide +kernel
theorem dX5_dispute_71 : decode cX5_dispute 71 = .ok (.getfield 204, 3) := by decide +kernel
theorem dX5_dispute_74 : decode cX5_dispute 74 = .ok (.iload_n 3, 1) := by decide +kernel
theorem dX5_dispute_75 : decode cX5_dispute 75 = .ok (.iaload, 1) := by decide +kernel
theorem dX5_dispute_76 : decode cX5_dispute 76 = .ok (.ireturn, 1) := by decide +kernel
theorem dX5_dispute_77 : decode cX5_dispute 77 = .ok (.aload_n 0, 1) := by decide +kernel
theorem dX5_dispute_78 : decode cX5_dispute 78 = .ok (.getfield 12, 3) := by decide +kernel
theorem dX5_dispute_81 : decode cX5_dispute 81 = .ok (.getfield 135, 3) := by decide +kernel
theorem dX5_dispute_84 : decode cX5_dispute 84 = .ok (.getfield 207, 3) := by decide +kernel
theorem dX5_dispute_87 : decode cX5_dispute 87 = .ok (.iload_n 3, 1) := by decide +kernel
theorem dX5_dispute_88 : decode cX5_dispute 88 = .ok (.iaload, 1) := by decide +kernel
theorem dX5_dispute_89 : decode cX5_dispute 89 = .ok (.ireturn, 1) := by decide +kernel
theorem dX5_dispute_90 : decode cX5_dispute 90 = .ok (.aload_n 0, 1) := by decide +kernel
theorem dX5_dispute_91 : decode cX5_dispute 91 = .ok (.getfield 12, 3) := by decide +kernel
theorem dX5_dispute_94 : decode cX5_dispute 94 = .ok (.getfield 135, 3) := by decide +kernel
theorem dX5_dispute_97 : decode cX5_dispute 97 = .ok (.getfield 210, 3) := by decide +kernel
theorem dX5_dispute_100 : decode cX5_dispute 100 = .ok (.iload_n 3, 1) := by decide +kernel
theorem dX5_dispute_101 : decode cX5_dispute 101 = .ok (.iaload, 1) := by decide +kernel
theorem dX5_dispute_102 : decode cX5_dispute 102 = .ok (.ireturn, 1) := by decide +kernel
theorem dX5_dispute_103 : decode cX5_dispute 103 = .ok (.aload_n 0, 1) := by decide +kernel
theorem dX5_dispute_104 : decode cX5_dispute 104 = .ok (.getfield 12, 3) := by decide +kernel
theorem dX5_dispute_107 : decode cX5_dispute 107 = .ok (.getfield 135, 3) := by decide +kernel
theorem dX5_dispute_110 : decode cX5_dispute 110 = .ok (.getfield 213, 3) := by decide +kernel
theorem dX5_dispute_113 : decode cX5_dispute 113 = .ok (.iload_n 3, 1) := by decide +kernel
theorem dX5_dispute_114 : decode cX5_dispute 114 = .ok (.iaload, 1) := by decide +kernel
theorem dX5_dispute_115 : decode cX5_dispute 115 = .ok (.ireturn, 1) := by decide +kernel
theorem dX5_cart_0 : decode cX5_cart 0 = .ok (.iload_n 1, 1) := by decide +kernel
theorem dX5_cart_1 : decode cX5_cart 1 = .ok (.iconst 0, 1) := by decide +kernel
theorem dX5_cart_2 : decode cX5_cart 2 = .ok (.iconst 1, 1) := by decide +kernel
theorem dX5_cart_3 : decode cX5_cart 3 = .ok (.invokestatic 58, 3) := by decide +kernel
theorem dX5_cart_6 : decode cX5_cart 6 = .ok (.ifCond .ne 5, 3) := by decide +kernel
theorem dX5_cart_9 : decode cX5_cart 9 = .ok (.iconst (-1), 1) := by decide +kernel
theorem dX5_cart_10 : decode cX5_cart 10 = .ok (.ireturn, 1) := by decide +kernel
theorem dX5_cart_11 : decode cX5_cart 11 = .ok (.aload_n 0, 1) := by decide +kernel
theorem dX5_cart_12 : decode cX5_cart 12 = .ok (.getfield 12, 3) := by decide +kernel
theorem dX5_cart_15 : decode cX5_cart 15 = .ok (.iload_n 1, 1) := by decide +kernel
theorem dX5_cart_16 : decode cX5_cart 16 = .ok (.invokevirtual 214, 3) := by decide +kernel
theorem dX5_cart_19 : decode cX5_cart 19 = .ok (.ireturn, 1) := by decide +kernel
theorem dX5_count_0 : decode cX5_count 0 = .ok (.iload_n 1, 1) := by decide +kernel
theorem dX5_count_1 : decode cX5_count 1 = .ok (.tableswitch 219 0 14 #[75, 83, 91, 102, 113, 124, 135, 143, 154, 165, 176, 187, 195, 203, 211], 75) := by decide +kernel
theorem dX5_count_76 : decode cX5_count 76 = .ok (.aload_n 0, 1) := by decide +kernel
theorem dX5_count_77 : decode cX5_count 77 = .ok (.getfield 12, 3) := by decide +kernel
theorem dX5_count_80 : decode cX5_count 80 = .ok (.getfield 217, 3) := by decide +kernel
theorem dX5_count_83 : decode cX5_count 83 = .ok (.ireturn, 1) := by decide +kernel
theorem dX5_count_84 : decode cX5_count 84 = .ok (.aload_n 0, 1) := by decide +kernel
theorem dX5_count_85 : decode cX5_count 85 = .ok (.getfield 12, 3) := by decide +kernel
theorem dX5_count_88 : decode cX5_count 88 = .ok (.getfield 220, 3) := by decide +kernel
theorem dX5_count_91 : decode cX5_count 91 = .ok (.ireturn, 1) := by decide +kernel
theorem dX5_count_92 : decode cX5_count 92 = .ok (.aload_n 0, 1) := by decide +kernel
theorem dX5_count_93 : decode cX5_count 93 = .ok (.getfield 12, 3) := by decide +kernel
theorem dX5_count_96 : decode cX5_count 96 = .ok (.getfield 80, 3) := by decide +kernel
theorem dX5_count_99 : decode cX5_count 99 = .ok (.invokevirtual 166, 3) := by decide +kernel
theorem dX5_count_102 : decode cX5_count 102 = .ok (.ireturn, 1) := by decide +kernel
theorem dX5_count_103 : decode cX5_count 103 = .ok (.aload_n 0, 1) := by decide +kernel
theorem dX5_count_104 : decode cX5_count 104 = .ok (.getfield 12, 3) := by decide +kernel
theorem dX5_count_107 : decode cX5_count 107 = .ok (.getfield 80, 3) := by decide +kernel
theorem dX5_count_110 : decode cX5_count 110 = .ok (.getfield 223, 3) := by decide +kernel
theorem dX5_count_113 : decode cX5_count 113 = .ok (.ireturn, 1) := by decide +kernel
theorem dX5_count_114 : decode cX5_count 114 = .ok (.aload_n 0, 1) := by decide +kernel
theorem dX5_count_115 : decode cX5_count 115 = .ok (.getfield 12, 3) := by decide +kernel
theorem dX5_count_118 : decode cX5_count 118 = .ok (.getfield 80, 3) := by decide +kernel
theorem dX5_count_121 : decode cX5_count 121 = .ok (.invokevirtual 226, 3) := by decide +kernel
theorem dX5_count_124 : decode cX5_count 124 = .ok (.ireturn, 1) := by decide +kernel
theorem dX5_count_125 : decode cX5_count 125 = .ok (.aload_n 0, 1) := by decide +kernel
theorem dX5_count_126 : decode cX5_count 126 = .ok (.getfield 12, 3) := by decide +kernel
theorem dX5_count_129 : decode cX5_count 129 = .ok (.getfield 80, 3) := by decide +kernel
theorem dX5_count_132 : decode cX5_count 132 = .ok (.invokevirtual 229, 3) := by decide +kernel
theorem dX5_count_135 : decode cX5_count 135 = .ok (.ireturn, 1) := by decide +kernel
theorem dX5_count_136 : decode cX5_count 136 = .ok (.aload_n 0, 1) := by decide +kernel
theorem dX5_count_137 : decode cX5_count 137 = .ok (.getfield 12, 3) := by decide +kernel
theorem dX5_count_140 : decode cX5_count 140 = .ok (.getfield 232, 3) := by decide +kernel
theorem dX5_count_143 : decode cX5_count 143 = .ok (.ireturn, 1) := by decide +kernel
theorem dX5_count_144 : decode cX5_count 144 = .ok (.aload_n 0, 1) := by decide +kernel
theorem dX5_count_145 : decode cX5_count 145 = .ok (.getfield 12, 3) := by decide +kernel
theorem dX5_count_148 : decode cX5_count 148 = .ok (.getfield 172, 3) := by decide +kernel
theorem dX5_count_151 : decode cX5_count 151 = .ok (.invokestatic 235, 3) := by decide +kernel
theorem dX5_count_154 : decode cX5_count 154 = .ok (.ireturn, 1) := by decide +kernel
theorem dX5_count_155 : decode cX5_count 155 = .ok (.aload_n 0, 1) := by decide +kernel
theorem dX5_count_156 : decode cX5_count 156 = .ok (.getfield 12, 3) := by decide +kernel
theorem dX5_count_159 : decode cX5_count 159 = .ok (.getfield 185, 3) := by decide +kernel
theorem dX5_count_162 : decode cX5_count 162 = .ok (.invokestatic 235, 3) := by decide +kernel
theorem dX5_count_165 : decode cX5_count 165 = .ok (.ireturn, 1) := by decide +kernel
theorem dX5_count_166 : decode cX5_count 166 = .ok (.aload_n 0, 1) := by decide +kernel
theorem dX5_count_167 : decode cX5_count 167 = .ok (.getfield 12, 3) := by decide +kernel
theorem dX5_count_170 : decode cX5_count 170 = .ok (.getfield 135, 3) := by decide +kernel
theorem dX5_count_173 : decode cX5_count 173 = .ok (.invokevirtual 139, 3) := by decide +kernel
theorem dX5_count_176 : decode cX5_count 176 = .ok (.ireturn, 1) := by decide +kernel
theorem dX5_count_177 : decode cX5_count 177 = .ok (.aload_n 0, 1) := by decide +kernel
theorem dX5_count_178 : decode cX5_count 178 = .ok (.getfield 12, 3) := by decide +kernel
theorem dX5_count_181 : decode cX5_count 181 = .ok (.getfield 135, 3) := by decide +kernel
theorem dX5_count_184 : decode cX5_count 184 = .ok (.getfield 239, 3) := by decide +kernel
theorem dX5_count_187 : decode cX5_count 187 = .ok (.ireturn, 1) := by decide +kernel
theorem dX5_count_188 : decode cX5_count 188 = .ok (.aload_n 0, 1) := by decide +kernel
theorem dX5_count_189 : decode cX5_count 189 = .ok (.getfield 12, 3) := by decide +kernel
theorem dX5_count_192 : decode cX5_count 192 = .ok (.getfield 69, 3) := by decide +kernel
theorem dX5_count_195 : decode cX5_count 195 = .ok (.ireturn, 1) := by decide +kernel
theorem dX5_count_196 : decode cX5_count 196 = .ok (.aload_n 0, 1) := by decide +kernel
theorem dX5_count_197 : decode cX5_count 197 = .ok (.getfield 12, 3) := by decide +kernel
theorem dX5_count_200 : decode cX5_count 200 = .ok (.getfield 73, 3) := by decide +kernel
theorem dX5_count_203 : decode cX5_count 203 = .ok (.ireturn, 1) := by decide +kernel
theorem dX5_count_204 : decode cX5_count 204 = .ok (.aload_n 0, 1) := by decide +kernel
theorem dX5_count_205 : decode cX5_count 205 = .ok (.getfield 25, 3) := by decide +kernel
theorem dX5_count_208 : decode cX5_count 208 = .ok (.getfield 157, 3) := by decide +kernel
theorem dX5_count_211 : decode cX5_count 211 = .ok (.ireturn, 1) := by decide +kernel
theorem dX5_count_212 : decode cX5_count 212 = .ok (.aload_n 0, 1) := by decide +kernel
theorem dX5_count_213 : decode cX5_count 213 = .ok (.getfield 32, 3) := by decide +kernel
theorem dX5_count_216 : decode cX5_count 216 = .ok (.getfield 154, 3) := by decide +kernel
theorem dX5_count_219 : decode cX5_count 219 = .ok (.ireturn, 1) := by decide +kernel
theorem dX5_count_220 : decode cX5_count 220 = .ok (.bipush (-2), 2) := by decide +kernel
theorem dX5_count_222 : decode cX5_count 222 = .ok (.ireturn, 1) := by decide +kernel
theorem dX5_isWithin_0 : decode cX5_isWithin 0 = .ok (.iload_n 0, 1) := by decide +kernel
theorem dX5_isWithin_1 : decode cX5_isWithin 1 = .ok (.iload_n 1, 1) := by decide +kernel
theorem dX5_isWithin_2 : decode cX5_isWithin 2 = .ok (.if_icmp .lt 12, 3) := by decide +kernel
theorem dX5_isWithin_5 : decode cX5_isWithin 5 = .ok (.iload_n 0, 1) := by decide +kernel
theorem dX5_isWithin_6 : decode cX5_isWithin 6 = .ok (.iload_n 2, 1) := by decide +kernel
theorem dX5_isWithin_7 : decode cX5_isWithin 7 = .ok (.if_icmp .gt 7, 3) := by decide +kernel
theorem dX5_isWithin_10 : decode cX5_isWithin 10 = .ok (.iconst 1, 1) := by decide +kernel
theorem dX5_isWithin_11 : decode cX5_isWithin 11 = .ok (.goto 4, 3) := by decide +kernel
theorem dX5_isWithin_14 : decode cX5_isWithin 14 = .ok (.iconst 0, 1) := by decide +kernel
theorem dX5_isWithin_15 : decode cX5_isWithin 15 = .ok (.ireturn, 1) := by decide +kernel
theorem dX5_isCommoner_0 : decode cX5_isCommoner 0 = .ok (.iload_n 0, 1) := by decide +kernel
theorem dX5_isCommoner_1 : decode cX5_isCommoner 1 = .ok (.iconst 0, 1) := by decide +kernel
theorem dX5_isCommoner_2 : decode cX5_isCommoner 2 = .ok (.bipush 9, 2) := by decide +kernel
theorem dX5_isCommoner_4 : decode cX5_isCommoner 4 = .ok (.invokestatic 58, 3) := by decide +kernel
theorem dX5_isCommoner_7 : decode cX5_isCommoner 7 = .ok (.ireturn, 1) := by decide +kernel
theorem dX5_isPlot_0 : decode cX5_isPlot 0 = .ok (.iload_n 0, 1) := by decide +kernel
theorem dX5_isPlot_1 : decode cX5_isPlot 1 = .ok (.iconst 0, 1) := by decide +kernel
theorem dX5_isPlot_2 : decode cX5_isPlot 2 = .ok (.bipush 19, 2) := by decide +kernel
theorem dX5_isPlot_4 : decode cX5_isPlot 4 = .ok (.invokestatic 58, 3) := by decide +kernel
theorem dX5_isPlot_7 : decode cX5_isPlot 7 = .ok (.ireturn, 1) := by decide +kernel
theorem dX5_isWeather_0 : decode cX5_isWeather 0 = .ok (.iload_n 0, 1) := by decide +kernel
theorem dX5_isWeather_1 : decode cX5_isWeather 1 = .ok (.iconst 0, 1) := by decide +kernel
theorem dX5_isWeather_2 : decode cX5_isWeather 2 = .ok (.iconst 2, 1) := by decide +kernel
theorem dX5_isWeather_3 : decode cX5_isWeather 3 = .ok (.invokestatic 58, 3) := by decide +kernel
theorem dX5_isWeather_6 : decode cX5_isWeather 6 = .ok (.ireturn, 1) := by decide +kernel
theorem dX5_isSettingValue_0 : decode cX5_isSettingValue 0 = .ok (.iload_n 0, 1) := by decide +kernel
theorem dX5_isSettingValue_1 : decode cX5_isSettingValue 1 = .ok (.ifCond .ne 11, 3) := by decide +kernel
theorem dX5_isSettingValue_4 : decode cX5_isSettingValue 4 = .ok (.iload_n 1, 1) := by decide +kernel
theorem dX5_isSettingValue_5 : decode cX5_isSettingValue 5 = .ok (.iconst 1, 1) := by decide +kernel
theorem dX5_isSettingValue_6 : decode cX5_isSettingValue 6 = .ok (.bipush 6, 2) := by decide +kernel
theorem dX5_isSettingValue_8 : decode cX5_isSettingValue 8 = .ok (.invokestatic 58, 3) := by decide +kernel
theorem dX5_isSettingValue_11 : decode cX5_isSettingValue 11 = .ok (.ireturn, 1) := by decide +kernel
theorem dX5_isSettingValue_12 : decode cX5_isSettingValue 12 = .ok (.iload_n 0, 1) := by decide +kernel
theorem dX5_isSettingValue_13 : decode cX5_isSettingValue 13 = .ok (.iconst 1, 1) := by decide +kernel
theorem dX5_isSettingValue_14 : decode cX5_isSettingValue 14 = .ok (.if_icmp .ne 16, 3) := by decide +kernel
theorem dX5_isSettingValue_17 : decode cX5_isSettingValue 17 = .ok (.iload_n 1, 1) := by decide +kernel
theorem dX5_isSettingValue_18 : decode cX5_isSettingValue 18 = .ok (.iconst 0, 1) := by decide +kernel
theorem dX5_isSettingValue_19 : decode cX5_isSettingValue 19 = .ok (.iconst 1, 1) := by decide +kernel
theorem dX5_isSettingValue_20 : decode cX5_isSettingValue 20 = .ok (.invokestatic 58, 3) := by decide +kernel
theorem dX5_isSettingValue_23 : decode cX5_isSettingValue 23 = .ok (.ifCond .eq 7, 3) := by decide +kernel
theorem dX5_isSettingValue_26 : decode cX5_isSettingValue 26 = .ok (.iconst 1, 1) := by decide +kernel
theorem dX5_isSettingValue_27 : decode cX5_isSettingValue 27 = .ok (.goto 4, 3) := by decide +kernel
theorem dX5_isSettingValue_30 : decode cX5_isSettingValue 30 = .ok (.iconst 0, 1) := by decide +kernel
theorem dX5_isSettingValue_31 : decode cX5_isSettingValue 31 = .ok (.ireturn, 1) := by decide +kernel
theorem dX5_oneIf_0 : decode cX5_oneIf 0 = .ok (.iload_n 0, 1) := by decide +kernel
theorem dX5_oneIf_1 : decode cX5_oneIf 1 = .ok (.ifCond .eq 7, 3) := by decide +kernel
theorem dX5_oneIf_4 : decode cX5_oneIf 4 = .ok (.iconst 1, 1) := by decide +kernel
theorem dX5_oneIf_5 : decode cX5_oneIf 5 = .ok (.goto 4, 3) := by decide +kernel
theorem dX5_oneIf_8 : decode cX5_oneIf 8 = .ok (.iconst 0, 1) := by decide +kernel
theorem dX5_oneIf_9 : decode cX5_oneIf 9 = .ok (.ireturn, 1) := by decide +kernel
theorem dX5_countEqual_0 : decode cX5_countEqual 0 = .ok (.iconst 0, 1) := by decide +kernel
theorem dX5_countEqual_1 : decode cX5_countEqual 1 = .ok (.istore_n 2, 1) := by decide +kernel
theorem dX5_countEqual_2 : decode cX5_countEqual 2 = .ok (.aload_n 0, 1) := by decide +kernel
theorem dX5_countEqual_3 : decode cX5_countEqual 3 = .ok (.astore_n 3, 1) := by decide +kernel
theorem dX5_countEqual_4 : decode cX5_countEqual 4 = .ok (.aload_n 3, 1) := by decide +kernel
theorem dX5_countEqual_5 : decode cX5_countEqual 5 = .ok (.arraylength, 1) := by decide +kernel
theorem dX5_countEqual_6 : decode cX5_countEqual 6 = .ok (.istore 4, 2) := by decide +kernel
theorem dX5_countEqual_8 : decode cX5_countEqual 8 = .ok (.iconst 0, 1) := by decide +kernel
theorem dX5_countEqual_9 : decode cX5_countEqual 9 = .ok (.istore 5, 2) := by decide +kernel
theorem dX5_countEqual_11 : decode cX5_countEqual 11 = .ok (.iload 5, 2) := by decide +kernel
theorem dX5_countEqual_13 : decode cX5_countEqual 13 = .ok (.iload 4, 2) := by decide +kernel
theorem dX5_countEqual_15 : decode cX5_countEqual 15 = .ok (.if_icmp .ge 32, 3) := by decide +kernel
theorem dX5_countEqual_18 : decode cX5_countEqual 18 = .ok (.aload_n 3, 1) := by decide +kernel
theorem dX5_countEqual_19 : decode cX5_countEqual 19 = .ok (.iload 5, 2) := by decide +kernel
theorem dX5_countEqual_21 : decode cX5_countEqual 21 = .ok (.iaload, 1) := by decide +kernel
theorem dX5_countEqual_22 : decode cX5_countEqual 22 = .ok (.istore 6, 2) := by decide +kernel
theorem dX5_countEqual_24 : decode cX5_countEqual 24 = .ok (.iload_n 2, 1) := by decide +kernel
theorem dX5_countEqual_25 : decode cX5_countEqual 25 = .ok (.iload 6, 2) := by decide +kernel
theorem dX5_countEqual_27 : decode cX5_countEqual 27 = .ok (.iload_n 1, 1) := by decide +kernel
theorem dX5_countEqual_28 : decode cX5_countEqual 28 = .ok (.if_icmp .ne 7, 3) := by decide +kernel
theorem dX5_countEqual_31 : decode cX5_countEqual 31 = .ok (.iconst 1, 1) := by decide +kernel
theorem dX5_countEqual_32 : decode cX5_countEqual 32 = .ok (.goto 4, 3) := by decide +kernel
theorem dX5_countEqual_35 : decode cX5_countEqual 35 = .ok (.iconst 0, 1) := by decide +kernel
theorem dX5_countEqual_36 : decode cX5_countEqual 36 = .ok (.invokestatic 188, 3) := by decide +kernel
theorem dX5_countEqual_39 : decode cX5_countEqual 39 = .ok (.iadd, 1) := by decide +kernel
theorem dX5_countEqual_40 : decode cX5_countEqual 40 = .ok (.istore_n 2, 1) := by decide +kernel
theorem dX5_countEqual_41 : decode cX5_countEqual 41 = .ok (.iinc 5 1, 3) := by decide +kernel
theorem dX5_countEqual_44 : decode cX5_countEqual 44 = .ok (.goto (-33), 3) := by decide +kernel
theorem dX5_countEqual_47 : decode cX5_countEqual 47 = .ok (.iload_n 2, 1) := by decide +kernel
theorem dX5_countEqual_48 : decode cX5_countEqual 48 = .ok (.ireturn, 1) := by decide +kernel
theorem dX5_sumOf_0 : decode cX5_sumOf 0 = .ok (.iconst 0, 1) := by decide +kernel
theorem dX5_sumOf_1 : decode cX5_sumOf 1 = .ok (.istore_n 1, 1) := by decide +kernel
theorem dX5_sumOf_2 : decode cX5_sumOf 2 = .ok (.aload_n 0, 1) := by decide +kernel
theorem dX5_sumOf_3 : decode cX5_sumOf 3 = .ok (.astore_n 2, 1) := by decide +kernel
theorem dX5_sumOf_4 : decode cX5_sumOf 4 = .ok (.aload_n 2, 1) := by decide +kernel
theorem dX5_sumOf_5 : decode cX5_sumOf 5 = .ok (.arraylength, 1) := by decide +kernel
theorem dX5_sumOf_6 : decode cX5_sumOf 6 = .ok (.istore_n 3, 1) := by decide +kernel
theorem dX5_sumOf_7 : decode cX5_sumOf 7 = .ok (.iconst 0, 1) := by decide +kernel
theorem dX5_sumOf_8 : decode cX5_sumOf 8 = .ok (.istore 4, 2) := by decide +kernel
theorem dX5_sumOf_10 : decode cX5_sumOf 10 = .ok (.iload 4, 2) := by decide +kernel
theorem dX5_sumOf_12 : decode cX5_sumOf 12 = .ok (.iload_n 3, 1) := by decide +kernel
theorem dX5_sumOf_13 : decode cX5_sumOf 13 = .ok (.if_icmp .ge 20, 3) := by decide +kernel
theorem dX5_sumOf_16 : decode cX5_sumOf 16 = .ok (.aload_n 2, 1) := by decide +kernel
theorem dX5_sumOf_17 : decode cX5_sumOf 17 = .ok (.iload 4, 2) := by decide +kernel
theorem dX5_sumOf_19 : decode cX5_sumOf 19 = .ok (.iaload, 1) := by decide +kernel
theorem dX5_sumOf_20 : decode cX5_sumOf 20 = .ok (.istore 5, 2) := by decide +kernel
theorem dX5_sumOf_22 : decode cX5_sumOf 22 = .ok (.iload_n 1, 1) := by decide +kernel
theorem dX5_sumOf_23 : decode cX5_sumOf 23 = .ok (.iload 5, 2) := by decide +kernel
theorem dX5_sumOf_25 : decode cX5_sumOf 25 = .ok (.iadd, 1) := by decide +kernel
theorem dX5_sumOf_26 : decode cX5_sumOf 26 = .ok (.istore_n 1, 1) := by decide +kernel
theorem dX5_sumOf_27 : decode cX5_sumOf 27 = .ok (.iinc 4 1, 3) := by decide +kernel
theorem dX5_sumOf_30 : decode cX5_sumOf 30 = .ok (.goto (-20), 3) := by decide +kernel
theorem dX5_sumOf_33 : decode cX5_sumOf 33 = .ok (.iload_n 1, 1) := by decide +kernel
theorem dX5_sumOf_34 : decode cX5_sumOf 34 = .ok (.ireturn, 1) := by decide +kernel
theorem dX5_copyNumbers_0 : decode cX5_copyNumbers 0 = .ok (.aload_n 0, 1) := by decide +kernel
theorem dX5_copyNumbers_1 : decode cX5_copyNumbers 1 = .ok (.iconst 0, 1) := by decide +kernel
theorem dX5_copyNumbers_2 : decode cX5_copyNumbers 2 = .ok (.aload_n 1, 1) := by decide +kernel
theorem dX5_copyNumbers_3 : decode cX5_copyNumbers 3 = .ok (.iconst 0, 1) := by decide +kernel
theorem dX5_copyNumbers_4 : decode cX5_copyNumbers 4 = .ok (.aload_n 0, 1) := by decide +kernel
theorem dX5_copyNumbers_5 : decode cX5_copyNumbers 5 = .ok (.arraylength, 1) := by decide +kernel
theorem dX5_copyNumbers_6 : decode cX5_copyNumbers 6 = .ok (.aload_n 1, 1) := by decide +kernel
theorem dX5_copyNumbers_7 : decode cX5_copyNumbers 7 = .ok (.arraylength, 1) := by decide +kernel
theorem dX5_copyNumbers_8 : decode cX5_copyNumbers 8 = .ok (.invokestatic 240, 3) := by decide +kernel
theorem dX5_copyNumbers_11 : decode cX5_copyNumbers 11 = .ok (.invokestatic 245, 3) := by decide +kernel
theorem dX5_copyNumbers_14 : decode cX5_copyNumbers 14 = .ok (.return_, 1) := by decide +kernel
theorem dX5_copyFlags_0 : decode cX5_copyFlags 0 = .ok (.aload_n 0, 1) := by decide +kernel
theorem dX5_copyFlags_1 : decode cX5_copyFlags 1 = .ok (.iconst 0, 1) := by decide +kernel
theorem dX5_copyFlags_2 : decode cX5_copyFlags 2 = .ok (.aload_n 1, 1) := by decide +kernel
theorem dX5_copyFlags_3 : decode cX5_copyFlags 3 = .ok (.iconst 0, 1) := by decide +kernel
theorem dX5_copyFlags_4 : decode cX5_copyFlags 4 = .ok (.aload_n 0, 1) := by decide +kernel
theorem dX5_copyFlags_5 : decode cX5_copyFlags 5 = .ok (.arraylength, 1) := by decide +kernel
theorem dX5_copyFlags_6 : decode cX5_copyFlags 6 = .ok (.aload_n 1, 1) := by decide +kernel
theorem dX5_copyFlags_7 : decode cX5_copyFlags 7 = .ok (.arraylength, 1) := by decide +kernel
theorem dX5_copyFlags_8 : decode cX5_copyFlags 8 = .ok (.invokestatic 240, 3) := by decide +kernel
theorem dX5_copyFlags_11 : decode cX5_copyFlags 11 = .ok (.invokestatic 245, 3) := by decide +kernel
theorem dX5_copyFlags_14 : decode cX5_copyFlags 14 = .ok (.return_, 1) := by decide +kernel
