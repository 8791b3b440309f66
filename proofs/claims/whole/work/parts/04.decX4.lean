theorem dX0_init_0 : decode cX0_init 0 = .ok (.aload_n 0, 1) := by decide +kernel
theorem dX0_init_1 : decode cX0_init 1 = .ok (.invokespecial 3, 3) := by decide +kernel
theorem dX0_init_4 : decode cX0_init 4 = .ok (.aload_n 0, 1) := by decide +kernel
theorem dX0_init_5 : decode cX0_init 5 = .ok (.bipush 60, 2) := by decide +kernel
theorem dX0_init_7 : decode cX0_init 7 = .ok (.newarray .char, 2) := by decide +kernel
theorem dX0_init_9 : decode cX0_init 9 = .ok (.putfield 9, 3) := by decide +kernel
theorem dX0_init_12 : decode cX0_init 12 = .ok (.aload_n 0, 1) := by decide +kernel
theorem dX0_init_13 : decode cX0_init 13 = .ok (.bipush 60, 2) := by decide +kernel
theorem dX0_init_15 : decode cX0_init 15 = .ok (.newarray .int, 2) := by decide +kernel
theorem dX0_init_17 : decode cX0_init 17 = .ok (.putfield 15, 3) := by decide +kernel
theorem dX0_init_20 : decode cX0_init 20 = .ok (.aload_n 0, 1) := by decide +kernel
theorem dX0_init_21 : decode cX0_init 21 = .ok (.bipush 60, 2) := by decide +kernel
theorem dX0_init_23 : decode cX0_init 23 = .ok (.newarray .int, 2) := by decide +kernel
theorem dX0_init_25 : decode cX0_init 25 = .ok (.putfield 19, 3) := by decide +kernel
theorem dX0_init_28 : decode cX0_init 28 = .ok (.return_, 1) := by decide +kernel
theorem dX0_append_0 : decode cX0_append 0 = .ok (.aload_n 0, 1) := by decide +kernel
theorem dX0_append_1 : decode cX0_append 1 = .ok (.getfield 22, 3) := by decide +kernel
theorem dX0_append_4 : decode cX0_append 4 = .ok (.bipush 60, 2) := by decide +kernel
theorem dX0_append_6 : decode cX0_append 6 = .ok (.if_icmp .lt 5, 3) := by decide +kernel
theorem dX0_append_9 : decode cX0_append 9 = .ok (.iconst 0, 1) := by decide +kernel
theorem dX0_append_10 : decode cX0_append 10 = .ok (.ireturn, 1) := by decide +kernel
theorem dX0_append_11 : decode cX0_append 11 = .ok (.aload_n 0, 1) := by decide +kernel
theorem dX0_append_12 : decode cX0_append 12 = .ok (.getfield 9, 3) := by decide +kernel
theorem dX0_append_15 : decode cX0_append 15 = .ok (.aload_n 0, 1) := by decide +kernel
theorem dX0_append_16 : decode cX0_append 16 = .ok (.getfield 22, 3) := by decide +kernel
theorem dX0_append_19 : decode cX0_append 19 = .ok (.iload_n 1, 1) := by decide +kernel
theorem dX0_append_20 : decode cX0_append 20 = .ok (.castore, 1) := by decide +kernel
theorem dX0_append_21 : decode cX0_append 21 = .ok (.aload_n 0, 1) := by decide +kernel
theorem dX0_append_22 : decode cX0_append 22 = .ok (.dup, 1) := by decide +kernel
theorem dX0_append_23 : decode cX0_append 23 = .ok (.getfield 22, 3) := by decide +kernel
theorem dX0_append_26 : decode cX0_append 26 = .ok (.iconst 1, 1) := by decide +kernel
theorem dX0_append_27 : decode cX0_append 27 = .ok (.iadd, 1) := by decide +kernel
theorem dX0_append_28 : decode cX0_append 28 = .ok (.putfield 22, 3) := by decide +kernel
theorem dX0_append_31 : decode cX0_append 31 = .ok (.iconst 1, 1) := by decide +kernel
theorem dX0_append_32 : decode cX0_append 32 = .ok (.ireturn, 1) := by decide +kernel
theorem dX0_readGroups_0 : decode cX0_readGroups 0 = .ok (.aload_n 0, 1) := by decide +kernel
theorem dX0_readGroups_1 : decode cX0_readGroups 1 = .ok (.iconst 0, 1) := by decide +kernel
theorem dX0_readGroups_2 : decode cX0_readGroups 2 = .ok (.putfield 26, 3) := by decide +kernel
theorem dX0_readGroups_5 : decode cX0_readGroups 5 = .ok (.iconst 0, 1) := by decide +kernel
theorem dX0_readGroups_6 : decode cX0_readGroups 6 = .ok (.istore_n 1, 1) := by decide +kernel
theorem dX0_readGroups_7 : decode cX0_readGroups 7 = .ok (.iconst 0, 1) := by decide +kernel
theorem dX0_readGroups_8 : decode cX0_readGroups 8 = .ok (.istore_n 2, 1) := by decide +kernel
theorem dX0_readGroups_9 : decode cX0_readGroups 9 = .ok (.iload_n 2, 1) := by decide +kernel
theorem dX0_readGroups_10 : decode cX0_readGroups 10 = .ok (.aload_n 0, 1) := by decide +kernel
theorem dX0_readGroups_11 : decode cX0_readGroups 11 = .ok (.getfield 22, 3) := by decide +kernel
theorem dX0_readGroups_14 : decode cX0_readGroups 14 = .ok (.if_icmp .ge 94, 3) := by decide +kernel
theorem dX0_readGroups_17 : decode cX0_readGroups 17 = .ok (.aload_n 0, 1) := by decide +kernel
theorem dX0_readGroups_18 : decode cX0_readGroups 18 = .ok (.getfield 9, 3) := by decide +kernel
theorem dX0_readGroups_21 : decode cX0_readGroups 21 = .ok (.iload_n 2, 1) := by decide +kernel
theorem dX0_readGroups_22 : decode cX0_readGroups 22 = .ok (.caload, 1) := by decide +kernel
theorem dX0_readGroups_23 : decode cX0_readGroups 23 = .ok (.istore_n 3, 1) := by decide +kernel
theorem dX0_readGroups_24 : decode cX0_readGroups 24 = .ok (.iload_n 3, 1) := by decide +kernel
theorem dX0_readGroups_25 : decode cX0_readGroups 25 = .ok (.invokestatic 29, 3) := by decide +kernel
theorem dX0_readGroups_28 : decode cX0_readGroups 28 = .ok (.ifCond .eq 21, 3) := by decide +kernel
theorem dX0_readGroups_31 : decode cX0_readGroups 31 = .ok (.iload_n 1, 1) := by decide +kernel
theorem dX0_readGroups_32 : decode cX0_readGroups 32 = .ok (.iconst 1, 1) := by decide +kernel
theorem dX0_readGroups_33 : decode cX0_readGroups 33 = .ok (.if_icmp .eq 16, 3) := by decide +kernel
theorem dX0_readGroups_36 : decode cX0_readGroups 36 = .ok (.aload_n 0, 1) := by decide +kernel
theorem dX0_readGroups_37 : decode cX0_readGroups 37 = .ok (.iload_n 3, 1) := by decide +kernel
theorem dX0_readGroups_38 : decode cX0_readGroups 38 = .ok (.invokestatic 33, 3) := by decide +kernel
theorem dX0_readGroups_41 : decode cX0_readGroups 41 = .ok (.invokevirtual 37, 3) := by decide +kernel
theorem dX0_readGroups_44 : decode cX0_readGroups 44 = .ok (.iconst 0, 1) := by decide +kernel
theorem dX0_readGroups_45 : decode cX0_readGroups 45 = .ok (.istore_n 1, 1) := by decide +kernel
theorem dX0_readGroups_46 : decode cX0_readGroups 46 = .ok (.goto 56, 3) := by decide +kernel
theorem dX0_readGroups_49 : decode cX0_readGroups 49 = .ok (.iload_n 3, 1) := by decide +kernel
theorem dX0_readGroups_50 : decode cX0_readGroups 50 = .ok (.invokestatic 41, 3) := by decide +kernel
theorem dX0_readGroups_53 : decode cX0_readGroups 53 = .ok (.ifCond .eq 47, 3) := by decide +kernel
theorem dX0_readGroups_56 : decode cX0_readGroups 56 = .ok (.aload_n 0, 1) := by decide +kernel
theorem dX0_readGroups_57 : decode cX0_readGroups 57 = .ok (.getfield 26, 3) := by decide +kernel
theorem dX0_readGroups_60 : decode cX0_readGroups 60 = .ok (.ifCond .le 40, 3) := by decide +kernel
theorem dX0_readGroups_63 : decode cX0_readGroups 63 = .ok (.iload_n 1, 1) := by decide +kernel
theorem dX0_readGroups_64 : decode cX0_readGroups 64 = .ok (.bipush 10, 2) := by decide +kernel
theorem dX0_readGroups_66 : decode cX0_readGroups 66 = .ok (.imul, 1) := by decide +kernel
theorem dX0_readGroups_67 : decode cX0_readGroups 67 = .ok (.iload_n 3, 1) := by decide +kernel
theorem dX0_readGroups_68 : decode cX0_readGroups 68 = .ok (.bipush 48, 2) := by decide +kernel
theorem dX0_readGroups_70 : decode cX0_readGroups 70 = .ok (.isub, 1) := by decide +kernel
theorem dX0_readGroups_71 : decode cX0_readGroups 71 = .ok (.iadd, 1) := by decide +kernel
theorem dX0_readGroups_72 : decode cX0_readGroups 72 = .ok (.istore_n 1, 1) := by decide +kernel
theorem dX0_readGroups_73 : decode cX0_readGroups 73 = .ok (.iload_n 1, 1) := by decide +kernel
theorem dX0_readGroups_74 : decode cX0_readGroups 74 = .ok (.ifCond .eq 9, 3) := by decide +kernel
theorem dX0_readGroups_77 : decode cX0_readGroups 77 = .ok (.iload_n 1, 1) := by decide +kernel
theorem dX0_readGroups_78 : decode cX0_readGroups 78 = .ok (.bipush 60, 2) := by decide +kernel
theorem dX0_readGroups_80 : decode cX0_readGroups 80 = .ok (.if_icmp .le 5, 3) := by decide +kernel
theorem dX0_readGroups_83 : decode cX0_readGroups 83 = .ok (.iload_n 2, 1) := by decide +kernel
theorem dX0_readGroups_84 : decode cX0_readGroups 84 = .ok (.ireturn, 1) := by decide +kernel
theorem dX0_readGroups_85 : decode cX0_readGroups 85 = .ok (.aload_n 0, 1) := by decide +kernel
theorem dX0_readGroups_86 : decode cX0_readGroups 86 = .ok (.getfield 19, 3) := by decide +kernel
theorem dX0_readGroups_89 : decode cX0_readGroups 89 = .ok (.aload_n 0, 1) := by decide +kernel
theorem dX0_readGroups_90 : decode cX0_readGroups 90 = .ok (.getfield 26, 3) := by decide +kernel
theorem dX0_readGroups_93 : decode cX0_readGroups 93 = .ok (.iconst 1, 1) := by decide +kernel
theorem dX0_readGroups_94 : decode cX0_readGroups 94 = .ok (.isub, 1) := by decide +kernel
theorem dX0_readGroups_95 : decode cX0_readGroups 95 = .ok (.iload_n 1, 1) := by decide +kernel
theorem dX0_readGroups_96 : decode cX0_readGroups 96 = .ok (.iastore, 1) := by decide +kernel
theorem dX0_readGroups_97 : decode cX0_readGroups 97 = .ok (.goto 5, 3) := by decide +kernel
theorem dX0_readGroups_100 : decode cX0_readGroups 100 = .ok (.iload_n 2, 1) := by decide +kernel
theorem dX0_readGroups_101 : decode cX0_readGroups 101 = .ok (.ireturn, 1) := by decide +kernel
theorem dX0_readGroups_102 : decode cX0_readGroups 102 = .ok (.iinc 2 1, 3) := by decide +kernel
theorem dX0_readGroups_105 : decode cX0_readGroups 105 = .ok (.goto (-96), 3) := by decide +kernel
theorem dX0_readGroups_108 : decode cX0_readGroups 108 = .ok (.aload_n 0, 1) := by decide +kernel
theorem dX0_readGroups_109 : decode cX0_readGroups 109 = .ok (.getfield 26, 3) := by decide +kernel
theorem dX0_readGroups_112 : decode cX0_readGroups 112 = .ok (.ifCond .eq 8, 3) := by decide +kernel
theorem dX0_readGroups_115 : decode cX0_readGroups 115 = .ok (.iload_n 1, 1) := by decide +kernel
theorem dX0_readGroups_116 : decode cX0_readGroups 116 = .ok (.iconst 1, 1) := by decide +kernel
theorem dX0_readGroups_117 : decode cX0_readGroups 117 = .ok (.if_icmp .ne 10, 3) := by decide +kernel
theorem dX0_readGroups_120 : decode cX0_readGroups 120 = .ok (.aload_n 0, 1) := by decide +kernel
theorem dX0_readGroups_121 : decode cX0_readGroups 121 = .ok (.getfield 22, 3) := by decide +kernel
theorem dX0_readGroups_124 : decode cX0_readGroups 124 = .ok (.goto 4, 3) := by decide +kernel
theorem dX0_readGroups_127 : decode cX0_readGroups 127 = .ok (.iconst (-1), 1) := by decide +kernel
theorem dX0_readGroups_128 : decode cX0_readGroups 128 = .ok (.ireturn, 1) := by decide +kernel
theorem dX0_openGroup_0 : decode cX0_openGroup 0 = .ok (.aload_n 0, 1) := by decide +kernel
theorem dX0_openGroup_1 : decode cX0_openGroup 1 = .ok (.getfield 26, 3) := by decide +kernel
theorem dX0_openGroup_4 : decode cX0_openGroup 4 = .ok (.bipush 60, 2) := by decide +kernel
theorem dX0_openGroup_6 : decode cX0_openGroup 6 = .ok (.if_icmp .ge 33, 3) := by decide +kernel
theorem dX0_openGroup_9 : decode cX0_openGroup 9 = .ok (.aload_n 0, 1) := by decide +kernel
theorem dX0_openGroup_10 : decode cX0_openGroup 10 = .ok (.getfield 15, 3) := by decide +kernel
theorem dX0_openGroup_13 : decode cX0_openGroup 13 = .ok (.aload_n 0, 1) := by decide +kernel
theorem dX0_openGroup_14 : decode cX0_openGroup 14 = .ok (.getfield 26, 3) := by decide +kernel
theorem dX0_openGroup_17 : decode cX0_openGroup 17 = .ok (.iload_n 1, 1) := by decide +kernel
theorem dX0_openGroup_18 : decode cX0_openGroup 18 = .ok (.iastore, 1) := by decide +kernel
theorem dX0_openGroup_19 : decode cX0_openGroup 19 = .ok (.aload_n 0, 1) := by decide +kernel
theorem dX0_openGroup_20 : decode cX0_openGroup 20 = .ok (.getfield 19, 3) := by decide +kernel
theorem dX0_openGroup_23 : decode cX0_openGroup 23 = .ok (.aload_n 0, 1) := by decide +kernel
theorem dX0_openGroup_24 : decode cX0_openGroup 24 = .ok (.getfield 26, 3) := by decide +kernel
theorem dX0_openGroup_27 : decode cX0_openGroup 27 = .ok (.iconst 1, 1) := by decide +kernel
theorem dX0_openGroup_28 : decode cX0_openGroup 28 = .ok (.iastore, 1) := by decide +kernel
theorem dX0_openGroup_29 : decode cX0_openGroup 29 = .ok (.aload_n 0, 1) := by decide +kernel
theorem dX0_openGroup_30 : decode cX0_openGroup 30 = .ok (.dup, 1) := by decide +kernel
theorem dX0_openGroup_31 : decode cX0_openGroup 31 = .ok (.getfield 26, 3) := by decide +kernel
theorem dX0_openGroup_34 : decode cX0_openGroup 34 = .ok (.iconst 1, 1) := by decide +kernel
theorem dX0_openGroup_35 : decode cX0_openGroup 35 = .ok (.iadd, 1) := by decide +kernel
theorem dX0_openGroup_36 : decode cX0_openGroup 36 = .ok (.putfield 26, 3) := by decide +kernel
theorem dX0_openGroup_39 : decode cX0_openGroup 39 = .ok (.return_, 1) := by decide +kernel
theorem dX0_isDigit_0 : decode cX0_isDigit 0 = .ok (.iload_n 0, 1) := by decide +kernel
theorem dX0_isDigit_1 : decode cX0_isDigit 1 = .ok (.bipush 48, 2) := by decide +kernel
theorem dX0_isDigit_3 : decode cX0_isDigit 3 = .ok (.if_icmp .lt 13, 3) := by decide +kernel
theorem dX0_isDigit_6 : decode cX0_isDigit 6 = .ok (.iload_n 0, 1) := by decide +kernel
theorem dX0_isDigit_7 : decode cX0_isDigit 7 = .ok (.bipush 57, 2) := by decide +kernel
theorem dX0_isDigit_9 : decode cX0_isDigit 9 = .ok (.if_icmp .gt 7, 3) := by decide +kernel
theorem dX0_isDigit_12 : decode cX0_isDigit 12 = .ok (.iconst 1, 1) := by decide +kernel
theorem dX0_isDigit_13 : decode cX0_isDigit 13 = .ok (.goto 4, 3) := by decide +kernel
theorem dX0_isDigit_16 : decode cX0_isDigit 16 = .ok (.iconst 0, 1) := by decide +kernel
theorem dX0_isDigit_17 : decode cX0_isDigit 17 = .ok (.ireturn, 1) := by decide +kernel
theorem dX0_isWeatherLetter_0 : decode cX0_isWeatherLetter 0 = .ok (.iload_n 0, 1) := by decide +kernel
theorem dX0_isWeatherLetter_1 : decode cX0_isWeatherLetter 1 = .ok (.bipush 115, 2) := by decide +kernel
theorem dX0_isWeatherLetter_3 : decode cX0_isWeatherLetter 3 = .ok (.if_icmp .eq 15, 3) := by decide +kernel
theorem dX0_isWeatherLetter_6 : decode cX0_isWeatherLetter 6 = .ok (.iload_n 0, 1) := by decide +kernel
theorem dX0_isWeatherLetter_7 : decode cX0_isWeatherLetter 7 = .ok (.bipush 99, 2) := by decide +kernel
theorem dX0_isWeatherLetter_9 : decode cX0_isWeatherLetter 9 = .ok (.if_icmp .eq 9, 3) := by decide +kernel
theorem dX0_isWeatherLetter_12 : decode cX0_isWeatherLetter 12 = .ok (.iload_n 0, 1) := by decide +kernel
theorem dX0_isWeatherLetter_13 : decode cX0_isWeatherLetter 13 = .ok (.bipush 114, 2) := by decide +kernel
theorem dX0_isWeatherLetter_15 : decode cX0_isWeatherLetter 15 = .ok (.if_icmp .ne 7, 3) := by decide +kernel
theorem dX0_isWeatherLetter_18 : decode cX0_isWeatherLetter 18 = .ok (.iconst 1, 1) := by decide +kernel
theorem dX0_isWeatherLetter_19 : decode cX0_isWeatherLetter 19 = .ok (.goto 4, 3) := by decide +kernel
theorem dX0_isWeatherLetter_22 : decode cX0_isWeatherLetter 22 = .ok (.iconst 0, 1) := by decide +kernel
theorem dX0_isWeatherLetter_23 : decode cX0_isWeatherLetter 23 = .ok (.ireturn, 1) := by decide +kernel
theorem dX0_weatherOf_0 : decode cX0_weatherOf 0 = .ok (.iload_n 0, 1) := by decide +kernel
theorem dX0_weatherOf_1 : decode cX0_weatherOf 1 = .ok (.bipush 115, 2) := by decide +kernel
theorem dX0_weatherOf_3 : decode cX0_weatherOf 3 = .ok (.if_icmp .ne 5, 3) := by decide +kernel
theorem dX0_weatherOf_6 : decode cX0_weatherOf 6 = .ok (.iconst 0, 1) := by decide +kernel
theorem dX0_weatherOf_7 : decode cX0_weatherOf 7 = .ok (.ireturn, 1) := by decide +kernel
theorem dX0_weatherOf_8 : decode cX0_weatherOf 8 = .ok (.iload_n 0, 1) := by decide +kernel
theorem dX0_weatherOf_9 : decode cX0_weatherOf 9 = .ok (.bipush 99, 2) := by decide +kernel
theorem dX0_weatherOf_11 : decode cX0_weatherOf 11 = .ok (.if_icmp .ne 7, 3) := by decide +kernel
theorem dX0_weatherOf_14 : decode cX0_weatherOf 14 = .ok (.iconst 1, 1) := by decide +kernel
theorem dX0_weatherOf_15 : decode cX0_weatherOf 15 = .ok (.goto 4, 3) := by decide +kernel
theorem dX0_weatherOf_18 : decode cX0_weatherOf 18 = .ok (.iconst 2, 1) := by decide +kernel
theorem dX0_weatherOf_19 : decode cX0_weatherOf 19 = .ok (.ireturn, 1) := by decide +kernel
theorem dX1_init_0 : decode cX1_init 0 = .ok (.aload_n 0, 1) := by decide +kernel
theorem dX1_init_1 : decode cX1_init 1 = .ok (.invokespecial 3, 3) := by decide +kernel
theorem dX1_init_4 : decode cX1_init 4 = .ok (.aload_n 0, 1) := by decide +kernel
theorem dX1_init_5 : decode cX1_init 5 = .ok (.bipush 120, 2) := by decide +kernel
theorem dX1_init_7 : decode cX1_init 7 = .ok (.newarray .int, 2) := by decide +kernel
theorem dX1_init_9 : decode cX1_init 9 = .ok (.putfield 9, 3) := by decide +kernel
theorem dX1_init_12 : decode cX1_init 12 = .ok (.aload_n 0, 1) := by decide +kernel
theorem dX1_init_13 : decode cX1_init 13 = .ok (.bipush 120, 2) := by decide +kernel
theorem dX1_init_15 : decode cX1_init 15 = .ok (.newarray .int, 2) := by decide +kernel
theorem dX1_init_17 : decode cX1_init 17 = .ok (.putfield 15, 3) := by decide +kernel
theorem dX1_init_20 : decode cX1_init 20 = .ok (.aload_n 0, 1) := by decide +kernel
theorem dX1_init_21 : decode cX1_init 21 = .ok (.bipush 120, 2) := by decide +kernel
theorem dX1_init_23 : decode cX1_init 23 = .ok (.newarray .int, 2) := by decide +kernel
theorem dX1_init_25 : decode cX1_init 25 = .ok (.putfield 18, 3) := by decide +kernel
theorem dX1_init_28 : decode cX1_init 28 = .ok (.aload_n 0, 1) := by decide +kernel
theorem dX1_init_29 : decode cX1_init 29 = .ok (.bipush 120, 2) := by decide +kernel
theorem dX1_init_31 : decode cX1_init 31 = .ok (.newarray .int, 2) := by decide +kernel
theorem dX1_init_33 : decode cX1_init 33 = .ok (.putfield 21, 3) := by decide +kernel
theorem dX1_init_36 : decode cX1_init 36 = .ok (.return_, 1) := by decide +kernel
theorem dX1_copyFrom_0 : decode cX1_copyFrom 0 = .ok (.aload_n 1, 1) := by decide +kernel
theorem dX1_copyFrom_1 : decode cX1_copyFrom 1 = .ok (.getfield 9, 3) := by decide +kernel
theorem dX1_copyFrom_4 : decode cX1_copyFrom 4 = .ok (.aload_n 0, 1) := by decide +kernel
theorem dX1_copyFrom_5 : decode cX1_copyFrom 5 = .ok (.getfield 9, 3) := by decide +kernel
theorem dX1_copyFrom_8 : decode cX1_copyFrom 8 = .ok (.invokestatic 24, 3) := by decide +kernel
theorem dX1_copyFrom_11 : decode cX1_copyFrom 11 = .ok (.aload_n 1, 1) := by decide +kernel
theorem dX1_copyFrom_12 : decode cX1_copyFrom 12 = .ok (.getfield 15, 3) := by decide +kernel
theorem dX1_copyFrom_15 : decode cX1_copyFrom 15 = .ok (.aload_n 0, 1) := by decide +kernel
theorem dX1_copyFrom_16 : decode cX1_copyFrom 16 = .ok (.getfield 15, 3) := by decide +kernel
theorem dX1_copyFrom_19 : decode cX1_copyFrom 19 = .ok (.invokestatic 24, 3) := by decide +kernel
theorem dX1_copyFrom_22 : decode cX1_copyFrom 22 = .ok (.aload_n 1, 1) := by decide +kernel
theorem dX1_copyFrom_23 : decode cX1_copyFrom 23 = .ok (.getfield 18, 3) := by decide +kernel
theorem dX1_copyFrom_26 : decode cX1_copyFrom 26 = .ok (.aload_n 0, 1) := by decide +kernel
theorem dX1_copyFrom_27 : decode cX1_copyFrom 27 = .ok (.getfield 18, 3) := by decide +kernel
theorem dX1_copyFrom_30 : decode cX1_copyFrom 30 = .ok (.invokestatic 24, 3) := by decide +kernel
theorem dX1_copyFrom_33 : decode cX1_copyFrom 33 = .ok (.aload_n 1, 1) := by decide +kernel
theorem dX1_copyFrom_34 : decode cX1_copyFrom 34 = .ok (.getfield 21, 3) := by decide +kernel
theorem dX1_copyFrom_37 : decode cX1_copyFrom 37 = .ok (.aload_n 0, 1) := by decide +kernel
theorem dX1_copyFrom_38 : decode cX1_copyFrom 38 = .ok (.getfield 21, 3) := by decide +kernel
theorem dX1_copyFrom_41 : decode cX1_copyFrom 41 = .ok (.invokestatic 24, 3) := by decide +kernel
theorem dX1_copyFrom_44 : decode cX1_copyFrom 44 = .ok (.aload_n 0, 1) := by decide +kernel
theorem dX1_copyFrom_45 : decode cX1_copyFrom 45 = .ok (.aload_n 1, 1) := by decide +kernel
theorem dX1_copyFrom_46 : decode cX1_copyFrom 46 = .ok (.getfield 28, 3) := by decide +kernel
theorem dX1_copyFrom_49 : decode cX1_copyFrom 49 = .ok (.putfield 28, 3) := by decide +kernel
theorem dX1_copyFrom_52 : decode cX1_copyFrom 52 = .ok (.aload_n 0, 1) := by decide +kernel
theorem dX1_copyFrom_53 : decode cX1_copyFrom 53 = .ok (.aload_n 1, 1) := by decide +kernel
theorem dX1_copyFrom_54 : decode cX1_copyFrom 54 = .ok (.getfield 32, 3) := by decide +kernel
theorem dX1_copyFrom_57 : decode cX1_copyFrom 57 = .ok (.putfield 32, 3) := by decide +kernel
theorem dX1_copyFrom_60 : decode cX1_copyFrom 60 = .ok (.return_, 1) := by decide +kernel
theorem dX1_open_0 : decode cX1_open 0 = .ok (.aload_n 0, 1) := by decide +kernel
theorem dX1_open_1 : decode cX1_open 1 = .ok (.getfield 32, 3) := by decide +kernel
theorem dX1_open_4 : decode cX1_open 4 = .ok (.bipush 120, 2) := by decide +kernel
theorem dX1_open_6 : decode cX1_open 6 = .ok (.if_icmp .ge 54, 3) := by decide +kernel
theorem dX1_open_9 : decode cX1_open 9 = .ok (.aload_n 0, 1) := by decide +kernel
theorem dX1_open_10 : decode cX1_open 10 = .ok (.getfield 9, 3) := by decide +kernel
theorem dX1_open_13 : decode cX1_open 13 = .ok (.aload_n 0, 1) := by decide +kernel
theorem dX1_open_14 : decode cX1_open 14 = .ok (.getfield 32, 3) := by decide +kernel
theorem dX1_open_17 : decode cX1_open 17 = .ok (.iload_n 1, 1) := by decide +kernel
theorem dX1_open_18 : decode cX1_open 18 = .ok (.iastore, 1) := by decide +kernel
theorem dX1_open_19 : decode cX1_open 19 = .ok (.aload_n 0, 1) := by decide +kernel
theorem dX1_open_20 : decode cX1_open 20 = .ok (.getfield 15, 3) := by decide +kernel
theorem dX1_open_23 : decode cX1_open 23 = .ok (.aload_n 0, 1) := by decide +kernel
theorem dX1_open_24 : decode cX1_open 24 = .ok (.getfield 32, 3) := by decide +kernel
theorem dX1_open_27 : decode cX1_open 27 = .ok (.iload_n 2, 1) := by decide +kernel
theorem dX1_open_28 : decode cX1_open 28 = .ok (.iastore, 1) := by decide +kernel
theorem dX1_open_29 : decode cX1_open 29 = .ok (.aload_n 0, 1) := by decide +kernel
theorem dX1_open_30 : decode cX1_open 30 = .ok (.getfield 18, 3) := by decide +kernel
theorem dX1_open_33 : decode cX1_open 33 = .ok (.aload_n 0, 1) := by decide +kernel
theorem dX1_open_34 : decode cX1_open 34 = .ok (.getfield 32, 3) := by decide +kernel
theorem dX1_open_37 : decode cX1_open 37 = .ok (.iload_n 3, 1) := by decide +kernel
theorem dX1_open_38 : decode cX1_open 38 = .ok (.iastore, 1) := by decide +kernel
theorem dX1_open_39 : decode cX1_open 39 = .ok (.aload_n 0, 1) := by decide +kernel
theorem dX1_open_40 : decode cX1_open 40 = .ok (.getfield 21, 3) := by decide +kernel
theorem dX1_open_43 : decode cX1_open 43 = .ok (.aload_n 0, 1) := by decide +kernel
theorem dX1_open_44 : decode cX1_open 44 = .ok (.getfield 32, 3) := by decide +kernel
theorem dX1_open_47 : decode cX1_open 47 = .ok (.iload 4, 2) := by decide +kernel
theorem dX1_open_49 : decode cX1_open 49 = .ok (.iastore, 1) := by decide +kernel
theorem dX1_open_50 : decode cX1_open 50 = .ok (.aload_n 0, 1) := by decide +kernel
theorem dX1_open_51 : decode cX1_open 51 = .ok (.dup, 1) := by decide +kernel
theorem dX1_open_52 : decode cX1_open 52 = .ok (.getfield 32, 3) := by decide +kernel
theorem dX1_open_55 : decode cX1_open 55 = .ok (.iconst 1, 1) := by decide +kernel
theorem dX1_open_56 : decode cX1_open 56 = .ok (.iadd, 1) := by decide +kernel
theorem dX1_open_57 : decode cX1_open 57 = .ok (.putfield 32, 3) := by decide +kernel
theorem dX1_open_60 : decode cX1_open 60 = .ok (.return_, 1) := by decide +kernel
theorem dX1_end_0 : decode cX1_end 0 = .ok (.aload_n 0, 1) := by decide +kernel
theorem dX1_end_1 : decode cX1_end 1 = .ok (.getfield 32, 3) := by decide +kernel
theorem dX1_end_4 : decode cX1_end 4 = .ok (.bipush 120, 2) := by decide +kernel
theorem dX1_end_6 : decode cX1_end 6 = .ok (.invokestatic 35, 3) := by decide +kernel
theorem dX1_end_9 : decode cX1_end 9 = .ok (.ireturn, 1) := by decide +kernel
theorem dX1_countOpen_0 : decode cX1_countOpen 0 = .ok (.aload_n 0, 1) := by decide +kernel
theorem dX1_countOpen_1 : decode cX1_countOpen 1 = .ok (.invokevirtual 41, 3) := by decide +kernel
theorem dX1_countOpen_4 : decode cX1_countOpen 4 = .ok (.aload_n 0, 1) := by decide +kernel
theorem dX1_countOpen_5 : decode cX1_countOpen 5 = .ok (.getfield 28, 3) := by decide +kernel
theorem dX1_countOpen_8 : decode cX1_countOpen 8 = .ok (.isub, 1) := by decide +kernel
theorem dX1_countOpen_9 : decode cX1_countOpen 9 = .ok (.ireturn, 1) := by decide +kernel
theorem dX1_openOfRank_0 : decode cX1_openOfRank 0 = .ok (.iload_n 1, 1) := by decide +kernel
theorem dX1_openOfRank_1 : decode cX1_openOfRank 1 = .ok (.iconst 0, 1) := by decide +kernel
theorem dX1_openOfRank_2 : decode cX1_openOfRank 2 = .ok (.aload_n 0, 1) := by decide +kernel
theorem dX1_openOfRank_3 : decode cX1_openOfRank 3 = .ok (.invokevirtual 45, 3) := by decide +kernel
theorem dX1_openOfRank_6 : decode cX1_openOfRank 6 = .ok (.iconst 1, 1) := by decide +kernel
theorem dX1_openOfRank_7 : decode cX1_openOfRank 7 = .ok (.isub, 1) := by decide +kernel
theorem dX1_openOfRank_8 : decode cX1_openOfRank 8 = .ok (.invokestatic 48, 3) := by decide +kernel
theorem dX1_openOfRank_11 : decode cX1_openOfRank 11 = .ok (.ifCond .eq 12, 3) := by decide +kernel
theorem dX1_openOfRank_14 : decode cX1_openOfRank 14 = .ok (.aload_n 0, 1) := by decide +kernel
theorem dX1_openOfRank_15 : decode cX1_openOfRank 15 = .ok (.getfield 28, 3) := by decide +kernel
theorem dX1_openOfRank_18 : decode cX1_openOfRank 18 = .ok (.iload_n 1, 1) := by decide +kernel
theorem dX1_openOfRank_19 : decode cX1_openOfRank 19 = .ok (.iadd, 1) := by decide +kernel
theorem dX1_openOfRank_20 : decode cX1_openOfRank 20 = .ok (.goto 5, 3) := by decide +kernel
theorem dX1_openOfRank_23 : decode cX1_openOfRank 23 = .ok (.bipush (-5), 2) := by decide +kernel
theorem dX1_openOfRank_25 : decode cX1_openOfRank 25 = .ok (.ireturn, 1) := by decide +kernel
theorem dX1_countOpenWith_0 : decode cX1_countOpenWith 0 = .ok (.iconst 0, 1) := by decide +kernel
theorem dX1_countOpenWith_1 : decode cX1_countOpenWith 1 = .ok (.istore_n 2, 1) := by decide +kernel
theorem dX1_countOpenWith_2 : decode cX1_countOpenWith 2 = .ok (.aload_n 0, 1) := by decide +kernel
theorem dX1_countOpenWith_3 : decode cX1_countOpenWith 3 = .ok (.getfield 28, 3) := by decide +kernel
theorem dX1_countOpenWith_6 : decode cX1_countOpenWith 6 = .ok (.istore_n 3, 1) := by decide +kernel
theorem dX1_countOpenWith_7 : decode cX1_countOpenWith 7 = .ok (.aload_n 0, 1) := by decide +kernel
theorem dX1_countOpenWith_8 : decode cX1_countOpenWith 8 = .ok (.invokevirtual 41, 3) := by decide +kernel
theorem dX1_countOpenWith_11 : decode cX1_countOpenWith 11 = .ok (.istore 4, 2) := by decide +kernel
theorem dX1_countOpenWith_13 : decode cX1_countOpenWith 13 = .ok (.iload_n 3, 1) := by decide +kernel
theorem dX1_countOpenWith_14 : decode cX1_countOpenWith 14 = .ok (.iload 4, 2) := by decide +kernel
theorem dX1_countOpenWith_16 : decode cX1_countOpenWith 16 = .ok (.if_icmp .ge 40, 3) := by decide +kernel
theorem dX1_countOpenWith_19 : decode cX1_countOpenWith 19 = .ok (.iload_n 2, 1) := by decide +kernel
theorem dX1_countOpenWith_20 : decode cX1_countOpenWith 20 = .ok (.aload_n 0, 1) := by decide +kernel
theorem dX1_countOpenWith_21 : decode cX1_countOpenWith 21 = .ok (.getfield 9, 3) := by decide +kernel
theorem dX1_countOpenWith_24 : decode cX1_countOpenWith 24 = .ok (.iload_n 3, 1) := by decide +kernel
theorem dX1_countOpenWith_25 : decode cX1_countOpenWith 25 = .ok (.iaload, 1) := by decide +kernel
theorem dX1_countOpenWith_26 : decode cX1_countOpenWith 26 = .ok (.iload_n 1, 1) := by decide +kernel
theorem dX1_countOpenWith_27 : decode cX1_countOpenWith 27 = .ok (.if_icmp .eq 13, 3) := by decide +kernel
theorem dX1_countOpenWith_30 : decode cX1_countOpenWith 30 = .ok (.aload_n 0, 1) := by decide +kernel
theorem dX1_countOpenWith_31 : decode cX1_countOpenWith 31 = .ok (.getfield 15, 3) := by decide +kernel
theorem dX1_countOpenWith_34 : decode cX1_countOpenWith 34 = .ok (.iload_n 3, 1) := by decide +kernel
theorem dX1_countOpenWith_35 : decode cX1_countOpenWith 35 = .ok (.iaload, 1) := by decide +kernel
theorem dX1_countOpenWith_36 : decode cX1_countOpenWith 36 = .ok (.iload_n 1, 1) := by decide +kernel
theorem dX1_countOpenWith_37 : decode cX1_countOpenWith 37 = .ok (.if_icmp .ne 7, 3) := by decide +kernel
theorem dX1_countOpenWith_40 : decode cX1_countOpenWith 40 = .ok (.iconst 1, 1) := by decide +kernel
theorem dX1_countOpenWith_41 : decode cX1_countOpenWith 41 = .ok (.goto 4, 3) := by decide +kernel
theorem dX1_countOpenWith_44 : decode cX1_countOpenWith 44 = .ok (.iconst 0, 1) := by decide +kernel
theorem dX1_countOpenWith_45 : decode cX1_countOpenWith 45 = .ok (.invokestatic 52, 3) := by decide +kernel
theorem dX1_countOpenWith_48 : decode cX1_countOpenWith 48 = .ok (.iadd, 1) := by decide +kernel
theorem dX1_countOpenWith_49 : decode cX1_countOpenWith 49 = .ok (.istore_n 2, 1) := by decide +kernel
theorem dX1_countOpenWith_50 : decode cX1_countOpenWith 50 = .ok (.iinc 3 1, 3) := by decide +kernel
theorem dX1_countOpenWith_53 : decode cX1_countOpenWith 53 = .ok (.goto (-40), 3) := by decide +kernel
theorem dX1_countOpenWith_56 : decode cX1_countOpenWith 56 = .ok (.iload_n 2, 1) := by decide +kernel
theorem dX1_countOpenWith_57 : decode cX1_countOpenWith 57 = .ok (.ireturn, 1) := by decide +kernel
theorem dX2_init_0 : decode cX2_init 0 = .ok (.aload_n 0, 1) := by decide +kernel
theorem dX2_init_1 : decode cX2_init 1 = .ok (.invokespecial 3, 3) := by decide +kernel
theorem dX2_init_4 : decode cX2_init 4 = .ok (.aload_n 0, 1) := by decide +kernel
theorem dX2_init_5 : decode cX2_init 5 = .ok (.new 9, 3) := by decide +kernel
theorem dX2_init_8 : decode cX2_init 8 = .ok (.dup, 1) := by decide +kernel
theorem dX2_init_9 : decode cX2_init 9 = .ok (.invokespecial 11, 3) := by decide +kernel
theorem dX2_init_12 : decode cX2_init 12 = .ok (.putfield 12, 3) := by decide +kernel
theorem dX2_init_15 : decode cX2_init 15 = .ok (.aload_n 0, 1) := by decide +kernel
theorem dX2_init_16 : decode cX2_init 16 = .ok (.new 9, 3) := by decide +kernel
theorem dX2_init_19 : decode cX2_init 19 = .ok (.dup, 1) := by decide +kernel
theorem dX2_init_20 : decode cX2_init 20 = .ok (.invokespecial 11, 3) := by decide +kernel
theorem dX2_init_23 : decode cX2_init 23 = .ok (.putfield 18, 3) := by decide +kernel
theorem dX2_init_26 : decode cX2_init 26 = .ok (.aload_n 0, 1) := by decide +kernel
theorem dX2_init_27 : decode cX2_init 27 = .ok (.new 9, 3) := by decide +kernel
theorem dX2_init_30 : decode cX2_init 30 = .ok (.dup, 1) := by decide +kernel
theorem dX2_init_31 : decode cX2_init 31 = .ok (.invokespecial 11, 3) := by decide +kernel
theorem dX2_init_34 : decode cX2_init 34 = .ok (.putfield 21, 3) := by decide +kernel
theorem dX2_init_37 : decode cX2_init 37 = .ok (.aload_n 0, 1) := by decide +kernel
theorem dX2_init_38 : decode cX2_init 38 = .ok (.new 9, 3) := by decide +kernel
theorem dX2_init_41 : decode cX2_init 41 = .ok (.dup, 1) := by decide +kernel
theorem dX2_init_42 : decode cX2_init 42 = .ok (.invokespecial 11, 3) := by decide +kernel
theorem dX2_init_45 : decode cX2_init 45 = .ok (.putfield 24, 3) := by decide +kernel
theorem dX2_init_48 : decode cX2_init 48 = .ok (.return_, 1) := by decide +kernel
theorem dX2_record_0 : decode cX2_record 0 = .ok (.aload_n 0, 1) := by decide +kernel
theorem dX2_record_1 : decode cX2_record 1 = .ok (.getfield 24, 3) := by decide +kernel
theorem dX2_record_4 : decode cX2_record 4 = .ok (.astore_n 2, 1) := by decide +kernel
theorem dX2_record_5 : decode cX2_record 5 = .ok (.aload_n 0, 1) := by decide +kernel
theorem dX2_record_6 : decode cX2_record 6 = .ok (.aload_n 0, 1) := by decide +kernel
theorem dX2_record_7 : decode cX2_record 7 = .ok (.getfield 21, 3) := by decide +kernel
theorem dX2_record_10 : decode cX2_record 10 = .ok (.putfield 24, 3) := by decide +kernel
theorem dX2_record_13 : decode cX2_record 13 = .ok (.aload_n 0, 1) := by decide +kernel
theorem dX2_record_14 : decode cX2_record 14 = .ok (.aload_n 0, 1) := by decide +kernel
theorem dX2_record_15 : decode cX2_record 15 = .ok (.getfield 18, 3) := by decide +kernel
theorem dX2_record_18 : decode cX2_record 18 = .ok (.putfield 21, 3) := by decide +kernel
theorem dX2_record_21 : decode cX2_record 21 = .ok (.aload_n 0, 1) := by decide +kernel
theorem dX2_record_22 : decode cX2_record 22 = .ok (.aload_n 0, 1) := by decide +kernel
theorem dX2_record_23 : decode cX2_record 23 = .ok (.getfield 12, 3) := by decide +kernel
theorem dX2_record_26 : decode cX2_record 26 = .ok (.putfield 18, 3) := by decide +kernel
theorem dX2_record_29 : decode cX2_record 29 = .ok (.aload_n 0, 1) := by decide +kernel
theorem dX2_record_30 : decode cX2_record 30 = .ok (.aload_n 2, 1) := by decide +kernel
theorem dX2_record_31 : decode cX2_record 31 = .ok (.putfield 12, 3) := by decide +kernel
theorem dX2_record_34 : decode cX2_record 34 = .ok (.aload_n 0, 1) := by decide +kernel
theorem dX2_record_35 : decode cX2_record 35 = .ok (.getfield 12, 3) := by decide +kernel
theorem dX2_record_38 : decode cX2_record 38 = .ok (.aload_n 1, 1) := by decide +kernel
theorem dX2_record_39 : decode cX2_record 39 = .ok (.invokevirtual 27, 3) := by decide +kernel
theorem dX2_record_42 : decode cX2_record 42 = .ok (.aload_n 0, 1) := by decide +kernel
theorem dX2_record_43 : decode cX2_record 43 = .ok (.iconst 4, 1) := by decide +kernel
theorem dX2_record_44 : decode cX2_record 44 = .ok (.aload_n 0, 1) := by decide +kernel
theorem dX2_record_45 : decode cX2_record 45 = .ok (.getfield 31, 3) := by decide +kernel
theorem dX2_record_48 : decode cX2_record 48 = .ok (.iconst 1, 1) := by decide +kernel
theorem dX2_record_49 : decode cX2_record 49 = .ok (.iadd, 1) := by decide +kernel
theorem dX2_record_50 : decode cX2_record 50 = .ok (.invokestatic 35, 3) := by decide +kernel
theorem dX2_record_53 : decode cX2_record 53 = .ok (.putfield 31, 3) := by decide +kernel
theorem dX2_record_56 : decode cX2_record 56 = .ok (.return_, 1) := by decide +kernel
theorem dX2_takeBack_0 : decode cX2_takeBack 0 = .ok (.aload_n 0, 1) := by decide +kernel
theorem dX2_takeBack_1 : decode cX2_takeBack 1 = .ok (.getfield 31, 3) := by decide +kernel
theorem dX2_takeBack_4 : decode cX2_takeBack 4 = .ok (.ifCond .le 52, 3) := by decide +kernel
theorem dX2_takeBack_7 : decode cX2_takeBack 7 = .ok (.aload_n 0, 1) := by decide +kernel
theorem dX2_takeBack_8 : decode cX2_takeBack 8 = .ok (.getfield 12, 3) := by decide +kernel
theorem dX2_takeBack_11 : decode cX2_takeBack 11 = .ok (.astore_n 2, 1) := by decide +kernel
theorem dX2_takeBack_12 : decode cX2_takeBack 12 = .ok (.aload_n 0, 1) := by decide +kernel
theorem dX2_takeBack_13 : decode cX2_takeBack 13 = .ok (.aload_n 0, 1) := by decide +kernel
theorem dX2_takeBack_14 : decode cX2_takeBack 14 = .ok (.getfield 18, 3) := by decide +kernel
theorem dX2_takeBack_17 : decode cX2_takeBack 17 = .ok (.putfield 12, 3) := by decide +kernel
theorem dX2_takeBack_20 : decode cX2_takeBack 20 = .ok (.aload_n 0, 1) := by decide +kernel
theorem dX2_takeBack_21 : decode cX2_takeBack 21 = .ok (.aload_n 0, 1) := by decide +kernel
theorem dX2_takeBack_22 : decode cX2_takeBack 22 = .ok (.getfield 21, 3) := by decide +kernel
theorem dX2_takeBack_25 : decode cX2_takeBack 25 = .ok (.putfield 18, 3) := by decide +kernel
theorem dX2_takeBack_28 : decode cX2_takeBack 28 = .ok (.aload_n 0, 1) := by decide +kernel
theorem dX2_takeBack_29 : decode cX2_takeBack 29 = .ok (.aload_n 0, 1) := by decide +kernel
theorem dX2_takeBack_30 : decode cX2_takeBack 30 = .ok (.getfield 24, 3) := by decide +kernel
theorem dX2_takeBack_33 : decode cX2_takeBack 33 = .ok (.putfield 21, 3) := by decide +kernel
theorem dX2_takeBack_36 : decode cX2_takeBack 36 = .ok (.aload_n 0, 1) := by decide +kernel
theorem dX2_takeBack_37 : decode cX2_takeBack 37 = .ok (.aload_n 2, 1) := by decide +kernel
theorem dX2_takeBack_38 : decode cX2_takeBack 38 = .ok (.putfield 24, 3) := by decide +kernel
theorem dX2_takeBack_41 : decode cX2_takeBack 41 = .ok (.aload_n 1, 1) := by decide +kernel
theorem dX2_takeBack_42 : decode cX2_takeBack 42 = .ok (.aload_n 2, 1) := by decide +kernel
theorem dX2_takeBack_43 : decode cX2_takeBack 43 = .ok (.invokevirtual 27, 3) := by decide +kernel
theorem dX2_takeBack_46 : decode cX2_takeBack 46 = .ok (.aload_n 0, 1) := by decide +kernel
theorem dX2_takeBack_47 : decode cX2_takeBack 47 = .ok (.dup, 1) := by decide +kernel
theorem dX2_takeBack_48 : decode cX2_takeBack 48 = .ok (.getfield 31, 3) := by decide +kernel
theorem dX2_takeBack_51 : decode cX2_takeBack 51 = .ok (.iconst 1, 1) := by decide +kernel
theorem dX2_takeBack_52 : decode cX2_takeBack 52 = .ok (.isub, 1) := by decide +kernel
theorem dX2_takeBack_53 : decode cX2_takeBack 53 = .ok (.putfield 31, 3) := by decide +kernel
theorem dX2_takeBack_56 : decode cX2_takeBack 56 = .ok (.return_, 1) := by decide +kernel
theorem dX3_init_0 : decode cX3_init 0 = .ok (.aload_n 0, 1) := by decide +kernel
theorem dX3_init_1 : decode cX3_init 1 = .ok (.invokespecial 3, 3) := by decide +kernel
theorem dX3_init_4 : decode cX3_init 4 = .ok (.aload_n 0, 1) := by decide +kernel
theorem dX3_init_5 : decode cX3_init 5 = .ok (.bipush 20, 2) := by decide +kernel
theorem dX3_init_7 : decode cX3_init 7 = .ok (.newarray .int, 2) := by decide +kernel
theorem dX3_init_9 : decode cX3_init 9 = .ok (.putfield 9, 3) := by decide +kernel
theorem dX3_init_12 : decode cX3_init 12 = .ok (.aload_n 0, 1) := by decide +kernel
theorem dX3_init_13 : decode cX3_init 13 = .ok (.bipush 20, 2) := by decide +kernel
theorem dX3_init_15 : decode cX3_init 15 = .ok (.newarray .int, 2) := by decide +kernel
theorem dX3_init_17 : decode cX3_init 17 = .ok (.putfield 15, 3) := by decide +kernel
theorem dX3_init_20 : decode cX3_init 20 = .ok (.aload_n 0, 1) := by decide +kernel
theorem dX3_init_21 : decode cX3_init 21 = .ok (.bipush 20, 2) := by decide +kernel
theorem dX3_init_23 : decode cX3_init 23 = .ok (.newarray .int, 2) := by decide +kernel
theorem dX3_init_25 : decode cX3_init 25 = .ok (.putfield 18, 3) := by decide +kernel
theorem dX3_init_28 : decode cX3_init 28 = .ok (.aload_n 0, 1) := by decide +kernel
theorem dX3_init_29 : decode cX3_init 29 = .ok (.bipush 10, 2) := by decide +kernel
theorem dX3_init_31 : decode cX3_init 31 = .ok (.newarray .int, 2) := by decide +kernel
theorem dX3_init_33 : decode cX3_init 33 = .ok (.putfield 21, 3) := by decide +kernel
theorem dX3_init_36 : decode cX3_init 36 = .ok (.aload_n 0, 1) := by decide +kernel
theorem dX3_init_37 : decode cX3_init 37 = .ok (.bipush 10, 2) := by decide +kernel
theorem dX3_init_39 : decode cX3_init 39 = .ok (.newarray .int, 2) := by decide +kernel
theorem dX3_init_41 : decode cX3_init 41 = .ok (.putfield 24, 3) := by decide +kernel
theorem dX3_init_44 : decode cX3_init 44 = .ok (.aload_n 0, 1) := by decide +kernel
theorem dX3_init_45 : decode cX3_init 45 = .ok (.bipush 10, 2) := by decide +kernel
theorem dX3_init_47 : decode cX3_init 47 = .ok (.newarray .int, 2) := by decide +kernel
theorem dX3_init_49 : decode cX3_init 49 = .ok (.putfield 27, 3) := by decide +kernel
theorem dX3_init_52 : decode cX3_init 52 = .ok (.aload_n 0, 1) := by decide +kernel
theorem dX3_init_53 : decode cX3_init 53 = .ok (.new 30, 3) := by decide +kernel
theorem dX3_init_56 : decode cX3_init 56 = .ok (.dup, 1) := by decide +kernel
theorem dX3_init_57 : decode cX3_init 57 = .ok (.invokespecial 32, 3) := by decide +kernel
theorem dX3_init_60 : decode cX3_init 60 = .ok (.putfield 33, 3) := by decide +kernel
theorem dX3_init_63 : decode cX3_init 63 = .ok (.aload_n 0, 1) := by decide +kernel
theorem dX3_init_64 : decode cX3_init 64 = .ok (.new 37, 3) := by decide +kernel
theorem dX3_init_67 : decode cX3_init 67 = .ok (.dup, 1) := by decide +kernel
theorem dX3_init_68 : decode cX3_init 68 = .ok (.invokespecial 39, 3) := by decide +kernel
theorem dX3_init_71 : decode cX3_init 71 = .ok (.putfield 40, 3) := by decide +kernel
theorem dX3_init_74 : decode cX3_init 74 = .ok (.aload_n 0, 1) := by decide +kernel
theorem dX3_init_75 : decode cX3_init 75 = .ok (.iconst 3, 1) := by decide +kernel
theorem dX3_init_76 : decode cX3_init 76 = .ok (.putfield 44, 3) := by decide +kernel
theorem dX3_init_79 : decode cX3_init 79 = .ok (.iconst 0, 1) := by decide +kernel
theorem dX3_init_80 : decode cX3_init 80 = .ok (.istore_n 1, 1) := by decide +kernel
theorem dX3_init_81 : decode cX3_init 81 = .ok (.iload_n 1, 1) := by decide +kernel
theorem dX3_init_82 : decode cX3_init 82 = .ok (.bipush 20, 2) := by decide +kernel
theorem dX3_init_84 : decode cX3_init 84 = .ok (.if_icmp .ge 35, 3) := by decide +kernel
theorem dX3_init_87 : decode cX3_init 87 = .ok (.aload_n 0, 1) := by decide +kernel
theorem dX3_init_88 : decode cX3_init 88 = .ok (.getfield 9, 3) := by decide +kernel
theorem dX3_init_91 : decode cX3_init 91 = .ok (.iload_n 1, 1) := by decide +kernel
theorem dX3_init_92 : decode cX3_init 92 = .ok (.bipush 6, 2) := by decide +kernel
theorem dX3_init_94 : decode cX3_init 94 = .ok (.iastore, 1) := by decide +kernel
theorem dX3_init_95 : decode cX3_init 95 = .ok (.aload_n 0, 1) := by decide +kernel
theorem dX3_init_96 : decode cX3_init 96 = .ok (.getfield 15, 3) := by decide +kernel
theorem dX3_init_99 : decode cX3_init 99 = .ok (.iload_n 1, 1) := by decide +kernel
theorem dX3_init_100 : decode cX3_init 100 = .ok (.iload_n 1, 1) := by decide +kernel
theorem dX3_init_101 : decode cX3_init 101 = .ok (.iconst 2, 1) := by decide +kernel
theorem dX3_init_102 : decode cX3_init 102 = .ok (.idiv, 1) := by decide +kernel
theorem dX3_init_103 : decode cX3_init 103 = .ok (.iastore, 1) := by decide +kernel
theorem dX3_init_104 : decode cX3_init 104 = .ok (.aload_n 0, 1) := by decide +kernel
theorem dX3_init_105 : decode cX3_init 105 = .ok (.getfield 18, 3) := by decide +kernel
theorem dX3_init_108 : decode cX3_init 108 = .ok (.iload_n 1, 1) := by decide +kernel
theorem dX3_init_109 : decode cX3_init 109 = .ok (.iload_n 1, 1) := by decide +kernel
theorem dX3_init_110 : decode cX3_init 110 = .ok (.iconst 2, 1) := by decide +kernel
theorem dX3_init_111 : decode cX3_init 111 = .ok (.idiv, 1) := by decide +kernel
theorem dX3_init_112 : decode cX3_init 112 = .ok (.iastore, 1) := by decide +kernel
theorem dX3_init_113 : decode cX3_init 113 = .ok (.iinc 1 1, 3) := by decide +kernel
theorem dX3_init_116 : decode cX3_init 116 = .ok (.goto (-35), 3) := by decide +kernel
theorem dX3_init_119 : decode cX3_init 119 = .ok (.iconst 0, 1) := by decide +kernel
theorem dX3_init_120 : decode cX3_init 120 = .ok (.istore_n 1, 1) := by decide +kernel
theorem dX3_init_121 : decode cX3_init 121 = .ok (.iload_n 1, 1) := by decide +kernel
theorem dX3_init_122 : decode cX3_init 122 = .ok (.bipush 10, 2) := by decide +kernel
theorem dX3_init_124 : decode cX3_init 124 = .ok (.if_icmp .ge 17, 3) := by decide +kernel
theorem dX3_init_127 : decode cX3_init 127 = .ok (.aload_n 0, 1) := by decide +kernel
theorem dX3_init_128 : decode cX3_init 128 = .ok (.getfield 21, 3) := by decide +kernel
theorem dX3_init_131 : decode cX3_init 131 = .ok (.iload_n 1, 1) := by decide +kernel
theorem dX3_init_132 : decode cX3_init 132 = .ok (.bipush 6, 2) := by decide +kernel
theorem dX3_init_134 : decode cX3_init 134 = .ok (.iastore, 1) := by decide +kernel
theorem dX3_init_135 : decode cX3_init 135 = .ok (.iinc 1 1, 3) := by decide +kernel
theorem dX3_init_138 : decode cX3_init 138 = .ok (.goto (-17), 3) := by decide +kernel
theorem dX3_init_141 : decode cX3_init 141 = .ok (.return_, 1) := by decide +kernel
theorem dX3_copyFrom_0 : decode cX3_copyFrom 0 = .ok (.aload_n 1, 1) := by decide +kernel
theorem dX3_copyFrom_1 : decode cX3_copyFrom 1 = .ok (.getfield 9, 3) := by decide +kernel
theorem dX3_copyFrom_4 : decode cX3_copyFrom 4 = .ok (.aload_n 0, 1) := by decide +kernel
theorem dX3_copyFrom_5 : decode cX3_copyFrom 5 = .ok (.getfield 9, 3) := by decide +kernel
theorem dX3_copyFrom_8 : decode cX3_copyFrom 8 = .ok (.invokestatic 48, 3) := by decide +kernel
theorem dX3_copyFrom_11 : decode cX3_copyFrom 11 = .ok (.aload_n 1, 1) := by decide +kernel
theorem dX3_copyFrom_12 : decode cX3_copyFrom 12 = .ok (.getfield 15, 3) := by decide +kernel
theorem dX3_copyFrom_15 : decode cX3_copyFrom 15 = .ok (.aload_n 0, 1) := by decide +kernel
theorem dX3_copyFrom_16 : decode cX3_copyFrom 16 = .ok (.getfield 15, 3) := by decide +kernel
theorem dX3_copyFrom_19 : decode cX3_copyFrom 19 = .ok (.invokestatic 48, 3) := by decide +kernel
theorem dX3_copyFrom_22 : decode cX3_copyFrom 22 = .ok (.aload_n 1, 1) := by decide +kernel
theorem dX3_copyFrom_23 : decode cX3_copyFrom 23 = .ok (.getfield 18, 3) := by decide +kernel
theorem dX3_copyFrom_26 : decode cX3_copyFrom 26 = .ok (.aload_n 0, 1) := by decide +kernel
theorem dX3_copyFrom_27 : decode cX3_copyFrom 27 = .ok (.getfield 18, 3) := by decide +kernel
theorem dX3_copyFrom_30 : decode cX3_copyFrom 30 = .ok (.invokestatic 48, 3) := by decide +kernel
theorem dX3_copyFrom_33 : decode cX3_copyFrom 33 = .ok (.aload_n 1, 1) := by decide +kernel
theorem dX3_copyFrom_34 : decode cX3_copyFrom 34 = .ok (.getfield 21, 3) := by decide +kernel
theorem dX3_copyFrom_37 : decode cX3_copyFrom 37 = .ok (.aload_n 0, 1) := by decide +kernel
theorem dX3_copyFrom_38 : decode cX3_copyFrom 38 = .ok (.getfield 21, 3) := by decide +kernel
theorem dX3_copyFrom_41 : decode cX3_copyFrom 41 = .ok (.invokestatic 48, 3) := by decide +kernel
theorem dX3_copyFrom_44 : decode cX3_copyFrom 44 = .ok (.aload_n 1, 1) := by decide +kernel
theorem dX3_copyFrom_45 : decode cX3_copyFrom 45 = .ok (.getfield 24, 3) := by decide +kernel
theorem dX3_copyFrom_48 : decode cX3_copyFrom 48 = .ok (.aload_n 0, 1) := by decide +kernel
theorem dX3_copyFrom_49 : decode cX3_copyFrom 49 = .ok (.getfield 24, 3) := by decide +kernel
theorem dX3_copyFrom_52 : decode cX3_copyFrom 52 = .ok (.invokestatic 48, 3) := by decide +kernel
theorem dX3_copyFrom_55 : decode cX3_copyFrom 55 = .ok (.aload_n 1, 1) := by decide +kernel
theorem dX3_copyFrom_56 : decode cX3_copyFrom 56 = .ok (.getfield 27, 3) := by decide +kernel
theorem dX3_copyFrom_59 : decode cX3_copyFrom 59 = .ok (.aload_n 0, 1) := by decide +kernel
theorem dX3_copyFrom_60 : decode cX3_copyFrom 60 = .ok (.getfield 27, 3) := by decide +kernel
theorem dX3_copyFrom_63 : decode cX3_copyFrom 63 = .ok (.invokestatic 48, 3) := by decide +kernel
theorem dX3_copyFrom_66 : decode cX3_copyFrom 66 = .ok (.aload_n 0, 1) := by decide +kernel
theorem dX3_copyFrom_67 : decode cX3_copyFrom 67 = .ok (.getfield 33, 3) := by decide +kernel
theorem dX3_copyFrom_70 : decode cX3_copyFrom 70 = .ok (.aload_n 1, 1) := by decide +kernel
theorem dX3_copyFrom_71 : decode cX3_copyFrom 71 = .ok (.getfield 33, 3) := by decide +kernel
theorem dX3_copyFrom_74 : decode cX3_copyFrom 74 = .ok (.invokevirtual 52, 3) := by decide +kernel
theorem dX3_copyFrom_77 : decode cX3_copyFrom 77 = .ok (.aload_n 0, 1) := by decide +kernel
theorem dX3_copyFrom_78 : decode cX3_copyFrom 78 = .ok (.getfield 40, 3) := by decide +kernel
theorem dX3_copyFrom_81 : decode cX3_copyFrom 81 = .ok (.aload_n 1, 1) := by decide +kernel
theorem dX3_copyFrom_82 : decode cX3_copyFrom 82 = .ok (.getfield 40, 3) := by decide +kernel
theorem dX3_copyFrom_85 : decode cX3_copyFrom 85 = .ok (.invokevirtual 56, 3) := by decide +kernel
theorem dX3_copyFrom_88 : decode cX3_copyFrom 88 = .ok (.aload_n 0, 1) := by decide +kernel
theorem dX3_copyFrom_89 : decode cX3_copyFrom 89 = .ok (.aload_n 1, 1) := by decide +kernel
theorem dX3_copyFrom_90 : decode cX3_copyFrom 90 = .ok (.getfield 44, 3) := by decide +kernel
theorem dX3_copyFrom_93 : decode cX3_copyFrom 93 = .ok (.putfield 44, 3) := by decide +kernel
theorem dX3_copyFrom_96 : decode cX3_copyFrom 96 = .ok (.aload_n 0, 1) := by decide +kernel
theorem dX3_copyFrom_97 : decode cX3_copyFrom 97 = .ok (.aload_n 1, 1) := by decide +kernel
theorem dX3_copyFrom_98 : decode cX3_copyFrom 98 = .ok (.getfield 59, 3) := by decide +kernel
theorem dX3_copyFrom_101 : decode cX3_copyFrom 101 = .ok (.putfield 59, 3) := by decide +kernel
theorem dX3_copyFrom_104 : decode cX3_copyFrom 104 = .ok (.aload_n 0, 1) := by decide +kernel
theorem dX3_copyFrom_105 : decode cX3_copyFrom 105 = .ok (.aload_n 1, 1) := by decide +kernel
theorem dX3_copyFrom_106 : decode cX3_copyFrom 106 = .ok (.getfield 62, 3) := by decide +kernel
theorem dX3_copyFrom_109 : decode cX3_copyFrom 109 = .ok (.putfield 62, 3) := by decide +kernel
theorem dX3_copyFrom_112 : decode cX3_copyFrom 112 = .ok (.aload_n 0, 1) := by decide +kernel
theorem dX3_copyFrom_113 : decode cX3_copyFrom 113 = .ok (.aload_n 1, 1) := by decide +kernel
theorem dX3_copyFrom_114 : decode cX3_copyFrom 114 = .ok (.getfield 65, 3) := by decide +kernel
theorem dX3_copyFrom_117 : decode cX3_copyFrom 117 = .ok (.putfield 65, 3) := by decide +kernel
theorem dX3_copyFrom_120 : decode cX3_copyFrom 120 = .ok (.aload_n 0, 1) := by decide +kernel
theorem dX3_copyFrom_121 : decode cX3_copyFrom 121 = .ok (.aload_n 1, 1) := by decide +kernel
theorem dX3_copyFrom_122 : decode cX3_copyFrom 122 = .ok (.getfield 68, 3) := by decide +kernel
theorem dX3_copyFrom_125 : decode cX3_copyFrom 125 = .ok (.putfield 68, 3) := by decide +kernel
theorem dX3_copyFrom_128 : decode cX3_copyFrom 128 = .ok (.aload_n 0, 1) := by decide +kernel
theorem dX3_copyFrom_129 : decode cX3_copyFrom 129 = .ok (.aload_n 1, 1) := by decide +kernel
theorem dX3_copyFrom_130 : decode cX3_copyFrom 130 = .ok (.getfield 71, 3) := by decide +kernel
theorem dX3_copyFrom_133 : decode cX3_copyFrom 133 = .ok (.putfield 71, 3) := by decide +kernel
theorem dX3_copyFrom_136 : decode cX3_copyFrom 136 = .ok (.return_, 1) := by decide +kernel
theorem dX3_reasonAgainst_0 : decode cX3_reasonAgainst 0 = .ok (.aload_n 0, 1) := by decide +kernel
theorem dX3_reasonAgainst_1 : decode cX3_reasonAgainst 1 = .ok (.iload_n 1, 1) := by decide +kernel
theorem dX3_reasonAgainst_2 : decode cX3_reasonAgainst 2 = .ok (.invokevirtual 74, 3) := by decide +kernel
theorem dX3_reasonAgainst_5 : decode cX3_reasonAgainst 5 = .ok (.ifCond .ne 5, 3) := by decide +kernel
theorem dX3_reasonAgainst_8 : decode cX3_reasonAgainst 8 = .ok (.iconst 1, 1) := by decide +kernel
theorem dX3_reasonAgainst_9 : decode cX3_reasonAgainst 9 = .ok (.ireturn, 1) := by decide +kernel
theorem dX3_reasonAgainst_10 : decode cX3_reasonAgainst 10 = .ok (.iload_n 2, 1) := by decide +kernel
theorem dX3_reasonAgainst_11 : decode cX3_reasonAgainst 11 = .ok (.invokestatic 78, 3) := by decide +kernel
theorem dX3_reasonAgainst_14 : decode cX3_reasonAgainst 14 = .ok (.ifCond .eq 12, 3) := by decide +kernel
theorem dX3_reasonAgainst_17 : decode cX3_reasonAgainst 17 = .ok (.aload_n 0, 1) := by decide +kernel
theorem dX3_reasonAgainst_18 : decode cX3_reasonAgainst 18 = .ok (.getfield 9, 3) := by decide +kernel
theorem dX3_reasonAgainst_21 : decode cX3_reasonAgainst 21 = .ok (.iload_n 2, 1) := by decide +kernel
theorem dX3_reasonAgainst_22 : decode cX3_reasonAgainst 22 = .ok (.iaload, 1) := by decide +kernel
theorem dX3_reasonAgainst_23 : decode cX3_reasonAgainst 23 = .ok (.ifCond .gt 5, 3) := by decide +kernel
theorem dX3_reasonAgainst_26 : decode cX3_reasonAgainst 26 = .ok (.iconst 2, 1) := by decide +kernel
theorem dX3_reasonAgainst_27 : decode cX3_reasonAgainst 27 = .ok (.ireturn, 1) := by decide +kernel
theorem dX3_reasonAgainst_28 : decode cX3_reasonAgainst 28 = .ok (.aload_n 0, 1) := by decide +kernel
theorem dX3_reasonAgainst_29 : decode cX3_reasonAgainst 29 = .ok (.getfield 33, 3) := by decide +kernel
theorem dX3_reasonAgainst_32 : decode cX3_reasonAgainst 32 = .ok (.invokevirtual 81, 3) := by decide +kernel
theorem dX3_reasonAgainst_35 : decode cX3_reasonAgainst 35 = .ok (.bipush 60, 2) := by decide +kernel
theorem dX3_reasonAgainst_37 : decode cX3_reasonAgainst 37 = .ok (.if_icmp .lt 5, 3) := by decide +kernel
theorem dX3_reasonAgainst_40 : decode cX3_reasonAgainst 40 = .ok (.iconst 3, 1) := by decide +kernel
theorem dX3_reasonAgainst_41 : decode cX3_reasonAgainst 41 = .ok (.ireturn, 1) := by decide +kernel
theorem dX3_reasonAgainst_42 : decode cX3_reasonAgainst 42 = .ok (.aload_n 0, 1) := by decide +kernel
theorem dX3_reasonAgainst_43 : decode cX3_reasonAgainst 43 = .ok (.iload_n 1, 1) := by decide +kernel
theorem dX3_reasonAgainst_44 : decode cX3_reasonAgainst 44 = .ok (.iload_n 2, 1) := by decide +kernel
theorem dX3_reasonAgainst_45 : decode cX3_reasonAgainst 45 = .ok (.invokevirtual 85, 3) := by decide +kernel
theorem dX3_reasonAgainst_48 : decode cX3_reasonAgainst 48 = .ok (.ifCond .ne 25, 3) := by decide +kernel
theorem dX3_reasonAgainst_51 : decode cX3_reasonAgainst 51 = .ok (.aload_n 0, 1) := by decide +kernel
theorem dX3_reasonAgainst_52 : decode cX3_reasonAgainst 52 = .ok (.iload_n 1, 1) := by decide +kernel
theorem dX3_reasonAgainst_53 : decode cX3_reasonAgainst 53 = .ok (.iload_n 2, 1) := by decide +kernel
theorem dX3_reasonAgainst_54 : decode cX3_reasonAgainst 54 = .ok (.iconst 1, 1) := by decide +kernel
theorem dX3_reasonAgainst_55 : decode cX3_reasonAgainst 55 = .ok (.isub, 1) := by decide +kernel
theorem dX3_reasonAgainst_56 : decode cX3_reasonAgainst 56 = .ok (.invokevirtual 85, 3) := by decide +kernel
theorem dX3_reasonAgainst_59 : decode cX3_reasonAgainst 59 = .ok (.ifCond .ne 14, 3) := by decide +kernel
theorem dX3_reasonAgainst_62 : decode cX3_reasonAgainst 62 = .ok (.aload_n 0, 1) := by decide +kernel
theorem dX3_reasonAgainst_63 : decode cX3_reasonAgainst 63 = .ok (.iload_n 1, 1) := by decide +kernel
theorem dX3_reasonAgainst_64 : decode cX3_reasonAgainst 64 = .ok (.iload_n 2, 1) := by decide +kernel
theorem dX3_reasonAgainst_65 : decode cX3_reasonAgainst 65 = .ok (.iconst 1, 1) := by decide +kernel
theorem dX3_reasonAgainst_66 : decode cX3_reasonAgainst 66 = .ok (.iadd, 1) := by decide +kernel
theorem dX3_reasonAgainst_67 : decode cX3_reasonAgainst 67 = .ok (.invokevirtual 85, 3) := by decide +kernel
theorem dX3_reasonAgainst_70 : decode cX3_reasonAgainst 70 = .ok (.ifCond .eq 7, 3) := by decide +kernel
theorem dX3_reasonAgainst_73 : decode cX3_reasonAgainst 73 = .ok (.iconst 1, 1) := by decide +kernel
theorem dX3_reasonAgainst_74 : decode cX3_reasonAgainst 74 = .ok (.goto 4, 3) := by decide +kernel
theorem dX3_reasonAgainst_77 : decode cX3_reasonAgainst 77 = .ok (.iconst 0, 1) := by decide +kernel
theorem dX3_reasonAgainst_78 : decode cX3_reasonAgainst 78 = .ok (.istore_n 3, 1) := by decide +kernel
theorem dX3_reasonAgainst_79 : decode cX3_reasonAgainst 79 = .ok (.iload_n 3, 1) := by decide +kernel
theorem dX3_reasonAgainst_80 : decode cX3_reasonAgainst 80 = .ok (.ifCond .eq 7, 3) := by decide +kernel
theorem dX3_reasonAgainst_83 : decode cX3_reasonAgainst 83 = .ok (.iconst 0, 1) := by decide +kernel
theorem dX3_reasonAgainst_84 : decode cX3_reasonAgainst 84 = .ok (.goto 4, 3) := by decide +kernel
theorem dX3_reasonAgainst_87 : decode cX3_reasonAgainst 87 = .ok (.iconst 4, 1) := by decide +kernel
theorem dX3_reasonAgainst_88 : decode cX3_reasonAgainst 88 = .ok (.ireturn, 1) := by decide +kernel
theorem dX3_hasDayLeft_0 : decode cX3_hasDayLeft 0 = .ok (.iload_n 1, 1) := by decide +kernel
theorem dX3_hasDayLeft_1 : decode cX3_hasDayLeft 1 = .ok (.invokestatic 89, 3) := by decide +kernel
theorem dX3_hasDayLeft_4 : decode cX3_hasDayLeft 4 = .ok (.ifCond .eq 22, 3) := by decide +kernel
theorem dX3_hasDayLeft_7 : decode cX3_hasDayLeft 7 = .ok (.aload_n 0, 1) := by decide +kernel
theorem dX3_hasDayLeft_8 : decode cX3_hasDayLeft 8 = .ok (.getfield 24, 3) := by decide +kernel
theorem dX3_hasDayLeft_11 : decode cX3_hasDayLeft 11 = .ok (.iload_n 1, 1) := by decide +kernel
theorem dX3_hasDayLeft_12 : decode cX3_hasDayLeft 12 = .ok (.iaload, 1) := by decide +kernel
theorem dX3_hasDayLeft_13 : decode cX3_hasDayLeft 13 = .ok (.aload_n 0, 1) := by decide +kernel
theorem dX3_hasDayLeft_14 : decode cX3_hasDayLeft 14 = .ok (.getfield 21, 3) := by decide +kernel
theorem dX3_hasDayLeft_17 : decode cX3_hasDayLeft 17 = .ok (.iload_n 1, 1) := by decide +kernel
theorem dX3_hasDayLeft_18 : decode cX3_hasDayLeft 18 = .ok (.iaload, 1) := by decide +kernel
theorem dX3_hasDayLeft_19 : decode cX3_hasDayLeft 19 = .ok (.if_icmp .ge 7, 3) := by decide +kernel
theorem dX3_hasDayLeft_22 : decode cX3_hasDayLeft 22 = .ok (.iconst 1, 1) := by decide +kernel
theorem dX3_hasDayLeft_23 : decode cX3_hasDayLeft 23 = .ok (.goto 4, 3) := by decide +kernel
theorem dX3_hasDayLeft_26 : decode cX3_hasDayLeft 26 = .ok (.iconst 0, 1) := by decide +kernel
theorem dX3_hasDayLeft_27 : decode cX3_hasDayLeft 27 = .ok (.ireturn, 1) := by decide +kernel
theorem dX3_hasRight_0 : decode cX3_hasRight 0 = .ok (.iload_n 2, 1) := by decide +kernel
theorem dX3_hasRight_1 : decode cX3_hasRight 1 = .ok (.invokestatic 78, 3) := by decide +kernel
theorem dX3_hasRight_4 : decode cX3_hasRight 4 = .ok (.ifCond .eq 17, 3) := by decide +kernel
theorem dX3_hasRight_7 : decode cX3_hasRight 7 = .ok (.aload_n 0, 1) := by decide +kernel
theorem dX3_hasRight_8 : decode cX3_hasRight 8 = .ok (.getfield 18, 3) := by decide +kernel
theorem dX3_hasRight_11 : decode cX3_hasRight 11 = .ok (.iload_n 2, 1) := by decide +kernel
theorem dX3_hasRight_12 : decode cX3_hasRight 12 = .ok (.iaload, 1) := by decide +kernel
theorem dX3_hasRight_13 : decode cX3_hasRight 13 = .ok (.iload_n 1, 1) := by decide +kernel
theorem dX3_hasRight_14 : decode cX3_hasRight 14 = .ok (.if_icmp .ne 7, 3) := by decide +kernel
theorem dX3_hasRight_17 : decode cX3_hasRight 17 = .ok (.iconst 1, 1) := by decide +kernel
theorem dX3_hasRight_18 : decode cX3_hasRight 18 = .ok (.goto 4, 3) := by decide +kernel
theorem dX3_hasRight_21 : decode cX3_hasRight 21 = .ok (.iconst 0, 1) := by decide +kernel
theorem dX3_hasRight_22 : decode cX3_hasRight 22 = .ok (.ireturn, 1) := by decide +kernel
theorem dX3_takeLayer_0 : decode cX3_takeLayer 0 = .ok (.iload_n 1, 1) := by decide +kernel
theorem dX3_takeLayer_1 : decode cX3_takeLayer 1 = .ok (.invokestatic 89, 3) := by decide +kernel
theorem dX3_takeLayer_4 : decode cX3_takeLayer 4 = .ok (.ifCond .eq 10, 3) := by decide +kernel
theorem dX3_takeLayer_7 : decode cX3_takeLayer 7 = .ok (.iload_n 2, 1) := by decide +kernel
theorem dX3_takeLayer_8 : decode cX3_takeLayer 8 = .ok (.invokestatic 78, 3) := by decide +kernel
theorem dX3_takeLayer_11 : decode cX3_takeLayer 11 = .ok (.ifCond .ne 5, 3) := by decide +kernel
theorem dX3_takeLayer_14 : decode cX3_takeLayer 14 = .ok (.iconst (-1), 1) := by decide +kernel
theorem dX3_takeLayer_15 : decode cX3_takeLayer 15 = .ok (.ireturn, 1) := by decide +kernel
theorem dX3_takeLayer_16 : decode cX3_takeLayer 16 = .ok (.aload_n 0, 1) := by decide +kernel
theorem dX3_takeLayer_17 : decode cX3_takeLayer 17 = .ok (.getfield 9, 3) := by decide +kernel
theorem dX3_takeLayer_20 : decode cX3_takeLayer 20 = .ok (.iload_n 2, 1) := by decide +kernel
theorem dX3_takeLayer_21 : decode cX3_takeLayer 21 = .ok (.dup2, 1) := by decide +kernel
theorem dX3_takeLayer_22 : decode cX3_takeLayer 22 = .ok (.iaload, 1) := by decide +kernel
theorem dX3_takeLayer_23 : decode cX3_takeLayer 23 = .ok (.iconst 1, 1) := by decide +kernel
theorem dX3_takeLayer_24 : decode cX3_takeLayer 24 = .ok (.isub, 1) := by decide +kernel
theorem dX3_takeLayer_25 : decode cX3_takeLayer 25 = .ok (.iastore, 1) := by decide +kernel
theorem dX3_takeLayer_26 : decode cX3_takeLayer 26 = .ok (.aload_n 0, 1) := by decide +kernel
theorem dX3_takeLayer_27 : decode cX3_takeLayer 27 = .ok (.getfield 24, 3) := by decide +kernel
theorem dX3_takeLayer_30 : decode cX3_takeLayer 30 = .ok (.iload_n 1, 1) := by decide +kernel
theorem dX3_takeLayer_31 : decode cX3_takeLayer 31 = .ok (.dup2, 1) := by decide +kernel
theorem dX3_takeLayer_32 : decode cX3_takeLayer 32 = .ok (.iaload, 1) := by decide +kernel
theorem dX3_takeLayer_33 : decode cX3_takeLayer 33 = .ok (.iconst 1, 1) := by decide +kernel
theorem dX3_takeLayer_34 : decode cX3_takeLayer 34 = .ok (.iadd, 1) := by decide +kernel
theorem dX3_takeLayer_35 : decode cX3_takeLayer 35 = .ok (.iastore, 1) := by decide +kernel
theorem dX3_takeLayer_36 : decode cX3_takeLayer 36 = .ok (.aload_n 0, 1) := by decide +kernel
theorem dX3_takeLayer_37 : decode cX3_takeLayer 37 = .ok (.getfield 33, 3) := by decide +kernel
theorem dX3_takeLayer_40 : decode cX3_takeLayer 40 = .ok (.iload_n 1, 1) := by decide +kernel
theorem dX3_takeLayer_41 : decode cX3_takeLayer 41 = .ok (.iload_n 2, 1) := by decide +kernel
theorem dX3_takeLayer_42 : decode cX3_takeLayer 42 = .ok (.invokevirtual 92, 3) := by decide +kernel
theorem dX3_takeLayer_45 : decode cX3_takeLayer 45 = .ok (.istore_n 3, 1) := by decide +kernel
theorem dX3_takeLayer_46 : decode cX3_takeLayer 46 = .ok (.aload_n 0, 1) := by decide +kernel
theorem dX3_takeLayer_47 : decode cX3_takeLayer 47 = .ok (.getfield 18, 3) := by decide +kernel
theorem dX3_takeLayer_50 : decode cX3_takeLayer 50 = .ok (.iload_n 2, 1) := by decide +kernel
theorem dX3_takeLayer_51 : decode cX3_takeLayer 51 = .ok (.iaload, 1) := by decide +kernel
theorem dX3_takeLayer_52 : decode cX3_takeLayer 52 = .ok (.iload_n 1, 1) := by decide +kernel
theorem dX3_takeLayer_53 : decode cX3_takeLayer 53 = .ok (.if_icmp .eq 19, 3) := by decide +kernel
theorem dX3_takeLayer_56 : decode cX3_takeLayer 56 = .ok (.aload_n 0, 1) := by decide +kernel
theorem dX3_takeLayer_57 : decode cX3_takeLayer 57 = .ok (.getfield 40, 3) := by decide +kernel
theorem dX3_takeLayer_60 : decode cX3_takeLayer 60 = .ok (.iload_n 1, 1) := by decide +kernel
theorem dX3_takeLayer_61 : decode cX3_takeLayer 61 = .ok (.aload_n 0, 1) := by decide +kernel
theorem dX3_takeLayer_62 : decode cX3_takeLayer 62 = .ok (.getfield 18, 3) := by decide +kernel
theorem dX3_takeLayer_65 : decode cX3_takeLayer 65 = .ok (.iload_n 2, 1) := by decide +kernel
theorem dX3_takeLayer_66 : decode cX3_takeLayer 66 = .ok (.iaload, 1) := by decide +kernel
theorem dX3_takeLayer_67 : decode cX3_takeLayer 67 = .ok (.iload_n 3, 1) := by decide +kernel
theorem dX3_takeLayer_68 : decode cX3_takeLayer 68 = .ok (.iload_n 2, 1) := by decide +kernel
theorem dX3_takeLayer_69 : decode cX3_takeLayer 69 = .ok (.invokevirtual 96, 3) := by decide +kernel
theorem dX3_takeLayer_72 : decode cX3_takeLayer 72 = .ok (.iload_n 3, 1) := by decide +kernel
theorem dX3_takeLayer_73 : decode cX3_takeLayer 73 = .ok (.ireturn, 1) := by decide +kernel
theorem dX3_passDays_0 : decode cX3_passDays 0 = .ok (.aload_n 0, 1) := by decide +kernel
theorem dX3_passDays_1 : decode cX3_passDays 1 = .ok (.getfield 71, 3) := by decide +kernel
theorem dX3_passDays_4 : decode cX3_passDays 4 = .ok (.istore_n 3, 1) := by decide +kernel
theorem dX3_passDays_5 : decode cX3_passDays 5 = .ok (.iconst 0, 1) := by decide +kernel
theorem dX3_passDays_6 : decode cX3_passDays 6 = .ok (.istore 4, 2) := by decide +kernel
theorem dX3_passDays_8 : decode cX3_passDays 8 = .ok (.iload 4, 2) := by decide +kernel
theorem dX3_passDays_10 : decode cX3_passDays 10 = .ok (.iload_n 1, 1) := by decide +kernel
theorem dX3_passDays_11 : decode cX3_passDays 11 = .ok (.if_icmp .ge 65, 3) := by decide +kernel
theorem dX3_passDays_14 : decode cX3_passDays 14 = .ok (.aload_n 0, 1) := by decide +kernel
theorem dX3_passDays_15 : decode cX3_passDays 15 = .ok (.getfield 33, 3) := by decide +kernel
theorem dX3_passDays_18 : decode cX3_passDays 18 = .ok (.iload_n 2, 1) := by decide +kernel
theorem dX3_passDays_19 : decode cX3_passDays 19 = .ok (.invokevirtual 100, 3) := by decide +kernel
theorem dX3_passDays_22 : decode cX3_passDays 22 = .ok (.iconst 0, 1) := by decide +kernel
theorem dX3_passDays_23 : decode cX3_passDays 23 = .ok (.istore 5, 2) := by decide +kernel
theorem dX3_passDays_25 : decode cX3_passDays 25 = .ok (.iload 5, 2) := by decide +kernel
theorem dX3_passDays_27 : decode cX3_passDays 27 = .ok (.iconst 2, 1) := by decide +kernel
theorem dX3_passDays_28 : decode cX3_passDays 28 = .ok (.if_icmp .ge 19, 3) := by decide +kernel
theorem dX3_passDays_31 : decode cX3_passDays 31 = .ok (.aload_n 0, 1) := by decide +kernel
theorem dX3_passDays_32 : decode cX3_passDays 32 = .ok (.aload_n 0, 1) := by decide +kernel
theorem dX3_passDays_33 : decode cX3_passDays 33 = .ok (.iload 5, 2) := by decide +kernel
theorem dX3_passDays_35 : decode cX3_passDays 35 = .ok (.invokevirtual 104, 3) := by decide +kernel
theorem dX3_passDays_38 : decode cX3_passDays 38 = .ok (.invokevirtual 108, 3) := by decide +kernel
theorem dX3_passDays_41 : decode cX3_passDays 41 = .ok (.iinc 5 1, 3) := by decide +kernel
theorem dX3_passDays_44 : decode cX3_passDays 44 = .ok (.goto (-19), 3) := by decide +kernel
theorem dX3_passDays_47 : decode cX3_passDays 47 = .ok (.aload_n 0, 1) := by decide +kernel
theorem dX3_passDays_48 : decode cX3_passDays 48 = .ok (.aload_n 0, 1) := by decide +kernel
theorem dX3_passDays_49 : decode cX3_passDays 49 = .ok (.getfield 62, 3) := by decide +kernel
theorem dX3_passDays_52 : decode cX3_passDays 52 = .ok (.iconst 1, 1) := by decide +kernel
theorem dX3_passDays_53 : decode cX3_passDays 53 = .ok (.iadd, 1) := by decide +kernel
theorem dX3_passDays_54 : decode cX3_passDays 54 = .ok (.bipush 10, 2) := by decide +kernel
theorem dX3_passDays_56 : decode cX3_passDays 56 = .ok (.irem, 1) := by decide +kernel
theorem dX3_passDays_57 : decode cX3_passDays 57 = .ok (.putfield 62, 3) := by decide +kernel
theorem dX3_passDays_60 : decode cX3_passDays 60 = .ok (.aload_n 0, 1) := by decide +kernel
theorem dX3_passDays_61 : decode cX3_passDays 61 = .ok (.dup, 1) := by decide +kernel
theorem dX3_passDays_62 : decode cX3_passDays 62 = .ok (.getfield 65, 3) := by decide +kernel
theorem dX3_passDays_65 : decode cX3_passDays 65 = .ok (.iconst 1, 1) := by decide +kernel
theorem dX3_passDays_66 : decode cX3_passDays 66 = .ok (.iadd, 1) := by decide +kernel
theorem dX3_passDays_67 : decode cX3_passDays 67 = .ok (.putfield 65, 3) := by decide +kernel
theorem dX3_passDays_70 : decode cX3_passDays 70 = .ok (.iinc 4 1, 3) := by decide +kernel
theorem dX3_passDays_73 : decode cX3_passDays 73 = .ok (.goto (-65), 3) := by decide +kernel
theorem dX3_passDays_76 : decode cX3_passDays 76 = .ok (.aload_n 0, 1) := by decide +kernel
theorem dX3_passDays_77 : decode cX3_passDays 77 = .ok (.getfield 71, 3) := by decide +kernel
theorem dX3_passDays_80 : decode cX3_passDays 80 = .ok (.iload_n 3, 1) := by decide +kernel
theorem dX3_passDays_81 : decode cX3_passDays 81 = .ok (.isub, 1) := by decide +kernel
theorem dX3_passDays_82 : decode cX3_passDays 82 = .ok (.ireturn, 1) := by decide +kernel
theorem dX3_commonerOfCart_0 : decode cX3_commonerOfCart 0 = .ok (.aload_n 0, 1) := by decide +kernel
theorem dX3_commonerOfCart_1 : decode cX3_commonerOfCart 1 = .ok (.getfield 62, 3) := by decide +kernel
theorem dX3_commonerOfCart_4 : decode cX3_commonerOfCart 4 = .ok (.iload_n 1, 1) := by decide +kernel
theorem dX3_commonerOfCart_5 : decode cX3_commonerOfCart 5 = .ok (.iconst 5, 1) := by decide +kernel
theorem dX3_commonerOfCart_6 : decode cX3_commonerOfCart 6 = .ok (.imul, 1) := by decide +kernel
theorem dX3_commonerOfCart_7 : decode cX3_commonerOfCart 7 = .ok (.iadd, 1) := by decide +kernel
theorem dX3_commonerOfCart_8 : decode cX3_commonerOfCart 8 = .ok (.bipush 10, 2) := by decide +kernel
theorem dX3_commonerOfCart_10 : decode cX3_commonerOfCart 10 = .ok (.irem, 1) := by decide +kernel
theorem dX3_commonerOfCart_11 : decode cX3_commonerOfCart 11 = .ok (.ireturn, 1) := by decide +kernel
theorem dX3_serve_0 : decode cX3_serve 0 = .ok (.iconst 0, 1) := by decide +kernel
theorem dX3_serve_1 : decode cX3_serve 1 = .ok (.istore_n 2, 1) := by decide +kernel
theorem dX3_serve_2 : decode cX3_serve 2 = .ok (.iload_n 2, 1) := by decide +kernel
theorem dX3_serve_3 : decode cX3_serve 3 = .ok (.aload_n 0, 1) := by decide +kernel
theorem dX3_serve_4 : decode cX3_serve 4 = .ok (.getfield 44, 3) := by decide +kernel
theorem dX3_serve_7 : decode cX3_serve 7 = .ok (.if_icmp .ge 74, 3) := by decide +kernel
theorem dX3_serve_10 : decode cX3_serve 10 = .ok (.aload_n 0, 1) := by decide +kernel
theorem dX3_serve_11 : decode cX3_serve 11 = .ok (.getfield 33, 3) := by decide +kernel
theorem dX3_serve_14 : decode cX3_serve 14 = .ok (.iload_n 1, 1) := by decide +kernel
theorem dX3_serve_15 : decode cX3_serve 15 = .ok (.invokevirtual 111, 3) := by decide +kernel
theorem dX3_serve_18 : decode cX3_serve 18 = .ok (.istore_n 3, 1) := by decide +kernel
theorem dX3_serve_19 : decode cX3_serve 19 = .ok (.iload_n 1, 1) := by decide +kernel
theorem dX3_serve_20 : decode cX3_serve 20 = .ok (.invokestatic 89, 3) := by decide +kernel
theorem dX3_serve_23 : decode cX3_serve 23 = .ok (.ifCond .eq 14, 3) := by decide +kernel
theorem dX3_serve_26 : decode cX3_serve 26 = .ok (.aload_n 0, 1) := by decide +kernel
theorem dX3_serve_27 : decode cX3_serve 27 = .ok (.getfield 33, 3) := by decide +kernel
theorem dX3_serve_30 : decode cX3_serve 30 = .ok (.iload_n 3, 1) := by decide +kernel
theorem dX3_serve_31 : decode cX3_serve 31 = .ok (.invokevirtual 114, 3) := by decide +kernel
theorem dX3_serve_34 : decode cX3_serve 34 = .ok (.ifCond .ne 4, 3) := by decide +kernel
theorem dX3_serve_37 : decode cX3_serve 37 = .ok (.return_, 1) := by decide +kernel
theorem dX3_serve_38 : decode cX3_serve 38 = .ok (.aload_n 0, 1) := by decide +kernel
theorem dX3_serve_39 : decode cX3_serve 39 = .ok (.getfield 27, 3) := by decide +kernel
theorem dX3_serve_42 : decode cX3_serve 42 = .ok (.iload_n 1, 1) := by decide +kernel
theorem dX3_serve_43 : decode cX3_serve 43 = .ok (.dup2, 1) := by decide +kernel
theorem dX3_serve_44 : decode cX3_serve 44 = .ok (.iaload, 1) := by decide +kernel
theorem dX3_serve_45 : decode cX3_serve 45 = .ok (.aload_n 0, 1) := by decide +kernel
theorem dX3_serve_46 : decode cX3_serve 46 = .ok (.getfield 33, 3) := by decide +kernel
theorem dX3_serve_49 : decode cX3_serve 49 = .ok (.iload_n 3, 1) := by decide +kernel
theorem dX3_serve_50 : decode cX3_serve 50 = .ok (.invokevirtual 117, 3) := by decide +kernel
theorem dX3_serve_53 : decode cX3_serve 53 = .ok (.iadd, 1) := by decide +kernel
theorem dX3_serve_54 : decode cX3_serve 54 = .ok (.iastore, 1) := by decide +kernel
theorem dX3_serve_55 : decode cX3_serve 55 = .ok (.aload_n 0, 1) := by decide +kernel
theorem dX3_serve_56 : decode cX3_serve 56 = .ok (.getfield 33, 3) := by decide +kernel
theorem dX3_serve_59 : decode cX3_serve 59 = .ok (.getfield 120, 3) := by decide +kernel
theorem dX3_serve_62 : decode cX3_serve 62 = .ok (.iload_n 3, 1) := by decide +kernel
theorem dX3_serve_63 : decode cX3_serve 63 = .ok (.iconst 0, 1) := by decide +kernel
theorem dX3_serve_64 : decode cX3_serve 64 = .ok (.bastore, 1) := by decide +kernel
theorem dX3_serve_65 : decode cX3_serve 65 = .ok (.aload_n 0, 1) := by decide +kernel
theorem dX3_serve_66 : decode cX3_serve 66 = .ok (.dup, 1) := by decide +kernel
theorem dX3_serve_67 : decode cX3_serve 67 = .ok (.getfield 71, 3) := by decide +kernel
theorem dX3_serve_70 : decode cX3_serve 70 = .ok (.iconst 1, 1) := by decide +kernel
theorem dX3_serve_71 : decode cX3_serve 71 = .ok (.iadd, 1) := by decide +kernel
theorem dX3_serve_72 : decode cX3_serve 72 = .ok (.putfield 71, 3) := by decide +kernel
theorem dX3_serve_75 : decode cX3_serve 75 = .ok (.iinc 2 1, 3) := by decide +kernel
theorem dX3_serve_78 : decode cX3_serve 78 = .ok (.goto (-76), 3) := by decide +kernel
theorem dX3_serve_81 : decode cX3_serve 81 = .ok (.return_, 1) := by decide +kernel
theorem dX3_settleOldest_0 : decode cX3_settleOldest 0 = .ok (.aload_n 0, 1) := by decide +kernel
theorem dX3_settleOldest_1 : decode cX3_settleOldest 1 = .ok (.getfield 40, 3) := by decide +kernel
theorem dX3_settleOldest_4 : decode cX3_settleOldest 4 = .ok (.iconst 0, 1) := by decide +kernel
theorem dX3_settleOldest_5 : decode cX3_settleOldest 5 = .ok (.invokevirtual 124, 3) := by decide +kernel
theorem dX3_settleOldest_8 : decode cX3_settleOldest 8 = .ok (.istore_n 1, 1) := by decide +kernel
theorem dX3_settleOldest_9 : decode cX3_settleOldest 9 = .ok (.iload_n 1, 1) := by decide +kernel
theorem dX3_settleOldest_10 : decode cX3_settleOldest 10 = .ok (.bipush (-5), 2) := by decide +kernel
theorem dX3_settleOldest_12 : decode cX3_settleOldest 12 = .ok (.if_icmp .ne 6, 3) := by decide +kernel
theorem dX3_settleOldest_15 : decode cX3_settleOldest 15 = .ok (.bipush (-5), 2) := by decide +kernel
theorem dX3_settleOldest_17 : decode cX3_settleOldest 17 = .ok (.ireturn, 1) := by decide +kernel
theorem dX3_settleOldest_18 : decode cX3_settleOldest 18 = .ok (.aload_n 0, 1) := by decide +kernel
theorem dX3_settleOldest_19 : decode cX3_settleOldest 19 = .ok (.getfield 40, 3) := by decide +kernel
theorem dX3_settleOldest_22 : decode cX3_settleOldest 22 = .ok (.dup, 1) := by decide +kernel
theorem dX3_settleOldest_23 : decode cX3_settleOldest 23 = .ok (.getfield 127, 3) := by decide +kernel
theorem dX3_settleOldest_26 : decode cX3_settleOldest 26 = .ok (.iconst 1, 1) := by decide +kernel
theorem dX3_settleOldest_27 : decode cX3_settleOldest 27 = .ok (.iadd, 1) := by decide +kernel
theorem dX3_settleOldest_28 : decode cX3_settleOldest 28 = .ok (.putfield 127, 3) := by decide +kernel
theorem dX3_settleOldest_31 : decode cX3_settleOldest 31 = .ok (.aload_n 0, 1) := by decide +kernel
theorem dX3_settleOldest_32 : decode cX3_settleOldest 32 = .ok (.getfield 40, 3) := by decide +kernel
theorem dX3_settleOldest_35 : decode cX3_settleOldest 35 = .ok (.getfield 130, 3) := by decide +kernel
theorem dX3_settleOldest_38 : decode cX3_settleOldest 38 = .ok (.iload_n 1, 1) := by decide +kernel
theorem dX3_settleOldest_39 : decode cX3_settleOldest 39 = .ok (.iaload, 1) := by decide +kernel
theorem dX3_settleOldest_40 : decode cX3_settleOldest 40 = .ok (.istore_n 2, 1) := by decide +kernel
theorem dX3_settleOldest_41 : decode cX3_settleOldest 41 = .ok (.aload_n 0, 1) := by decide +kernel
theorem dX3_settleOldest_42 : decode cX3_settleOldest 42 = .ok (.getfield 59, 3) := by decide +kernel
theorem dX3_settleOldest_45 : decode cX3_settleOldest 45 = .ok (.ifCond .ne 11, 3) := by decide +kernel
theorem dX3_settleOldest_48 : decode cX3_settleOldest 48 = .ok (.aload_n 0, 1) := by decide +kernel
theorem dX3_settleOldest_49 : decode cX3_settleOldest 49 = .ok (.iload_n 2, 1) := by decide +kernel
theorem dX3_settleOldest_50 : decode cX3_settleOldest 50 = .ok (.invokevirtual 133, 3) := by decide +kernel
theorem dX3_settleOldest_53 : decode cX3_settleOldest 53 = .ok (.bipush 10, 2) := by decide +kernel
theorem dX3_settleOldest_55 : decode cX3_settleOldest 55 = .ok (.ireturn, 1) := by decide +kernel
theorem dX3_settleOldest_56 : decode cX3_settleOldest 56 = .ok (.aload_n 0, 1) := by decide +kernel
theorem dX3_settleOldest_57 : decode cX3_settleOldest 57 = .ok (.getfield 40, 3) := by decide +kernel
theorem dX3_settleOldest_60 : decode cX3_settleOldest 60 = .ok (.getfield 136, 3) := by decide +kernel
theorem dX3_settleOldest_63 : decode cX3_settleOldest 63 = .ok (.iload_n 1, 1) := by decide +kernel
theorem dX3_settleOldest_64 : decode cX3_settleOldest 64 = .ok (.iaload, 1) := by decide +kernel
theorem dX3_settleOldest_65 : decode cX3_settleOldest 65 = .ok (.istore_n 3, 1) := by decide +kernel
theorem dX3_settleOldest_66 : decode cX3_settleOldest 66 = .ok (.aload_n 0, 1) := by decide +kernel
theorem dX3_settleOldest_67 : decode cX3_settleOldest 67 = .ok (.getfield 40, 3) := by decide +kernel
theorem dX3_settleOldest_70 : decode cX3_settleOldest 70 = .ok (.getfield 139, 3) := by decide +kernel
theorem dX3_settleOldest_73 : decode cX3_settleOldest 73 = .ok (.iload_n 1, 1) := by decide +kernel
theorem dX3_settleOldest_74 : decode cX3_settleOldest 74 = .ok (.iaload, 1) := by decide +kernel
theorem dX3_settleOldest_75 : decode cX3_settleOldest 75 = .ok (.istore 4, 2) := by decide +kernel
theorem dX3_settleOldest_77 : decode cX3_settleOldest 77 = .ok (.aload_n 0, 1) := by decide +kernel
theorem dX3_settleOldest_78 : decode cX3_settleOldest 78 = .ok (.getfield 33, 3) := by decide +kernel
theorem dX3_settleOldest_81 : decode cX3_settleOldest 81 = .ok (.iload 4, 2) := by decide +kernel
theorem dX3_settleOldest_83 : decode cX3_settleOldest 83 = .ok (.invokevirtual 114, 3) := by decide +kernel
theorem dX3_settleOldest_86 : decode cX3_settleOldest 86 = .ok (.ifCond .eq 17, 3) := by decide +kernel
theorem dX3_settleOldest_89 : decode cX3_settleOldest 89 = .ok (.aload_n 0, 1) := by decide +kernel
theorem dX3_settleOldest_90 : decode cX3_settleOldest 90 = .ok (.getfield 33, 3) := by decide +kernel
theorem dX3_settleOldest_93 : decode cX3_settleOldest 93 = .ok (.getfield 142, 3) := by decide +kernel
theorem dX3_settleOldest_96 : decode cX3_settleOldest 96 = .ok (.iload 4, 2) := by decide +kernel
theorem dX3_settleOldest_98 : decode cX3_settleOldest 98 = .ok (.iload_n 3, 1) := by decide +kernel
theorem dX3_settleOldest_99 : decode cX3_settleOldest 99 = .ok (.iastore, 1) := by decide +kernel
theorem dX3_settleOldest_100 : decode cX3_settleOldest 100 = .ok (.goto 9, 3) := by decide +kernel
theorem dX3_settleOldest_103 : decode cX3_settleOldest 103 = .ok (.aload_n 0, 1) := by decide +kernel
theorem dX3_settleOldest_104 : decode cX3_settleOldest 104 = .ok (.iload_n 2, 1) := by decide +kernel
theorem dX3_settleOldest_105 : decode cX3_settleOldest 105 = .ok (.iload_n 3, 1) := by decide +kernel
theorem dX3_settleOldest_106 : decode cX3_settleOldest 106 = .ok (.invokevirtual 145, 3) := by decide +kernel
theorem dX3_settleOldest_109 : decode cX3_settleOldest 109 = .ok (.iload_n 3, 1) := by decide +kernel
theorem dX3_settleOldest_110 : decode cX3_settleOldest 110 = .ok (.ireturn, 1) := by decide +kernel
theorem dX3_useDayIfLeft_0 : decode cX3_useDayIfLeft 0 = .ok (.aload_n 0, 1) := by decide +kernel
theorem dX3_useDayIfLeft_1 : decode cX3_useDayIfLeft 1 = .ok (.iload_n 1, 1) := by decide +kernel
theorem dX3_useDayIfLeft_2 : decode cX3_useDayIfLeft 2 = .ok (.invokevirtual 74, 3) := by decide +kernel
theorem dX3_useDayIfLeft_5 : decode cX3_useDayIfLeft 5 = .ok (.ifCond .eq 13, 3) := by decide +kernel
theorem dX3_useDayIfLeft_8 : decode cX3_useDayIfLeft 8 = .ok (.aload_n 0, 1) := by decide +kernel
theorem dX3_useDayIfLeft_9 : decode cX3_useDayIfLeft 9 = .ok (.getfield 24, 3) := by decide +kernel
theorem dX3_useDayIfLeft_12 : decode cX3_useDayIfLeft 12 = .ok (.iload_n 1, 1) := by decide +kernel
theorem dX3_useDayIfLeft_13 : decode cX3_useDayIfLeft 13 = .ok (.dup2, 1) := by decide +kernel
theorem dX3_useDayIfLeft_14 : decode cX3_useDayIfLeft 14 = .ok (.iaload, 1) := by decide +kernel
theorem dX3_useDayIfLeft_15 : decode cX3_useDayIfLeft 15 = .ok (.iconst 1, 1) := by decide +kernel
theorem dX3_useDayIfLeft_16 : decode cX3_useDayIfLeft 16 = .ok (.iadd, 1) := by decide +kernel
theorem dX3_useDayIfLeft_17 : decode cX3_useDayIfLeft 17 = .ok (.iastore, 1) := by decide +kernel
theorem dX3_useDayIfLeft_18 : decode cX3_useDayIfLeft 18 = .ok (.return_, 1) := by decide +kernel
theorem dX3_givePeats_0 : decode cX3_givePeats 0 = .ok (.iload_n 1, 1) := by decide +kernel
theorem dX3_givePeats_1 : decode cX3_givePeats 1 = .ok (.invokestatic 89, 3) := by decide +kernel
theorem dX3_givePeats_4 : decode cX3_givePeats 4 = .ok (.ifCond .eq 42, 3) := by decide +kernel
theorem dX3_givePeats_7 : decode cX3_givePeats 7 = .ok (.iload_n 2, 1) := by decide +kernel
theorem dX3_givePeats_8 : decode cX3_givePeats 8 = .ok (.invokestatic 89, 3) := by decide +kernel
theorem dX3_givePeats_11 : decode cX3_givePeats 11 = .ok (.ifCond .eq 35, 3) := by decide +kernel
theorem dX3_givePeats_14 : decode cX3_givePeats 14 = .ok (.bipush 20, 2) := by decide +kernel
theorem dX3_givePeats_16 : decode cX3_givePeats 16 = .ok (.aload_n 0, 1) := by decide +kernel
theorem dX3_givePeats_17 : decode cX3_givePeats 17 = .ok (.getfield 27, 3) := by decide +kernel
theorem dX3_givePeats_20 : decode cX3_givePeats 20 = .ok (.iload_n 1, 1) := by decide +kernel
theorem dX3_givePeats_21 : decode cX3_givePeats 21 = .ok (.iaload, 1) := by decide +kernel
theorem dX3_givePeats_22 : decode cX3_givePeats 22 = .ok (.invokestatic 149, 3) := by decide +kernel
theorem dX3_givePeats_25 : decode cX3_givePeats 25 = .ok (.istore_n 3, 1) := by decide +kernel
theorem dX3_givePeats_26 : decode cX3_givePeats 26 = .ok (.aload_n 0, 1) := by decide +kernel
theorem dX3_givePeats_27 : decode cX3_givePeats 27 = .ok (.getfield 27, 3) := by decide +kernel
theorem dX3_givePeats_30 : decode cX3_givePeats 30 = .ok (.iload_n 1, 1) := by decide +kernel
theorem dX3_givePeats_31 : decode cX3_givePeats 31 = .ok (.dup2, 1) := by decide +kernel
theorem dX3_givePeats_32 : decode cX3_givePeats 32 = .ok (.iaload, 1) := by decide +kernel
theorem dX3_givePeats_33 : decode cX3_givePeats 33 = .ok (.iload_n 3, 1) := by decide +kernel
theorem dX3_givePeats_34 : decode cX3_givePeats 34 = .ok (.isub, 1) := by decide +kernel
theorem dX3_givePeats_35 : decode cX3_givePeats 35 = .ok (.iastore, 1) := by decide +kernel
theorem dX3_givePeats_36 : decode cX3_givePeats 36 = .ok (.aload_n 0, 1) := by decide +kernel
theorem dX3_givePeats_37 : decode cX3_givePeats 37 = .ok (.getfield 27, 3) := by decide +kernel
theorem dX3_givePeats_40 : decode cX3_givePeats 40 = .ok (.iload_n 2, 1) := by decide +kernel
theorem dX3_givePeats_41 : decode cX3_givePeats 41 = .ok (.dup2, 1) := by decide +kernel
theorem dX3_givePeats_42 : decode cX3_givePeats 42 = .ok (.iaload, 1) := by decide +kernel
theorem dX3_givePeats_43 : decode cX3_givePeats 43 = .ok (.iload_n 3, 1) := by decide +kernel
theorem dX3_givePeats_44 : decode cX3_givePeats 44 = .ok (.iadd, 1) := by decide +kernel
theorem dX3_givePeats_45 : decode cX3_givePeats 45 = .ok (.iastore, 1) := by decide +kernel
theorem dX3_givePeats_46 : decode cX3_givePeats 46 = .ok (.return_, 1) := by decide +kernel
theorem dX3_closeYear_0 : decode cX3_closeYear 0 = .ok (.aload_n 0, 1) := by decide +kernel
theorem dX3_closeYear_1 : decode cX3_closeYear 1 = .ok (.getfield 33, 3) := by decide +kernel
theorem dX3_closeYear_4 : decode cX3_closeYear 4 = .ok (.invokevirtual 154, 3) := by decide +kernel
theorem dX3_closeYear_7 : decode cX3_closeYear 7 = .ok (.istore_n 1, 1) := by decide +kernel
theorem dX3_closeYear_8 : decode cX3_closeYear 8 = .ok (.aload_n 0, 1) := by decide +kernel
theorem dX3_closeYear_9 : decode cX3_closeYear 9 = .ok (.getfield 40, 3) := by decide +kernel
theorem dX3_closeYear_12 : decode cX3_closeYear 12 = .ok (.aload_n 0, 1) := by decide +kernel
theorem dX3_closeYear_13 : decode cX3_closeYear 13 = .ok (.getfield 40, 3) := by decide +kernel
theorem dX3_closeYear_16 : decode cX3_closeYear 16 = .ok (.getfield 157, 3) := by decide +kernel
theorem dX3_closeYear_19 : decode cX3_closeYear 19 = .ok (.putfield 127, 3) := by decide +kernel
theorem dX3_closeYear_22 : decode cX3_closeYear 22 = .ok (.aload_n 0, 1) := by decide +kernel
theorem dX3_closeYear_23 : decode cX3_closeYear 23 = .ok (.getfield 15, 3) := by decide +kernel
theorem dX3_closeYear_26 : decode cX3_closeYear 26 = .ok (.aload_n 0, 1) := by decide +kernel
theorem dX3_closeYear_27 : decode cX3_closeYear 27 = .ok (.getfield 18, 3) := by decide +kernel
theorem dX3_closeYear_30 : decode cX3_closeYear 30 = .ok (.invokestatic 48, 3) := by decide +kernel
theorem dX3_closeYear_33 : decode cX3_closeYear 33 = .ok (.iconst 0, 1) := by decide +kernel
theorem dX3_closeYear_34 : decode cX3_closeYear 34 = .ok (.istore_n 2, 1) := by decide +kernel
theorem dX3_closeYear_35 : decode cX3_closeYear 35 = .ok (.iload_n 2, 1) := by decide +kernel
theorem dX3_closeYear_36 : decode cX3_closeYear 36 = .ok (.bipush 10, 2) := by decide +kernel
theorem dX3_closeYear_38 : decode cX3_closeYear 38 = .ok (.if_icmp .ge 16, 3) := by decide +kernel
theorem dX3_closeYear_41 : decode cX3_closeYear 41 = .ok (.aload_n 0, 1) := by decide +kernel
theorem dX3_closeYear_42 : decode cX3_closeYear 42 = .ok (.getfield 24, 3) := by decide +kernel
theorem dX3_closeYear_45 : decode cX3_closeYear 45 = .ok (.iload_n 2, 1) := by decide +kernel
theorem dX3_closeYear_46 : decode cX3_closeYear 46 = .ok (.iconst 0, 1) := by decide +kernel
theorem dX3_closeYear_47 : decode cX3_closeYear 47 = .ok (.iastore, 1) := by decide +kernel
theorem dX3_closeYear_48 : decode cX3_closeYear 48 = .ok (.iinc 2 1, 3) := by decide +kernel
theorem dX3_closeYear_51 : decode cX3_closeYear 51 = .ok (.goto (-16), 3) := by decide +kernel
theorem dX3_closeYear_54 : decode cX3_closeYear 54 = .ok (.aload_n 0, 1) := by decide +kernel
theorem dX3_closeYear_55 : decode cX3_closeYear 55 = .ok (.iconst 0, 1) := by decide +kernel
theorem dX3_closeYear_56 : decode cX3_closeYear 56 = .ok (.putfield 65, 3) := by decide +kernel
theorem dX3_closeYear_59 : decode cX3_closeYear 59 = .ok (.aload_n 0, 1) := by decide +kernel
theorem dX3_closeYear_60 : decode cX3_closeYear 60 = .ok (.dup, 1) := by decide +kernel
theorem dX3_closeYear_61 : decode cX3_closeYear 61 = .ok (.getfield 68, 3) := by decide +kernel
theorem dX3_closeYear_64 : decode cX3_closeYear 64 = .ok (.iconst 1, 1) := by decide +kernel
theorem dX3_closeYear_65 : decode cX3_closeYear 65 = .ok (.iadd, 1) := by decide +kernel
theorem dX3_closeYear_66 : decode cX3_closeYear 66 = .ok (.putfield 68, 3) := by decide +kernel
theorem dX3_closeYear_69 : decode cX3_closeYear 69 = .ok (.iload_n 1, 1) := by decide +kernel
theorem dX3_closeYear_70 : decode cX3_closeYear 70 = .ok (.ireturn, 1) := by decide +kernel
theorem dX4_init_0 : decode cX4_init 0 = .ok (.aload_n 0, 1) := by decide +kernel
theorem dX4_init_1 : decode cX4_init 1 = .ok (.invokespecial 3, 3) := by decide +kernel
theorem dX4_init_4 : decode cX4_init 4 = .ok (.aload_n 0, 1) := by decide +kernel
theorem dX4_init_5 : decode cX4_init 5 = .ok (.bipush 120, 2) := by decide +kernel
theorem dX4_init_7 : decode cX4_init 7 = .ok (.newarray .int, 2) := by decide +kernel
theorem dX4_init_9 : decode cX4_init 9 = .ok (.putfield 9, 3) := by decide +kernel
theorem dX4_init_12 : decode cX4_init 12 = .ok (.aload_n 0, 1) := by decide +kernel
theorem dX4_init_13 : decode cX4_init 13 = .ok (.bipush 120, 2) := by decide +kernel
theorem dX4_init_15 : decode cX4_init 15 = .ok (.newarray .int, 2) := by decide +kernel
theorem dX4_init_17 : decode cX4_init 17 = .ok (.putfield 15, 3) := by decide +kernel
theorem dX4_init_20 : decode cX4_init 20 = .ok (.aload_n 0, 1) := by decide +kernel
theorem dX4_init_21 : decode cX4_init 21 = .ok (.bipush 120, 2) := by decide +kernel
theorem dX4_init_23 : decode cX4_init 23 = .ok (.newarray .int, 2) := by decide +kernel
theorem dX4_init_25 : decode cX4_init 25 = .ok (.putfield 18, 3) := by decide +kernel
theorem dX4_init_28 : decode cX4_init 28 = .ok (.aload_n 0, 1) := by decide +kernel
theorem dX4_init_29 : decode cX4_init 29 = .ok (.bipush 120, 2) := by decide +kernel
theorem dX4_init_31 : decode cX4_init 31 = .ok (.newarray .boolean, 2) := by decide +kernel
theorem dX4_init_33 : decode cX4_init 33 = .ok (.putfield 21, 3) := by decide +kernel
theorem dX4_init_36 : decode cX4_init 36 = .ok (.aload_n 0, 1) := by decide +kernel
theorem dX4_init_37 : decode cX4_init 37 = .ok (.bipush 120, 2) := by decide +kernel
theorem dX4_init_39 : decode cX4_init 39 = .ok (.newarray .boolean, 2) := by decide +kernel
theorem dX4_init_41 : decode cX4_init 41 = .ok (.putfield 25, 3) := by decide +kernel
theorem dX4_init_44 : decode cX4_init 44 = .ok (.aload_n 0, 1) := by decide +kernel
theorem dX4_init_45 : decode cX4_init 45 = .ok (.bipush 120, 2) := by decide +kernel
theorem dX4_init_47 : decode cX4_init 47 = .ok (.newarray .boolean, 2) := by decide +kernel
theorem dX4_init_49 : decode cX4_init 49 = .ok (.putfield 28, 3) := by decide +kernel
theorem dX4_init_52 : decode cX4_init 52 = .ok (.return_, 1) := by decide +kernel
theorem dX4_copyFrom_0 : decode cX4_copyFrom 0 = .ok (.aload_n 1, 1) := by decide +kernel
theorem dX4_copyFrom_1 : decode cX4_copyFrom 1 = .ok (.getfield 9, 3) := by decide +kernel
theorem dX4_copyFrom_4 : decode cX4_copyFrom 4 = .ok (.aload_n 0, 1) := by decide +kernel
theorem dX4_copyFrom_5 : decode cX4_copyFrom 5 = .ok (.getfield 9, 3) := by decide +kernel
theorem dX4_copyFrom_8 : decode cX4_copyFrom 8 = .ok (.invokestatic 31, 3) := by decide +kernel
theorem dX4_copyFrom_11 : decode cX4_copyFrom 11 = .ok (.aload_n 1, 1) := by decide +kernel
theorem dX4_copyFrom_12 : decode cX4_copyFrom 12 = .ok (.getfield 15, 3) := by decide +kernel
theorem dX4_copyFrom_15 : decode cX4_copyFrom 15 = .ok (.aload_n 0, 1) := by decide +kernel
theorem dX4_copyFrom_16 : decode cX4_copyFrom 16 = .ok (.getfield 15, 3) := by decide +kernel
theorem dX4_copyFrom_19 : decode cX4_copyFrom 19 = .ok (.invokestatic 31, 3) := by decide +kernel
theorem dX4_copyFrom_22 : decode cX4_copyFrom 22 = .ok (.aload_n 1, 1) := by decide +kernel
theorem dX4_copyFrom_23 : decode cX4_copyFrom 23 = .ok (.getfield 18, 3) := by decide +kernel
theorem dX4_copyFrom_26 : decode cX4_copyFrom 26 = .ok (.aload_n 0, 1) := by decide +kernel
theorem dX4_copyFrom_27 : decode cX4_copyFrom 27 = .ok (.getfield 18, 3) := by decide +kernel
theorem dX4_copyFrom_30 : decode cX4_copyFrom 30 = .ok (.invokestatic 31, 3) := by decide +kernel
theorem dX4_copyFrom_33 : decode cX4_copyFrom 33 = .ok (.aload_n 1, 1) := by decide +kernel
theorem dX4_copyFrom_34 : decode cX4_copyFrom 34 = .ok (.getfield 21, 3) := by decide +kernel
theorem dX4_copyFrom_37 : decode cX4_copyFrom 37 = .ok (.aload_n 0, 1) := by decide +kernel
theorem dX4_copyFrom_38 : decode cX4_copyFrom 38 = .ok (.getfield 21, 3) := by decide +kernel
theorem dX4_copyFrom_41 : decode cX4_copyFrom 41 = .ok (.invokestatic 35, 3) := by decide +kernel
theorem dX4_copyFrom_44 : decode cX4_copyFrom 44 = .ok (.aload_n 1, 1) := by decide +kernel
theorem dX4_copyFrom_45 : decode cX4_copyFrom 45 = .ok (.getfield 25, 3) := by decide +kernel
theorem dX4_copyFrom_48 : decode cX4_copyFrom 48 = .ok (.aload_n 0, 1) := by decide +kernel
theorem dX4_copyFrom_49 : decode cX4_copyFrom 49 = .ok (.getfield 25, 3) := by decide +kernel
theorem dX4_copyFrom_52 : decode cX4_copyFrom 52 = .ok (.invokestatic 35, 3) := by decide +kernel
theorem dX4_copyFrom_55 : decode cX4_copyFrom 55 = .ok (.aload_n 1, 1) := by decide +kernel
theorem dX4_copyFrom_56 : decode cX4_copyFrom 56 = .ok (.getfield 28, 3) := by decide +kernel
theorem dX4_copyFrom_59 : decode cX4_copyFrom 59 = .ok (.aload_n 0, 1) := by decide +kernel
theorem dX4_copyFrom_60 : decode cX4_copyFrom 60 = .ok (.getfield 28, 3) := by decide +kernel
theorem dX4_copyFrom_63 : decode cX4_copyFrom 63 = .ok (.invokestatic 35, 3) := by decide +kernel
theorem dX4_copyFrom_66 : decode cX4_copyFrom 66 = .ok (.aload_n 0, 1) := by decide +kernel
theorem dX4_copyFrom_67 : decode cX4_copyFrom 67 = .ok (.aload_n 1, 1) := by decide +kernel
theorem dX4_copyFrom_68 : decode cX4_copyFrom 68 = .ok (.getfield 39, 3) := by decide +kernel
theorem dX4_copyFrom_71 : decode cX4_copyFrom 71 = .ok (.putfield 39, 3) := by decide +kernel
theorem dX4_copyFrom_74 : decode cX4_copyFrom 74 = .ok (.return_, 1) := by decide +kernel
theorem dX4_hasNumberLeft_0 : decode cX4_hasNumberLeft 0 = .ok (.aload_n 0, 1) := by decide +kernel
theorem dX4_hasNumberLeft_1 : decode cX4_hasNumberLeft 1 = .ok (.getfield 39, 3) := by decide +kernel
theorem dX4_hasNumberLeft_4 : decode cX4_hasNumberLeft 4 = .ok (.bipush 120, 2) := by decide +kernel
theorem dX4_hasNumberLeft_6 : decode cX4_hasNumberLeft 6 = .ok (.if_icmp .ge 7, 3) := by decide +kernel
theorem dX4_hasNumberLeft_9 : decode cX4_hasNumberLeft 9 = .ok (.iconst 1, 1) := by decide +kernel
theorem dX4_hasNumberLeft_10 : decode cX4_hasNumberLeft 10 = .ok (.goto 4, 3) := by decide +kernel
theorem dX4_hasNumberLeft_13 : decode cX4_hasNumberLeft 13 = .ok (.iconst 0, 1) := by decide +kernel
theorem dX4_hasNumberLeft_14 : decode cX4_hasNumberLeft 14 = .ok (.ireturn, 1) := by decide +kernel
theorem dX4_end_0 : decode cX4_end 0 = .ok (.aload_n 0, 1) := by decide +kernel
theorem dX4_end_1 : decode cX4_end 1 = .ok (.getfield 39, 3) := by decide +kernel
theorem dX4_end_4 : decode cX4_end 4 = .ok (.bipush 120, 2) := by decide +kernel
theorem dX4_end_6 : decode cX4_end 6 = .ok (.invokestatic 43, 3) := by decide +kernel
theorem dX4_end_9 : decode cX4_end 9 = .ok (.ireturn, 1) := by decide +kernel
theorem dX4_lay_0 : decode cX4_lay 0 = .ok (.aload_n 0, 1) := by decide +kernel
theorem dX4_lay_1 : decode cX4_lay 1 = .ok (.getfield 39, 3) := by decide +kernel
theorem dX4_lay_4 : decode cX4_lay 4 = .ok (.istore_n 3, 1) := by decide +kernel
theorem dX4_lay_5 : decode cX4_lay 5 = .ok (.aload_n 0, 1) := by decide +kernel
theorem dX4_lay_6 : decode cX4_lay 6 = .ok (.invokevirtual 49, 3) := by decide +kernel
theorem dX4_lay_9 : decode cX4_lay 9 = .ok (.ifCond .ne 6, 3) := by decide +kernel
theorem dX4_lay_12 : decode cX4_lay 12 = .ok (.bipush (-4), 2) := by decide +kernel
theorem dX4_lay_14 : decode cX4_lay 14 = .ok (.ireturn, 1) := by decide +kernel
theorem dX4_lay_15 : decode cX4_lay 15 = .ok (.aload_n 0, 1) := by decide +kernel
theorem dX4_lay_16 : decode cX4_lay 16 = .ok (.getfield 9, 3) := by decide +kernel
theorem dX4_lay_19 : decode cX4_lay 19 = .ok (.iload_n 3, 1) := by decide +kernel
theorem dX4_lay_20 : decode cX4_lay 20 = .ok (.iload_n 1, 1) := by decide +kernel
theorem dX4_lay_21 : decode cX4_lay 21 = .ok (.iastore, 1) := by decide +kernel
theorem dX4_lay_22 : decode cX4_lay 22 = .ok (.aload_n 0, 1) := by decide +kernel
theorem dX4_lay_23 : decode cX4_lay 23 = .ok (.getfield 15, 3) := by decide +kernel
theorem dX4_lay_26 : decode cX4_lay 26 = .ok (.iload_n 3, 1) := by decide +kernel
theorem dX4_lay_27 : decode cX4_lay 27 = .ok (.iload_n 2, 1) := by decide +kernel
theorem dX4_lay_28 : decode cX4_lay 28 = .ok (.iastore, 1) := by decide +kernel
theorem dX4_lay_29 : decode cX4_lay 29 = .ok (.aload_n 0, 1) := by decide +kernel
theorem dX4_lay_30 : decode cX4_lay 30 = .ok (.getfield 18, 3) := by decide +kernel
theorem dX4_lay_33 : decode cX4_lay 33 = .ok (.iload_n 3, 1) := by decide +kernel
theorem dX4_lay_34 : decode cX4_lay 34 = .ok (.bipush 50, 2) := by decide +kernel
theorem dX4_lay_36 : decode cX4_lay 36 = .ok (.iastore, 1) := by decide +kernel
theorem dX4_lay_37 : decode cX4_lay 37 = .ok (.aload_n 0, 1) := by decide +kernel
theorem dX4_lay_38 : decode cX4_lay 38 = .ok (.getfield 21, 3) := by decide +kernel
theorem dX4_lay_41 : decode cX4_lay 41 = .ok (.iload_n 3, 1) := by decide +kernel
theorem dX4_lay_42 : decode cX4_lay 42 = .ok (.iconst 0, 1) := by decide +kernel
theorem dX4_lay_43 : decode cX4_lay 43 = .ok (.bastore, 1) := by decide +kernel
theorem dX4_lay_44 : decode cX4_lay 44 = .ok (.aload_n 0, 1) := by decide +kernel
theorem dX4_lay_45 : decode cX4_lay 45 = .ok (.getfield 25, 3) := by decide +kernel
theorem dX4_lay_48 : decode cX4_lay 48 = .ok (.iload_n 3, 1) := by decide +kernel
theorem dX4_lay_49 : decode cX4_lay 49 = .ok (.iconst 0, 1) := by decide +kernel
theorem dX4_lay_50 : decode cX4_lay 50 = .ok (.bastore, 1) := by decide +kernel
theorem dX4_lay_51 : decode cX4_lay 51 = .ok (.aload_n 0, 1) := by decide +kernel
theorem dX4_lay_52 : decode cX4_lay 52 = .ok (.getfield 28, 3) := by decide +kernel
theorem dX4_lay_55 : decode cX4_lay 55 = .ok (.iload_n 3, 1) := by decide +kernel
theorem dX4_lay_56 : decode cX4_lay 56 = .ok (.iconst 1, 1) := by decide +kernel
theorem dX4_lay_57 : decode cX4_lay 57 = .ok (.bastore, 1) := by decide +kernel
theorem dX4_lay_58 : decode cX4_lay 58 = .ok (.aload_n 0, 1) := by decide +kernel
theorem dX4_lay_59 : decode cX4_lay 59 = .ok (.dup, 1) := by decide +kernel
theorem dX4_lay_60 : decode cX4_lay 60 = .ok (.getfield 39, 3) := by decide +kernel
theorem dX4_lay_63 : decode cX4_lay 63 = .ok (.iconst 1, 1) := by decide +kernel
theorem dX4_lay_64 : decode cX4_lay 64 = .ok (.iadd, 1) := by decide +kernel
theorem dX4_lay_65 : decode cX4_lay 65 = .ok (.putfield 39, 3) := by decide +kernel
theorem dX4_lay_68 : decode cX4_lay 68 = .ok (.iload_n 3, 1) := by decide +kernel
theorem dX4_lay_69 : decode cX4_lay 69 = .ok (.ireturn, 1) := by decide +kernel
theorem dX4_isLying_0 : decode cX4_isLying 0 = .ok (.iload_n 1, 1) := by decide +kernel
theorem dX4_isLying_1 : decode cX4_isLying 1 = .ok (.iconst 0, 1) := by decide +kernel
theorem dX4_isLying_2 : decode cX4_isLying 2 = .ok (.aload_n 0, 1) := by decide +kernel
theorem dX4_isLying_3 : decode cX4_isLying 3 = .ok (.invokevirtual 53, 3) := by decide +kernel
theorem dX4_isLying_6 : decode cX4_isLying 6 = .ok (.iconst 1, 1) := by decide +kernel
theorem dX4_isLying_7 : decode cX4_isLying 7 = .ok (.isub, 1) := by decide +kernel
theorem dX4_isLying_8 : decode cX4_isLying 8 = .ok (.invokestatic 57, 3) := by decide +kernel
theorem dX4_isLying_11 : decode cX4_isLying 11 = .ok (.ifCond .eq 16, 3) := by decide +kernel
theorem dX4_isLying_14 : decode cX4_isLying 14 = .ok (.aload_n 0, 1) := by decide +kernel
theorem dX4_isLying_15 : decode cX4_isLying 15 = .ok (.getfield 28, 3) := by decide +kernel
theorem dX4_isLying_18 : decode cX4_isLying 18 = .ok (.iload_n 1, 1) := by decide +kernel
theorem dX4_isLying_19 : decode cX4_isLying 19 = .ok (.baload, 1) := by decide +kernel
theorem dX4_isLying_20 : decode cX4_isLying 20 = .ok (.ifCond .eq 7, 3) := by decide +kernel
theorem dX4_isLying_23 : decode cX4_isLying 23 = .ok (.iconst 1, 1) := by decide +kernel
theorem dX4_isLying_24 : decode cX4_isLying 24 = .ok (.goto 4, 3) := by decide +kernel
theorem dX4_isLying_27 : decode cX4_isLying 27 = .ok (.iconst 0, 1) := by decide +kernel
theorem dX4_isLying_28 : decode cX4_isLying 28 = .ok (.ireturn, 1) := by decide +kernel
theorem dX4_isLyingOf_0 : decode cX4_isLyingOf 0 = .ok (.aload_n 0, 1) := by decide +kernel
theorem dX4_isLyingOf_1 : decode cX4_isLyingOf 1 = .ok (.iload_n 1, 1) := by decide +kernel
theorem dX4_isLyingOf_2 : decode cX4_isLyingOf 2 = .ok (.invokevirtual 61, 3) := by decide +kernel
theorem dX4_isLyingOf_5 : decode cX4_isLyingOf 5 = .ok (.ifCond .eq 17, 3) := by decide +kernel
theorem dX4_isLyingOf_8 : decode cX4_isLyingOf 8 = .ok (.aload_n 0, 1) := by decide +kernel
theorem dX4_isLyingOf_9 : decode cX4_isLyingOf 9 = .ok (.getfield 9, 3) := by decide +kernel
theorem dX4_isLyingOf_12 : decode cX4_isLyingOf 12 = .ok (.iload_n 1, 1) := by decide +kernel
theorem dX4_isLyingOf_13 : decode cX4_isLyingOf 13 = .ok (.iaload, 1) := by decide +kernel
theorem dX4_isLyingOf_14 : decode cX4_isLyingOf 14 = .ok (.iload_n 2, 1) := by decide +kernel
theorem dX4_isLyingOf_15 : decode cX4_isLyingOf 15 = .ok (.if_icmp .ne 7, 3) := by decide +kernel
theorem dX4_isLyingOf_18 : decode cX4_isLyingOf 18 = .ok (.iconst 1, 1) := by decide +kernel
theorem dX4_isLyingOf_19 : decode cX4_isLyingOf 19 = .ok (.goto 4, 3) := by decide +kernel
theorem dX4_isLyingOf_22 : decode cX4_isLyingOf 22 = .ok (.iconst 0, 1) := by decide +kernel
theorem dX4_isLyingOf_23 : decode cX4_isLyingOf 23 = .ok (.ireturn, 1) := by decide +kernel
theorem dX4_isStacked_0 : decode cX4_isStacked 0 = .ok (.aload_n 0, 1) := by decide +kernel
theorem dX4_isStacked_1 : decode cX4_isStacked 1 = .ok (.iload_n 1, 1) := by decide +kernel
theorem dX4_isStacked_2 : decode cX4_isStacked 2 = .ok (.invokevirtual 61, 3) := by decide +kernel
theorem dX4_isStacked_5 : decode cX4_isStacked 5 = .ok (.ifCond .eq 16, 3) := by decide +kernel
theorem dX4_isStacked_8 : decode cX4_isStacked 8 = .ok (.aload_n 0, 1) := by decide +kernel
theorem dX4_isStacked_9 : decode cX4_isStacked 9 = .ok (.getfield 25, 3) := by decide +kernel
theorem dX4_isStacked_12 : decode cX4_isStacked 12 = .ok (.iload_n 1, 1) := by decide +kernel
theorem dX4_isStacked_13 : decode cX4_isStacked 13 = .ok (.baload, 1) := by decide +kernel
theorem dX4_isStacked_14 : decode cX4_isStacked 14 = .ok (.ifCond .eq 7, 3) := by decide +kernel
theorem dX4_isStacked_17 : decode cX4_isStacked 17 = .ok (.iconst 1, 1) := by decide +kernel
theorem dX4_isStacked_18 : decode cX4_isStacked 18 = .ok (.goto 4, 3) := by decide +kernel
theorem dX4_isStacked_21 : decode cX4_isStacked 21 = .ok (.iconst 0, 1) := by decide +kernel
theorem dX4_isStacked_22 : decode cX4_isStacked 22 = .ok (.ireturn, 1) := by decide +kernel
theorem dX4_isDry_0 : decode cX4_isDry 0 = .ok (.aload_n 0, 1) := by decide +kernel
theorem dX4_isDry_1 : decode cX4_isDry 1 = .ok (.iload_n 1, 1) := by decide +kernel
theorem dX4_isDry_2 : decode cX4_isDry 2 = .ok (.invokevirtual 61, 3) := by decide +kernel
theorem dX4_isDry_5 : decode cX4_isDry 5 = .ok (.ifCond .eq 18, 3) := by decide +kernel
theorem dX4_isDry_8 : decode cX4_isDry 8 = .ok (.aload_n 0, 1) := by decide +kernel
theorem dX4_isDry_9 : decode cX4_isDry 9 = .ok (.getfield 18, 3) := by decide +kernel
theorem dX4_isDry_12 : decode cX4_isDry 12 = .ok (.iload_n 1, 1) := by decide +kernel
theorem dX4_isDry_13 : decode cX4_isDry 13 = .ok (.iaload, 1) := by decide +kernel
theorem dX4_isDry_14 : decode cX4_isDry 14 = .ok (.bipush 20, 2) := by decide +kernel
theorem dX4_isDry_16 : decode cX4_isDry 16 = .ok (.if_icmp .gt 7, 3) := by decide +kernel
theorem dX4_isDry_19 : decode cX4_isDry 19 = .ok (.iconst 1, 1) := by decide +kernel
theorem dX4_isDry_20 : decode cX4_isDry 20 = .ok (.goto 4, 3) := by decide +kernel
theorem dX4_isDry_23 : decode cX4_isDry 23 = .ok (.iconst 0, 1) := by decide +kernel
theorem dX4_isDry_24 : decode cX4_isDry 24 = .ok (.ireturn, 1) := by decide +kernel
theorem dX4_peatsAtHearth_0 : decode cX4_peatsAtHearth 0 = .ok (.aload_n 0, 1) := by decide +kernel
theorem dX4_peatsAtHearth_1 : decode cX4_peatsAtHearth 1 = .ok (.iload_n 1, 1) := by decide +kernel
theorem dX4_peatsAtHearth_2 : decode cX4_peatsAtHearth 2 = .ok (.invokevirtual 61, 3) := by decide +kernel
theorem dX4_peatsAtHearth_5 : decode cX4_peatsAtHearth 5 = .ok (.ifCond .eq 19, 3) := by decide +kernel
theorem dX4_peatsAtHearth_8 : decode cX4_peatsAtHearth 8 = .ok (.iconst 0, 1) := by decide +kernel
theorem dX4_peatsAtHearth_9 : decode cX4_peatsAtHearth 9 = .ok (.bipush 40, 2) := by decide +kernel
theorem dX4_peatsAtHearth_11 : decode cX4_peatsAtHearth 11 = .ok (.aload_n 0, 1) := by decide +kernel
theorem dX4_peatsAtHearth_12 : decode cX4_peatsAtHearth 12 = .ok (.getfield 18, 3) := by decide +kernel
theorem dX4_peatsAtHearth_15 : decode cX4_peatsAtHearth 15 = .ok (.iload_n 1, 1) := by decide +kernel
theorem dX4_peatsAtHearth_16 : decode cX4_peatsAtHearth 16 = .ok (.iaload, 1) := by decide +kernel
theorem dX4_peatsAtHearth_17 : decode cX4_peatsAtHearth 17 = .ok (.isub, 1) := by decide +kernel
theorem dX4_peatsAtHearth_18 : decode cX4_peatsAtHearth 18 = .ok (.invokestatic 65, 3) := by decide +kernel
theorem dX4_peatsAtHearth_21 : decode cX4_peatsAtHearth 21 = .ok (.goto 4, 3) := by decide +kernel
theorem dX4_peatsAtHearth_24 : decode cX4_peatsAtHearth 24 = .ok (.iconst 0, 1) := by decide +kernel
theorem dX4_peatsAtHearth_25 : decode cX4_peatsAtHearth 25 = .ok (.ireturn, 1) := by decide +kernel
theorem dX4_countLying_0 : decode cX4_countLying 0 = .ok (.iconst 0, 1) := by decide +kernel
theorem dX4_countLying_1 : decode cX4_countLying 1 = .ok (.istore_n 1, 1) := by decide +kernel
theorem dX4_countLying_2 : decode cX4_countLying 2 = .ok (.iconst 0, 1) := by decide +kernel
theorem dX4_countLying_3 : decode cX4_countLying 3 = .ok (.istore_n 2, 1) := by decide +kernel
theorem dX4_countLying_4 : decode cX4_countLying 4 = .ok (.aload_n 0, 1) := by decide +kernel
theorem dX4_countLying_5 : decode cX4_countLying 5 = .ok (.invokevirtual 53, 3) := by decide +kernel
theorem dX4_countLying_8 : decode cX4_countLying 8 = .ok (.istore_n 3, 1) := by decide +kernel
theorem dX4_countLying_9 : decode cX4_countLying 9 = .ok (.iload_n 2, 1) := by decide +kernel
theorem dX4_countLying_10 : decode cX4_countLying 10 = .ok (.iload_n 3, 1) := by decide +kernel
theorem dX4_countLying_11 : decode cX4_countLying 11 = .ok (.if_icmp .ge 21, 3) := by decide +kernel
theorem dX4_countLying_14 : decode cX4_countLying 14 = .ok (.iload_n 1, 1) := by decide +kernel
theorem dX4_countLying_15 : decode cX4_countLying 15 = .ok (.aload_n 0, 1) := by decide +kernel
theorem dX4_countLying_16 : decode cX4_countLying 16 = .ok (.getfield 28, 3) := by decide +kernel
theorem dX4_countLying_19 : decode cX4_countLying 19 = .ok (.iload_n 2, 1) := by decide +kernel
theorem dX4_countLying_20 : decode cX4_countLying 20 = .ok (.baload, 1) := by decide +kernel
theorem dX4_countLying_21 : decode cX4_countLying 21 = .ok (.invokestatic 68, 3) := by decide +kernel
theorem dX4_countLying_24 : decode cX4_countLying 24 = .ok (.iadd, 1) := by decide +kernel
theorem dX4_countLying_25 : decode cX4_countLying 25 = .ok (.istore_n 1, 1) := by decide +kernel
theorem dX4_countLying_26 : decode cX4_countLying 26 = .ok (.iinc 2 1, 3) := by decide +kernel
theorem dX4_countLying_29 : decode cX4_countLying 29 = .ok (.goto (-20), 3) := by decide +kernel
theorem dX4_countLying_32 : decode cX4_countLying 32 = .ok (.iload_n 1, 1) := by decide +kernel
theorem dX4_countLying_33 : decode cX4_countLying 33 = .ok (.ireturn, 1) := by decide +kernel
theorem dX4_countStacked_0 : decode cX4_countStacked 0 = .ok (.iconst 0, 1) := by decide +kernel
theorem dX4_countStacked_1 : decode cX4_countStacked 1 = .ok (.istore_n 1, 1) := by decide +kernel
theorem dX4_countStacked_2 : decode cX4_countStacked 2 = .ok (.iconst 0, 1) := by decide +kernel
theorem dX4_countStacked_3 : decode cX4_countStacked 3 = .ok (.istore_n 2, 1) := by decide +kernel
theorem dX4_countStacked_4 : decode cX4_countStacked 4 = .ok (.aload_n 0, 1) := by decide +kernel
theorem dX4_countStacked_5 : decode cX4_countStacked 5 = .ok (.invokevirtual 53, 3) := by decide +kernel
theorem dX4_countStacked_8 : decode cX4_countStacked 8 = .ok (.istore_n 3, 1) := by decide +kernel
theorem dX4_countStacked_9 : decode cX4_countStacked 9 = .ok (.iload_n 2, 1) := by decide +kernel
theorem dX4_countStacked_10 : decode cX4_countStacked 10 = .ok (.iload_n 3, 1) := by decide +kernel
theorem dX4_countStacked_11 : decode cX4_countStacked 11 = .ok (.if_icmp .ge 20, 3) := by decide +kernel
theorem dX4_countStacked_14 : decode cX4_countStacked 14 = .ok (.iload_n 1, 1) := by decide +kernel
theorem dX4_countStacked_15 : decode cX4_countStacked 15 = .ok (.aload_n 0, 1) := by decide +kernel
theorem dX4_countStacked_16 : decode cX4_countStacked 16 = .ok (.iload_n 2, 1) := by decide +kernel
theorem dX4_countStacked_17 : decode cX4_countStacked 17 = .ok (.invokevirtual 72, 3) := by decide +kernel
theorem dX4_countStacked_20 : decode cX4_countStacked 20 = .ok (.invokestatic 68, 3) := by decide +kernel
theorem dX4_countStacked_23 : decode cX4_countStacked 23 = .ok (.iadd, 1) := by decide +kernel
theorem dX4_countStacked_24 : decode cX4_countStacked 24 = .ok (.istore_n 1, 1) := by decide +kernel
theorem dX4_countStacked_25 : decode cX4_countStacked 25 = .ok (.iinc 2 1, 3) := by decide +kernel
theorem dX4_countStacked_28 : decode cX4_countStacked 28 = .ok (.goto (-19), 3) := by decide +kernel
theorem dX4_countStacked_31 : decode cX4_countStacked 31 = .ok (.iload_n 1, 1) := by decide +kernel
theorem dX4_countStacked_32 : decode cX4_countStacked 32 = .ok (.ireturn, 1) := by decide +kernel
theorem dX4_countDry_0 : decode cX4_countDry 0 = .ok (.iconst 0, 1) := by decide +kernel
theorem dX4_countDry_1 : decode cX4_countDry 1 = .ok (.istore_n 1, 1) := by decide +kernel
theorem dX4_countDry_2 : decode cX4_countDry 2 = .ok (.iconst 0, 1) := by decide +kernel
theorem dX4_countDry_3 : decode cX4_countDry 3 = .ok (.istore_n 2, 1) := by decide +kernel
theorem dX4_countDry_4 : decode cX4_countDry 4 = .ok (.aload_n 0, 1) := by decide +kernel
theorem dX4_countDry_5 : decode cX4_countDry 5 = .ok (.invokevirtual 53, 3) := by decide +kernel
theorem dX4_countDry_8 : decode cX4_countDry 8 = .ok (.istore_n 3, 1) := by decide +kernel
theorem dX4_countDry_9 : decode cX4_countDry 9 = .ok (.iload_n 2, 1) := by decide +kernel
theorem dX4_countDry_10 : decode cX4_countDry 10 = .ok (.iload_n 3, 1) := by decide +kernel
theorem dX4_countDry_11 : decode cX4_countDry 11 = .ok (.if_icmp .ge 20, 3) := by decide +kernel
theorem dX4_countDry_14 : decode cX4_countDry 14 = .ok (.iload_n 1, 1) := by decide +kernel
theorem dX4_countDry_15 : decode cX4_countDry 15 = .ok (.aload_n 0, 1) := by decide +kernel
theorem dX4_countDry_16 : decode cX4_countDry 16 = .ok (.iload_n 2, 1) := by decide +kernel
theorem dX4_countDry_17 : decode cX4_countDry 17 = .ok (.invokevirtual 75, 3) := by decide +kernel
theorem dX4_countDry_20 : decode cX4_countDry 20 = .ok (.invokestatic 68, 3) := by decide +kernel
theorem dX4_countDry_23 : decode cX4_countDry 23 = .ok (.iadd, 1) := by decide +kernel
theorem dX4_countDry_24 : decode cX4_countDry 24 = .ok (.istore_n 1, 1) := by decide +kernel
theorem dX4_countDry_25 : decode cX4_countDry 25 = .ok (.iinc 2 1, 3) := by decide +kernel
theorem dX4_countDry_28 : decode cX4_countDry 28 = .ok (.goto (-19), 3) := by decide +kernel
theorem dX4_countDry_31 : decode cX4_countDry 31 = .ok (.iload_n 1, 1) := by decide +kernel
theorem dX4_countDry_32 : decode cX4_countDry 32 = .ok (.ireturn, 1) := by decide +kernel
theorem dX4_countLyingOf_0 : decode cX4_countLyingOf 0 = .ok (.iconst 0, 1) := by decide +kernel
theorem dX4_countLyingOf_1 : decode cX4_countLyingOf 1 = .ok (.istore_n 2, 1) := by decide +kernel
theorem dX4_countLyingOf_2 : decode cX4_countLyingOf 2 = .ok (.iconst 0, 1) := by decide +kernel
theorem dX4_countLyingOf_3 : decode cX4_countLyingOf 3 = .ok (.istore_n 3, 1) := by decide +kernel
theorem dX4_countLyingOf_4 : decode cX4_countLyingOf 4 = .ok (.aload_n 0, 1) := by decide +kernel
theorem dX4_countLyingOf_5 : decode cX4_countLyingOf 5 = .ok (.invokevirtual 53, 3) := by decide +kernel
theorem dX4_countLyingOf_8 : decode cX4_countLyingOf 8 = .ok (.istore 4, 2) := by decide +kernel
theorem dX4_countLyingOf_10 : decode cX4_countLyingOf 10 = .ok (.iload_n 3, 1) := by decide +kernel
theorem dX4_countLyingOf_11 : decode cX4_countLyingOf 11 = .ok (.iload 4, 2) := by decide +kernel
theorem dX4_countLyingOf_13 : decode cX4_countLyingOf 13 = .ok (.if_icmp .ge 21, 3) := by decide +kernel
theorem dX4_countLyingOf_16 : decode cX4_countLyingOf 16 = .ok (.iload_n 2, 1) := by decide +kernel
theorem dX4_countLyingOf_17 : decode cX4_countLyingOf 17 = .ok (.aload_n 0, 1) := by decide +kernel
theorem dX4_countLyingOf_18 : decode cX4_countLyingOf 18 = .ok (.iload_n 3, 1) := by decide +kernel
theorem dX4_countLyingOf_19 : decode cX4_countLyingOf 19 = .ok (.iload_n 1, 1) := by decide +kernel
theorem dX4_countLyingOf_20 : decode cX4_countLyingOf 20 = .ok (.invokevirtual 78, 3) := by decide +kernel
theorem dX4_countLyingOf_23 : decode cX4_countLyingOf 23 = .ok (.invokestatic 68, 3) := by decide +kernel
theorem dX4_countLyingOf_26 : decode cX4_countLyingOf 26 = .ok (.iadd, 1) := by decide +kernel
theorem dX4_countLyingOf_27 : decode cX4_countLyingOf 27 = .ok (.istore_n 2, 1) := by decide +kernel
theorem dX4_countLyingOf_28 : decode cX4_countLyingOf 28 = .ok (.iinc 3 1, 3) := by decide +kernel
theorem dX4_countLyingOf_31 : decode cX4_countLyingOf 31 = .ok (.goto (-21), 3) := by decide +kernel
theorem dX4_countLyingOf_34 : decode cX4_countLyingOf 34 = .ok (.iload_n 2, 1) := by decide +kernel
theorem dX4_countLyingOf_35 : decode cX4_countLyingOf 35 = .ok (.ireturn, 1) := by decide +kernel
theorem dX4_countStackedOf_0 : decode cX4_countStackedOf 0 = .ok (.iconst 0, 1) := by decide +kernel
theorem dX4_countStackedOf_1 : decode cX4_countStackedOf 1 = .ok (.istore_n 2, 1) := by decide +kernel
theorem dX4_countStackedOf_2 : decode cX4_countStackedOf 2 = .ok (.iconst 0, 1) := by decide +kernel
theorem dX4_countStackedOf_3 : decode cX4_countStackedOf 3 = .ok (.istore_n 3, 1) := by decide +kernel
theorem dX4_countStackedOf_4 : decode cX4_countStackedOf 4 = .ok (.aload_n 0, 1) := by decide +kernel
theorem dX4_countStackedOf_5 : decode cX4_countStackedOf 5 = .ok (.invokevirtual 53, 3) := by decide +kernel
theorem dX4_countStackedOf_8 : decode cX4_countStackedOf 8 = .ok (.istore 4, 2) := by decide +kernel
theorem dX4_countStackedOf_10 : decode cX4_countStackedOf 10 = .ok (.iload_n 3, 1) := by decide +kernel
theorem dX4_countStackedOf_11 : decode cX4_countStackedOf 11 = .ok (.iload 4, 2) := by decide +kernel
theorem dX4_countStackedOf_13 : decode cX4_countStackedOf 13 = .ok (.if_icmp .ge 38, 3) := by decide +kernel
theorem dX4_countStackedOf_16 : decode cX4_countStackedOf 16 = .ok (.iload_n 2, 1) := by decide +kernel
theorem dX4_countStackedOf_17 : decode cX4_countStackedOf 17 = .ok (.aload_n 0, 1) := by decide +kernel
theorem dX4_countStackedOf_18 : decode cX4_countStackedOf 18 = .ok (.iload_n 3, 1) := by decide +kernel
theorem dX4_countStackedOf_19 : decode cX4_countStackedOf 19 = .ok (.invokevirtual 72, 3) := by decide +kernel
theorem dX4_countStackedOf_22 : decode cX4_countStackedOf 22 = .ok (.ifCond .eq 17, 3) := by decide +kernel
theorem dX4_countStackedOf_25 : decode cX4_countStackedOf 25 = .ok (.aload_n 0, 1) := by decide +kernel
theorem dX4_countStackedOf_26 : decode cX4_countStackedOf 26 = .ok (.getfield 9, 3) := by decide +kernel
theorem dX4_countStackedOf_29 : decode cX4_countStackedOf 29 = .ok (.iload_n 3, 1) := by decide +kernel
theorem dX4_countStackedOf_30 : decode cX4_countStackedOf 30 = .ok (.iaload, 1) := by decide +kernel
theorem dX4_countStackedOf_31 : decode cX4_countStackedOf 31 = .ok (.iload_n 1, 1) := by decide +kernel
theorem dX4_countStackedOf_32 : decode cX4_countStackedOf 32 = .ok (.if_icmp .ne 7, 3) := by decide +kernel
theorem dX4_countStackedOf_35 : decode cX4_countStackedOf 35 = .ok (.iconst 1, 1) := by decide +kernel
theorem dX4_countStackedOf_36 : decode cX4_countStackedOf 36 = .ok (.goto 4, 3) := by decide +kernel
theorem dX4_countStackedOf_39 : decode cX4_countStackedOf 39 = .ok (.iconst 0, 1) := by decide +kernel
theorem dX4_countStackedOf_40 : decode cX4_countStackedOf 40 = .ok (.invokestatic 68, 3) := by decide +kernel
theorem dX4_countStackedOf_43 : decode cX4_countStackedOf 43 = .ok (.iadd, 1) := by decide +kernel
theorem dX4_countStackedOf_44 : decode cX4_countStackedOf 44 = .ok (.istore_n 2, 1) := by decide +kernel
theorem dX4_countStackedOf_45 : decode cX4_countStackedOf 45 = .ok (.iinc 3 1, 3) := by decide +kernel
theorem dX4_countStackedOf_48 : decode cX4_countStackedOf 48 = .ok (.goto (-38), 3) := by decide +kernel
theorem dX4_countStackedOf_51 : decode cX4_countStackedOf 51 = .ok (.iload_n 2, 1) := by decide +kernel
theorem dX4_countStackedOf_52 : decode cX4_countStackedOf 52 = .ok (.ireturn, 1) := by decide +kernel
theorem dX4_driestOf_0 : decode cX4_driestOf 0 = .ok (.iconst 0, 1) := by decide +kernel
theorem dX4_driestOf_1 : decode cX4_driestOf 1 = .ok (.istore_n 3, 1) := by decide +kernel
theorem dX4_driestOf_2 : decode cX4_driestOf 2 = .ok (.aload_n 0, 1) := by decide +kernel
theorem dX4_driestOf_3 : decode cX4_driestOf 3 = .ok (.invokevirtual 53, 3) := by decide +kernel
theorem dX4_driestOf_6 : decode cX4_driestOf 6 = .ok (.istore 4, 2) := by decide +kernel
theorem dX4_driestOf_8 : decode cX4_driestOf 8 = .ok (.iload_n 3, 1) := by decide +kernel
theorem dX4_driestOf_9 : decode cX4_driestOf 9 = .ok (.iload 4, 2) := by decide +kernel
theorem dX4_driestOf_11 : decode cX4_driestOf 11 = .ok (.if_icmp .ge 30, 3) := by decide +kernel
theorem dX4_driestOf_14 : decode cX4_driestOf 14 = .ok (.aload_n 0, 1) := by decide +kernel
theorem dX4_driestOf_15 : decode cX4_driestOf 15 = .ok (.iload_n 3, 1) := by decide +kernel
theorem dX4_driestOf_16 : decode cX4_driestOf 16 = .ok (.iload_n 1, 1) := by decide +kernel
theorem dX4_driestOf_17 : decode cX4_driestOf 17 = .ok (.invokevirtual 78, 3) := by decide +kernel
theorem dX4_driestOf_20 : decode cX4_driestOf 20 = .ok (.ifCond .eq 15, 3) := by decide +kernel
theorem dX4_driestOf_23 : decode cX4_driestOf 23 = .ok (.aload_n 0, 1) := by decide +kernel
theorem dX4_driestOf_24 : decode cX4_driestOf 24 = .ok (.iload_n 3, 1) := by decide +kernel
theorem dX4_driestOf_25 : decode cX4_driestOf 25 = .ok (.iload_n 1, 1) := by decide +kernel
theorem dX4_driestOf_26 : decode cX4_driestOf 26 = .ok (.invokevirtual 82, 3) := by decide +kernel
theorem dX4_driestOf_29 : decode cX4_driestOf 29 = .ok (.iload_n 2, 1) := by decide +kernel
theorem dX4_driestOf_30 : decode cX4_driestOf 30 = .ok (.if_icmp .ne 5, 3) := by decide +kernel
theorem dX4_driestOf_33 : decode cX4_driestOf 33 = .ok (.iload_n 3, 1) := by decide +kernel
theorem dX4_driestOf_34 : decode cX4_driestOf 34 = .ok (.ireturn, 1) := by decide +kernel
theorem dX4_driestOf_35 : decode cX4_driestOf 35 = .ok (.iinc 3 1, 3) := by decide +kernel
theorem dX4_driestOf_38 : decode cX4_driestOf 38 = .ok (.goto (-30), 3) := by decide +kernel
theorem dX4_driestOf_41 : decode cX4_driestOf 41 = .ok (.bipush (-5), 2) := by decide +kernel
theorem dX4_driestOf_43 : decode cX4_driestOf 43 = .ok (.ireturn, 1) := by decide +kernel
theorem dX4_countDrierThan_0 : decode cX4_countDrierThan 0 = .ok (.iconst 0, 1) := by decide +kernel
theorem dX4_countDrierThan_1 : decode cX4_countDrierThan 1 = .ok (.istore_n 3, 1) := by decide +kernel
theorem dX4_countDrierThan_2 : decode cX4_countDrierThan 2 = .ok (.iconst 0, 1) := by decide +kernel
theorem dX4_countDrierThan_3 : decode cX4_countDrierThan 3 = .ok (.istore 4, 2) := by decide +kernel
theorem dX4_countDrierThan_5 : decode cX4_countDrierThan 5 = .ok (.aload_n 0, 1) := by decide +kernel
theorem dX4_countDrierThan_6 : decode cX4_countDrierThan 6 = .ok (.invokevirtual 53, 3) := by decide +kernel
theorem dX4_countDrierThan_9 : decode cX4_countDrierThan 9 = .ok (.istore 5, 2) := by decide +kernel
theorem dX4_countDrierThan_11 : decode cX4_countDrierThan 11 = .ok (.iload 4, 2) := by decide +kernel
theorem dX4_countDrierThan_13 : decode cX4_countDrierThan 13 = .ok (.iload 5, 2) := by decide +kernel
theorem dX4_countDrierThan_15 : decode cX4_countDrierThan 15 = .ok (.if_icmp .ge 40, 3) := by decide +kernel
theorem dX4_countDrierThan_18 : decode cX4_countDrierThan 18 = .ok (.iload_n 3, 1) := by decide +kernel
theorem dX4_countDrierThan_19 : decode cX4_countDrierThan 19 = .ok (.aload_n 0, 1) := by decide +kernel
theorem dX4_countDrierThan_20 : decode cX4_countDrierThan 20 = .ok (.iload 4, 2) := by decide +kernel
theorem dX4_countDrierThan_22 : decode cX4_countDrierThan 22 = .ok (.iload_n 2, 1) := by decide +kernel
theorem dX4_countDrierThan_23 : decode cX4_countDrierThan 23 = .ok (.invokevirtual 78, 3) := by decide +kernel
theorem dX4_countDrierThan_26 : decode cX4_countDrierThan 26 = .ok (.ifCond .eq 17, 3) := by decide +kernel
theorem dX4_countDrierThan_29 : decode cX4_countDrierThan 29 = .ok (.aload_n 0, 1) := by decide +kernel
theorem dX4_countDrierThan_30 : decode cX4_countDrierThan 30 = .ok (.iload 4, 2) := by decide +kernel
theorem dX4_countDrierThan_32 : decode cX4_countDrierThan 32 = .ok (.iload_n 1, 1) := by decide +kernel
theorem dX4_countDrierThan_33 : decode cX4_countDrierThan 33 = .ok (.invokevirtual 85, 3) := by decide +kernel
theorem dX4_countDrierThan_36 : decode cX4_countDrierThan 36 = .ok (.ifCond .eq 7, 3) := by decide +kernel
theorem dX4_countDrierThan_39 : decode cX4_countDrierThan 39 = .ok (.iconst 1, 1) := by decide +kernel
theorem dX4_countDrierThan_40 : decode cX4_countDrierThan 40 = .ok (.goto 4, 3) := by decide +kernel
theorem dX4_countDrierThan_43 : decode cX4_countDrierThan 43 = .ok (.iconst 0, 1) := by decide +kernel
theorem dX4_countDrierThan_44 : decode cX4_countDrierThan 44 = .ok (.invokestatic 68, 3) := by decide +kernel
theorem dX4_countDrierThan_47 : decode cX4_countDrierThan 47 = .ok (.iadd, 1) := by decide +kernel
theorem dX4_countDrierThan_48 : decode cX4_countDrierThan 48 = .ok (.istore_n 3, 1) := by decide +kernel
theorem dX4_countDrierThan_49 : decode cX4_countDrierThan 49 = .ok (.iinc 4 1, 3) := by decide +kernel
theorem dX4_countDrierThan_52 : decode cX4_countDrierThan 52 = .ok (.goto (-41), 3) := by decide +kernel
theorem dX4_countDrierThan_55 : decode cX4_countDrierThan 55 = .ok (.iload_n 3, 1) := by decide +kernel
theorem dX4_countDrierThan_56 : decode cX4_countDrierThan 56 = .ok (.ireturn, 1) := by decide +kernel
theorem dX4_comesBefore_0 : decode cX4_comesBefore 0 = .ok (.aload_n 0, 1) := by decide +kernel
theorem dX4_comesBefore_1 : decode cX4_comesBefore 1 = .ok (.getfield 18, 3) := by decide +kernel
theorem dX4_comesBefore_4 : decode cX4_comesBefore 4 = .ok (.iload_n 1, 1) := by decide +kernel
theorem dX4_comesBefore_5 : decode cX4_comesBefore 5 = .ok (.iaload, 1) := by decide +kernel
theorem dX4_comesBefore_6 : decode cX4_comesBefore 6 = .ok (.aload_n 0, 1) := by decide +kernel
theorem dX4_comesBefore_7 : decode cX4_comesBefore 7 = .ok (.getfield 18, 3) := by decide +kernel
theorem dX4_comesBefore_10 : decode cX4_comesBefore 10 = .ok (.iload_n 2, 1) := by decide +kernel
theorem dX4_comesBefore_11 : decode cX4_comesBefore 11 = .ok (.iaload, 1) := by decide +kernel
theorem dX4_comesBefore_12 : decode cX4_comesBefore 12 = .ok (.if_icmp .lt 23, 3) := by decide +kernel
theorem dX4_comesBefore_15 : decode cX4_comesBefore 15 = .ok (.aload_n 0, 1) := by decide +kernel
theorem dX4_comesBefore_16 : decode cX4_comesBefore 16 = .ok (.getfield 18, 3) := by decide +kernel
theorem dX4_comesBefore_19 : decode cX4_comesBefore 19 = .ok (.iload_n 1, 1) := by decide +kernel
theorem dX4_comesBefore_20 : decode cX4_comesBefore 20 = .ok (.iaload, 1) := by decide +kernel
theorem dX4_comesBefore_21 : decode cX4_comesBefore 21 = .ok (.aload_n 0, 1) := by decide +kernel
theorem dX4_comesBefore_22 : decode cX4_comesBefore 22 = .ok (.getfield 18, 3) := by decide +kernel
theorem dX4_comesBefore_25 : decode cX4_comesBefore 25 = .ok (.iload_n 2, 1) := by decide +kernel
theorem dX4_comesBefore_26 : decode cX4_comesBefore 26 = .ok (.iaload, 1) := by decide +kernel
theorem dX4_comesBefore_27 : decode cX4_comesBefore 27 = .ok (.if_icmp .ne 12, 3) := by decide +kernel
theorem dX4_comesBefore_30 : decode cX4_comesBefore 30 = .ok (.iload_n 1, 1) := by decide +kernel
theorem dX4_comesBefore_31 : decode cX4_comesBefore 31 = .ok (.iload_n 2, 1) := by decide +kernel
theorem dX4_comesBefore_32 : decode cX4_comesBefore 32 = .ok (.if_icmp .ge 7, 3) := by decide +kernel
theorem dX4_comesBefore_35 : decode cX4_comesBefore 35 = .ok (.iconst 1, 1) := by decide +kernel
theorem dX4_comesBefore_36 : decode cX4_comesBefore 36 = .ok (.goto 4, 3) := by decide +kernel
theorem dX4_comesBefore_39 : decode cX4_comesBefore 39 = .ok (.iconst 0, 1) := by decide +kernel
theorem dX4_comesBefore_40 : decode cX4_comesBefore 40 = .ok (.ireturn, 1) := by decide +kernel
theorem dX4_driestStackedOf_0 : decode cX4_driestStackedOf 0 = .ok (.bipush (-5), 2) := by decide +kernel
theorem dX4_driestStackedOf_2 : decode cX4_driestStackedOf 2 = .ok (.istore_n 2, 1) := by decide +kernel
theorem dX4_driestStackedOf_3 : decode cX4_driestStackedOf 3 = .ok (.iconst 0, 1) := by decide +kernel
theorem dX4_driestStackedOf_4 : decode cX4_driestStackedOf 4 = .ok (.istore_n 3, 1) := by decide +kernel
theorem dX4_driestStackedOf_5 : decode cX4_driestStackedOf 5 = .ok (.aload_n 0, 1) := by decide +kernel
theorem dX4_driestStackedOf_6 : decode cX4_driestStackedOf 6 = .ok (.invokevirtual 53, 3) := by decide +kernel
theorem dX4_driestStackedOf_9 : decode cX4_driestStackedOf 9 = .ok (.istore 4, 2) := by decide +kernel
theorem dX4_driestStackedOf_11 : decode cX4_driestStackedOf 11 = .ok (.iload_n 3, 1) := by decide +kernel
theorem dX4_driestStackedOf_12 : decode cX4_driestStackedOf 12 = .ok (.iload 4, 2) := by decide +kernel
theorem dX4_driestStackedOf_14 : decode cX4_driestStackedOf 14 = .ok (.if_icmp .ge 60, 3) := by decide +kernel
theorem dX4_driestStackedOf_17 : decode cX4_driestStackedOf 17 = .ok (.aload_n 0, 1) := by decide +kernel
theorem dX4_driestStackedOf_18 : decode cX4_driestStackedOf 18 = .ok (.getfield 28, 3) := by decide +kernel
theorem dX4_driestStackedOf_21 : decode cX4_driestStackedOf 21 = .ok (.iload_n 3, 1) := by decide +kernel
theorem dX4_driestStackedOf_22 : decode cX4_driestStackedOf 22 = .ok (.baload, 1) := by decide +kernel
theorem dX4_driestStackedOf_23 : decode cX4_driestStackedOf 23 = .ok (.ifCond .eq 45, 3) := by decide +kernel
theorem dX4_driestStackedOf_26 : decode cX4_driestStackedOf 26 = .ok (.aload_n 0, 1) := by decide +kernel
theorem dX4_driestStackedOf_27 : decode cX4_driestStackedOf 27 = .ok (.getfield 25, 3) := by decide +kernel
theorem dX4_driestStackedOf_30 : decode cX4_driestStackedOf 30 = .ok (.iload_n 3, 1) := by decide +kernel
theorem dX4_driestStackedOf_31 : decode cX4_driestStackedOf 31 = .ok (.baload, 1) := by decide +kernel
theorem dX4_driestStackedOf_32 : decode cX4_driestStackedOf 32 = .ok (.ifCond .eq 36, 3) := by decide +kernel
theorem dX4_driestStackedOf_35 : decode cX4_driestStackedOf 35 = .ok (.aload_n 0, 1) := by decide +kernel
theorem dX4_driestStackedOf_36 : decode cX4_driestStackedOf 36 = .ok (.getfield 9, 3) := by decide +kernel
theorem dX4_driestStackedOf_39 : decode cX4_driestStackedOf 39 = .ok (.iload_n 3, 1) := by decide +kernel
theorem dX4_driestStackedOf_40 : decode cX4_driestStackedOf 40 = .ok (.iaload, 1) := by decide +kernel
theorem dX4_driestStackedOf_41 : decode cX4_driestStackedOf 41 = .ok (.iload_n 1, 1) := by decide +kernel
theorem dX4_driestStackedOf_42 : decode cX4_driestStackedOf 42 = .ok (.if_icmp .ne 26, 3) := by decide +kernel
theorem dX4_driestStackedOf_45 : decode cX4_driestStackedOf 45 = .ok (.iload_n 2, 1) := by decide +kernel
theorem dX4_driestStackedOf_46 : decode cX4_driestStackedOf 46 = .ok (.bipush (-5), 2) := by decide +kernel
theorem dX4_driestStackedOf_48 : decode cX4_driestStackedOf 48 = .ok (.if_icmp .eq 18, 3) := by decide +kernel
theorem dX4_driestStackedOf_51 : decode cX4_driestStackedOf 51 = .ok (.aload_n 0, 1) := by decide +kernel
theorem dX4_driestStackedOf_52 : decode cX4_driestStackedOf 52 = .ok (.getfield 18, 3) := by decide +kernel
theorem dX4_driestStackedOf_55 : decode cX4_driestStackedOf 55 = .ok (.iload_n 3, 1) := by decide +kernel
theorem dX4_driestStackedOf_56 : decode cX4_driestStackedOf 56 = .ok (.iaload, 1) := by decide +kernel
theorem dX4_driestStackedOf_57 : decode cX4_driestStackedOf 57 = .ok (.aload_n 0, 1) := by decide +kernel
theorem dX4_driestStackedOf_58 : decode cX4_driestStackedOf 58 = .ok (.getfield 18, 3) := by decide +kernel
theorem dX4_driestStackedOf_61 : decode cX4_driestStackedOf 61 = .ok (.iload_n 2, 1) := by decide +kernel
theorem dX4_driestStackedOf_62 : decode cX4_driestStackedOf 62 = .ok (.iaload, 1) := by decide +kernel
theorem dX4_driestStackedOf_63 : decode cX4_driestStackedOf 63 = .ok (.if_icmp .ge 5, 3) := by decide +kernel
theorem dX4_driestStackedOf_66 : decode cX4_driestStackedOf 66 = .ok (.iload_n 3, 1) := by decide +kernel
theorem dX4_driestStackedOf_67 : decode cX4_driestStackedOf 67 = .ok (.istore_n 2, 1) := by decide +kernel
theorem dX4_driestStackedOf_68 : decode cX4_driestStackedOf 68 = .ok (.iinc 3 1, 3) := by decide +kernel
theorem dX4_driestStackedOf_71 : decode cX4_driestStackedOf 71 = .ok (.goto (-60), 3) := by decide +kernel
theorem dX4_driestStackedOf_74 : decode cX4_driestStackedOf 74 = .ok (.iload_n 2, 1) := by decide +kernel
theorem dX4_driestStackedOf_75 : decode cX4_driestStackedOf 75 = .ok (.ireturn, 1) := by decide +kernel
theorem dX4_dryOrWet_0 : decode cX4_dryOrWet 0 = .ok (.iconst 0, 1) := by decide +kernel
theorem dX4_dryOrWet_1 : decode cX4_dryOrWet 1 = .ok (.istore_n 2, 1) := by decide +kernel
theorem dX4_dryOrWet_2 : decode cX4_dryOrWet 2 = .ok (.aload_n 0, 1) := by decide +kernel
theorem dX4_dryOrWet_3 : decode cX4_dryOrWet 3 = .ok (.invokevirtual 53, 3) := by decide +kernel
theorem dX4_dryOrWet_6 : decode cX4_dryOrWet 6 = .ok (.istore_n 3, 1) := by decide +kernel
theorem dX4_dryOrWet_7 : decode cX4_dryOrWet 7 = .ok (.iload_n 2, 1) := by decide +kernel
theorem dX4_dryOrWet_8 : decode cX4_dryOrWet 8 = .ok (.iload_n 3, 1) := by decide +kernel
theorem dX4_dryOrWet_9 : decode cX4_dryOrWet 9 = .ok (.if_icmp .ge 63, 3) := by decide +kernel
theorem dX4_dryOrWet_12 : decode cX4_dryOrWet 12 = .ok (.aload_n 0, 1) := by decide +kernel
theorem dX4_dryOrWet_13 : decode cX4_dryOrWet 13 = .ok (.getfield 28, 3) := by decide +kernel
theorem dX4_dryOrWet_16 : decode cX4_dryOrWet 16 = .ok (.iload_n 2, 1) := by decide +kernel
theorem dX4_dryOrWet_17 : decode cX4_dryOrWet 17 = .ok (.baload, 1) := by decide +kernel
theorem dX4_dryOrWet_18 : decode cX4_dryOrWet 18 = .ok (.ifCond .eq 48, 3) := by decide +kernel
theorem dX4_dryOrWet_21 : decode cX4_dryOrWet 21 = .ok (.aload_n 0, 1) := by decide +kernel
theorem dX4_dryOrWet_22 : decode cX4_dryOrWet 22 = .ok (.getfield 25, 3) := by decide +kernel
theorem dX4_dryOrWet_25 : decode cX4_dryOrWet 25 = .ok (.iload_n 2, 1) := by decide +kernel
theorem dX4_dryOrWet_26 : decode cX4_dryOrWet 26 = .ok (.baload, 1) := by decide +kernel
theorem dX4_dryOrWet_27 : decode cX4_dryOrWet 27 = .ok (.ifCond .ne 39, 3) := by decide +kernel
theorem dX4_dryOrWet_30 : decode cX4_dryOrWet 30 = .ok (.aload_n 0, 1) := by decide +kernel
theorem dX4_dryOrWet_31 : decode cX4_dryOrWet 31 = .ok (.getfield 18, 3) := by decide +kernel
theorem dX4_dryOrWet_34 : decode cX4_dryOrWet 34 = .ok (.iload_n 2, 1) := by decide +kernel
theorem dX4_dryOrWet_35 : decode cX4_dryOrWet 35 = .ok (.iaload, 1) := by decide +kernel
theorem dX4_dryOrWet_36 : decode cX4_dryOrWet 36 = .ok (.iload_n 1, 1) := by decide +kernel
theorem dX4_dryOrWet_37 : decode cX4_dryOrWet 37 = .ok (.aload_n 0, 1) := by decide +kernel
theorem dX4_dryOrWet_38 : decode cX4_dryOrWet 38 = .ok (.getfield 21, 3) := by decide +kernel
theorem dX4_dryOrWet_41 : decode cX4_dryOrWet 41 = .ok (.iload_n 2, 1) := by decide +kernel
theorem dX4_dryOrWet_42 : decode cX4_dryOrWet 42 = .ok (.baload, 1) := by decide +kernel
theorem dX4_dryOrWet_43 : decode cX4_dryOrWet 43 = .ok (.invokestatic 88, 3) := by decide +kernel
theorem dX4_dryOrWet_46 : decode cX4_dryOrWet 46 = .ok (.iadd, 1) := by decide +kernel
theorem dX4_dryOrWet_47 : decode cX4_dryOrWet 47 = .ok (.istore 4, 2) := by decide +kernel
theorem dX4_dryOrWet_49 : decode cX4_dryOrWet 49 = .ok (.aload_n 0, 1) := by decide +kernel
theorem dX4_dryOrWet_50 : decode cX4_dryOrWet 50 = .ok (.getfield 18, 3) := by decide +kernel
theorem dX4_dryOrWet_53 : decode cX4_dryOrWet 53 = .ok (.iload_n 2, 1) := by decide +kernel
theorem dX4_dryOrWet_54 : decode cX4_dryOrWet 54 = .ok (.iconst 0, 1) := by decide +kernel
theorem dX4_dryOrWet_55 : decode cX4_dryOrWet 55 = .ok (.bipush 60, 2) := by decide +kernel
theorem dX4_dryOrWet_57 : decode cX4_dryOrWet 57 = .ok (.iload 4, 2) := by decide +kernel
theorem dX4_dryOrWet_59 : decode cX4_dryOrWet 59 = .ok (.invokestatic 43, 3) := by decide +kernel
theorem dX4_dryOrWet_62 : decode cX4_dryOrWet 62 = .ok (.invokestatic 65, 3) := by decide +kernel
theorem dX4_dryOrWet_65 : decode cX4_dryOrWet 65 = .ok (.iastore, 1) := by decide +kernel
theorem dX4_dryOrWet_66 : decode cX4_dryOrWet 66 = .ok (.iinc 2 1, 3) := by decide +kernel
theorem dX4_dryOrWet_69 : decode cX4_dryOrWet 69 = .ok (.goto (-62), 3) := by decide +kernel
theorem dX4_dryOrWet_72 : decode cX4_dryOrWet 72 = .ok (.return_, 1) := by decide +kernel
theorem dX4_changeBy_0 : decode cX4_changeBy 0 = .ok (.iload_n 0, 1) := by decide +kernel
theorem dX4_changeBy_1 : decode cX4_changeBy 1 = .ok (.lookupswitch 51 #[(0, 27), (1, 39)], 27) := by decide +kernel
theorem dX4_changeBy_28 : decode cX4_changeBy 28 = .ok (.iload_n 1, 1) := by decide +kernel
theorem dX4_changeBy_29 : decode cX4_changeBy 29 = .ok (.ifCond .eq 8, 3) := by decide +kernel
theorem dX4_changeBy_32 : decode cX4_changeBy 32 = .ok (.bipush (-8), 2) := by decide +kernel
theorem dX4_changeBy_34 : decode cX4_changeBy 34 = .ok (.goto 5, 3) := by decide +kernel
theorem dX4_changeBy_37 : decode cX4_changeBy 37 = .ok (.bipush (-6), 2) := by decide +kernel
theorem dX4_changeBy_39 : decode cX4_changeBy 39 = .ok (.ireturn, 1) := by decide +kernel
theorem dX4_changeBy_40 : decode cX4_changeBy 40 = .ok (.iload_n 1, 1) := by decide +kernel
theorem dX4_changeBy_41 : decode cX4_changeBy 41 = .ok (.ifCond .eq 8, 3) := by decide +kernel
theorem dX4_changeBy_44 : decode cX4_changeBy 44 = .ok (.bipush (-5), 2) := by decide +kernel
theorem dX4_changeBy_46 : decode cX4_changeBy 46 = .ok (.goto 5, 3) := by decide +kernel
theorem dX4_changeBy_49 : decode cX4_changeBy 49 = .ok (.bipush (-3), 2) := by decide +kernel
theorem dX4_changeBy_51 : decode cX4_changeBy 51 = .ok (.ireturn, 1) := by decide +kernel
theorem dX4_changeBy_52 : decode cX4_changeBy 52 = .ok (.iconst 4, 1) := by decide +kernel
theorem dX4_changeBy_53 : decode cX4_changeBy 53 = .ok (.ireturn, 1) := by decide +kernel
theorem dX4_loseAll_0 : decode cX4_loseAll 0 = .ok (.aload_n 0, 1) := by decide +kernel
theorem dX4_loseAll_1 : decode cX4_loseAll 1 = .ok (.invokevirtual 92, 3) := by decide +kernel
theorem dX4_loseAll_4 : decode cX4_loseAll 4 = .ok (.istore_n 1, 1) := by decide +kernel
theorem dX4_loseAll_5 : decode cX4_loseAll 5 = .ok (.iconst 0, 1) := by decide +kernel
theorem dX4_loseAll_6 : decode cX4_loseAll 6 = .ok (.istore_n 2, 1) := by decide +kernel
theorem dX4_loseAll_7 : decode cX4_loseAll 7 = .ok (.aload_n 0, 1) := by decide +kernel
theorem dX4_loseAll_8 : decode cX4_loseAll 8 = .ok (.invokevirtual 53, 3) := by decide +kernel
theorem dX4_loseAll_11 : decode cX4_loseAll 11 = .ok (.istore_n 3, 1) := by decide +kernel
theorem dX4_loseAll_12 : decode cX4_loseAll 12 = .ok (.iload_n 2, 1) := by decide +kernel
theorem dX4_loseAll_13 : decode cX4_loseAll 13 = .ok (.iload_n 3, 1) := by decide +kernel
theorem dX4_loseAll_14 : decode cX4_loseAll 14 = .ok (.if_icmp .ge 16, 3) := by decide +kernel
theorem dX4_loseAll_17 : decode cX4_loseAll 17 = .ok (.aload_n 0, 1) := by decide +kernel
theorem dX4_loseAll_18 : decode cX4_loseAll 18 = .ok (.getfield 28, 3) := by decide +kernel
theorem dX4_loseAll_21 : decode cX4_loseAll 21 = .ok (.iload_n 2, 1) := by decide +kernel
theorem dX4_loseAll_22 : decode cX4_loseAll 22 = .ok (.iconst 0, 1) := by decide +kernel
theorem dX4_loseAll_23 : decode cX4_loseAll 23 = .ok (.bastore, 1) := by decide +kernel
theorem dX4_loseAll_24 : decode cX4_loseAll 24 = .ok (.iinc 2 1, 3) := by decide +kernel
theorem dX4_loseAll_27 : decode cX4_loseAll 27 = .ok (.goto (-15), 3) := by decide +kernel
theorem dX4_loseAll_30 : decode cX4_loseAll 30 = .ok (.iload_n 1, 1) := by decide +kernel
theorem dX4_loseAll_31 : decode cX4_loseAll 31 = .ok (.ireturn, 1) := by decide +kernel
