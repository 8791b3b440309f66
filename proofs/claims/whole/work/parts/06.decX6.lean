theorem dX6_init_0 : decode cX6_init 0 = .ok (.aload_n 0, 1) := by decide +kernel
theorem dX6_init_1 : decode cX6_init 1 = .ok (.invokespecial 1, 3) := by decide +kernel
theorem dX6_init_4 : decode cX6_init 4 = .ok (.aload_n 0, 1) := by decide +kernel
theorem dX6_init_5 : decode cX6_init 5 = .ok (.sipush 941, 3) := by decide +kernel
theorem dX6_init_8 : decode cX6_init 8 = .ok (.newarray .int, 2) := by decide +kernel
theorem dX6_init_10 : decode cX6_init 10 = .ok (.putfield 7, 3) := by decide +kernel
theorem dX6_init_13 : decode cX6_init 13 = .ok (.aload_n 0, 1) := by decide +kernel
theorem dX6_init_14 : decode cX6_init 14 = .ok (.sipush 941, 3) := by decide +kernel
theorem dX6_init_17 : decode cX6_init 17 = .ok (.newarray .int, 2) := by decide +kernel
theorem dX6_init_19 : decode cX6_init 19 = .ok (.putfield 13, 3) := by decide +kernel
theorem dX6_init_22 : decode cX6_init 22 = .ok (.aload_n 0, 1) := by decide +kernel
theorem dX6_init_23 : decode cX6_init 23 = .ok (.sipush 3764, 3) := by decide +kernel
theorem dX6_init_26 : decode cX6_init 26 = .ok (.newarray .int, 2) := by decide +kernel
theorem dX6_init_28 : decode cX6_init 28 = .ok (.putfield 16, 3) := by decide +kernel
theorem dX6_init_31 : decode cX6_init 31 = .ok (.aload_n 0, 1) := by decide +kernel
theorem dX6_init_32 : decode cX6_init 32 = .ok (.sipush 941, 3) := by decide +kernel
theorem dX6_init_35 : decode cX6_init 35 = .ok (.newarray .int, 2) := by decide +kernel
theorem dX6_init_37 : decode cX6_init 37 = .ok (.putfield 19, 3) := by decide +kernel
theorem dX6_init_40 : decode cX6_init 40 = .ok (.aload_n 0, 1) := by decide +kernel
theorem dX6_init_41 : decode cX6_init 41 = .ok (.bipush 60, 2) := by decide +kernel
theorem dX6_init_43 : decode cX6_init 43 = .ok (.newarray .int, 2) := by decide +kernel
theorem dX6_init_45 : decode cX6_init 45 = .ok (.putfield 22, 3) := by decide +kernel
theorem dX6_init_48 : decode cX6_init 48 = .ok (.aload_n 0, 1) := by decide +kernel
theorem dX6_init_49 : decode cX6_init 49 = .ok (.bipush 120, 2) := by decide +kernel
theorem dX6_init_51 : decode cX6_init 51 = .ok (.newarray .int, 2) := by decide +kernel
theorem dX6_init_53 : decode cX6_init 53 = .ok (.putfield 25, 3) := by decide +kernel
theorem dX6_init_56 : decode cX6_init 56 = .ok (.aload_n 0, 1) := by decide +kernel
theorem dX6_init_57 : decode cX6_init 57 = .ok (.iconst 0, 1) := by decide +kernel
theorem dX6_init_58 : decode cX6_init 58 = .ok (.putfield 28, 3) := by decide +kernel
theorem dX6_init_61 : decode cX6_init 61 = .ok (.aload_n 0, 1) := by decide +kernel
theorem dX6_init_62 : decode cX6_init 62 = .ok (.getfield 7, 3) := by decide +kernel
theorem dX6_init_65 : decode cX6_init 65 = .ok (.iconst 0, 1) := by decide +kernel
theorem dX6_init_66 : decode cX6_init 66 = .ok (.iconst 3, 1) := by decide +kernel
theorem dX6_init_67 : decode cX6_init 67 = .ok (.iastore, 1) := by decide +kernel
theorem dX6_init_68 : decode cX6_init 68 = .ok (.aload_n 0, 1) := by decide +kernel
theorem dX6_init_69 : decode cX6_init 69 = .ok (.getfield 7, 3) := by decide +kernel
theorem dX6_init_72 : decode cX6_init 72 = .ok (.bipush 10, 2) := by decide +kernel
theorem dX6_init_74 : decode cX6_init 74 = .ok (.iconst 5, 1) := by decide +kernel
theorem dX6_init_75 : decode cX6_init 75 = .ok (.iastore, 1) := by decide +kernel
theorem dX6_init_76 : decode cX6_init 76 = .ok (.iconst 0, 1) := by decide +kernel
theorem dX6_init_77 : decode cX6_init 77 = .ok (.istore_n 1, 1) := by decide +kernel
theorem dX6_init_78 : decode cX6_init 78 = .ok (.iload_n 1, 1) := by decide +kernel
theorem dX6_init_79 : decode cX6_init 79 = .ok (.bipush 10, 2) := by decide +kernel
theorem dX6_init_81 : decode cX6_init 81 = .ok (.if_icmp .ge 24, 3) := by decide +kernel
theorem dX6_init_84 : decode cX6_init 84 = .ok (.aload_n 0, 1) := by decide +kernel
theorem dX6_init_85 : decode cX6_init 85 = .ok (.getfield 7, 3) := by decide +kernel
theorem dX6_init_88 : decode cX6_init 88 = .ok (.bipush 11, 2) := by decide +kernel
theorem dX6_init_90 : decode cX6_init 90 = .ok (.iconst 3, 1) := by decide +kernel
theorem dX6_init_91 : decode cX6_init 91 = .ok (.iload_n 1, 1) := by decide +kernel
theorem dX6_init_92 : decode cX6_init 92 = .ok (.imul, 1) := by decide +kernel
theorem dX6_init_93 : decode cX6_init 93 = .ok (.iadd, 1) := by decide +kernel
theorem dX6_init_94 : decode cX6_init 94 = .ok (.iconst 0, 1) := by decide +kernel
theorem dX6_init_95 : decode cX6_init 95 = .ok (.iadd, 1) := by decide +kernel
theorem dX6_init_96 : decode cX6_init 96 = .ok (.bipush 6, 2) := by decide +kernel
theorem dX6_init_98 : decode cX6_init 98 = .ok (.iastore, 1) := by decide +kernel
theorem dX6_init_99 : decode cX6_init 99 = .ok (.iinc 1 1, 3) := by decide +kernel
theorem dX6_init_102 : decode cX6_init 102 = .ok (.goto (-24), 3) := by decide +kernel
theorem dX6_init_105 : decode cX6_init 105 = .ok (.iconst 0, 1) := by decide +kernel
theorem dX6_init_106 : decode cX6_init 106 = .ok (.istore_n 1, 1) := by decide +kernel
theorem dX6_init_107 : decode cX6_init 107 = .ok (.iload_n 1, 1) := by decide +kernel
theorem dX6_init_108 : decode cX6_init 108 = .ok (.bipush 20, 2) := by decide +kernel
theorem dX6_init_110 : decode cX6_init 110 = .ok (.if_icmp .ge 56, 3) := by decide +kernel
theorem dX6_init_113 : decode cX6_init 113 = .ok (.aload_n 0, 1) := by decide +kernel
theorem dX6_init_114 : decode cX6_init 114 = .ok (.getfield 7, 3) := by decide +kernel
theorem dX6_init_117 : decode cX6_init 117 = .ok (.bipush 41, 2) := by decide +kernel
theorem dX6_init_119 : decode cX6_init 119 = .ok (.iconst 3, 1) := by decide +kernel
theorem dX6_init_120 : decode cX6_init 120 = .ok (.iload_n 1, 1) := by decide +kernel
theorem dX6_init_121 : decode cX6_init 121 = .ok (.imul, 1) := by decide +kernel
theorem dX6_init_122 : decode cX6_init 122 = .ok (.iadd, 1) := by decide +kernel
theorem dX6_init_123 : decode cX6_init 123 = .ok (.iconst 0, 1) := by decide +kernel
theorem dX6_init_124 : decode cX6_init 124 = .ok (.iadd, 1) := by decide +kernel
theorem dX6_init_125 : decode cX6_init 125 = .ok (.bipush 6, 2) := by decide +kernel
theorem dX6_init_127 : decode cX6_init 127 = .ok (.iastore, 1) := by decide +kernel
theorem dX6_init_128 : decode cX6_init 128 = .ok (.aload_n 0, 1) := by decide +kernel
theorem dX6_init_129 : decode cX6_init 129 = .ok (.getfield 7, 3) := by decide +kernel
theorem dX6_init_132 : decode cX6_init 132 = .ok (.bipush 41, 2) := by decide +kernel
theorem dX6_init_134 : decode cX6_init 134 = .ok (.iconst 3, 1) := by decide +kernel
theorem dX6_init_135 : decode cX6_init 135 = .ok (.iload_n 1, 1) := by decide +kernel
theorem dX6_init_136 : decode cX6_init 136 = .ok (.imul, 1) := by decide +kernel
theorem dX6_init_137 : decode cX6_init 137 = .ok (.iadd, 1) := by decide +kernel
theorem dX6_init_138 : decode cX6_init 138 = .ok (.iconst 1, 1) := by decide +kernel
theorem dX6_init_139 : decode cX6_init 139 = .ok (.iadd, 1) := by decide +kernel
theorem dX6_init_140 : decode cX6_init 140 = .ok (.iload_n 1, 1) := by decide +kernel
theorem dX6_init_141 : decode cX6_init 141 = .ok (.iconst 2, 1) := by decide +kernel
theorem dX6_init_142 : decode cX6_init 142 = .ok (.idiv, 1) := by decide +kernel
theorem dX6_init_143 : decode cX6_init 143 = .ok (.iastore, 1) := by decide +kernel
theorem dX6_init_144 : decode cX6_init 144 = .ok (.aload_n 0, 1) := by decide +kernel
theorem dX6_init_145 : decode cX6_init 145 = .ok (.getfield 7, 3) := by decide +kernel
theorem dX6_init_148 : decode cX6_init 148 = .ok (.bipush 41, 2) := by decide +kernel
theorem dX6_init_150 : decode cX6_init 150 = .ok (.iconst 3, 1) := by decide +kernel
theorem dX6_init_151 : decode cX6_init 151 = .ok (.iload_n 1, 1) := by decide +kernel
theorem dX6_init_152 : decode cX6_init 152 = .ok (.imul, 1) := by decide +kernel
theorem dX6_init_153 : decode cX6_init 153 = .ok (.iadd, 1) := by decide +kernel
theorem dX6_init_154 : decode cX6_init 154 = .ok (.iconst 2, 1) := by decide +kernel
theorem dX6_init_155 : decode cX6_init 155 = .ok (.iadd, 1) := by decide +kernel
theorem dX6_init_156 : decode cX6_init 156 = .ok (.iload_n 1, 1) := by decide +kernel
theorem dX6_init_157 : decode cX6_init 157 = .ok (.iconst 2, 1) := by decide +kernel
theorem dX6_init_158 : decode cX6_init 158 = .ok (.idiv, 1) := by decide +kernel
theorem dX6_init_159 : decode cX6_init 159 = .ok (.iastore, 1) := by decide +kernel
theorem dX6_init_160 : decode cX6_init 160 = .ok (.iinc 1 1, 3) := by decide +kernel
theorem dX6_init_163 : decode cX6_init 163 = .ok (.goto (-56), 3) := by decide +kernel
theorem dX6_init_166 : decode cX6_init 166 = .ok (.return_, 1) := by decide +kernel
theorem dX6_in_0 : decode cX6_in 0 = .ok (.iload_n 0, 1) := by decide +kernel
theorem dX6_in_1 : decode cX6_in 1 = .ok (.iload_n 1, 1) := by decide +kernel
theorem dX6_in_2 : decode cX6_in 2 = .ok (.if_icmp .lt 12, 3) := by decide +kernel
theorem dX6_in_5 : decode cX6_in 5 = .ok (.iload_n 0, 1) := by decide +kernel
theorem dX6_in_6 : decode cX6_in 6 = .ok (.iload_n 2, 1) := by decide +kernel
theorem dX6_in_7 : decode cX6_in 7 = .ok (.if_icmp .gt 7, 3) := by decide +kernel
theorem dX6_in_10 : decode cX6_in 10 = .ok (.iconst 1, 1) := by decide +kernel
theorem dX6_in_11 : decode cX6_in 11 = .ok (.goto 4, 3) := by decide +kernel
theorem dX6_in_14 : decode cX6_in 14 = .ok (.iconst 0, 1) := by decide +kernel
theorem dX6_in_15 : decode cX6_in 15 = .ok (.ireturn, 1) := by decide +kernel
theorem dX6_isCommoner_0 : decode cX6_isCommoner 0 = .ok (.iload_n 0, 1) := by decide +kernel
theorem dX6_isCommoner_1 : decode cX6_isCommoner 1 = .ok (.iconst 0, 1) := by decide +kernel
theorem dX6_isCommoner_2 : decode cX6_isCommoner 2 = .ok (.bipush 9, 2) := by decide +kernel
theorem dX6_isCommoner_4 : decode cX6_isCommoner 4 = .ok (.invokestatic 32, 3) := by decide +kernel
theorem dX6_isCommoner_7 : decode cX6_isCommoner 7 = .ok (.ireturn, 1) := by decide +kernel
theorem dX6_isPlot_0 : decode cX6_isPlot 0 = .ok (.iload_n 0, 1) := by decide +kernel
theorem dX6_isPlot_1 : decode cX6_isPlot 1 = .ok (.iconst 0, 1) := by decide +kernel
theorem dX6_isPlot_2 : decode cX6_isPlot 2 = .ok (.bipush 19, 2) := by decide +kernel
theorem dX6_isPlot_4 : decode cX6_isPlot 4 = .ok (.invokestatic 32, 3) := by decide +kernel
theorem dX6_isPlot_7 : decode cX6_isPlot 7 = .ok (.ireturn, 1) := by decide +kernel
theorem dX6_ofCommoner_0 : decode cX6_ofCommoner 0 = .ok (.aload_n 0, 1) := by decide +kernel
theorem dX6_ofCommoner_1 : decode cX6_ofCommoner 1 = .ok (.getfield 7, 3) := by decide +kernel
theorem dX6_ofCommoner_4 : decode cX6_ofCommoner 4 = .ok (.bipush 11, 2) := by decide +kernel
theorem dX6_ofCommoner_6 : decode cX6_ofCommoner 6 = .ok (.iconst 3, 1) := by decide +kernel
theorem dX6_ofCommoner_7 : decode cX6_ofCommoner 7 = .ok (.iload_n 1, 1) := by decide +kernel
theorem dX6_ofCommoner_8 : decode cX6_ofCommoner 8 = .ok (.imul, 1) := by decide +kernel
theorem dX6_ofCommoner_9 : decode cX6_ofCommoner 9 = .ok (.iadd, 1) := by decide +kernel
theorem dX6_ofCommoner_10 : decode cX6_ofCommoner 10 = .ok (.iload_n 2, 1) := by decide +kernel
theorem dX6_ofCommoner_11 : decode cX6_ofCommoner 11 = .ok (.iadd, 1) := by decide +kernel
theorem dX6_ofCommoner_12 : decode cX6_ofCommoner 12 = .ok (.iaload, 1) := by decide +kernel
theorem dX6_ofCommoner_13 : decode cX6_ofCommoner 13 = .ok (.ireturn, 1) := by decide +kernel
theorem dX6_addCommoner_0 : decode cX6_addCommoner 0 = .ok (.aload_n 0, 1) := by decide +kernel
theorem dX6_addCommoner_1 : decode cX6_addCommoner 1 = .ok (.getfield 7, 3) := by decide +kernel
theorem dX6_addCommoner_4 : decode cX6_addCommoner 4 = .ok (.bipush 11, 2) := by decide +kernel
theorem dX6_addCommoner_6 : decode cX6_addCommoner 6 = .ok (.iconst 3, 1) := by decide +kernel
theorem dX6_addCommoner_7 : decode cX6_addCommoner 7 = .ok (.iload_n 1, 1) := by decide +kernel
theorem dX6_addCommoner_8 : decode cX6_addCommoner 8 = .ok (.imul, 1) := by decide +kernel
theorem dX6_addCommoner_9 : decode cX6_addCommoner 9 = .ok (.iadd, 1) := by decide +kernel
theorem dX6_addCommoner_10 : decode cX6_addCommoner 10 = .ok (.iload_n 2, 1) := by decide +kernel
theorem dX6_addCommoner_11 : decode cX6_addCommoner 11 = .ok (.iadd, 1) := by decide +kernel
theorem dX6_addCommoner_12 : decode cX6_addCommoner 12 = .ok (.dup2, 1) := by decide +kernel
theorem dX6_addCommoner_13 : decode cX6_addCommoner 13 = .ok (.iaload, 1) := by decide +kernel
theorem dX6_addCommoner_14 : decode cX6_addCommoner 14 = .ok (.iload_n 3, 1) := by decide +kernel
theorem dX6_addCommoner_15 : decode cX6_addCommoner 15 = .ok (.iadd, 1) := by decide +kernel
theorem dX6_addCommoner_16 : decode cX6_addCommoner 16 = .ok (.iastore, 1) := by decide +kernel
theorem dX6_addCommoner_17 : decode cX6_addCommoner 17 = .ok (.return_, 1) := by decide +kernel
theorem dX6_ofPlot_0 : decode cX6_ofPlot 0 = .ok (.aload_n 0, 1) := by decide +kernel
theorem dX6_ofPlot_1 : decode cX6_ofPlot 1 = .ok (.getfield 7, 3) := by decide +kernel
theorem dX6_ofPlot_4 : decode cX6_ofPlot 4 = .ok (.bipush 41, 2) := by decide +kernel
theorem dX6_ofPlot_6 : decode cX6_ofPlot 6 = .ok (.iconst 3, 1) := by decide +kernel
theorem dX6_ofPlot_7 : decode cX6_ofPlot 7 = .ok (.iload_n 1, 1) := by decide +kernel
theorem dX6_ofPlot_8 : decode cX6_ofPlot 8 = .ok (.imul, 1) := by decide +kernel
theorem dX6_ofPlot_9 : decode cX6_ofPlot 9 = .ok (.iadd, 1) := by decide +kernel
theorem dX6_ofPlot_10 : decode cX6_ofPlot 10 = .ok (.iload_n 2, 1) := by decide +kernel
theorem dX6_ofPlot_11 : decode cX6_ofPlot 11 = .ok (.iadd, 1) := by decide +kernel
theorem dX6_ofPlot_12 : decode cX6_ofPlot 12 = .ok (.iaload, 1) := by decide +kernel
theorem dX6_ofPlot_13 : decode cX6_ofPlot 13 = .ok (.ireturn, 1) := by decide +kernel
theorem dX6_ofRow_0 : decode cX6_ofRow 0 = .ok (.aload_n 0, 1) := by decide +kernel
theorem dX6_ofRow_1 : decode cX6_ofRow 1 = .ok (.getfield 7, 3) := by decide +kernel
theorem dX6_ofRow_4 : decode cX6_ofRow 4 = .ok (.bipush 101, 2) := by decide +kernel
theorem dX6_ofRow_6 : decode cX6_ofRow 6 = .ok (.bipush 6, 2) := by decide +kernel
theorem dX6_ofRow_8 : decode cX6_ofRow 8 = .ok (.iload_n 1, 1) := by decide +kernel
theorem dX6_ofRow_9 : decode cX6_ofRow 9 = .ok (.imul, 1) := by decide +kernel
theorem dX6_ofRow_10 : decode cX6_ofRow 10 = .ok (.iadd, 1) := by decide +kernel
theorem dX6_ofRow_11 : decode cX6_ofRow 11 = .ok (.iload_n 2, 1) := by decide +kernel
theorem dX6_ofRow_12 : decode cX6_ofRow 12 = .ok (.iadd, 1) := by decide +kernel
theorem dX6_ofRow_13 : decode cX6_ofRow 13 = .ok (.iaload, 1) := by decide +kernel
theorem dX6_ofRow_14 : decode cX6_ofRow 14 = .ok (.ireturn, 1) := by decide +kernel
theorem dX6_layRow_0 : decode cX6_layRow 0 = .ok (.aload_n 0, 1) := by decide +kernel
theorem dX6_layRow_1 : decode cX6_layRow 1 = .ok (.getfield 7, 3) := by decide +kernel
theorem dX6_layRow_4 : decode cX6_layRow 4 = .ok (.bipush 101, 2) := by decide +kernel
theorem dX6_layRow_6 : decode cX6_layRow 6 = .ok (.bipush 6, 2) := by decide +kernel
theorem dX6_layRow_8 : decode cX6_layRow 8 = .ok (.iload_n 1, 1) := by decide +kernel
theorem dX6_layRow_9 : decode cX6_layRow 9 = .ok (.imul, 1) := by decide +kernel
theorem dX6_layRow_10 : decode cX6_layRow 10 = .ok (.iadd, 1) := by decide +kernel
theorem dX6_layRow_11 : decode cX6_layRow 11 = .ok (.iload_n 2, 1) := by decide +kernel
theorem dX6_layRow_12 : decode cX6_layRow 12 = .ok (.iadd, 1) := by decide +kernel
theorem dX6_layRow_13 : decode cX6_layRow 13 = .ok (.iload_n 3, 1) := by decide +kernel
theorem dX6_layRow_14 : decode cX6_layRow 14 = .ok (.iastore, 1) := by decide +kernel
theorem dX6_layRow_15 : decode cX6_layRow 15 = .ok (.return_, 1) := by decide +kernel
theorem dX6_ofDispute_0 : decode cX6_ofDispute 0 = .ok (.aload_n 0, 1) := by decide +kernel
theorem dX6_ofDispute_1 : decode cX6_ofDispute 1 = .ok (.getfield 7, 3) := by decide +kernel
theorem dX6_ofDispute_4 : decode cX6_ofDispute 4 = .ok (.sipush 461, 3) := by decide +kernel
theorem dX6_ofDispute_7 : decode cX6_ofDispute 7 = .ok (.iconst 4, 1) := by decide +kernel
theorem dX6_ofDispute_8 : decode cX6_ofDispute 8 = .ok (.iload_n 1, 1) := by decide +kernel
theorem dX6_ofDispute_9 : decode cX6_ofDispute 9 = .ok (.imul, 1) := by decide +kernel
theorem dX6_ofDispute_10 : decode cX6_ofDispute 10 = .ok (.iadd, 1) := by decide +kernel
theorem dX6_ofDispute_11 : decode cX6_ofDispute 11 = .ok (.iload_n 2, 1) := by decide +kernel
theorem dX6_ofDispute_12 : decode cX6_ofDispute 12 = .ok (.iadd, 1) := by decide +kernel
theorem dX6_ofDispute_13 : decode cX6_ofDispute 13 = .ok (.iaload, 1) := by decide +kernel
theorem dX6_ofDispute_14 : decode cX6_ofDispute 14 = .ok (.ireturn, 1) := by decide +kernel
theorem dX6_placeOf_0 : decode cX6_placeOf 0 = .ok (.iconst 0, 1) := by decide +kernel
theorem dX6_placeOf_1 : decode cX6_placeOf 1 = .ok (.istore_n 2, 1) := by decide +kernel
theorem dX6_placeOf_2 : decode cX6_placeOf 2 = .ok (.iload_n 2, 1) := by decide +kernel
theorem dX6_placeOf_3 : decode cX6_placeOf 3 = .ok (.aload_n 0, 1) := by decide +kernel
theorem dX6_placeOf_4 : decode cX6_placeOf 4 = .ok (.getfield 7, 3) := by decide +kernel
theorem dX6_placeOf_7 : decode cX6_placeOf 7 = .ok (.iconst 4, 1) := by decide +kernel
theorem dX6_placeOf_8 : decode cX6_placeOf 8 = .ok (.iaload, 1) := by decide +kernel
theorem dX6_placeOf_9 : decode cX6_placeOf 9 = .ok (.if_icmp .ge 21, 3) := by decide +kernel
theorem dX6_placeOf_12 : decode cX6_placeOf 12 = .ok (.aload_n 0, 1) := by decide +kernel
theorem dX6_placeOf_13 : decode cX6_placeOf 13 = .ok (.iload_n 2, 1) := by decide +kernel
theorem dX6_placeOf_14 : decode cX6_placeOf 14 = .ok (.iconst 0, 1) := by decide +kernel
theorem dX6_placeOf_15 : decode cX6_placeOf 15 = .ok (.invokevirtual 36, 3) := by decide +kernel
theorem dX6_placeOf_18 : decode cX6_placeOf 18 = .ok (.iload_n 1, 1) := by decide +kernel
theorem dX6_placeOf_19 : decode cX6_placeOf 19 = .ok (.if_icmp .ne 5, 3) := by decide +kernel
theorem dX6_placeOf_22 : decode cX6_placeOf 22 = .ok (.iload_n 2, 1) := by decide +kernel
theorem dX6_placeOf_23 : decode cX6_placeOf 23 = .ok (.ireturn, 1) := by decide +kernel
theorem dX6_placeOf_24 : decode cX6_placeOf 24 = .ok (.iinc 2 1, 3) := by decide +kernel
theorem dX6_placeOf_27 : decode cX6_placeOf 27 = .ok (.goto (-25), 3) := by decide +kernel
theorem dX6_placeOf_30 : decode cX6_placeOf 30 = .ok (.bipush (-5), 2) := by decide +kernel
theorem dX6_placeOf_32 : decode cX6_placeOf 32 = .ok (.ireturn, 1) := by decide +kernel
theorem dX6_records_0 : decode cX6_records 0 = .ok (.aload_n 0, 1) := by decide +kernel
theorem dX6_records_1 : decode cX6_records 1 = .ok (.getfield 40, 3) := by decide +kernel
theorem dX6_records_4 : decode cX6_records 4 = .ok (.iconst 4, 1) := by decide +kernel
theorem dX6_records_5 : decode cX6_records 5 = .ok (.if_icmp .ne 44, 3) := by decide +kernel
theorem dX6_records_8 : decode cX6_records 8 = .ok (.iconst 0, 1) := by decide +kernel
theorem dX6_records_9 : decode cX6_records 9 = .ok (.istore_n 1, 1) := by decide +kernel
theorem dX6_records_10 : decode cX6_records 10 = .ok (.iload_n 1, 1) := by decide +kernel
theorem dX6_records_11 : decode cX6_records 11 = .ok (.sipush 2823, 3) := by decide +kernel
theorem dX6_records_14 : decode cX6_records 14 = .ok (.if_icmp .ge 25, 3) := by decide +kernel
theorem dX6_records_17 : decode cX6_records 17 = .ok (.aload_n 0, 1) := by decide +kernel
theorem dX6_records_18 : decode cX6_records 18 = .ok (.getfield 16, 3) := by decide +kernel
theorem dX6_records_21 : decode cX6_records 21 = .ok (.iload_n 1, 1) := by decide +kernel
theorem dX6_records_22 : decode cX6_records 22 = .ok (.aload_n 0, 1) := by decide +kernel
theorem dX6_records_23 : decode cX6_records 23 = .ok (.getfield 16, 3) := by decide +kernel
theorem dX6_records_26 : decode cX6_records 26 = .ok (.iload_n 1, 1) := by decide +kernel
theorem dX6_records_27 : decode cX6_records 27 = .ok (.sipush 941, 3) := by decide +kernel
theorem dX6_records_30 : decode cX6_records 30 = .ok (.iadd, 1) := by decide +kernel
theorem dX6_records_31 : decode cX6_records 31 = .ok (.iaload, 1) := by decide +kernel
theorem dX6_records_32 : decode cX6_records 32 = .ok (.iastore, 1) := by decide +kernel
theorem dX6_records_33 : decode cX6_records 33 = .ok (.iinc 1 1, 3) := by decide +kernel
theorem dX6_records_36 : decode cX6_records 36 = .ok (.goto (-26), 3) := by decide +kernel
theorem dX6_records_39 : decode cX6_records 39 = .ok (.aload_n 0, 1) := by decide +kernel
theorem dX6_records_40 : decode cX6_records 40 = .ok (.dup, 1) := by decide +kernel
theorem dX6_records_41 : decode cX6_records 41 = .ok (.getfield 40, 3) := by decide +kernel
theorem dX6_records_44 : decode cX6_records 44 = .ok (.iconst 1, 1) := by decide +kernel
theorem dX6_records_45 : decode cX6_records 45 = .ok (.isub, 1) := by decide +kernel
theorem dX6_records_46 : decode cX6_records 46 = .ok (.putfield 40, 3) := by decide +kernel
theorem dX6_records_49 : decode cX6_records 49 = .ok (.iconst 0, 1) := by decide +kernel
theorem dX6_records_50 : decode cX6_records 50 = .ok (.istore_n 1, 1) := by decide +kernel
theorem dX6_records_51 : decode cX6_records 51 = .ok (.iload_n 1, 1) := by decide +kernel
theorem dX6_records_52 : decode cX6_records 52 = .ok (.sipush 941, 3) := by decide +kernel
theorem dX6_records_55 : decode cX6_records 55 = .ok (.if_icmp .ge 30, 3) := by decide +kernel
theorem dX6_records_58 : decode cX6_records 58 = .ok (.aload_n 0, 1) := by decide +kernel
theorem dX6_records_59 : decode cX6_records 59 = .ok (.getfield 16, 3) := by decide +kernel
theorem dX6_records_62 : decode cX6_records 62 = .ok (.sipush 941, 3) := by decide +kernel
theorem dX6_records_65 : decode cX6_records 65 = .ok (.aload_n 0, 1) := by decide +kernel
theorem dX6_records_66 : decode cX6_records 66 = .ok (.getfield 40, 3) := by decide +kernel
theorem dX6_records_69 : decode cX6_records 69 = .ok (.imul, 1) := by decide +kernel
theorem dX6_records_70 : decode cX6_records 70 = .ok (.iload_n 1, 1) := by decide +kernel
theorem dX6_records_71 : decode cX6_records 71 = .ok (.iadd, 1) := by decide +kernel
theorem dX6_records_72 : decode cX6_records 72 = .ok (.aload_n 0, 1) := by decide +kernel
theorem dX6_records_73 : decode cX6_records 73 = .ok (.getfield 7, 3) := by decide +kernel
theorem dX6_records_76 : decode cX6_records 76 = .ok (.iload_n 1, 1) := by decide +kernel
theorem dX6_records_77 : decode cX6_records 77 = .ok (.iaload, 1) := by decide +kernel
theorem dX6_records_78 : decode cX6_records 78 = .ok (.iastore, 1) := by decide +kernel
theorem dX6_records_79 : decode cX6_records 79 = .ok (.iinc 1 1, 3) := by decide +kernel
theorem dX6_records_82 : decode cX6_records 82 = .ok (.goto (-31), 3) := by decide +kernel
theorem dX6_records_85 : decode cX6_records 85 = .ok (.aload_n 0, 1) := by decide +kernel
theorem dX6_records_86 : decode cX6_records 86 = .ok (.dup, 1) := by decide +kernel
theorem dX6_records_87 : decode cX6_records 87 = .ok (.getfield 40, 3) := by decide +kernel
theorem dX6_records_90 : decode cX6_records 90 = .ok (.iconst 1, 1) := by decide +kernel
theorem dX6_records_91 : decode cX6_records 91 = .ok (.iadd, 1) := by decide +kernel
theorem dX6_records_92 : decode cX6_records 92 = .ok (.putfield 40, 3) := by decide +kernel
theorem dX6_records_95 : decode cX6_records 95 = .ok (.return_, 1) := by decide +kernel
theorem dX6_drier_0 : decode cX6_drier 0 = .ok (.iload_n 0, 1) := by decide +kernel
theorem dX6_drier_1 : decode cX6_drier 1 = .ok (.iconst 2, 1) := by decide +kernel
theorem dX6_drier_2 : decode cX6_drier 2 = .ok (.if_icmp .ne 8, 3) := by decide +kernel
theorem dX6_drier_5 : decode cX6_drier 5 = .ok (.bipush (-4), 2) := by decide +kernel
theorem dX6_drier_7 : decode cX6_drier 7 = .ok (.goto 17, 3) := by decide +kernel
theorem dX6_drier_10 : decode cX6_drier 10 = .ok (.iload_n 0, 1) := by decide +kernel
theorem dX6_drier_11 : decode cX6_drier 11 = .ok (.ifCond .ne 8, 3) := by decide +kernel
theorem dX6_drier_14 : decode cX6_drier 14 = .ok (.bipush 6, 2) := by decide +kernel
theorem dX6_drier_16 : decode cX6_drier 16 = .ok (.goto 4, 3) := by decide +kernel
theorem dX6_drier_19 : decode cX6_drier 19 = .ok (.iconst 3, 1) := by decide +kernel
theorem dX6_drier_20 : decode cX6_drier 20 = .ok (.iconst 2, 1) := by decide +kernel
theorem dX6_drier_21 : decode cX6_drier 21 = .ok (.iload_n 1, 1) := by decide +kernel
theorem dX6_drier_22 : decode cX6_drier 22 = .ok (.imul, 1) := by decide +kernel
theorem dX6_drier_23 : decode cX6_drier 23 = .ok (.iadd, 1) := by decide +kernel
theorem dX6_drier_24 : decode cX6_drier 24 = .ok (.ireturn, 1) := by decide +kernel
theorem dX6_weathers_0 : decode cX6_weathers 0 = .ok (.iconst 0, 1) := by decide +kernel
theorem dX6_weathers_1 : decode cX6_weathers 1 = .ok (.istore_n 2, 1) := by decide +kernel
theorem dX6_weathers_2 : decode cX6_weathers 2 = .ok (.iload_n 2, 1) := by decide +kernel
theorem dX6_weathers_3 : decode cX6_weathers 3 = .ok (.aload_n 0, 1) := by decide +kernel
theorem dX6_weathers_4 : decode cX6_weathers 4 = .ok (.getfield 7, 3) := by decide +kernel
theorem dX6_weathers_7 : decode cX6_weathers 7 = .ok (.iconst 4, 1) := by decide +kernel
theorem dX6_weathers_8 : decode cX6_weathers 8 = .ok (.iaload, 1) := by decide +kernel
theorem dX6_weathers_9 : decode cX6_weathers 9 = .ok (.if_icmp .ge 62, 3) := by decide +kernel
theorem dX6_weathers_12 : decode cX6_weathers 12 = .ok (.aload_n 0, 1) := by decide +kernel
theorem dX6_weathers_13 : decode cX6_weathers 13 = .ok (.iload_n 2, 1) := by decide +kernel
theorem dX6_weathers_14 : decode cX6_weathers 14 = .ok (.iconst 5, 1) := by decide +kernel
theorem dX6_weathers_15 : decode cX6_weathers 15 = .ok (.invokevirtual 36, 3) := by decide +kernel
theorem dX6_weathers_18 : decode cX6_weathers 18 = .ok (.ifCond .ne 47, 3) := by decide +kernel
theorem dX6_weathers_21 : decode cX6_weathers 21 = .ok (.aload_n 0, 1) := by decide +kernel
theorem dX6_weathers_22 : decode cX6_weathers 22 = .ok (.iload_n 2, 1) := by decide +kernel
theorem dX6_weathers_23 : decode cX6_weathers 23 = .ok (.iconst 3, 1) := by decide +kernel
theorem dX6_weathers_24 : decode cX6_weathers 24 = .ok (.invokevirtual 36, 3) := by decide +kernel
theorem dX6_weathers_27 : decode cX6_weathers 27 = .ok (.iload_n 1, 1) := by decide +kernel
theorem dX6_weathers_28 : decode cX6_weathers 28 = .ok (.aload_n 0, 1) := by decide +kernel
theorem dX6_weathers_29 : decode cX6_weathers 29 = .ok (.iload_n 2, 1) := by decide +kernel
theorem dX6_weathers_30 : decode cX6_weathers 30 = .ok (.iconst 4, 1) := by decide +kernel
theorem dX6_weathers_31 : decode cX6_weathers 31 = .ok (.invokevirtual 36, 3) := by decide +kernel
theorem dX6_weathers_34 : decode cX6_weathers 34 = .ok (.invokestatic 43, 3) := by decide +kernel
theorem dX6_weathers_37 : decode cX6_weathers 37 = .ok (.isub, 1) := by decide +kernel
theorem dX6_weathers_38 : decode cX6_weathers 38 = .ok (.istore_n 3, 1) := by decide +kernel
theorem dX6_weathers_39 : decode cX6_weathers 39 = .ok (.aload_n 0, 1) := by decide +kernel
theorem dX6_weathers_40 : decode cX6_weathers 40 = .ok (.iload_n 2, 1) := by decide +kernel
theorem dX6_weathers_41 : decode cX6_weathers 41 = .ok (.iconst 3, 1) := by decide +kernel
theorem dX6_weathers_42 : decode cX6_weathers 42 = .ok (.iload_n 3, 1) := by decide +kernel
theorem dX6_weathers_43 : decode cX6_weathers 43 = .ok (.ifCond .ge 7, 3) := by decide +kernel
theorem dX6_weathers_46 : decode cX6_weathers 46 = .ok (.iconst 0, 1) := by decide +kernel
theorem dX6_weathers_47 : decode cX6_weathers 47 = .ok (.goto 15, 3) := by decide +kernel
theorem dX6_weathers_50 : decode cX6_weathers 50 = .ok (.iload_n 3, 1) := by decide +kernel
theorem dX6_weathers_51 : decode cX6_weathers 51 = .ok (.bipush 60, 2) := by decide +kernel
theorem dX6_weathers_53 : decode cX6_weathers 53 = .ok (.if_icmp .le 8, 3) := by decide +kernel
theorem dX6_weathers_56 : decode cX6_weathers 56 = .ok (.bipush 60, 2) := by decide +kernel
theorem dX6_weathers_58 : decode cX6_weathers 58 = .ok (.goto 4, 3) := by decide +kernel
theorem dX6_weathers_61 : decode cX6_weathers 61 = .ok (.iload_n 3, 1) := by decide +kernel
theorem dX6_weathers_62 : decode cX6_weathers 62 = .ok (.invokevirtual 46, 3) := by decide +kernel
theorem dX6_weathers_65 : decode cX6_weathers 65 = .ok (.iinc 2 1, 3) := by decide +kernel
theorem dX6_weathers_68 : decode cX6_weathers 68 = .ok (.goto (-66), 3) := by decide +kernel
theorem dX6_weathers_71 : decode cX6_weathers 71 = .ok (.return_, 1) := by decide +kernel
theorem dX6_brings_0 : decode cX6_brings 0 = .ok (.bipush 40, 2) := by decide +kernel
theorem dX6_brings_2 : decode cX6_brings 2 = .ok (.aload_n 0, 1) := by decide +kernel
theorem dX6_brings_3 : decode cX6_brings 3 = .ok (.iload_n 1, 1) := by decide +kernel
theorem dX6_brings_4 : decode cX6_brings 4 = .ok (.iconst 3, 1) := by decide +kernel
theorem dX6_brings_5 : decode cX6_brings 5 = .ok (.invokevirtual 36, 3) := by decide +kernel
theorem dX6_brings_8 : decode cX6_brings 8 = .ok (.isub, 1) := by decide +kernel
theorem dX6_brings_9 : decode cX6_brings 9 = .ok (.istore_n 2, 1) := by decide +kernel
theorem dX6_brings_10 : decode cX6_brings 10 = .ok (.iload_n 2, 1) := by decide +kernel
theorem dX6_brings_11 : decode cX6_brings 11 = .ok (.ifCond .ge 7, 3) := by decide +kernel
theorem dX6_brings_14 : decode cX6_brings 14 = .ok (.iconst 0, 1) := by decide +kernel
theorem dX6_brings_15 : decode cX6_brings 15 = .ok (.goto 4, 3) := by decide +kernel
theorem dX6_brings_18 : decode cX6_brings 18 = .ok (.iload_n 2, 1) := by decide +kernel
theorem dX6_brings_19 : decode cX6_brings 19 = .ok (.ireturn, 1) := by decide +kernel
theorem dX6_leaves_0 : decode cX6_leaves 0 = .ok (.aload_n 0, 1) := by decide +kernel
theorem dX6_leaves_1 : decode cX6_leaves 1 = .ok (.getfield 7, 3) := by decide +kernel
theorem dX6_leaves_4 : decode cX6_leaves 4 = .ok (.iconst 4, 1) := by decide +kernel
theorem dX6_leaves_5 : decode cX6_leaves 5 = .ok (.dup2, 1) := by decide +kernel
theorem dX6_leaves_6 : decode cX6_leaves 6 = .ok (.iaload, 1) := by decide +kernel
theorem dX6_leaves_7 : decode cX6_leaves 7 = .ok (.iconst 1, 1) := by decide +kernel
theorem dX6_leaves_8 : decode cX6_leaves 8 = .ok (.isub, 1) := by decide +kernel
theorem dX6_leaves_9 : decode cX6_leaves 9 = .ok (.iastore, 1) := by decide +kernel
theorem dX6_leaves_10 : decode cX6_leaves 10 = .ok (.bipush 6, 2) := by decide +kernel
theorem dX6_leaves_12 : decode cX6_leaves 12 = .ok (.iload_n 1, 1) := by decide +kernel
theorem dX6_leaves_13 : decode cX6_leaves 13 = .ok (.imul, 1) := by decide +kernel
theorem dX6_leaves_14 : decode cX6_leaves 14 = .ok (.istore_n 2, 1) := by decide +kernel
theorem dX6_leaves_15 : decode cX6_leaves 15 = .ok (.iload_n 2, 1) := by decide +kernel
theorem dX6_leaves_16 : decode cX6_leaves 16 = .ok (.bipush 6, 2) := by decide +kernel
theorem dX6_leaves_18 : decode cX6_leaves 18 = .ok (.aload_n 0, 1) := by decide +kernel
theorem dX6_leaves_19 : decode cX6_leaves 19 = .ok (.getfield 7, 3) := by decide +kernel
theorem dX6_leaves_22 : decode cX6_leaves 22 = .ok (.iconst 4, 1) := by decide +kernel
theorem dX6_leaves_23 : decode cX6_leaves 23 = .ok (.iaload, 1) := by decide +kernel
theorem dX6_leaves_24 : decode cX6_leaves 24 = .ok (.imul, 1) := by decide +kernel
theorem dX6_leaves_25 : decode cX6_leaves 25 = .ok (.if_icmp .ge 30, 3) := by decide +kernel
theorem dX6_leaves_28 : decode cX6_leaves 28 = .ok (.aload_n 0, 1) := by decide +kernel
theorem dX6_leaves_29 : decode cX6_leaves 29 = .ok (.getfield 7, 3) := by decide +kernel
theorem dX6_leaves_32 : decode cX6_leaves 32 = .ok (.bipush 101, 2) := by decide +kernel
theorem dX6_leaves_34 : decode cX6_leaves 34 = .ok (.iload_n 2, 1) := by decide +kernel
theorem dX6_leaves_35 : decode cX6_leaves 35 = .ok (.iadd, 1) := by decide +kernel
theorem dX6_leaves_36 : decode cX6_leaves 36 = .ok (.aload_n 0, 1) := by decide +kernel
theorem dX6_leaves_37 : decode cX6_leaves 37 = .ok (.getfield 7, 3) := by decide +kernel
theorem dX6_leaves_40 : decode cX6_leaves 40 = .ok (.bipush 101, 2) := by decide +kernel
theorem dX6_leaves_42 : decode cX6_leaves 42 = .ok (.iload_n 2, 1) := by decide +kernel
theorem dX6_leaves_43 : decode cX6_leaves 43 = .ok (.iadd, 1) := by decide +kernel
theorem dX6_leaves_44 : decode cX6_leaves 44 = .ok (.bipush 6, 2) := by decide +kernel
theorem dX6_leaves_46 : decode cX6_leaves 46 = .ok (.iadd, 1) := by decide +kernel
theorem dX6_leaves_47 : decode cX6_leaves 47 = .ok (.iaload, 1) := by decide +kernel
theorem dX6_leaves_48 : decode cX6_leaves 48 = .ok (.iastore, 1) := by decide +kernel
theorem dX6_leaves_49 : decode cX6_leaves 49 = .ok (.iinc 2 1, 3) := by decide +kernel
theorem dX6_leaves_52 : decode cX6_leaves 52 = .ok (.goto (-37), 3) := by decide +kernel
theorem dX6_leaves_55 : decode cX6_leaves 55 = .ok (.iconst 0, 1) := by decide +kernel
theorem dX6_leaves_56 : decode cX6_leaves 56 = .ok (.istore_n 2, 1) := by decide +kernel
theorem dX6_leaves_57 : decode cX6_leaves 57 = .ok (.iload_n 2, 1) := by decide +kernel
theorem dX6_leaves_58 : decode cX6_leaves 58 = .ok (.bipush 6, 2) := by decide +kernel
theorem dX6_leaves_60 : decode cX6_leaves 60 = .ok (.if_icmp .ge 21, 3) := by decide +kernel
theorem dX6_leaves_63 : decode cX6_leaves 63 = .ok (.aload_n 0, 1) := by decide +kernel
theorem dX6_leaves_64 : decode cX6_leaves 64 = .ok (.aload_n 0, 1) := by decide +kernel
theorem dX6_leaves_65 : decode cX6_leaves 65 = .ok (.getfield 7, 3) := by decide +kernel
theorem dX6_leaves_68 : decode cX6_leaves 68 = .ok (.iconst 4, 1) := by decide +kernel
theorem dX6_leaves_69 : decode cX6_leaves 69 = .ok (.iaload, 1) := by decide +kernel
theorem dX6_leaves_70 : decode cX6_leaves 70 = .ok (.iload_n 2, 1) := by decide +kernel
theorem dX6_leaves_71 : decode cX6_leaves 71 = .ok (.iconst 0, 1) := by decide +kernel
theorem dX6_leaves_72 : decode cX6_leaves 72 = .ok (.invokevirtual 46, 3) := by decide +kernel
theorem dX6_leaves_75 : decode cX6_leaves 75 = .ok (.iinc 2 1, 3) := by decide +kernel
theorem dX6_leaves_78 : decode cX6_leaves 78 = .ok (.goto (-21), 3) := by decide +kernel
theorem dX6_leaves_81 : decode cX6_leaves 81 = .ok (.return_, 1) := by decide +kernel
theorem dX6_nextFor_0 : decode cX6_nextFor 0 = .ok (.bipush (-5), 2) := by decide +kernel
theorem dX6_nextFor_2 : decode cX6_nextFor 2 = .ok (.istore_n 2, 1) := by decide +kernel
theorem dX6_nextFor_3 : decode cX6_nextFor 3 = .ok (.iconst 0, 1) := by decide +kernel
theorem dX6_nextFor_4 : decode cX6_nextFor 4 = .ok (.istore_n 3, 1) := by decide +kernel
theorem dX6_nextFor_5 : decode cX6_nextFor 5 = .ok (.iload_n 3, 1) := by decide +kernel
theorem dX6_nextFor_6 : decode cX6_nextFor 6 = .ok (.aload_n 0, 1) := by decide +kernel
theorem dX6_nextFor_7 : decode cX6_nextFor 7 = .ok (.getfield 7, 3) := by decide +kernel
theorem dX6_nextFor_10 : decode cX6_nextFor 10 = .ok (.iconst 4, 1) := by decide +kernel
theorem dX6_nextFor_11 : decode cX6_nextFor 11 = .ok (.iaload, 1) := by decide +kernel
theorem dX6_nextFor_12 : decode cX6_nextFor 12 = .ok (.if_icmp .ge 68, 3) := by decide +kernel
theorem dX6_nextFor_15 : decode cX6_nextFor 15 = .ok (.aload_n 0, 1) := by decide +kernel
theorem dX6_nextFor_16 : decode cX6_nextFor 16 = .ok (.iload_n 3, 1) := by decide +kernel
theorem dX6_nextFor_17 : decode cX6_nextFor 17 = .ok (.iconst 1, 1) := by decide +kernel
theorem dX6_nextFor_18 : decode cX6_nextFor 18 = .ok (.invokevirtual 36, 3) := by decide +kernel
theorem dX6_nextFor_21 : decode cX6_nextFor 21 = .ok (.iload_n 1, 1) := by decide +kernel
theorem dX6_nextFor_22 : decode cX6_nextFor 22 = .ok (.if_icmp .ne 17, 3) := by decide +kernel
theorem dX6_nextFor_25 : decode cX6_nextFor 25 = .ok (.aload_n 0, 1) := by decide +kernel
theorem dX6_nextFor_26 : decode cX6_nextFor 26 = .ok (.iload_n 3, 1) := by decide +kernel
theorem dX6_nextFor_27 : decode cX6_nextFor 27 = .ok (.iconst 5, 1) := by decide +kernel
theorem dX6_nextFor_28 : decode cX6_nextFor 28 = .ok (.invokevirtual 36, 3) := by decide +kernel
theorem dX6_nextFor_31 : decode cX6_nextFor 31 = .ok (.iconst 1, 1) := by decide +kernel
theorem dX6_nextFor_32 : decode cX6_nextFor 32 = .ok (.if_icmp .ne 7, 3) := by decide +kernel
theorem dX6_nextFor_35 : decode cX6_nextFor 35 = .ok (.iconst 1, 1) := by decide +kernel
theorem dX6_nextFor_36 : decode cX6_nextFor 36 = .ok (.goto 4, 3) := by decide +kernel
theorem dX6_nextFor_39 : decode cX6_nextFor 39 = .ok (.iconst 0, 1) := by decide +kernel
theorem dX6_nextFor_40 : decode cX6_nextFor 40 = .ok (.istore 4, 2) := by decide +kernel
theorem dX6_nextFor_42 : decode cX6_nextFor 42 = .ok (.iload 4, 2) := by decide +kernel
theorem dX6_nextFor_44 : decode cX6_nextFor 44 = .ok (.ifCond .eq 28, 3) := by decide +kernel
theorem dX6_nextFor_47 : decode cX6_nextFor 47 = .ok (.iload_n 2, 1) := by decide +kernel
theorem dX6_nextFor_48 : decode cX6_nextFor 48 = .ok (.bipush (-5), 2) := by decide +kernel
theorem dX6_nextFor_50 : decode cX6_nextFor 50 = .ok (.if_icmp .eq 18, 3) := by decide +kernel
theorem dX6_nextFor_53 : decode cX6_nextFor 53 = .ok (.aload_n 0, 1) := by decide +kernel
theorem dX6_nextFor_54 : decode cX6_nextFor 54 = .ok (.iload_n 3, 1) := by decide +kernel
theorem dX6_nextFor_55 : decode cX6_nextFor 55 = .ok (.iconst 3, 1) := by decide +kernel
theorem dX6_nextFor_56 : decode cX6_nextFor 56 = .ok (.invokevirtual 36, 3) := by decide +kernel
theorem dX6_nextFor_59 : decode cX6_nextFor 59 = .ok (.aload_n 0, 1) := by decide +kernel
theorem dX6_nextFor_60 : decode cX6_nextFor 60 = .ok (.iload_n 2, 1) := by decide +kernel
theorem dX6_nextFor_61 : decode cX6_nextFor 61 = .ok (.iconst 3, 1) := by decide +kernel
theorem dX6_nextFor_62 : decode cX6_nextFor 62 = .ok (.invokevirtual 36, 3) := by decide +kernel
theorem dX6_nextFor_65 : decode cX6_nextFor 65 = .ok (.if_icmp .ge 7, 3) := by decide +kernel
theorem dX6_nextFor_68 : decode cX6_nextFor 68 = .ok (.iload_n 3, 1) := by decide +kernel
theorem dX6_nextFor_69 : decode cX6_nextFor 69 = .ok (.goto 4, 3) := by decide +kernel
theorem dX6_nextFor_72 : decode cX6_nextFor 72 = .ok (.iload_n 2, 1) := by decide +kernel
theorem dX6_nextFor_73 : decode cX6_nextFor 73 = .ok (.istore_n 2, 1) := by decide +kernel
theorem dX6_nextFor_74 : decode cX6_nextFor 74 = .ok (.iinc 3 1, 3) := by decide +kernel
theorem dX6_nextFor_77 : decode cX6_nextFor 77 = .ok (.goto (-72), 3) := by decide +kernel
theorem dX6_nextFor_80 : decode cX6_nextFor 80 = .ok (.iload_n 2, 1) := by decide +kernel
theorem dX6_nextFor_81 : decode cX6_nextFor 81 = .ok (.ireturn, 1) := by decide +kernel
theorem dX6_serves_0 : decode cX6_serves 0 = .ok (.aload_n 0, 1) := by decide +kernel
theorem dX6_serves_1 : decode cX6_serves 1 = .ok (.getfield 7, 3) := by decide +kernel
theorem dX6_serves_4 : decode cX6_serves 4 = .ok (.bipush 9, 2) := by decide +kernel
theorem dX6_serves_6 : decode cX6_serves 6 = .ok (.iload_n 1, 1) := by decide +kernel
theorem dX6_serves_7 : decode cX6_serves 7 = .ok (.iadd, 1) := by decide +kernel
theorem dX6_serves_8 : decode cX6_serves 8 = .ok (.iaload, 1) := by decide +kernel
theorem dX6_serves_9 : decode cX6_serves 9 = .ok (.istore_n 2, 1) := by decide +kernel
theorem dX6_serves_10 : decode cX6_serves 10 = .ok (.iconst 0, 1) := by decide +kernel
theorem dX6_serves_11 : decode cX6_serves 11 = .ok (.istore_n 3, 1) := by decide +kernel
theorem dX6_serves_12 : decode cX6_serves 12 = .ok (.aload_n 0, 1) := by decide +kernel
theorem dX6_serves_13 : decode cX6_serves 13 = .ok (.iload_n 2, 1) := by decide +kernel
theorem dX6_serves_14 : decode cX6_serves 14 = .ok (.invokevirtual 50, 3) := by decide +kernel
theorem dX6_serves_17 : decode cX6_serves 17 = .ok (.istore 4, 2) := by decide +kernel
theorem dX6_serves_19 : decode cX6_serves 19 = .ok (.iload_n 3, 1) := by decide +kernel
theorem dX6_serves_20 : decode cX6_serves 20 = .ok (.aload_n 0, 1) := by decide +kernel
theorem dX6_serves_21 : decode cX6_serves 21 = .ok (.getfield 7, 3) := by decide +kernel
theorem dX6_serves_24 : decode cX6_serves 24 = .ok (.iconst 0, 1) := by decide +kernel
theorem dX6_serves_25 : decode cX6_serves 25 = .ok (.iaload, 1) := by decide +kernel
theorem dX6_serves_26 : decode cX6_serves 26 = .ok (.if_icmp .ge 41, 3) := by decide +kernel
theorem dX6_serves_29 : decode cX6_serves 29 = .ok (.iload 4, 2) := by decide +kernel
theorem dX6_serves_31 : decode cX6_serves 31 = .ok (.bipush (-5), 2) := by decide +kernel
theorem dX6_serves_33 : decode cX6_serves 33 = .ok (.if_icmp .eq 34, 3) := by decide +kernel
theorem dX6_serves_36 : decode cX6_serves 36 = .ok (.aload_n 0, 1) := by decide +kernel
theorem dX6_serves_37 : decode cX6_serves 37 = .ok (.iload_n 2, 1) := by decide +kernel
theorem dX6_serves_38 : decode cX6_serves 38 = .ok (.iconst 2, 1) := by decide +kernel
theorem dX6_serves_39 : decode cX6_serves 39 = .ok (.aload_n 0, 1) := by decide +kernel
theorem dX6_serves_40 : decode cX6_serves 40 = .ok (.iload 4, 2) := by decide +kernel
theorem dX6_serves_42 : decode cX6_serves 42 = .ok (.invokevirtual 54, 3) := by decide +kernel
theorem dX6_serves_45 : decode cX6_serves 45 = .ok (.invokevirtual 57, 3) := by decide +kernel
theorem dX6_serves_48 : decode cX6_serves 48 = .ok (.aload_n 0, 1) := by decide +kernel
theorem dX6_serves_49 : decode cX6_serves 49 = .ok (.iload 4, 2) := by decide +kernel
theorem dX6_serves_51 : decode cX6_serves 51 = .ok (.invokevirtual 60, 3) := by decide +kernel
theorem dX6_serves_54 : decode cX6_serves 54 = .ok (.iinc 3 1, 3) := by decide +kernel
theorem dX6_serves_57 : decode cX6_serves 57 = .ok (.aload_n 0, 1) := by decide +kernel
theorem dX6_serves_58 : decode cX6_serves 58 = .ok (.iload_n 2, 1) := by decide +kernel
theorem dX6_serves_59 : decode cX6_serves 59 = .ok (.invokevirtual 50, 3) := by decide +kernel
theorem dX6_serves_62 : decode cX6_serves 62 = .ok (.istore 4, 2) := by decide +kernel
theorem dX6_serves_64 : decode cX6_serves 64 = .ok (.goto (-45), 3) := by decide +kernel
theorem dX6_serves_67 : decode cX6_serves 67 = .ok (.aload_n 0, 1) := by decide +kernel
theorem dX6_serves_68 : decode cX6_serves 68 = .ok (.getfield 7, 3) := by decide +kernel
theorem dX6_serves_71 : decode cX6_serves 71 = .ok (.bipush 9, 2) := by decide +kernel
theorem dX6_serves_73 : decode cX6_serves 73 = .ok (.iload_n 1, 1) := by decide +kernel
theorem dX6_serves_74 : decode cX6_serves 74 = .ok (.iadd, 1) := by decide +kernel
theorem dX6_serves_75 : decode cX6_serves 75 = .ok (.iload_n 2, 1) := by decide +kernel
theorem dX6_serves_76 : decode cX6_serves 76 = .ok (.iconst 1, 1) := by decide +kernel
theorem dX6_serves_77 : decode cX6_serves 77 = .ok (.iadd, 1) := by decide +kernel
theorem dX6_serves_78 : decode cX6_serves 78 = .ok (.bipush 10, 2) := by decide +kernel
theorem dX6_serves_80 : decode cX6_serves 80 = .ok (.irem, 1) := by decide +kernel
theorem dX6_serves_81 : decode cX6_serves 81 = .ok (.iastore, 1) := by decide +kernel
theorem dX6_serves_82 : decode cX6_serves 82 = .ok (.aload_n 0, 1) := by decide +kernel
theorem dX6_serves_83 : decode cX6_serves 83 = .ok (.getfield 7, 3) := by decide +kernel
theorem dX6_serves_86 : decode cX6_serves 86 = .ok (.bipush 6, 2) := by decide +kernel
theorem dX6_serves_88 : decode cX6_serves 88 = .ok (.dup2, 1) := by decide +kernel
theorem dX6_serves_89 : decode cX6_serves 89 = .ok (.iaload, 1) := by decide +kernel
theorem dX6_serves_90 : decode cX6_serves 90 = .ok (.iload_n 3, 1) := by decide +kernel
theorem dX6_serves_91 : decode cX6_serves 91 = .ok (.iadd, 1) := by decide +kernel
theorem dX6_serves_92 : decode cX6_serves 92 = .ok (.iastore, 1) := by decide +kernel
theorem dX6_serves_93 : decode cX6_serves 93 = .ok (.iload_n 3, 1) := by decide +kernel
theorem dX6_serves_94 : decode cX6_serves 94 = .ok (.ireturn, 1) := by decide +kernel
theorem dX6_passes_0 : decode cX6_passes 0 = .ok (.aload_n 0, 1) := by decide +kernel
theorem dX6_passes_1 : decode cX6_passes 1 = .ok (.iload_n 1, 1) := by decide +kernel
theorem dX6_passes_2 : decode cX6_passes 2 = .ok (.invokevirtual 64, 3) := by decide +kernel
theorem dX6_passes_5 : decode cX6_passes 5 = .ok (.aload_n 0, 1) := by decide +kernel
theorem dX6_passes_6 : decode cX6_passes 6 = .ok (.iconst 0, 1) := by decide +kernel
theorem dX6_passes_7 : decode cX6_passes 7 = .ok (.invokevirtual 67, 3) := by decide +kernel
theorem dX6_passes_10 : decode cX6_passes 10 = .ok (.istore_n 2, 1) := by decide +kernel
theorem dX6_passes_11 : decode cX6_passes 11 = .ok (.iload_n 2, 1) := by decide +kernel
theorem dX6_passes_12 : decode cX6_passes 12 = .ok (.aload_n 0, 1) := by decide +kernel
theorem dX6_passes_13 : decode cX6_passes 13 = .ok (.iconst 1, 1) := by decide +kernel
theorem dX6_passes_14 : decode cX6_passes 14 = .ok (.invokevirtual 67, 3) := by decide +kernel
theorem dX6_passes_17 : decode cX6_passes 17 = .ok (.iadd, 1) := by decide +kernel
theorem dX6_passes_18 : decode cX6_passes 18 = .ok (.istore_n 2, 1) := by decide +kernel
theorem dX6_passes_19 : decode cX6_passes 19 = .ok (.aload_n 0, 1) := by decide +kernel
theorem dX6_passes_20 : decode cX6_passes 20 = .ok (.getfield 7, 3) := by decide +kernel
theorem dX6_passes_23 : decode cX6_passes 23 = .ok (.iconst 2, 1) := by decide +kernel
theorem dX6_passes_24 : decode cX6_passes 24 = .ok (.dup2, 1) := by decide +kernel
theorem dX6_passes_25 : decode cX6_passes 25 = .ok (.iaload, 1) := by decide +kernel
theorem dX6_passes_26 : decode cX6_passes 26 = .ok (.iconst 1, 1) := by decide +kernel
theorem dX6_passes_27 : decode cX6_passes 27 = .ok (.iadd, 1) := by decide +kernel
theorem dX6_passes_28 : decode cX6_passes 28 = .ok (.iastore, 1) := by decide +kernel
theorem dX6_passes_29 : decode cX6_passes 29 = .ok (.iload_n 2, 1) := by decide +kernel
theorem dX6_passes_30 : decode cX6_passes 30 = .ok (.ireturn, 1) := by decide +kernel
theorem dX6_lend_0 : decode cX6_lend 0 = .ok (.aload_n 0, 1) := by decide +kernel
theorem dX6_lend_1 : decode cX6_lend 1 = .ok (.iconst 0, 1) := by decide +kernel
theorem dX6_lend_2 : decode cX6_lend 2 = .ok (.putfield 28, 3) := by decide +kernel
theorem dX6_lend_5 : decode cX6_lend 5 = .ok (.iload_n 1, 1) := by decide +kernel
theorem dX6_lend_6 : decode cX6_lend 6 = .ok (.invokestatic 70, 3) := by decide +kernel
theorem dX6_lend_9 : decode cX6_lend 9 = .ok (.ifCond .eq 10, 3) := by decide +kernel
theorem dX6_lend_12 : decode cX6_lend 12 = .ok (.iload_n 2, 1) := by decide +kernel
theorem dX6_lend_13 : decode cX6_lend 13 = .ok (.invokestatic 74, 3) := by decide +kernel
theorem dX6_lend_16 : decode cX6_lend 16 = .ok (.ifCond .ne 5, 3) := by decide +kernel
theorem dX6_lend_19 : decode cX6_lend 19 = .ok (.iconst (-1), 1) := by decide +kernel
theorem dX6_lend_20 : decode cX6_lend 20 = .ok (.ireturn, 1) := by decide +kernel
theorem dX6_lend_21 : decode cX6_lend 21 = .ok (.aload_n 0, 1) := by decide +kernel
theorem dX6_lend_22 : decode cX6_lend 22 = .ok (.iload_n 1, 1) := by decide +kernel
theorem dX6_lend_23 : decode cX6_lend 23 = .ok (.iconst 2, 1) := by decide +kernel
theorem dX6_lend_24 : decode cX6_lend 24 = .ok (.invokevirtual 77, 3) := by decide +kernel
theorem dX6_lend_27 : decode cX6_lend 27 = .ok (.istore_n 3, 1) := by decide +kernel
theorem dX6_lend_28 : decode cX6_lend 28 = .ok (.iload_n 3, 1) := by decide +kernel
theorem dX6_lend_29 : decode cX6_lend 29 = .ok (.iload_n 2, 1) := by decide +kernel
theorem dX6_lend_30 : decode cX6_lend 30 = .ok (.if_icmp .ne 6, 3) := by decide +kernel
theorem dX6_lend_33 : decode cX6_lend 33 = .ok (.bipush (-5), 2) := by decide +kernel
theorem dX6_lend_35 : decode cX6_lend 35 = .ok (.ireturn, 1) := by decide +kernel
theorem dX6_lend_36 : decode cX6_lend 36 = .ok (.aload_n 0, 1) := by decide +kernel
theorem dX6_lend_37 : decode cX6_lend 37 = .ok (.invokevirtual 80, 3) := by decide +kernel
theorem dX6_lend_40 : decode cX6_lend 40 = .ok (.aload_n 0, 1) := by decide +kernel
theorem dX6_lend_41 : decode cX6_lend 41 = .ok (.getfield 7, 3) := by decide +kernel
theorem dX6_lend_44 : decode cX6_lend 44 = .ok (.bipush 41, 2) := by decide +kernel
theorem dX6_lend_46 : decode cX6_lend 46 = .ok (.iconst 3, 1) := by decide +kernel
theorem dX6_lend_47 : decode cX6_lend 47 = .ok (.iload_n 1, 1) := by decide +kernel
theorem dX6_lend_48 : decode cX6_lend 48 = .ok (.imul, 1) := by decide +kernel
theorem dX6_lend_49 : decode cX6_lend 49 = .ok (.iadd, 1) := by decide +kernel
theorem dX6_lend_50 : decode cX6_lend 50 = .ok (.iconst 2, 1) := by decide +kernel
theorem dX6_lend_51 : decode cX6_lend 51 = .ok (.iadd, 1) := by decide +kernel
theorem dX6_lend_52 : decode cX6_lend 52 = .ok (.iload_n 2, 1) := by decide +kernel
theorem dX6_lend_53 : decode cX6_lend 53 = .ok (.iastore, 1) := by decide +kernel
theorem dX6_lend_54 : decode cX6_lend 54 = .ok (.iload_n 3, 1) := by decide +kernel
theorem dX6_lend_55 : decode cX6_lend 55 = .ok (.ireturn, 1) := by decide +kernel
theorem dX6_handOver_0 : decode cX6_handOver 0 = .ok (.aload_n 0, 1) := by decide +kernel
theorem dX6_handOver_1 : decode cX6_handOver 1 = .ok (.iconst 0, 1) := by decide +kernel
theorem dX6_handOver_2 : decode cX6_handOver 2 = .ok (.putfield 28, 3) := by decide +kernel
theorem dX6_handOver_5 : decode cX6_handOver 5 = .ok (.iload_n 1, 1) := by decide +kernel
theorem dX6_handOver_6 : decode cX6_handOver 6 = .ok (.invokestatic 70, 3) := by decide +kernel
theorem dX6_handOver_9 : decode cX6_handOver 9 = .ok (.ifCond .eq 10, 3) := by decide +kernel
theorem dX6_handOver_12 : decode cX6_handOver 12 = .ok (.iload_n 2, 1) := by decide +kernel
theorem dX6_handOver_13 : decode cX6_handOver 13 = .ok (.invokestatic 74, 3) := by decide +kernel
theorem dX6_handOver_16 : decode cX6_handOver 16 = .ok (.ifCond .ne 5, 3) := by decide +kernel
theorem dX6_handOver_19 : decode cX6_handOver 19 = .ok (.iconst (-1), 1) := by decide +kernel
theorem dX6_handOver_20 : decode cX6_handOver 20 = .ok (.ireturn, 1) := by decide +kernel
theorem dX6_handOver_21 : decode cX6_handOver 21 = .ok (.aload_n 0, 1) := by decide +kernel
theorem dX6_handOver_22 : decode cX6_handOver 22 = .ok (.iload_n 1, 1) := by decide +kernel
theorem dX6_handOver_23 : decode cX6_handOver 23 = .ok (.iconst 1, 1) := by decide +kernel
theorem dX6_handOver_24 : decode cX6_handOver 24 = .ok (.invokevirtual 77, 3) := by decide +kernel
theorem dX6_handOver_27 : decode cX6_handOver 27 = .ok (.istore_n 3, 1) := by decide +kernel
theorem dX6_handOver_28 : decode cX6_handOver 28 = .ok (.iload_n 3, 1) := by decide +kernel
theorem dX6_handOver_29 : decode cX6_handOver 29 = .ok (.iload_n 2, 1) := by decide +kernel
theorem dX6_handOver_30 : decode cX6_handOver 30 = .ok (.if_icmp .ne 6, 3) := by decide +kernel
theorem dX6_handOver_33 : decode cX6_handOver 33 = .ok (.bipush (-5), 2) := by decide +kernel
theorem dX6_handOver_35 : decode cX6_handOver 35 = .ok (.ireturn, 1) := by decide +kernel
theorem dX6_handOver_36 : decode cX6_handOver 36 = .ok (.aload_n 0, 1) := by decide +kernel
theorem dX6_handOver_37 : decode cX6_handOver 37 = .ok (.invokevirtual 80, 3) := by decide +kernel
theorem dX6_handOver_40 : decode cX6_handOver 40 = .ok (.aload_n 0, 1) := by decide +kernel
theorem dX6_handOver_41 : decode cX6_handOver 41 = .ok (.getfield 7, 3) := by decide +kernel
theorem dX6_handOver_44 : decode cX6_handOver 44 = .ok (.bipush 41, 2) := by decide +kernel
theorem dX6_handOver_46 : decode cX6_handOver 46 = .ok (.iconst 3, 1) := by decide +kernel
theorem dX6_handOver_47 : decode cX6_handOver 47 = .ok (.iload_n 1, 1) := by decide +kernel
theorem dX6_handOver_48 : decode cX6_handOver 48 = .ok (.imul, 1) := by decide +kernel
theorem dX6_handOver_49 : decode cX6_handOver 49 = .ok (.iadd, 1) := by decide +kernel
theorem dX6_handOver_50 : decode cX6_handOver 50 = .ok (.iconst 1, 1) := by decide +kernel
theorem dX6_handOver_51 : decode cX6_handOver 51 = .ok (.iadd, 1) := by decide +kernel
theorem dX6_handOver_52 : decode cX6_handOver 52 = .ok (.iload_n 2, 1) := by decide +kernel
theorem dX6_handOver_53 : decode cX6_handOver 53 = .ok (.iastore, 1) := by decide +kernel
theorem dX6_handOver_54 : decode cX6_handOver 54 = .ok (.aload_n 0, 1) := by decide +kernel
theorem dX6_handOver_55 : decode cX6_handOver 55 = .ok (.getfield 7, 3) := by decide +kernel
theorem dX6_handOver_58 : decode cX6_handOver 58 = .ok (.bipush 41, 2) := by decide +kernel
theorem dX6_handOver_60 : decode cX6_handOver 60 = .ok (.iconst 3, 1) := by decide +kernel
theorem dX6_handOver_61 : decode cX6_handOver 61 = .ok (.iload_n 1, 1) := by decide +kernel
theorem dX6_handOver_62 : decode cX6_handOver 62 = .ok (.imul, 1) := by decide +kernel
theorem dX6_handOver_63 : decode cX6_handOver 63 = .ok (.iadd, 1) := by decide +kernel
theorem dX6_handOver_64 : decode cX6_handOver 64 = .ok (.iconst 2, 1) := by decide +kernel
theorem dX6_handOver_65 : decode cX6_handOver 65 = .ok (.iadd, 1) := by decide +kernel
theorem dX6_handOver_66 : decode cX6_handOver 66 = .ok (.iload_n 2, 1) := by decide +kernel
theorem dX6_handOver_67 : decode cX6_handOver 67 = .ok (.iastore, 1) := by decide +kernel
theorem dX6_handOver_68 : decode cX6_handOver 68 = .ok (.iload_n 3, 1) := by decide +kernel
theorem dX6_handOver_69 : decode cX6_handOver 69 = .ok (.ireturn, 1) := by decide +kernel
theorem dX6_setDays_0 : decode cX6_setDays 0 = .ok (.aload_n 0, 1) := by decide +kernel
theorem dX6_setDays_1 : decode cX6_setDays 1 = .ok (.iconst 0, 1) := by decide +kernel
theorem dX6_setDays_2 : decode cX6_setDays 2 = .ok (.putfield 28, 3) := by decide +kernel
theorem dX6_setDays_5 : decode cX6_setDays 5 = .ok (.iload_n 1, 1) := by decide +kernel
theorem dX6_setDays_6 : decode cX6_setDays 6 = .ok (.invokestatic 74, 3) := by decide +kernel
theorem dX6_setDays_9 : decode cX6_setDays 9 = .ok (.ifCond .ne 5, 3) := by decide +kernel
theorem dX6_setDays_12 : decode cX6_setDays 12 = .ok (.iconst (-1), 1) := by decide +kernel
theorem dX6_setDays_13 : decode cX6_setDays 13 = .ok (.ireturn, 1) := by decide +kernel
theorem dX6_setDays_14 : decode cX6_setDays 14 = .ok (.iload_n 2, 1) := by decide +kernel
theorem dX6_setDays_15 : decode cX6_setDays 15 = .ok (.iconst 0, 1) := by decide +kernel
theorem dX6_setDays_16 : decode cX6_setDays 16 = .ok (.bipush 20, 2) := by decide +kernel
theorem dX6_setDays_18 : decode cX6_setDays 18 = .ok (.invokestatic 32, 3) := by decide +kernel
theorem dX6_setDays_21 : decode cX6_setDays 21 = .ok (.ifCond .ne 6, 3) := by decide +kernel
theorem dX6_setDays_24 : decode cX6_setDays 24 = .ok (.bipush (-2), 2) := by decide +kernel
theorem dX6_setDays_26 : decode cX6_setDays 26 = .ok (.ireturn, 1) := by decide +kernel
theorem dX6_setDays_27 : decode cX6_setDays 27 = .ok (.aload_n 0, 1) := by decide +kernel
theorem dX6_setDays_28 : decode cX6_setDays 28 = .ok (.iload_n 1, 1) := by decide +kernel
theorem dX6_setDays_29 : decode cX6_setDays 29 = .ok (.iconst 0, 1) := by decide +kernel
theorem dX6_setDays_30 : decode cX6_setDays 30 = .ok (.invokevirtual 83, 3) := by decide +kernel
theorem dX6_setDays_33 : decode cX6_setDays 33 = .ok (.istore_n 3, 1) := by decide +kernel
theorem dX6_setDays_34 : decode cX6_setDays 34 = .ok (.iload_n 3, 1) := by decide +kernel
theorem dX6_setDays_35 : decode cX6_setDays 35 = .ok (.iload_n 2, 1) := by decide +kernel
theorem dX6_setDays_36 : decode cX6_setDays 36 = .ok (.if_icmp .ne 6, 3) := by decide +kernel
theorem dX6_setDays_39 : decode cX6_setDays 39 = .ok (.bipush (-5), 2) := by decide +kernel
theorem dX6_setDays_41 : decode cX6_setDays 41 = .ok (.ireturn, 1) := by decide +kernel
theorem dX6_setDays_42 : decode cX6_setDays 42 = .ok (.aload_n 0, 1) := by decide +kernel
theorem dX6_setDays_43 : decode cX6_setDays 43 = .ok (.invokevirtual 80, 3) := by decide +kernel
theorem dX6_setDays_46 : decode cX6_setDays 46 = .ok (.aload_n 0, 1) := by decide +kernel
theorem dX6_setDays_47 : decode cX6_setDays 47 = .ok (.iload_n 1, 1) := by decide +kernel
theorem dX6_setDays_48 : decode cX6_setDays 48 = .ok (.iconst 0, 1) := by decide +kernel
theorem dX6_setDays_49 : decode cX6_setDays 49 = .ok (.iload_n 2, 1) := by decide +kernel
theorem dX6_setDays_50 : decode cX6_setDays 50 = .ok (.iload_n 3, 1) := by decide +kernel
theorem dX6_setDays_51 : decode cX6_setDays 51 = .ok (.isub, 1) := by decide +kernel
theorem dX6_setDays_52 : decode cX6_setDays 52 = .ok (.invokevirtual 57, 3) := by decide +kernel
theorem dX6_setDays_55 : decode cX6_setDays 55 = .ok (.iload_n 3, 1) := by decide +kernel
theorem dX6_setDays_56 : decode cX6_setDays 56 = .ok (.ireturn, 1) := by decide +kernel
theorem dX6_set_0 : decode cX6_set 0 = .ok (.aload_n 0, 1) := by decide +kernel
theorem dX6_set_1 : decode cX6_set 1 = .ok (.iconst 0, 1) := by decide +kernel
theorem dX6_set_2 : decode cX6_set 2 = .ok (.putfield 28, 3) := by decide +kernel
theorem dX6_set_5 : decode cX6_set 5 = .ok (.iload_n 1, 1) := by decide +kernel
theorem dX6_set_6 : decode cX6_set 6 = .ok (.ifCond .ne 13, 3) := by decide +kernel
theorem dX6_set_9 : decode cX6_set 9 = .ok (.iload_n 2, 1) := by decide +kernel
theorem dX6_set_10 : decode cX6_set 10 = .ok (.iconst 1, 1) := by decide +kernel
theorem dX6_set_11 : decode cX6_set 11 = .ok (.bipush 6, 2) := by decide +kernel
theorem dX6_set_13 : decode cX6_set 13 = .ok (.invokestatic 32, 3) := by decide +kernel
theorem dX6_set_16 : decode cX6_set 16 = .ok (.goto 22, 3) := by decide +kernel
theorem dX6_set_19 : decode cX6_set 19 = .ok (.iload_n 1, 1) := by decide +kernel
theorem dX6_set_20 : decode cX6_set 20 = .ok (.iconst 1, 1) := by decide +kernel
theorem dX6_set_21 : decode cX6_set 21 = .ok (.if_icmp .ne 16, 3) := by decide +kernel
theorem dX6_set_24 : decode cX6_set 24 = .ok (.iload_n 2, 1) := by decide +kernel
theorem dX6_set_25 : decode cX6_set 25 = .ok (.iconst 0, 1) := by decide +kernel
theorem dX6_set_26 : decode cX6_set 26 = .ok (.iconst 1, 1) := by decide +kernel
theorem dX6_set_27 : decode cX6_set 27 = .ok (.invokestatic 32, 3) := by decide +kernel
theorem dX6_set_30 : decode cX6_set 30 = .ok (.ifCond .eq 7, 3) := by decide +kernel
theorem dX6_set_33 : decode cX6_set 33 = .ok (.iconst 1, 1) := by decide +kernel
theorem dX6_set_34 : decode cX6_set 34 = .ok (.goto 4, 3) := by decide +kernel
theorem dX6_set_37 : decode cX6_set 37 = .ok (.iconst 0, 1) := by decide +kernel
theorem dX6_set_38 : decode cX6_set 38 = .ok (.istore_n 3, 1) := by decide +kernel
theorem dX6_set_39 : decode cX6_set 39 = .ok (.iload_n 3, 1) := by decide +kernel
theorem dX6_set_40 : decode cX6_set 40 = .ok (.ifCond .ne 6, 3) := by decide +kernel
theorem dX6_set_43 : decode cX6_set 43 = .ok (.bipush (-2), 2) := by decide +kernel
theorem dX6_set_45 : decode cX6_set 45 = .ok (.ireturn, 1) := by decide +kernel
theorem dX6_set_46 : decode cX6_set 46 = .ok (.aload_n 0, 1) := by decide +kernel
theorem dX6_set_47 : decode cX6_set 47 = .ok (.getfield 7, 3) := by decide +kernel
theorem dX6_set_50 : decode cX6_set 50 = .ok (.iload_n 1, 1) := by decide +kernel
theorem dX6_set_51 : decode cX6_set 51 = .ok (.iaload, 1) := by decide +kernel
theorem dX6_set_52 : decode cX6_set 52 = .ok (.istore 4, 2) := by decide +kernel
theorem dX6_set_54 : decode cX6_set 54 = .ok (.iload 4, 2) := by decide +kernel
theorem dX6_set_56 : decode cX6_set 56 = .ok (.iload_n 2, 1) := by decide +kernel
theorem dX6_set_57 : decode cX6_set 57 = .ok (.if_icmp .ne 6, 3) := by decide +kernel
theorem dX6_set_60 : decode cX6_set 60 = .ok (.bipush (-5), 2) := by decide +kernel
theorem dX6_set_62 : decode cX6_set 62 = .ok (.ireturn, 1) := by decide +kernel
theorem dX6_set_63 : decode cX6_set 63 = .ok (.aload_n 0, 1) := by decide +kernel
theorem dX6_set_64 : decode cX6_set 64 = .ok (.invokevirtual 80, 3) := by decide +kernel
theorem dX6_set_67 : decode cX6_set 67 = .ok (.aload_n 0, 1) := by decide +kernel
theorem dX6_set_68 : decode cX6_set 68 = .ok (.getfield 7, 3) := by decide +kernel
theorem dX6_set_71 : decode cX6_set 71 = .ok (.iload_n 1, 1) := by decide +kernel
theorem dX6_set_72 : decode cX6_set 72 = .ok (.iload_n 2, 1) := by decide +kernel
theorem dX6_set_73 : decode cX6_set 73 = .ok (.iastore, 1) := by decide +kernel
theorem dX6_set_74 : decode cX6_set 74 = .ok (.iload 4, 2) := by decide +kernel
theorem dX6_set_76 : decode cX6_set 76 = .ok (.ireturn, 1) := by decide +kernel
theorem dX6_hasRight_0 : decode cX6_hasRight 0 = .ok (.iload_n 2, 1) := by decide +kernel
theorem dX6_hasRight_1 : decode cX6_hasRight 1 = .ok (.invokestatic 70, 3) := by decide +kernel
theorem dX6_hasRight_4 : decode cX6_hasRight 4 = .ok (.ifCond .eq 17, 3) := by decide +kernel
theorem dX6_hasRight_7 : decode cX6_hasRight 7 = .ok (.aload_n 0, 1) := by decide +kernel
theorem dX6_hasRight_8 : decode cX6_hasRight 8 = .ok (.iload_n 2, 1) := by decide +kernel
theorem dX6_hasRight_9 : decode cX6_hasRight 9 = .ok (.iconst 2, 1) := by decide +kernel
theorem dX6_hasRight_10 : decode cX6_hasRight 10 = .ok (.invokevirtual 77, 3) := by decide +kernel
theorem dX6_hasRight_13 : decode cX6_hasRight 13 = .ok (.iload_n 1, 1) := by decide +kernel
theorem dX6_hasRight_14 : decode cX6_hasRight 14 = .ok (.if_icmp .ne 7, 3) := by decide +kernel
theorem dX6_hasRight_17 : decode cX6_hasRight 17 = .ok (.iconst 1, 1) := by decide +kernel
theorem dX6_hasRight_18 : decode cX6_hasRight 18 = .ok (.goto 4, 3) := by decide +kernel
theorem dX6_hasRight_21 : decode cX6_hasRight 21 = .ok (.iconst 0, 1) := by decide +kernel
theorem dX6_hasRight_22 : decode cX6_hasRight 22 = .ok (.ireturn, 1) := by decide +kernel
theorem dX6_reason_0 : decode cX6_reason 0 = .ok (.aload_n 0, 1) := by decide +kernel
theorem dX6_reason_1 : decode cX6_reason 1 = .ok (.iload_n 1, 1) := by decide +kernel
theorem dX6_reason_2 : decode cX6_reason 2 = .ok (.iconst 1, 1) := by decide +kernel
theorem dX6_reason_3 : decode cX6_reason 3 = .ok (.invokevirtual 83, 3) := by decide +kernel
theorem dX6_reason_6 : decode cX6_reason 6 = .ok (.aload_n 0, 1) := by decide +kernel
theorem dX6_reason_7 : decode cX6_reason 7 = .ok (.iload_n 1, 1) := by decide +kernel
theorem dX6_reason_8 : decode cX6_reason 8 = .ok (.iconst 0, 1) := by decide +kernel
theorem dX6_reason_9 : decode cX6_reason 9 = .ok (.invokevirtual 83, 3) := by decide +kernel
theorem dX6_reason_12 : decode cX6_reason 12 = .ok (.if_icmp .lt 5, 3) := by decide +kernel
theorem dX6_reason_15 : decode cX6_reason 15 = .ok (.iconst 1, 1) := by decide +kernel
theorem dX6_reason_16 : decode cX6_reason 16 = .ok (.ireturn, 1) := by decide +kernel
theorem dX6_reason_17 : decode cX6_reason 17 = .ok (.aload_n 0, 1) := by decide +kernel
theorem dX6_reason_18 : decode cX6_reason 18 = .ok (.iload_n 2, 1) := by decide +kernel
theorem dX6_reason_19 : decode cX6_reason 19 = .ok (.iconst 0, 1) := by decide +kernel
theorem dX6_reason_20 : decode cX6_reason 20 = .ok (.invokevirtual 77, 3) := by decide +kernel
theorem dX6_reason_23 : decode cX6_reason 23 = .ok (.ifCond .eq 14, 3) := by decide +kernel
theorem dX6_reason_26 : decode cX6_reason 26 = .ok (.aload_n 0, 1) := by decide +kernel
theorem dX6_reason_27 : decode cX6_reason 27 = .ok (.getfield 7, 3) := by decide +kernel
theorem dX6_reason_30 : decode cX6_reason 30 = .ok (.iconst 4, 1) := by decide +kernel
theorem dX6_reason_31 : decode cX6_reason 31 = .ok (.iaload, 1) := by decide +kernel
theorem dX6_reason_32 : decode cX6_reason 32 = .ok (.bipush 60, 2) := by decide +kernel
theorem dX6_reason_34 : decode cX6_reason 34 = .ok (.if_icmp .ne 18, 3) := by decide +kernel
theorem dX6_reason_37 : decode cX6_reason 37 = .ok (.aload_n 0, 1) := by decide +kernel
theorem dX6_reason_38 : decode cX6_reason 38 = .ok (.iload_n 2, 1) := by decide +kernel
theorem dX6_reason_39 : decode cX6_reason 39 = .ok (.iconst 0, 1) := by decide +kernel
theorem dX6_reason_40 : decode cX6_reason 40 = .ok (.invokevirtual 77, 3) := by decide +kernel
theorem dX6_reason_43 : decode cX6_reason 43 = .ok (.ifCond .ne 7, 3) := by decide +kernel
theorem dX6_reason_46 : decode cX6_reason 46 = .ok (.iconst 2, 1) := by decide +kernel
theorem dX6_reason_47 : decode cX6_reason 47 = .ok (.goto 4, 3) := by decide +kernel
theorem dX6_reason_50 : decode cX6_reason 50 = .ok (.iconst 3, 1) := by decide +kernel
theorem dX6_reason_51 : decode cX6_reason 51 = .ok (.ireturn, 1) := by decide +kernel
theorem dX6_reason_52 : decode cX6_reason 52 = .ok (.aload_n 0, 1) := by decide +kernel
theorem dX6_reason_53 : decode cX6_reason 53 = .ok (.iload_n 1, 1) := by decide +kernel
theorem dX6_reason_54 : decode cX6_reason 54 = .ok (.iload_n 2, 1) := by decide +kernel
theorem dX6_reason_55 : decode cX6_reason 55 = .ok (.invokevirtual 86, 3) := by decide +kernel
theorem dX6_reason_58 : decode cX6_reason 58 = .ok (.ifCond .ne 25, 3) := by decide +kernel
theorem dX6_reason_61 : decode cX6_reason 61 = .ok (.aload_n 0, 1) := by decide +kernel
theorem dX6_reason_62 : decode cX6_reason 62 = .ok (.iload_n 1, 1) := by decide +kernel
theorem dX6_reason_63 : decode cX6_reason 63 = .ok (.iload_n 2, 1) := by decide +kernel
theorem dX6_reason_64 : decode cX6_reason 64 = .ok (.iconst 1, 1) := by decide +kernel
theorem dX6_reason_65 : decode cX6_reason 65 = .ok (.isub, 1) := by decide +kernel
theorem dX6_reason_66 : decode cX6_reason 66 = .ok (.invokevirtual 86, 3) := by decide +kernel
theorem dX6_reason_69 : decode cX6_reason 69 = .ok (.ifCond .ne 14, 3) := by decide +kernel
theorem dX6_reason_72 : decode cX6_reason 72 = .ok (.aload_n 0, 1) := by decide +kernel
theorem dX6_reason_73 : decode cX6_reason 73 = .ok (.iload_n 1, 1) := by decide +kernel
theorem dX6_reason_74 : decode cX6_reason 74 = .ok (.iload_n 2, 1) := by decide +kernel
theorem dX6_reason_75 : decode cX6_reason 75 = .ok (.iconst 1, 1) := by decide +kernel
theorem dX6_reason_76 : decode cX6_reason 76 = .ok (.iadd, 1) := by decide +kernel
theorem dX6_reason_77 : decode cX6_reason 77 = .ok (.invokevirtual 86, 3) := by decide +kernel
theorem dX6_reason_80 : decode cX6_reason 80 = .ok (.ifCond .eq 7, 3) := by decide +kernel
theorem dX6_reason_83 : decode cX6_reason 83 = .ok (.iconst 0, 1) := by decide +kernel
theorem dX6_reason_84 : decode cX6_reason 84 = .ok (.goto 4, 3) := by decide +kernel
theorem dX6_reason_87 : decode cX6_reason 87 = .ok (.iconst 4, 1) := by decide +kernel
theorem dX6_reason_88 : decode cX6_reason 88 = .ok (.ireturn, 1) := by decide +kernel
theorem dX6_opensDispute_0 : decode cX6_opensDispute 0 = .ok (.sipush 461, 3) := by decide +kernel
theorem dX6_opensDispute_3 : decode cX6_opensDispute 3 = .ok (.iconst 4, 1) := by decide +kernel
theorem dX6_opensDispute_4 : decode cX6_opensDispute 4 = .ok (.aload_n 0, 1) := by decide +kernel
theorem dX6_opensDispute_5 : decode cX6_opensDispute 5 = .ok (.getfield 7, 3) := by decide +kernel
theorem dX6_opensDispute_8 : decode cX6_opensDispute 8 = .ok (.bipush 7, 2) := by decide +kernel
theorem dX6_opensDispute_10 : decode cX6_opensDispute 10 = .ok (.iaload, 1) := by decide +kernel
theorem dX6_opensDispute_11 : decode cX6_opensDispute 11 = .ok (.imul, 1) := by decide +kernel
theorem dX6_opensDispute_12 : decode cX6_opensDispute 12 = .ok (.iadd, 1) := by decide +kernel
theorem dX6_opensDispute_13 : decode cX6_opensDispute 13 = .ok (.istore 4, 2) := by decide +kernel
theorem dX6_opensDispute_15 : decode cX6_opensDispute 15 = .ok (.aload_n 0, 1) := by decide +kernel
theorem dX6_opensDispute_16 : decode cX6_opensDispute 16 = .ok (.getfield 7, 3) := by decide +kernel
theorem dX6_opensDispute_19 : decode cX6_opensDispute 19 = .ok (.iload 4, 2) := by decide +kernel
theorem dX6_opensDispute_21 : decode cX6_opensDispute 21 = .ok (.iconst 0, 1) := by decide +kernel
theorem dX6_opensDispute_22 : decode cX6_opensDispute 22 = .ok (.iadd, 1) := by decide +kernel
theorem dX6_opensDispute_23 : decode cX6_opensDispute 23 = .ok (.iload_n 1, 1) := by decide +kernel
theorem dX6_opensDispute_24 : decode cX6_opensDispute 24 = .ok (.iastore, 1) := by decide +kernel
theorem dX6_opensDispute_25 : decode cX6_opensDispute 25 = .ok (.aload_n 0, 1) := by decide +kernel
theorem dX6_opensDispute_26 : decode cX6_opensDispute 26 = .ok (.getfield 7, 3) := by decide +kernel
theorem dX6_opensDispute_29 : decode cX6_opensDispute 29 = .ok (.iload 4, 2) := by decide +kernel
theorem dX6_opensDispute_31 : decode cX6_opensDispute 31 = .ok (.iconst 1, 1) := by decide +kernel
theorem dX6_opensDispute_32 : decode cX6_opensDispute 32 = .ok (.iadd, 1) := by decide +kernel
theorem dX6_opensDispute_33 : decode cX6_opensDispute 33 = .ok (.aload_n 0, 1) := by decide +kernel
theorem dX6_opensDispute_34 : decode cX6_opensDispute 34 = .ok (.iload_n 2, 1) := by decide +kernel
theorem dX6_opensDispute_35 : decode cX6_opensDispute 35 = .ok (.iconst 2, 1) := by decide +kernel
theorem dX6_opensDispute_36 : decode cX6_opensDispute 36 = .ok (.invokevirtual 77, 3) := by decide +kernel
theorem dX6_opensDispute_39 : decode cX6_opensDispute 39 = .ok (.iastore, 1) := by decide +kernel
theorem dX6_opensDispute_40 : decode cX6_opensDispute 40 = .ok (.aload_n 0, 1) := by decide +kernel
theorem dX6_opensDispute_41 : decode cX6_opensDispute 41 = .ok (.getfield 7, 3) := by decide +kernel
theorem dX6_opensDispute_44 : decode cX6_opensDispute 44 = .ok (.iload 4, 2) := by decide +kernel
theorem dX6_opensDispute_46 : decode cX6_opensDispute 46 = .ok (.iconst 2, 1) := by decide +kernel
theorem dX6_opensDispute_47 : decode cX6_opensDispute 47 = .ok (.iadd, 1) := by decide +kernel
theorem dX6_opensDispute_48 : decode cX6_opensDispute 48 = .ok (.iload_n 3, 1) := by decide +kernel
theorem dX6_opensDispute_49 : decode cX6_opensDispute 49 = .ok (.iastore, 1) := by decide +kernel
theorem dX6_opensDispute_50 : decode cX6_opensDispute 50 = .ok (.aload_n 0, 1) := by decide +kernel
theorem dX6_opensDispute_51 : decode cX6_opensDispute 51 = .ok (.getfield 7, 3) := by decide +kernel
theorem dX6_opensDispute_54 : decode cX6_opensDispute 54 = .ok (.iload 4, 2) := by decide +kernel
theorem dX6_opensDispute_56 : decode cX6_opensDispute 56 = .ok (.iconst 3, 1) := by decide +kernel
theorem dX6_opensDispute_57 : decode cX6_opensDispute 57 = .ok (.iadd, 1) := by decide +kernel
theorem dX6_opensDispute_58 : decode cX6_opensDispute 58 = .ok (.iload_n 2, 1) := by decide +kernel
theorem dX6_opensDispute_59 : decode cX6_opensDispute 59 = .ok (.iastore, 1) := by decide +kernel
theorem dX6_opensDispute_60 : decode cX6_opensDispute 60 = .ok (.aload_n 0, 1) := by decide +kernel
theorem dX6_opensDispute_61 : decode cX6_opensDispute 61 = .ok (.getfield 7, 3) := by decide +kernel
theorem dX6_opensDispute_64 : decode cX6_opensDispute 64 = .ok (.bipush 7, 2) := by decide +kernel
theorem dX6_opensDispute_66 : decode cX6_opensDispute 66 = .ok (.dup2, 1) := by decide +kernel
theorem dX6_opensDispute_67 : decode cX6_opensDispute 67 = .ok (.iaload, 1) := by decide +kernel
theorem dX6_opensDispute_68 : decode cX6_opensDispute 68 = .ok (.iconst 1, 1) := by decide +kernel
theorem dX6_opensDispute_69 : decode cX6_opensDispute 69 = .ok (.iadd, 1) := by decide +kernel
theorem dX6_opensDispute_70 : decode cX6_opensDispute 70 = .ok (.iastore, 1) := by decide +kernel
theorem dX6_opensDispute_71 : decode cX6_opensDispute 71 = .ok (.aload_n 0, 1) := by decide +kernel
theorem dX6_opensDispute_72 : decode cX6_opensDispute 72 = .ok (.getfield 7, 3) := by decide +kernel
theorem dX6_opensDispute_75 : decode cX6_opensDispute 75 = .ok (.bipush 8, 2) := by decide +kernel
theorem dX6_opensDispute_77 : decode cX6_opensDispute 77 = .ok (.dup2, 1) := by decide +kernel
theorem dX6_opensDispute_78 : decode cX6_opensDispute 78 = .ok (.iaload, 1) := by decide +kernel
theorem dX6_opensDispute_79 : decode cX6_opensDispute 79 = .ok (.iconst 1, 1) := by decide +kernel
theorem dX6_opensDispute_80 : decode cX6_opensDispute 80 = .ok (.iadd, 1) := by decide +kernel
theorem dX6_opensDispute_81 : decode cX6_opensDispute 81 = .ok (.iastore, 1) := by decide +kernel
theorem dX6_opensDispute_82 : decode cX6_opensDispute 82 = .ok (.return_, 1) := by decide +kernel
theorem dX6_cut_0 : decode cX6_cut 0 = .ok (.aload_n 0, 1) := by decide +kernel
theorem dX6_cut_1 : decode cX6_cut 1 = .ok (.iconst 0, 1) := by decide +kernel
theorem dX6_cut_2 : decode cX6_cut 2 = .ok (.putfield 28, 3) := by decide +kernel
theorem dX6_cut_5 : decode cX6_cut 5 = .ok (.iload_n 1, 1) := by decide +kernel
theorem dX6_cut_6 : decode cX6_cut 6 = .ok (.invokestatic 74, 3) := by decide +kernel
theorem dX6_cut_9 : decode cX6_cut 9 = .ok (.ifCond .eq 10, 3) := by decide +kernel
theorem dX6_cut_12 : decode cX6_cut 12 = .ok (.iload_n 2, 1) := by decide +kernel
theorem dX6_cut_13 : decode cX6_cut 13 = .ok (.invokestatic 70, 3) := by decide +kernel
theorem dX6_cut_16 : decode cX6_cut 16 = .ok (.ifCond .ne 5, 3) := by decide +kernel
theorem dX6_cut_19 : decode cX6_cut 19 = .ok (.iconst (-1), 1) := by decide +kernel
theorem dX6_cut_20 : decode cX6_cut 20 = .ok (.ireturn, 1) := by decide +kernel
theorem dX6_cut_21 : decode cX6_cut 21 = .ok (.aload_n 0, 1) := by decide +kernel
theorem dX6_cut_22 : decode cX6_cut 22 = .ok (.iload_n 1, 1) := by decide +kernel
theorem dX6_cut_23 : decode cX6_cut 23 = .ok (.iload_n 2, 1) := by decide +kernel
theorem dX6_cut_24 : decode cX6_cut 24 = .ok (.invokevirtual 90, 3) := by decide +kernel
theorem dX6_cut_27 : decode cX6_cut 27 = .ok (.ifCond .eq 6, 3) := by decide +kernel
theorem dX6_cut_30 : decode cX6_cut 30 = .ok (.bipush (-4), 2) := by decide +kernel
theorem dX6_cut_32 : decode cX6_cut 32 = .ok (.ireturn, 1) := by decide +kernel
theorem dX6_cut_33 : decode cX6_cut 33 = .ok (.aload_n 0, 1) := by decide +kernel
theorem dX6_cut_34 : decode cX6_cut 34 = .ok (.invokevirtual 80, 3) := by decide +kernel
theorem dX6_cut_37 : decode cX6_cut 37 = .ok (.aload_n 0, 1) := by decide +kernel
theorem dX6_cut_38 : decode cX6_cut 38 = .ok (.getfield 7, 3) := by decide +kernel
theorem dX6_cut_41 : decode cX6_cut 41 = .ok (.iconst 4, 1) := by decide +kernel
theorem dX6_cut_42 : decode cX6_cut 42 = .ok (.iaload, 1) := by decide +kernel
theorem dX6_cut_43 : decode cX6_cut 43 = .ok (.istore_n 3, 1) := by decide +kernel
theorem dX6_cut_44 : decode cX6_cut 44 = .ok (.aload_n 0, 1) := by decide +kernel
theorem dX6_cut_45 : decode cX6_cut 45 = .ok (.getfield 7, 3) := by decide +kernel
theorem dX6_cut_48 : decode cX6_cut 48 = .ok (.iconst 5, 1) := by decide +kernel
theorem dX6_cut_49 : decode cX6_cut 49 = .ok (.iaload, 1) := by decide +kernel
theorem dX6_cut_50 : decode cX6_cut 50 = .ok (.istore 4, 2) := by decide +kernel
theorem dX6_cut_52 : decode cX6_cut 52 = .ok (.aload_n 0, 1) := by decide +kernel
theorem dX6_cut_53 : decode cX6_cut 53 = .ok (.iload_n 1, 1) := by decide +kernel
theorem dX6_cut_54 : decode cX6_cut 54 = .ok (.iconst 1, 1) := by decide +kernel
theorem dX6_cut_55 : decode cX6_cut 55 = .ok (.iconst 1, 1) := by decide +kernel
theorem dX6_cut_56 : decode cX6_cut 56 = .ok (.invokevirtual 57, 3) := by decide +kernel
theorem dX6_cut_59 : decode cX6_cut 59 = .ok (.aload_n 0, 1) := by decide +kernel
theorem dX6_cut_60 : decode cX6_cut 60 = .ok (.getfield 7, 3) := by decide +kernel
theorem dX6_cut_63 : decode cX6_cut 63 = .ok (.bipush 41, 2) := by decide +kernel
theorem dX6_cut_65 : decode cX6_cut 65 = .ok (.iconst 3, 1) := by decide +kernel
theorem dX6_cut_66 : decode cX6_cut 66 = .ok (.iload_n 2, 1) := by decide +kernel
theorem dX6_cut_67 : decode cX6_cut 67 = .ok (.imul, 1) := by decide +kernel
theorem dX6_cut_68 : decode cX6_cut 68 = .ok (.iadd, 1) := by decide +kernel
theorem dX6_cut_69 : decode cX6_cut 69 = .ok (.iconst 0, 1) := by decide +kernel
theorem dX6_cut_70 : decode cX6_cut 70 = .ok (.iadd, 1) := by decide +kernel
theorem dX6_cut_71 : decode cX6_cut 71 = .ok (.dup2, 1) := by decide +kernel
theorem dX6_cut_72 : decode cX6_cut 72 = .ok (.iaload, 1) := by decide +kernel
theorem dX6_cut_73 : decode cX6_cut 73 = .ok (.iconst 1, 1) := by decide +kernel
theorem dX6_cut_74 : decode cX6_cut 74 = .ok (.isub, 1) := by decide +kernel
theorem dX6_cut_75 : decode cX6_cut 75 = .ok (.iastore, 1) := by decide +kernel
theorem dX6_cut_76 : decode cX6_cut 76 = .ok (.aload_n 0, 1) := by decide +kernel
theorem dX6_cut_77 : decode cX6_cut 77 = .ok (.iload_n 3, 1) := by decide +kernel
theorem dX6_cut_78 : decode cX6_cut 78 = .ok (.iconst 0, 1) := by decide +kernel
theorem dX6_cut_79 : decode cX6_cut 79 = .ok (.iload 4, 2) := by decide +kernel
theorem dX6_cut_81 : decode cX6_cut 81 = .ok (.invokevirtual 46, 3) := by decide +kernel
theorem dX6_cut_84 : decode cX6_cut 84 = .ok (.aload_n 0, 1) := by decide +kernel
theorem dX6_cut_85 : decode cX6_cut 85 = .ok (.iload_n 3, 1) := by decide +kernel
theorem dX6_cut_86 : decode cX6_cut 86 = .ok (.iconst 1, 1) := by decide +kernel
theorem dX6_cut_87 : decode cX6_cut 87 = .ok (.iload_n 1, 1) := by decide +kernel
theorem dX6_cut_88 : decode cX6_cut 88 = .ok (.invokevirtual 46, 3) := by decide +kernel
theorem dX6_cut_91 : decode cX6_cut 91 = .ok (.aload_n 0, 1) := by decide +kernel
theorem dX6_cut_92 : decode cX6_cut 92 = .ok (.iload_n 3, 1) := by decide +kernel
theorem dX6_cut_93 : decode cX6_cut 93 = .ok (.iconst 2, 1) := by decide +kernel
theorem dX6_cut_94 : decode cX6_cut 94 = .ok (.iload_n 2, 1) := by decide +kernel
theorem dX6_cut_95 : decode cX6_cut 95 = .ok (.invokevirtual 46, 3) := by decide +kernel
theorem dX6_cut_98 : decode cX6_cut 98 = .ok (.aload_n 0, 1) := by decide +kernel
theorem dX6_cut_99 : decode cX6_cut 99 = .ok (.iload_n 3, 1) := by decide +kernel
theorem dX6_cut_100 : decode cX6_cut 100 = .ok (.iconst 3, 1) := by decide +kernel
theorem dX6_cut_101 : decode cX6_cut 101 = .ok (.bipush 50, 2) := by decide +kernel
theorem dX6_cut_103 : decode cX6_cut 103 = .ok (.invokevirtual 46, 3) := by decide +kernel
theorem dX6_cut_106 : decode cX6_cut 106 = .ok (.aload_n 0, 1) := by decide +kernel
theorem dX6_cut_107 : decode cX6_cut 107 = .ok (.iload_n 3, 1) := by decide +kernel
theorem dX6_cut_108 : decode cX6_cut 108 = .ok (.iconst 4, 1) := by decide +kernel
theorem dX6_cut_109 : decode cX6_cut 109 = .ok (.iconst 0, 1) := by decide +kernel
theorem dX6_cut_110 : decode cX6_cut 110 = .ok (.invokevirtual 46, 3) := by decide +kernel
theorem dX6_cut_113 : decode cX6_cut 113 = .ok (.aload_n 0, 1) := by decide +kernel
theorem dX6_cut_114 : decode cX6_cut 114 = .ok (.iload_n 3, 1) := by decide +kernel
theorem dX6_cut_115 : decode cX6_cut 115 = .ok (.iconst 5, 1) := by decide +kernel
theorem dX6_cut_116 : decode cX6_cut 116 = .ok (.iconst 0, 1) := by decide +kernel
theorem dX6_cut_117 : decode cX6_cut 117 = .ok (.invokevirtual 46, 3) := by decide +kernel
theorem dX6_cut_120 : decode cX6_cut 120 = .ok (.aload_n 0, 1) := by decide +kernel
theorem dX6_cut_121 : decode cX6_cut 121 = .ok (.getfield 7, 3) := by decide +kernel
theorem dX6_cut_124 : decode cX6_cut 124 = .ok (.iconst 4, 1) := by decide +kernel
theorem dX6_cut_125 : decode cX6_cut 125 = .ok (.dup2, 1) := by decide +kernel
theorem dX6_cut_126 : decode cX6_cut 126 = .ok (.iaload, 1) := by decide +kernel
theorem dX6_cut_127 : decode cX6_cut 127 = .ok (.iconst 1, 1) := by decide +kernel
theorem dX6_cut_128 : decode cX6_cut 128 = .ok (.iadd, 1) := by decide +kernel
theorem dX6_cut_129 : decode cX6_cut 129 = .ok (.iastore, 1) := by decide +kernel
theorem dX6_cut_130 : decode cX6_cut 130 = .ok (.aload_n 0, 1) := by decide +kernel
theorem dX6_cut_131 : decode cX6_cut 131 = .ok (.getfield 7, 3) := by decide +kernel
theorem dX6_cut_134 : decode cX6_cut 134 = .ok (.iconst 5, 1) := by decide +kernel
theorem dX6_cut_135 : decode cX6_cut 135 = .ok (.dup2, 1) := by decide +kernel
theorem dX6_cut_136 : decode cX6_cut 136 = .ok (.iaload, 1) := by decide +kernel
theorem dX6_cut_137 : decode cX6_cut 137 = .ok (.iconst 1, 1) := by decide +kernel
theorem dX6_cut_138 : decode cX6_cut 138 = .ok (.iadd, 1) := by decide +kernel
theorem dX6_cut_139 : decode cX6_cut 139 = .ok (.iastore, 1) := by decide +kernel
theorem dX6_cut_140 : decode cX6_cut 140 = .ok (.aload_n 0, 1) := by decide +kernel
theorem dX6_cut_141 : decode cX6_cut 141 = .ok (.iload_n 1, 1) := by decide +kernel
theorem dX6_cut_142 : decode cX6_cut 142 = .ok (.iload_n 2, 1) := by decide +kernel
theorem dX6_cut_143 : decode cX6_cut 143 = .ok (.invokevirtual 86, 3) := by decide +kernel
theorem dX6_cut_146 : decode cX6_cut 146 = .ok (.ifCond .ne 11, 3) := by decide +kernel
theorem dX6_cut_149 : decode cX6_cut 149 = .ok (.aload_n 0, 1) := by decide +kernel
theorem dX6_cut_150 : decode cX6_cut 150 = .ok (.iload_n 1, 1) := by decide +kernel
theorem dX6_cut_151 : decode cX6_cut 151 = .ok (.iload_n 2, 1) := by decide +kernel
theorem dX6_cut_152 : decode cX6_cut 152 = .ok (.iload 4, 2) := by decide +kernel
theorem dX6_cut_154 : decode cX6_cut 154 = .ok (.invokevirtual 93, 3) := by decide +kernel
theorem dX6_cut_157 : decode cX6_cut 157 = .ok (.iload 4, 2) := by decide +kernel
theorem dX6_cut_159 : decode cX6_cut 159 = .ok (.ireturn, 1) := by decide +kernel
theorem dX6_turn_0 : decode cX6_turn 0 = .ok (.aload_n 0, 1) := by decide +kernel
theorem dX6_turn_1 : decode cX6_turn 1 = .ok (.iconst 0, 1) := by decide +kernel
theorem dX6_turn_2 : decode cX6_turn 2 = .ok (.putfield 28, 3) := by decide +kernel
theorem dX6_turn_5 : decode cX6_turn 5 = .ok (.aload_n 0, 1) := by decide +kernel
theorem dX6_turn_6 : decode cX6_turn 6 = .ok (.iload_n 1, 1) := by decide +kernel
theorem dX6_turn_7 : decode cX6_turn 7 = .ok (.invokevirtual 96, 3) := by decide +kernel
theorem dX6_turn_10 : decode cX6_turn 10 = .ok (.istore_n 2, 1) := by decide +kernel
theorem dX6_turn_11 : decode cX6_turn 11 = .ok (.iload_n 2, 1) := by decide +kernel
theorem dX6_turn_12 : decode cX6_turn 12 = .ok (.bipush (-5), 2) := by decide +kernel
theorem dX6_turn_14 : decode cX6_turn 14 = .ok (.if_icmp .ne 5, 3) := by decide +kernel
theorem dX6_turn_17 : decode cX6_turn 17 = .ok (.iconst (-1), 1) := by decide +kernel
theorem dX6_turn_18 : decode cX6_turn 18 = .ok (.ireturn, 1) := by decide +kernel
theorem dX6_turn_19 : decode cX6_turn 19 = .ok (.aload_n 0, 1) := by decide +kernel
theorem dX6_turn_20 : decode cX6_turn 20 = .ok (.iload_n 2, 1) := by decide +kernel
theorem dX6_turn_21 : decode cX6_turn 21 = .ok (.iconst 5, 1) := by decide +kernel
theorem dX6_turn_22 : decode cX6_turn 22 = .ok (.invokevirtual 36, 3) := by decide +kernel
theorem dX6_turn_25 : decode cX6_turn 25 = .ok (.iconst 1, 1) := by decide +kernel
theorem dX6_turn_26 : decode cX6_turn 26 = .ok (.if_icmp .eq 13, 3) := by decide +kernel
theorem dX6_turn_29 : decode cX6_turn 29 = .ok (.aload_n 0, 1) := by decide +kernel
theorem dX6_turn_30 : decode cX6_turn 30 = .ok (.iload_n 2, 1) := by decide +kernel
theorem dX6_turn_31 : decode cX6_turn 31 = .ok (.iconst 4, 1) := by decide +kernel
theorem dX6_turn_32 : decode cX6_turn 32 = .ok (.invokevirtual 36, 3) := by decide +kernel
theorem dX6_turn_35 : decode cX6_turn 35 = .ok (.iconst 1, 1) := by decide +kernel
theorem dX6_turn_36 : decode cX6_turn 36 = .ok (.if_icmp .ne 21, 3) := by decide +kernel
theorem dX6_turn_39 : decode cX6_turn 39 = .ok (.aload_n 0, 1) := by decide +kernel
theorem dX6_turn_40 : decode cX6_turn 40 = .ok (.iload_n 2, 1) := by decide +kernel
theorem dX6_turn_41 : decode cX6_turn 41 = .ok (.iconst 5, 1) := by decide +kernel
theorem dX6_turn_42 : decode cX6_turn 42 = .ok (.invokevirtual 36, 3) := by decide +kernel
theorem dX6_turn_45 : decode cX6_turn 45 = .ok (.iconst 1, 1) := by decide +kernel
theorem dX6_turn_46 : decode cX6_turn 46 = .ok (.if_icmp .ne 8, 3) := by decide +kernel
theorem dX6_turn_49 : decode cX6_turn 49 = .ok (.bipush (-4), 2) := by decide +kernel
theorem dX6_turn_51 : decode cX6_turn 51 = .ok (.goto 5, 3) := by decide +kernel
theorem dX6_turn_54 : decode cX6_turn 54 = .ok (.bipush (-5), 2) := by decide +kernel
theorem dX6_turn_56 : decode cX6_turn 56 = .ok (.ireturn, 1) := by decide +kernel
theorem dX6_turn_57 : decode cX6_turn 57 = .ok (.aload_n 0, 1) := by decide +kernel
theorem dX6_turn_58 : decode cX6_turn 58 = .ok (.invokevirtual 80, 3) := by decide +kernel
theorem dX6_turn_61 : decode cX6_turn 61 = .ok (.aload_n 0, 1) := by decide +kernel
theorem dX6_turn_62 : decode cX6_turn 62 = .ok (.iload_n 2, 1) := by decide +kernel
theorem dX6_turn_63 : decode cX6_turn 63 = .ok (.iconst 4, 1) := by decide +kernel
theorem dX6_turn_64 : decode cX6_turn 64 = .ok (.iconst 1, 1) := by decide +kernel
theorem dX6_turn_65 : decode cX6_turn 65 = .ok (.invokevirtual 46, 3) := by decide +kernel
theorem dX6_turn_68 : decode cX6_turn 68 = .ok (.aload_n 0, 1) := by decide +kernel
theorem dX6_turn_69 : decode cX6_turn 69 = .ok (.iload_n 2, 1) := by decide +kernel
theorem dX6_turn_70 : decode cX6_turn 70 = .ok (.iconst 3, 1) := by decide +kernel
theorem dX6_turn_71 : decode cX6_turn 71 = .ok (.invokevirtual 36, 3) := by decide +kernel
theorem dX6_turn_74 : decode cX6_turn 74 = .ok (.ireturn, 1) := by decide +kernel
theorem dX6_rowsOf_0 : decode cX6_rowsOf 0 = .ok (.iconst 0, 1) := by decide +kernel
theorem dX6_rowsOf_1 : decode cX6_rowsOf 1 = .ok (.istore_n 3, 1) := by decide +kernel
theorem dX6_rowsOf_2 : decode cX6_rowsOf 2 = .ok (.iconst 0, 1) := by decide +kernel
theorem dX6_rowsOf_3 : decode cX6_rowsOf 3 = .ok (.istore 4, 2) := by decide +kernel
theorem dX6_rowsOf_5 : decode cX6_rowsOf 5 = .ok (.iload 4, 2) := by decide +kernel
theorem dX6_rowsOf_7 : decode cX6_rowsOf 7 = .ok (.aload_n 0, 1) := by decide +kernel
theorem dX6_rowsOf_8 : decode cX6_rowsOf 8 = .ok (.getfield 7, 3) := by decide +kernel
theorem dX6_rowsOf_11 : decode cX6_rowsOf 11 = .ok (.iconst 4, 1) := by decide +kernel
theorem dX6_rowsOf_12 : decode cX6_rowsOf 12 = .ok (.iaload, 1) := by decide +kernel
theorem dX6_rowsOf_13 : decode cX6_rowsOf 13 = .ok (.if_icmp .ge 43, 3) := by decide +kernel
theorem dX6_rowsOf_16 : decode cX6_rowsOf 16 = .ok (.iload_n 3, 1) := by decide +kernel
theorem dX6_rowsOf_17 : decode cX6_rowsOf 17 = .ok (.aload_n 0, 1) := by decide +kernel
theorem dX6_rowsOf_18 : decode cX6_rowsOf 18 = .ok (.iload 4, 2) := by decide +kernel
theorem dX6_rowsOf_20 : decode cX6_rowsOf 20 = .ok (.iconst 1, 1) := by decide +kernel
theorem dX6_rowsOf_21 : decode cX6_rowsOf 21 = .ok (.invokevirtual 36, 3) := by decide +kernel
theorem dX6_rowsOf_24 : decode cX6_rowsOf 24 = .ok (.iload_n 1, 1) := by decide +kernel
theorem dX6_rowsOf_25 : decode cX6_rowsOf 25 = .ok (.if_icmp .ne 22, 3) := by decide +kernel
theorem dX6_rowsOf_28 : decode cX6_rowsOf 28 = .ok (.iload_n 2, 1) := by decide +kernel
theorem dX6_rowsOf_29 : decode cX6_rowsOf 29 = .ok (.ifCond .eq 14, 3) := by decide +kernel
theorem dX6_rowsOf_32 : decode cX6_rowsOf 32 = .ok (.aload_n 0, 1) := by decide +kernel
theorem dX6_rowsOf_33 : decode cX6_rowsOf 33 = .ok (.iload 4, 2) := by decide +kernel
theorem dX6_rowsOf_35 : decode cX6_rowsOf 35 = .ok (.iconst 5, 1) := by decide +kernel
theorem dX6_rowsOf_36 : decode cX6_rowsOf 36 = .ok (.invokevirtual 36, 3) := by decide +kernel
theorem dX6_rowsOf_39 : decode cX6_rowsOf 39 = .ok (.iconst 1, 1) := by decide +kernel
theorem dX6_rowsOf_40 : decode cX6_rowsOf 40 = .ok (.if_icmp .ne 7, 3) := by decide +kernel
theorem dX6_rowsOf_43 : decode cX6_rowsOf 43 = .ok (.iconst 1, 1) := by decide +kernel
theorem dX6_rowsOf_44 : decode cX6_rowsOf 44 = .ok (.goto 4, 3) := by decide +kernel
theorem dX6_rowsOf_47 : decode cX6_rowsOf 47 = .ok (.iconst 0, 1) := by decide +kernel
theorem dX6_rowsOf_48 : decode cX6_rowsOf 48 = .ok (.iadd, 1) := by decide +kernel
theorem dX6_rowsOf_49 : decode cX6_rowsOf 49 = .ok (.istore_n 3, 1) := by decide +kernel
theorem dX6_rowsOf_50 : decode cX6_rowsOf 50 = .ok (.iinc 4 1, 3) := by decide +kernel
theorem dX6_rowsOf_53 : decode cX6_rowsOf 53 = .ok (.goto (-48), 3) := by decide +kernel
theorem dX6_rowsOf_56 : decode cX6_rowsOf 56 = .ok (.iload_n 3, 1) := by decide +kernel
theorem dX6_rowsOf_57 : decode cX6_rowsOf 57 = .ok (.ireturn, 1) := by decide +kernel
theorem dX6_stack_0 : decode cX6_stack 0 = .ok (.aload_n 0, 1) := by decide +kernel
theorem dX6_stack_1 : decode cX6_stack 1 = .ok (.iconst 0, 1) := by decide +kernel
theorem dX6_stack_2 : decode cX6_stack 2 = .ok (.putfield 28, 3) := by decide +kernel
theorem dX6_stack_5 : decode cX6_stack 5 = .ok (.aload_n 0, 1) := by decide +kernel
theorem dX6_stack_6 : decode cX6_stack 6 = .ok (.iload_n 1, 1) := by decide +kernel
theorem dX6_stack_7 : decode cX6_stack 7 = .ok (.invokevirtual 96, 3) := by decide +kernel
theorem dX6_stack_10 : decode cX6_stack 10 = .ok (.istore_n 2, 1) := by decide +kernel
theorem dX6_stack_11 : decode cX6_stack 11 = .ok (.iload_n 2, 1) := by decide +kernel
theorem dX6_stack_12 : decode cX6_stack 12 = .ok (.bipush (-5), 2) := by decide +kernel
theorem dX6_stack_14 : decode cX6_stack 14 = .ok (.if_icmp .ne 5, 3) := by decide +kernel
theorem dX6_stack_17 : decode cX6_stack 17 = .ok (.iconst (-1), 1) := by decide +kernel
theorem dX6_stack_18 : decode cX6_stack 18 = .ok (.ireturn, 1) := by decide +kernel
theorem dX6_stack_19 : decode cX6_stack 19 = .ok (.aload_n 0, 1) := by decide +kernel
theorem dX6_stack_20 : decode cX6_stack 20 = .ok (.iload_n 2, 1) := by decide +kernel
theorem dX6_stack_21 : decode cX6_stack 21 = .ok (.iconst 3, 1) := by decide +kernel
theorem dX6_stack_22 : decode cX6_stack 22 = .ok (.invokevirtual 36, 3) := by decide +kernel
theorem dX6_stack_25 : decode cX6_stack 25 = .ok (.bipush 20, 2) := by decide +kernel
theorem dX6_stack_27 : decode cX6_stack 27 = .ok (.if_icmp .gt 13, 3) := by decide +kernel
theorem dX6_stack_30 : decode cX6_stack 30 = .ok (.aload_n 0, 1) := by decide +kernel
theorem dX6_stack_31 : decode cX6_stack 31 = .ok (.iload_n 2, 1) := by decide +kernel
theorem dX6_stack_32 : decode cX6_stack 32 = .ok (.iconst 5, 1) := by decide +kernel
theorem dX6_stack_33 : decode cX6_stack 33 = .ok (.invokevirtual 36, 3) := by decide +kernel
theorem dX6_stack_36 : decode cX6_stack 36 = .ok (.iconst 1, 1) := by decide +kernel
theorem dX6_stack_37 : decode cX6_stack 37 = .ok (.if_icmp .ne 22, 3) := by decide +kernel
theorem dX6_stack_40 : decode cX6_stack 40 = .ok (.aload_n 0, 1) := by decide +kernel
theorem dX6_stack_41 : decode cX6_stack 41 = .ok (.iload_n 2, 1) := by decide +kernel
theorem dX6_stack_42 : decode cX6_stack 42 = .ok (.iconst 3, 1) := by decide +kernel
theorem dX6_stack_43 : decode cX6_stack 43 = .ok (.invokevirtual 36, 3) := by decide +kernel
theorem dX6_stack_46 : decode cX6_stack 46 = .ok (.bipush 20, 2) := by decide +kernel
theorem dX6_stack_48 : decode cX6_stack 48 = .ok (.if_icmp .le 8, 3) := by decide +kernel
theorem dX6_stack_51 : decode cX6_stack 51 = .ok (.bipush (-4), 2) := by decide +kernel
theorem dX6_stack_53 : decode cX6_stack 53 = .ok (.goto 5, 3) := by decide +kernel
theorem dX6_stack_56 : decode cX6_stack 56 = .ok (.bipush (-5), 2) := by decide +kernel
theorem dX6_stack_58 : decode cX6_stack 58 = .ok (.ireturn, 1) := by decide +kernel
theorem dX6_stack_59 : decode cX6_stack 59 = .ok (.aload_n 0, 1) := by decide +kernel
theorem dX6_stack_60 : decode cX6_stack 60 = .ok (.invokevirtual 80, 3) := by decide +kernel
theorem dX6_stack_63 : decode cX6_stack 63 = .ok (.aload_n 0, 1) := by decide +kernel
theorem dX6_stack_64 : decode cX6_stack 64 = .ok (.iload_n 2, 1) := by decide +kernel
theorem dX6_stack_65 : decode cX6_stack 65 = .ok (.iconst 5, 1) := by decide +kernel
theorem dX6_stack_66 : decode cX6_stack 66 = .ok (.iconst 1, 1) := by decide +kernel
theorem dX6_stack_67 : decode cX6_stack 67 = .ok (.invokevirtual 46, 3) := by decide +kernel
theorem dX6_stack_70 : decode cX6_stack 70 = .ok (.aload_n 0, 1) := by decide +kernel
theorem dX6_stack_71 : decode cX6_stack 71 = .ok (.aload_n 0, 1) := by decide +kernel
theorem dX6_stack_72 : decode cX6_stack 72 = .ok (.iload_n 2, 1) := by decide +kernel
theorem dX6_stack_73 : decode cX6_stack 73 = .ok (.iconst 1, 1) := by decide +kernel
theorem dX6_stack_74 : decode cX6_stack 74 = .ok (.invokevirtual 36, 3) := by decide +kernel
theorem dX6_stack_77 : decode cX6_stack 77 = .ok (.iconst 1, 1) := by decide +kernel
theorem dX6_stack_78 : decode cX6_stack 78 = .ok (.invokevirtual 99, 3) := by decide +kernel
theorem dX6_stack_81 : decode cX6_stack 81 = .ok (.ireturn, 1) := by decide +kernel
theorem dX6_pass_0 : decode cX6_pass 0 = .ok (.aload_n 0, 1) := by decide +kernel
theorem dX6_pass_1 : decode cX6_pass 1 = .ok (.iconst 0, 1) := by decide +kernel
theorem dX6_pass_2 : decode cX6_pass 2 = .ok (.putfield 28, 3) := by decide +kernel
theorem dX6_pass_5 : decode cX6_pass 5 = .ok (.iload_n 1, 1) := by decide +kernel
theorem dX6_pass_6 : decode cX6_pass 6 = .ok (.iconst 0, 1) := by decide +kernel
theorem dX6_pass_7 : decode cX6_pass 7 = .ok (.iconst 2, 1) := by decide +kernel
theorem dX6_pass_8 : decode cX6_pass 8 = .ok (.invokestatic 32, 3) := by decide +kernel
theorem dX6_pass_11 : decode cX6_pass 11 = .ok (.ifCond .ne 6, 3) := by decide +kernel
theorem dX6_pass_14 : decode cX6_pass 14 = .ok (.bipush (-2), 2) := by decide +kernel
theorem dX6_pass_16 : decode cX6_pass 16 = .ok (.ireturn, 1) := by decide +kernel
theorem dX6_pass_17 : decode cX6_pass 17 = .ok (.aload_n 0, 1) := by decide +kernel
theorem dX6_pass_18 : decode cX6_pass 18 = .ok (.invokevirtual 80, 3) := by decide +kernel
theorem dX6_pass_21 : decode cX6_pass 21 = .ok (.aload_n 0, 1) := by decide +kernel
theorem dX6_pass_22 : decode cX6_pass 22 = .ok (.iload_n 1, 1) := by decide +kernel
theorem dX6_pass_23 : decode cX6_pass 23 = .ok (.invokevirtual 103, 3) := by decide +kernel
theorem dX6_pass_26 : decode cX6_pass 26 = .ok (.ireturn, 1) := by decide +kernel
theorem dX6_passAll_0 : decode cX6_passAll 0 = .ok (.aload_n 0, 1) := by decide +kernel
theorem dX6_passAll_1 : decode cX6_passAll 1 = .ok (.iconst 0, 1) := by decide +kernel
theorem dX6_passAll_2 : decode cX6_passAll 2 = .ok (.putfield 28, 3) := by decide +kernel
theorem dX6_passAll_5 : decode cX6_passAll 5 = .ok (.aload_n 0, 1) := by decide +kernel
theorem dX6_passAll_6 : decode cX6_passAll 6 = .ok (.invokevirtual 106, 3) := by decide +kernel
theorem dX6_passAll_9 : decode cX6_passAll 9 = .ok (.istore_n 1, 1) := by decide +kernel
theorem dX6_passAll_10 : decode cX6_passAll 10 = .ok (.iload_n 1, 1) := by decide +kernel
theorem dX6_passAll_11 : decode cX6_passAll 11 = .ok (.bipush (-5), 2) := by decide +kernel
theorem dX6_passAll_13 : decode cX6_passAll 13 = .ok (.if_icmp .eq 8, 3) := by decide +kernel
theorem dX6_passAll_16 : decode cX6_passAll 16 = .ok (.bipush (-100), 2) := by decide +kernel
theorem dX6_passAll_18 : decode cX6_passAll 18 = .ok (.iload_n 1, 1) := by decide +kernel
theorem dX6_passAll_19 : decode cX6_passAll 19 = .ok (.isub, 1) := by decide +kernel
theorem dX6_passAll_20 : decode cX6_passAll 20 = .ok (.ireturn, 1) := by decide +kernel
theorem dX6_passAll_21 : decode cX6_passAll 21 = .ok (.aload_n 0, 1) := by decide +kernel
theorem dX6_passAll_22 : decode cX6_passAll 22 = .ok (.invokevirtual 80, 3) := by decide +kernel
theorem dX6_passAll_25 : decode cX6_passAll 25 = .ok (.iconst 0, 1) := by decide +kernel
theorem dX6_passAll_26 : decode cX6_passAll 26 = .ok (.istore_n 2, 1) := by decide +kernel
theorem dX6_passAll_27 : decode cX6_passAll 27 = .ok (.iconst 0, 1) := by decide +kernel
theorem dX6_passAll_28 : decode cX6_passAll 28 = .ok (.istore_n 3, 1) := by decide +kernel
theorem dX6_passAll_29 : decode cX6_passAll 29 = .ok (.iload_n 3, 1) := by decide +kernel
theorem dX6_passAll_30 : decode cX6_passAll 30 = .ok (.aload_n 0, 1) := by decide +kernel
theorem dX6_passAll_31 : decode cX6_passAll 31 = .ok (.getfield 110, 3) := by decide +kernel
theorem dX6_passAll_34 : decode cX6_passAll 34 = .ok (.if_icmp .ge 49, 3) := by decide +kernel
theorem dX6_passAll_37 : decode cX6_passAll 37 = .ok (.iconst 0, 1) := by decide +kernel
theorem dX6_passAll_38 : decode cX6_passAll 38 = .ok (.istore 4, 2) := by decide +kernel
theorem dX6_passAll_40 : decode cX6_passAll 40 = .ok (.iload 4, 2) := by decide +kernel
theorem dX6_passAll_42 : decode cX6_passAll 42 = .ok (.aload_n 0, 1) := by decide +kernel
theorem dX6_passAll_43 : decode cX6_passAll 43 = .ok (.getfield 25, 3) := by decide +kernel
theorem dX6_passAll_46 : decode cX6_passAll 46 = .ok (.iconst 2, 1) := by decide +kernel
theorem dX6_passAll_47 : decode cX6_passAll 47 = .ok (.iload_n 3, 1) := by decide +kernel
theorem dX6_passAll_48 : decode cX6_passAll 48 = .ok (.imul, 1) := by decide +kernel
theorem dX6_passAll_49 : decode cX6_passAll 49 = .ok (.iconst 1, 1) := by decide +kernel
theorem dX6_passAll_50 : decode cX6_passAll 50 = .ok (.iadd, 1) := by decide +kernel
theorem dX6_passAll_51 : decode cX6_passAll 51 = .ok (.iaload, 1) := by decide +kernel
theorem dX6_passAll_52 : decode cX6_passAll 52 = .ok (.if_icmp .ge 25, 3) := by decide +kernel
theorem dX6_passAll_55 : decode cX6_passAll 55 = .ok (.aload_n 0, 1) := by decide +kernel
theorem dX6_passAll_56 : decode cX6_passAll 56 = .ok (.aload_n 0, 1) := by decide +kernel
theorem dX6_passAll_57 : decode cX6_passAll 57 = .ok (.getfield 25, 3) := by decide +kernel
theorem dX6_passAll_60 : decode cX6_passAll 60 = .ok (.iconst 2, 1) := by decide +kernel
theorem dX6_passAll_61 : decode cX6_passAll 61 = .ok (.iload_n 3, 1) := by decide +kernel
theorem dX6_passAll_62 : decode cX6_passAll 62 = .ok (.imul, 1) := by decide +kernel
theorem dX6_passAll_63 : decode cX6_passAll 63 = .ok (.iaload, 1) := by decide +kernel
theorem dX6_passAll_64 : decode cX6_passAll 64 = .ok (.invokevirtual 103, 3) := by decide +kernel
theorem dX6_passAll_67 : decode cX6_passAll 67 = .ok (.pop, 1) := by decide +kernel
theorem dX6_passAll_68 : decode cX6_passAll 68 = .ok (.iinc 2 1, 3) := by decide +kernel
theorem dX6_passAll_71 : decode cX6_passAll 71 = .ok (.iinc 4 1, 3) := by decide +kernel
theorem dX6_passAll_74 : decode cX6_passAll 74 = .ok (.goto (-34), 3) := by decide +kernel
theorem dX6_passAll_77 : decode cX6_passAll 77 = .ok (.iinc 3 1, 3) := by decide +kernel
theorem dX6_passAll_80 : decode cX6_passAll 80 = .ok (.goto (-51), 3) := by decide +kernel
theorem dX6_passAll_83 : decode cX6_passAll 83 = .ok (.iload_n 2, 1) := by decide +kernel
theorem dX6_passAll_84 : decode cX6_passAll 84 = .ok (.ireturn, 1) := by decide +kernel
theorem dX6_dropsOldest_0 : decode cX6_dropsOldest 0 = .ok (.aload_n 0, 1) := by decide +kernel
theorem dX6_dropsOldest_1 : decode cX6_dropsOldest 1 = .ok (.getfield 7, 3) := by decide +kernel
theorem dX6_dropsOldest_4 : decode cX6_dropsOldest 4 = .ok (.bipush 7, 2) := by decide +kernel
theorem dX6_dropsOldest_6 : decode cX6_dropsOldest 6 = .ok (.dup2, 1) := by decide +kernel
theorem dX6_dropsOldest_7 : decode cX6_dropsOldest 7 = .ok (.iaload, 1) := by decide +kernel
theorem dX6_dropsOldest_8 : decode cX6_dropsOldest 8 = .ok (.iconst 1, 1) := by decide +kernel
theorem dX6_dropsOldest_9 : decode cX6_dropsOldest 9 = .ok (.isub, 1) := by decide +kernel
theorem dX6_dropsOldest_10 : decode cX6_dropsOldest 10 = .ok (.iastore, 1) := by decide +kernel
theorem dX6_dropsOldest_11 : decode cX6_dropsOldest 11 = .ok (.iconst 0, 1) := by decide +kernel
theorem dX6_dropsOldest_12 : decode cX6_dropsOldest 12 = .ok (.istore_n 1, 1) := by decide +kernel
theorem dX6_dropsOldest_13 : decode cX6_dropsOldest 13 = .ok (.iload_n 1, 1) := by decide +kernel
theorem dX6_dropsOldest_14 : decode cX6_dropsOldest 14 = .ok (.iconst 4, 1) := by decide +kernel
theorem dX6_dropsOldest_15 : decode cX6_dropsOldest 15 = .ok (.aload_n 0, 1) := by decide +kernel
theorem dX6_dropsOldest_16 : decode cX6_dropsOldest 16 = .ok (.getfield 7, 3) := by decide +kernel
theorem dX6_dropsOldest_19 : decode cX6_dropsOldest 19 = .ok (.bipush 7, 2) := by decide +kernel
theorem dX6_dropsOldest_21 : decode cX6_dropsOldest 21 = .ok (.iaload, 1) := by decide +kernel
theorem dX6_dropsOldest_22 : decode cX6_dropsOldest 22 = .ok (.imul, 1) := by decide +kernel
theorem dX6_dropsOldest_23 : decode cX6_dropsOldest 23 = .ok (.if_icmp .ge 31, 3) := by decide +kernel
theorem dX6_dropsOldest_26 : decode cX6_dropsOldest 26 = .ok (.aload_n 0, 1) := by decide +kernel
theorem dX6_dropsOldest_27 : decode cX6_dropsOldest 27 = .ok (.getfield 7, 3) := by decide +kernel
theorem dX6_dropsOldest_30 : decode cX6_dropsOldest 30 = .ok (.sipush 461, 3) := by decide +kernel
theorem dX6_dropsOldest_33 : decode cX6_dropsOldest 33 = .ok (.iload_n 1, 1) := by decide +kernel
theorem dX6_dropsOldest_34 : decode cX6_dropsOldest 34 = .ok (.iadd, 1) := by decide +kernel
theorem dX6_dropsOldest_35 : decode cX6_dropsOldest 35 = .ok (.aload_n 0, 1) := by decide +kernel
theorem dX6_dropsOldest_36 : decode cX6_dropsOldest 36 = .ok (.getfield 7, 3) := by decide +kernel
theorem dX6_dropsOldest_39 : decode cX6_dropsOldest 39 = .ok (.sipush 461, 3) := by decide +kernel
theorem dX6_dropsOldest_42 : decode cX6_dropsOldest 42 = .ok (.iload_n 1, 1) := by decide +kernel
theorem dX6_dropsOldest_43 : decode cX6_dropsOldest 43 = .ok (.iadd, 1) := by decide +kernel
theorem dX6_dropsOldest_44 : decode cX6_dropsOldest 44 = .ok (.iconst 4, 1) := by decide +kernel
theorem dX6_dropsOldest_45 : decode cX6_dropsOldest 45 = .ok (.iadd, 1) := by decide +kernel
theorem dX6_dropsOldest_46 : decode cX6_dropsOldest 46 = .ok (.iaload, 1) := by decide +kernel
theorem dX6_dropsOldest_47 : decode cX6_dropsOldest 47 = .ok (.iastore, 1) := by decide +kernel
theorem dX6_dropsOldest_48 : decode cX6_dropsOldest 48 = .ok (.iinc 1 1, 3) := by decide +kernel
theorem dX6_dropsOldest_51 : decode cX6_dropsOldest 51 = .ok (.goto (-38), 3) := by decide +kernel
theorem dX6_dropsOldest_54 : decode cX6_dropsOldest 54 = .ok (.iconst 0, 1) := by decide +kernel
theorem dX6_dropsOldest_55 : decode cX6_dropsOldest 55 = .ok (.istore_n 1, 1) := by decide +kernel
theorem dX6_dropsOldest_56 : decode cX6_dropsOldest 56 = .ok (.iload_n 1, 1) := by decide +kernel
theorem dX6_dropsOldest_57 : decode cX6_dropsOldest 57 = .ok (.iconst 4, 1) := by decide +kernel
theorem dX6_dropsOldest_58 : decode cX6_dropsOldest 58 = .ok (.if_icmp .ge 30, 3) := by decide +kernel
theorem dX6_dropsOldest_61 : decode cX6_dropsOldest 61 = .ok (.aload_n 0, 1) := by decide +kernel
theorem dX6_dropsOldest_62 : decode cX6_dropsOldest 62 = .ok (.getfield 7, 3) := by decide +kernel
theorem dX6_dropsOldest_65 : decode cX6_dropsOldest 65 = .ok (.sipush 461, 3) := by decide +kernel
theorem dX6_dropsOldest_68 : decode cX6_dropsOldest 68 = .ok (.iconst 4, 1) := by decide +kernel
theorem dX6_dropsOldest_69 : decode cX6_dropsOldest 69 = .ok (.aload_n 0, 1) := by decide +kernel
theorem dX6_dropsOldest_70 : decode cX6_dropsOldest 70 = .ok (.getfield 7, 3) := by decide +kernel
theorem dX6_dropsOldest_73 : decode cX6_dropsOldest 73 = .ok (.bipush 7, 2) := by decide +kernel
theorem dX6_dropsOldest_75 : decode cX6_dropsOldest 75 = .ok (.iaload, 1) := by decide +kernel
theorem dX6_dropsOldest_76 : decode cX6_dropsOldest 76 = .ok (.imul, 1) := by decide +kernel
theorem dX6_dropsOldest_77 : decode cX6_dropsOldest 77 = .ok (.iadd, 1) := by decide +kernel
theorem dX6_dropsOldest_78 : decode cX6_dropsOldest 78 = .ok (.iload_n 1, 1) := by decide +kernel
theorem dX6_dropsOldest_79 : decode cX6_dropsOldest 79 = .ok (.iadd, 1) := by decide +kernel
theorem dX6_dropsOldest_80 : decode cX6_dropsOldest 80 = .ok (.iconst 0, 1) := by decide +kernel
theorem dX6_dropsOldest_81 : decode cX6_dropsOldest 81 = .ok (.iastore, 1) := by decide +kernel
theorem dX6_dropsOldest_82 : decode cX6_dropsOldest 82 = .ok (.iinc 1 1, 3) := by decide +kernel
theorem dX6_dropsOldest_85 : decode cX6_dropsOldest 85 = .ok (.goto (-29), 3) := by decide +kernel
theorem dX6_dropsOldest_88 : decode cX6_dropsOldest 88 = .ok (.return_, 1) := by decide +kernel
theorem dX6_settle_0 : decode cX6_settle 0 = .ok (.aload_n 0, 1) := by decide +kernel
theorem dX6_settle_1 : decode cX6_settle 1 = .ok (.iconst 0, 1) := by decide +kernel
theorem dX6_settle_2 : decode cX6_settle 2 = .ok (.putfield 28, 3) := by decide +kernel
theorem dX6_settle_5 : decode cX6_settle 5 = .ok (.aload_n 0, 1) := by decide +kernel
theorem dX6_settle_6 : decode cX6_settle 6 = .ok (.getfield 7, 3) := by decide +kernel
theorem dX6_settle_9 : decode cX6_settle 9 = .ok (.bipush 7, 2) := by decide +kernel
theorem dX6_settle_11 : decode cX6_settle 11 = .ok (.iaload, 1) := by decide +kernel
theorem dX6_settle_12 : decode cX6_settle 12 = .ok (.ifCond .ne 6, 3) := by decide +kernel
theorem dX6_settle_15 : decode cX6_settle 15 = .ok (.bipush (-5), 2) := by decide +kernel
theorem dX6_settle_17 : decode cX6_settle 17 = .ok (.ireturn, 1) := by decide +kernel
theorem dX6_settle_18 : decode cX6_settle 18 = .ok (.aload_n 0, 1) := by decide +kernel
theorem dX6_settle_19 : decode cX6_settle 19 = .ok (.invokevirtual 80, 3) := by decide +kernel
theorem dX6_settle_22 : decode cX6_settle 22 = .ok (.aload_n 0, 1) := by decide +kernel
theorem dX6_settle_23 : decode cX6_settle 23 = .ok (.iconst 0, 1) := by decide +kernel
theorem dX6_settle_24 : decode cX6_settle 24 = .ok (.iconst 0, 1) := by decide +kernel
theorem dX6_settle_25 : decode cX6_settle 25 = .ok (.invokevirtual 113, 3) := by decide +kernel
theorem dX6_settle_28 : decode cX6_settle 28 = .ok (.istore_n 1, 1) := by decide +kernel
theorem dX6_settle_29 : decode cX6_settle 29 = .ok (.aload_n 0, 1) := by decide +kernel
theorem dX6_settle_30 : decode cX6_settle 30 = .ok (.iconst 0, 1) := by decide +kernel
theorem dX6_settle_31 : decode cX6_settle 31 = .ok (.iconst 1, 1) := by decide +kernel
theorem dX6_settle_32 : decode cX6_settle 32 = .ok (.invokevirtual 113, 3) := by decide +kernel
theorem dX6_settle_35 : decode cX6_settle 35 = .ok (.istore_n 2, 1) := by decide +kernel
theorem dX6_settle_36 : decode cX6_settle 36 = .ok (.aload_n 0, 1) := by decide +kernel
theorem dX6_settle_37 : decode cX6_settle 37 = .ok (.aload_n 0, 1) := by decide +kernel
theorem dX6_settle_38 : decode cX6_settle 38 = .ok (.iconst 0, 1) := by decide +kernel
theorem dX6_settle_39 : decode cX6_settle 39 = .ok (.iconst 2, 1) := by decide +kernel
theorem dX6_settle_40 : decode cX6_settle 40 = .ok (.invokevirtual 113, 3) := by decide +kernel
theorem dX6_settle_43 : decode cX6_settle 43 = .ok (.invokevirtual 96, 3) := by decide +kernel
theorem dX6_settle_46 : decode cX6_settle 46 = .ok (.istore_n 3, 1) := by decide +kernel
theorem dX6_settle_47 : decode cX6_settle 47 = .ok (.aload_n 0, 1) := by decide +kernel
theorem dX6_settle_48 : decode cX6_settle 48 = .ok (.invokevirtual 116, 3) := by decide +kernel
theorem dX6_settle_51 : decode cX6_settle 51 = .ok (.aload_n 0, 1) := by decide +kernel
theorem dX6_settle_52 : decode cX6_settle 52 = .ok (.getfield 7, 3) := by decide +kernel
theorem dX6_settle_55 : decode cX6_settle 55 = .ok (.iconst 1, 1) := by decide +kernel
theorem dX6_settle_56 : decode cX6_settle 56 = .ok (.iaload, 1) := by decide +kernel
theorem dX6_settle_57 : decode cX6_settle 57 = .ok (.ifCond .ne 32, 3) := by decide +kernel
theorem dX6_settle_60 : decode cX6_settle 60 = .ok (.aload_n 0, 1) := by decide +kernel
theorem dX6_settle_61 : decode cX6_settle 61 = .ok (.iload_n 1, 1) := by decide +kernel
theorem dX6_settle_62 : decode cX6_settle 62 = .ok (.iconst 1, 1) := by decide +kernel
theorem dX6_settle_63 : decode cX6_settle 63 = .ok (.aload_n 0, 1) := by decide +kernel
theorem dX6_settle_64 : decode cX6_settle 64 = .ok (.iload_n 1, 1) := by decide +kernel
theorem dX6_settle_65 : decode cX6_settle 65 = .ok (.iconst 1, 1) := by decide +kernel
theorem dX6_settle_66 : decode cX6_settle 66 = .ok (.invokevirtual 83, 3) := by decide +kernel
theorem dX6_settle_69 : decode cX6_settle 69 = .ok (.aload_n 0, 1) := by decide +kernel
theorem dX6_settle_70 : decode cX6_settle 70 = .ok (.iload_n 1, 1) := by decide +kernel
theorem dX6_settle_71 : decode cX6_settle 71 = .ok (.iconst 0, 1) := by decide +kernel
theorem dX6_settle_72 : decode cX6_settle 72 = .ok (.invokevirtual 83, 3) := by decide +kernel
theorem dX6_settle_75 : decode cX6_settle 75 = .ok (.if_icmp .ge 7, 3) := by decide +kernel
theorem dX6_settle_78 : decode cX6_settle 78 = .ok (.iconst 1, 1) := by decide +kernel
theorem dX6_settle_79 : decode cX6_settle 79 = .ok (.goto 4, 3) := by decide +kernel
theorem dX6_settle_82 : decode cX6_settle 82 = .ok (.iconst 0, 1) := by decide +kernel
theorem dX6_settle_83 : decode cX6_settle 83 = .ok (.invokevirtual 57, 3) := by decide +kernel
theorem dX6_settle_86 : decode cX6_settle 86 = .ok (.bipush 10, 2) := by decide +kernel
theorem dX6_settle_88 : decode cX6_settle 88 = .ok (.ireturn, 1) := by decide +kernel
theorem dX6_settle_89 : decode cX6_settle 89 = .ok (.iload_n 3, 1) := by decide +kernel
theorem dX6_settle_90 : decode cX6_settle 90 = .ok (.bipush (-5), 2) := by decide +kernel
theorem dX6_settle_92 : decode cX6_settle 92 = .ok (.if_icmp .eq 12, 3) := by decide +kernel
theorem dX6_settle_95 : decode cX6_settle 95 = .ok (.aload_n 0, 1) := by decide +kernel
theorem dX6_settle_96 : decode cX6_settle 96 = .ok (.iload_n 3, 1) := by decide +kernel
theorem dX6_settle_97 : decode cX6_settle 97 = .ok (.iconst 1, 1) := by decide +kernel
theorem dX6_settle_98 : decode cX6_settle 98 = .ok (.iload_n 2, 1) := by decide +kernel
theorem dX6_settle_99 : decode cX6_settle 99 = .ok (.invokevirtual 46, 3) := by decide +kernel
theorem dX6_settle_102 : decode cX6_settle 102 = .ok (.iload_n 2, 1) := by decide +kernel
theorem dX6_settle_103 : decode cX6_settle 103 = .ok (.ireturn, 1) := by decide +kernel
theorem dX6_settle_104 : decode cX6_settle 104 = .ok (.aload_n 0, 1) := by decide +kernel
theorem dX6_settle_105 : decode cX6_settle 105 = .ok (.iload_n 1, 1) := by decide +kernel
theorem dX6_settle_106 : decode cX6_settle 106 = .ok (.iconst 2, 1) := by decide +kernel
theorem dX6_settle_107 : decode cX6_settle 107 = .ok (.invokevirtual 83, 3) := by decide +kernel
theorem dX6_settle_110 : decode cX6_settle 110 = .ok (.bipush 20, 2) := by decide +kernel
theorem dX6_settle_112 : decode cX6_settle 112 = .ok (.if_icmp .ge 12, 3) := by decide +kernel
theorem dX6_settle_115 : decode cX6_settle 115 = .ok (.aload_n 0, 1) := by decide +kernel
theorem dX6_settle_116 : decode cX6_settle 116 = .ok (.iload_n 1, 1) := by decide +kernel
theorem dX6_settle_117 : decode cX6_settle 117 = .ok (.iconst 2, 1) := by decide +kernel
theorem dX6_settle_118 : decode cX6_settle 118 = .ok (.invokevirtual 83, 3) := by decide +kernel
theorem dX6_settle_121 : decode cX6_settle 121 = .ok (.goto 5, 3) := by decide +kernel
theorem dX6_settle_124 : decode cX6_settle 124 = .ok (.bipush 20, 2) := by decide +kernel
theorem dX6_settle_126 : decode cX6_settle 126 = .ok (.istore 4, 2) := by decide +kernel
theorem dX6_settle_128 : decode cX6_settle 128 = .ok (.aload_n 0, 1) := by decide +kernel
theorem dX6_settle_129 : decode cX6_settle 129 = .ok (.iload_n 1, 1) := by decide +kernel
theorem dX6_settle_130 : decode cX6_settle 130 = .ok (.iconst 2, 1) := by decide +kernel
theorem dX6_settle_131 : decode cX6_settle 131 = .ok (.iload 4, 2) := by decide +kernel
theorem dX6_settle_133 : decode cX6_settle 133 = .ok (.ineg, 1) := by decide +kernel
theorem dX6_settle_134 : decode cX6_settle 134 = .ok (.invokevirtual 57, 3) := by decide +kernel
theorem dX6_settle_137 : decode cX6_settle 137 = .ok (.aload_n 0, 1) := by decide +kernel
theorem dX6_settle_138 : decode cX6_settle 138 = .ok (.iload_n 2, 1) := by decide +kernel
theorem dX6_settle_139 : decode cX6_settle 139 = .ok (.iconst 2, 1) := by decide +kernel
theorem dX6_settle_140 : decode cX6_settle 140 = .ok (.iload 4, 2) := by decide +kernel
theorem dX6_settle_142 : decode cX6_settle 142 = .ok (.invokevirtual 57, 3) := by decide +kernel
theorem dX6_settle_145 : decode cX6_settle 145 = .ok (.iload_n 2, 1) := by decide +kernel
theorem dX6_settle_146 : decode cX6_settle 146 = .ok (.ireturn, 1) := by decide +kernel
theorem dX6_endYear_0 : decode cX6_endYear 0 = .ok (.aload_n 0, 1) := by decide +kernel
theorem dX6_endYear_1 : decode cX6_endYear 1 = .ok (.iconst 0, 1) := by decide +kernel
theorem dX6_endYear_2 : decode cX6_endYear 2 = .ok (.putfield 28, 3) := by decide +kernel
theorem dX6_endYear_5 : decode cX6_endYear 5 = .ok (.aload_n 0, 1) := by decide +kernel
theorem dX6_endYear_6 : decode cX6_endYear 6 = .ok (.invokevirtual 80, 3) := by decide +kernel
theorem dX6_endYear_9 : decode cX6_endYear 9 = .ok (.aload_n 0, 1) := by decide +kernel
theorem dX6_endYear_10 : decode cX6_endYear 10 = .ok (.getfield 7, 3) := by decide +kernel
theorem dX6_endYear_13 : decode cX6_endYear 13 = .ok (.iconst 4, 1) := by decide +kernel
theorem dX6_endYear_14 : decode cX6_endYear 14 = .ok (.iaload, 1) := by decide +kernel
theorem dX6_endYear_15 : decode cX6_endYear 15 = .ok (.istore_n 1, 1) := by decide +kernel
theorem dX6_endYear_16 : decode cX6_endYear 16 = .ok (.iconst 0, 1) := by decide +kernel
theorem dX6_endYear_17 : decode cX6_endYear 17 = .ok (.istore_n 2, 1) := by decide +kernel
theorem dX6_endYear_18 : decode cX6_endYear 18 = .ok (.iload_n 2, 1) := by decide +kernel
theorem dX6_endYear_19 : decode cX6_endYear 19 = .ok (.sipush 360, 3) := by decide +kernel
theorem dX6_endYear_22 : decode cX6_endYear 22 = .ok (.if_icmp .ge 19, 3) := by decide +kernel
theorem dX6_endYear_25 : decode cX6_endYear 25 = .ok (.aload_n 0, 1) := by decide +kernel
theorem dX6_endYear_26 : decode cX6_endYear 26 = .ok (.getfield 7, 3) := by decide +kernel
theorem dX6_endYear_29 : decode cX6_endYear 29 = .ok (.bipush 101, 2) := by decide +kernel
theorem dX6_endYear_31 : decode cX6_endYear 31 = .ok (.iload_n 2, 1) := by decide +kernel
theorem dX6_endYear_32 : decode cX6_endYear 32 = .ok (.iadd, 1) := by decide +kernel
theorem dX6_endYear_33 : decode cX6_endYear 33 = .ok (.iconst 0, 1) := by decide +kernel
theorem dX6_endYear_34 : decode cX6_endYear 34 = .ok (.iastore, 1) := by decide +kernel
theorem dX6_endYear_35 : decode cX6_endYear 35 = .ok (.iinc 2 1, 3) := by decide +kernel
theorem dX6_endYear_38 : decode cX6_endYear 38 = .ok (.goto (-20), 3) := by decide +kernel
theorem dX6_endYear_41 : decode cX6_endYear 41 = .ok (.iconst 0, 1) := by decide +kernel
theorem dX6_endYear_42 : decode cX6_endYear 42 = .ok (.istore_n 2, 1) := by decide +kernel
theorem dX6_endYear_43 : decode cX6_endYear 43 = .ok (.iload_n 2, 1) := by decide +kernel
theorem dX6_endYear_44 : decode cX6_endYear 44 = .ok (.iconst 4, 1) := by decide +kernel
theorem dX6_endYear_45 : decode cX6_endYear 45 = .ok (.aload_n 0, 1) := by decide +kernel
theorem dX6_endYear_46 : decode cX6_endYear 46 = .ok (.getfield 7, 3) := by decide +kernel
theorem dX6_endYear_49 : decode cX6_endYear 49 = .ok (.bipush 7, 2) := by decide +kernel
theorem dX6_endYear_51 : decode cX6_endYear 51 = .ok (.iaload, 1) := by decide +kernel
theorem dX6_endYear_52 : decode cX6_endYear 52 = .ok (.imul, 1) := by decide +kernel
theorem dX6_endYear_53 : decode cX6_endYear 53 = .ok (.if_icmp .ge 20, 3) := by decide +kernel
theorem dX6_endYear_56 : decode cX6_endYear 56 = .ok (.aload_n 0, 1) := by decide +kernel
theorem dX6_endYear_57 : decode cX6_endYear 57 = .ok (.getfield 7, 3) := by decide +kernel
theorem dX6_endYear_60 : decode cX6_endYear 60 = .ok (.sipush 461, 3) := by decide +kernel
theorem dX6_endYear_63 : decode cX6_endYear 63 = .ok (.iload_n 2, 1) := by decide +kernel
theorem dX6_endYear_64 : decode cX6_endYear 64 = .ok (.iadd, 1) := by decide +kernel
theorem dX6_endYear_65 : decode cX6_endYear 65 = .ok (.iconst 0, 1) := by decide +kernel
theorem dX6_endYear_66 : decode cX6_endYear 66 = .ok (.iastore, 1) := by decide +kernel
theorem dX6_endYear_67 : decode cX6_endYear 67 = .ok (.iinc 2 1, 3) := by decide +kernel
theorem dX6_endYear_70 : decode cX6_endYear 70 = .ok (.goto (-27), 3) := by decide +kernel
theorem dX6_endYear_73 : decode cX6_endYear 73 = .ok (.aload_n 0, 1) := by decide +kernel
theorem dX6_endYear_74 : decode cX6_endYear 74 = .ok (.getfield 7, 3) := by decide +kernel
theorem dX6_endYear_77 : decode cX6_endYear 77 = .ok (.iconst 4, 1) := by decide +kernel
theorem dX6_endYear_78 : decode cX6_endYear 78 = .ok (.iconst 0, 1) := by decide +kernel
theorem dX6_endYear_79 : decode cX6_endYear 79 = .ok (.iastore, 1) := by decide +kernel
theorem dX6_endYear_80 : decode cX6_endYear 80 = .ok (.aload_n 0, 1) := by decide +kernel
theorem dX6_endYear_81 : decode cX6_endYear 81 = .ok (.getfield 7, 3) := by decide +kernel
theorem dX6_endYear_84 : decode cX6_endYear 84 = .ok (.bipush 7, 2) := by decide +kernel
theorem dX6_endYear_86 : decode cX6_endYear 86 = .ok (.iconst 0, 1) := by decide +kernel
theorem dX6_endYear_87 : decode cX6_endYear 87 = .ok (.iastore, 1) := by decide +kernel
theorem dX6_endYear_88 : decode cX6_endYear 88 = .ok (.aload_n 0, 1) := by decide +kernel
theorem dX6_endYear_89 : decode cX6_endYear 89 = .ok (.getfield 7, 3) := by decide +kernel
theorem dX6_endYear_92 : decode cX6_endYear 92 = .ok (.iconst 2, 1) := by decide +kernel
theorem dX6_endYear_93 : decode cX6_endYear 93 = .ok (.iconst 0, 1) := by decide +kernel
theorem dX6_endYear_94 : decode cX6_endYear 94 = .ok (.iastore, 1) := by decide +kernel
theorem dX6_endYear_95 : decode cX6_endYear 95 = .ok (.aload_n 0, 1) := by decide +kernel
theorem dX6_endYear_96 : decode cX6_endYear 96 = .ok (.getfield 7, 3) := by decide +kernel
theorem dX6_endYear_99 : decode cX6_endYear 99 = .ok (.iconst 3, 1) := by decide +kernel
theorem dX6_endYear_100 : decode cX6_endYear 100 = .ok (.dup2, 1) := by decide +kernel
theorem dX6_endYear_101 : decode cX6_endYear 101 = .ok (.iaload, 1) := by decide +kernel
theorem dX6_endYear_102 : decode cX6_endYear 102 = .ok (.iconst 1, 1) := by decide +kernel
theorem dX6_endYear_103 : decode cX6_endYear 103 = .ok (.iadd, 1) := by decide +kernel
theorem dX6_endYear_104 : decode cX6_endYear 104 = .ok (.iastore, 1) := by decide +kernel
theorem dX6_endYear_105 : decode cX6_endYear 105 = .ok (.iconst 0, 1) := by decide +kernel
theorem dX6_endYear_106 : decode cX6_endYear 106 = .ok (.istore_n 2, 1) := by decide +kernel
theorem dX6_endYear_107 : decode cX6_endYear 107 = .ok (.iload_n 2, 1) := by decide +kernel
theorem dX6_endYear_108 : decode cX6_endYear 108 = .ok (.bipush 10, 2) := by decide +kernel
theorem dX6_endYear_110 : decode cX6_endYear 110 = .ok (.if_icmp .ge 23, 3) := by decide +kernel
theorem dX6_endYear_113 : decode cX6_endYear 113 = .ok (.aload_n 0, 1) := by decide +kernel
theorem dX6_endYear_114 : decode cX6_endYear 114 = .ok (.getfield 7, 3) := by decide +kernel
theorem dX6_endYear_117 : decode cX6_endYear 117 = .ok (.bipush 11, 2) := by decide +kernel
theorem dX6_endYear_119 : decode cX6_endYear 119 = .ok (.iconst 3, 1) := by decide +kernel
theorem dX6_endYear_120 : decode cX6_endYear 120 = .ok (.iload_n 2, 1) := by decide +kernel
theorem dX6_endYear_121 : decode cX6_endYear 121 = .ok (.imul, 1) := by decide +kernel
theorem dX6_endYear_122 : decode cX6_endYear 122 = .ok (.iadd, 1) := by decide +kernel
theorem dX6_endYear_123 : decode cX6_endYear 123 = .ok (.iconst 1, 1) := by decide +kernel
theorem dX6_endYear_124 : decode cX6_endYear 124 = .ok (.iadd, 1) := by decide +kernel
theorem dX6_endYear_125 : decode cX6_endYear 125 = .ok (.iconst 0, 1) := by decide +kernel
theorem dX6_endYear_126 : decode cX6_endYear 126 = .ok (.iastore, 1) := by decide +kernel
theorem dX6_endYear_127 : decode cX6_endYear 127 = .ok (.iinc 2 1, 3) := by decide +kernel
theorem dX6_endYear_130 : decode cX6_endYear 130 = .ok (.goto (-23), 3) := by decide +kernel
theorem dX6_endYear_133 : decode cX6_endYear 133 = .ok (.iconst 0, 1) := by decide +kernel
theorem dX6_endYear_134 : decode cX6_endYear 134 = .ok (.istore_n 2, 1) := by decide +kernel
theorem dX6_endYear_135 : decode cX6_endYear 135 = .ok (.iload_n 2, 1) := by decide +kernel
theorem dX6_endYear_136 : decode cX6_endYear 136 = .ok (.bipush 20, 2) := by decide +kernel
theorem dX6_endYear_138 : decode cX6_endYear 138 = .ok (.if_icmp .ge 28, 3) := by decide +kernel
theorem dX6_endYear_141 : decode cX6_endYear 141 = .ok (.aload_n 0, 1) := by decide +kernel
theorem dX6_endYear_142 : decode cX6_endYear 142 = .ok (.getfield 7, 3) := by decide +kernel
theorem dX6_endYear_145 : decode cX6_endYear 145 = .ok (.bipush 41, 2) := by decide +kernel
theorem dX6_endYear_147 : decode cX6_endYear 147 = .ok (.iconst 3, 1) := by decide +kernel
theorem dX6_endYear_148 : decode cX6_endYear 148 = .ok (.iload_n 2, 1) := by decide +kernel
theorem dX6_endYear_149 : decode cX6_endYear 149 = .ok (.imul, 1) := by decide +kernel
theorem dX6_endYear_150 : decode cX6_endYear 150 = .ok (.iadd, 1) := by decide +kernel
theorem dX6_endYear_151 : decode cX6_endYear 151 = .ok (.iconst 2, 1) := by decide +kernel
theorem dX6_endYear_152 : decode cX6_endYear 152 = .ok (.iadd, 1) := by decide +kernel
theorem dX6_endYear_153 : decode cX6_endYear 153 = .ok (.aload_n 0, 1) := by decide +kernel
theorem dX6_endYear_154 : decode cX6_endYear 154 = .ok (.iload_n 2, 1) := by decide +kernel
theorem dX6_endYear_155 : decode cX6_endYear 155 = .ok (.iconst 1, 1) := by decide +kernel
theorem dX6_endYear_156 : decode cX6_endYear 156 = .ok (.invokevirtual 77, 3) := by decide +kernel
theorem dX6_endYear_159 : decode cX6_endYear 159 = .ok (.iastore, 1) := by decide +kernel
theorem dX6_endYear_160 : decode cX6_endYear 160 = .ok (.iinc 2 1, 3) := by decide +kernel
theorem dX6_endYear_163 : decode cX6_endYear 163 = .ok (.goto (-28), 3) := by decide +kernel
theorem dX6_endYear_166 : decode cX6_endYear 166 = .ok (.iload_n 1, 1) := by decide +kernel
theorem dX6_endYear_167 : decode cX6_endYear 167 = .ok (.ireturn, 1) := by decide +kernel
theorem dX6_type_0 : decode cX6_type 0 = .ok (.aload_n 0, 1) := by decide +kernel
theorem dX6_type_1 : decode cX6_type 1 = .ok (.iconst 0, 1) := by decide +kernel
theorem dX6_type_2 : decode cX6_type 2 = .ok (.putfield 28, 3) := by decide +kernel
theorem dX6_type_5 : decode cX6_type 5 = .ok (.aload_n 0, 1) := by decide +kernel
theorem dX6_type_6 : decode cX6_type 6 = .ok (.getfield 119, 3) := by decide +kernel
theorem dX6_type_9 : decode cX6_type 9 = .ok (.bipush 60, 2) := by decide +kernel
theorem dX6_type_11 : decode cX6_type 11 = .ok (.if_icmp .ne 6, 3) := by decide +kernel
theorem dX6_type_14 : decode cX6_type 14 = .ok (.bipush (-3), 2) := by decide +kernel
theorem dX6_type_16 : decode cX6_type 16 = .ok (.ireturn, 1) := by decide +kernel
theorem dX6_type_17 : decode cX6_type 17 = .ok (.aload_n 0, 1) := by decide +kernel
theorem dX6_type_18 : decode cX6_type 18 = .ok (.getfield 22, 3) := by decide +kernel
theorem dX6_type_21 : decode cX6_type 21 = .ok (.aload_n 0, 1) := by decide +kernel
theorem dX6_type_22 : decode cX6_type 22 = .ok (.getfield 119, 3) := by decide +kernel
theorem dX6_type_25 : decode cX6_type 25 = .ok (.iload_n 1, 1) := by decide +kernel
theorem dX6_type_26 : decode cX6_type 26 = .ok (.iastore, 1) := by decide +kernel
theorem dX6_type_27 : decode cX6_type 27 = .ok (.aload_n 0, 1) := by decide +kernel
theorem dX6_type_28 : decode cX6_type 28 = .ok (.dup, 1) := by decide +kernel
theorem dX6_type_29 : decode cX6_type 29 = .ok (.getfield 119, 3) := by decide +kernel
theorem dX6_type_32 : decode cX6_type 32 = .ok (.iconst 1, 1) := by decide +kernel
theorem dX6_type_33 : decode cX6_type 33 = .ok (.iadd, 1) := by decide +kernel
theorem dX6_type_34 : decode cX6_type 34 = .ok (.putfield 119, 3) := by decide +kernel
theorem dX6_type_37 : decode cX6_type 37 = .ok (.aload_n 0, 1) := by decide +kernel
theorem dX6_type_38 : decode cX6_type 38 = .ok (.getfield 119, 3) := by decide +kernel
theorem dX6_type_41 : decode cX6_type 41 = .ok (.ireturn, 1) := by decide +kernel
theorem dX6_clearText_0 : decode cX6_clearText 0 = .ok (.aload_n 0, 1) := by decide +kernel
theorem dX6_clearText_1 : decode cX6_clearText 1 = .ok (.iconst 0, 1) := by decide +kernel
theorem dX6_clearText_2 : decode cX6_clearText 2 = .ok (.putfield 28, 3) := by decide +kernel
theorem dX6_clearText_5 : decode cX6_clearText 5 = .ok (.aload_n 0, 1) := by decide +kernel
theorem dX6_clearText_6 : decode cX6_clearText 6 = .ok (.getfield 119, 3) := by decide +kernel
theorem dX6_clearText_9 : decode cX6_clearText 9 = .ok (.istore_n 1, 1) := by decide +kernel
theorem dX6_clearText_10 : decode cX6_clearText 10 = .ok (.aload_n 0, 1) := by decide +kernel
theorem dX6_clearText_11 : decode cX6_clearText 11 = .ok (.iconst 0, 1) := by decide +kernel
theorem dX6_clearText_12 : decode cX6_clearText 12 = .ok (.putfield 119, 3) := by decide +kernel
theorem dX6_clearText_15 : decode cX6_clearText 15 = .ok (.iload_n 1, 1) := by decide +kernel
theorem dX6_clearText_16 : decode cX6_clearText 16 = .ok (.ireturn, 1) := by decide +kernel
theorem dX6_sign_0 : decode cX6_sign 0 = .ok (.aload_n 0, 1) := by decide +kernel
theorem dX6_sign_1 : decode cX6_sign 1 = .ok (.getfield 122, 3) := by decide +kernel
theorem dX6_sign_4 : decode cX6_sign 4 = .ok (.aload_n 0, 1) := by decide +kernel
theorem dX6_sign_5 : decode cX6_sign 5 = .ok (.getfield 119, 3) := by decide +kernel
theorem dX6_sign_8 : decode cX6_sign 8 = .ok (.if_icmp .ge 15, 3) := by decide +kernel
theorem dX6_sign_11 : decode cX6_sign 11 = .ok (.aload_n 0, 1) := by decide +kernel
theorem dX6_sign_12 : decode cX6_sign 12 = .ok (.getfield 22, 3) := by decide +kernel
theorem dX6_sign_15 : decode cX6_sign 15 = .ok (.aload_n 0, 1) := by decide +kernel
theorem dX6_sign_16 : decode cX6_sign 16 = .ok (.getfield 122, 3) := by decide +kernel
theorem dX6_sign_19 : decode cX6_sign 19 = .ok (.iaload, 1) := by decide +kernel
theorem dX6_sign_20 : decode cX6_sign 20 = .ok (.goto 4, 3) := by decide +kernel
theorem dX6_sign_23 : decode cX6_sign 23 = .ok (.iconst 0, 1) := by decide +kernel
theorem dX6_sign_24 : decode cX6_sign 24 = .ok (.ireturn, 1) := by decide +kernel
theorem dX6_number_0 : decode cX6_number 0 = .ok (.aload_n 0, 1) := by decide +kernel
theorem dX6_number_1 : decode cX6_number 1 = .ok (.invokevirtual 125, 3) := by decide +kernel
theorem dX6_number_4 : decode cX6_number 4 = .ok (.bipush 48, 2) := by decide +kernel
theorem dX6_number_6 : decode cX6_number 6 = .ok (.bipush 57, 2) := by decide +kernel
theorem dX6_number_8 : decode cX6_number 8 = .ok (.invokestatic 32, 3) := by decide +kernel
theorem dX6_number_11 : decode cX6_number 11 = .ok (.ifCond .ne 5, 3) := by decide +kernel
theorem dX6_number_14 : decode cX6_number 14 = .ok (.iconst 1, 1) := by decide +kernel
theorem dX6_number_15 : decode cX6_number 15 = .ok (.ireturn, 1) := by decide +kernel
theorem dX6_number_16 : decode cX6_number 16 = .ok (.aload_n 0, 1) := by decide +kernel
theorem dX6_number_17 : decode cX6_number 17 = .ok (.aload_n 0, 1) := by decide +kernel
theorem dX6_number_18 : decode cX6_number 18 = .ok (.invokevirtual 125, 3) := by decide +kernel
theorem dX6_number_21 : decode cX6_number 21 = .ok (.bipush 48, 2) := by decide +kernel
theorem dX6_number_23 : decode cX6_number 23 = .ok (.if_icmp .eq 7, 3) := by decide +kernel
theorem dX6_number_26 : decode cX6_number 26 = .ok (.iconst 1, 1) := by decide +kernel
theorem dX6_number_27 : decode cX6_number 27 = .ok (.goto 4, 3) := by decide +kernel
theorem dX6_number_30 : decode cX6_number 30 = .ok (.iconst 0, 1) := by decide +kernel
theorem dX6_number_31 : decode cX6_number 31 = .ok (.putfield 128, 3) := by decide +kernel
theorem dX6_number_34 : decode cX6_number 34 = .ok (.aload_n 0, 1) := by decide +kernel
theorem dX6_number_35 : decode cX6_number 35 = .ok (.invokevirtual 125, 3) := by decide +kernel
theorem dX6_number_38 : decode cX6_number 38 = .ok (.bipush 48, 2) := by decide +kernel
theorem dX6_number_40 : decode cX6_number 40 = .ok (.isub, 1) := by decide +kernel
theorem dX6_number_41 : decode cX6_number 41 = .ok (.istore_n 1, 1) := by decide +kernel
theorem dX6_number_42 : decode cX6_number 42 = .ok (.aload_n 0, 1) := by decide +kernel
theorem dX6_number_43 : decode cX6_number 43 = .ok (.dup, 1) := by decide +kernel
theorem dX6_number_44 : decode cX6_number 44 = .ok (.getfield 122, 3) := by decide +kernel
theorem dX6_number_47 : decode cX6_number 47 = .ok (.aload_n 0, 1) := by decide +kernel
theorem dX6_number_48 : decode cX6_number 48 = .ok (.getfield 128, 3) := by decide +kernel
theorem dX6_number_51 : decode cX6_number 51 = .ok (.ifCond .eq 7, 3) := by decide +kernel
theorem dX6_number_54 : decode cX6_number 54 = .ok (.iconst 1, 1) := by decide +kernel
theorem dX6_number_55 : decode cX6_number 55 = .ok (.goto 4, 3) := by decide +kernel
theorem dX6_number_58 : decode cX6_number 58 = .ok (.iconst 0, 1) := by decide +kernel
theorem dX6_number_59 : decode cX6_number 59 = .ok (.iadd, 1) := by decide +kernel
theorem dX6_number_60 : decode cX6_number 60 = .ok (.putfield 122, 3) := by decide +kernel
theorem dX6_number_63 : decode cX6_number 63 = .ok (.aload_n 0, 1) := by decide +kernel
theorem dX6_number_64 : decode cX6_number 64 = .ok (.getfield 128, 3) := by decide +kernel
theorem dX6_number_67 : decode cX6_number 67 = .ok (.ifCond .eq 57, 3) := by decide +kernel
theorem dX6_number_70 : decode cX6_number 70 = .ok (.aload_n 0, 1) := by decide +kernel
theorem dX6_number_71 : decode cX6_number 71 = .ok (.invokevirtual 125, 3) := by decide +kernel
theorem dX6_number_74 : decode cX6_number 74 = .ok (.bipush 48, 2) := by decide +kernel
theorem dX6_number_76 : decode cX6_number 76 = .ok (.bipush 57, 2) := by decide +kernel
theorem dX6_number_78 : decode cX6_number 78 = .ok (.invokestatic 32, 3) := by decide +kernel
theorem dX6_number_81 : decode cX6_number 81 = .ok (.ifCond .eq 43, 3) := by decide +kernel
theorem dX6_number_84 : decode cX6_number 84 = .ok (.bipush 10, 2) := by decide +kernel
theorem dX6_number_86 : decode cX6_number 86 = .ok (.iload_n 1, 1) := by decide +kernel
theorem dX6_number_87 : decode cX6_number 87 = .ok (.imul, 1) := by decide +kernel
theorem dX6_number_88 : decode cX6_number 88 = .ok (.aload_n 0, 1) := by decide +kernel
theorem dX6_number_89 : decode cX6_number 89 = .ok (.invokevirtual 125, 3) := by decide +kernel
theorem dX6_number_92 : decode cX6_number 92 = .ok (.iadd, 1) := by decide +kernel
theorem dX6_number_93 : decode cX6_number 93 = .ok (.bipush 48, 2) := by decide +kernel
theorem dX6_number_95 : decode cX6_number 95 = .ok (.isub, 1) := by decide +kernel
theorem dX6_number_96 : decode cX6_number 96 = .ok (.bipush 60, 2) := by decide +kernel
theorem dX6_number_98 : decode cX6_number 98 = .ok (.if_icmp .gt 26, 3) := by decide +kernel
theorem dX6_number_101 : decode cX6_number 101 = .ok (.bipush 10, 2) := by decide +kernel
theorem dX6_number_103 : decode cX6_number 103 = .ok (.iload_n 1, 1) := by decide +kernel
theorem dX6_number_104 : decode cX6_number 104 = .ok (.imul, 1) := by decide +kernel
theorem dX6_number_105 : decode cX6_number 105 = .ok (.aload_n 0, 1) := by decide +kernel
theorem dX6_number_106 : decode cX6_number 106 = .ok (.invokevirtual 125, 3) := by decide +kernel
theorem dX6_number_109 : decode cX6_number 109 = .ok (.iadd, 1) := by decide +kernel
theorem dX6_number_110 : decode cX6_number 110 = .ok (.bipush 48, 2) := by decide +kernel
theorem dX6_number_112 : decode cX6_number 112 = .ok (.isub, 1) := by decide +kernel
theorem dX6_number_113 : decode cX6_number 113 = .ok (.istore_n 1, 1) := by decide +kernel
theorem dX6_number_114 : decode cX6_number 114 = .ok (.aload_n 0, 1) := by decide +kernel
theorem dX6_number_115 : decode cX6_number 115 = .ok (.dup, 1) := by decide +kernel
theorem dX6_number_116 : decode cX6_number 116 = .ok (.getfield 122, 3) := by decide +kernel
theorem dX6_number_119 : decode cX6_number 119 = .ok (.iconst 1, 1) := by decide +kernel
theorem dX6_number_120 : decode cX6_number 120 = .ok (.iadd, 1) := by decide +kernel
theorem dX6_number_121 : decode cX6_number 121 = .ok (.putfield 122, 3) := by decide +kernel
theorem dX6_number_124 : decode cX6_number 124 = .ok (.aload_n 0, 1) := by decide +kernel
theorem dX6_number_125 : decode cX6_number 125 = .ok (.aload_n 0, 1) := by decide +kernel
theorem dX6_number_126 : decode cX6_number 126 = .ok (.getfield 128, 3) := by decide +kernel
theorem dX6_number_129 : decode cX6_number 129 = .ok (.ifCond .eq 12, 3) := by decide +kernel
theorem dX6_number_132 : decode cX6_number 132 = .ok (.iload_n 1, 1) := by decide +kernel
theorem dX6_number_133 : decode cX6_number 133 = .ok (.iconst 1, 1) := by decide +kernel
theorem dX6_number_134 : decode cX6_number 134 = .ok (.if_icmp .le 7, 3) := by decide +kernel
theorem dX6_number_137 : decode cX6_number 137 = .ok (.iconst 1, 1) := by decide +kernel
theorem dX6_number_138 : decode cX6_number 138 = .ok (.goto 4, 3) := by decide +kernel
theorem dX6_number_141 : decode cX6_number 141 = .ok (.iconst 0, 1) := by decide +kernel
theorem dX6_number_142 : decode cX6_number 142 = .ok (.putfield 128, 3) := by decide +kernel
theorem dX6_number_145 : decode cX6_number 145 = .ok (.iload_n 1, 1) := by decide +kernel
theorem dX6_number_146 : decode cX6_number 146 = .ok (.ireturn, 1) := by decide +kernel
theorem dX6_readsGroup_0 : decode cX6_readsGroup 0 = .ok (.aload_n 0, 1) := by decide +kernel
theorem dX6_readsGroup_1 : decode cX6_readsGroup 1 = .ok (.invokevirtual 125, 3) := by decide +kernel
theorem dX6_readsGroup_4 : decode cX6_readsGroup 4 = .ok (.istore_n 1, 1) := by decide +kernel
theorem dX6_readsGroup_5 : decode cX6_readsGroup 5 = .ok (.aload_n 0, 1) := by decide +kernel
theorem dX6_readsGroup_6 : decode cX6_readsGroup 6 = .ok (.iload_n 1, 1) := by decide +kernel
theorem dX6_readsGroup_7 : decode cX6_readsGroup 7 = .ok (.bipush 115, 2) := by decide +kernel
theorem dX6_readsGroup_9 : decode cX6_readsGroup 9 = .ok (.if_icmp .eq 15, 3) := by decide +kernel
theorem dX6_readsGroup_12 : decode cX6_readsGroup 12 = .ok (.iload_n 1, 1) := by decide +kernel
theorem dX6_readsGroup_13 : decode cX6_readsGroup 13 = .ok (.bipush 99, 2) := by decide +kernel
theorem dX6_readsGroup_15 : decode cX6_readsGroup 15 = .ok (.if_icmp .eq 9, 3) := by decide +kernel
theorem dX6_readsGroup_18 : decode cX6_readsGroup 18 = .ok (.iload_n 1, 1) := by decide +kernel
theorem dX6_readsGroup_19 : decode cX6_readsGroup 19 = .ok (.bipush 114, 2) := by decide +kernel
theorem dX6_readsGroup_21 : decode cX6_readsGroup 21 = .ok (.if_icmp .ne 7, 3) := by decide +kernel
theorem dX6_readsGroup_24 : decode cX6_readsGroup 24 = .ok (.iconst 1, 1) := by decide +kernel
theorem dX6_readsGroup_25 : decode cX6_readsGroup 25 = .ok (.goto 4, 3) := by decide +kernel
theorem dX6_readsGroup_28 : decode cX6_readsGroup 28 = .ok (.iconst 0, 1) := by decide +kernel
theorem dX6_readsGroup_29 : decode cX6_readsGroup 29 = .ok (.putfield 128, 3) := by decide +kernel
theorem dX6_readsGroup_32 : decode cX6_readsGroup 32 = .ok (.aload_n 0, 1) := by decide +kernel
theorem dX6_readsGroup_33 : decode cX6_readsGroup 33 = .ok (.dup, 1) := by decide +kernel
theorem dX6_readsGroup_34 : decode cX6_readsGroup 34 = .ok (.getfield 122, 3) := by decide +kernel
theorem dX6_readsGroup_37 : decode cX6_readsGroup 37 = .ok (.aload_n 0, 1) := by decide +kernel
theorem dX6_readsGroup_38 : decode cX6_readsGroup 38 = .ok (.getfield 128, 3) := by decide +kernel
theorem dX6_readsGroup_41 : decode cX6_readsGroup 41 = .ok (.ifCond .eq 7, 3) := by decide +kernel
theorem dX6_readsGroup_44 : decode cX6_readsGroup 44 = .ok (.iconst 1, 1) := by decide +kernel
theorem dX6_readsGroup_45 : decode cX6_readsGroup 45 = .ok (.goto 4, 3) := by decide +kernel
theorem dX6_readsGroup_48 : decode cX6_readsGroup 48 = .ok (.iconst 0, 1) := by decide +kernel
theorem dX6_readsGroup_49 : decode cX6_readsGroup 49 = .ok (.iadd, 1) := by decide +kernel
theorem dX6_readsGroup_50 : decode cX6_readsGroup 50 = .ok (.putfield 122, 3) := by decide +kernel
theorem dX6_readsGroup_53 : decode cX6_readsGroup 53 = .ok (.aload_n 0, 1) := by decide +kernel
theorem dX6_readsGroup_54 : decode cX6_readsGroup 54 = .ok (.getfield 25, 3) := by decide +kernel
theorem dX6_readsGroup_57 : decode cX6_readsGroup 57 = .ok (.iconst 2, 1) := by decide +kernel
theorem dX6_readsGroup_58 : decode cX6_readsGroup 58 = .ok (.aload_n 0, 1) := by decide +kernel
theorem dX6_readsGroup_59 : decode cX6_readsGroup 59 = .ok (.getfield 110, 3) := by decide +kernel
theorem dX6_readsGroup_62 : decode cX6_readsGroup 62 = .ok (.imul, 1) := by decide +kernel
theorem dX6_readsGroup_63 : decode cX6_readsGroup 63 = .ok (.iload_n 1, 1) := by decide +kernel
theorem dX6_readsGroup_64 : decode cX6_readsGroup 64 = .ok (.bipush 115, 2) := by decide +kernel
theorem dX6_readsGroup_66 : decode cX6_readsGroup 66 = .ok (.if_icmp .ne 7, 3) := by decide +kernel
theorem dX6_readsGroup_69 : decode cX6_readsGroup 69 = .ok (.iconst 0, 1) := by decide +kernel
theorem dX6_readsGroup_70 : decode cX6_readsGroup 70 = .ok (.goto 14, 3) := by decide +kernel
theorem dX6_readsGroup_73 : decode cX6_readsGroup 73 = .ok (.iload_n 1, 1) := by decide +kernel
theorem dX6_readsGroup_74 : decode cX6_readsGroup 74 = .ok (.bipush 99, 2) := by decide +kernel
theorem dX6_readsGroup_76 : decode cX6_readsGroup 76 = .ok (.if_icmp .ne 7, 3) := by decide +kernel
theorem dX6_readsGroup_79 : decode cX6_readsGroup 79 = .ok (.iconst 1, 1) := by decide +kernel
theorem dX6_readsGroup_80 : decode cX6_readsGroup 80 = .ok (.goto 4, 3) := by decide +kernel
theorem dX6_readsGroup_83 : decode cX6_readsGroup 83 = .ok (.iconst 2, 1) := by decide +kernel
theorem dX6_readsGroup_84 : decode cX6_readsGroup 84 = .ok (.iastore, 1) := by decide +kernel
theorem dX6_readsGroup_85 : decode cX6_readsGroup 85 = .ok (.aload_n 0, 1) := by decide +kernel
theorem dX6_readsGroup_86 : decode cX6_readsGroup 86 = .ok (.getfield 25, 3) := by decide +kernel
theorem dX6_readsGroup_89 : decode cX6_readsGroup 89 = .ok (.iconst 2, 1) := by decide +kernel
theorem dX6_readsGroup_90 : decode cX6_readsGroup 90 = .ok (.aload_n 0, 1) := by decide +kernel
theorem dX6_readsGroup_91 : decode cX6_readsGroup 91 = .ok (.getfield 110, 3) := by decide +kernel
theorem dX6_readsGroup_94 : decode cX6_readsGroup 94 = .ok (.imul, 1) := by decide +kernel
theorem dX6_readsGroup_95 : decode cX6_readsGroup 95 = .ok (.iconst 1, 1) := by decide +kernel
theorem dX6_readsGroup_96 : decode cX6_readsGroup 96 = .ok (.iadd, 1) := by decide +kernel
theorem dX6_readsGroup_97 : decode cX6_readsGroup 97 = .ok (.aload_n 0, 1) := by decide +kernel
theorem dX6_readsGroup_98 : decode cX6_readsGroup 98 = .ok (.getfield 128, 3) := by decide +kernel
theorem dX6_readsGroup_101 : decode cX6_readsGroup 101 = .ok (.ifCond .eq 10, 3) := by decide +kernel
theorem dX6_readsGroup_104 : decode cX6_readsGroup 104 = .ok (.aload_n 0, 1) := by decide +kernel
theorem dX6_readsGroup_105 : decode cX6_readsGroup 105 = .ok (.invokevirtual 132, 3) := by decide +kernel
theorem dX6_readsGroup_108 : decode cX6_readsGroup 108 = .ok (.goto 4, 3) := by decide +kernel
theorem dX6_readsGroup_111 : decode cX6_readsGroup 111 = .ok (.iconst 0, 1) := by decide +kernel
theorem dX6_readsGroup_112 : decode cX6_readsGroup 112 = .ok (.iastore, 1) := by decide +kernel
theorem dX6_readsGroup_113 : decode cX6_readsGroup 113 = .ok (.aload_n 0, 1) := by decide +kernel
theorem dX6_readsGroup_114 : decode cX6_readsGroup 114 = .ok (.dup, 1) := by decide +kernel
theorem dX6_readsGroup_115 : decode cX6_readsGroup 115 = .ok (.getfield 110, 3) := by decide +kernel
theorem dX6_readsGroup_118 : decode cX6_readsGroup 118 = .ok (.aload_n 0, 1) := by decide +kernel
theorem dX6_readsGroup_119 : decode cX6_readsGroup 119 = .ok (.getfield 128, 3) := by decide +kernel
theorem dX6_readsGroup_122 : decode cX6_readsGroup 122 = .ok (.ifCond .eq 7, 3) := by decide +kernel
theorem dX6_readsGroup_125 : decode cX6_readsGroup 125 = .ok (.iconst 1, 1) := by decide +kernel
theorem dX6_readsGroup_126 : decode cX6_readsGroup 126 = .ok (.goto 4, 3) := by decide +kernel
theorem dX6_readsGroup_129 : decode cX6_readsGroup 129 = .ok (.iconst 0, 1) := by decide +kernel
theorem dX6_readsGroup_130 : decode cX6_readsGroup 130 = .ok (.iadd, 1) := by decide +kernel
theorem dX6_readsGroup_131 : decode cX6_readsGroup 131 = .ok (.putfield 110, 3) := by decide +kernel
theorem dX6_readsGroup_134 : decode cX6_readsGroup 134 = .ok (.return_, 1) := by decide +kernel
theorem dX6_reads_0 : decode cX6_reads 0 = .ok (.aload_n 0, 1) := by decide +kernel
theorem dX6_reads_1 : decode cX6_reads 1 = .ok (.iconst 0, 1) := by decide +kernel
theorem dX6_reads_2 : decode cX6_reads 2 = .ok (.putfield 122, 3) := by decide +kernel
theorem dX6_reads_5 : decode cX6_reads 5 = .ok (.aload_n 0, 1) := by decide +kernel
theorem dX6_reads_6 : decode cX6_reads 6 = .ok (.iconst 0, 1) := by decide +kernel
theorem dX6_reads_7 : decode cX6_reads 7 = .ok (.putfield 110, 3) := by decide +kernel
theorem dX6_reads_10 : decode cX6_reads 10 = .ok (.aload_n 0, 1) := by decide +kernel
theorem dX6_reads_11 : decode cX6_reads 11 = .ok (.invokevirtual 135, 3) := by decide +kernel
theorem dX6_reads_14 : decode cX6_reads 14 = .ok (.aload_n 0, 1) := by decide +kernel
theorem dX6_reads_15 : decode cX6_reads 15 = .ok (.getfield 128, 3) := by decide +kernel
theorem dX6_reads_18 : decode cX6_reads 18 = .ok (.ifCond .eq 21, 3) := by decide +kernel
theorem dX6_reads_21 : decode cX6_reads 21 = .ok (.aload_n 0, 1) := by decide +kernel
theorem dX6_reads_22 : decode cX6_reads 22 = .ok (.getfield 122, 3) := by decide +kernel
theorem dX6_reads_25 : decode cX6_reads 25 = .ok (.aload_n 0, 1) := by decide +kernel
theorem dX6_reads_26 : decode cX6_reads 26 = .ok (.getfield 119, 3) := by decide +kernel
theorem dX6_reads_29 : decode cX6_reads 29 = .ok (.if_icmp .ge 10, 3) := by decide +kernel
theorem dX6_reads_32 : decode cX6_reads 32 = .ok (.aload_n 0, 1) := by decide +kernel
theorem dX6_reads_33 : decode cX6_reads 33 = .ok (.invokevirtual 135, 3) := by decide +kernel
theorem dX6_reads_36 : decode cX6_reads 36 = .ok (.goto (-22), 3) := by decide +kernel
theorem dX6_reads_39 : decode cX6_reads 39 = .ok (.aload_n 0, 1) := by decide +kernel
theorem dX6_reads_40 : decode cX6_reads 40 = .ok (.getfield 128, 3) := by decide +kernel
theorem dX6_reads_43 : decode cX6_reads 43 = .ok (.ifCond .eq 8, 3) := by decide +kernel
theorem dX6_reads_46 : decode cX6_reads 46 = .ok (.bipush (-5), 2) := by decide +kernel
theorem dX6_reads_48 : decode cX6_reads 48 = .ok (.goto 7, 3) := by decide +kernel
theorem dX6_reads_51 : decode cX6_reads 51 = .ok (.aload_n 0, 1) := by decide +kernel
theorem dX6_reads_52 : decode cX6_reads 52 = .ok (.getfield 122, 3) := by decide +kernel
theorem dX6_reads_55 : decode cX6_reads 55 = .ok (.ireturn, 1) := by decide +kernel
theorem dX6_undo_0 : decode cX6_undo 0 = .ok (.aload_n 0, 1) := by decide +kernel
theorem dX6_undo_1 : decode cX6_undo 1 = .ok (.iconst 0, 1) := by decide +kernel
theorem dX6_undo_2 : decode cX6_undo 2 = .ok (.putfield 28, 3) := by decide +kernel
theorem dX6_undo_5 : decode cX6_undo 5 = .ok (.aload_n 0, 1) := by decide +kernel
theorem dX6_undo_6 : decode cX6_undo 6 = .ok (.getfield 40, 3) := by decide +kernel
theorem dX6_undo_9 : decode cX6_undo 9 = .ok (.ifCond .ne 6, 3) := by decide +kernel
theorem dX6_undo_12 : decode cX6_undo 12 = .ok (.bipush (-5), 2) := by decide +kernel
theorem dX6_undo_14 : decode cX6_undo 14 = .ok (.ireturn, 1) := by decide +kernel
theorem dX6_undo_15 : decode cX6_undo 15 = .ok (.aload_n 0, 1) := by decide +kernel
theorem dX6_undo_16 : decode cX6_undo 16 = .ok (.dup, 1) := by decide +kernel
theorem dX6_undo_17 : decode cX6_undo 17 = .ok (.getfield 40, 3) := by decide +kernel
theorem dX6_undo_20 : decode cX6_undo 20 = .ok (.iconst 1, 1) := by decide +kernel
theorem dX6_undo_21 : decode cX6_undo 21 = .ok (.isub, 1) := by decide +kernel
theorem dX6_undo_22 : decode cX6_undo 22 = .ok (.putfield 40, 3) := by decide +kernel
theorem dX6_undo_25 : decode cX6_undo 25 = .ok (.iconst 0, 1) := by decide +kernel
theorem dX6_undo_26 : decode cX6_undo 26 = .ok (.istore_n 1, 1) := by decide +kernel
theorem dX6_undo_27 : decode cX6_undo 27 = .ok (.iload_n 1, 1) := by decide +kernel
theorem dX6_undo_28 : decode cX6_undo 28 = .ok (.sipush 941, 3) := by decide +kernel
theorem dX6_undo_31 : decode cX6_undo 31 = .ok (.if_icmp .ge 30, 3) := by decide +kernel
theorem dX6_undo_34 : decode cX6_undo 34 = .ok (.aload_n 0, 1) := by decide +kernel
theorem dX6_undo_35 : decode cX6_undo 35 = .ok (.getfield 7, 3) := by decide +kernel
theorem dX6_undo_38 : decode cX6_undo 38 = .ok (.iload_n 1, 1) := by decide +kernel
theorem dX6_undo_39 : decode cX6_undo 39 = .ok (.aload_n 0, 1) := by decide +kernel
theorem dX6_undo_40 : decode cX6_undo 40 = .ok (.getfield 16, 3) := by decide +kernel
theorem dX6_undo_43 : decode cX6_undo 43 = .ok (.sipush 941, 3) := by decide +kernel
theorem dX6_undo_46 : decode cX6_undo 46 = .ok (.aload_n 0, 1) := by decide +kernel
theorem dX6_undo_47 : decode cX6_undo 47 = .ok (.getfield 40, 3) := by decide +kernel
theorem dX6_undo_50 : decode cX6_undo 50 = .ok (.imul, 1) := by decide +kernel
theorem dX6_undo_51 : decode cX6_undo 51 = .ok (.iload_n 1, 1) := by decide +kernel
theorem dX6_undo_52 : decode cX6_undo 52 = .ok (.iadd, 1) := by decide +kernel
theorem dX6_undo_53 : decode cX6_undo 53 = .ok (.iaload, 1) := by decide +kernel
theorem dX6_undo_54 : decode cX6_undo 54 = .ok (.iastore, 1) := by decide +kernel
theorem dX6_undo_55 : decode cX6_undo 55 = .ok (.iinc 1 1, 3) := by decide +kernel
theorem dX6_undo_58 : decode cX6_undo 58 = .ok (.goto (-31), 3) := by decide +kernel
theorem dX6_undo_61 : decode cX6_undo 61 = .ok (.aload_n 0, 1) := by decide +kernel
theorem dX6_undo_62 : decode cX6_undo 62 = .ok (.getfield 40, 3) := by decide +kernel
theorem dX6_undo_65 : decode cX6_undo 65 = .ok (.ireturn, 1) := by decide +kernel
theorem dX6_keep_0 : decode cX6_keep 0 = .ok (.aload_n 0, 1) := by decide +kernel
theorem dX6_keep_1 : decode cX6_keep 1 = .ok (.iconst 0, 1) := by decide +kernel
theorem dX6_keep_2 : decode cX6_keep 2 = .ok (.putfield 28, 3) := by decide +kernel
theorem dX6_keep_5 : decode cX6_keep 5 = .ok (.iconst 0, 1) := by decide +kernel
theorem dX6_keep_6 : decode cX6_keep 6 = .ok (.istore_n 1, 1) := by decide +kernel
theorem dX6_keep_7 : decode cX6_keep 7 = .ok (.iload_n 1, 1) := by decide +kernel
theorem dX6_keep_8 : decode cX6_keep 8 = .ok (.sipush 941, 3) := by decide +kernel
theorem dX6_keep_11 : decode cX6_keep 11 = .ok (.if_icmp .ge 21, 3) := by decide +kernel
theorem dX6_keep_14 : decode cX6_keep 14 = .ok (.aload_n 0, 1) := by decide +kernel
theorem dX6_keep_15 : decode cX6_keep 15 = .ok (.getfield 19, 3) := by decide +kernel
theorem dX6_keep_18 : decode cX6_keep 18 = .ok (.iload_n 1, 1) := by decide +kernel
theorem dX6_keep_19 : decode cX6_keep 19 = .ok (.aload_n 0, 1) := by decide +kernel
theorem dX6_keep_20 : decode cX6_keep 20 = .ok (.getfield 7, 3) := by decide +kernel
theorem dX6_keep_23 : decode cX6_keep 23 = .ok (.iload_n 1, 1) := by decide +kernel
theorem dX6_keep_24 : decode cX6_keep 24 = .ok (.iaload, 1) := by decide +kernel
theorem dX6_keep_25 : decode cX6_keep 25 = .ok (.iastore, 1) := by decide +kernel
theorem dX6_keep_26 : decode cX6_keep 26 = .ok (.iinc 1 1, 3) := by decide +kernel
theorem dX6_keep_29 : decode cX6_keep 29 = .ok (.goto (-22), 3) := by decide +kernel
theorem dX6_keep_32 : decode cX6_keep 32 = .ok (.aload_n 0, 1) := by decide +kernel
theorem dX6_keep_33 : decode cX6_keep 33 = .ok (.iconst 1, 1) := by decide +kernel
theorem dX6_keep_34 : decode cX6_keep 34 = .ok (.putfield 138, 3) := by decide +kernel
theorem dX6_keep_37 : decode cX6_keep 37 = .ok (.aload_n 0, 1) := by decide +kernel
theorem dX6_keep_38 : decode cX6_keep 38 = .ok (.getfield 7, 3) := by decide +kernel
theorem dX6_keep_41 : decode cX6_keep 41 = .ok (.iconst 4, 1) := by decide +kernel
theorem dX6_keep_42 : decode cX6_keep 42 = .ok (.iaload, 1) := by decide +kernel
theorem dX6_keep_43 : decode cX6_keep 43 = .ok (.ireturn, 1) := by decide +kernel
theorem dX6_restore_0 : decode cX6_restore 0 = .ok (.aload_n 0, 1) := by decide +kernel
theorem dX6_restore_1 : decode cX6_restore 1 = .ok (.iconst 0, 1) := by decide +kernel
theorem dX6_restore_2 : decode cX6_restore 2 = .ok (.putfield 28, 3) := by decide +kernel
theorem dX6_restore_5 : decode cX6_restore 5 = .ok (.aload_n 0, 1) := by decide +kernel
theorem dX6_restore_6 : decode cX6_restore 6 = .ok (.getfield 138, 3) := by decide +kernel
theorem dX6_restore_9 : decode cX6_restore 9 = .ok (.ifCond .ne 6, 3) := by decide +kernel
theorem dX6_restore_12 : decode cX6_restore 12 = .ok (.bipush (-5), 2) := by decide +kernel
theorem dX6_restore_14 : decode cX6_restore 14 = .ok (.ireturn, 1) := by decide +kernel
theorem dX6_restore_15 : decode cX6_restore 15 = .ok (.aload_n 0, 1) := by decide +kernel
theorem dX6_restore_16 : decode cX6_restore 16 = .ok (.invokevirtual 80, 3) := by decide +kernel
theorem dX6_restore_19 : decode cX6_restore 19 = .ok (.iconst 0, 1) := by decide +kernel
theorem dX6_restore_20 : decode cX6_restore 20 = .ok (.istore_n 1, 1) := by decide +kernel
theorem dX6_restore_21 : decode cX6_restore 21 = .ok (.iload_n 1, 1) := by decide +kernel
theorem dX6_restore_22 : decode cX6_restore 22 = .ok (.sipush 941, 3) := by decide +kernel
theorem dX6_restore_25 : decode cX6_restore 25 = .ok (.if_icmp .ge 21, 3) := by decide +kernel
theorem dX6_restore_28 : decode cX6_restore 28 = .ok (.aload_n 0, 1) := by decide +kernel
theorem dX6_restore_29 : decode cX6_restore 29 = .ok (.getfield 7, 3) := by decide +kernel
theorem dX6_restore_32 : decode cX6_restore 32 = .ok (.iload_n 1, 1) := by decide +kernel
theorem dX6_restore_33 : decode cX6_restore 33 = .ok (.aload_n 0, 1) := by decide +kernel
theorem dX6_restore_34 : decode cX6_restore 34 = .ok (.getfield 19, 3) := by decide +kernel
theorem dX6_restore_37 : decode cX6_restore 37 = .ok (.iload_n 1, 1) := by decide +kernel
theorem dX6_restore_38 : decode cX6_restore 38 = .ok (.iaload, 1) := by decide +kernel
theorem dX6_restore_39 : decode cX6_restore 39 = .ok (.iastore, 1) := by decide +kernel
theorem dX6_restore_40 : decode cX6_restore 40 = .ok (.iinc 1 1, 3) := by decide +kernel
theorem dX6_restore_43 : decode cX6_restore 43 = .ok (.goto (-22), 3) := by decide +kernel
theorem dX6_restore_46 : decode cX6_restore 46 = .ok (.aload_n 0, 1) := by decide +kernel
theorem dX6_restore_47 : decode cX6_restore 47 = .ok (.getfield 7, 3) := by decide +kernel
theorem dX6_restore_50 : decode cX6_restore 50 = .ok (.iconst 4, 1) := by decide +kernel
theorem dX6_restore_51 : decode cX6_restore 51 = .ok (.iaload, 1) := by decide +kernel
theorem dX6_restore_52 : decode cX6_restore 52 = .ok (.ireturn, 1) := by decide +kernel
theorem dX6_plotsOf_0 : decode cX6_plotsOf 0 = .ok (.iconst 0, 1) := by decide +kernel
theorem dX6_plotsOf_1 : decode cX6_plotsOf 1 = .ok (.istore_n 3, 1) := by decide +kernel
theorem dX6_plotsOf_2 : decode cX6_plotsOf 2 = .ok (.iconst 0, 1) := by decide +kernel
theorem dX6_plotsOf_3 : decode cX6_plotsOf 3 = .ok (.istore 4, 2) := by decide +kernel
theorem dX6_plotsOf_5 : decode cX6_plotsOf 5 = .ok (.iload 4, 2) := by decide +kernel
theorem dX6_plotsOf_7 : decode cX6_plotsOf 7 = .ok (.bipush 20, 2) := by decide +kernel
theorem dX6_plotsOf_9 : decode cX6_plotsOf 9 = .ok (.if_icmp .ge 28, 3) := by decide +kernel
theorem dX6_plotsOf_12 : decode cX6_plotsOf 12 = .ok (.iload_n 3, 1) := by decide +kernel
theorem dX6_plotsOf_13 : decode cX6_plotsOf 13 = .ok (.aload_n 0, 1) := by decide +kernel
theorem dX6_plotsOf_14 : decode cX6_plotsOf 14 = .ok (.iload 4, 2) := by decide +kernel
theorem dX6_plotsOf_16 : decode cX6_plotsOf 16 = .ok (.iload_n 2, 1) := by decide +kernel
theorem dX6_plotsOf_17 : decode cX6_plotsOf 17 = .ok (.invokevirtual 77, 3) := by decide +kernel
theorem dX6_plotsOf_20 : decode cX6_plotsOf 20 = .ok (.iload_n 1, 1) := by decide +kernel
theorem dX6_plotsOf_21 : decode cX6_plotsOf 21 = .ok (.if_icmp .ne 7, 3) := by decide +kernel
theorem dX6_plotsOf_24 : decode cX6_plotsOf 24 = .ok (.iconst 1, 1) := by decide +kernel
theorem dX6_plotsOf_25 : decode cX6_plotsOf 25 = .ok (.goto 4, 3) := by decide +kernel
theorem dX6_plotsOf_28 : decode cX6_plotsOf 28 = .ok (.iconst 0, 1) := by decide +kernel
theorem dX6_plotsOf_29 : decode cX6_plotsOf 29 = .ok (.iadd, 1) := by decide +kernel
theorem dX6_plotsOf_30 : decode cX6_plotsOf 30 = .ok (.istore_n 3, 1) := by decide +kernel
theorem dX6_plotsOf_31 : decode cX6_plotsOf 31 = .ok (.iinc 4 1, 3) := by decide +kernel
theorem dX6_plotsOf_34 : decode cX6_plotsOf 34 = .ok (.goto (-29), 3) := by decide +kernel
theorem dX6_plotsOf_37 : decode cX6_plotsOf 37 = .ok (.iload_n 3, 1) := by decide +kernel
theorem dX6_plotsOf_38 : decode cX6_plotsOf 38 = .ok (.ireturn, 1) := by decide +kernel
theorem dX6_disputesOf_0 : decode cX6_disputesOf 0 = .ok (.iconst 0, 1) := by decide +kernel
theorem dX6_disputesOf_1 : decode cX6_disputesOf 1 = .ok (.istore_n 2, 1) := by decide +kernel
theorem dX6_disputesOf_2 : decode cX6_disputesOf 2 = .ok (.iconst 0, 1) := by decide +kernel
theorem dX6_disputesOf_3 : decode cX6_disputesOf 3 = .ok (.istore_n 3, 1) := by decide +kernel
theorem dX6_disputesOf_4 : decode cX6_disputesOf 4 = .ok (.iload_n 3, 1) := by decide +kernel
theorem dX6_disputesOf_5 : decode cX6_disputesOf 5 = .ok (.aload_n 0, 1) := by decide +kernel
theorem dX6_disputesOf_6 : decode cX6_disputesOf 6 = .ok (.getfield 7, 3) := by decide +kernel
theorem dX6_disputesOf_9 : decode cX6_disputesOf 9 = .ok (.bipush 7, 2) := by decide +kernel
theorem dX6_disputesOf_11 : decode cX6_disputesOf 11 = .ok (.iaload, 1) := by decide +kernel
theorem dX6_disputesOf_12 : decode cX6_disputesOf 12 = .ok (.if_icmp .ge 37, 3) := by decide +kernel
theorem dX6_disputesOf_15 : decode cX6_disputesOf 15 = .ok (.iload_n 2, 1) := by decide +kernel
theorem dX6_disputesOf_16 : decode cX6_disputesOf 16 = .ok (.aload_n 0, 1) := by decide +kernel
theorem dX6_disputesOf_17 : decode cX6_disputesOf 17 = .ok (.iload_n 3, 1) := by decide +kernel
theorem dX6_disputesOf_18 : decode cX6_disputesOf 18 = .ok (.iconst 0, 1) := by decide +kernel
theorem dX6_disputesOf_19 : decode cX6_disputesOf 19 = .ok (.invokevirtual 113, 3) := by decide +kernel
theorem dX6_disputesOf_22 : decode cX6_disputesOf 22 = .ok (.iload_n 1, 1) := by decide +kernel
theorem dX6_disputesOf_23 : decode cX6_disputesOf 23 = .ok (.if_icmp .eq 13, 3) := by decide +kernel
theorem dX6_disputesOf_26 : decode cX6_disputesOf 26 = .ok (.aload_n 0, 1) := by decide +kernel
theorem dX6_disputesOf_27 : decode cX6_disputesOf 27 = .ok (.iload_n 3, 1) := by decide +kernel
theorem dX6_disputesOf_28 : decode cX6_disputesOf 28 = .ok (.iconst 1, 1) := by decide +kernel
theorem dX6_disputesOf_29 : decode cX6_disputesOf 29 = .ok (.invokevirtual 113, 3) := by decide +kernel
theorem dX6_disputesOf_32 : decode cX6_disputesOf 32 = .ok (.iload_n 1, 1) := by decide +kernel
theorem dX6_disputesOf_33 : decode cX6_disputesOf 33 = .ok (.if_icmp .ne 7, 3) := by decide +kernel
theorem dX6_disputesOf_36 : decode cX6_disputesOf 36 = .ok (.iconst 1, 1) := by decide +kernel
theorem dX6_disputesOf_37 : decode cX6_disputesOf 37 = .ok (.goto 4, 3) := by decide +kernel
theorem dX6_disputesOf_40 : decode cX6_disputesOf 40 = .ok (.iconst 0, 1) := by decide +kernel
theorem dX6_disputesOf_41 : decode cX6_disputesOf 41 = .ok (.iadd, 1) := by decide +kernel
theorem dX6_disputesOf_42 : decode cX6_disputesOf 42 = .ok (.istore_n 2, 1) := by decide +kernel
theorem dX6_disputesOf_43 : decode cX6_disputesOf 43 = .ok (.iinc 3 1, 3) := by decide +kernel
theorem dX6_disputesOf_46 : decode cX6_disputesOf 46 = .ok (.goto (-42), 3) := by decide +kernel
theorem dX6_disputesOf_49 : decode cX6_disputesOf 49 = .ok (.iload_n 2, 1) := by decide +kernel
theorem dX6_disputesOf_50 : decode cX6_disputesOf 50 = .ok (.ireturn, 1) := by decide +kernel
theorem dX6_commoner_0 : decode cX6_commoner 0 = .ok (.aload_n 0, 1) := by decide +kernel
theorem dX6_commoner_1 : decode cX6_commoner 1 = .ok (.iconst 0, 1) := by decide +kernel
theorem dX6_commoner_2 : decode cX6_commoner 2 = .ok (.putfield 28, 3) := by decide +kernel
theorem dX6_commoner_5 : decode cX6_commoner 5 = .ok (.iload_n 1, 1) := by decide +kernel
theorem dX6_commoner_6 : decode cX6_commoner 6 = .ok (.invokestatic 74, 3) := by decide +kernel
theorem dX6_commoner_9 : decode cX6_commoner 9 = .ok (.ifCond .ne 5, 3) := by decide +kernel
theorem dX6_commoner_12 : decode cX6_commoner 12 = .ok (.iconst (-1), 1) := by decide +kernel
theorem dX6_commoner_13 : decode cX6_commoner 13 = .ok (.ireturn, 1) := by decide +kernel
theorem dX6_commoner_14 : decode cX6_commoner 14 = .ok (.iload_n 2, 1) := by decide +kernel
theorem dX6_commoner_15 : decode cX6_commoner 15 = .ok (.tableswitch 90 0 7 #[45, 45, 45, 52, 52, 68, 68, 84], 45) := by decide +kernel
theorem dX6_commoner_60 : decode cX6_commoner 60 = .ok (.aload_n 0, 1) := by decide +kernel
theorem dX6_commoner_61 : decode cX6_commoner 61 = .ok (.iload_n 1, 1) := by decide +kernel
theorem dX6_commoner_62 : decode cX6_commoner 62 = .ok (.iload_n 2, 1) := by decide +kernel
theorem dX6_commoner_63 : decode cX6_commoner 63 = .ok (.invokevirtual 83, 3) := by decide +kernel
theorem dX6_commoner_66 : decode cX6_commoner 66 = .ok (.ireturn, 1) := by decide +kernel
theorem dX6_commoner_67 : decode cX6_commoner 67 = .ok (.aload_n 0, 1) := by decide +kernel
theorem dX6_commoner_68 : decode cX6_commoner 68 = .ok (.iload_n 1, 1) := by decide +kernel
theorem dX6_commoner_69 : decode cX6_commoner 69 = .ok (.iload_n 2, 1) := by decide +kernel
theorem dX6_commoner_70 : decode cX6_commoner 70 = .ok (.iconst 4, 1) := by decide +kernel
theorem dX6_commoner_71 : decode cX6_commoner 71 = .ok (.if_icmp .ne 7, 3) := by decide +kernel
theorem dX6_commoner_74 : decode cX6_commoner 74 = .ok (.iconst 1, 1) := by decide +kernel
theorem dX6_commoner_75 : decode cX6_commoner 75 = .ok (.goto 4, 3) := by decide +kernel
theorem dX6_commoner_78 : decode cX6_commoner 78 = .ok (.iconst 0, 1) := by decide +kernel
theorem dX6_commoner_79 : decode cX6_commoner 79 = .ok (.invokevirtual 99, 3) := by decide +kernel
theorem dX6_commoner_82 : decode cX6_commoner 82 = .ok (.ireturn, 1) := by decide +kernel
theorem dX6_commoner_83 : decode cX6_commoner 83 = .ok (.aload_n 0, 1) := by decide +kernel
theorem dX6_commoner_84 : decode cX6_commoner 84 = .ok (.iload_n 1, 1) := by decide +kernel
theorem dX6_commoner_85 : decode cX6_commoner 85 = .ok (.iload_n 2, 1) := by decide +kernel
theorem dX6_commoner_86 : decode cX6_commoner 86 = .ok (.iconst 5, 1) := by decide +kernel
theorem dX6_commoner_87 : decode cX6_commoner 87 = .ok (.if_icmp .ne 7, 3) := by decide +kernel
theorem dX6_commoner_90 : decode cX6_commoner 90 = .ok (.iconst 1, 1) := by decide +kernel
theorem dX6_commoner_91 : decode cX6_commoner 91 = .ok (.goto 4, 3) := by decide +kernel
theorem dX6_commoner_94 : decode cX6_commoner 94 = .ok (.iconst 2, 1) := by decide +kernel
theorem dX6_commoner_95 : decode cX6_commoner 95 = .ok (.invokevirtual 141, 3) := by decide +kernel
theorem dX6_commoner_98 : decode cX6_commoner 98 = .ok (.ireturn, 1) := by decide +kernel
theorem dX6_commoner_99 : decode cX6_commoner 99 = .ok (.aload_n 0, 1) := by decide +kernel
theorem dX6_commoner_100 : decode cX6_commoner 100 = .ok (.iload_n 1, 1) := by decide +kernel
theorem dX6_commoner_101 : decode cX6_commoner 101 = .ok (.invokevirtual 144, 3) := by decide +kernel
theorem dX6_commoner_104 : decode cX6_commoner 104 = .ok (.ireturn, 1) := by decide +kernel
theorem dX6_commoner_105 : decode cX6_commoner 105 = .ok (.bipush (-2), 2) := by decide +kernel
theorem dX6_commoner_107 : decode cX6_commoner 107 = .ok (.ireturn, 1) := by decide +kernel
theorem dX6_plot_0 : decode cX6_plot 0 = .ok (.aload_n 0, 1) := by decide +kernel
theorem dX6_plot_1 : decode cX6_plot 1 = .ok (.iconst 0, 1) := by decide +kernel
theorem dX6_plot_2 : decode cX6_plot 2 = .ok (.putfield 28, 3) := by decide +kernel
theorem dX6_plot_5 : decode cX6_plot 5 = .ok (.iload_n 1, 1) := by decide +kernel
theorem dX6_plot_6 : decode cX6_plot 6 = .ok (.invokestatic 70, 3) := by decide +kernel
theorem dX6_plot_9 : decode cX6_plot 9 = .ok (.ifCond .ne 5, 3) := by decide +kernel
theorem dX6_plot_12 : decode cX6_plot 12 = .ok (.iconst (-1), 1) := by decide +kernel
theorem dX6_plot_13 : decode cX6_plot 13 = .ok (.ireturn, 1) := by decide +kernel
theorem dX6_plot_14 : decode cX6_plot 14 = .ok (.iload_n 2, 1) := by decide +kernel
theorem dX6_plot_15 : decode cX6_plot 15 = .ok (.iconst 3, 1) := by decide +kernel
theorem dX6_plot_16 : decode cX6_plot 16 = .ok (.if_icmp .ne 24, 3) := by decide +kernel
theorem dX6_plot_19 : decode cX6_plot 19 = .ok (.aload_n 0, 1) := by decide +kernel
theorem dX6_plot_20 : decode cX6_plot 20 = .ok (.iload_n 1, 1) := by decide +kernel
theorem dX6_plot_21 : decode cX6_plot 21 = .ok (.iconst 1, 1) := by decide +kernel
theorem dX6_plot_22 : decode cX6_plot 22 = .ok (.invokevirtual 77, 3) := by decide +kernel
theorem dX6_plot_25 : decode cX6_plot 25 = .ok (.aload_n 0, 1) := by decide +kernel
theorem dX6_plot_26 : decode cX6_plot 26 = .ok (.iload_n 1, 1) := by decide +kernel
theorem dX6_plot_27 : decode cX6_plot 27 = .ok (.iconst 2, 1) := by decide +kernel
theorem dX6_plot_28 : decode cX6_plot 28 = .ok (.invokevirtual 77, 3) := by decide +kernel
theorem dX6_plot_31 : decode cX6_plot 31 = .ok (.if_icmp .ne 7, 3) := by decide +kernel
theorem dX6_plot_34 : decode cX6_plot 34 = .ok (.iconst 0, 1) := by decide +kernel
theorem dX6_plot_35 : decode cX6_plot 35 = .ok (.goto 4, 3) := by decide +kernel
theorem dX6_plot_38 : decode cX6_plot 38 = .ok (.iconst 1, 1) := by decide +kernel
theorem dX6_plot_39 : decode cX6_plot 39 = .ok (.ireturn, 1) := by decide +kernel
theorem dX6_plot_40 : decode cX6_plot 40 = .ok (.iload_n 2, 1) := by decide +kernel
theorem dX6_plot_41 : decode cX6_plot 41 = .ok (.iconst 0, 1) := by decide +kernel
theorem dX6_plot_42 : decode cX6_plot 42 = .ok (.iconst 2, 1) := by decide +kernel
theorem dX6_plot_43 : decode cX6_plot 43 = .ok (.invokestatic 32, 3) := by decide +kernel
theorem dX6_plot_46 : decode cX6_plot 46 = .ok (.ifCond .eq 12, 3) := by decide +kernel
theorem dX6_plot_49 : decode cX6_plot 49 = .ok (.aload_n 0, 1) := by decide +kernel
theorem dX6_plot_50 : decode cX6_plot 50 = .ok (.iload_n 1, 1) := by decide +kernel
theorem dX6_plot_51 : decode cX6_plot 51 = .ok (.iload_n 2, 1) := by decide +kernel
theorem dX6_plot_52 : decode cX6_plot 52 = .ok (.invokevirtual 77, 3) := by decide +kernel
theorem dX6_plot_55 : decode cX6_plot 55 = .ok (.goto 5, 3) := by decide +kernel
theorem dX6_plot_58 : decode cX6_plot 58 = .ok (.bipush (-2), 2) := by decide +kernel
theorem dX6_plot_60 : decode cX6_plot 60 = .ok (.ireturn, 1) := by decide +kernel
theorem dX6_row_0 : decode cX6_row 0 = .ok (.aload_n 0, 1) := by decide +kernel
theorem dX6_row_1 : decode cX6_row 1 = .ok (.iconst 0, 1) := by decide +kernel
theorem dX6_row_2 : decode cX6_row 2 = .ok (.putfield 28, 3) := by decide +kernel
theorem dX6_row_5 : decode cX6_row 5 = .ok (.aload_n 0, 1) := by decide +kernel
theorem dX6_row_6 : decode cX6_row 6 = .ok (.iload_n 1, 1) := by decide +kernel
theorem dX6_row_7 : decode cX6_row 7 = .ok (.invokevirtual 96, 3) := by decide +kernel
theorem dX6_row_10 : decode cX6_row 10 = .ok (.istore_n 3, 1) := by decide +kernel
theorem dX6_row_11 : decode cX6_row 11 = .ok (.iload_n 3, 1) := by decide +kernel
theorem dX6_row_12 : decode cX6_row 12 = .ok (.bipush (-5), 2) := by decide +kernel
theorem dX6_row_14 : decode cX6_row 14 = .ok (.if_icmp .ne 5, 3) := by decide +kernel
theorem dX6_row_17 : decode cX6_row 17 = .ok (.iconst (-1), 1) := by decide +kernel
theorem dX6_row_18 : decode cX6_row 18 = .ok (.ireturn, 1) := by decide +kernel
theorem dX6_row_19 : decode cX6_row 19 = .ok (.iload_n 2, 1) := by decide +kernel
theorem dX6_row_20 : decode cX6_row 20 = .ok (.lookupswitch 51 #[(5, 28), (6, 45)], 28) := by decide +kernel
theorem dX6_row_48 : decode cX6_row 48 = .ok (.aload_n 0, 1) := by decide +kernel
theorem dX6_row_49 : decode cX6_row 49 = .ok (.iload_n 3, 1) := by decide +kernel
theorem dX6_row_50 : decode cX6_row 50 = .ok (.iconst 3, 1) := by decide +kernel
theorem dX6_row_51 : decode cX6_row 51 = .ok (.invokevirtual 36, 3) := by decide +kernel
theorem dX6_row_54 : decode cX6_row 54 = .ok (.bipush 20, 2) := by decide +kernel
theorem dX6_row_56 : decode cX6_row 56 = .ok (.if_icmp .gt 7, 3) := by decide +kernel
theorem dX6_row_59 : decode cX6_row 59 = .ok (.iconst 1, 1) := by decide +kernel
theorem dX6_row_60 : decode cX6_row 60 = .ok (.goto 4, 3) := by decide +kernel
theorem dX6_row_63 : decode cX6_row 63 = .ok (.iconst 0, 1) := by decide +kernel
theorem dX6_row_64 : decode cX6_row 64 = .ok (.ireturn, 1) := by decide +kernel
theorem dX6_row_65 : decode cX6_row 65 = .ok (.aload_n 0, 1) := by decide +kernel
theorem dX6_row_66 : decode cX6_row 66 = .ok (.iload_n 3, 1) := by decide +kernel
theorem dX6_row_67 : decode cX6_row 67 = .ok (.invokevirtual 54, 3) := by decide +kernel
theorem dX6_row_70 : decode cX6_row 70 = .ok (.ireturn, 1) := by decide +kernel
theorem dX6_row_71 : decode cX6_row 71 = .ok (.iload_n 2, 1) := by decide +kernel
theorem dX6_row_72 : decode cX6_row 72 = .ok (.iconst 0, 1) := by decide +kernel
theorem dX6_row_73 : decode cX6_row 73 = .ok (.iconst 4, 1) := by decide +kernel
theorem dX6_row_74 : decode cX6_row 74 = .ok (.invokestatic 32, 3) := by decide +kernel
theorem dX6_row_77 : decode cX6_row 77 = .ok (.ifCond .eq 14, 3) := by decide +kernel
theorem dX6_row_80 : decode cX6_row 80 = .ok (.aload_n 0, 1) := by decide +kernel
theorem dX6_row_81 : decode cX6_row 81 = .ok (.iload_n 3, 1) := by decide +kernel
theorem dX6_row_82 : decode cX6_row 82 = .ok (.iconst 1, 1) := by decide +kernel
theorem dX6_row_83 : decode cX6_row 83 = .ok (.iload_n 2, 1) := by decide +kernel
theorem dX6_row_84 : decode cX6_row 84 = .ok (.iadd, 1) := by decide +kernel
theorem dX6_row_85 : decode cX6_row 85 = .ok (.invokevirtual 36, 3) := by decide +kernel
theorem dX6_row_88 : decode cX6_row 88 = .ok (.goto 5, 3) := by decide +kernel
theorem dX6_row_91 : decode cX6_row 91 = .ok (.bipush (-2), 2) := by decide +kernel
theorem dX6_row_93 : decode cX6_row 93 = .ok (.ireturn, 1) := by decide +kernel
theorem dX6_ahead_0 : decode cX6_ahead 0 = .ok (.iconst 0, 1) := by decide +kernel
theorem dX6_ahead_1 : decode cX6_ahead 1 = .ok (.istore_n 2, 1) := by decide +kernel
theorem dX6_ahead_2 : decode cX6_ahead 2 = .ok (.iconst 0, 1) := by decide +kernel
theorem dX6_ahead_3 : decode cX6_ahead 3 = .ok (.istore_n 3, 1) := by decide +kernel
theorem dX6_ahead_4 : decode cX6_ahead 4 = .ok (.iload_n 3, 1) := by decide +kernel
theorem dX6_ahead_5 : decode cX6_ahead 5 = .ok (.aload_n 0, 1) := by decide +kernel
theorem dX6_ahead_6 : decode cX6_ahead 6 = .ok (.getfield 7, 3) := by decide +kernel
theorem dX6_ahead_9 : decode cX6_ahead 9 = .ok (.iconst 4, 1) := by decide +kernel
theorem dX6_ahead_10 : decode cX6_ahead 10 = .ok (.iaload, 1) := by decide +kernel
theorem dX6_ahead_11 : decode cX6_ahead 11 = .ok (.if_icmp .ge 79, 3) := by decide +kernel
theorem dX6_ahead_14 : decode cX6_ahead 14 = .ok (.aload_n 0, 1) := by decide +kernel
theorem dX6_ahead_15 : decode cX6_ahead 15 = .ok (.iload_n 3, 1) := by decide +kernel
theorem dX6_ahead_16 : decode cX6_ahead 16 = .ok (.iconst 1, 1) := by decide +kernel
theorem dX6_ahead_17 : decode cX6_ahead 17 = .ok (.invokevirtual 36, 3) := by decide +kernel
theorem dX6_ahead_20 : decode cX6_ahead 20 = .ok (.aload_n 0, 1) := by decide +kernel
theorem dX6_ahead_21 : decode cX6_ahead 21 = .ok (.iload_n 1, 1) := by decide +kernel
theorem dX6_ahead_22 : decode cX6_ahead 22 = .ok (.iconst 1, 1) := by decide +kernel
theorem dX6_ahead_23 : decode cX6_ahead 23 = .ok (.invokevirtual 36, 3) := by decide +kernel
theorem dX6_ahead_26 : decode cX6_ahead 26 = .ok (.if_icmp .ne 7, 3) := by decide +kernel
theorem dX6_ahead_29 : decode cX6_ahead 29 = .ok (.iconst 1, 1) := by decide +kernel
theorem dX6_ahead_30 : decode cX6_ahead 30 = .ok (.goto 4, 3) := by decide +kernel
theorem dX6_ahead_33 : decode cX6_ahead 33 = .ok (.iconst 0, 1) := by decide +kernel
theorem dX6_ahead_34 : decode cX6_ahead 34 = .ok (.istore 4, 2) := by decide +kernel
theorem dX6_ahead_36 : decode cX6_ahead 36 = .ok (.iload_n 2, 1) := by decide +kernel
theorem dX6_ahead_37 : decode cX6_ahead 37 = .ok (.iload 4, 2) := by decide +kernel
theorem dX6_ahead_39 : decode cX6_ahead 39 = .ok (.ifCond .eq 42, 3) := by decide +kernel
theorem dX6_ahead_42 : decode cX6_ahead 42 = .ok (.aload_n 0, 1) := by decide +kernel
theorem dX6_ahead_43 : decode cX6_ahead 43 = .ok (.iload_n 3, 1) := by decide +kernel
theorem dX6_ahead_44 : decode cX6_ahead 44 = .ok (.iconst 3, 1) := by decide +kernel
theorem dX6_ahead_45 : decode cX6_ahead 45 = .ok (.invokevirtual 36, 3) := by decide +kernel
theorem dX6_ahead_48 : decode cX6_ahead 48 = .ok (.aload_n 0, 1) := by decide +kernel
theorem dX6_ahead_49 : decode cX6_ahead 49 = .ok (.iload_n 1, 1) := by decide +kernel
theorem dX6_ahead_50 : decode cX6_ahead 50 = .ok (.iconst 3, 1) := by decide +kernel
theorem dX6_ahead_51 : decode cX6_ahead 51 = .ok (.invokevirtual 36, 3) := by decide +kernel
theorem dX6_ahead_54 : decode cX6_ahead 54 = .ok (.if_icmp .lt 23, 3) := by decide +kernel
theorem dX6_ahead_57 : decode cX6_ahead 57 = .ok (.aload_n 0, 1) := by decide +kernel
theorem dX6_ahead_58 : decode cX6_ahead 58 = .ok (.iload_n 3, 1) := by decide +kernel
theorem dX6_ahead_59 : decode cX6_ahead 59 = .ok (.iconst 3, 1) := by decide +kernel
theorem dX6_ahead_60 : decode cX6_ahead 60 = .ok (.invokevirtual 36, 3) := by decide +kernel
theorem dX6_ahead_63 : decode cX6_ahead 63 = .ok (.aload_n 0, 1) := by decide +kernel
theorem dX6_ahead_64 : decode cX6_ahead 64 = .ok (.iload_n 1, 1) := by decide +kernel
theorem dX6_ahead_65 : decode cX6_ahead 65 = .ok (.iconst 3, 1) := by decide +kernel
theorem dX6_ahead_66 : decode cX6_ahead 66 = .ok (.invokevirtual 36, 3) := by decide +kernel
theorem dX6_ahead_69 : decode cX6_ahead 69 = .ok (.if_icmp .ne 12, 3) := by decide +kernel
theorem dX6_ahead_72 : decode cX6_ahead 72 = .ok (.iload_n 3, 1) := by decide +kernel
theorem dX6_ahead_73 : decode cX6_ahead 73 = .ok (.iload_n 1, 1) := by decide +kernel
theorem dX6_ahead_74 : decode cX6_ahead 74 = .ok (.if_icmp .ge 7, 3) := by decide +kernel
theorem dX6_ahead_77 : decode cX6_ahead 77 = .ok (.iconst 1, 1) := by decide +kernel
theorem dX6_ahead_78 : decode cX6_ahead 78 = .ok (.goto 4, 3) := by decide +kernel
theorem dX6_ahead_81 : decode cX6_ahead 81 = .ok (.iconst 0, 1) := by decide +kernel
theorem dX6_ahead_82 : decode cX6_ahead 82 = .ok (.iadd, 1) := by decide +kernel
theorem dX6_ahead_83 : decode cX6_ahead 83 = .ok (.istore_n 2, 1) := by decide +kernel
theorem dX6_ahead_84 : decode cX6_ahead 84 = .ok (.iinc 3 1, 3) := by decide +kernel
theorem dX6_ahead_87 : decode cX6_ahead 87 = .ok (.goto (-83), 3) := by decide +kernel
theorem dX6_ahead_90 : decode cX6_ahead 90 = .ok (.iload_n 2, 1) := by decide +kernel
theorem dX6_ahead_91 : decode cX6_ahead 91 = .ok (.ireturn, 1) := by decide +kernel
theorem dX6_driest_0 : decode cX6_driest 0 = .ok (.aload_n 0, 1) := by decide +kernel
theorem dX6_driest_1 : decode cX6_driest 1 = .ok (.iconst 0, 1) := by decide +kernel
theorem dX6_driest_2 : decode cX6_driest 2 = .ok (.putfield 28, 3) := by decide +kernel
theorem dX6_driest_5 : decode cX6_driest 5 = .ok (.iload_n 1, 1) := by decide +kernel
theorem dX6_driest_6 : decode cX6_driest 6 = .ok (.invokestatic 74, 3) := by decide +kernel
theorem dX6_driest_9 : decode cX6_driest 9 = .ok (.ifCond .ne 5, 3) := by decide +kernel
theorem dX6_driest_12 : decode cX6_driest 12 = .ok (.iconst (-1), 1) := by decide +kernel
theorem dX6_driest_13 : decode cX6_driest 13 = .ok (.ireturn, 1) := by decide +kernel
theorem dX6_driest_14 : decode cX6_driest 14 = .ok (.iload_n 2, 1) := by decide +kernel
theorem dX6_driest_15 : decode cX6_driest 15 = .ok (.ifCond .ge 6, 3) := by decide +kernel
theorem dX6_driest_18 : decode cX6_driest 18 = .ok (.bipush (-2), 2) := by decide +kernel
theorem dX6_driest_20 : decode cX6_driest 20 = .ok (.ireturn, 1) := by decide +kernel
theorem dX6_driest_21 : decode cX6_driest 21 = .ok (.iconst 0, 1) := by decide +kernel
theorem dX6_driest_22 : decode cX6_driest 22 = .ok (.istore_n 3, 1) := by decide +kernel
theorem dX6_driest_23 : decode cX6_driest 23 = .ok (.iload_n 3, 1) := by decide +kernel
theorem dX6_driest_24 : decode cX6_driest 24 = .ok (.aload_n 0, 1) := by decide +kernel
theorem dX6_driest_25 : decode cX6_driest 25 = .ok (.getfield 7, 3) := by decide +kernel
theorem dX6_driest_28 : decode cX6_driest 28 = .ok (.iconst 4, 1) := by decide +kernel
theorem dX6_driest_29 : decode cX6_driest 29 = .ok (.iaload, 1) := by decide +kernel
theorem dX6_driest_30 : decode cX6_driest 30 = .ok (.if_icmp .ge 35, 3) := by decide +kernel
theorem dX6_driest_33 : decode cX6_driest 33 = .ok (.aload_n 0, 1) := by decide +kernel
theorem dX6_driest_34 : decode cX6_driest 34 = .ok (.iload_n 3, 1) := by decide +kernel
theorem dX6_driest_35 : decode cX6_driest 35 = .ok (.iconst 1, 1) := by decide +kernel
theorem dX6_driest_36 : decode cX6_driest 36 = .ok (.invokevirtual 36, 3) := by decide +kernel
theorem dX6_driest_39 : decode cX6_driest 39 = .ok (.iload_n 1, 1) := by decide +kernel
theorem dX6_driest_40 : decode cX6_driest 40 = .ok (.if_icmp .ne 19, 3) := by decide +kernel
theorem dX6_driest_43 : decode cX6_driest 43 = .ok (.aload_n 0, 1) := by decide +kernel
theorem dX6_driest_44 : decode cX6_driest 44 = .ok (.iload_n 3, 1) := by decide +kernel
theorem dX6_driest_45 : decode cX6_driest 45 = .ok (.invokevirtual 147, 3) := by decide +kernel
theorem dX6_driest_48 : decode cX6_driest 48 = .ok (.iload_n 2, 1) := by decide +kernel
theorem dX6_driest_49 : decode cX6_driest 49 = .ok (.if_icmp .ne 10, 3) := by decide +kernel
theorem dX6_driest_52 : decode cX6_driest 52 = .ok (.aload_n 0, 1) := by decide +kernel
theorem dX6_driest_53 : decode cX6_driest 53 = .ok (.iload_n 3, 1) := by decide +kernel
theorem dX6_driest_54 : decode cX6_driest 54 = .ok (.iconst 0, 1) := by decide +kernel
theorem dX6_driest_55 : decode cX6_driest 55 = .ok (.invokevirtual 36, 3) := by decide +kernel
theorem dX6_driest_58 : decode cX6_driest 58 = .ok (.ireturn, 1) := by decide +kernel
theorem dX6_driest_59 : decode cX6_driest 59 = .ok (.iinc 3 1, 3) := by decide +kernel
theorem dX6_driest_62 : decode cX6_driest 62 = .ok (.goto (-39), 3) := by decide +kernel
theorem dX6_driest_65 : decode cX6_driest 65 = .ok (.bipush (-5), 2) := by decide +kernel
theorem dX6_driest_67 : decode cX6_driest 67 = .ok (.ireturn, 1) := by decide +kernel
theorem dX6_why_0 : decode cX6_why 0 = .ok (.aload_n 0, 1) := by decide +kernel
theorem dX6_why_1 : decode cX6_why 1 = .ok (.iconst 0, 1) := by decide +kernel
theorem dX6_why_2 : decode cX6_why 2 = .ok (.putfield 28, 3) := by decide +kernel
theorem dX6_why_5 : decode cX6_why 5 = .ok (.iload_n 1, 1) := by decide +kernel
theorem dX6_why_6 : decode cX6_why 6 = .ok (.invokestatic 74, 3) := by decide +kernel
theorem dX6_why_9 : decode cX6_why 9 = .ok (.ifCond .eq 19, 3) := by decide +kernel
theorem dX6_why_12 : decode cX6_why 12 = .ok (.iload_n 2, 1) := by decide +kernel
theorem dX6_why_13 : decode cX6_why 13 = .ok (.invokestatic 70, 3) := by decide +kernel
theorem dX6_why_16 : decode cX6_why 16 = .ok (.ifCond .eq 12, 3) := by decide +kernel
theorem dX6_why_19 : decode cX6_why 19 = .ok (.aload_n 0, 1) := by decide +kernel
theorem dX6_why_20 : decode cX6_why 20 = .ok (.iload_n 1, 1) := by decide +kernel
theorem dX6_why_21 : decode cX6_why 21 = .ok (.iload_n 2, 1) := by decide +kernel
theorem dX6_why_22 : decode cX6_why 22 = .ok (.invokevirtual 90, 3) := by decide +kernel
theorem dX6_why_25 : decode cX6_why 25 = .ok (.goto 4, 3) := by decide +kernel
theorem dX6_why_28 : decode cX6_why 28 = .ok (.iconst (-1), 1) := by decide +kernel
theorem dX6_why_29 : decode cX6_why 29 = .ok (.ireturn, 1) := by decide +kernel
theorem dX6_dispute_0 : decode cX6_dispute 0 = .ok (.aload_n 0, 1) := by decide +kernel
theorem dX6_dispute_1 : decode cX6_dispute 1 = .ok (.iconst 0, 1) := by decide +kernel
theorem dX6_dispute_2 : decode cX6_dispute 2 = .ok (.putfield 28, 3) := by decide +kernel
theorem dX6_dispute_5 : decode cX6_dispute 5 = .ok (.iload_n 1, 1) := by decide +kernel
theorem dX6_dispute_6 : decode cX6_dispute 6 = .ok (.ifCond .lt 12, 3) := by decide +kernel
theorem dX6_dispute_9 : decode cX6_dispute 9 = .ok (.iload_n 2, 1) := by decide +kernel
theorem dX6_dispute_10 : decode cX6_dispute 10 = .ok (.iconst 0, 1) := by decide +kernel
theorem dX6_dispute_11 : decode cX6_dispute 11 = .ok (.iconst 3, 1) := by decide +kernel
theorem dX6_dispute_12 : decode cX6_dispute 12 = .ok (.invokestatic 32, 3) := by decide +kernel
theorem dX6_dispute_15 : decode cX6_dispute 15 = .ok (.ifCond .ne 6, 3) := by decide +kernel
theorem dX6_dispute_18 : decode cX6_dispute 18 = .ok (.bipush (-2), 2) := by decide +kernel
theorem dX6_dispute_20 : decode cX6_dispute 20 = .ok (.ireturn, 1) := by decide +kernel
theorem dX6_dispute_21 : decode cX6_dispute 21 = .ok (.iload_n 1, 1) := by decide +kernel
theorem dX6_dispute_22 : decode cX6_dispute 22 = .ok (.aload_n 0, 1) := by decide +kernel
theorem dX6_dispute_23 : decode cX6_dispute 23 = .ok (.getfield 7, 3) := by decide +kernel
theorem dX6_dispute_26 : decode cX6_dispute 26 = .ok (.bipush 7, 2) := by decide +kernel
theorem dX6_dispute_28 : decode cX6_dispute 28 = .ok (.iaload, 1) := by decide +kernel
theorem dX6_dispute_29 : decode cX6_dispute 29 = .ok (.if_icmp .ge 12, 3) := by decide +kernel
theorem dX6_dispute_32 : decode cX6_dispute 32 = .ok (.aload_n 0, 1) := by decide +kernel
theorem dX6_dispute_33 : decode cX6_dispute 33 = .ok (.iload_n 1, 1) := by decide +kernel
theorem dX6_dispute_34 : decode cX6_dispute 34 = .ok (.iload_n 2, 1) := by decide +kernel
theorem dX6_dispute_35 : decode cX6_dispute 35 = .ok (.invokevirtual 113, 3) := by decide +kernel
theorem dX6_dispute_38 : decode cX6_dispute 38 = .ok (.goto 5, 3) := by decide +kernel
theorem dX6_dispute_41 : decode cX6_dispute 41 = .ok (.bipush (-5), 2) := by decide +kernel
theorem dX6_dispute_43 : decode cX6_dispute 43 = .ok (.ireturn, 1) := by decide +kernel
theorem dX6_cart_0 : decode cX6_cart 0 = .ok (.aload_n 0, 1) := by decide +kernel
theorem dX6_cart_1 : decode cX6_cart 1 = .ok (.iconst 0, 1) := by decide +kernel
theorem dX6_cart_2 : decode cX6_cart 2 = .ok (.putfield 28, 3) := by decide +kernel
theorem dX6_cart_5 : decode cX6_cart 5 = .ok (.iload_n 1, 1) := by decide +kernel
theorem dX6_cart_6 : decode cX6_cart 6 = .ok (.iconst 0, 1) := by decide +kernel
theorem dX6_cart_7 : decode cX6_cart 7 = .ok (.iconst 1, 1) := by decide +kernel
theorem dX6_cart_8 : decode cX6_cart 8 = .ok (.invokestatic 32, 3) := by decide +kernel
theorem dX6_cart_11 : decode cX6_cart 11 = .ok (.ifCond .eq 15, 3) := by decide +kernel
theorem dX6_cart_14 : decode cX6_cart 14 = .ok (.aload_n 0, 1) := by decide +kernel
theorem dX6_cart_15 : decode cX6_cart 15 = .ok (.getfield 7, 3) := by decide +kernel
theorem dX6_cart_18 : decode cX6_cart 18 = .ok (.bipush 9, 2) := by decide +kernel
theorem dX6_cart_20 : decode cX6_cart 20 = .ok (.iload_n 1, 1) := by decide +kernel
theorem dX6_cart_21 : decode cX6_cart 21 = .ok (.iadd, 1) := by decide +kernel
theorem dX6_cart_22 : decode cX6_cart 22 = .ok (.iaload, 1) := by decide +kernel
theorem dX6_cart_23 : decode cX6_cart 23 = .ok (.goto 4, 3) := by decide +kernel
theorem dX6_cart_26 : decode cX6_cart 26 = .ok (.iconst (-1), 1) := by decide +kernel
theorem dX6_cart_27 : decode cX6_cart 27 = .ok (.ireturn, 1) := by decide +kernel
theorem dX6_would_0 : decode cX6_would 0 = .ok (.aload_n 0, 1) := by decide +kernel
theorem dX6_would_1 : decode cX6_would 1 = .ok (.iconst 0, 1) := by decide +kernel
theorem dX6_would_2 : decode cX6_would 2 = .ok (.putfield 28, 3) := by decide +kernel
theorem dX6_would_5 : decode cX6_would 5 = .ok (.iload_n 1, 1) := by decide +kernel
theorem dX6_would_6 : decode cX6_would 6 = .ok (.iconst 1, 1) := by decide +kernel
theorem dX6_would_7 : decode cX6_would 7 = .ok (.bipush 60, 2) := by decide +kernel
theorem dX6_would_9 : decode cX6_would 9 = .ok (.invokestatic 32, 3) := by decide +kernel
theorem dX6_would_12 : decode cX6_would 12 = .ok (.ifCond .eq 12, 3) := by decide +kernel
theorem dX6_would_15 : decode cX6_would 15 = .ok (.iload_n 2, 1) := by decide +kernel
theorem dX6_would_16 : decode cX6_would 16 = .ok (.iconst 0, 1) := by decide +kernel
theorem dX6_would_17 : decode cX6_would 17 = .ok (.iconst 2, 1) := by decide +kernel
theorem dX6_would_18 : decode cX6_would 18 = .ok (.invokestatic 32, 3) := by decide +kernel
theorem dX6_would_21 : decode cX6_would 21 = .ok (.ifCond .ne 6, 3) := by decide +kernel
theorem dX6_would_24 : decode cX6_would 24 = .ok (.bipush (-2), 2) := by decide +kernel
theorem dX6_would_26 : decode cX6_would 26 = .ok (.ireturn, 1) := by decide +kernel
theorem dX6_would_27 : decode cX6_would 27 = .ok (.iconst 0, 1) := by decide +kernel
theorem dX6_would_28 : decode cX6_would 28 = .ok (.istore_n 3, 1) := by decide +kernel
theorem dX6_would_29 : decode cX6_would 29 = .ok (.iload_n 3, 1) := by decide +kernel
theorem dX6_would_30 : decode cX6_would 30 = .ok (.sipush 941, 3) := by decide +kernel
theorem dX6_would_33 : decode cX6_would 33 = .ok (.if_icmp .ge 21, 3) := by decide +kernel
theorem dX6_would_36 : decode cX6_would 36 = .ok (.aload_n 0, 1) := by decide +kernel
theorem dX6_would_37 : decode cX6_would 37 = .ok (.getfield 13, 3) := by decide +kernel
theorem dX6_would_40 : decode cX6_would 40 = .ok (.iload_n 3, 1) := by decide +kernel
theorem dX6_would_41 : decode cX6_would 41 = .ok (.aload_n 0, 1) := by decide +kernel
theorem dX6_would_42 : decode cX6_would 42 = .ok (.getfield 7, 3) := by decide +kernel
theorem dX6_would_45 : decode cX6_would 45 = .ok (.iload_n 3, 1) := by decide +kernel
theorem dX6_would_46 : decode cX6_would 46 = .ok (.iaload, 1) := by decide +kernel
theorem dX6_would_47 : decode cX6_would 47 = .ok (.iastore, 1) := by decide +kernel
theorem dX6_would_48 : decode cX6_would 48 = .ok (.iinc 3 1, 3) := by decide +kernel
theorem dX6_would_51 : decode cX6_would 51 = .ok (.goto (-22), 3) := by decide +kernel
theorem dX6_would_54 : decode cX6_would 54 = .ok (.iconst 0, 1) := by decide +kernel
theorem dX6_would_55 : decode cX6_would 55 = .ok (.istore_n 3, 1) := by decide +kernel
theorem dX6_would_56 : decode cX6_would 56 = .ok (.iconst 0, 1) := by decide +kernel
theorem dX6_would_57 : decode cX6_would 57 = .ok (.istore 4, 2) := by decide +kernel
theorem dX6_would_59 : decode cX6_would 59 = .ok (.iload 4, 2) := by decide +kernel
theorem dX6_would_61 : decode cX6_would 61 = .ok (.iload_n 1, 1) := by decide +kernel
theorem dX6_would_62 : decode cX6_would 62 = .ok (.if_icmp .ge 17, 3) := by decide +kernel
theorem dX6_would_65 : decode cX6_would 65 = .ok (.iload_n 3, 1) := by decide +kernel
theorem dX6_would_66 : decode cX6_would 66 = .ok (.aload_n 0, 1) := by decide +kernel
theorem dX6_would_67 : decode cX6_would 67 = .ok (.iload_n 2, 1) := by decide +kernel
theorem dX6_would_68 : decode cX6_would 68 = .ok (.invokevirtual 103, 3) := by decide +kernel
theorem dX6_would_71 : decode cX6_would 71 = .ok (.iadd, 1) := by decide +kernel
theorem dX6_would_72 : decode cX6_would 72 = .ok (.istore_n 3, 1) := by decide +kernel
theorem dX6_would_73 : decode cX6_would 73 = .ok (.iinc 4 1, 3) := by decide +kernel
theorem dX6_would_76 : decode cX6_would 76 = .ok (.goto (-17), 3) := by decide +kernel
theorem dX6_would_79 : decode cX6_would 79 = .ok (.iconst 0, 1) := by decide +kernel
theorem dX6_would_80 : decode cX6_would 80 = .ok (.istore 4, 2) := by decide +kernel
theorem dX6_would_82 : decode cX6_would 82 = .ok (.iload 4, 2) := by decide +kernel
theorem dX6_would_84 : decode cX6_would 84 = .ok (.sipush 941, 3) := by decide +kernel
theorem dX6_would_87 : decode cX6_would 87 = .ok (.if_icmp .ge 23, 3) := by decide +kernel
theorem dX6_would_90 : decode cX6_would 90 = .ok (.aload_n 0, 1) := by decide +kernel
theorem dX6_would_91 : decode cX6_would 91 = .ok (.getfield 7, 3) := by decide +kernel
theorem dX6_would_94 : decode cX6_would 94 = .ok (.iload 4, 2) := by decide +kernel
theorem dX6_would_96 : decode cX6_would 96 = .ok (.aload_n 0, 1) := by decide +kernel
theorem dX6_would_97 : decode cX6_would 97 = .ok (.getfield 13, 3) := by decide +kernel
theorem dX6_would_100 : decode cX6_would 100 = .ok (.iload 4, 2) := by decide +kernel
theorem dX6_would_102 : decode cX6_would 102 = .ok (.iaload, 1) := by decide +kernel
theorem dX6_would_103 : decode cX6_would 103 = .ok (.iastore, 1) := by decide +kernel
theorem dX6_would_104 : decode cX6_would 104 = .ok (.iinc 4 1, 3) := by decide +kernel
theorem dX6_would_107 : decode cX6_would 107 = .ok (.goto (-25), 3) := by decide +kernel
theorem dX6_would_110 : decode cX6_would 110 = .ok (.iload_n 3, 1) := by decide +kernel
theorem dX6_would_111 : decode cX6_would 111 = .ok (.ireturn, 1) := by decide +kernel
theorem dX6_rowsThat_0 : decode cX6_rowsThat 0 = .ok (.iconst 0, 1) := by decide +kernel
theorem dX6_rowsThat_1 : decode cX6_rowsThat 1 = .ok (.istore_n 2, 1) := by decide +kernel
theorem dX6_rowsThat_2 : decode cX6_rowsThat 2 = .ok (.iconst 0, 1) := by decide +kernel
theorem dX6_rowsThat_3 : decode cX6_rowsThat 3 = .ok (.istore_n 3, 1) := by decide +kernel
theorem dX6_rowsThat_4 : decode cX6_rowsThat 4 = .ok (.iload_n 3, 1) := by decide +kernel
theorem dX6_rowsThat_5 : decode cX6_rowsThat 5 = .ok (.aload_n 0, 1) := by decide +kernel
theorem dX6_rowsThat_6 : decode cX6_rowsThat 6 = .ok (.getfield 7, 3) := by decide +kernel
theorem dX6_rowsThat_9 : decode cX6_rowsThat 9 = .ok (.iconst 4, 1) := by decide +kernel
theorem dX6_rowsThat_10 : decode cX6_rowsThat 10 = .ok (.iaload, 1) := by decide +kernel
theorem dX6_rowsThat_11 : decode cX6_rowsThat 11 = .ok (.if_icmp .ge 42, 3) := by decide +kernel
theorem dX6_rowsThat_14 : decode cX6_rowsThat 14 = .ok (.iload_n 2, 1) := by decide +kernel
theorem dX6_rowsThat_15 : decode cX6_rowsThat 15 = .ok (.iload_n 1, 1) := by decide +kernel
theorem dX6_rowsThat_16 : decode cX6_rowsThat 16 = .ok (.iconst 4, 1) := by decide +kernel
theorem dX6_rowsThat_17 : decode cX6_rowsThat 17 = .ok (.if_icmp .ne 12, 3) := by decide +kernel
theorem dX6_rowsThat_20 : decode cX6_rowsThat 20 = .ok (.aload_n 0, 1) := by decide +kernel
theorem dX6_rowsThat_21 : decode cX6_rowsThat 21 = .ok (.iload_n 3, 1) := by decide +kernel
theorem dX6_rowsThat_22 : decode cX6_rowsThat 22 = .ok (.iconst 5, 1) := by decide +kernel
theorem dX6_rowsThat_23 : decode cX6_rowsThat 23 = .ok (.invokevirtual 36, 3) := by decide +kernel
theorem dX6_rowsThat_26 : decode cX6_rowsThat 26 = .ok (.goto 19, 3) := by decide +kernel
theorem dX6_rowsThat_29 : decode cX6_rowsThat 29 = .ok (.aload_n 0, 1) := by decide +kernel
theorem dX6_rowsThat_30 : decode cX6_rowsThat 30 = .ok (.iload_n 3, 1) := by decide +kernel
theorem dX6_rowsThat_31 : decode cX6_rowsThat 31 = .ok (.iconst 3, 1) := by decide +kernel
theorem dX6_rowsThat_32 : decode cX6_rowsThat 32 = .ok (.invokevirtual 36, 3) := by decide +kernel
theorem dX6_rowsThat_35 : decode cX6_rowsThat 35 = .ok (.bipush 20, 2) := by decide +kernel
theorem dX6_rowsThat_37 : decode cX6_rowsThat 37 = .ok (.if_icmp .gt 7, 3) := by decide +kernel
theorem dX6_rowsThat_40 : decode cX6_rowsThat 40 = .ok (.iconst 1, 1) := by decide +kernel
theorem dX6_rowsThat_41 : decode cX6_rowsThat 41 = .ok (.goto 4, 3) := by decide +kernel
theorem dX6_rowsThat_44 : decode cX6_rowsThat 44 = .ok (.iconst 0, 1) := by decide +kernel
theorem dX6_rowsThat_45 : decode cX6_rowsThat 45 = .ok (.iadd, 1) := by decide +kernel
theorem dX6_rowsThat_46 : decode cX6_rowsThat 46 = .ok (.istore_n 2, 1) := by decide +kernel
theorem dX6_rowsThat_47 : decode cX6_rowsThat 47 = .ok (.iinc 3 1, 3) := by decide +kernel
theorem dX6_rowsThat_50 : decode cX6_rowsThat 50 = .ok (.goto (-46), 3) := by decide +kernel
theorem dX6_rowsThat_53 : decode cX6_rowsThat 53 = .ok (.iload_n 2, 1) := by decide +kernel
theorem dX6_rowsThat_54 : decode cX6_rowsThat 54 = .ok (.ireturn, 1) := by decide +kernel
theorem dX6_allPeats_0 : decode cX6_allPeats 0 = .ok (.iconst 0, 1) := by decide +kernel
theorem dX6_allPeats_1 : decode cX6_allPeats 1 = .ok (.istore_n 1, 1) := by decide +kernel
theorem dX6_allPeats_2 : decode cX6_allPeats 2 = .ok (.iconst 0, 1) := by decide +kernel
theorem dX6_allPeats_3 : decode cX6_allPeats 3 = .ok (.istore_n 2, 1) := by decide +kernel
theorem dX6_allPeats_4 : decode cX6_allPeats 4 = .ok (.iload_n 2, 1) := by decide +kernel
theorem dX6_allPeats_5 : decode cX6_allPeats 5 = .ok (.bipush 10, 2) := by decide +kernel
theorem dX6_allPeats_7 : decode cX6_allPeats 7 = .ok (.if_icmp .ge 18, 3) := by decide +kernel
theorem dX6_allPeats_10 : decode cX6_allPeats 10 = .ok (.iload_n 1, 1) := by decide +kernel
theorem dX6_allPeats_11 : decode cX6_allPeats 11 = .ok (.aload_n 0, 1) := by decide +kernel
theorem dX6_allPeats_12 : decode cX6_allPeats 12 = .ok (.iload_n 2, 1) := by decide +kernel
theorem dX6_allPeats_13 : decode cX6_allPeats 13 = .ok (.iconst 2, 1) := by decide +kernel
theorem dX6_allPeats_14 : decode cX6_allPeats 14 = .ok (.invokevirtual 83, 3) := by decide +kernel
theorem dX6_allPeats_17 : decode cX6_allPeats 17 = .ok (.iadd, 1) := by decide +kernel
theorem dX6_allPeats_18 : decode cX6_allPeats 18 = .ok (.istore_n 1, 1) := by decide +kernel
theorem dX6_allPeats_19 : decode cX6_allPeats 19 = .ok (.iinc 2 1, 3) := by decide +kernel
theorem dX6_allPeats_22 : decode cX6_allPeats 22 = .ok (.goto (-18), 3) := by decide +kernel
theorem dX6_allPeats_25 : decode cX6_allPeats 25 = .ok (.iload_n 1, 1) := by decide +kernel
theorem dX6_allPeats_26 : decode cX6_allPeats 26 = .ok (.ireturn, 1) := by decide +kernel
theorem dX6_allLayers_0 : decode cX6_allLayers 0 = .ok (.iconst 0, 1) := by decide +kernel
theorem dX6_allLayers_1 : decode cX6_allLayers 1 = .ok (.istore_n 1, 1) := by decide +kernel
theorem dX6_allLayers_2 : decode cX6_allLayers 2 = .ok (.iconst 0, 1) := by decide +kernel
theorem dX6_allLayers_3 : decode cX6_allLayers 3 = .ok (.istore_n 2, 1) := by decide +kernel
theorem dX6_allLayers_4 : decode cX6_allLayers 4 = .ok (.iload_n 2, 1) := by decide +kernel
theorem dX6_allLayers_5 : decode cX6_allLayers 5 = .ok (.bipush 20, 2) := by decide +kernel
theorem dX6_allLayers_7 : decode cX6_allLayers 7 = .ok (.if_icmp .ge 18, 3) := by decide +kernel
theorem dX6_allLayers_10 : decode cX6_allLayers 10 = .ok (.iload_n 1, 1) := by decide +kernel
theorem dX6_allLayers_11 : decode cX6_allLayers 11 = .ok (.aload_n 0, 1) := by decide +kernel
theorem dX6_allLayers_12 : decode cX6_allLayers 12 = .ok (.iload_n 2, 1) := by decide +kernel
theorem dX6_allLayers_13 : decode cX6_allLayers 13 = .ok (.iconst 0, 1) := by decide +kernel
theorem dX6_allLayers_14 : decode cX6_allLayers 14 = .ok (.invokevirtual 77, 3) := by decide +kernel
theorem dX6_allLayers_17 : decode cX6_allLayers 17 = .ok (.iadd, 1) := by decide +kernel
theorem dX6_allLayers_18 : decode cX6_allLayers 18 = .ok (.istore_n 1, 1) := by decide +kernel
theorem dX6_allLayers_19 : decode cX6_allLayers 19 = .ok (.iinc 2 1, 3) := by decide +kernel
theorem dX6_allLayers_22 : decode cX6_allLayers 22 = .ok (.goto (-18), 3) := by decide +kernel
theorem dX6_allLayers_25 : decode cX6_allLayers 25 = .ok (.iload_n 1, 1) := by decide +kernel
theorem dX6_allLayers_26 : decode cX6_allLayers 26 = .ok (.ireturn, 1) := by decide +kernel
theorem dX6_count_0 : decode cX6_count 0 = .ok (.aload_n 0, 1) := by decide +kernel
theorem dX6_count_1 : decode cX6_count 1 = .ok (.iconst 0, 1) := by decide +kernel
theorem dX6_count_2 : decode cX6_count 2 = .ok (.putfield 28, 3) := by decide +kernel
theorem dX6_count_5 : decode cX6_count 5 = .ok (.iload_n 1, 1) := by decide +kernel
theorem dX6_count_6 : decode cX6_count 6 = .ok (.tableswitch 140 0 14 #[74, 74, 74, 74, 83, 83, 89, 97, 102, 107, 107, 120, 120, 130, 135], 74) := by decide +kernel
theorem dX6_count_80 : decode cX6_count 80 = .ok (.aload_n 0, 1) := by decide +kernel
theorem dX6_count_81 : decode cX6_count 81 = .ok (.getfield 7, 3) := by decide +kernel
theorem dX6_count_84 : decode cX6_count 84 = .ok (.iconst 2, 1) := by decide +kernel
theorem dX6_count_85 : decode cX6_count 85 = .ok (.iload_n 1, 1) := by decide +kernel
theorem dX6_count_86 : decode cX6_count 86 = .ok (.iadd, 1) := by decide +kernel
theorem dX6_count_87 : decode cX6_count 87 = .ok (.iaload, 1) := by decide +kernel
theorem dX6_count_88 : decode cX6_count 88 = .ok (.ireturn, 1) := by decide +kernel
theorem dX6_count_89 : decode cX6_count 89 = .ok (.aload_n 0, 1) := by decide +kernel
theorem dX6_count_90 : decode cX6_count 90 = .ok (.iload_n 1, 1) := by decide +kernel
theorem dX6_count_91 : decode cX6_count 91 = .ok (.invokevirtual 150, 3) := by decide +kernel
theorem dX6_count_94 : decode cX6_count 94 = .ok (.ireturn, 1) := by decide +kernel
theorem dX6_count_95 : decode cX6_count 95 = .ok (.aload_n 0, 1) := by decide +kernel
theorem dX6_count_96 : decode cX6_count 96 = .ok (.getfield 7, 3) := by decide +kernel
theorem dX6_count_99 : decode cX6_count 99 = .ok (.bipush 6, 2) := by decide +kernel
theorem dX6_count_101 : decode cX6_count 101 = .ok (.iaload, 1) := by decide +kernel
theorem dX6_count_102 : decode cX6_count 102 = .ok (.ireturn, 1) := by decide +kernel
theorem dX6_count_103 : decode cX6_count 103 = .ok (.aload_n 0, 1) := by decide +kernel
theorem dX6_count_104 : decode cX6_count 104 = .ok (.invokevirtual 153, 3) := by decide +kernel
theorem dX6_count_107 : decode cX6_count 107 = .ok (.ireturn, 1) := by decide +kernel
theorem dX6_count_108 : decode cX6_count 108 = .ok (.aload_n 0, 1) := by decide +kernel
theorem dX6_count_109 : decode cX6_count 109 = .ok (.invokevirtual 156, 3) := by decide +kernel
theorem dX6_count_112 : decode cX6_count 112 = .ok (.ireturn, 1) := by decide +kernel
theorem dX6_count_113 : decode cX6_count 113 = .ok (.aload_n 0, 1) := by decide +kernel
theorem dX6_count_114 : decode cX6_count 114 = .ok (.getfield 7, 3) := by decide +kernel
theorem dX6_count_117 : decode cX6_count 117 = .ok (.bipush 7, 2) := by decide +kernel
theorem dX6_count_119 : decode cX6_count 119 = .ok (.iload_n 1, 1) := by decide +kernel
theorem dX6_count_120 : decode cX6_count 120 = .ok (.iadd, 1) := by decide +kernel
theorem dX6_count_121 : decode cX6_count 121 = .ok (.bipush 9, 2) := by decide +kernel
theorem dX6_count_123 : decode cX6_count 123 = .ok (.isub, 1) := by decide +kernel
theorem dX6_count_124 : decode cX6_count 124 = .ok (.iaload, 1) := by decide +kernel
theorem dX6_count_125 : decode cX6_count 125 = .ok (.ireturn, 1) := by decide +kernel
theorem dX6_count_126 : decode cX6_count 126 = .ok (.aload_n 0, 1) := by decide +kernel
theorem dX6_count_127 : decode cX6_count 127 = .ok (.getfield 7, 3) := by decide +kernel
theorem dX6_count_130 : decode cX6_count 130 = .ok (.iload_n 1, 1) := by decide +kernel
theorem dX6_count_131 : decode cX6_count 131 = .ok (.bipush 11, 2) := by decide +kernel
theorem dX6_count_133 : decode cX6_count 133 = .ok (.isub, 1) := by decide +kernel
theorem dX6_count_134 : decode cX6_count 134 = .ok (.iaload, 1) := by decide +kernel
theorem dX6_count_135 : decode cX6_count 135 = .ok (.ireturn, 1) := by decide +kernel
theorem dX6_count_136 : decode cX6_count 136 = .ok (.aload_n 0, 1) := by decide +kernel
theorem dX6_count_137 : decode cX6_count 137 = .ok (.getfield 40, 3) := by decide +kernel
theorem dX6_count_140 : decode cX6_count 140 = .ok (.ireturn, 1) := by decide +kernel
theorem dX6_count_141 : decode cX6_count 141 = .ok (.aload_n 0, 1) := by decide +kernel
theorem dX6_count_142 : decode cX6_count 142 = .ok (.getfield 119, 3) := by decide +kernel
theorem dX6_count_145 : decode cX6_count 145 = .ok (.ireturn, 1) := by decide +kernel
theorem dX6_count_146 : decode cX6_count 146 = .ok (.bipush (-2), 2) := by decide +kernel
theorem dX6_count_148 : decode cX6_count 148 = .ok (.ireturn, 1) := by decide +kernel
