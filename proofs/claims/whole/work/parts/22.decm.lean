theorem dc_M_thrown_0 : decode bc_M_thrown 0 = .ok (.aload_n 0, 1) := by decide +kernel
theorem dc_M_thrown_1 : decode bc_M_thrown 1 = .ok (.getfield 54, 3) := by decide +kernel
theorem dc_M_thrown_4 : decode bc_M_thrown 4 = .ok (.ireturn, 1) := by decide +kernel
theorem dc_M_isSet_0 : decode bc_M_isSet 0 = .ok (.iload_n 1, 1) := by decide +kernel
theorem dc_M_isSet_1 : decode bc_M_isSet 1 = .ok (.ifCond .lt 15, 3) := by decide +kernel
theorem dc_M_isSet_4 : decode bc_M_isSet 4 = .ok (.iload_n 1, 1) := by decide +kernel
theorem dc_M_isSet_5 : decode bc_M_isSet 5 = .ok (.aload_n 0, 1) := by decide +kernel
theorem dc_M_isSet_6 : decode bc_M_isSet 6 = .ok (.getfield 58, 3) := by decide +kernel
theorem dc_M_isSet_9 : decode bc_M_isSet 9 = .ok (.if_icmp .ge 7, 3) := by decide +kernel
theorem dc_M_isSet_12 : decode bc_M_isSet 12 = .ok (.iconst 1, 1) := by decide +kernel
theorem dc_M_isSet_13 : decode bc_M_isSet 13 = .ok (.goto 4, 3) := by decide +kernel
theorem dc_M_isSet_16 : decode bc_M_isSet 16 = .ok (.iconst 0, 1) := by decide +kernel
theorem dc_M_isSet_17 : decode bc_M_isSet 17 = .ok (.ireturn, 1) := by decide +kernel
theorem dc_M_next_0 : decode bc_M_next 0 = .ok (.aload_n 0, 1) := by decide +kernel
theorem dc_M_next_1 : decode bc_M_next 1 = .ok (.getfield 16, 3) := by decide +kernel
theorem dc_M_next_4 : decode bc_M_next 4 = .ok (.iconst 3, 1) := by decide +kernel
theorem dc_M_next_5 : decode bc_M_next 5 = .ok (.bipush 10, 2) := by decide +kernel
theorem dc_M_next_7 : decode bc_M_next 7 = .ok (.iload_n 1, 1) := by decide +kernel
theorem dc_M_next_8 : decode bc_M_next 8 = .ok (.imul, 1) := by decide +kernel
theorem dc_M_next_9 : decode bc_M_next 9 = .ok (.iload_n 2, 1) := by decide +kernel
theorem dc_M_next_10 : decode bc_M_next 10 = .ok (.iadd, 1) := by decide +kernel
theorem dc_M_next_11 : decode bc_M_next 11 = .ok (.imul, 1) := by decide +kernel
theorem dc_M_next_12 : decode bc_M_next 12 = .ok (.iload_n 3, 1) := by decide +kernel
theorem dc_M_next_13 : decode bc_M_next 13 = .ok (.iadd, 1) := by decide +kernel
theorem dc_M_next_14 : decode bc_M_next 14 = .ok (.iaload, 1) := by decide +kernel
theorem dc_M_next_15 : decode bc_M_next 15 = .ok (.ireturn, 1) := by decide +kernel
theorem dc_M_isEnd_0 : decode bc_M_isEnd 0 = .ok (.aload_n 0, 1) := by decide +kernel
theorem dc_M_isEnd_1 : decode bc_M_isEnd 1 = .ok (.getfield 19, 3) := by decide +kernel
theorem dc_M_isEnd_4 : decode bc_M_isEnd 4 = .ok (.bipush 10, 2) := by decide +kernel
theorem dc_M_isEnd_6 : decode bc_M_isEnd 6 = .ok (.iload_n 1, 1) := by decide +kernel
theorem dc_M_isEnd_7 : decode bc_M_isEnd 7 = .ok (.imul, 1) := by decide +kernel
theorem dc_M_isEnd_8 : decode bc_M_isEnd 8 = .ok (.iload_n 2, 1) := by decide +kernel
theorem dc_M_isEnd_9 : decode bc_M_isEnd 9 = .ok (.iadd, 1) := by decide +kernel
theorem dc_M_isEnd_10 : decode bc_M_isEnd 10 = .ok (.baload, 1) := by decide +kernel
theorem dc_M_isEnd_11 : decode bc_M_isEnd 11 = .ok (.ireturn, 1) := by decide +kernel
theorem dc_M_all_0 : decode bc_M_all 0 = .ok (.iconst 0, 1) := by decide +kernel
theorem dc_M_all_1 : decode bc_M_all 1 = .ok (.istore 4, 2) := by decide +kernel
theorem dc_M_all_3 : decode bc_M_all 3 = .ok (.iconst 0, 1) := by decide +kernel
theorem dc_M_all_4 : decode bc_M_all 4 = .ok (.istore 5, 2) := by decide +kernel
theorem dc_M_all_6 : decode bc_M_all 6 = .ok (.iload 5, 2) := by decide +kernel
theorem dc_M_all_8 : decode bc_M_all 8 = .ok (.aload_n 0, 1) := by decide +kernel
theorem dc_M_all_9 : decode bc_M_all 9 = .ok (.getfield 9, 3) := by decide +kernel
theorem dc_M_all_12 : decode bc_M_all 12 = .ok (.iload_n 1, 1) := by decide +kernel
theorem dc_M_all_13 : decode bc_M_all 13 = .ok (.iaload, 1) := by decide +kernel
theorem dc_M_all_14 : decode bc_M_all 14 = .ok (.if_icmp .ge 34, 3) := by decide +kernel
theorem dc_M_all_17 : decode bc_M_all 17 = .ok (.iload_n 2, 1) := by decide +kernel
theorem dc_M_all_18 : decode bc_M_all 18 = .ok (.iload 5, 2) := by decide +kernel
theorem dc_M_all_20 : decode bc_M_all 20 = .ok (.ishr, 1) := by decide +kernel
theorem dc_M_all_21 : decode bc_M_all 21 = .ok (.iconst 1, 1) := by decide +kernel
theorem dc_M_all_22 : decode bc_M_all 22 = .ok (.iand, 1) := by decide +kernel
theorem dc_M_all_23 : decode bc_M_all 23 = .ok (.iconst 1, 1) := by decide +kernel
theorem dc_M_all_24 : decode bc_M_all 24 = .ok (.if_icmp .ne 18, 3) := by decide +kernel
theorem dc_M_all_27 : decode bc_M_all 27 = .ok (.iload 4, 2) := by decide +kernel
theorem dc_M_all_29 : decode bc_M_all 29 = .ok (.iconst 1, 1) := by decide +kernel
theorem dc_M_all_30 : decode bc_M_all 30 = .ok (.aload_n 0, 1) := by decide +kernel
theorem dc_M_all_31 : decode bc_M_all 31 = .ok (.iload_n 1, 1) := by decide +kernel
theorem dc_M_all_32 : decode bc_M_all 32 = .ok (.iload 5, 2) := by decide +kernel
theorem dc_M_all_34 : decode bc_M_all 34 = .ok (.iload_n 3, 1) := by decide +kernel
theorem dc_M_all_35 : decode bc_M_all 35 = .ok (.invokevirtual 61, 3) := by decide +kernel
theorem dc_M_all_38 : decode bc_M_all 38 = .ok (.ishl, 1) := by decide +kernel
theorem dc_M_all_39 : decode bc_M_all 39 = .ok (.ior, 1) := by decide +kernel
theorem dc_M_all_40 : decode bc_M_all 40 = .ok (.istore 4, 2) := by decide +kernel
theorem dc_M_all_42 : decode bc_M_all 42 = .ok (.iinc 5 1, 3) := by decide +kernel
theorem dc_M_all_45 : decode bc_M_all 45 = .ok (.goto (-39), 3) := by decide +kernel
theorem dc_M_all_48 : decode bc_M_all 48 = .ok (.iload 4, 2) := by decide +kernel
theorem dc_M_all_50 : decode bc_M_all 50 = .ok (.ireturn, 1) := by decide +kernel
theorem dc_M_someEnd_0 : decode bc_M_someEnd 0 = .ok (.iconst 0, 1) := by decide +kernel
theorem dc_M_someEnd_1 : decode bc_M_someEnd 1 = .ok (.istore_n 3, 1) := by decide +kernel
theorem dc_M_someEnd_2 : decode bc_M_someEnd 2 = .ok (.iload_n 3, 1) := by decide +kernel
theorem dc_M_someEnd_3 : decode bc_M_someEnd 3 = .ok (.aload_n 0, 1) := by decide +kernel
theorem dc_M_someEnd_4 : decode bc_M_someEnd 4 = .ok (.getfield 9, 3) := by decide +kernel
theorem dc_M_someEnd_7 : decode bc_M_someEnd 7 = .ok (.iload_n 1, 1) := by decide +kernel
theorem dc_M_someEnd_8 : decode bc_M_someEnd 8 = .ok (.iaload, 1) := by decide +kernel
theorem dc_M_someEnd_9 : decode bc_M_someEnd 9 = .ok (.if_icmp .ge 29, 3) := by decide +kernel
theorem dc_M_someEnd_12 : decode bc_M_someEnd 12 = .ok (.iload_n 2, 1) := by decide +kernel
theorem dc_M_someEnd_13 : decode bc_M_someEnd 13 = .ok (.iload_n 3, 1) := by decide +kernel
theorem dc_M_someEnd_14 : decode bc_M_someEnd 14 = .ok (.ishr, 1) := by decide +kernel
theorem dc_M_someEnd_15 : decode bc_M_someEnd 15 = .ok (.iconst 1, 1) := by decide +kernel
theorem dc_M_someEnd_16 : decode bc_M_someEnd 16 = .ok (.iand, 1) := by decide +kernel
theorem dc_M_someEnd_17 : decode bc_M_someEnd 17 = .ok (.iconst 1, 1) := by decide +kernel
theorem dc_M_someEnd_18 : decode bc_M_someEnd 18 = .ok (.if_icmp .ne 14, 3) := by decide +kernel
theorem dc_M_someEnd_21 : decode bc_M_someEnd 21 = .ok (.aload_n 0, 1) := by decide +kernel
theorem dc_M_someEnd_22 : decode bc_M_someEnd 22 = .ok (.iload_n 1, 1) := by decide +kernel
theorem dc_M_someEnd_23 : decode bc_M_someEnd 23 = .ok (.iload_n 3, 1) := by decide +kernel
theorem dc_M_someEnd_24 : decode bc_M_someEnd 24 = .ok (.invokevirtual 64, 3) := by decide +kernel
theorem dc_M_someEnd_27 : decode bc_M_someEnd 27 = .ok (.ifCond .eq 5, 3) := by decide +kernel
theorem dc_M_someEnd_30 : decode bc_M_someEnd 30 = .ok (.iconst 1, 1) := by decide +kernel
theorem dc_M_someEnd_31 : decode bc_M_someEnd 31 = .ok (.ireturn, 1) := by decide +kernel
theorem dc_M_someEnd_32 : decode bc_M_someEnd 32 = .ok (.iinc 3 1, 3) := by decide +kernel
theorem dc_M_someEnd_35 : decode bc_M_someEnd 35 = .ok (.goto (-33), 3) := by decide +kernel
theorem dc_M_someEnd_38 : decode bc_M_someEnd 38 = .ok (.iconst 0, 1) := by decide +kernel
theorem dc_M_someEnd_39 : decode bc_M_someEnd 39 = .ok (.ireturn, 1) := by decide +kernel
theorem dc_M_begin_0 : decode bc_M_begin 0 = .ok (.aload_n 0, 1) := by decide +kernel
theorem dc_M_begin_1 : decode bc_M_begin 1 = .ok (.getfield 68, 3) := by decide +kernel
theorem dc_M_begin_4 : decode bc_M_begin 4 = .ok (.tableswitch 196 2 8 #[44, 94, 117, 121, 131, 174, 121], 44) := by decide +kernel
theorem dc_M_begin_48 : decode bc_M_begin 48 = .ok (.sipush 1024, 3) := by decide +kernel
theorem dc_M_begin_51 : decode bc_M_begin 51 = .ok (.aload_n 0, 1) := by decide +kernel
theorem dc_M_begin_52 : decode bc_M_begin 52 = .ok (.getfield 13, 3) := by decide +kernel
theorem dc_M_begin_55 : decode bc_M_begin 55 = .ok (.aload_n 0, 1) := by decide +kernel
theorem dc_M_begin_56 : decode bc_M_begin 56 = .ok (.getfield 71, 3) := by decide +kernel
theorem dc_M_begin_59 : decode bc_M_begin 59 = .ok (.iaload, 1) := by decide +kernel
theorem dc_M_begin_60 : decode bc_M_begin 60 = .ok (.imul, 1) := by decide +kernel
theorem dc_M_begin_61 : decode bc_M_begin 61 = .ok (.aload_n 0, 1) := by decide +kernel
theorem dc_M_begin_62 : decode bc_M_begin 62 = .ok (.aload_n 0, 1) := by decide +kernel
theorem dc_M_begin_63 : decode bc_M_begin 63 = .ok (.getfield 71, 3) := by decide +kernel
theorem dc_M_begin_66 : decode bc_M_begin 66 = .ok (.aload_n 0, 1) := by decide +kernel
theorem dc_M_begin_67 : decode bc_M_begin 67 = .ok (.getfield 13, 3) := by decide +kernel
theorem dc_M_begin_70 : decode bc_M_begin 70 = .ok (.aload_n 0, 1) := by decide +kernel
theorem dc_M_begin_71 : decode bc_M_begin 71 = .ok (.getfield 71, 3) := by decide +kernel
theorem dc_M_begin_74 : decode bc_M_begin 74 = .ok (.iaload, 1) := by decide +kernel
theorem dc_M_begin_75 : decode bc_M_begin 75 = .ok (.invokevirtual 64, 3) := by decide +kernel
theorem dc_M_begin_78 : decode bc_M_begin 78 = .ok (.ifCond .eq 17, 3) := by decide +kernel
theorem dc_M_begin_81 : decode bc_M_begin 81 = .ok (.iconst 1, 1) := by decide +kernel
theorem dc_M_begin_82 : decode bc_M_begin 82 = .ok (.aload_n 0, 1) := by decide +kernel
theorem dc_M_begin_83 : decode bc_M_begin 83 = .ok (.getfield 13, 3) := by decide +kernel
theorem dc_M_begin_86 : decode bc_M_begin 86 = .ok (.aload_n 0, 1) := by decide +kernel
theorem dc_M_begin_87 : decode bc_M_begin 87 = .ok (.getfield 74, 3) := by decide +kernel
theorem dc_M_begin_90 : decode bc_M_begin 90 = .ok (.iaload, 1) := by decide +kernel
theorem dc_M_begin_91 : decode bc_M_begin 91 = .ok (.ishl, 1) := by decide +kernel
theorem dc_M_begin_92 : decode bc_M_begin 92 = .ok (.goto 4, 3) := by decide +kernel
theorem dc_M_begin_95 : decode bc_M_begin 95 = .ok (.iconst 0, 1) := by decide +kernel
theorem dc_M_begin_96 : decode bc_M_begin 96 = .ok (.iadd, 1) := by decide +kernel
theorem dc_M_begin_97 : decode bc_M_begin 97 = .ok (.ireturn, 1) := by decide +kernel
theorem dc_M_begin_98 : decode bc_M_begin 98 = .ok (.bipush 16, 2) := by decide +kernel
theorem dc_M_begin_100 : decode bc_M_begin 100 = .ok (.aload_n 0, 1) := by decide +kernel
theorem dc_M_begin_101 : decode bc_M_begin 101 = .ok (.getfield 13, 3) := by decide +kernel
theorem dc_M_begin_104 : decode bc_M_begin 104 = .ok (.aload_n 0, 1) := by decide +kernel
theorem dc_M_begin_105 : decode bc_M_begin 105 = .ok (.getfield 71, 3) := by decide +kernel
theorem dc_M_begin_108 : decode bc_M_begin 108 = .ok (.iaload, 1) := by decide +kernel
theorem dc_M_begin_109 : decode bc_M_begin 109 = .ok (.imul, 1) := by decide +kernel
theorem dc_M_begin_110 : decode bc_M_begin 110 = .ok (.aload_n 0, 1) := by decide +kernel
theorem dc_M_begin_111 : decode bc_M_begin 111 = .ok (.getfield 13, 3) := by decide +kernel
theorem dc_M_begin_114 : decode bc_M_begin 114 = .ok (.aload_n 0, 1) := by decide +kernel
theorem dc_M_begin_115 : decode bc_M_begin 115 = .ok (.getfield 74, 3) := by decide +kernel
theorem dc_M_begin_118 : decode bc_M_begin 118 = .ok (.iaload, 1) := by decide +kernel
theorem dc_M_begin_119 : decode bc_M_begin 119 = .ok (.iadd, 1) := by decide +kernel
theorem dc_M_begin_120 : decode bc_M_begin 120 = .ok (.ireturn, 1) := by decide +kernel
theorem dc_M_begin_121 : decode bc_M_begin 121 = .ok (.sipush 1024, 3) := by decide +kernel
theorem dc_M_begin_124 : decode bc_M_begin 124 = .ok (.ireturn, 1) := by decide +kernel
theorem dc_M_begin_125 : decode bc_M_begin 125 = .ok (.aload_n 0, 1) := by decide +kernel
theorem dc_M_begin_126 : decode bc_M_begin 126 = .ok (.getfield 13, 3) := by decide +kernel
theorem dc_M_begin_129 : decode bc_M_begin 129 = .ok (.aload_n 0, 1) := by decide +kernel
theorem dc_M_begin_130 : decode bc_M_begin 130 = .ok (.getfield 71, 3) := by decide +kernel
theorem dc_M_begin_133 : decode bc_M_begin 133 = .ok (.iaload, 1) := by decide +kernel
theorem dc_M_begin_134 : decode bc_M_begin 134 = .ok (.ireturn, 1) := by decide +kernel
theorem dc_M_begin_135 : decode bc_M_begin 135 = .ok (.iconst 0, 1) := by decide +kernel
theorem dc_M_begin_136 : decode bc_M_begin 136 = .ok (.istore_n 1, 1) := by decide +kernel
theorem dc_M_begin_137 : decode bc_M_begin 137 = .ok (.iconst 0, 1) := by decide +kernel
theorem dc_M_begin_138 : decode bc_M_begin 138 = .ok (.istore_n 2, 1) := by decide +kernel
theorem dc_M_begin_139 : decode bc_M_begin 139 = .ok (.iload_n 2, 1) := by decide +kernel
theorem dc_M_begin_140 : decode bc_M_begin 140 = .ok (.aload_n 0, 1) := by decide +kernel
theorem dc_M_begin_141 : decode bc_M_begin 141 = .ok (.getfield 9, 3) := by decide +kernel
theorem dc_M_begin_144 : decode bc_M_begin 144 = .ok (.aload_n 0, 1) := by decide +kernel
theorem dc_M_begin_145 : decode bc_M_begin 145 = .ok (.getfield 71, 3) := by decide +kernel
theorem dc_M_begin_148 : decode bc_M_begin 148 = .ok (.iaload, 1) := by decide +kernel
theorem dc_M_begin_149 : decode bc_M_begin 149 = .ok (.if_icmp .ge 27, 3) := by decide +kernel
theorem dc_M_begin_152 : decode bc_M_begin 152 = .ok (.aload_n 0, 1) := by decide +kernel
theorem dc_M_begin_153 : decode bc_M_begin 153 = .ok (.aload_n 0, 1) := by decide +kernel
theorem dc_M_begin_154 : decode bc_M_begin 154 = .ok (.getfield 71, 3) := by decide +kernel
theorem dc_M_begin_157 : decode bc_M_begin 157 = .ok (.iload_n 2, 1) := by decide +kernel
theorem dc_M_begin_158 : decode bc_M_begin 158 = .ok (.invokevirtual 64, 3) := by decide +kernel
theorem dc_M_begin_161 : decode bc_M_begin 161 = .ok (.ifCond .eq 9, 3) := by decide +kernel
theorem dc_M_begin_164 : decode bc_M_begin 164 = .ok (.iload_n 1, 1) := by decide +kernel
theorem dc_M_begin_165 : decode bc_M_begin 165 = .ok (.iconst 1, 1) := by decide +kernel
theorem dc_M_begin_166 : decode bc_M_begin 166 = .ok (.iload_n 2, 1) := by decide +kernel
theorem dc_M_begin_167 : decode bc_M_begin 167 = .ok (.ishl, 1) := by decide +kernel
theorem dc_M_begin_168 : decode bc_M_begin 168 = .ok (.ior, 1) := by decide +kernel
theorem dc_M_begin_169 : decode bc_M_begin 169 = .ok (.istore_n 1, 1) := by decide +kernel
theorem dc_M_begin_170 : decode bc_M_begin 170 = .ok (.iinc 2 1, 3) := by decide +kernel
theorem dc_M_begin_173 : decode bc_M_begin 173 = .ok (.goto (-34), 3) := by decide +kernel
theorem dc_M_begin_176 : decode bc_M_begin 176 = .ok (.iload_n 1, 1) := by decide +kernel
theorem dc_M_begin_177 : decode bc_M_begin 177 = .ok (.ireturn, 1) := by decide +kernel
theorem dc_M_begin_178 : decode bc_M_begin 178 = .ok (.aload_n 0, 1) := by decide +kernel
theorem dc_M_begin_179 : decode bc_M_begin 179 = .ok (.aload_n 0, 1) := by decide +kernel
theorem dc_M_begin_180 : decode bc_M_begin 180 = .ok (.getfield 71, 3) := by decide +kernel
theorem dc_M_begin_183 : decode bc_M_begin 183 = .ok (.aload_n 0, 1) := by decide +kernel
theorem dc_M_begin_184 : decode bc_M_begin 184 = .ok (.getfield 13, 3) := by decide +kernel
theorem dc_M_begin_187 : decode bc_M_begin 187 = .ok (.aload_n 0, 1) := by decide +kernel
theorem dc_M_begin_188 : decode bc_M_begin 188 = .ok (.getfield 71, 3) := by decide +kernel
theorem dc_M_begin_191 : decode bc_M_begin 191 = .ok (.iaload, 1) := by decide +kernel
theorem dc_M_begin_192 : decode bc_M_begin 192 = .ok (.aload_n 0, 1) := by decide +kernel
theorem dc_M_begin_193 : decode bc_M_begin 193 = .ok (.getfield 77, 3) := by decide +kernel
theorem dc_M_begin_196 : decode bc_M_begin 196 = .ok (.invokevirtual 61, 3) := by decide +kernel
theorem dc_M_begin_199 : decode bc_M_begin 199 = .ok (.ireturn, 1) := by decide +kernel
theorem dc_M_begin_200 : decode bc_M_begin 200 = .ok (.iconst 0, 1) := by decide +kernel
theorem dc_M_begin_201 : decode bc_M_begin 201 = .ok (.ireturn, 1) := by decide +kernel
theorem dc_M_step_0 : decode bc_M_step 0 = .ok (.iconst 0, 1) := by decide +kernel
theorem dc_M_step_1 : decode bc_M_step 1 = .ok (.istore_n 3, 1) := by decide +kernel
theorem dc_M_step_2 : decode bc_M_step 2 = .ok (.aload_n 0, 1) := by decide +kernel
theorem dc_M_step_3 : decode bc_M_step 3 = .ok (.getfield 68, 3) := by decide +kernel
theorem dc_M_step_6 : decode bc_M_step 6 = .ok (.tableswitch 275 0 6 #[42, 64, 66, 132, 162, 275, 224], 42) := by decide +kernel
theorem dc_M_step_48 : decode bc_M_step 48 = .ok (.iload_n 1, 1) := by decide +kernel
theorem dc_M_step_49 : decode bc_M_step 49 = .ok (.ifCond .ne 19, 3) := by decide +kernel
theorem dc_M_step_52 : decode bc_M_step 52 = .ok (.aload_n 0, 1) := by decide +kernel
theorem dc_M_step_53 : decode bc_M_step 53 = .ok (.getfield 77, 3) := by decide +kernel
theorem dc_M_step_56 : decode bc_M_step 56 = .ok (.iload_n 2, 1) := by decide +kernel
theorem dc_M_step_57 : decode bc_M_step 57 = .ok (.ishr, 1) := by decide +kernel
theorem dc_M_step_58 : decode bc_M_step 58 = .ok (.iconst 1, 1) := by decide +kernel
theorem dc_M_step_59 : decode bc_M_step 59 = .ok (.iand, 1) := by decide +kernel
theorem dc_M_step_60 : decode bc_M_step 60 = .ok (.iconst 1, 1) := by decide +kernel
theorem dc_M_step_61 : decode bc_M_step 61 = .ok (.if_icmp .ne 7, 3) := by decide +kernel
theorem dc_M_step_64 : decode bc_M_step 64 = .ok (.iconst 1, 1) := by decide +kernel
theorem dc_M_step_65 : decode bc_M_step 65 = .ok (.goto 4, 3) := by decide +kernel
theorem dc_M_step_68 : decode bc_M_step 68 = .ok (.iconst 2, 1) := by decide +kernel
theorem dc_M_step_69 : decode bc_M_step 69 = .ok (.ireturn, 1) := by decide +kernel
theorem dc_M_step_70 : decode bc_M_step 70 = .ok (.iconst 1, 1) := by decide +kernel
theorem dc_M_step_71 : decode bc_M_step 71 = .ok (.ireturn, 1) := by decide +kernel
theorem dc_M_step_72 : decode bc_M_step 72 = .ok (.aload_n 0, 1) := by decide +kernel
theorem dc_M_step_73 : decode bc_M_step 73 = .ok (.aload_n 0, 1) := by decide +kernel
theorem dc_M_step_74 : decode bc_M_step 74 = .ok (.getfield 71, 3) := by decide +kernel
theorem dc_M_step_77 : decode bc_M_step 77 = .ok (.iload_n 1, 1) := by decide +kernel
theorem dc_M_step_78 : decode bc_M_step 78 = .ok (.bipush 10, 2) := by decide +kernel
theorem dc_M_step_80 : decode bc_M_step 80 = .ok (.ishr, 1) := by decide +kernel
theorem dc_M_step_81 : decode bc_M_step 81 = .ok (.iload_n 2, 1) := by decide +kernel
theorem dc_M_step_82 : decode bc_M_step 82 = .ok (.invokevirtual 61, 3) := by decide +kernel
theorem dc_M_step_85 : decode bc_M_step 85 = .ok (.istore 4, 2) := by decide +kernel
theorem dc_M_step_87 : decode bc_M_step 87 = .ok (.aload_n 0, 1) := by decide +kernel
theorem dc_M_step_88 : decode bc_M_step 88 = .ok (.aload_n 0, 1) := by decide +kernel
theorem dc_M_step_89 : decode bc_M_step 89 = .ok (.getfield 74, 3) := by decide +kernel
theorem dc_M_step_92 : decode bc_M_step 92 = .ok (.iload_n 1, 1) := by decide +kernel
theorem dc_M_step_93 : decode bc_M_step 93 = .ok (.sipush 1023, 3) := by decide +kernel
theorem dc_M_step_96 : decode bc_M_step 96 = .ok (.iand, 1) := by decide +kernel
theorem dc_M_step_97 : decode bc_M_step 97 = .ok (.iload_n 2, 1) := by decide +kernel
theorem dc_M_step_98 : decode bc_M_step 98 = .ok (.invokevirtual 80, 3) := by decide +kernel
theorem dc_M_step_101 : decode bc_M_step 101 = .ok (.istore_n 3, 1) := by decide +kernel
theorem dc_M_step_102 : decode bc_M_step 102 = .ok (.aload_n 0, 1) := by decide +kernel
theorem dc_M_step_103 : decode bc_M_step 103 = .ok (.aload_n 0, 1) := by decide +kernel
theorem dc_M_step_104 : decode bc_M_step 104 = .ok (.getfield 71, 3) := by decide +kernel
theorem dc_M_step_107 : decode bc_M_step 107 = .ok (.iload 4, 2) := by decide +kernel
theorem dc_M_step_109 : decode bc_M_step 109 = .ok (.invokevirtual 64, 3) := by decide +kernel
theorem dc_M_step_112 : decode bc_M_step 112 = .ok (.ifCond .eq 17, 3) := by decide +kernel
theorem dc_M_step_115 : decode bc_M_step 115 = .ok (.iload_n 3, 1) := by decide +kernel
theorem dc_M_step_116 : decode bc_M_step 116 = .ok (.iconst 1, 1) := by decide +kernel
theorem dc_M_step_117 : decode bc_M_step 117 = .ok (.aload_n 0, 1) := by decide +kernel
theorem dc_M_step_118 : decode bc_M_step 118 = .ok (.getfield 13, 3) := by decide +kernel
theorem dc_M_step_121 : decode bc_M_step 121 = .ok (.aload_n 0, 1) := by decide +kernel
theorem dc_M_step_122 : decode bc_M_step 122 = .ok (.getfield 74, 3) := by decide +kernel
theorem dc_M_step_125 : decode bc_M_step 125 = .ok (.iaload, 1) := by decide +kernel
theorem dc_M_step_126 : decode bc_M_step 126 = .ok (.ishl, 1) := by decide +kernel
theorem dc_M_step_127 : decode bc_M_step 127 = .ok (.ior, 1) := by decide +kernel
theorem dc_M_step_128 : decode bc_M_step 128 = .ok (.istore_n 3, 1) := by decide +kernel
theorem dc_M_step_129 : decode bc_M_step 129 = .ok (.sipush 1024, 3) := by decide +kernel
theorem dc_M_step_132 : decode bc_M_step 132 = .ok (.iload 4, 2) := by decide +kernel
theorem dc_M_step_134 : decode bc_M_step 134 = .ok (.imul, 1) := by decide +kernel
theorem dc_M_step_135 : decode bc_M_step 135 = .ok (.iload_n 3, 1) := by decide +kernel
theorem dc_M_step_136 : decode bc_M_step 136 = .ok (.iadd, 1) := by decide +kernel
theorem dc_M_step_137 : decode bc_M_step 137 = .ok (.ireturn, 1) := by decide +kernel
theorem dc_M_step_138 : decode bc_M_step 138 = .ok (.bipush 16, 2) := by decide +kernel
theorem dc_M_step_140 : decode bc_M_step 140 = .ok (.aload_n 0, 1) := by decide +kernel
theorem dc_M_step_141 : decode bc_M_step 141 = .ok (.aload_n 0, 1) := by decide +kernel
theorem dc_M_step_142 : decode bc_M_step 142 = .ok (.getfield 71, 3) := by decide +kernel
theorem dc_M_step_145 : decode bc_M_step 145 = .ok (.iload_n 1, 1) := by decide +kernel
theorem dc_M_step_146 : decode bc_M_step 146 = .ok (.iconst 4, 1) := by decide +kernel
theorem dc_M_step_147 : decode bc_M_step 147 = .ok (.ishr, 1) := by decide +kernel
theorem dc_M_step_148 : decode bc_M_step 148 = .ok (.iload_n 2, 1) := by decide +kernel
theorem dc_M_step_149 : decode bc_M_step 149 = .ok (.invokevirtual 61, 3) := by decide +kernel
theorem dc_M_step_152 : decode bc_M_step 152 = .ok (.imul, 1) := by decide +kernel
theorem dc_M_step_153 : decode bc_M_step 153 = .ok (.aload_n 0, 1) := by decide +kernel
theorem dc_M_step_154 : decode bc_M_step 154 = .ok (.aload_n 0, 1) := by decide +kernel
theorem dc_M_step_155 : decode bc_M_step 155 = .ok (.getfield 74, 3) := by decide +kernel
theorem dc_M_step_158 : decode bc_M_step 158 = .ok (.iload_n 1, 1) := by decide +kernel
theorem dc_M_step_159 : decode bc_M_step 159 = .ok (.bipush 15, 2) := by decide +kernel
theorem dc_M_step_161 : decode bc_M_step 161 = .ok (.iand, 1) := by decide +kernel
theorem dc_M_step_162 : decode bc_M_step 162 = .ok (.iload_n 2, 1) := by decide +kernel
theorem dc_M_step_163 : decode bc_M_step 163 = .ok (.invokevirtual 61, 3) := by decide +kernel
theorem dc_M_step_166 : decode bc_M_step 166 = .ok (.iadd, 1) := by decide +kernel
theorem dc_M_step_167 : decode bc_M_step 167 = .ok (.ireturn, 1) := by decide +kernel
theorem dc_M_step_168 : decode bc_M_step 168 = .ok (.aload_n 0, 1) := by decide +kernel
theorem dc_M_step_169 : decode bc_M_step 169 = .ok (.aload_n 0, 1) := by decide +kernel
theorem dc_M_step_170 : decode bc_M_step 170 = .ok (.getfield 71, 3) := by decide +kernel
theorem dc_M_step_173 : decode bc_M_step 173 = .ok (.iload_n 1, 1) := by decide +kernel
theorem dc_M_step_174 : decode bc_M_step 174 = .ok (.sipush 1024, 3) := by decide +kernel
theorem dc_M_step_177 : decode bc_M_step 177 = .ok (.if_icmp .ne 17, 3) := by decide +kernel
theorem dc_M_step_180 : decode bc_M_step 180 = .ok (.iconst 1, 1) := by decide +kernel
theorem dc_M_step_181 : decode bc_M_step 181 = .ok (.aload_n 0, 1) := by decide +kernel
theorem dc_M_step_182 : decode bc_M_step 182 = .ok (.getfield 13, 3) := by decide +kernel
theorem dc_M_step_185 : decode bc_M_step 185 = .ok (.aload_n 0, 1) := by decide +kernel
theorem dc_M_step_186 : decode bc_M_step 186 = .ok (.getfield 71, 3) := by decide +kernel
theorem dc_M_step_189 : decode bc_M_step 189 = .ok (.iaload, 1) := by decide +kernel
theorem dc_M_step_190 : decode bc_M_step 190 = .ok (.ishl, 1) := by decide +kernel
theorem dc_M_step_191 : decode bc_M_step 191 = .ok (.goto 4, 3) := by decide +kernel
theorem dc_M_step_194 : decode bc_M_step 194 = .ok (.iload_n 1, 1) := by decide +kernel
theorem dc_M_step_195 : decode bc_M_step 195 = .ok (.iload_n 2, 1) := by decide +kernel
theorem dc_M_step_196 : decode bc_M_step 196 = .ok (.invokevirtual 80, 3) := by decide +kernel
theorem dc_M_step_199 : decode bc_M_step 199 = .ok (.istore_n 3, 1) := by decide +kernel
theorem dc_M_step_200 : decode bc_M_step 200 = .ok (.aload_n 0, 1) := by decide +kernel
theorem dc_M_step_201 : decode bc_M_step 201 = .ok (.aload_n 0, 1) := by decide +kernel
theorem dc_M_step_202 : decode bc_M_step 202 = .ok (.getfield 71, 3) := by decide +kernel
theorem dc_M_step_205 : decode bc_M_step 205 = .ok (.iload_n 3, 1) := by decide +kernel
theorem dc_M_step_206 : decode bc_M_step 206 = .ok (.invokevirtual 83, 3) := by decide +kernel
theorem dc_M_step_209 : decode bc_M_step 209 = .ok (.ifCond .eq 19, 3) := by decide +kernel
theorem dc_M_step_212 : decode bc_M_step 212 = .ok (.iload_n 3, 1) := by decide +kernel
theorem dc_M_step_213 : decode bc_M_step 213 = .ok (.iconst 1, 1) := by decide +kernel
theorem dc_M_step_214 : decode bc_M_step 214 = .ok (.aload_n 0, 1) := by decide +kernel
theorem dc_M_step_215 : decode bc_M_step 215 = .ok (.getfield 13, 3) := by decide +kernel
theorem dc_M_step_218 : decode bc_M_step 218 = .ok (.aload_n 0, 1) := by decide +kernel
theorem dc_M_step_219 : decode bc_M_step 219 = .ok (.getfield 71, 3) := by decide +kernel
theorem dc_M_step_222 : decode bc_M_step 222 = .ok (.iaload, 1) := by decide +kernel
theorem dc_M_step_223 : decode bc_M_step 223 = .ok (.ishl, 1) := by decide +kernel
theorem dc_M_step_224 : decode bc_M_step 224 = .ok (.ior, 1) := by decide +kernel
theorem dc_M_step_225 : decode bc_M_step 225 = .ok (.goto 4, 3) := by decide +kernel
theorem dc_M_step_228 : decode bc_M_step 228 = .ok (.iload_n 3, 1) := by decide +kernel
theorem dc_M_step_229 : decode bc_M_step 229 = .ok (.ireturn, 1) := by decide +kernel
theorem dc_M_step_230 : decode bc_M_step 230 = .ok (.iconst 0, 1) := by decide +kernel
theorem dc_M_step_231 : decode bc_M_step 231 = .ok (.istore 5, 2) := by decide +kernel
theorem dc_M_step_233 : decode bc_M_step 233 = .ok (.iload 5, 2) := by decide +kernel
theorem dc_M_step_235 : decode bc_M_step 235 = .ok (.aload_n 0, 1) := by decide +kernel
theorem dc_M_step_236 : decode bc_M_step 236 = .ok (.getfield 9, 3) := by decide +kernel
theorem dc_M_step_239 : decode bc_M_step 239 = .ok (.aload_n 0, 1) := by decide +kernel
theorem dc_M_step_240 : decode bc_M_step 240 = .ok (.getfield 71, 3) := by decide +kernel
theorem dc_M_step_243 : decode bc_M_step 243 = .ok (.iaload, 1) := by decide +kernel
theorem dc_M_step_244 : decode bc_M_step 244 = .ok (.if_icmp .ge 35, 3) := by decide +kernel
theorem dc_M_step_247 : decode bc_M_step 247 = .ok (.iload_n 1, 1) := by decide +kernel
theorem dc_M_step_248 : decode bc_M_step 248 = .ok (.aload_n 0, 1) := by decide +kernel
theorem dc_M_step_249 : decode bc_M_step 249 = .ok (.aload_n 0, 1) := by decide +kernel
theorem dc_M_step_250 : decode bc_M_step 250 = .ok (.getfield 71, 3) := by decide +kernel
theorem dc_M_step_253 : decode bc_M_step 253 = .ok (.iload 5, 2) := by decide +kernel
theorem dc_M_step_255 : decode bc_M_step 255 = .ok (.iload_n 2, 1) := by decide +kernel
theorem dc_M_step_256 : decode bc_M_step 256 = .ok (.invokevirtual 61, 3) := by decide +kernel
theorem dc_M_step_259 : decode bc_M_step 259 = .ok (.ishr, 1) := by decide +kernel
theorem dc_M_step_260 : decode bc_M_step 260 = .ok (.iconst 1, 1) := by decide +kernel
theorem dc_M_step_261 : decode bc_M_step 261 = .ok (.iand, 1) := by decide +kernel
theorem dc_M_step_262 : decode bc_M_step 262 = .ok (.iconst 1, 1) := by decide +kernel
theorem dc_M_step_263 : decode bc_M_step 263 = .ok (.if_icmp .ne 10, 3) := by decide +kernel
theorem dc_M_step_266 : decode bc_M_step 266 = .ok (.iload_n 3, 1) := by decide +kernel
theorem dc_M_step_267 : decode bc_M_step 267 = .ok (.iconst 1, 1) := by decide +kernel
theorem dc_M_step_268 : decode bc_M_step 268 = .ok (.iload 5, 2) := by decide +kernel
theorem dc_M_step_270 : decode bc_M_step 270 = .ok (.ishl, 1) := by decide +kernel
theorem dc_M_step_271 : decode bc_M_step 271 = .ok (.ior, 1) := by decide +kernel
theorem dc_M_step_272 : decode bc_M_step 272 = .ok (.istore_n 3, 1) := by decide +kernel
theorem dc_M_step_273 : decode bc_M_step 273 = .ok (.iinc 5 1, 3) := by decide +kernel
theorem dc_M_step_276 : decode bc_M_step 276 = .ok (.goto (-43), 3) := by decide +kernel
theorem dc_M_step_279 : decode bc_M_step 279 = .ok (.iload_n 3, 1) := by decide +kernel
theorem dc_M_step_280 : decode bc_M_step 280 = .ok (.ireturn, 1) := by decide +kernel
theorem dc_M_step_281 : decode bc_M_step 281 = .ok (.aload_n 0, 1) := by decide +kernel
theorem dc_M_step_282 : decode bc_M_step 282 = .ok (.aload_n 0, 1) := by decide +kernel
theorem dc_M_step_283 : decode bc_M_step 283 = .ok (.getfield 71, 3) := by decide +kernel
theorem dc_M_step_286 : decode bc_M_step 286 = .ok (.iload_n 1, 1) := by decide +kernel
theorem dc_M_step_287 : decode bc_M_step 287 = .ok (.iload_n 2, 1) := by decide +kernel
theorem dc_M_step_288 : decode bc_M_step 288 = .ok (.invokevirtual 61, 3) := by decide +kernel
theorem dc_M_step_291 : decode bc_M_step 291 = .ok (.ireturn, 1) := by decide +kernel
theorem dc_M_isGood_0 : decode bc_M_isGood 0 = .ok (.aload_n 0, 1) := by decide +kernel
theorem dc_M_isGood_1 : decode bc_M_isGood 1 = .ok (.getfield 68, 3) := by decide +kernel
theorem dc_M_isGood_4 : decode bc_M_isGood 4 = .ok (.tableswitch 266 0 7 #[48, 59, 69, 83, 190, 215, 233, 256], 48) := by decide +kernel
theorem dc_M_isGood_52 : decode bc_M_isGood 52 = .ok (.iload_n 1, 1) := by decide +kernel
theorem dc_M_isGood_53 : decode bc_M_isGood 53 = .ok (.iconst 1, 1) := by decide +kernel
theorem dc_M_isGood_54 : decode bc_M_isGood 54 = .ok (.if_icmp .ne 7, 3) := by decide +kernel
theorem dc_M_isGood_57 : decode bc_M_isGood 57 = .ok (.iconst 1, 1) := by decide +kernel
theorem dc_M_isGood_58 : decode bc_M_isGood 58 = .ok (.goto 4, 3) := by decide +kernel
theorem dc_M_isGood_61 : decode bc_M_isGood 61 = .ok (.iconst 0, 1) := by decide +kernel
theorem dc_M_isGood_62 : decode bc_M_isGood 62 = .ok (.ireturn, 1) := by decide +kernel
theorem dc_M_isGood_63 : decode bc_M_isGood 63 = .ok (.iload_n 1, 1) := by decide +kernel
theorem dc_M_isGood_64 : decode bc_M_isGood 64 = .ok (.ifCond .ne 7, 3) := by decide +kernel
theorem dc_M_isGood_67 : decode bc_M_isGood 67 = .ok (.iconst 1, 1) := by decide +kernel
theorem dc_M_isGood_68 : decode bc_M_isGood 68 = .ok (.goto 4, 3) := by decide +kernel
theorem dc_M_isGood_71 : decode bc_M_isGood 71 = .ok (.iconst 0, 1) := by decide +kernel
theorem dc_M_isGood_72 : decode bc_M_isGood 72 = .ok (.ireturn, 1) := by decide +kernel
theorem dc_M_isGood_73 : decode bc_M_isGood 73 = .ok (.aload_n 0, 1) := by decide +kernel
theorem dc_M_isGood_74 : decode bc_M_isGood 74 = .ok (.aload_n 0, 1) := by decide +kernel
theorem dc_M_isGood_75 : decode bc_M_isGood 75 = .ok (.getfield 74, 3) := by decide +kernel
theorem dc_M_isGood_78 : decode bc_M_isGood 78 = .ok (.iload_n 1, 1) := by decide +kernel
theorem dc_M_isGood_79 : decode bc_M_isGood 79 = .ok (.sipush 1023, 3) := by decide +kernel
theorem dc_M_isGood_82 : decode bc_M_isGood 82 = .ok (.iand, 1) := by decide +kernel
theorem dc_M_isGood_83 : decode bc_M_isGood 83 = .ok (.invokevirtual 83, 3) := by decide +kernel
theorem dc_M_isGood_86 : decode bc_M_isGood 86 = .ok (.ireturn, 1) := by decide +kernel
theorem dc_M_isGood_87 : decode bc_M_isGood 87 = .ok (.aload_n 0, 1) := by decide +kernel
theorem dc_M_isGood_88 : decode bc_M_isGood 88 = .ok (.aload_n 0, 1) := by decide +kernel
theorem dc_M_isGood_89 : decode bc_M_isGood 89 = .ok (.getfield 71, 3) := by decide +kernel
theorem dc_M_isGood_92 : decode bc_M_isGood 92 = .ok (.iload_n 1, 1) := by decide +kernel
theorem dc_M_isGood_93 : decode bc_M_isGood 93 = .ok (.iconst 4, 1) := by decide +kernel
theorem dc_M_isGood_94 : decode bc_M_isGood 94 = .ok (.ishr, 1) := by decide +kernel
theorem dc_M_isGood_95 : decode bc_M_isGood 95 = .ok (.invokevirtual 64, 3) := by decide +kernel
theorem dc_M_isGood_98 : decode bc_M_isGood 98 = .ok (.istore_n 2, 1) := by decide +kernel
theorem dc_M_isGood_99 : decode bc_M_isGood 99 = .ok (.aload_n 0, 1) := by decide +kernel
theorem dc_M_isGood_100 : decode bc_M_isGood 100 = .ok (.aload_n 0, 1) := by decide +kernel
theorem dc_M_isGood_101 : decode bc_M_isGood 101 = .ok (.getfield 74, 3) := by decide +kernel
theorem dc_M_isGood_104 : decode bc_M_isGood 104 = .ok (.iload_n 1, 1) := by decide +kernel
theorem dc_M_isGood_105 : decode bc_M_isGood 105 = .ok (.bipush 15, 2) := by decide +kernel
theorem dc_M_isGood_107 : decode bc_M_isGood 107 = .ok (.iand, 1) := by decide +kernel
theorem dc_M_isGood_108 : decode bc_M_isGood 108 = .ok (.invokevirtual 64, 3) := by decide +kernel
theorem dc_M_isGood_111 : decode bc_M_isGood 111 = .ok (.istore_n 3, 1) := by decide +kernel
theorem dc_M_isGood_112 : decode bc_M_isGood 112 = .ok (.aload_n 0, 1) := by decide +kernel
theorem dc_M_isGood_113 : decode bc_M_isGood 113 = .ok (.getfield 77, 3) := by decide +kernel
theorem dc_M_isGood_116 : decode bc_M_isGood 116 = .ok (.ifCond .ne 19, 3) := by decide +kernel
theorem dc_M_isGood_119 : decode bc_M_isGood 119 = .ok (.iload_n 2, 1) := by decide +kernel
theorem dc_M_isGood_120 : decode bc_M_isGood 120 = .ok (.ifCond .ne 7, 3) := by decide +kernel
theorem dc_M_isGood_123 : decode bc_M_isGood 123 = .ok (.iload_n 3, 1) := by decide +kernel
theorem dc_M_isGood_124 : decode bc_M_isGood 124 = .ok (.ifCond .eq 7, 3) := by decide +kernel
theorem dc_M_isGood_127 : decode bc_M_isGood 127 = .ok (.iconst 1, 1) := by decide +kernel
theorem dc_M_isGood_128 : decode bc_M_isGood 128 = .ok (.goto 65, 3) := by decide +kernel
theorem dc_M_isGood_131 : decode bc_M_isGood 131 = .ok (.iconst 0, 1) := by decide +kernel
theorem dc_M_isGood_132 : decode bc_M_isGood 132 = .ok (.goto 61, 3) := by decide +kernel
theorem dc_M_isGood_135 : decode bc_M_isGood 135 = .ok (.aload_n 0, 1) := by decide +kernel
theorem dc_M_isGood_136 : decode bc_M_isGood 136 = .ok (.getfield 77, 3) := by decide +kernel
theorem dc_M_isGood_139 : decode bc_M_isGood 139 = .ok (.iconst 1, 1) := by decide +kernel
theorem dc_M_isGood_140 : decode bc_M_isGood 140 = .ok (.if_icmp .ne 19, 3) := by decide +kernel
theorem dc_M_isGood_143 : decode bc_M_isGood 143 = .ok (.iload_n 2, 1) := by decide +kernel
theorem dc_M_isGood_144 : decode bc_M_isGood 144 = .ok (.ifCond .eq 11, 3) := by decide +kernel
theorem dc_M_isGood_147 : decode bc_M_isGood 147 = .ok (.iload_n 3, 1) := by decide +kernel
theorem dc_M_isGood_148 : decode bc_M_isGood 148 = .ok (.ifCond .eq 7, 3) := by decide +kernel
theorem dc_M_isGood_151 : decode bc_M_isGood 151 = .ok (.iconst 1, 1) := by decide +kernel
theorem dc_M_isGood_152 : decode bc_M_isGood 152 = .ok (.goto 41, 3) := by decide +kernel
theorem dc_M_isGood_155 : decode bc_M_isGood 155 = .ok (.iconst 0, 1) := by decide +kernel
theorem dc_M_isGood_156 : decode bc_M_isGood 156 = .ok (.goto 37, 3) := by decide +kernel
theorem dc_M_isGood_159 : decode bc_M_isGood 159 = .ok (.aload_n 0, 1) := by decide +kernel
theorem dc_M_isGood_160 : decode bc_M_isGood 160 = .ok (.getfield 77, 3) := by decide +kernel
theorem dc_M_isGood_163 : decode bc_M_isGood 163 = .ok (.iconst 2, 1) := by decide +kernel
theorem dc_M_isGood_164 : decode bc_M_isGood 164 = .ok (.if_icmp .ne 19, 3) := by decide +kernel
theorem dc_M_isGood_167 : decode bc_M_isGood 167 = .ok (.iload_n 2, 1) := by decide +kernel
theorem dc_M_isGood_168 : decode bc_M_isGood 168 = .ok (.ifCond .eq 11, 3) := by decide +kernel
theorem dc_M_isGood_171 : decode bc_M_isGood 171 = .ok (.iload_n 3, 1) := by decide +kernel
theorem dc_M_isGood_172 : decode bc_M_isGood 172 = .ok (.ifCond .ne 7, 3) := by decide +kernel
theorem dc_M_isGood_175 : decode bc_M_isGood 175 = .ok (.iconst 1, 1) := by decide +kernel
theorem dc_M_isGood_176 : decode bc_M_isGood 176 = .ok (.goto 17, 3) := by decide +kernel
theorem dc_M_isGood_179 : decode bc_M_isGood 179 = .ok (.iconst 0, 1) := by decide +kernel
theorem dc_M_isGood_180 : decode bc_M_isGood 180 = .ok (.goto 13, 3) := by decide +kernel
theorem dc_M_isGood_183 : decode bc_M_isGood 183 = .ok (.iload_n 2, 1) := by decide +kernel
theorem dc_M_isGood_184 : decode bc_M_isGood 184 = .ok (.iload_n 3, 1) := by decide +kernel
theorem dc_M_isGood_185 : decode bc_M_isGood 185 = .ok (.if_icmp .eq 7, 3) := by decide +kernel
theorem dc_M_isGood_188 : decode bc_M_isGood 188 = .ok (.iconst 1, 1) := by decide +kernel
theorem dc_M_isGood_189 : decode bc_M_isGood 189 = .ok (.goto 4, 3) := by decide +kernel
theorem dc_M_isGood_192 : decode bc_M_isGood 192 = .ok (.iconst 0, 1) := by decide +kernel
theorem dc_M_isGood_193 : decode bc_M_isGood 193 = .ok (.ireturn, 1) := by decide +kernel
theorem dc_M_isGood_194 : decode bc_M_isGood 194 = .ok (.iload_n 1, 1) := by decide +kernel
theorem dc_M_isGood_195 : decode bc_M_isGood 195 = .ok (.sipush 1024, 3) := by decide +kernel
theorem dc_M_isGood_198 : decode bc_M_isGood 198 = .ok (.if_icmp .eq 15, 3) := by decide +kernel
theorem dc_M_isGood_201 : decode bc_M_isGood 201 = .ok (.aload_n 0, 1) := by decide +kernel
theorem dc_M_isGood_202 : decode bc_M_isGood 202 = .ok (.aload_n 0, 1) := by decide +kernel
theorem dc_M_isGood_203 : decode bc_M_isGood 203 = .ok (.getfield 71, 3) := by decide +kernel
theorem dc_M_isGood_206 : decode bc_M_isGood 206 = .ok (.iload_n 1, 1) := by decide +kernel
theorem dc_M_isGood_207 : decode bc_M_isGood 207 = .ok (.invokevirtual 83, 3) := by decide +kernel
theorem dc_M_isGood_210 : decode bc_M_isGood 210 = .ok (.ifCond .eq 7, 3) := by decide +kernel
theorem dc_M_isGood_213 : decode bc_M_isGood 213 = .ok (.iconst 1, 1) := by decide +kernel
theorem dc_M_isGood_214 : decode bc_M_isGood 214 = .ok (.goto 4, 3) := by decide +kernel
theorem dc_M_isGood_217 : decode bc_M_isGood 217 = .ok (.iconst 0, 1) := by decide +kernel
theorem dc_M_isGood_218 : decode bc_M_isGood 218 = .ok (.ireturn, 1) := by decide +kernel
theorem dc_M_isGood_219 : decode bc_M_isGood 219 = .ok (.aload_n 0, 1) := by decide +kernel
theorem dc_M_isGood_220 : decode bc_M_isGood 220 = .ok (.aload_n 0, 1) := by decide +kernel
theorem dc_M_isGood_221 : decode bc_M_isGood 221 = .ok (.getfield 71, 3) := by decide +kernel
theorem dc_M_isGood_224 : decode bc_M_isGood 224 = .ok (.iload_n 1, 1) := by decide +kernel
theorem dc_M_isGood_225 : decode bc_M_isGood 225 = .ok (.invokevirtual 64, 3) := by decide +kernel
theorem dc_M_isGood_228 : decode bc_M_isGood 228 = .ok (.ifCond .ne 7, 3) := by decide +kernel
theorem dc_M_isGood_231 : decode bc_M_isGood 231 = .ok (.iconst 1, 1) := by decide +kernel
theorem dc_M_isGood_232 : decode bc_M_isGood 232 = .ok (.goto 4, 3) := by decide +kernel
theorem dc_M_isGood_235 : decode bc_M_isGood 235 = .ok (.iconst 0, 1) := by decide +kernel
theorem dc_M_isGood_236 : decode bc_M_isGood 236 = .ok (.ireturn, 1) := by decide +kernel
theorem dc_M_isGood_237 : decode bc_M_isGood 237 = .ok (.iload_n 1, 1) := by decide +kernel
theorem dc_M_isGood_238 : decode bc_M_isGood 238 = .ok (.aload_n 0, 1) := by decide +kernel
theorem dc_M_isGood_239 : decode bc_M_isGood 239 = .ok (.getfield 13, 3) := by decide +kernel
theorem dc_M_isGood_242 : decode bc_M_isGood 242 = .ok (.aload_n 0, 1) := by decide +kernel
theorem dc_M_isGood_243 : decode bc_M_isGood 243 = .ok (.getfield 71, 3) := by decide +kernel
theorem dc_M_isGood_246 : decode bc_M_isGood 246 = .ok (.iaload, 1) := by decide +kernel
theorem dc_M_isGood_247 : decode bc_M_isGood 247 = .ok (.ishr, 1) := by decide +kernel
theorem dc_M_isGood_248 : decode bc_M_isGood 248 = .ok (.iconst 1, 1) := by decide +kernel
theorem dc_M_isGood_249 : decode bc_M_isGood 249 = .ok (.iand, 1) := by decide +kernel
theorem dc_M_isGood_250 : decode bc_M_isGood 250 = .ok (.iconst 1, 1) := by decide +kernel
theorem dc_M_isGood_251 : decode bc_M_isGood 251 = .ok (.if_icmp .ne 7, 3) := by decide +kernel
theorem dc_M_isGood_254 : decode bc_M_isGood 254 = .ok (.iconst 1, 1) := by decide +kernel
theorem dc_M_isGood_255 : decode bc_M_isGood 255 = .ok (.goto 4, 3) := by decide +kernel
theorem dc_M_isGood_258 : decode bc_M_isGood 258 = .ok (.iconst 0, 1) := by decide +kernel
theorem dc_M_isGood_259 : decode bc_M_isGood 259 = .ok (.ireturn, 1) := by decide +kernel
theorem dc_M_isGood_260 : decode bc_M_isGood 260 = .ok (.aload_n 0, 1) := by decide +kernel
theorem dc_M_isGood_261 : decode bc_M_isGood 261 = .ok (.aload_n 0, 1) := by decide +kernel
theorem dc_M_isGood_262 : decode bc_M_isGood 262 = .ok (.getfield 71, 3) := by decide +kernel
theorem dc_M_isGood_265 : decode bc_M_isGood 265 = .ok (.iload_n 1, 1) := by decide +kernel
theorem dc_M_isGood_266 : decode bc_M_isGood 266 = .ok (.invokevirtual 64, 3) := by decide +kernel
theorem dc_M_isGood_269 : decode bc_M_isGood 269 = .ok (.ireturn, 1) := by decide +kernel
theorem dc_M_isGood_270 : decode bc_M_isGood 270 = .ok (.aload_n 0, 1) := by decide +kernel
theorem dc_M_isGood_271 : decode bc_M_isGood 271 = .ok (.getfield 41, 3) := by decide +kernel
theorem dc_M_isGood_274 : decode bc_M_isGood 274 = .ok (.iload_n 1, 1) := by decide +kernel
theorem dc_M_isGood_275 : decode bc_M_isGood 275 = .ok (.baload, 1) := by decide +kernel
theorem dc_M_isGood_276 : decode bc_M_isGood 276 = .ok (.ireturn, 1) := by decide +kernel
theorem dc_M_come_0 : decode bc_M_come 0 = .ok (.aload_n 0, 1) := by decide +kernel
theorem dc_M_come_1 : decode bc_M_come 1 = .ok (.getfield 23, 3) := by decide +kernel
theorem dc_M_come_4 : decode bc_M_come 4 = .ok (.iload_n 1, 1) := by decide +kernel
theorem dc_M_come_5 : decode bc_M_come 5 = .ok (.iaload, 1) := by decide +kernel
theorem dc_M_come_6 : decode bc_M_come 6 = .ok (.ifCond .lt 10, 3) := by decide +kernel
theorem dc_M_come_9 : decode bc_M_come 9 = .ok (.aload_n 0, 1) := by decide +kernel
theorem dc_M_come_10 : decode bc_M_come 10 = .ok (.getfield 23, 3) := by decide +kernel
theorem dc_M_come_13 : decode bc_M_come 13 = .ok (.iload_n 1, 1) := by decide +kernel
theorem dc_M_come_14 : decode bc_M_come 14 = .ok (.iaload, 1) := by decide +kernel
theorem dc_M_come_15 : decode bc_M_come 15 = .ok (.ireturn, 1) := by decide +kernel
theorem dc_M_come_16 : decode bc_M_come 16 = .ok (.aload_n 0, 1) := by decide +kernel
theorem dc_M_come_17 : decode bc_M_come 17 = .ok (.getfield 23, 3) := by decide +kernel
theorem dc_M_come_20 : decode bc_M_come 20 = .ok (.iload_n 1, 1) := by decide +kernel
theorem dc_M_come_21 : decode bc_M_come 21 = .ok (.aload_n 0, 1) := by decide +kernel
theorem dc_M_come_22 : decode bc_M_come 22 = .ok (.getfield 86, 3) := by decide +kernel
theorem dc_M_come_25 : decode bc_M_come 25 = .ok (.iastore, 1) := by decide +kernel
theorem dc_M_come_26 : decode bc_M_come 26 = .ok (.aload_n 0, 1) := by decide +kernel
theorem dc_M_come_27 : decode bc_M_come 27 = .ok (.getfield 26, 3) := by decide +kernel
theorem dc_M_come_30 : decode bc_M_come 30 = .ok (.aload_n 0, 1) := by decide +kernel
theorem dc_M_come_31 : decode bc_M_come 31 = .ok (.getfield 86, 3) := by decide +kernel
theorem dc_M_come_34 : decode bc_M_come 34 = .ok (.iload_n 1, 1) := by decide +kernel
theorem dc_M_come_35 : decode bc_M_come 35 = .ok (.iastore, 1) := by decide +kernel
theorem dc_M_come_36 : decode bc_M_come 36 = .ok (.aload_n 0, 1) := by decide +kernel
theorem dc_M_come_37 : decode bc_M_come 37 = .ok (.dup, 1) := by decide +kernel
theorem dc_M_come_38 : decode bc_M_come 38 = .ok (.getfield 86, 3) := by decide +kernel
theorem dc_M_come_41 : decode bc_M_come 41 = .ok (.iconst 1, 1) := by decide +kernel
theorem dc_M_come_42 : decode bc_M_come 42 = .ok (.iadd, 1) := by decide +kernel
theorem dc_M_come_43 : decode bc_M_come 43 = .ok (.putfield 86, 3) := by decide +kernel
theorem dc_M_come_46 : decode bc_M_come 46 = .ok (.aload_n 0, 1) := by decide +kernel
theorem dc_M_come_47 : decode bc_M_come 47 = .ok (.getfield 86, 3) := by decide +kernel
theorem dc_M_come_50 : decode bc_M_come 50 = .ok (.iconst 1, 1) := by decide +kernel
theorem dc_M_come_51 : decode bc_M_come 51 = .ok (.isub, 1) := by decide +kernel
theorem dc_M_come_52 : decode bc_M_come 52 = .ok (.ireturn, 1) := by decide +kernel
theorem dc_M_apart_0 : decode bc_M_apart 0 = .ok (.iconst 0, 1) := by decide +kernel
theorem dc_M_apart_1 : decode bc_M_apart 1 = .ok (.istore_n 1, 1) := by decide +kernel
theorem dc_M_apart_2 : decode bc_M_apart 2 = .ok (.iconst 0, 1) := by decide +kernel
theorem dc_M_apart_3 : decode bc_M_apart 3 = .ok (.istore_n 2, 1) := by decide +kernel
theorem dc_M_apart_4 : decode bc_M_apart 4 = .ok (.iload_n 2, 1) := by decide +kernel
theorem dc_M_apart_5 : decode bc_M_apart 5 = .ok (.aload_n 0, 1) := by decide +kernel
theorem dc_M_apart_6 : decode bc_M_apart 6 = .ok (.getfield 86, 3) := by decide +kernel
theorem dc_M_apart_9 : decode bc_M_apart 9 = .ok (.if_icmp .ge 33, 3) := by decide +kernel
theorem dc_M_apart_12 : decode bc_M_apart 12 = .ok (.aload_n 0, 1) := by decide +kernel
theorem dc_M_apart_13 : decode bc_M_apart 13 = .ok (.getfield 32, 3) := by decide +kernel
theorem dc_M_apart_16 : decode bc_M_apart 16 = .ok (.iload_n 2, 1) := by decide +kernel
theorem dc_M_apart_17 : decode bc_M_apart 17 = .ok (.aload_n 0, 1) := by decide +kernel
theorem dc_M_apart_18 : decode bc_M_apart 18 = .ok (.aload_n 0, 1) := by decide +kernel
theorem dc_M_apart_19 : decode bc_M_apart 19 = .ok (.getfield 26, 3) := by decide +kernel
theorem dc_M_apart_22 : decode bc_M_apart 22 = .ok (.iload_n 2, 1) := by decide +kernel
theorem dc_M_apart_23 : decode bc_M_apart 23 = .ok (.iaload, 1) := by decide +kernel
theorem dc_M_apart_24 : decode bc_M_apart 24 = .ok (.invokevirtual 89, 3) := by decide +kernel
theorem dc_M_apart_27 : decode bc_M_apart 27 = .ok (.ifCond .eq 7, 3) := by decide +kernel
theorem dc_M_apart_30 : decode bc_M_apart 30 = .ok (.iconst 1, 1) := by decide +kernel
theorem dc_M_apart_31 : decode bc_M_apart 31 = .ok (.goto 4, 3) := by decide +kernel
theorem dc_M_apart_34 : decode bc_M_apart 34 = .ok (.iconst 0, 1) := by decide +kernel
theorem dc_M_apart_35 : decode bc_M_apart 35 = .ok (.iastore, 1) := by decide +kernel
theorem dc_M_apart_36 : decode bc_M_apart 36 = .ok (.iinc 2 1, 3) := by decide +kernel
theorem dc_M_apart_39 : decode bc_M_apart 39 = .ok (.goto (-35), 3) := by decide +kernel
theorem dc_M_apart_42 : decode bc_M_apart 42 = .ok (.iconst 0, 1) := by decide +kernel
theorem dc_M_apart_43 : decode bc_M_apart 43 = .ok (.istore_n 2, 1) := by decide +kernel
theorem dc_M_apart_44 : decode bc_M_apart 44 = .ok (.iconst 0, 1) := by decide +kernel
theorem dc_M_apart_45 : decode bc_M_apart 45 = .ok (.istore_n 3, 1) := by decide +kernel
theorem dc_M_apart_46 : decode bc_M_apart 46 = .ok (.iload_n 3, 1) := by decide +kernel
theorem dc_M_apart_47 : decode bc_M_apart 47 = .ok (.aload_n 0, 1) := by decide +kernel
theorem dc_M_apart_48 : decode bc_M_apart 48 = .ok (.getfield 86, 3) := by decide +kernel
theorem dc_M_apart_51 : decode bc_M_apart 51 = .ok (.if_icmp .ge 73, 3) := by decide +kernel
theorem dc_M_apart_54 : decode bc_M_apart 54 = .ok (.iconst 0, 1) := by decide +kernel
theorem dc_M_apart_55 : decode bc_M_apart 55 = .ok (.istore 4, 2) := by decide +kernel
theorem dc_M_apart_57 : decode bc_M_apart 57 = .ok (.iload 4, 2) := by decide +kernel
theorem dc_M_apart_59 : decode bc_M_apart 59 = .ok (.iload_n 2, 1) := by decide +kernel
theorem dc_M_apart_60 : decode bc_M_apart 60 = .ok (.if_icmp .ge 24, 3) := by decide +kernel
theorem dc_M_apart_63 : decode bc_M_apart 63 = .ok (.aload_n 0, 1) := by decide +kernel
theorem dc_M_apart_64 : decode bc_M_apart 64 = .ok (.iload_n 3, 1) := by decide +kernel
theorem dc_M_apart_65 : decode bc_M_apart 65 = .ok (.aload_n 0, 1) := by decide +kernel
theorem dc_M_apart_66 : decode bc_M_apart 66 = .ok (.getfield 38, 3) := by decide +kernel
theorem dc_M_apart_69 : decode bc_M_apart 69 = .ok (.iload 4, 2) := by decide +kernel
theorem dc_M_apart_71 : decode bc_M_apart 71 = .ok (.iaload, 1) := by decide +kernel
theorem dc_M_apart_72 : decode bc_M_apart 72 = .ok (.invokevirtual 93, 3) := by decide +kernel
theorem dc_M_apart_75 : decode bc_M_apart 75 = .ok (.ifCond .ne 9, 3) := by decide +kernel
theorem dc_M_apart_78 : decode bc_M_apart 78 = .ok (.iinc 4 1, 3) := by decide +kernel
theorem dc_M_apart_81 : decode bc_M_apart 81 = .ok (.goto (-24), 3) := by decide +kernel
theorem dc_M_apart_84 : decode bc_M_apart 84 = .ok (.iload 4, 2) := by decide +kernel
theorem dc_M_apart_86 : decode bc_M_apart 86 = .ok (.bipush 10, 2) := by decide +kernel
theorem dc_M_apart_88 : decode bc_M_apart 88 = .ok (.if_icmp .ne 6, 3) := by decide +kernel
theorem dc_M_apart_91 : decode bc_M_apart 91 = .ok (.bipush 11, 2) := by decide +kernel
theorem dc_M_apart_93 : decode bc_M_apart 93 = .ok (.ireturn, 1) := by decide +kernel
theorem dc_M_apart_94 : decode bc_M_apart 94 = .ok (.iload 4, 2) := by decide +kernel
theorem dc_M_apart_96 : decode bc_M_apart 96 = .ok (.iload_n 2, 1) := by decide +kernel
theorem dc_M_apart_97 : decode bc_M_apart 97 = .ok (.if_icmp .ne 13, 3) := by decide +kernel
theorem dc_M_apart_100 : decode bc_M_apart 100 = .ok (.aload_n 0, 1) := by decide +kernel
theorem dc_M_apart_101 : decode bc_M_apart 101 = .ok (.getfield 38, 3) := by decide +kernel
theorem dc_M_apart_104 : decode bc_M_apart 104 = .ok (.iload_n 2, 1) := by decide +kernel
theorem dc_M_apart_105 : decode bc_M_apart 105 = .ok (.iload_n 3, 1) := by decide +kernel
theorem dc_M_apart_106 : decode bc_M_apart 106 = .ok (.iastore, 1) := by decide +kernel
theorem dc_M_apart_107 : decode bc_M_apart 107 = .ok (.iinc 2 1, 3) := by decide +kernel
theorem dc_M_apart_110 : decode bc_M_apart 110 = .ok (.aload_n 0, 1) := by decide +kernel
theorem dc_M_apart_111 : decode bc_M_apart 111 = .ok (.getfield 35, 3) := by decide +kernel
theorem dc_M_apart_114 : decode bc_M_apart 114 = .ok (.iload_n 3, 1) := by decide +kernel
theorem dc_M_apart_115 : decode bc_M_apart 115 = .ok (.iload 4, 2) := by decide +kernel
theorem dc_M_apart_117 : decode bc_M_apart 117 = .ok (.iastore, 1) := by decide +kernel
theorem dc_M_apart_118 : decode bc_M_apart 118 = .ok (.iinc 3 1, 3) := by decide +kernel
theorem dc_M_apart_121 : decode bc_M_apart 121 = .ok (.goto (-75), 3) := by decide +kernel
theorem dc_M_apart_124 : decode bc_M_apart 124 = .ok (.iconst 0, 1) := by decide +kernel
theorem dc_M_apart_125 : decode bc_M_apart 125 = .ok (.istore_n 3, 1) := by decide +kernel
theorem dc_M_apart_126 : decode bc_M_apart 126 = .ok (.iload_n 3, 1) := by decide +kernel
theorem dc_M_apart_127 : decode bc_M_apart 127 = .ok (.aload_n 0, 1) := by decide +kernel
theorem dc_M_apart_128 : decode bc_M_apart 128 = .ok (.getfield 86, 3) := by decide +kernel
theorem dc_M_apart_131 : decode bc_M_apart 131 = .ok (.if_icmp .ge 21, 3) := by decide +kernel
theorem dc_M_apart_134 : decode bc_M_apart 134 = .ok (.aload_n 0, 1) := by decide +kernel
theorem dc_M_apart_135 : decode bc_M_apart 135 = .ok (.getfield 32, 3) := by decide +kernel
theorem dc_M_apart_138 : decode bc_M_apart 138 = .ok (.iload_n 3, 1) := by decide +kernel
theorem dc_M_apart_139 : decode bc_M_apart 139 = .ok (.aload_n 0, 1) := by decide +kernel
theorem dc_M_apart_140 : decode bc_M_apart 140 = .ok (.getfield 35, 3) := by decide +kernel
theorem dc_M_apart_143 : decode bc_M_apart 143 = .ok (.iload_n 3, 1) := by decide +kernel
theorem dc_M_apart_144 : decode bc_M_apart 144 = .ok (.iaload, 1) := by decide +kernel
theorem dc_M_apart_145 : decode bc_M_apart 145 = .ok (.iastore, 1) := by decide +kernel
theorem dc_M_apart_146 : decode bc_M_apart 146 = .ok (.iinc 3 1, 3) := by decide +kernel
theorem dc_M_apart_149 : decode bc_M_apart 149 = .ok (.goto (-23), 3) := by decide +kernel
theorem dc_M_apart_152 : decode bc_M_apart 152 = .ok (.iload_n 2, 1) := by decide +kernel
theorem dc_M_apart_153 : decode bc_M_apart 153 = .ok (.iload_n 1, 1) := by decide +kernel
theorem dc_M_apart_154 : decode bc_M_apart 154 = .ok (.if_icmp .ne 5, 3) := by decide +kernel
theorem dc_M_apart_157 : decode bc_M_apart 157 = .ok (.iload_n 2, 1) := by decide +kernel
theorem dc_M_apart_158 : decode bc_M_apart 158 = .ok (.ireturn, 1) := by decide +kernel
theorem dc_M_apart_159 : decode bc_M_apart 159 = .ok (.iload_n 2, 1) := by decide +kernel
theorem dc_M_apart_160 : decode bc_M_apart 160 = .ok (.istore_n 1, 1) := by decide +kernel
theorem dc_M_apart_161 : decode bc_M_apart 161 = .ok (.goto (-119), 3) := by decide +kernel
theorem dc_M_alike_0 : decode bc_M_alike 0 = .ok (.aload_n 0, 1) := by decide +kernel
theorem dc_M_alike_1 : decode bc_M_alike 1 = .ok (.getfield 32, 3) := by decide +kernel
theorem dc_M_alike_4 : decode bc_M_alike 4 = .ok (.iload_n 1, 1) := by decide +kernel
theorem dc_M_alike_5 : decode bc_M_alike 5 = .ok (.iaload, 1) := by decide +kernel
theorem dc_M_alike_6 : decode bc_M_alike 6 = .ok (.aload_n 0, 1) := by decide +kernel
theorem dc_M_alike_7 : decode bc_M_alike 7 = .ok (.getfield 32, 3) := by decide +kernel
theorem dc_M_alike_10 : decode bc_M_alike 10 = .ok (.iload_n 2, 1) := by decide +kernel
theorem dc_M_alike_11 : decode bc_M_alike 11 = .ok (.iaload, 1) := by decide +kernel
theorem dc_M_alike_12 : decode bc_M_alike 12 = .ok (.if_icmp .ne 102, 3) := by decide +kernel
theorem dc_M_alike_15 : decode bc_M_alike 15 = .ok (.aload_n 0, 1) := by decide +kernel
theorem dc_M_alike_16 : decode bc_M_alike 16 = .ok (.getfield 32, 3) := by decide +kernel
theorem dc_M_alike_19 : decode bc_M_alike 19 = .ok (.aload_n 0, 1) := by decide +kernel
theorem dc_M_alike_20 : decode bc_M_alike 20 = .ok (.getfield 29, 3) := by decide +kernel
theorem dc_M_alike_23 : decode bc_M_alike 23 = .ok (.iconst 3, 1) := by decide +kernel
theorem dc_M_alike_24 : decode bc_M_alike 24 = .ok (.iload_n 1, 1) := by decide +kernel
theorem dc_M_alike_25 : decode bc_M_alike 25 = .ok (.imul, 1) := by decide +kernel
theorem dc_M_alike_26 : decode bc_M_alike 26 = .ok (.iaload, 1) := by decide +kernel
theorem dc_M_alike_27 : decode bc_M_alike 27 = .ok (.iaload, 1) := by decide +kernel
theorem dc_M_alike_28 : decode bc_M_alike 28 = .ok (.aload_n 0, 1) := by decide +kernel
theorem dc_M_alike_29 : decode bc_M_alike 29 = .ok (.getfield 32, 3) := by decide +kernel
theorem dc_M_alike_32 : decode bc_M_alike 32 = .ok (.aload_n 0, 1) := by decide +kernel
theorem dc_M_alike_33 : decode bc_M_alike 33 = .ok (.getfield 29, 3) := by decide +kernel
theorem dc_M_alike_36 : decode bc_M_alike 36 = .ok (.iconst 3, 1) := by decide +kernel
theorem dc_M_alike_37 : decode bc_M_alike 37 = .ok (.iload_n 2, 1) := by decide +kernel
theorem dc_M_alike_38 : decode bc_M_alike 38 = .ok (.imul, 1) := by decide +kernel
theorem dc_M_alike_39 : decode bc_M_alike 39 = .ok (.iaload, 1) := by decide +kernel
theorem dc_M_alike_40 : decode bc_M_alike 40 = .ok (.iaload, 1) := by decide +kernel
theorem dc_M_alike_41 : decode bc_M_alike 41 = .ok (.if_icmp .ne 73, 3) := by decide +kernel
theorem dc_M_alike_44 : decode bc_M_alike 44 = .ok (.aload_n 0, 1) := by decide +kernel
theorem dc_M_alike_45 : decode bc_M_alike 45 = .ok (.getfield 32, 3) := by decide +kernel
theorem dc_M_alike_48 : decode bc_M_alike 48 = .ok (.aload_n 0, 1) := by decide +kernel
theorem dc_M_alike_49 : decode bc_M_alike 49 = .ok (.getfield 29, 3) := by decide +kernel
theorem dc_M_alike_52 : decode bc_M_alike 52 = .ok (.iconst 3, 1) := by decide +kernel
theorem dc_M_alike_53 : decode bc_M_alike 53 = .ok (.iload_n 1, 1) := by decide +kernel
theorem dc_M_alike_54 : decode bc_M_alike 54 = .ok (.imul, 1) := by decide +kernel
theorem dc_M_alike_55 : decode bc_M_alike 55 = .ok (.iconst 1, 1) := by decide +kernel
theorem dc_M_alike_56 : decode bc_M_alike 56 = .ok (.iadd, 1) := by decide +kernel
theorem dc_M_alike_57 : decode bc_M_alike 57 = .ok (.iaload, 1) := by decide +kernel
theorem dc_M_alike_58 : decode bc_M_alike 58 = .ok (.iaload, 1) := by decide +kernel
theorem dc_M_alike_59 : decode bc_M_alike 59 = .ok (.aload_n 0, 1) := by decide +kernel
theorem dc_M_alike_60 : decode bc_M_alike 60 = .ok (.getfield 32, 3) := by decide +kernel
theorem dc_M_alike_63 : decode bc_M_alike 63 = .ok (.aload_n 0, 1) := by decide +kernel
theorem dc_M_alike_64 : decode bc_M_alike 64 = .ok (.getfield 29, 3) := by decide +kernel
theorem dc_M_alike_67 : decode bc_M_alike 67 = .ok (.iconst 3, 1) := by decide +kernel
theorem dc_M_alike_68 : decode bc_M_alike 68 = .ok (.iload_n 2, 1) := by decide +kernel
theorem dc_M_alike_69 : decode bc_M_alike 69 = .ok (.imul, 1) := by decide +kernel
theorem dc_M_alike_70 : decode bc_M_alike 70 = .ok (.iconst 1, 1) := by decide +kernel
theorem dc_M_alike_71 : decode bc_M_alike 71 = .ok (.iadd, 1) := by decide +kernel
theorem dc_M_alike_72 : decode bc_M_alike 72 = .ok (.iaload, 1) := by decide +kernel
theorem dc_M_alike_73 : decode bc_M_alike 73 = .ok (.iaload, 1) := by decide +kernel
theorem dc_M_alike_74 : decode bc_M_alike 74 = .ok (.if_icmp .ne 40, 3) := by decide +kernel
theorem dc_M_alike_77 : decode bc_M_alike 77 = .ok (.aload_n 0, 1) := by decide +kernel
theorem dc_M_alike_78 : decode bc_M_alike 78 = .ok (.getfield 32, 3) := by decide +kernel
theorem dc_M_alike_81 : decode bc_M_alike 81 = .ok (.aload_n 0, 1) := by decide +kernel
theorem dc_M_alike_82 : decode bc_M_alike 82 = .ok (.getfield 29, 3) := by decide +kernel
theorem dc_M_alike_85 : decode bc_M_alike 85 = .ok (.iconst 3, 1) := by decide +kernel
theorem dc_M_alike_86 : decode bc_M_alike 86 = .ok (.iload_n 1, 1) := by decide +kernel
theorem dc_M_alike_87 : decode bc_M_alike 87 = .ok (.imul, 1) := by decide +kernel
theorem dc_M_alike_88 : decode bc_M_alike 88 = .ok (.iconst 2, 1) := by decide +kernel
theorem dc_M_alike_89 : decode bc_M_alike 89 = .ok (.iadd, 1) := by decide +kernel
theorem dc_M_alike_90 : decode bc_M_alike 90 = .ok (.iaload, 1) := by decide +kernel
theorem dc_M_alike_91 : decode bc_M_alike 91 = .ok (.iaload, 1) := by decide +kernel
theorem dc_M_alike_92 : decode bc_M_alike 92 = .ok (.aload_n 0, 1) := by decide +kernel
theorem dc_M_alike_93 : decode bc_M_alike 93 = .ok (.getfield 32, 3) := by decide +kernel
theorem dc_M_alike_96 : decode bc_M_alike 96 = .ok (.aload_n 0, 1) := by decide +kernel
theorem dc_M_alike_97 : decode bc_M_alike 97 = .ok (.getfield 29, 3) := by decide +kernel
theorem dc_M_alike_100 : decode bc_M_alike 100 = .ok (.iconst 3, 1) := by decide +kernel
theorem dc_M_alike_101 : decode bc_M_alike 101 = .ok (.iload_n 2, 1) := by decide +kernel
theorem dc_M_alike_102 : decode bc_M_alike 102 = .ok (.imul, 1) := by decide +kernel
theorem dc_M_alike_103 : decode bc_M_alike 103 = .ok (.iconst 2, 1) := by decide +kernel
theorem dc_M_alike_104 : decode bc_M_alike 104 = .ok (.iadd, 1) := by decide +kernel
theorem dc_M_alike_105 : decode bc_M_alike 105 = .ok (.iaload, 1) := by decide +kernel
theorem dc_M_alike_106 : decode bc_M_alike 106 = .ok (.iaload, 1) := by decide +kernel
theorem dc_M_alike_107 : decode bc_M_alike 107 = .ok (.if_icmp .ne 7, 3) := by decide +kernel
theorem dc_M_alike_110 : decode bc_M_alike 110 = .ok (.iconst 1, 1) := by decide +kernel
theorem dc_M_alike_111 : decode bc_M_alike 111 = .ok (.goto 4, 3) := by decide +kernel
theorem dc_M_alike_114 : decode bc_M_alike 114 = .ok (.iconst 0, 1) := by decide +kernel
theorem dc_M_alike_115 : decode bc_M_alike 115 = .ok (.ireturn, 1) := by decide +kernel
theorem dc_M_make_0 : decode bc_M_make 0 = .ok (.aload_n 0, 1) := by decide +kernel
theorem dc_M_make_1 : decode bc_M_make 1 = .ok (.getfield 58, 3) := by decide +kernel
theorem dc_M_make_4 : decode bc_M_make 4 = .ok (.bipush 80, 2) := by decide +kernel
theorem dc_M_make_6 : decode bc_M_make 6 = .ok (.if_icmp .ne 10, 3) := by decide +kernel
theorem dc_M_make_9 : decode bc_M_make 9 = .ok (.aload_n 0, 1) := by decide +kernel
theorem dc_M_make_10 : decode bc_M_make 10 = .ok (.iconst 2, 1) := by decide +kernel
theorem dc_M_make_11 : decode bc_M_make 11 = .ok (.putfield 54, 3) := by decide +kernel
theorem dc_M_make_14 : decode bc_M_make 14 = .ok (.iconst 0, 1) := by decide +kernel
theorem dc_M_make_15 : decode bc_M_make 15 = .ok (.ireturn, 1) := by decide +kernel
theorem dc_M_make_16 : decode bc_M_make 16 = .ok (.aload_n 0, 1) := by decide +kernel
theorem dc_M_make_17 : decode bc_M_make 17 = .ok (.iload_n 1, 1) := by decide +kernel
theorem dc_M_make_18 : decode bc_M_make 18 = .ok (.putfield 68, 3) := by decide +kernel
theorem dc_M_make_21 : decode bc_M_make 21 = .ok (.aload_n 0, 1) := by decide +kernel
theorem dc_M_make_22 : decode bc_M_make 22 = .ok (.iload_n 2, 1) := by decide +kernel
theorem dc_M_make_23 : decode bc_M_make 23 = .ok (.putfield 71, 3) := by decide +kernel
theorem dc_M_make_26 : decode bc_M_make 26 = .ok (.aload_n 0, 1) := by decide +kernel
theorem dc_M_make_27 : decode bc_M_make 27 = .ok (.iload_n 3, 1) := by decide +kernel
theorem dc_M_make_28 : decode bc_M_make 28 = .ok (.putfield 74, 3) := by decide +kernel
theorem dc_M_make_31 : decode bc_M_make 31 = .ok (.aload_n 0, 1) := by decide +kernel
theorem dc_M_make_32 : decode bc_M_make 32 = .ok (.iload 4, 2) := by decide +kernel
theorem dc_M_make_34 : decode bc_M_make 34 = .ok (.putfield 77, 3) := by decide +kernel
theorem dc_M_make_37 : decode bc_M_make 37 = .ok (.aload_n 0, 1) := by decide +kernel
theorem dc_M_make_38 : decode bc_M_make 38 = .ok (.iconst 0, 1) := by decide +kernel
theorem dc_M_make_39 : decode bc_M_make 39 = .ok (.putfield 86, 3) := by decide +kernel
theorem dc_M_make_42 : decode bc_M_make 42 = .ok (.iconst 0, 1) := by decide +kernel
theorem dc_M_make_43 : decode bc_M_make 43 = .ok (.istore 5, 2) := by decide +kernel
theorem dc_M_make_45 : decode bc_M_make 45 = .ok (.iload 5, 2) := by decide +kernel
theorem dc_M_make_47 : decode bc_M_make 47 = .ok (.sipush 10242, 3) := by decide +kernel
theorem dc_M_make_50 : decode bc_M_make 50 = .ok (.if_icmp .ge 17, 3) := by decide +kernel
theorem dc_M_make_53 : decode bc_M_make 53 = .ok (.aload_n 0, 1) := by decide +kernel
theorem dc_M_make_54 : decode bc_M_make 54 = .ok (.getfield 23, 3) := by decide +kernel
theorem dc_M_make_57 : decode bc_M_make 57 = .ok (.iload 5, 2) := by decide +kernel
theorem dc_M_make_59 : decode bc_M_make 59 = .ok (.iconst (-1), 1) := by decide +kernel
theorem dc_M_make_60 : decode bc_M_make 60 = .ok (.iastore, 1) := by decide +kernel
theorem dc_M_make_61 : decode bc_M_make 61 = .ok (.iinc 5 1, 3) := by decide +kernel
theorem dc_M_make_64 : decode bc_M_make 64 = .ok (.goto (-19), 3) := by decide +kernel
theorem dc_M_make_67 : decode bc_M_make 67 = .ok (.aload_n 0, 1) := by decide +kernel
theorem dc_M_make_68 : decode bc_M_make 68 = .ok (.aload_n 0, 1) := by decide +kernel
theorem dc_M_make_69 : decode bc_M_make 69 = .ok (.invokevirtual 96, 3) := by decide +kernel
theorem dc_M_make_72 : decode bc_M_make 72 = .ok (.invokevirtual 100, 3) := by decide +kernel
theorem dc_M_make_75 : decode bc_M_make 75 = .ok (.istore 5, 2) := by decide +kernel
theorem dc_M_make_77 : decode bc_M_make 77 = .ok (.iconst 0, 1) := by decide +kernel
theorem dc_M_make_78 : decode bc_M_make 78 = .ok (.istore 6, 2) := by decide +kernel
theorem dc_M_make_80 : decode bc_M_make 80 = .ok (.iload 6, 2) := by decide +kernel
theorem dc_M_make_82 : decode bc_M_make 82 = .ok (.aload_n 0, 1) := by decide +kernel
theorem dc_M_make_83 : decode bc_M_make 83 = .ok (.getfield 86, 3) := by decide +kernel
theorem dc_M_make_86 : decode bc_M_make 86 = .ok (.if_icmp .ge 53, 3) := by decide +kernel
theorem dc_M_make_89 : decode bc_M_make 89 = .ok (.iconst 0, 1) := by decide +kernel
theorem dc_M_make_90 : decode bc_M_make 90 = .ok (.istore 7, 2) := by decide +kernel
theorem dc_M_make_92 : decode bc_M_make 92 = .ok (.iload 7, 2) := by decide +kernel
theorem dc_M_make_94 : decode bc_M_make 94 = .ok (.iconst 3, 1) := by decide +kernel
theorem dc_M_make_95 : decode bc_M_make 95 = .ok (.if_icmp .ge 38, 3) := by decide +kernel
theorem dc_M_make_98 : decode bc_M_make 98 = .ok (.aload_n 0, 1) := by decide +kernel
theorem dc_M_make_99 : decode bc_M_make 99 = .ok (.getfield 29, 3) := by decide +kernel
theorem dc_M_make_102 : decode bc_M_make 102 = .ok (.iconst 3, 1) := by decide +kernel
theorem dc_M_make_103 : decode bc_M_make 103 = .ok (.iload 6, 2) := by decide +kernel
theorem dc_M_make_105 : decode bc_M_make 105 = .ok (.imul, 1) := by decide +kernel
theorem dc_M_make_106 : decode bc_M_make 106 = .ok (.iload 7, 2) := by decide +kernel
theorem dc_M_make_108 : decode bc_M_make 108 = .ok (.iadd, 1) := by decide +kernel
theorem dc_M_make_109 : decode bc_M_make 109 = .ok (.aload_n 0, 1) := by decide +kernel
theorem dc_M_make_110 : decode bc_M_make 110 = .ok (.aload_n 0, 1) := by decide +kernel
theorem dc_M_make_111 : decode bc_M_make 111 = .ok (.aload_n 0, 1) := by decide +kernel
theorem dc_M_make_112 : decode bc_M_make 112 = .ok (.getfield 26, 3) := by decide +kernel
theorem dc_M_make_115 : decode bc_M_make 115 = .ok (.iload 6, 2) := by decide +kernel
theorem dc_M_make_117 : decode bc_M_make 117 = .ok (.iaload, 1) := by decide +kernel
theorem dc_M_make_118 : decode bc_M_make 118 = .ok (.iload 7, 2) := by decide +kernel
theorem dc_M_make_120 : decode bc_M_make 120 = .ok (.invokevirtual 104, 3) := by decide +kernel
theorem dc_M_make_123 : decode bc_M_make 123 = .ok (.invokevirtual 100, 3) := by decide +kernel
theorem dc_M_make_126 : decode bc_M_make 126 = .ok (.iastore, 1) := by decide +kernel
theorem dc_M_make_127 : decode bc_M_make 127 = .ok (.iinc 7 1, 3) := by decide +kernel
theorem dc_M_make_130 : decode bc_M_make 130 = .ok (.goto (-38), 3) := by decide +kernel
theorem dc_M_make_133 : decode bc_M_make 133 = .ok (.iinc 6 1, 3) := by decide +kernel
theorem dc_M_make_136 : decode bc_M_make 136 = .ok (.goto (-56), 3) := by decide +kernel
theorem dc_M_make_139 : decode bc_M_make 139 = .ok (.aload_n 0, 1) := by decide +kernel
theorem dc_M_make_140 : decode bc_M_make 140 = .ok (.invokevirtual 108, 3) := by decide +kernel
theorem dc_M_make_143 : decode bc_M_make 143 = .ok (.istore 6, 2) := by decide +kernel
theorem dc_M_make_145 : decode bc_M_make 145 = .ok (.iload 6, 2) := by decide +kernel
theorem dc_M_make_147 : decode bc_M_make 147 = .ok (.bipush 10, 2) := by decide +kernel
theorem dc_M_make_149 : decode bc_M_make 149 = .ok (.if_icmp .le 10, 3) := by decide +kernel
theorem dc_M_make_152 : decode bc_M_make 152 = .ok (.aload_n 0, 1) := by decide +kernel
theorem dc_M_make_153 : decode bc_M_make 153 = .ok (.iconst 2, 1) := by decide +kernel
theorem dc_M_make_154 : decode bc_M_make 154 = .ok (.putfield 54, 3) := by decide +kernel
theorem dc_M_make_157 : decode bc_M_make 157 = .ok (.iconst 0, 1) := by decide +kernel
theorem dc_M_make_158 : decode bc_M_make 158 = .ok (.ireturn, 1) := by decide +kernel
theorem dc_M_make_159 : decode bc_M_make 159 = .ok (.aload_n 0, 1) := by decide +kernel
theorem dc_M_make_160 : decode bc_M_make 160 = .ok (.getfield 9, 3) := by decide +kernel
theorem dc_M_make_163 : decode bc_M_make 163 = .ok (.aload_n 0, 1) := by decide +kernel
theorem dc_M_make_164 : decode bc_M_make 164 = .ok (.getfield 58, 3) := by decide +kernel
theorem dc_M_make_167 : decode bc_M_make 167 = .ok (.iload 6, 2) := by decide +kernel
theorem dc_M_make_169 : decode bc_M_make 169 = .ok (.iastore, 1) := by decide +kernel
theorem dc_M_make_170 : decode bc_M_make 170 = .ok (.aload_n 0, 1) := by decide +kernel
theorem dc_M_make_171 : decode bc_M_make 171 = .ok (.getfield 13, 3) := by decide +kernel
theorem dc_M_make_174 : decode bc_M_make 174 = .ok (.aload_n 0, 1) := by decide +kernel
theorem dc_M_make_175 : decode bc_M_make 175 = .ok (.getfield 58, 3) := by decide +kernel
theorem dc_M_make_178 : decode bc_M_make 178 = .ok (.aload_n 0, 1) := by decide +kernel
theorem dc_M_make_179 : decode bc_M_make 179 = .ok (.getfield 32, 3) := by decide +kernel
theorem dc_M_make_182 : decode bc_M_make 182 = .ok (.iconst 0, 1) := by decide +kernel
theorem dc_M_make_183 : decode bc_M_make 183 = .ok (.iaload, 1) := by decide +kernel
theorem dc_M_make_184 : decode bc_M_make 184 = .ok (.iastore, 1) := by decide +kernel
theorem dc_M_make_185 : decode bc_M_make 185 = .ok (.iconst 0, 1) := by decide +kernel
theorem dc_M_make_186 : decode bc_M_make 186 = .ok (.istore 7, 2) := by decide +kernel
theorem dc_M_make_188 : decode bc_M_make 188 = .ok (.iload 7, 2) := by decide +kernel
theorem dc_M_make_190 : decode bc_M_make 190 = .ok (.iload 6, 2) := by decide +kernel
theorem dc_M_make_192 : decode bc_M_make 192 = .ok (.if_icmp .ge 97, 3) := by decide +kernel
theorem dc_M_make_195 : decode bc_M_make 195 = .ok (.aload_n 0, 1) := by decide +kernel
theorem dc_M_make_196 : decode bc_M_make 196 = .ok (.getfield 19, 3) := by decide +kernel
theorem dc_M_make_199 : decode bc_M_make 199 = .ok (.bipush 10, 2) := by decide +kernel
theorem dc_M_make_201 : decode bc_M_make 201 = .ok (.aload_n 0, 1) := by decide +kernel
theorem dc_M_make_202 : decode bc_M_make 202 = .ok (.getfield 58, 3) := by decide +kernel
theorem dc_M_make_205 : decode bc_M_make 205 = .ok (.imul, 1) := by decide +kernel
theorem dc_M_make_206 : decode bc_M_make 206 = .ok (.iload 7, 2) := by decide +kernel
theorem dc_M_make_208 : decode bc_M_make 208 = .ok (.iadd, 1) := by decide +kernel
theorem dc_M_make_209 : decode bc_M_make 209 = .ok (.aload_n 0, 1) := by decide +kernel
theorem dc_M_make_210 : decode bc_M_make 210 = .ok (.aload_n 0, 1) := by decide +kernel
theorem dc_M_make_211 : decode bc_M_make 211 = .ok (.getfield 26, 3) := by decide +kernel
theorem dc_M_make_214 : decode bc_M_make 214 = .ok (.aload_n 0, 1) := by decide +kernel
theorem dc_M_make_215 : decode bc_M_make 215 = .ok (.getfield 38, 3) := by decide +kernel
theorem dc_M_make_218 : decode bc_M_make 218 = .ok (.iload 7, 2) := by decide +kernel
theorem dc_M_make_220 : decode bc_M_make 220 = .ok (.iaload, 1) := by decide +kernel
theorem dc_M_make_221 : decode bc_M_make 221 = .ok (.iaload, 1) := by decide +kernel
theorem dc_M_make_222 : decode bc_M_make 222 = .ok (.invokevirtual 89, 3) := by decide +kernel
theorem dc_M_make_225 : decode bc_M_make 225 = .ok (.bastore, 1) := by decide +kernel
theorem dc_M_make_226 : decode bc_M_make 226 = .ok (.iconst 0, 1) := by decide +kernel
theorem dc_M_make_227 : decode bc_M_make 227 = .ok (.istore 8, 2) := by decide +kernel
theorem dc_M_make_229 : decode bc_M_make 229 = .ok (.iload 8, 2) := by decide +kernel
theorem dc_M_make_231 : decode bc_M_make 231 = .ok (.iconst 3, 1) := by decide +kernel
theorem dc_M_make_232 : decode bc_M_make 232 = .ok (.if_icmp .ge 51, 3) := by decide +kernel
theorem dc_M_make_235 : decode bc_M_make 235 = .ok (.aload_n 0, 1) := by decide +kernel
theorem dc_M_make_236 : decode bc_M_make 236 = .ok (.getfield 16, 3) := by decide +kernel
theorem dc_M_make_239 : decode bc_M_make 239 = .ok (.iconst 3, 1) := by decide +kernel
theorem dc_M_make_240 : decode bc_M_make 240 = .ok (.bipush 10, 2) := by decide +kernel
theorem dc_M_make_242 : decode bc_M_make 242 = .ok (.aload_n 0, 1) := by decide +kernel
theorem dc_M_make_243 : decode bc_M_make 243 = .ok (.getfield 58, 3) := by decide +kernel
theorem dc_M_make_246 : decode bc_M_make 246 = .ok (.imul, 1) := by decide +kernel
theorem dc_M_make_247 : decode bc_M_make 247 = .ok (.iload 7, 2) := by decide +kernel
theorem dc_M_make_249 : decode bc_M_make 249 = .ok (.iadd, 1) := by decide +kernel
theorem dc_M_make_250 : decode bc_M_make 250 = .ok (.imul, 1) := by decide +kernel
theorem dc_M_make_251 : decode bc_M_make 251 = .ok (.iload 8, 2) := by decide +kernel
theorem dc_M_make_253 : decode bc_M_make 253 = .ok (.iadd, 1) := by decide +kernel
theorem dc_M_make_254 : decode bc_M_make 254 = .ok (.aload_n 0, 1) := by decide +kernel
theorem dc_M_make_255 : decode bc_M_make 255 = .ok (.getfield 32, 3) := by decide +kernel
theorem dc_M_make_258 : decode bc_M_make 258 = .ok (.aload_n 0, 1) := by decide +kernel
theorem dc_M_make_259 : decode bc_M_make 259 = .ok (.getfield 29, 3) := by decide +kernel
theorem dc_M_make_262 : decode bc_M_make 262 = .ok (.iconst 3, 1) := by decide +kernel
theorem dc_M_make_263 : decode bc_M_make 263 = .ok (.aload_n 0, 1) := by decide +kernel
theorem dc_M_make_264 : decode bc_M_make 264 = .ok (.getfield 38, 3) := by decide +kernel
theorem dc_M_make_267 : decode bc_M_make 267 = .ok (.iload 7, 2) := by decide +kernel
theorem dc_M_make_269 : decode bc_M_make 269 = .ok (.iaload, 1) := by decide +kernel
theorem dc_M_make_270 : decode bc_M_make 270 = .ok (.imul, 1) := by decide +kernel
theorem dc_M_make_271 : decode bc_M_make 271 = .ok (.iload 8, 2) := by decide +kernel
theorem dc_M_make_273 : decode bc_M_make 273 = .ok (.iadd, 1) := by decide +kernel
theorem dc_M_make_274 : decode bc_M_make 274 = .ok (.iaload, 1) := by decide +kernel
theorem dc_M_make_275 : decode bc_M_make 275 = .ok (.iaload, 1) := by decide +kernel
theorem dc_M_make_276 : decode bc_M_make 276 = .ok (.iastore, 1) := by decide +kernel
theorem dc_M_make_277 : decode bc_M_make 277 = .ok (.iinc 8 1, 3) := by decide +kernel
theorem dc_M_make_280 : decode bc_M_make 280 = .ok (.goto (-51), 3) := by decide +kernel
theorem dc_M_make_283 : decode bc_M_make 283 = .ok (.iinc 7 1, 3) := by decide +kernel
theorem dc_M_make_286 : decode bc_M_make 286 = .ok (.goto (-98), 3) := by decide +kernel
theorem dc_M_make_289 : decode bc_M_make 289 = .ok (.aload_n 0, 1) := by decide +kernel
theorem dc_M_make_290 : decode bc_M_make 290 = .ok (.dup, 1) := by decide +kernel
theorem dc_M_make_291 : decode bc_M_make 291 = .ok (.getfield 58, 3) := by decide +kernel
theorem dc_M_make_294 : decode bc_M_make 294 = .ok (.iconst 1, 1) := by decide +kernel
theorem dc_M_make_295 : decode bc_M_make 295 = .ok (.iadd, 1) := by decide +kernel
theorem dc_M_make_296 : decode bc_M_make 296 = .ok (.putfield 58, 3) := by decide +kernel
theorem dc_M_make_299 : decode bc_M_make 299 = .ok (.aload_n 0, 1) := by decide +kernel
theorem dc_M_make_300 : decode bc_M_make 300 = .ok (.getfield 58, 3) := by decide +kernel
theorem dc_M_make_303 : decode bc_M_make 303 = .ok (.iconst 1, 1) := by decide +kernel
theorem dc_M_make_304 : decode bc_M_make 304 = .ok (.isub, 1) := by decide +kernel
theorem dc_M_make_305 : decode bc_M_make 305 = .ok (.ireturn, 1) := by decide +kernel
theorem dc_M_letters_0 : decode bc_M_letters 0 = .ok (.aload_n 0, 1) := by decide +kernel
theorem dc_M_letters_1 : decode bc_M_letters 1 = .ok (.iload_n 1, 1) := by decide +kernel
theorem dc_M_letters_2 : decode bc_M_letters 2 = .ok (.ifCond .lt 13, 3) := by decide +kernel
theorem dc_M_letters_5 : decode bc_M_letters 5 = .ok (.iload_n 1, 1) := by decide +kernel
theorem dc_M_letters_6 : decode bc_M_letters 6 = .ok (.bipush 8, 2) := by decide +kernel
theorem dc_M_letters_8 : decode bc_M_letters 8 = .ok (.if_icmp .ge 7, 3) := by decide +kernel
theorem dc_M_letters_11 : decode bc_M_letters 11 = .ok (.iconst 0, 1) := by decide +kernel
theorem dc_M_letters_12 : decode bc_M_letters 12 = .ok (.goto 4, 3) := by decide +kernel
theorem dc_M_letters_15 : decode bc_M_letters 15 = .ok (.iconst 1, 1) := by decide +kernel
theorem dc_M_letters_16 : decode bc_M_letters 16 = .ok (.putfield 54, 3) := by decide +kernel
theorem dc_M_letters_19 : decode bc_M_letters 19 = .ok (.aload_n 0, 1) := by decide +kernel
theorem dc_M_letters_20 : decode bc_M_letters 20 = .ok (.getfield 54, 3) := by decide +kernel
theorem dc_M_letters_23 : decode bc_M_letters 23 = .ok (.ifCond .le 7, 3) := by decide +kernel
theorem dc_M_letters_26 : decode bc_M_letters 26 = .ok (.iconst 0, 1) := by decide +kernel
theorem dc_M_letters_27 : decode bc_M_letters 27 = .ok (.goto 11, 3) := by decide +kernel
theorem dc_M_letters_30 : decode bc_M_letters 30 = .ok (.aload_n 0, 1) := by decide +kernel
theorem dc_M_letters_31 : decode bc_M_letters 31 = .ok (.iconst 0, 1) := by decide +kernel
theorem dc_M_letters_32 : decode bc_M_letters 32 = .ok (.iconst 0, 1) := by decide +kernel
theorem dc_M_letters_33 : decode bc_M_letters 33 = .ok (.iconst 0, 1) := by decide +kernel
theorem dc_M_letters_34 : decode bc_M_letters 34 = .ok (.iload_n 1, 1) := by decide +kernel
theorem dc_M_letters_35 : decode bc_M_letters 35 = .ok (.invokevirtual 111, 3) := by decide +kernel
theorem dc_M_letters_38 : decode bc_M_letters 38 = .ok (.ireturn, 1) := by decide +kernel
theorem dc_M_empty_0 : decode bc_M_empty 0 = .ok (.aload_n 0, 1) := by decide +kernel
theorem dc_M_empty_1 : decode bc_M_empty 1 = .ok (.iconst 0, 1) := by decide +kernel
theorem dc_M_empty_2 : decode bc_M_empty 2 = .ok (.putfield 54, 3) := by decide +kernel
theorem dc_M_empty_5 : decode bc_M_empty 5 = .ok (.aload_n 0, 1) := by decide +kernel
theorem dc_M_empty_6 : decode bc_M_empty 6 = .ok (.iconst 1, 1) := by decide +kernel
theorem dc_M_empty_7 : decode bc_M_empty 7 = .ok (.iconst 0, 1) := by decide +kernel
theorem dc_M_empty_8 : decode bc_M_empty 8 = .ok (.iconst 0, 1) := by decide +kernel
theorem dc_M_empty_9 : decode bc_M_empty 9 = .ok (.iconst 0, 1) := by decide +kernel
theorem dc_M_empty_10 : decode bc_M_empty 10 = .ok (.invokevirtual 111, 3) := by decide +kernel
theorem dc_M_empty_13 : decode bc_M_empty 13 = .ok (.istore_n 1, 1) := by decide +kernel
theorem dc_M_empty_14 : decode bc_M_empty 14 = .ok (.aload_n 0, 1) := by decide +kernel
theorem dc_M_empty_15 : decode bc_M_empty 15 = .ok (.getfield 54, 3) := by decide +kernel
theorem dc_M_empty_18 : decode bc_M_empty 18 = .ok (.ifCond .le 8, 3) := by decide +kernel
theorem dc_M_empty_21 : decode bc_M_empty 21 = .ok (.aload_n 0, 1) := by decide +kernel
theorem dc_M_empty_22 : decode bc_M_empty 22 = .ok (.iconst 1, 1) := by decide +kernel
theorem dc_M_empty_23 : decode bc_M_empty 23 = .ok (.putfield 54, 3) := by decide +kernel
theorem dc_M_empty_26 : decode bc_M_empty 26 = .ok (.iload_n 1, 1) := by decide +kernel
theorem dc_M_empty_27 : decode bc_M_empty 27 = .ok (.ireturn, 1) := by decide +kernel
theorem dc_M_then_0 : decode bc_M_then 0 = .ok (.aload_n 0, 1) := by decide +kernel
theorem dc_M_then_1 : decode bc_M_then 1 = .ok (.aload_n 0, 1) := by decide +kernel
theorem dc_M_then_2 : decode bc_M_then 2 = .ok (.iload_n 1, 1) := by decide +kernel
theorem dc_M_then_3 : decode bc_M_then 3 = .ok (.invokevirtual 115, 3) := by decide +kernel
theorem dc_M_then_6 : decode bc_M_then 6 = .ok (.ifCond .eq 15, 3) := by decide +kernel
theorem dc_M_then_9 : decode bc_M_then 9 = .ok (.aload_n 0, 1) := by decide +kernel
theorem dc_M_then_10 : decode bc_M_then 10 = .ok (.iload_n 2, 1) := by decide +kernel
theorem dc_M_then_11 : decode bc_M_then 11 = .ok (.invokevirtual 115, 3) := by decide +kernel
theorem dc_M_then_14 : decode bc_M_then 14 = .ok (.ifCond .eq 7, 3) := by decide +kernel
theorem dc_M_then_17 : decode bc_M_then 17 = .ok (.iconst 0, 1) := by decide +kernel
theorem dc_M_then_18 : decode bc_M_then 18 = .ok (.goto 4, 3) := by decide +kernel
theorem dc_M_then_21 : decode bc_M_then 21 = .ok (.iconst 1, 1) := by decide +kernel
theorem dc_M_then_22 : decode bc_M_then 22 = .ok (.putfield 54, 3) := by decide +kernel
theorem dc_M_then_25 : decode bc_M_then 25 = .ok (.aload_n 0, 1) := by decide +kernel
theorem dc_M_then_26 : decode bc_M_then 26 = .ok (.getfield 54, 3) := by decide +kernel
theorem dc_M_then_29 : decode bc_M_then 29 = .ok (.ifCond .le 7, 3) := by decide +kernel
theorem dc_M_then_32 : decode bc_M_then 32 = .ok (.iconst 0, 1) := by decide +kernel
theorem dc_M_then_33 : decode bc_M_then 33 = .ok (.goto 11, 3) := by decide +kernel
theorem dc_M_then_36 : decode bc_M_then 36 = .ok (.aload_n 0, 1) := by decide +kernel
theorem dc_M_then_37 : decode bc_M_then 37 = .ok (.iconst 2, 1) := by decide +kernel
theorem dc_M_then_38 : decode bc_M_then 38 = .ok (.iload_n 1, 1) := by decide +kernel
theorem dc_M_then_39 : decode bc_M_then 39 = .ok (.iload_n 2, 1) := by decide +kernel
theorem dc_M_then_40 : decode bc_M_then 40 = .ok (.iconst 0, 1) := by decide +kernel
theorem dc_M_then_41 : decode bc_M_then 41 = .ok (.invokevirtual 111, 3) := by decide +kernel
theorem dc_M_then_44 : decode bc_M_then 44 = .ok (.ireturn, 1) := by decide +kernel
theorem dc_M_both_0 : decode bc_M_both 0 = .ok (.aload_n 0, 1) := by decide +kernel
theorem dc_M_both_1 : decode bc_M_both 1 = .ok (.iload_n 1, 1) := by decide +kernel
theorem dc_M_both_2 : decode bc_M_both 2 = .ok (.ifCond .lt 28, 3) := by decide +kernel
theorem dc_M_both_5 : decode bc_M_both 5 = .ok (.iload_n 1, 1) := by decide +kernel
theorem dc_M_both_6 : decode bc_M_both 6 = .ok (.iconst 4, 1) := by decide +kernel
theorem dc_M_both_7 : decode bc_M_both 7 = .ok (.if_icmp .ge 23, 3) := by decide +kernel
theorem dc_M_both_10 : decode bc_M_both 10 = .ok (.aload_n 0, 1) := by decide +kernel
theorem dc_M_both_11 : decode bc_M_both 11 = .ok (.iload_n 2, 1) := by decide +kernel
theorem dc_M_both_12 : decode bc_M_both 12 = .ok (.invokevirtual 115, 3) := by decide +kernel
theorem dc_M_both_15 : decode bc_M_both 15 = .ok (.ifCond .eq 15, 3) := by decide +kernel
theorem dc_M_both_18 : decode bc_M_both 18 = .ok (.aload_n 0, 1) := by decide +kernel
theorem dc_M_both_19 : decode bc_M_both 19 = .ok (.iload_n 3, 1) := by decide +kernel
theorem dc_M_both_20 : decode bc_M_both 20 = .ok (.invokevirtual 115, 3) := by decide +kernel
theorem dc_M_both_23 : decode bc_M_both 23 = .ok (.ifCond .eq 7, 3) := by decide +kernel
theorem dc_M_both_26 : decode bc_M_both 26 = .ok (.iconst 0, 1) := by decide +kernel
theorem dc_M_both_27 : decode bc_M_both 27 = .ok (.goto 4, 3) := by decide +kernel
theorem dc_M_both_30 : decode bc_M_both 30 = .ok (.iconst 1, 1) := by decide +kernel
theorem dc_M_both_31 : decode bc_M_both 31 = .ok (.putfield 54, 3) := by decide +kernel
theorem dc_M_both_34 : decode bc_M_both 34 = .ok (.aload_n 0, 1) := by decide +kernel
theorem dc_M_both_35 : decode bc_M_both 35 = .ok (.getfield 54, 3) := by decide +kernel
theorem dc_M_both_38 : decode bc_M_both 38 = .ok (.ifCond .le 7, 3) := by decide +kernel
theorem dc_M_both_41 : decode bc_M_both 41 = .ok (.iconst 0, 1) := by decide +kernel
theorem dc_M_both_42 : decode bc_M_both 42 = .ok (.goto 11, 3) := by decide +kernel
theorem dc_M_both_45 : decode bc_M_both 45 = .ok (.aload_n 0, 1) := by decide +kernel
theorem dc_M_both_46 : decode bc_M_both 46 = .ok (.iconst 3, 1) := by decide +kernel
theorem dc_M_both_47 : decode bc_M_both 47 = .ok (.iload_n 2, 1) := by decide +kernel
theorem dc_M_both_48 : decode bc_M_both 48 = .ok (.iload_n 3, 1) := by decide +kernel
theorem dc_M_both_49 : decode bc_M_both 49 = .ok (.iload_n 1, 1) := by decide +kernel
theorem dc_M_both_50 : decode bc_M_both 50 = .ok (.invokevirtual 111, 3) := by decide +kernel
theorem dc_M_both_53 : decode bc_M_both 53 = .ok (.ireturn, 1) := by decide +kernel
theorem dc_M_many_0 : decode bc_M_many 0 = .ok (.aload_n 0, 1) := by decide +kernel
theorem dc_M_many_1 : decode bc_M_many 1 = .ok (.aload_n 0, 1) := by decide +kernel
theorem dc_M_many_2 : decode bc_M_many 2 = .ok (.iload_n 1, 1) := by decide +kernel
theorem dc_M_many_3 : decode bc_M_many 3 = .ok (.invokevirtual 115, 3) := by decide +kernel
theorem dc_M_many_6 : decode bc_M_many 6 = .ok (.ifCond .eq 7, 3) := by decide +kernel
theorem dc_M_many_9 : decode bc_M_many 9 = .ok (.iconst 0, 1) := by decide +kernel
theorem dc_M_many_10 : decode bc_M_many 10 = .ok (.goto 4, 3) := by decide +kernel
theorem dc_M_many_13 : decode bc_M_many 13 = .ok (.iconst 1, 1) := by decide +kernel
theorem dc_M_many_14 : decode bc_M_many 14 = .ok (.putfield 54, 3) := by decide +kernel
theorem dc_M_many_17 : decode bc_M_many 17 = .ok (.aload_n 0, 1) := by decide +kernel
theorem dc_M_many_18 : decode bc_M_many 18 = .ok (.getfield 54, 3) := by decide +kernel
theorem dc_M_many_21 : decode bc_M_many 21 = .ok (.ifCond .le 7, 3) := by decide +kernel
theorem dc_M_many_24 : decode bc_M_many 24 = .ok (.iconst 0, 1) := by decide +kernel
theorem dc_M_many_25 : decode bc_M_many 25 = .ok (.goto 11, 3) := by decide +kernel
theorem dc_M_many_28 : decode bc_M_many 28 = .ok (.aload_n 0, 1) := by decide +kernel
theorem dc_M_many_29 : decode bc_M_many 29 = .ok (.iconst 4, 1) := by decide +kernel
theorem dc_M_many_30 : decode bc_M_many 30 = .ok (.iload_n 1, 1) := by decide +kernel
theorem dc_M_many_31 : decode bc_M_many 31 = .ok (.iload_n 1, 1) := by decide +kernel
theorem dc_M_many_32 : decode bc_M_many 32 = .ok (.iconst 0, 1) := by decide +kernel
theorem dc_M_many_33 : decode bc_M_many 33 = .ok (.invokevirtual 111, 3) := by decide +kernel
theorem dc_M_many_36 : decode bc_M_many 36 = .ok (.ireturn, 1) := by decide +kernel
theorem dc_M_contrary_0 : decode bc_M_contrary 0 = .ok (.aload_n 0, 1) := by decide +kernel
theorem dc_M_contrary_1 : decode bc_M_contrary 1 = .ok (.aload_n 0, 1) := by decide +kernel
theorem dc_M_contrary_2 : decode bc_M_contrary 2 = .ok (.iload_n 1, 1) := by decide +kernel
theorem dc_M_contrary_3 : decode bc_M_contrary 3 = .ok (.invokevirtual 115, 3) := by decide +kernel
theorem dc_M_contrary_6 : decode bc_M_contrary 6 = .ok (.ifCond .eq 7, 3) := by decide +kernel
theorem dc_M_contrary_9 : decode bc_M_contrary 9 = .ok (.iconst 0, 1) := by decide +kernel
theorem dc_M_contrary_10 : decode bc_M_contrary 10 = .ok (.goto 4, 3) := by decide +kernel
theorem dc_M_contrary_13 : decode bc_M_contrary 13 = .ok (.iconst 1, 1) := by decide +kernel
theorem dc_M_contrary_14 : decode bc_M_contrary 14 = .ok (.putfield 54, 3) := by decide +kernel
theorem dc_M_contrary_17 : decode bc_M_contrary 17 = .ok (.aload_n 0, 1) := by decide +kernel
theorem dc_M_contrary_18 : decode bc_M_contrary 18 = .ok (.getfield 54, 3) := by decide +kernel
theorem dc_M_contrary_21 : decode bc_M_contrary 21 = .ok (.ifCond .le 7, 3) := by decide +kernel
theorem dc_M_contrary_24 : decode bc_M_contrary 24 = .ok (.iconst 0, 1) := by decide +kernel
theorem dc_M_contrary_25 : decode bc_M_contrary 25 = .ok (.goto 11, 3) := by decide +kernel
theorem dc_M_contrary_28 : decode bc_M_contrary 28 = .ok (.aload_n 0, 1) := by decide +kernel
theorem dc_M_contrary_29 : decode bc_M_contrary 29 = .ok (.iconst 5, 1) := by decide +kernel
theorem dc_M_contrary_30 : decode bc_M_contrary 30 = .ok (.iload_n 1, 1) := by decide +kernel
theorem dc_M_contrary_31 : decode bc_M_contrary 31 = .ok (.iload_n 1, 1) := by decide +kernel
theorem dc_M_contrary_32 : decode bc_M_contrary 32 = .ok (.iconst 0, 1) := by decide +kernel
theorem dc_M_contrary_33 : decode bc_M_contrary 33 = .ok (.invokevirtual 111, 3) := by decide +kernel
theorem dc_M_contrary_36 : decode bc_M_contrary 36 = .ok (.ireturn, 1) := by decide +kernel
theorem dc_M_back_0 : decode bc_M_back 0 = .ok (.aload_n 0, 1) := by decide +kernel
theorem dc_M_back_1 : decode bc_M_back 1 = .ok (.aload_n 0, 1) := by decide +kernel
theorem dc_M_back_2 : decode bc_M_back 2 = .ok (.iload_n 1, 1) := by decide +kernel
theorem dc_M_back_3 : decode bc_M_back 3 = .ok (.invokevirtual 115, 3) := by decide +kernel
theorem dc_M_back_6 : decode bc_M_back 6 = .ok (.ifCond .eq 7, 3) := by decide +kernel
theorem dc_M_back_9 : decode bc_M_back 9 = .ok (.iconst 0, 1) := by decide +kernel
theorem dc_M_back_10 : decode bc_M_back 10 = .ok (.goto 4, 3) := by decide +kernel
theorem dc_M_back_13 : decode bc_M_back 13 = .ok (.iconst 1, 1) := by decide +kernel
theorem dc_M_back_14 : decode bc_M_back 14 = .ok (.putfield 54, 3) := by decide +kernel
theorem dc_M_back_17 : decode bc_M_back 17 = .ok (.aload_n 0, 1) := by decide +kernel
theorem dc_M_back_18 : decode bc_M_back 18 = .ok (.getfield 54, 3) := by decide +kernel
theorem dc_M_back_21 : decode bc_M_back 21 = .ok (.ifCond .le 7, 3) := by decide +kernel
theorem dc_M_back_24 : decode bc_M_back 24 = .ok (.iconst 0, 1) := by decide +kernel
theorem dc_M_back_25 : decode bc_M_back 25 = .ok (.goto 12, 3) := by decide +kernel
theorem dc_M_back_28 : decode bc_M_back 28 = .ok (.aload_n 0, 1) := by decide +kernel
theorem dc_M_back_29 : decode bc_M_back 29 = .ok (.bipush 6, 2) := by decide +kernel
theorem dc_M_back_31 : decode bc_M_back 31 = .ok (.iload_n 1, 1) := by decide +kernel
theorem dc_M_back_32 : decode bc_M_back 32 = .ok (.iload_n 1, 1) := by decide +kernel
theorem dc_M_back_33 : decode bc_M_back 33 = .ok (.iconst 0, 1) := by decide +kernel
theorem dc_M_back_34 : decode bc_M_back 34 = .ok (.invokevirtual 111, 3) := by decide +kernel
theorem dc_M_back_37 : decode bc_M_back 37 = .ok (.ireturn, 1) := by decide +kernel
theorem dc_M_rest_0 : decode bc_M_rest 0 = .ok (.aload_n 0, 1) := by decide +kernel
theorem dc_M_rest_1 : decode bc_M_rest 1 = .ok (.aload_n 0, 1) := by decide +kernel
theorem dc_M_rest_2 : decode bc_M_rest 2 = .ok (.iload_n 1, 1) := by decide +kernel
theorem dc_M_rest_3 : decode bc_M_rest 3 = .ok (.invokevirtual 115, 3) := by decide +kernel
theorem dc_M_rest_6 : decode bc_M_rest 6 = .ok (.ifCond .eq 16, 3) := by decide +kernel
theorem dc_M_rest_9 : decode bc_M_rest 9 = .ok (.iload_n 2, 1) := by decide +kernel
theorem dc_M_rest_10 : decode bc_M_rest 10 = .ok (.ifCond .lt 12, 3) := by decide +kernel
theorem dc_M_rest_13 : decode bc_M_rest 13 = .ok (.iload_n 2, 1) := by decide +kernel
theorem dc_M_rest_14 : decode bc_M_rest 14 = .ok (.iconst 3, 1) := by decide +kernel
theorem dc_M_rest_15 : decode bc_M_rest 15 = .ok (.if_icmp .ge 7, 3) := by decide +kernel
theorem dc_M_rest_18 : decode bc_M_rest 18 = .ok (.iconst 0, 1) := by decide +kernel
theorem dc_M_rest_19 : decode bc_M_rest 19 = .ok (.goto 4, 3) := by decide +kernel
theorem dc_M_rest_22 : decode bc_M_rest 22 = .ok (.iconst 1, 1) := by decide +kernel
theorem dc_M_rest_23 : decode bc_M_rest 23 = .ok (.putfield 54, 3) := by decide +kernel
theorem dc_M_rest_26 : decode bc_M_rest 26 = .ok (.aload_n 0, 1) := by decide +kernel
theorem dc_M_rest_27 : decode bc_M_rest 27 = .ok (.getfield 54, 3) := by decide +kernel
theorem dc_M_rest_30 : decode bc_M_rest 30 = .ok (.ifCond .le 7, 3) := by decide +kernel
theorem dc_M_rest_33 : decode bc_M_rest 33 = .ok (.iconst 0, 1) := by decide +kernel
theorem dc_M_rest_34 : decode bc_M_rest 34 = .ok (.goto 12, 3) := by decide +kernel
theorem dc_M_rest_37 : decode bc_M_rest 37 = .ok (.aload_n 0, 1) := by decide +kernel
theorem dc_M_rest_38 : decode bc_M_rest 38 = .ok (.bipush 7, 2) := by decide +kernel
theorem dc_M_rest_40 : decode bc_M_rest 40 = .ok (.iload_n 1, 1) := by decide +kernel
theorem dc_M_rest_41 : decode bc_M_rest 41 = .ok (.iload_n 1, 1) := by decide +kernel
theorem dc_M_rest_42 : decode bc_M_rest 42 = .ok (.iload_n 2, 1) := by decide +kernel
theorem dc_M_rest_43 : decode bc_M_rest 43 = .ok (.invokevirtual 111, 3) := by decide +kernel
theorem dc_M_rest_46 : decode bc_M_rest 46 = .ok (.ireturn, 1) := by decide +kernel
theorem dc_M_look_0 : decode bc_M_look 0 = .ok (.iconst 0, 1) := by decide +kernel
theorem dc_M_look_1 : decode bc_M_look 1 = .ok (.istore_n 2, 1) := by decide +kernel
theorem dc_M_look_2 : decode bc_M_look 2 = .ok (.iload_n 2, 1) := by decide +kernel
theorem dc_M_look_3 : decode bc_M_look 3 = .ok (.aload_n 0, 1) := by decide +kernel
theorem dc_M_look_4 : decode bc_M_look 4 = .ok (.getfield 9, 3) := by decide +kernel
theorem dc_M_look_7 : decode bc_M_look 7 = .ok (.iload_n 1, 1) := by decide +kernel
theorem dc_M_look_8 : decode bc_M_look 8 = .ok (.iaload, 1) := by decide +kernel
theorem dc_M_look_9 : decode bc_M_look 9 = .ok (.if_icmp .ge 29, 3) := by decide +kernel
theorem dc_M_look_12 : decode bc_M_look 12 = .ok (.aload_n 0, 1) := by decide +kernel
theorem dc_M_look_13 : decode bc_M_look 13 = .ok (.getfield 44, 3) := by decide +kernel
theorem dc_M_look_16 : decode bc_M_look 16 = .ok (.iload_n 2, 1) := by decide +kernel
theorem dc_M_look_17 : decode bc_M_look 17 = .ok (.aload_n 0, 1) := by decide +kernel
theorem dc_M_look_18 : decode bc_M_look 18 = .ok (.iload_n 1, 1) := by decide +kernel
theorem dc_M_look_19 : decode bc_M_look 19 = .ok (.iload_n 2, 1) := by decide +kernel
theorem dc_M_look_20 : decode bc_M_look 20 = .ok (.invokevirtual 64, 3) := by decide +kernel
theorem dc_M_look_23 : decode bc_M_look 23 = .ok (.ifCond .eq 7, 3) := by decide +kernel
theorem dc_M_look_26 : decode bc_M_look 26 = .ok (.iconst 0, 1) := by decide +kernel
theorem dc_M_look_27 : decode bc_M_look 27 = .ok (.goto 4, 3) := by decide +kernel
theorem dc_M_look_30 : decode bc_M_look 30 = .ok (.iconst (-1), 1) := by decide +kernel
theorem dc_M_look_31 : decode bc_M_look 31 = .ok (.iastore, 1) := by decide +kernel
theorem dc_M_look_32 : decode bc_M_look 32 = .ok (.iinc 2 1, 3) := by decide +kernel
theorem dc_M_look_35 : decode bc_M_look 35 = .ok (.goto (-33), 3) := by decide +kernel
theorem dc_M_look_38 : decode bc_M_look 38 = .ok (.iconst 0, 1) := by decide +kernel
theorem dc_M_look_39 : decode bc_M_look 39 = .ok (.istore_n 2, 1) := by decide +kernel
theorem dc_M_look_40 : decode bc_M_look 40 = .ok (.iload_n 2, 1) := by decide +kernel
theorem dc_M_look_41 : decode bc_M_look 41 = .ok (.bipush 10, 2) := by decide +kernel
theorem dc_M_look_43 : decode bc_M_look 43 = .ok (.if_icmp .ge 77, 3) := by decide +kernel
theorem dc_M_look_46 : decode bc_M_look 46 = .ok (.iconst 0, 1) := by decide +kernel
theorem dc_M_look_47 : decode bc_M_look 47 = .ok (.istore_n 3, 1) := by decide +kernel
theorem dc_M_look_48 : decode bc_M_look 48 = .ok (.iload_n 3, 1) := by decide +kernel
theorem dc_M_look_49 : decode bc_M_look 49 = .ok (.aload_n 0, 1) := by decide +kernel
theorem dc_M_look_50 : decode bc_M_look 50 = .ok (.getfield 9, 3) := by decide +kernel
theorem dc_M_look_53 : decode bc_M_look 53 = .ok (.iload_n 1, 1) := by decide +kernel
theorem dc_M_look_54 : decode bc_M_look 54 = .ok (.iaload, 1) := by decide +kernel
theorem dc_M_look_55 : decode bc_M_look 55 = .ok (.if_icmp .ge 59, 3) := by decide +kernel
theorem dc_M_look_58 : decode bc_M_look 58 = .ok (.iconst 0, 1) := by decide +kernel
theorem dc_M_look_59 : decode bc_M_look 59 = .ok (.istore 4, 2) := by decide +kernel
theorem dc_M_look_61 : decode bc_M_look 61 = .ok (.iload 4, 2) := by decide +kernel
theorem dc_M_look_63 : decode bc_M_look 63 = .ok (.iconst 3, 1) := by decide +kernel
theorem dc_M_look_64 : decode bc_M_look 64 = .ok (.if_icmp .ge 44, 3) := by decide +kernel
theorem dc_M_look_67 : decode bc_M_look 67 = .ok (.aload_n 0, 1) := by decide +kernel
theorem dc_M_look_68 : decode bc_M_look 68 = .ok (.getfield 44, 3) := by decide +kernel
theorem dc_M_look_71 : decode bc_M_look 71 = .ok (.iload_n 3, 1) := by decide +kernel
theorem dc_M_look_72 : decode bc_M_look 72 = .ok (.iaload, 1) := by decide +kernel
theorem dc_M_look_73 : decode bc_M_look 73 = .ok (.ifCond .ge 29, 3) := by decide +kernel
theorem dc_M_look_76 : decode bc_M_look 76 = .ok (.aload_n 0, 1) := by decide +kernel
theorem dc_M_look_77 : decode bc_M_look 77 = .ok (.getfield 44, 3) := by decide +kernel
theorem dc_M_look_80 : decode bc_M_look 80 = .ok (.aload_n 0, 1) := by decide +kernel
theorem dc_M_look_81 : decode bc_M_look 81 = .ok (.iload_n 1, 1) := by decide +kernel
theorem dc_M_look_82 : decode bc_M_look 82 = .ok (.iload_n 3, 1) := by decide +kernel
theorem dc_M_look_83 : decode bc_M_look 83 = .ok (.iload 4, 2) := by decide +kernel
theorem dc_M_look_85 : decode bc_M_look 85 = .ok (.invokevirtual 61, 3) := by decide +kernel
theorem dc_M_look_88 : decode bc_M_look 88 = .ok (.iaload, 1) := by decide +kernel
theorem dc_M_look_89 : decode bc_M_look 89 = .ok (.iload_n 2, 1) := by decide +kernel
theorem dc_M_look_90 : decode bc_M_look 90 = .ok (.if_icmp .ne 12, 3) := by decide +kernel
theorem dc_M_look_93 : decode bc_M_look 93 = .ok (.aload_n 0, 1) := by decide +kernel
theorem dc_M_look_94 : decode bc_M_look 94 = .ok (.getfield 44, 3) := by decide +kernel
theorem dc_M_look_97 : decode bc_M_look 97 = .ok (.iload_n 3, 1) := by decide +kernel
theorem dc_M_look_98 : decode bc_M_look 98 = .ok (.iload_n 2, 1) := by decide +kernel
theorem dc_M_look_99 : decode bc_M_look 99 = .ok (.iconst 1, 1) := by decide +kernel
theorem dc_M_look_100 : decode bc_M_look 100 = .ok (.iadd, 1) := by decide +kernel
theorem dc_M_look_101 : decode bc_M_look 101 = .ok (.iastore, 1) := by decide +kernel
theorem dc_M_look_102 : decode bc_M_look 102 = .ok (.iinc 4 1, 3) := by decide +kernel
theorem dc_M_look_105 : decode bc_M_look 105 = .ok (.goto (-44), 3) := by decide +kernel
theorem dc_M_look_108 : decode bc_M_look 108 = .ok (.iinc 3 1, 3) := by decide +kernel
theorem dc_M_look_111 : decode bc_M_look 111 = .ok (.goto (-63), 3) := by decide +kernel
theorem dc_M_look_114 : decode bc_M_look 114 = .ok (.iinc 2 1, 3) := by decide +kernel
theorem dc_M_look_117 : decode bc_M_look 117 = .ok (.goto (-77), 3) := by decide +kernel
theorem dc_M_look_120 : decode bc_M_look 120 = .ok (.return_, 1) := by decide +kernel
theorem dc_M_beginnings_0 : decode bc_M_beginnings 0 = .ok (.aload_n 0, 1) := by decide +kernel
theorem dc_M_beginnings_1 : decode bc_M_beginnings 1 = .ok (.aload_n 0, 1) := by decide +kernel
theorem dc_M_beginnings_2 : decode bc_M_beginnings 2 = .ok (.iload_n 1, 1) := by decide +kernel
theorem dc_M_beginnings_3 : decode bc_M_beginnings 3 = .ok (.invokevirtual 115, 3) := by decide +kernel
theorem dc_M_beginnings_6 : decode bc_M_beginnings 6 = .ok (.ifCond .eq 7, 3) := by decide +kernel
theorem dc_M_beginnings_9 : decode bc_M_beginnings 9 = .ok (.iconst 0, 1) := by decide +kernel
theorem dc_M_beginnings_10 : decode bc_M_beginnings 10 = .ok (.goto 4, 3) := by decide +kernel
theorem dc_M_beginnings_13 : decode bc_M_beginnings 13 = .ok (.iconst 1, 1) := by decide +kernel
theorem dc_M_beginnings_14 : decode bc_M_beginnings 14 = .ok (.putfield 54, 3) := by decide +kernel
theorem dc_M_beginnings_17 : decode bc_M_beginnings 17 = .ok (.aload_n 0, 1) := by decide +kernel
theorem dc_M_beginnings_18 : decode bc_M_beginnings 18 = .ok (.getfield 54, 3) := by decide +kernel
theorem dc_M_beginnings_21 : decode bc_M_beginnings 21 = .ok (.ifCond .le 5, 3) := by decide +kernel
theorem dc_M_beginnings_24 : decode bc_M_beginnings 24 = .ok (.iconst 0, 1) := by decide +kernel
theorem dc_M_beginnings_25 : decode bc_M_beginnings 25 = .ok (.ireturn, 1) := by decide +kernel
theorem dc_M_beginnings_26 : decode bc_M_beginnings 26 = .ok (.aload_n 0, 1) := by decide +kernel
theorem dc_M_beginnings_27 : decode bc_M_beginnings 27 = .ok (.iload_n 1, 1) := by decide +kernel
theorem dc_M_beginnings_28 : decode bc_M_beginnings 28 = .ok (.invokevirtual 118, 3) := by decide +kernel
theorem dc_M_beginnings_31 : decode bc_M_beginnings 31 = .ok (.iconst 0, 1) := by decide +kernel
theorem dc_M_beginnings_32 : decode bc_M_beginnings 32 = .ok (.istore_n 2, 1) := by decide +kernel
theorem dc_M_beginnings_33 : decode bc_M_beginnings 33 = .ok (.iload_n 2, 1) := by decide +kernel
theorem dc_M_beginnings_34 : decode bc_M_beginnings 34 = .ok (.aload_n 0, 1) := by decide +kernel
theorem dc_M_beginnings_35 : decode bc_M_beginnings 35 = .ok (.getfield 9, 3) := by decide +kernel
theorem dc_M_beginnings_38 : decode bc_M_beginnings 38 = .ok (.iload_n 1, 1) := by decide +kernel
theorem dc_M_beginnings_39 : decode bc_M_beginnings 39 = .ok (.iaload, 1) := by decide +kernel
theorem dc_M_beginnings_40 : decode bc_M_beginnings 40 = .ok (.if_icmp .ge 29, 3) := by decide +kernel
theorem dc_M_beginnings_43 : decode bc_M_beginnings 43 = .ok (.aload_n 0, 1) := by decide +kernel
theorem dc_M_beginnings_44 : decode bc_M_beginnings 44 = .ok (.getfield 41, 3) := by decide +kernel
theorem dc_M_beginnings_47 : decode bc_M_beginnings 47 = .ok (.iload_n 2, 1) := by decide +kernel
theorem dc_M_beginnings_48 : decode bc_M_beginnings 48 = .ok (.aload_n 0, 1) := by decide +kernel
theorem dc_M_beginnings_49 : decode bc_M_beginnings 49 = .ok (.getfield 44, 3) := by decide +kernel
theorem dc_M_beginnings_52 : decode bc_M_beginnings 52 = .ok (.iload_n 2, 1) := by decide +kernel
theorem dc_M_beginnings_53 : decode bc_M_beginnings 53 = .ok (.iaload, 1) := by decide +kernel
theorem dc_M_beginnings_54 : decode bc_M_beginnings 54 = .ok (.ifCond .lt 7, 3) := by decide +kernel
theorem dc_M_beginnings_57 : decode bc_M_beginnings 57 = .ok (.iconst 1, 1) := by decide +kernel
theorem dc_M_beginnings_58 : decode bc_M_beginnings 58 = .ok (.goto 4, 3) := by decide +kernel
theorem dc_M_beginnings_61 : decode bc_M_beginnings 61 = .ok (.iconst 0, 1) := by decide +kernel
theorem dc_M_beginnings_62 : decode bc_M_beginnings 62 = .ok (.bastore, 1) := by decide +kernel
theorem dc_M_beginnings_63 : decode bc_M_beginnings 63 = .ok (.iinc 2 1, 3) := by decide +kernel
theorem dc_M_beginnings_66 : decode bc_M_beginnings 66 = .ok (.goto (-33), 3) := by decide +kernel
theorem dc_M_beginnings_69 : decode bc_M_beginnings 69 = .ok (.aload_n 0, 1) := by decide +kernel
theorem dc_M_beginnings_70 : decode bc_M_beginnings 70 = .ok (.bipush 8, 2) := by decide +kernel
theorem dc_M_beginnings_72 : decode bc_M_beginnings 72 = .ok (.iload_n 1, 1) := by decide +kernel
theorem dc_M_beginnings_73 : decode bc_M_beginnings 73 = .ok (.iload_n 1, 1) := by decide +kernel
theorem dc_M_beginnings_74 : decode bc_M_beginnings 74 = .ok (.iconst 0, 1) := by decide +kernel
theorem dc_M_beginnings_75 : decode bc_M_beginnings 75 = .ok (.invokevirtual 111, 3) := by decide +kernel
theorem dc_M_beginnings_78 : decode bc_M_beginnings 78 = .ok (.ireturn, 1) := by decide +kernel
theorem dc_M_has_0 : decode bc_M_has 0 = .ok (.aload_n 0, 1) := by decide +kernel
theorem dc_M_has_1 : decode bc_M_has 1 = .ok (.iload_n 1, 1) := by decide +kernel
theorem dc_M_has_2 : decode bc_M_has 2 = .ok (.invokevirtual 115, 3) := by decide +kernel
theorem dc_M_has_5 : decode bc_M_has 5 = .ok (.ifCond .eq 17, 3) := by decide +kernel
theorem dc_M_has_8 : decode bc_M_has 8 = .ok (.iload_n 2, 1) := by decide +kernel
theorem dc_M_has_9 : decode bc_M_has 9 = .ok (.ifCond .lt 13, 3) := by decide +kernel
theorem dc_M_has_12 : decode bc_M_has 12 = .ok (.iload_n 2, 1) := by decide +kernel
theorem dc_M_has_13 : decode bc_M_has 13 = .ok (.bipush 30, 2) := by decide +kernel
theorem dc_M_has_15 : decode bc_M_has 15 = .ok (.if_icmp .gt 7, 3) := by decide +kernel
theorem dc_M_has_18 : decode bc_M_has 18 = .ok (.iconst 1, 1) := by decide +kernel
theorem dc_M_has_19 : decode bc_M_has 19 = .ok (.goto 4, 3) := by decide +kernel
theorem dc_M_has_22 : decode bc_M_has 22 = .ok (.iconst 0, 1) := by decide +kernel
theorem dc_M_has_23 : decode bc_M_has 23 = .ok (.istore 5, 2) := by decide +kernel
theorem dc_M_has_25 : decode bc_M_has 25 = .ok (.iconst 0, 1) := by decide +kernel
theorem dc_M_has_26 : decode bc_M_has 26 = .ok (.istore 6, 2) := by decide +kernel
theorem dc_M_has_28 : decode bc_M_has 28 = .ok (.iload 5, 2) := by decide +kernel
theorem dc_M_has_30 : decode bc_M_has 30 = .ok (.ifCond .eq 39, 3) := by decide +kernel
theorem dc_M_has_33 : decode bc_M_has 33 = .ok (.iload 6, 2) := by decide +kernel
theorem dc_M_has_35 : decode bc_M_has 35 = .ok (.iload_n 2, 1) := by decide +kernel
theorem dc_M_has_36 : decode bc_M_has 36 = .ok (.if_icmp .ge 33, 3) := by decide +kernel
theorem dc_M_has_39 : decode bc_M_has 39 = .ok (.lload_n 3, 1) := by decide +kernel
theorem dc_M_has_40 : decode bc_M_has 40 = .ok (.iconst 2, 1) := by decide +kernel
theorem dc_M_has_41 : decode bc_M_has 41 = .ok (.iload 6, 2) := by decide +kernel
theorem dc_M_has_43 : decode bc_M_has 43 = .ok (.imul, 1) := by decide +kernel
theorem dc_M_has_44 : decode bc_M_has 44 = .ok (.lshr, 1) := by decide +kernel
theorem dc_M_has_45 : decode bc_M_has 45 = .ok (.ldc2_w 122, 3) := by decide +kernel
theorem dc_M_has_48 : decode bc_M_has 48 = .ok (.land, 1) := by decide +kernel
theorem dc_M_has_49 : decode bc_M_has 49 = .ok (.ldc2_w 122, 3) := by decide +kernel
theorem dc_M_has_52 : decode bc_M_has 52 = .ok (.lcmp, 1) := by decide +kernel
theorem dc_M_has_53 : decode bc_M_has 53 = .ok (.ifCond .ge 7, 3) := by decide +kernel
theorem dc_M_has_56 : decode bc_M_has 56 = .ok (.iconst 1, 1) := by decide +kernel
theorem dc_M_has_57 : decode bc_M_has 57 = .ok (.goto 4, 3) := by decide +kernel
theorem dc_M_has_60 : decode bc_M_has 60 = .ok (.iconst 0, 1) := by decide +kernel
theorem dc_M_has_61 : decode bc_M_has 61 = .ok (.istore 5, 2) := by decide +kernel
theorem dc_M_has_63 : decode bc_M_has 63 = .ok (.iinc 6 1, 3) := by decide +kernel
theorem dc_M_has_66 : decode bc_M_has 66 = .ok (.goto (-38), 3) := by decide +kernel
theorem dc_M_has_69 : decode bc_M_has 69 = .ok (.aload_n 0, 1) := by decide +kernel
theorem dc_M_has_70 : decode bc_M_has 70 = .ok (.iload 5, 2) := by decide +kernel
theorem dc_M_has_72 : decode bc_M_has 72 = .ok (.ifCond .eq 7, 3) := by decide +kernel
theorem dc_M_has_75 : decode bc_M_has 75 = .ok (.iconst 0, 1) := by decide +kernel
theorem dc_M_has_76 : decode bc_M_has 76 = .ok (.goto 4, 3) := by decide +kernel
theorem dc_M_has_79 : decode bc_M_has 79 = .ok (.iconst 1, 1) := by decide +kernel
theorem dc_M_has_80 : decode bc_M_has 80 = .ok (.putfield 54, 3) := by decide +kernel
theorem dc_M_has_83 : decode bc_M_has 83 = .ok (.aload_n 0, 1) := by decide +kernel
theorem dc_M_has_84 : decode bc_M_has 84 = .ok (.getfield 54, 3) := by decide +kernel
theorem dc_M_has_87 : decode bc_M_has 87 = .ok (.ifCond .le 5, 3) := by decide +kernel
theorem dc_M_has_90 : decode bc_M_has 90 = .ok (.iconst 0, 1) := by decide +kernel
theorem dc_M_has_91 : decode bc_M_has 91 = .ok (.ireturn, 1) := by decide +kernel
theorem dc_M_has_92 : decode bc_M_has 92 = .ok (.aload_n 0, 1) := by decide +kernel
theorem dc_M_has_93 : decode bc_M_has 93 = .ok (.getfield 13, 3) := by decide +kernel
theorem dc_M_has_96 : decode bc_M_has 96 = .ok (.iload_n 1, 1) := by decide +kernel
theorem dc_M_has_97 : decode bc_M_has 97 = .ok (.iaload, 1) := by decide +kernel
theorem dc_M_has_98 : decode bc_M_has 98 = .ok (.istore 6, 2) := by decide +kernel
theorem dc_M_has_100 : decode bc_M_has 100 = .ok (.iconst 0, 1) := by decide +kernel
theorem dc_M_has_101 : decode bc_M_has 101 = .ok (.istore 7, 2) := by decide +kernel
theorem dc_M_has_103 : decode bc_M_has 103 = .ok (.iload 7, 2) := by decide +kernel
theorem dc_M_has_105 : decode bc_M_has 105 = .ok (.iload_n 2, 1) := by decide +kernel
theorem dc_M_has_106 : decode bc_M_has 106 = .ok (.if_icmp .ge 29, 3) := by decide +kernel
theorem dc_M_has_109 : decode bc_M_has 109 = .ok (.aload_n 0, 1) := by decide +kernel
theorem dc_M_has_110 : decode bc_M_has 110 = .ok (.iload_n 1, 1) := by decide +kernel
theorem dc_M_has_111 : decode bc_M_has 111 = .ok (.iload 6, 2) := by decide +kernel
theorem dc_M_has_113 : decode bc_M_has 113 = .ok (.lload_n 3, 1) := by decide +kernel
theorem dc_M_has_114 : decode bc_M_has 114 = .ok (.iconst 2, 1) := by decide +kernel
theorem dc_M_has_115 : decode bc_M_has 115 = .ok (.iload 7, 2) := by decide +kernel
theorem dc_M_has_117 : decode bc_M_has 117 = .ok (.imul, 1) := by decide +kernel
theorem dc_M_has_118 : decode bc_M_has 118 = .ok (.lshr, 1) := by decide +kernel
theorem dc_M_has_119 : decode bc_M_has 119 = .ok (.ldc2_w 122, 3) := by decide +kernel
theorem dc_M_has_122 : decode bc_M_has 122 = .ok (.land, 1) := by decide +kernel
theorem dc_M_has_123 : decode bc_M_has 123 = .ok (.l2i, 1) := by decide +kernel
theorem dc_M_has_124 : decode bc_M_has 124 = .ok (.invokevirtual 61, 3) := by decide +kernel
theorem dc_M_has_127 : decode bc_M_has 127 = .ok (.istore 6, 2) := by decide +kernel
theorem dc_M_has_129 : decode bc_M_has 129 = .ok (.iinc 7 1, 3) := by decide +kernel
theorem dc_M_has_132 : decode bc_M_has 132 = .ok (.goto (-29), 3) := by decide +kernel
theorem dc_M_has_135 : decode bc_M_has 135 = .ok (.aload_n 0, 1) := by decide +kernel
theorem dc_M_has_136 : decode bc_M_has 136 = .ok (.iload_n 1, 1) := by decide +kernel
theorem dc_M_has_137 : decode bc_M_has 137 = .ok (.iload 6, 2) := by decide +kernel
theorem dc_M_has_139 : decode bc_M_has 139 = .ok (.invokevirtual 64, 3) := by decide +kernel
theorem dc_M_has_142 : decode bc_M_has 142 = .ok (.ireturn, 1) := by decide +kernel
theorem dc_M_goes_0 : decode bc_M_goes 0 = .ok (.aload_n 0, 1) := by decide +kernel
theorem dc_M_goes_1 : decode bc_M_goes 1 = .ok (.iconst 0, 1) := by decide +kernel
theorem dc_M_goes_2 : decode bc_M_goes 2 = .ok (.putfield 86, 3) := by decide +kernel
theorem dc_M_goes_5 : decode bc_M_goes 5 = .ok (.iconst 0, 1) := by decide +kernel
theorem dc_M_goes_6 : decode bc_M_goes 6 = .ok (.istore 4, 2) := by decide +kernel
theorem dc_M_goes_8 : decode bc_M_goes 8 = .ok (.iload 4, 2) := by decide +kernel
theorem dc_M_goes_10 : decode bc_M_goes 10 = .ok (.sipush 160, 3) := by decide +kernel
theorem dc_M_goes_13 : decode bc_M_goes 13 = .ok (.if_icmp .ge 17, 3) := by decide +kernel
theorem dc_M_goes_16 : decode bc_M_goes 16 = .ok (.aload_n 0, 1) := by decide +kernel
theorem dc_M_goes_17 : decode bc_M_goes 17 = .ok (.getfield 23, 3) := by decide +kernel
theorem dc_M_goes_20 : decode bc_M_goes 20 = .ok (.iload 4, 2) := by decide +kernel
theorem dc_M_goes_22 : decode bc_M_goes 22 = .ok (.iconst (-1), 1) := by decide +kernel
theorem dc_M_goes_23 : decode bc_M_goes 23 = .ok (.iastore, 1) := by decide +kernel
theorem dc_M_goes_24 : decode bc_M_goes 24 = .ok (.iinc 4 1, 3) := by decide +kernel
theorem dc_M_goes_27 : decode bc_M_goes 27 = .ok (.goto (-19), 3) := by decide +kernel
theorem dc_M_goes_30 : decode bc_M_goes 30 = .ok (.aload_n 0, 1) := by decide +kernel
theorem dc_M_goes_31 : decode bc_M_goes 31 = .ok (.bipush 16, 2) := by decide +kernel
theorem dc_M_goes_33 : decode bc_M_goes 33 = .ok (.aload_n 0, 1) := by decide +kernel
theorem dc_M_goes_34 : decode bc_M_goes 34 = .ok (.getfield 13, 3) := by decide +kernel
theorem dc_M_goes_37 : decode bc_M_goes 37 = .ok (.iload_n 1, 1) := by decide +kernel
theorem dc_M_goes_38 : decode bc_M_goes 38 = .ok (.iaload, 1) := by decide +kernel
theorem dc_M_goes_39 : decode bc_M_goes 39 = .ok (.imul, 1) := by decide +kernel
theorem dc_M_goes_40 : decode bc_M_goes 40 = .ok (.aload_n 0, 1) := by decide +kernel
theorem dc_M_goes_41 : decode bc_M_goes 41 = .ok (.getfield 13, 3) := by decide +kernel
theorem dc_M_goes_44 : decode bc_M_goes 44 = .ok (.iload_n 2, 1) := by decide +kernel
theorem dc_M_goes_45 : decode bc_M_goes 45 = .ok (.iaload, 1) := by decide +kernel
theorem dc_M_goes_46 : decode bc_M_goes 46 = .ok (.iadd, 1) := by decide +kernel
theorem dc_M_goes_47 : decode bc_M_goes 47 = .ok (.invokevirtual 100, 3) := by decide +kernel
theorem dc_M_goes_50 : decode bc_M_goes 50 = .ok (.istore 4, 2) := by decide +kernel
theorem dc_M_goes_52 : decode bc_M_goes 52 = .ok (.iconst 0, 1) := by decide +kernel
theorem dc_M_goes_53 : decode bc_M_goes 53 = .ok (.istore 5, 2) := by decide +kernel
theorem dc_M_goes_55 : decode bc_M_goes 55 = .ok (.iload 5, 2) := by decide +kernel
theorem dc_M_goes_57 : decode bc_M_goes 57 = .ok (.aload_n 0, 1) := by decide +kernel
theorem dc_M_goes_58 : decode bc_M_goes 58 = .ok (.getfield 86, 3) := by decide +kernel
theorem dc_M_goes_61 : decode bc_M_goes 61 = .ok (.if_icmp .ge 121, 3) := by decide +kernel
theorem dc_M_goes_64 : decode bc_M_goes 64 = .ok (.aload_n 0, 1) := by decide +kernel
theorem dc_M_goes_65 : decode bc_M_goes 65 = .ok (.getfield 26, 3) := by decide +kernel
theorem dc_M_goes_68 : decode bc_M_goes 68 = .ok (.iload 5, 2) := by decide +kernel
theorem dc_M_goes_70 : decode bc_M_goes 70 = .ok (.iaload, 1) := by decide +kernel
theorem dc_M_goes_71 : decode bc_M_goes 71 = .ok (.iconst 4, 1) := by decide +kernel
theorem dc_M_goes_72 : decode bc_M_goes 72 = .ok (.ishr, 1) := by decide +kernel
theorem dc_M_goes_73 : decode bc_M_goes 73 = .ok (.istore 6, 2) := by decide +kernel
theorem dc_M_goes_75 : decode bc_M_goes 75 = .ok (.aload_n 0, 1) := by decide +kernel
theorem dc_M_goes_76 : decode bc_M_goes 76 = .ok (.getfield 26, 3) := by decide +kernel
theorem dc_M_goes_79 : decode bc_M_goes 79 = .ok (.iload 5, 2) := by decide +kernel
theorem dc_M_goes_81 : decode bc_M_goes 81 = .ok (.iaload, 1) := by decide +kernel
theorem dc_M_goes_82 : decode bc_M_goes 82 = .ok (.bipush 15, 2) := by decide +kernel
theorem dc_M_goes_84 : decode bc_M_goes 84 = .ok (.iand, 1) := by decide +kernel
theorem dc_M_goes_85 : decode bc_M_goes 85 = .ok (.istore 7, 2) := by decide +kernel
theorem dc_M_goes_87 : decode bc_M_goes 87 = .ok (.aload_n 0, 1) := by decide +kernel
theorem dc_M_goes_88 : decode bc_M_goes 88 = .ok (.iload_n 1, 1) := by decide +kernel
theorem dc_M_goes_89 : decode bc_M_goes 89 = .ok (.iload 6, 2) := by decide +kernel
theorem dc_M_goes_91 : decode bc_M_goes 91 = .ok (.invokevirtual 64, 3) := by decide +kernel
theorem dc_M_goes_94 : decode bc_M_goes 94 = .ok (.ifCond .eq 13, 3) := by decide +kernel
theorem dc_M_goes_97 : decode bc_M_goes 97 = .ok (.aload_n 0, 1) := by decide +kernel
theorem dc_M_goes_98 : decode bc_M_goes 98 = .ok (.iload_n 2, 1) := by decide +kernel
theorem dc_M_goes_99 : decode bc_M_goes 99 = .ok (.iload 7, 2) := by decide +kernel
theorem dc_M_goes_101 : decode bc_M_goes 101 = .ok (.invokevirtual 64, 3) := by decide +kernel
theorem dc_M_goes_104 : decode bc_M_goes 104 = .ok (.ifCond .eq 27, 3) := by decide +kernel
theorem dc_M_goes_107 : decode bc_M_goes 107 = .ok (.iload_n 3, 1) := by decide +kernel
theorem dc_M_goes_108 : decode bc_M_goes 108 = .ok (.ifCond .eq 25, 3) := by decide +kernel
theorem dc_M_goes_111 : decode bc_M_goes 111 = .ok (.aload_n 0, 1) := by decide +kernel
theorem dc_M_goes_112 : decode bc_M_goes 112 = .ok (.iload_n 2, 1) := by decide +kernel
theorem dc_M_goes_113 : decode bc_M_goes 113 = .ok (.iload 7, 2) := by decide +kernel
theorem dc_M_goes_115 : decode bc_M_goes 115 = .ok (.invokevirtual 64, 3) := by decide +kernel
theorem dc_M_goes_118 : decode bc_M_goes 118 = .ok (.ifCond .eq 15, 3) := by decide +kernel
theorem dc_M_goes_121 : decode bc_M_goes 121 = .ok (.aload_n 0, 1) := by decide +kernel
theorem dc_M_goes_122 : decode bc_M_goes 122 = .ok (.iload_n 1, 1) := by decide +kernel
theorem dc_M_goes_123 : decode bc_M_goes 123 = .ok (.iload 6, 2) := by decide +kernel
theorem dc_M_goes_125 : decode bc_M_goes 125 = .ok (.invokevirtual 64, 3) := by decide +kernel
theorem dc_M_goes_128 : decode bc_M_goes 128 = .ok (.ifCond .ne 5, 3) := by decide +kernel
theorem dc_M_goes_131 : decode bc_M_goes 131 = .ok (.iconst 0, 1) := by decide +kernel
theorem dc_M_goes_132 : decode bc_M_goes 132 = .ok (.ireturn, 1) := by decide +kernel
theorem dc_M_goes_133 : decode bc_M_goes 133 = .ok (.iconst 0, 1) := by decide +kernel
theorem dc_M_goes_134 : decode bc_M_goes 134 = .ok (.istore 8, 2) := by decide +kernel
theorem dc_M_goes_136 : decode bc_M_goes 136 = .ok (.iload 8, 2) := by decide +kernel
theorem dc_M_goes_138 : decode bc_M_goes 138 = .ok (.iconst 3, 1) := by decide +kernel
theorem dc_M_goes_139 : decode bc_M_goes 139 = .ok (.if_icmp .ge 37, 3) := by decide +kernel
theorem dc_M_goes_142 : decode bc_M_goes 142 = .ok (.aload_n 0, 1) := by decide +kernel
theorem dc_M_goes_143 : decode bc_M_goes 143 = .ok (.bipush 16, 2) := by decide +kernel
theorem dc_M_goes_145 : decode bc_M_goes 145 = .ok (.aload_n 0, 1) := by decide +kernel
theorem dc_M_goes_146 : decode bc_M_goes 146 = .ok (.iload_n 1, 1) := by decide +kernel
theorem dc_M_goes_147 : decode bc_M_goes 147 = .ok (.iload 6, 2) := by decide +kernel
theorem dc_M_goes_149 : decode bc_M_goes 149 = .ok (.iload 8, 2) := by decide +kernel
theorem dc_M_goes_151 : decode bc_M_goes 151 = .ok (.invokevirtual 61, 3) := by decide +kernel
theorem dc_M_goes_154 : decode bc_M_goes 154 = .ok (.imul, 1) := by decide +kernel
theorem dc_M_goes_155 : decode bc_M_goes 155 = .ok (.aload_n 0, 1) := by decide +kernel
theorem dc_M_goes_156 : decode bc_M_goes 156 = .ok (.iload_n 2, 1) := by decide +kernel
theorem dc_M_goes_157 : decode bc_M_goes 157 = .ok (.iload 7, 2) := by decide +kernel
theorem dc_M_goes_159 : decode bc_M_goes 159 = .ok (.iload 8, 2) := by decide +kernel
theorem dc_M_goes_161 : decode bc_M_goes 161 = .ok (.invokevirtual 61, 3) := by decide +kernel
theorem dc_M_goes_164 : decode bc_M_goes 164 = .ok (.iadd, 1) := by decide +kernel
theorem dc_M_goes_165 : decode bc_M_goes 165 = .ok (.invokevirtual 100, 3) := by decide +kernel
theorem dc_M_goes_168 : decode bc_M_goes 168 = .ok (.istore 4, 2) := by decide +kernel
theorem dc_M_goes_170 : decode bc_M_goes 170 = .ok (.iinc 8 1, 3) := by decide +kernel
theorem dc_M_goes_173 : decode bc_M_goes 173 = .ok (.goto (-37), 3) := by decide +kernel
theorem dc_M_goes_176 : decode bc_M_goes 176 = .ok (.iinc 5 1, 3) := by decide +kernel
theorem dc_M_goes_179 : decode bc_M_goes 179 = .ok (.goto (-124), 3) := by decide +kernel
theorem dc_M_goes_182 : decode bc_M_goes 182 = .ok (.iconst 1, 1) := by decide +kernel
theorem dc_M_goes_183 : decode bc_M_goes 183 = .ok (.ireturn, 1) := by decide +kernel
theorem dc_M_same_0 : decode bc_M_same 0 = .ok (.aload_n 0, 1) := by decide +kernel
theorem dc_M_same_1 : decode bc_M_same 1 = .ok (.aload_n 0, 1) := by decide +kernel
theorem dc_M_same_2 : decode bc_M_same 2 = .ok (.iload_n 1, 1) := by decide +kernel
theorem dc_M_same_3 : decode bc_M_same 3 = .ok (.invokevirtual 115, 3) := by decide +kernel
theorem dc_M_same_6 : decode bc_M_same 6 = .ok (.ifCond .eq 15, 3) := by decide +kernel
theorem dc_M_same_9 : decode bc_M_same 9 = .ok (.aload_n 0, 1) := by decide +kernel
theorem dc_M_same_10 : decode bc_M_same 10 = .ok (.iload_n 2, 1) := by decide +kernel
theorem dc_M_same_11 : decode bc_M_same 11 = .ok (.invokevirtual 115, 3) := by decide +kernel
theorem dc_M_same_14 : decode bc_M_same 14 = .ok (.ifCond .eq 7, 3) := by decide +kernel
theorem dc_M_same_17 : decode bc_M_same 17 = .ok (.iconst 0, 1) := by decide +kernel
theorem dc_M_same_18 : decode bc_M_same 18 = .ok (.goto 4, 3) := by decide +kernel
theorem dc_M_same_21 : decode bc_M_same 21 = .ok (.iconst 1, 1) := by decide +kernel
theorem dc_M_same_22 : decode bc_M_same 22 = .ok (.putfield 54, 3) := by decide +kernel
theorem dc_M_same_25 : decode bc_M_same 25 = .ok (.aload_n 0, 1) := by decide +kernel
theorem dc_M_same_26 : decode bc_M_same 26 = .ok (.getfield 54, 3) := by decide +kernel
theorem dc_M_same_29 : decode bc_M_same 29 = .ok (.ifCond .ne 17, 3) := by decide +kernel
theorem dc_M_same_32 : decode bc_M_same 32 = .ok (.aload_n 0, 1) := by decide +kernel
theorem dc_M_same_33 : decode bc_M_same 33 = .ok (.iload_n 1, 1) := by decide +kernel
theorem dc_M_same_34 : decode bc_M_same 34 = .ok (.iload_n 2, 1) := by decide +kernel
theorem dc_M_same_35 : decode bc_M_same 35 = .ok (.iconst 1, 1) := by decide +kernel
theorem dc_M_same_36 : decode bc_M_same 36 = .ok (.invokevirtual 124, 3) := by decide +kernel
theorem dc_M_same_39 : decode bc_M_same 39 = .ok (.ifCond .eq 7, 3) := by decide +kernel
theorem dc_M_same_42 : decode bc_M_same 42 = .ok (.iconst 1, 1) := by decide +kernel
theorem dc_M_same_43 : decode bc_M_same 43 = .ok (.goto 4, 3) := by decide +kernel
theorem dc_M_same_46 : decode bc_M_same 46 = .ok (.iconst 0, 1) := by decide +kernel
theorem dc_M_same_47 : decode bc_M_same 47 = .ok (.ireturn, 1) := by decide +kernel
theorem dc_M_inside_0 : decode bc_M_inside 0 = .ok (.aload_n 0, 1) := by decide +kernel
theorem dc_M_inside_1 : decode bc_M_inside 1 = .ok (.aload_n 0, 1) := by decide +kernel
theorem dc_M_inside_2 : decode bc_M_inside 2 = .ok (.iload_n 1, 1) := by decide +kernel
theorem dc_M_inside_3 : decode bc_M_inside 3 = .ok (.invokevirtual 115, 3) := by decide +kernel
theorem dc_M_inside_6 : decode bc_M_inside 6 = .ok (.ifCond .eq 15, 3) := by decide +kernel
theorem dc_M_inside_9 : decode bc_M_inside 9 = .ok (.aload_n 0, 1) := by decide +kernel
theorem dc_M_inside_10 : decode bc_M_inside 10 = .ok (.iload_n 2, 1) := by decide +kernel
theorem dc_M_inside_11 : decode bc_M_inside 11 = .ok (.invokevirtual 115, 3) := by decide +kernel
theorem dc_M_inside_14 : decode bc_M_inside 14 = .ok (.ifCond .eq 7, 3) := by decide +kernel
theorem dc_M_inside_17 : decode bc_M_inside 17 = .ok (.iconst 0, 1) := by decide +kernel
theorem dc_M_inside_18 : decode bc_M_inside 18 = .ok (.goto 4, 3) := by decide +kernel
theorem dc_M_inside_21 : decode bc_M_inside 21 = .ok (.iconst 1, 1) := by decide +kernel
theorem dc_M_inside_22 : decode bc_M_inside 22 = .ok (.putfield 54, 3) := by decide +kernel
theorem dc_M_inside_25 : decode bc_M_inside 25 = .ok (.aload_n 0, 1) := by decide +kernel
theorem dc_M_inside_26 : decode bc_M_inside 26 = .ok (.getfield 54, 3) := by decide +kernel
theorem dc_M_inside_29 : decode bc_M_inside 29 = .ok (.ifCond .ne 17, 3) := by decide +kernel
theorem dc_M_inside_32 : decode bc_M_inside 32 = .ok (.aload_n 0, 1) := by decide +kernel
theorem dc_M_inside_33 : decode bc_M_inside 33 = .ok (.iload_n 1, 1) := by decide +kernel
theorem dc_M_inside_34 : decode bc_M_inside 34 = .ok (.iload_n 2, 1) := by decide +kernel
theorem dc_M_inside_35 : decode bc_M_inside 35 = .ok (.iconst 0, 1) := by decide +kernel
theorem dc_M_inside_36 : decode bc_M_inside 36 = .ok (.invokevirtual 124, 3) := by decide +kernel
theorem dc_M_inside_39 : decode bc_M_inside 39 = .ok (.ifCond .eq 7, 3) := by decide +kernel
theorem dc_M_inside_42 : decode bc_M_inside 42 = .ok (.iconst 1, 1) := by decide +kernel
theorem dc_M_inside_43 : decode bc_M_inside 43 = .ok (.goto 4, 3) := by decide +kernel
theorem dc_M_inside_46 : decode bc_M_inside 46 = .ok (.iconst 0, 1) := by decide +kernel
theorem dc_M_inside_47 : decode bc_M_inside 47 = .ok (.ireturn, 1) := by decide +kernel
theorem dc_M_rests_0 : decode bc_M_rests 0 = .ok (.aload_n 0, 1) := by decide +kernel
theorem dc_M_rests_1 : decode bc_M_rests 1 = .ok (.aload_n 0, 1) := by decide +kernel
theorem dc_M_rests_2 : decode bc_M_rests 2 = .ok (.iload_n 1, 1) := by decide +kernel
theorem dc_M_rests_3 : decode bc_M_rests 3 = .ok (.invokevirtual 115, 3) := by decide +kernel
theorem dc_M_rests_6 : decode bc_M_rests 6 = .ok (.ifCond .eq 7, 3) := by decide +kernel
theorem dc_M_rests_9 : decode bc_M_rests 9 = .ok (.iconst 0, 1) := by decide +kernel
theorem dc_M_rests_10 : decode bc_M_rests 10 = .ok (.goto 4, 3) := by decide +kernel
theorem dc_M_rests_13 : decode bc_M_rests 13 = .ok (.iconst 1, 1) := by decide +kernel
theorem dc_M_rests_14 : decode bc_M_rests 14 = .ok (.putfield 54, 3) := by decide +kernel
theorem dc_M_rests_17 : decode bc_M_rests 17 = .ok (.aload_n 0, 1) := by decide +kernel
theorem dc_M_rests_18 : decode bc_M_rests 18 = .ok (.getfield 54, 3) := by decide +kernel
theorem dc_M_rests_21 : decode bc_M_rests 21 = .ok (.ifCond .le 7, 3) := by decide +kernel
theorem dc_M_rests_24 : decode bc_M_rests 24 = .ok (.iconst 0, 1) := by decide +kernel
theorem dc_M_rests_25 : decode bc_M_rests 25 = .ok (.goto 9, 3) := by decide +kernel
theorem dc_M_rests_28 : decode bc_M_rests 28 = .ok (.aload_n 0, 1) := by decide +kernel
theorem dc_M_rests_29 : decode bc_M_rests 29 = .ok (.getfield 9, 3) := by decide +kernel
theorem dc_M_rests_32 : decode bc_M_rests 32 = .ok (.iload_n 1, 1) := by decide +kernel
theorem dc_M_rests_33 : decode bc_M_rests 33 = .ok (.iaload, 1) := by decide +kernel
theorem dc_M_rests_34 : decode bc_M_rests 34 = .ok (.ireturn, 1) := by decide +kernel
theorem dc_M_countJ_0 : decode bc_M_countJ 0 = .ok (.iconst 0, 1) := by decide +kernel
theorem dc_M_countJ_1 : decode bc_M_countJ 1 = .ok (.istore_n 3, 1) := by decide +kernel
theorem dc_M_countJ_2 : decode bc_M_countJ 2 = .ok (.iload_n 3, 1) := by decide +kernel
theorem dc_M_countJ_3 : decode bc_M_countJ 3 = .ok (.aload_n 0, 1) := by decide +kernel
theorem dc_M_countJ_4 : decode bc_M_countJ 4 = .ok (.getfield 9, 3) := by decide +kernel
theorem dc_M_countJ_7 : decode bc_M_countJ 7 = .ok (.iload_n 1, 1) := by decide +kernel
theorem dc_M_countJ_8 : decode bc_M_countJ 8 = .ok (.iaload, 1) := by decide +kernel
theorem dc_M_countJ_9 : decode bc_M_countJ 9 = .ok (.if_icmp .ge 29, 3) := by decide +kernel
theorem dc_M_countJ_12 : decode bc_M_countJ 12 = .ok (.aload_n 0, 1) := by decide +kernel
theorem dc_M_countJ_13 : decode bc_M_countJ 13 = .ok (.getfield 47, 3) := by decide +kernel
theorem dc_M_countJ_16 : decode bc_M_countJ 16 = .ok (.iload_n 3, 1) := by decide +kernel
theorem dc_M_countJ_17 : decode bc_M_countJ 17 = .ok (.aload_n 0, 1) := by decide +kernel
theorem dc_M_countJ_18 : decode bc_M_countJ 18 = .ok (.iload_n 1, 1) := by decide +kernel
theorem dc_M_countJ_19 : decode bc_M_countJ 19 = .ok (.iload_n 3, 1) := by decide +kernel
theorem dc_M_countJ_20 : decode bc_M_countJ 20 = .ok (.invokevirtual 64, 3) := by decide +kernel
theorem dc_M_countJ_23 : decode bc_M_countJ 23 = .ok (.ifCond .eq 7, 3) := by decide +kernel
theorem dc_M_countJ_26 : decode bc_M_countJ 26 = .ok (.lconst 1, 1) := by decide +kernel
theorem dc_M_countJ_27 : decode bc_M_countJ 27 = .ok (.goto 4, 3) := by decide +kernel
theorem dc_M_countJ_30 : decode bc_M_countJ 30 = .ok (.lconst 0, 1) := by decide +kernel
theorem dc_M_countJ_31 : decode bc_M_countJ 31 = .ok (.lastore, 1) := by decide +kernel
theorem dc_M_countJ_32 : decode bc_M_countJ 32 = .ok (.iinc 3 1, 3) := by decide +kernel
theorem dc_M_countJ_35 : decode bc_M_countJ 35 = .ok (.goto (-33), 3) := by decide +kernel
theorem dc_M_countJ_38 : decode bc_M_countJ 38 = .ok (.iconst 0, 1) := by decide +kernel
theorem dc_M_countJ_39 : decode bc_M_countJ 39 = .ok (.istore_n 3, 1) := by decide +kernel
theorem dc_M_countJ_40 : decode bc_M_countJ 40 = .ok (.iload_n 3, 1) := by decide +kernel
theorem dc_M_countJ_41 : decode bc_M_countJ 41 = .ok (.iload_n 2, 1) := by decide +kernel
theorem dc_M_countJ_42 : decode bc_M_countJ 42 = .ok (.if_icmp .ge 111, 3) := by decide +kernel
theorem dc_M_countJ_45 : decode bc_M_countJ 45 = .ok (.iconst 0, 1) := by decide +kernel
theorem dc_M_countJ_46 : decode bc_M_countJ 46 = .ok (.istore 4, 2) := by decide +kernel
theorem dc_M_countJ_48 : decode bc_M_countJ 48 = .ok (.iload 4, 2) := by decide +kernel
theorem dc_M_countJ_50 : decode bc_M_countJ 50 = .ok (.aload_n 0, 1) := by decide +kernel
theorem dc_M_countJ_51 : decode bc_M_countJ 51 = .ok (.getfield 9, 3) := by decide +kernel
theorem dc_M_countJ_54 : decode bc_M_countJ 54 = .ok (.iload_n 1, 1) := by decide +kernel
theorem dc_M_countJ_55 : decode bc_M_countJ 55 = .ok (.iaload, 1) := by decide +kernel
theorem dc_M_countJ_56 : decode bc_M_countJ 56 = .ok (.if_icmp .ge 57, 3) := by decide +kernel
theorem dc_M_countJ_59 : decode bc_M_countJ 59 = .ok (.aload_n 0, 1) := by decide +kernel
theorem dc_M_countJ_60 : decode bc_M_countJ 60 = .ok (.getfield 51, 3) := by decide +kernel
theorem dc_M_countJ_63 : decode bc_M_countJ 63 = .ok (.iload 4, 2) := by decide +kernel
theorem dc_M_countJ_65 : decode bc_M_countJ 65 = .ok (.aload_n 0, 1) := by decide +kernel
theorem dc_M_countJ_66 : decode bc_M_countJ 66 = .ok (.getfield 47, 3) := by decide +kernel
theorem dc_M_countJ_69 : decode bc_M_countJ 69 = .ok (.aload_n 0, 1) := by decide +kernel
theorem dc_M_countJ_70 : decode bc_M_countJ 70 = .ok (.iload_n 1, 1) := by decide +kernel
theorem dc_M_countJ_71 : decode bc_M_countJ 71 = .ok (.iload 4, 2) := by decide +kernel
theorem dc_M_countJ_73 : decode bc_M_countJ 73 = .ok (.iconst 0, 1) := by decide +kernel
theorem dc_M_countJ_74 : decode bc_M_countJ 74 = .ok (.invokevirtual 61, 3) := by decide +kernel
theorem dc_M_countJ_77 : decode bc_M_countJ 77 = .ok (.laload, 1) := by decide +kernel
theorem dc_M_countJ_78 : decode bc_M_countJ 78 = .ok (.aload_n 0, 1) := by decide +kernel
theorem dc_M_countJ_79 : decode bc_M_countJ 79 = .ok (.getfield 47, 3) := by decide +kernel
theorem dc_M_countJ_82 : decode bc_M_countJ 82 = .ok (.aload_n 0, 1) := by decide +kernel
theorem dc_M_countJ_83 : decode bc_M_countJ 83 = .ok (.iload_n 1, 1) := by decide +kernel
theorem dc_M_countJ_84 : decode bc_M_countJ 84 = .ok (.iload 4, 2) := by decide +kernel
theorem dc_M_countJ_86 : decode bc_M_countJ 86 = .ok (.iconst 1, 1) := by decide +kernel
theorem dc_M_countJ_87 : decode bc_M_countJ 87 = .ok (.invokevirtual 61, 3) := by decide +kernel
theorem dc_M_countJ_90 : decode bc_M_countJ 90 = .ok (.laload, 1) := by decide +kernel
theorem dc_M_countJ_91 : decode bc_M_countJ 91 = .ok (.ladd, 1) := by decide +kernel
theorem dc_M_countJ_92 : decode bc_M_countJ 92 = .ok (.aload_n 0, 1) := by decide +kernel
theorem dc_M_countJ_93 : decode bc_M_countJ 93 = .ok (.getfield 47, 3) := by decide +kernel
theorem dc_M_countJ_96 : decode bc_M_countJ 96 = .ok (.aload_n 0, 1) := by decide +kernel
theorem dc_M_countJ_97 : decode bc_M_countJ 97 = .ok (.iload_n 1, 1) := by decide +kernel
theorem dc_M_countJ_98 : decode bc_M_countJ 98 = .ok (.iload 4, 2) := by decide +kernel
theorem dc_M_countJ_100 : decode bc_M_countJ 100 = .ok (.iconst 2, 1) := by decide +kernel
theorem dc_M_countJ_101 : decode bc_M_countJ 101 = .ok (.invokevirtual 61, 3) := by decide +kernel
theorem dc_M_countJ_104 : decode bc_M_countJ 104 = .ok (.laload, 1) := by decide +kernel
theorem dc_M_countJ_105 : decode bc_M_countJ 105 = .ok (.ladd, 1) := by decide +kernel
theorem dc_M_countJ_106 : decode bc_M_countJ 106 = .ok (.lastore, 1) := by decide +kernel
theorem dc_M_countJ_107 : decode bc_M_countJ 107 = .ok (.iinc 4 1, 3) := by decide +kernel
theorem dc_M_countJ_110 : decode bc_M_countJ 110 = .ok (.goto (-62), 3) := by decide +kernel
theorem dc_M_countJ_113 : decode bc_M_countJ 113 = .ok (.iconst 0, 1) := by decide +kernel
theorem dc_M_countJ_114 : decode bc_M_countJ 114 = .ok (.istore 4, 2) := by decide +kernel
theorem dc_M_countJ_116 : decode bc_M_countJ 116 = .ok (.iload 4, 2) := by decide +kernel
theorem dc_M_countJ_118 : decode bc_M_countJ 118 = .ok (.aload_n 0, 1) := by decide +kernel
theorem dc_M_countJ_119 : decode bc_M_countJ 119 = .ok (.getfield 9, 3) := by decide +kernel
theorem dc_M_countJ_122 : decode bc_M_countJ 122 = .ok (.iload_n 1, 1) := by decide +kernel
theorem dc_M_countJ_123 : decode bc_M_countJ 123 = .ok (.iaload, 1) := by decide +kernel
theorem dc_M_countJ_124 : decode bc_M_countJ 124 = .ok (.if_icmp .ge 23, 3) := by decide +kernel
theorem dc_M_countJ_127 : decode bc_M_countJ 127 = .ok (.aload_n 0, 1) := by decide +kernel
theorem dc_M_countJ_128 : decode bc_M_countJ 128 = .ok (.getfield 47, 3) := by decide +kernel
theorem dc_M_countJ_131 : decode bc_M_countJ 131 = .ok (.iload 4, 2) := by decide +kernel
theorem dc_M_countJ_133 : decode bc_M_countJ 133 = .ok (.aload_n 0, 1) := by decide +kernel
theorem dc_M_countJ_134 : decode bc_M_countJ 134 = .ok (.getfield 51, 3) := by decide +kernel
theorem dc_M_countJ_137 : decode bc_M_countJ 137 = .ok (.iload 4, 2) := by decide +kernel
theorem dc_M_countJ_139 : decode bc_M_countJ 139 = .ok (.laload, 1) := by decide +kernel
theorem dc_M_countJ_140 : decode bc_M_countJ 140 = .ok (.lastore, 1) := by decide +kernel
theorem dc_M_countJ_141 : decode bc_M_countJ 141 = .ok (.iinc 4 1, 3) := by decide +kernel
theorem dc_M_countJ_144 : decode bc_M_countJ 144 = .ok (.goto (-28), 3) := by decide +kernel
theorem dc_M_countJ_147 : decode bc_M_countJ 147 = .ok (.iinc 3 1, 3) := by decide +kernel
theorem dc_M_countJ_150 : decode bc_M_countJ 150 = .ok (.goto (-110), 3) := by decide +kernel
theorem dc_M_countJ_153 : decode bc_M_countJ 153 = .ok (.aload_n 0, 1) := by decide +kernel
theorem dc_M_countJ_154 : decode bc_M_countJ 154 = .ok (.getfield 47, 3) := by decide +kernel
theorem dc_M_countJ_157 : decode bc_M_countJ 157 = .ok (.aload_n 0, 1) := by decide +kernel
theorem dc_M_countJ_158 : decode bc_M_countJ 158 = .ok (.getfield 13, 3) := by decide +kernel
theorem dc_M_countJ_161 : decode bc_M_countJ 161 = .ok (.iload_n 1, 1) := by decide +kernel
theorem dc_M_countJ_162 : decode bc_M_countJ 162 = .ok (.iaload, 1) := by decide +kernel
theorem dc_M_countJ_163 : decode bc_M_countJ 163 = .ok (.laload, 1) := by decide +kernel
theorem dc_M_countJ_164 : decode bc_M_countJ 164 = .ok (.lreturn, 1) := by decide +kernel
theorem dc_M_words_0 : decode bc_M_words 0 = .ok (.aload_n 0, 1) := by decide +kernel
theorem dc_M_words_1 : decode bc_M_words 1 = .ok (.aload_n 0, 1) := by decide +kernel
theorem dc_M_words_2 : decode bc_M_words 2 = .ok (.iload_n 1, 1) := by decide +kernel
theorem dc_M_words_3 : decode bc_M_words 3 = .ok (.invokevirtual 115, 3) := by decide +kernel
theorem dc_M_words_6 : decode bc_M_words 6 = .ok (.ifCond .eq 17, 3) := by decide +kernel
theorem dc_M_words_9 : decode bc_M_words 9 = .ok (.iload_n 2, 1) := by decide +kernel
theorem dc_M_words_10 : decode bc_M_words 10 = .ok (.ifCond .lt 13, 3) := by decide +kernel
theorem dc_M_words_13 : decode bc_M_words 13 = .ok (.iload_n 2, 1) := by decide +kernel
theorem dc_M_words_14 : decode bc_M_words 14 = .ok (.bipush 40, 2) := by decide +kernel
theorem dc_M_words_16 : decode bc_M_words 16 = .ok (.if_icmp .ge 7, 3) := by decide +kernel
theorem dc_M_words_19 : decode bc_M_words 19 = .ok (.iconst 0, 1) := by decide +kernel
theorem dc_M_words_20 : decode bc_M_words 20 = .ok (.goto 4, 3) := by decide +kernel
theorem dc_M_words_23 : decode bc_M_words 23 = .ok (.iconst 1, 1) := by decide +kernel
theorem dc_M_words_24 : decode bc_M_words 24 = .ok (.putfield 54, 3) := by decide +kernel
theorem dc_M_words_27 : decode bc_M_words 27 = .ok (.aload_n 0, 1) := by decide +kernel
theorem dc_M_words_28 : decode bc_M_words 28 = .ok (.getfield 54, 3) := by decide +kernel
theorem dc_M_words_31 : decode bc_M_words 31 = .ok (.ifCond .le 7, 3) := by decide +kernel
theorem dc_M_words_34 : decode bc_M_words 34 = .ok (.lconst 0, 1) := by decide +kernel
theorem dc_M_words_35 : decode bc_M_words 35 = .ok (.goto 9, 3) := by decide +kernel
theorem dc_M_words_38 : decode bc_M_words 38 = .ok (.aload_n 0, 1) := by decide +kernel
theorem dc_M_words_39 : decode bc_M_words 39 = .ok (.iload_n 1, 1) := by decide +kernel
theorem dc_M_words_40 : decode bc_M_words 40 = .ok (.iload_n 2, 1) := by decide +kernel
theorem dc_M_words_41 : decode bc_M_words 41 = .ok (.invokevirtual 128, 3) := by decide +kernel
theorem dc_M_words_44 : decode bc_M_words 44 = .ok (.lreturn, 1) := by decide +kernel
theorem dc_M_shortest_0 : decode bc_M_shortest 0 = .ok (.aload_n 0, 1) := by decide +kernel
theorem dc_M_shortest_1 : decode bc_M_shortest 1 = .ok (.aload_n 0, 1) := by decide +kernel
theorem dc_M_shortest_2 : decode bc_M_shortest 2 = .ok (.iload_n 1, 1) := by decide +kernel
theorem dc_M_shortest_3 : decode bc_M_shortest 3 = .ok (.invokevirtual 115, 3) := by decide +kernel
theorem dc_M_shortest_6 : decode bc_M_shortest 6 = .ok (.ifCond .eq 7, 3) := by decide +kernel
theorem dc_M_shortest_9 : decode bc_M_shortest 9 = .ok (.iconst 0, 1) := by decide +kernel
theorem dc_M_shortest_10 : decode bc_M_shortest 10 = .ok (.goto 4, 3) := by decide +kernel
theorem dc_M_shortest_13 : decode bc_M_shortest 13 = .ok (.iconst 1, 1) := by decide +kernel
theorem dc_M_shortest_14 : decode bc_M_shortest 14 = .ok (.putfield 54, 3) := by decide +kernel
theorem dc_M_shortest_17 : decode bc_M_shortest 17 = .ok (.aload_n 0, 1) := by decide +kernel
theorem dc_M_shortest_18 : decode bc_M_shortest 18 = .ok (.getfield 54, 3) := by decide +kernel
theorem dc_M_shortest_21 : decode bc_M_shortest 21 = .ok (.ifCond .le 5, 3) := by decide +kernel
theorem dc_M_shortest_24 : decode bc_M_shortest 24 = .ok (.iconst 0, 1) := by decide +kernel
theorem dc_M_shortest_25 : decode bc_M_shortest 25 = .ok (.ireturn, 1) := by decide +kernel
theorem dc_M_shortest_26 : decode bc_M_shortest 26 = .ok (.aload_n 0, 1) := by decide +kernel
theorem dc_M_shortest_27 : decode bc_M_shortest 27 = .ok (.iload_n 1, 1) := by decide +kernel
theorem dc_M_shortest_28 : decode bc_M_shortest 28 = .ok (.invokevirtual 118, 3) := by decide +kernel
theorem dc_M_shortest_31 : decode bc_M_shortest 31 = .ok (.aload_n 0, 1) := by decide +kernel
theorem dc_M_shortest_32 : decode bc_M_shortest 32 = .ok (.getfield 44, 3) := by decide +kernel
theorem dc_M_shortest_35 : decode bc_M_shortest 35 = .ok (.aload_n 0, 1) := by decide +kernel
theorem dc_M_shortest_36 : decode bc_M_shortest 36 = .ok (.getfield 13, 3) := by decide +kernel
theorem dc_M_shortest_39 : decode bc_M_shortest 39 = .ok (.iload_n 1, 1) := by decide +kernel
theorem dc_M_shortest_40 : decode bc_M_shortest 40 = .ok (.iaload, 1) := by decide +kernel
theorem dc_M_shortest_41 : decode bc_M_shortest 41 = .ok (.iaload, 1) := by decide +kernel
theorem dc_M_shortest_42 : decode bc_M_shortest 42 = .ok (.ifCond .ge 8, 3) := by decide +kernel
theorem dc_M_shortest_45 : decode bc_M_shortest 45 = .ok (.aload_n 0, 1) := by decide +kernel
theorem dc_M_shortest_46 : decode bc_M_shortest 46 = .ok (.iconst 2, 1) := by decide +kernel
theorem dc_M_shortest_47 : decode bc_M_shortest 47 = .ok (.putfield 54, 3) := by decide +kernel
theorem dc_M_shortest_50 : decode bc_M_shortest 50 = .ok (.aload_n 0, 1) := by decide +kernel
theorem dc_M_shortest_51 : decode bc_M_shortest 51 = .ok (.getfield 54, 3) := by decide +kernel
theorem dc_M_shortest_54 : decode bc_M_shortest 54 = .ok (.ifCond .le 7, 3) := by decide +kernel
theorem dc_M_shortest_57 : decode bc_M_shortest 57 = .ok (.iconst 0, 1) := by decide +kernel
theorem dc_M_shortest_58 : decode bc_M_shortest 58 = .ok (.goto 14, 3) := by decide +kernel
theorem dc_M_shortest_61 : decode bc_M_shortest 61 = .ok (.aload_n 0, 1) := by decide +kernel
theorem dc_M_shortest_62 : decode bc_M_shortest 62 = .ok (.getfield 44, 3) := by decide +kernel
theorem dc_M_shortest_65 : decode bc_M_shortest 65 = .ok (.aload_n 0, 1) := by decide +kernel
theorem dc_M_shortest_66 : decode bc_M_shortest 66 = .ok (.getfield 13, 3) := by decide +kernel
theorem dc_M_shortest_69 : decode bc_M_shortest 69 = .ok (.iload_n 1, 1) := by decide +kernel
theorem dc_M_shortest_70 : decode bc_M_shortest 70 = .ok (.iaload, 1) := by decide +kernel
theorem dc_M_shortest_71 : decode bc_M_shortest 71 = .ok (.iaload, 1) := by decide +kernel
theorem dc_M_shortest_72 : decode bc_M_shortest 72 = .ok (.ireturn, 1) := by decide +kernel
theorem dc_M_letter_0 : decode bc_M_letter 0 = .ok (.aload_n 0, 1) := by decide +kernel
theorem dc_M_letter_1 : decode bc_M_letter 1 = .ok (.aload_n 0, 1) := by decide +kernel
theorem dc_M_letter_2 : decode bc_M_letter 2 = .ok (.iload_n 1, 1) := by decide +kernel
theorem dc_M_letter_3 : decode bc_M_letter 3 = .ok (.invokevirtual 115, 3) := by decide +kernel
theorem dc_M_letter_6 : decode bc_M_letter 6 = .ok (.ifCond .eq 7, 3) := by decide +kernel
theorem dc_M_letter_9 : decode bc_M_letter 9 = .ok (.iconst 0, 1) := by decide +kernel
theorem dc_M_letter_10 : decode bc_M_letter 10 = .ok (.goto 4, 3) := by decide +kernel
theorem dc_M_letter_13 : decode bc_M_letter 13 = .ok (.iconst 1, 1) := by decide +kernel
theorem dc_M_letter_14 : decode bc_M_letter 14 = .ok (.putfield 54, 3) := by decide +kernel
theorem dc_M_letter_17 : decode bc_M_letter 17 = .ok (.aload_n 0, 1) := by decide +kernel
theorem dc_M_letter_18 : decode bc_M_letter 18 = .ok (.getfield 54, 3) := by decide +kernel
theorem dc_M_letter_21 : decode bc_M_letter 21 = .ok (.ifCond .le 5, 3) := by decide +kernel
theorem dc_M_letter_24 : decode bc_M_letter 24 = .ok (.iconst 0, 1) := by decide +kernel
theorem dc_M_letter_25 : decode bc_M_letter 25 = .ok (.ireturn, 1) := by decide +kernel
theorem dc_M_letter_26 : decode bc_M_letter 26 = .ok (.aload_n 0, 1) := by decide +kernel
theorem dc_M_letter_27 : decode bc_M_letter 27 = .ok (.iload_n 1, 1) := by decide +kernel
theorem dc_M_letter_28 : decode bc_M_letter 28 = .ok (.invokevirtual 118, 3) := by decide +kernel
theorem dc_M_letter_31 : decode bc_M_letter 31 = .ok (.aload_n 0, 1) := by decide +kernel
theorem dc_M_letter_32 : decode bc_M_letter 32 = .ok (.getfield 13, 3) := by decide +kernel
theorem dc_M_letter_35 : decode bc_M_letter 35 = .ok (.iload_n 1, 1) := by decide +kernel
theorem dc_M_letter_36 : decode bc_M_letter 36 = .ok (.iaload, 1) := by decide +kernel
theorem dc_M_letter_37 : decode bc_M_letter 37 = .ok (.istore_n 3, 1) := by decide +kernel
theorem dc_M_letter_38 : decode bc_M_letter 38 = .ok (.iload_n 2, 1) := by decide +kernel
theorem dc_M_letter_39 : decode bc_M_letter 39 = .ok (.ifCond .lt 13, 3) := by decide +kernel
theorem dc_M_letter_42 : decode bc_M_letter 42 = .ok (.iload_n 2, 1) := by decide +kernel
theorem dc_M_letter_43 : decode bc_M_letter 43 = .ok (.aload_n 0, 1) := by decide +kernel
theorem dc_M_letter_44 : decode bc_M_letter 44 = .ok (.getfield 44, 3) := by decide +kernel
theorem dc_M_letter_47 : decode bc_M_letter 47 = .ok (.iload_n 3, 1) := by decide +kernel
theorem dc_M_letter_48 : decode bc_M_letter 48 = .ok (.iaload, 1) := by decide +kernel
theorem dc_M_letter_49 : decode bc_M_letter 49 = .ok (.if_icmp .lt 10, 3) := by decide +kernel
theorem dc_M_letter_52 : decode bc_M_letter 52 = .ok (.aload_n 0, 1) := by decide +kernel
theorem dc_M_letter_53 : decode bc_M_letter 53 = .ok (.iconst 2, 1) := by decide +kernel
theorem dc_M_letter_54 : decode bc_M_letter 54 = .ok (.putfield 54, 3) := by decide +kernel
theorem dc_M_letter_57 : decode bc_M_letter 57 = .ok (.iconst 0, 1) := by decide +kernel
theorem dc_M_letter_58 : decode bc_M_letter 58 = .ok (.ireturn, 1) := by decide +kernel
theorem dc_M_letter_59 : decode bc_M_letter 59 = .ok (.iconst 0, 1) := by decide +kernel
theorem dc_M_letter_60 : decode bc_M_letter 60 = .ok (.istore 4, 2) := by decide +kernel
theorem dc_M_letter_62 : decode bc_M_letter 62 = .ok (.iconst 0, 1) := by decide +kernel
theorem dc_M_letter_63 : decode bc_M_letter 63 = .ok (.istore 5, 2) := by decide +kernel
theorem dc_M_letter_65 : decode bc_M_letter 65 = .ok (.aload_n 0, 1) := by decide +kernel
theorem dc_M_letter_66 : decode bc_M_letter 66 = .ok (.getfield 44, 3) := by decide +kernel
theorem dc_M_letter_69 : decode bc_M_letter 69 = .ok (.aload_n 0, 1) := by decide +kernel
theorem dc_M_letter_70 : decode bc_M_letter 70 = .ok (.iload_n 1, 1) := by decide +kernel
theorem dc_M_letter_71 : decode bc_M_letter 71 = .ok (.iload_n 3, 1) := by decide +kernel
theorem dc_M_letter_72 : decode bc_M_letter 72 = .ok (.iload 5, 2) := by decide +kernel
theorem dc_M_letter_74 : decode bc_M_letter 74 = .ok (.invokevirtual 61, 3) := by decide +kernel
theorem dc_M_letter_77 : decode bc_M_letter 77 = .ok (.iaload, 1) := by decide +kernel
theorem dc_M_letter_78 : decode bc_M_letter 78 = .ok (.aload_n 0, 1) := by decide +kernel
theorem dc_M_letter_79 : decode bc_M_letter 79 = .ok (.getfield 44, 3) := by decide +kernel
theorem dc_M_letter_82 : decode bc_M_letter 82 = .ok (.iload_n 3, 1) := by decide +kernel
theorem dc_M_letter_83 : decode bc_M_letter 83 = .ok (.iaload, 1) := by decide +kernel
theorem dc_M_letter_84 : decode bc_M_letter 84 = .ok (.iconst 1, 1) := by decide +kernel
theorem dc_M_letter_85 : decode bc_M_letter 85 = .ok (.isub, 1) := by decide +kernel
theorem dc_M_letter_86 : decode bc_M_letter 86 = .ok (.if_icmp .eq 9, 3) := by decide +kernel
theorem dc_M_letter_89 : decode bc_M_letter 89 = .ok (.iinc 5 1, 3) := by decide +kernel
theorem dc_M_letter_92 : decode bc_M_letter 92 = .ok (.goto (-27), 3) := by decide +kernel
theorem dc_M_letter_95 : decode bc_M_letter 95 = .ok (.iload 4, 2) := by decide +kernel
theorem dc_M_letter_97 : decode bc_M_letter 97 = .ok (.iload_n 2, 1) := by decide +kernel
theorem dc_M_letter_98 : decode bc_M_letter 98 = .ok (.if_icmp .ne 6, 3) := by decide +kernel
theorem dc_M_letter_101 : decode bc_M_letter 101 = .ok (.iload 5, 2) := by decide +kernel
theorem dc_M_letter_103 : decode bc_M_letter 103 = .ok (.ireturn, 1) := by decide +kernel
theorem dc_M_letter_104 : decode bc_M_letter 104 = .ok (.aload_n 0, 1) := by decide +kernel
theorem dc_M_letter_105 : decode bc_M_letter 105 = .ok (.iload_n 1, 1) := by decide +kernel
theorem dc_M_letter_106 : decode bc_M_letter 106 = .ok (.iload_n 3, 1) := by decide +kernel
theorem dc_M_letter_107 : decode bc_M_letter 107 = .ok (.iload 5, 2) := by decide +kernel
theorem dc_M_letter_109 : decode bc_M_letter 109 = .ok (.invokevirtual 61, 3) := by decide +kernel
theorem dc_M_letter_112 : decode bc_M_letter 112 = .ok (.istore_n 3, 1) := by decide +kernel
theorem dc_M_letter_113 : decode bc_M_letter 113 = .ok (.iinc 4 1, 3) := by decide +kernel
theorem dc_M_letter_116 : decode bc_M_letter 116 = .ok (.goto (-54), 3) := by decide +kernel
theorem dc_M_size_0 : decode bc_M_size 0 = .ok (.aload_n 0, 1) := by decide +kernel
theorem dc_M_size_1 : decode bc_M_size 1 = .ok (.aload_n 0, 1) := by decide +kernel
theorem dc_M_size_2 : decode bc_M_size 2 = .ok (.iload_n 1, 1) := by decide +kernel
theorem dc_M_size_3 : decode bc_M_size 3 = .ok (.invokevirtual 115, 3) := by decide +kernel
theorem dc_M_size_6 : decode bc_M_size 6 = .ok (.ifCond .eq 7, 3) := by decide +kernel
theorem dc_M_size_9 : decode bc_M_size 9 = .ok (.iconst 0, 1) := by decide +kernel
theorem dc_M_size_10 : decode bc_M_size 10 = .ok (.goto 4, 3) := by decide +kernel
theorem dc_M_size_13 : decode bc_M_size 13 = .ok (.iconst 1, 1) := by decide +kernel
theorem dc_M_size_14 : decode bc_M_size 14 = .ok (.putfield 54, 3) := by decide +kernel
theorem dc_M_size_17 : decode bc_M_size 17 = .ok (.aload_n 0, 1) := by decide +kernel
theorem dc_M_size_18 : decode bc_M_size 18 = .ok (.getfield 54, 3) := by decide +kernel
theorem dc_M_size_21 : decode bc_M_size 21 = .ok (.ifCond .le 5, 3) := by decide +kernel
theorem dc_M_size_24 : decode bc_M_size 24 = .ok (.iconst 0, 1) := by decide +kernel
theorem dc_M_size_25 : decode bc_M_size 25 = .ok (.ireturn, 1) := by decide +kernel
theorem dc_M_size_26 : decode bc_M_size 26 = .ok (.lconst 0, 1) := by decide +kernel
theorem dc_M_size_27 : decode bc_M_size 27 = .ok (.lstore_n 2, 1) := by decide +kernel
theorem dc_M_size_28 : decode bc_M_size 28 = .ok (.iconst 0, 1) := by decide +kernel
theorem dc_M_size_29 : decode bc_M_size 29 = .ok (.istore 4, 2) := by decide +kernel
theorem dc_M_size_31 : decode bc_M_size 31 = .ok (.iload 4, 2) := by decide +kernel
theorem dc_M_size_33 : decode bc_M_size 33 = .ok (.bipush 20, 2) := by decide +kernel
theorem dc_M_size_35 : decode bc_M_size 35 = .ok (.if_icmp .ge 39, 3) := by decide +kernel
theorem dc_M_size_38 : decode bc_M_size 38 = .ok (.aload_n 0, 1) := by decide +kernel
theorem dc_M_size_39 : decode bc_M_size 39 = .ok (.iload_n 1, 1) := by decide +kernel
theorem dc_M_size_40 : decode bc_M_size 40 = .ok (.iload 4, 2) := by decide +kernel
theorem dc_M_size_42 : decode bc_M_size 42 = .ok (.invokevirtual 128, 3) := by decide +kernel
theorem dc_M_size_45 : decode bc_M_size 45 = .ok (.lstore 5, 2) := by decide +kernel
theorem dc_M_size_47 : decode bc_M_size 47 = .ok (.iload 4, 2) := by decide +kernel
theorem dc_M_size_49 : decode bc_M_size 49 = .ok (.bipush 10, 2) := by decide +kernel
theorem dc_M_size_51 : decode bc_M_size 51 = .ok (.if_icmp .lt 12, 3) := by decide +kernel
theorem dc_M_size_54 : decode bc_M_size 54 = .ok (.lload 5, 2) := by decide +kernel
theorem dc_M_size_56 : decode bc_M_size 56 = .ok (.lconst 0, 1) := by decide +kernel
theorem dc_M_size_57 : decode bc_M_size 57 = .ok (.lcmp, 1) := by decide +kernel
theorem dc_M_size_58 : decode bc_M_size 58 = .ok (.ifCond .le 5, 3) := by decide +kernel
theorem dc_M_size_61 : decode bc_M_size 61 = .ok (.iconst (-1), 1) := by decide +kernel
theorem dc_M_size_62 : decode bc_M_size 62 = .ok (.ireturn, 1) := by decide +kernel
theorem dc_M_size_63 : decode bc_M_size 63 = .ok (.lload_n 2, 1) := by decide +kernel
theorem dc_M_size_64 : decode bc_M_size 64 = .ok (.lload 5, 2) := by decide +kernel
theorem dc_M_size_66 : decode bc_M_size 66 = .ok (.ladd, 1) := by decide +kernel
theorem dc_M_size_67 : decode bc_M_size 67 = .ok (.lstore_n 2, 1) := by decide +kernel
theorem dc_M_size_68 : decode bc_M_size 68 = .ok (.iinc 4 1, 3) := by decide +kernel
theorem dc_M_size_71 : decode bc_M_size 71 = .ok (.goto (-40), 3) := by decide +kernel
theorem dc_M_size_74 : decode bc_M_size 74 = .ok (.lload_n 2, 1) := by decide +kernel
theorem dc_M_size_75 : decode bc_M_size 75 = .ok (.ldc2_w 132, 3) := by decide +kernel
theorem dc_M_size_78 : decode bc_M_size 78 = .ok (.lcmp, 1) := by decide +kernel
theorem dc_M_size_79 : decode bc_M_size 79 = .ok (.ifCond .le 8, 3) := by decide +kernel
theorem dc_M_size_82 : decode bc_M_size 82 = .ok (.bipush (-2), 2) := by decide +kernel
theorem dc_M_size_84 : decode bc_M_size 84 = .ok (.goto 5, 3) := by decide +kernel
theorem dc_M_size_87 : decode bc_M_size 87 = .ok (.lload_n 2, 1) := by decide +kernel
theorem dc_M_size_88 : decode bc_M_size 88 = .ok (.l2i, 1) := by decide +kernel
theorem dc_M_size_89 : decode bc_M_size 89 = .ok (.ireturn, 1) := by decide +kernel
theorem dc_M_count_0 : decode bc_M_count 0 = .ok (.aload_n 0, 1) := by decide +kernel
theorem dc_M_count_1 : decode bc_M_count 1 = .ok (.iconst 0, 1) := by decide +kernel
theorem dc_M_count_2 : decode bc_M_count 2 = .ok (.putfield 54, 3) := by decide +kernel
theorem dc_M_count_5 : decode bc_M_count 5 = .ok (.aload_n 0, 1) := by decide +kernel
theorem dc_M_count_6 : decode bc_M_count 6 = .ok (.getfield 58, 3) := by decide +kernel
theorem dc_M_count_9 : decode bc_M_count 9 = .ok (.ireturn, 1) := by decide +kernel
