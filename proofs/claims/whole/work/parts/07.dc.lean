theorem dL_peak_12 : decode mL_peak.2.1 12 = .ok (.iconst 1, 1) := by decide +kernel
theorem dL_peak_13 : decode mL_peak.2.1 13 = .ok (.ireturn, 1) := by decide +kernel
theorem dL_peak_14 : decode mL_peak.2.1 14 = .ok (.iconst 0, 1) := by decide +kernel
theorem dL_peak_15 : decode mL_peak.2.1 15 = .ok (.ireturn, 1) := by decide +kernel
theorem dT_peak_0 : decode mT_peak.2.1 0 = .ok (.aload_n 0, 1) := by decide +kernel
theorem dT_peak_1 : decode mT_peak.2.1 1 = .ok (.invokevirtual 163, 3) := by decide +kernel
theorem dT_peak_4 : decode mT_peak.2.1 4 = .ok (.aload_n 0, 1) := by decide +kernel
theorem dT_peak_5 : decode mT_peak.2.1 5 = .ok (.getfield 12, 3) := by decide +kernel
theorem dT_peak_8 : decode mT_peak.2.1 8 = .ok (.getfield 166, 3) := by decide +kernel
theorem dT_peak_11 : decode mT_peak.2.1 11 = .ok (.ireturn, 1) := by decide +kernel
theorem dR_init_0 : decode mR_init.2.1 0 = .ok (.aload_n 0, 1) := by decide +kernel
theorem dR_init_1 : decode mR_init.2.1 1 = .ok (.invokespecial 1, 3) := by decide +kernel
theorem dR_init_4 : decode mR_init.2.1 4 = .ok (.aload_n 0, 1) := by decide +kernel
theorem dR_init_5 : decode mR_init.2.1 5 = .ok (.sipush 512, 3) := by decide +kernel
theorem dR_init_8 : decode mR_init.2.1 8 = .ok (.newarray .int, 2) := by decide +kernel
theorem dR_init_10 : decode mR_init.2.1 10 = .ok (.putfield 7, 3) := by decide +kernel
theorem dR_init_13 : decode mR_init.2.1 13 = .ok (.aload_n 0, 1) := by decide +kernel
theorem dR_init_14 : decode mR_init.2.1 14 = .ok (.dconst 1, 1) := by decide +kernel
theorem dR_init_15 : decode mR_init.2.1 15 = .ok (.putfield 13, 3) := by decide +kernel
theorem dR_init_18 : decode mR_init.2.1 18 = .ok (.aload_n 0, 1) := by decide +kernel
theorem dR_init_19 : decode mR_init.2.1 19 = .ok (.bipush 14, 2) := by decide +kernel
theorem dR_init_21 : decode mR_init.2.1 21 = .ok (.newarray .int, 2) := by decide +kernel
theorem dR_init_23 : decode mR_init.2.1 23 = .ok (.putfield 17, 3) := by decide +kernel
theorem dR_init_26 : decode mR_init.2.1 26 = .ok (.aload_n 0, 1) := by decide +kernel
theorem dR_init_27 : decode mR_init.2.1 27 = .ok (.bipush 14, 2) := by decide +kernel
theorem dR_init_29 : decode mR_init.2.1 29 = .ok (.newarray .int, 2) := by decide +kernel
theorem dR_init_31 : decode mR_init.2.1 31 = .ok (.putfield 20, 3) := by decide +kernel
theorem dR_init_34 : decode mR_init.2.1 34 = .ok (.aload_n 0, 1) := by decide +kernel
theorem dR_init_35 : decode mR_init.2.1 35 = .ok (.bipush 14, 2) := by decide +kernel
theorem dR_init_37 : decode mR_init.2.1 37 = .ok (.newarray .int, 2) := by decide +kernel
theorem dR_init_39 : decode mR_init.2.1 39 = .ok (.putfield 23, 3) := by decide +kernel
theorem dR_init_42 : decode mR_init.2.1 42 = .ok (.aload_n 0, 1) := by decide +kernel
theorem dR_init_43 : decode mR_init.2.1 43 = .ok (.bipush 14, 2) := by decide +kernel
theorem dR_init_45 : decode mR_init.2.1 45 = .ok (.newarray .int, 2) := by decide +kernel
theorem dR_init_47 : decode mR_init.2.1 47 = .ok (.putfield 26, 3) := by decide +kernel
theorem dR_init_50 : decode mR_init.2.1 50 = .ok (.aload_n 0, 1) := by decide +kernel
theorem dR_init_51 : decode mR_init.2.1 51 = .ok (.bipush 14, 2) := by decide +kernel
theorem dR_init_53 : decode mR_init.2.1 53 = .ok (.newarray .int, 2) := by decide +kernel
theorem dR_init_55 : decode mR_init.2.1 55 = .ok (.putfield 29, 3) := by decide +kernel
theorem dR_init_58 : decode mR_init.2.1 58 = .ok (.aload_n 0, 1) := by decide +kernel
theorem dR_init_59 : decode mR_init.2.1 59 = .ok (.bipush 14, 2) := by decide +kernel
theorem dR_init_61 : decode mR_init.2.1 61 = .ok (.newarray .int, 2) := by decide +kernel
theorem dR_init_63 : decode mR_init.2.1 63 = .ok (.putfield 32, 3) := by decide +kernel
theorem dR_init_66 : decode mR_init.2.1 66 = .ok (.aload_n 0, 1) := by decide +kernel
theorem dR_init_67 : decode mR_init.2.1 67 = .ok (.bipush 14, 2) := by decide +kernel
theorem dR_init_69 : decode mR_init.2.1 69 = .ok (.newarray .double, 2) := by decide +kernel
theorem dR_init_71 : decode mR_init.2.1 71 = .ok (.putfield 35, 3) := by decide +kernel
theorem dR_init_74 : decode mR_init.2.1 74 = .ok (.aload_n 0, 1) := by decide +kernel
theorem dR_init_75 : decode mR_init.2.1 75 = .ok (.bipush 14, 2) := by decide +kernel
theorem dR_init_77 : decode mR_init.2.1 77 = .ok (.newarray .double, 2) := by decide +kernel
theorem dR_init_79 : decode mR_init.2.1 79 = .ok (.putfield 39, 3) := by decide +kernel
theorem dR_init_82 : decode mR_init.2.1 82 = .ok (.aload_n 0, 1) := by decide +kernel
theorem dR_init_83 : decode mR_init.2.1 83 = .ok (.bipush 14, 2) := by decide +kernel
theorem dR_init_85 : decode mR_init.2.1 85 = .ok (.newarray .int, 2) := by decide +kernel
theorem dR_init_87 : decode mR_init.2.1 87 = .ok (.putfield 42, 3) := by decide +kernel
theorem dR_init_90 : decode mR_init.2.1 90 = .ok (.aload_n 0, 1) := by decide +kernel
theorem dR_init_91 : decode mR_init.2.1 91 = .ok (.bipush 14, 2) := by decide +kernel
theorem dR_init_93 : decode mR_init.2.1 93 = .ok (.newarray .int, 2) := by decide +kernel
theorem dR_init_95 : decode mR_init.2.1 95 = .ok (.putfield 45, 3) := by decide +kernel
theorem dR_init_98 : decode mR_init.2.1 98 = .ok (.aload_n 0, 1) := by decide +kernel
theorem dR_init_99 : decode mR_init.2.1 99 = .ok (.bipush 14, 2) := by decide +kernel
theorem dR_init_101 : decode mR_init.2.1 101 = .ok (.newarray .int, 2) := by decide +kernel
theorem dR_init_103 : decode mR_init.2.1 103 = .ok (.putfield 48, 3) := by decide +kernel
theorem dR_init_106 : decode mR_init.2.1 106 = .ok (.aload_n 0, 1) := by decide +kernel
theorem dR_init_107 : decode mR_init.2.1 107 = .ok (.bipush 14, 2) := by decide +kernel
theorem dR_init_109 : decode mR_init.2.1 109 = .ok (.newarray .int, 2) := by decide +kernel
theorem dR_init_111 : decode mR_init.2.1 111 = .ok (.putfield 51, 3) := by decide +kernel
theorem dR_init_114 : decode mR_init.2.1 114 = .ok (.aload_n 0, 1) := by decide +kernel
theorem dR_init_115 : decode mR_init.2.1 115 = .ok (.sipush 1792, 3) := by decide +kernel
theorem dR_init_118 : decode mR_init.2.1 118 = .ok (.newarray .int, 2) := by decide +kernel
theorem dR_init_120 : decode mR_init.2.1 120 = .ok (.putfield 54, 3) := by decide +kernel
theorem dR_init_123 : decode mR_init.2.1 123 = .ok (.aload_n 0, 1) := by decide +kernel
theorem dR_init_124 : decode mR_init.2.1 124 = .ok (.sipush 1792, 3) := by decide +kernel
theorem dR_init_127 : decode mR_init.2.1 127 = .ok (.newarray .int, 2) := by decide +kernel
theorem dR_init_129 : decode mR_init.2.1 129 = .ok (.putfield 57, 3) := by decide +kernel
theorem dR_init_132 : decode mR_init.2.1 132 = .ok (.aload_n 0, 1) := by decide +kernel
theorem dR_init_133 : decode mR_init.2.1 133 = .ok (.iconst (-1), 1) := by decide +kernel
theorem dR_init_134 : decode mR_init.2.1 134 = .ok (.putfield 60, 3) := by decide +kernel
theorem dR_init_137 : decode mR_init.2.1 137 = .ok (.aload_n 0, 1) := by decide +kernel
theorem dR_init_138 : decode mR_init.2.1 138 = .ok (.bipush 14, 2) := by decide +kernel
theorem dR_init_140 : decode mR_init.2.1 140 = .ok (.newarray .int, 2) := by decide +kernel
theorem dR_init_142 : decode mR_init.2.1 142 = .ok (.putfield 64, 3) := by decide +kernel
theorem dR_init_145 : decode mR_init.2.1 145 = .ok (.aload_n 0, 1) := by decide +kernel
theorem dR_init_146 : decode mR_init.2.1 146 = .ok (.bipush 14, 2) := by decide +kernel
theorem dR_init_148 : decode mR_init.2.1 148 = .ok (.newarray .int, 2) := by decide +kernel
theorem dR_init_150 : decode mR_init.2.1 150 = .ok (.putfield 67, 3) := by decide +kernel
theorem dR_init_153 : decode mR_init.2.1 153 = .ok (.aload_n 0, 1) := by decide +kernel
theorem dR_init_154 : decode mR_init.2.1 154 = .ok (.bipush 14, 2) := by decide +kernel
theorem dR_init_156 : decode mR_init.2.1 156 = .ok (.newarray .int, 2) := by decide +kernel
theorem dR_init_158 : decode mR_init.2.1 158 = .ok (.putfield 70, 3) := by decide +kernel
theorem dR_init_161 : decode mR_init.2.1 161 = .ok (.aload_n 0, 1) := by decide +kernel
theorem dR_init_162 : decode mR_init.2.1 162 = .ok (.bipush 14, 2) := by decide +kernel
theorem dR_init_164 : decode mR_init.2.1 164 = .ok (.newarray .int, 2) := by decide +kernel
theorem dR_init_166 : decode mR_init.2.1 166 = .ok (.putfield 73, 3) := by decide +kernel
theorem dR_init_169 : decode mR_init.2.1 169 = .ok (.aload_n 0, 1) := by decide +kernel
theorem dR_init_170 : decode mR_init.2.1 170 = .ok (.bipush 14, 2) := by decide +kernel
theorem dR_init_172 : decode mR_init.2.1 172 = .ok (.newarray .int, 2) := by decide +kernel
theorem dR_init_174 : decode mR_init.2.1 174 = .ok (.putfield 76, 3) := by decide +kernel
theorem dR_init_177 : decode mR_init.2.1 177 = .ok (.aload_n 0, 1) := by decide +kernel
theorem dR_init_178 : decode mR_init.2.1 178 = .ok (.sipush 1792, 3) := by decide +kernel
theorem dR_init_181 : decode mR_init.2.1 181 = .ok (.newarray .int, 2) := by decide +kernel
theorem dR_init_183 : decode mR_init.2.1 183 = .ok (.putfield 79, 3) := by decide +kernel
theorem dR_init_186 : decode mR_init.2.1 186 = .ok (.aload_n 0, 1) := by decide +kernel
theorem dR_init_187 : decode mR_init.2.1 187 = .ok (.sipush 128, 3) := by decide +kernel
theorem dR_init_190 : decode mR_init.2.1 190 = .ok (.newarray .int, 2) := by decide +kernel
theorem dR_init_192 : decode mR_init.2.1 192 = .ok (.putfield 82, 3) := by decide +kernel
theorem dR_init_195 : decode mR_init.2.1 195 = .ok (.return_, 1) := by decide +kernel
theorem dR_thrown_0 : decode mR_thrown.2.1 0 = .ok (.aload_n 0, 1) := by decide +kernel
theorem dR_thrown_1 : decode mR_thrown.2.1 1 = .ok (.getfield 85, 3) := by decide +kernel
theorem dR_thrown_4 : decode mR_thrown.2.1 4 = .ok (.ireturn, 1) := by decide +kernel
theorem dR_weights_0 : decode mR_weights.2.1 0 = .ok (.aload_n 0, 1) := by decide +kernel
theorem dR_weights_1 : decode mR_weights.2.1 1 = .ok (.iconst 0, 1) := by decide +kernel
theorem dR_weights_2 : decode mR_weights.2.1 2 = .ok (.putfield 85, 3) := by decide +kernel
theorem dR_weights_5 : decode mR_weights.2.1 5 = .ok (.aload_n 0, 1) := by decide +kernel
theorem dR_weights_6 : decode mR_weights.2.1 6 = .ok (.iload_n 1, 1) := by decide +kernel
theorem dR_weights_7 : decode mR_weights.2.1 7 = .ok (.sipush 512, 3) := by decide +kernel
theorem dR_weights_10 : decode mR_weights.2.1 10 = .ok (.invokevirtual 94, 3) := by decide +kernel
theorem dR_weights_13 : decode mR_weights.2.1 13 = .ok (.ifCond .eq 9, 3) := by decide +kernel
theorem dR_weights_16 : decode mR_weights.2.1 16 = .ok (.aload_n 0, 1) := by decide +kernel
theorem dR_weights_17 : decode mR_weights.2.1 17 = .ok (.iconst 1, 1) := by decide +kernel
theorem dR_weights_18 : decode mR_weights.2.1 18 = .ok (.invokevirtual 98, 3) := by decide +kernel
theorem dR_weights_21 : decode mR_weights.2.1 21 = .ok (.ireturn, 1) := by decide +kernel
theorem dR_weights_22 : decode mR_weights.2.1 22 = .ok (.iconst 0, 1) := by decide +kernel
theorem dR_weights_23 : decode mR_weights.2.1 23 = .ok (.istore 4, 2) := by decide +kernel
theorem dR_weights_25 : decode mR_weights.2.1 25 = .ok (.iconst 0, 1) := by decide +kernel
theorem dR_weights_26 : decode mR_weights.2.1 26 = .ok (.istore 5, 2) := by decide +kernel
theorem dR_weights_28 : decode mR_weights.2.1 28 = .ok (.iload 5, 2) := by decide +kernel
theorem dR_weights_30 : decode mR_weights.2.1 30 = .ok (.bipush 8, 2) := by decide +kernel
theorem dR_weights_32 : decode mR_weights.2.1 32 = .ok (.if_icmp .ge 43, 3) := by decide +kernel
theorem dR_weights_35 : decode mR_weights.2.1 35 = .ok (.iload_n 1, 1) := by decide +kernel
theorem dR_weights_36 : decode mR_weights.2.1 36 = .ok (.iload 5, 2) := by decide +kernel
theorem dR_weights_38 : decode mR_weights.2.1 38 = .ok (.iadd, 1) := by decide +kernel
theorem dR_weights_39 : decode mR_weights.2.1 39 = .ok (.sipush 512, 3) := by decide +kernel
theorem dR_weights_42 : decode mR_weights.2.1 42 = .ok (.if_icmp .ge 33, 3) := by decide +kernel
theorem dR_weights_45 : decode mR_weights.2.1 45 = .ok (.aload_n 0, 1) := by decide +kernel
theorem dR_weights_46 : decode mR_weights.2.1 46 = .ok (.getfield 7, 3) := by decide +kernel
theorem dR_weights_49 : decode mR_weights.2.1 49 = .ok (.iload_n 1, 1) := by decide +kernel
theorem dR_weights_50 : decode mR_weights.2.1 50 = .ok (.iload 5, 2) := by decide +kernel
theorem dR_weights_52 : decode mR_weights.2.1 52 = .ok (.iadd, 1) := by decide +kernel
theorem dR_weights_53 : decode mR_weights.2.1 53 = .ok (.lload_n 2, 1) := by decide +kernel
theorem dR_weights_54 : decode mR_weights.2.1 54 = .ok (.bipush 56, 2) := by decide +kernel
theorem dR_weights_56 : decode mR_weights.2.1 56 = .ok (.bipush 8, 2) := by decide +kernel
theorem dR_weights_58 : decode mR_weights.2.1 58 = .ok (.iload 5, 2) := by decide +kernel
theorem dR_weights_60 : decode mR_weights.2.1 60 = .ok (.imul, 1) := by decide +kernel
theorem dR_weights_61 : decode mR_weights.2.1 61 = .ok (.isub, 1) := by decide +kernel
theorem dR_weights_62 : decode mR_weights.2.1 62 = .ok (.lshr, 1) := by decide +kernel
theorem dR_weights_63 : decode mR_weights.2.1 63 = .ok (.l2i, 1) := by decide +kernel
theorem dR_weights_64 : decode mR_weights.2.1 64 = .ok (.i2b, 1) := by decide +kernel
theorem dR_weights_65 : decode mR_weights.2.1 65 = .ok (.iastore, 1) := by decide +kernel
theorem dR_weights_66 : decode mR_weights.2.1 66 = .ok (.iinc 4 1, 3) := by decide +kernel
theorem dR_weights_69 : decode mR_weights.2.1 69 = .ok (.iinc 5 1, 3) := by decide +kernel
theorem dR_weights_72 : decode mR_weights.2.1 72 = .ok (.goto (-44), 3) := by decide +kernel
theorem dR_weights_75 : decode mR_weights.2.1 75 = .ok (.iload 4, 2) := by decide +kernel
theorem dR_weights_77 : decode mR_weights.2.1 77 = .ok (.ireturn, 1) := by decide +kernel
theorem dR_out_0 : decode mR_out.2.1 0 = .ok (.iload_n 1, 1) := by decide +kernel
theorem dR_out_1 : decode mR_out.2.1 1 = .ok (.ifCond .lt 8, 3) := by decide +kernel
theorem dR_out_4 : decode mR_out.2.1 4 = .ok (.iload_n 1, 1) := by decide +kernel
theorem dR_out_5 : decode mR_out.2.1 5 = .ok (.iload_n 2, 1) := by decide +kernel
theorem dR_out_6 : decode mR_out.2.1 6 = .ok (.if_icmp .lt 7, 3) := by decide +kernel
theorem dR_out_9 : decode mR_out.2.1 9 = .ok (.iconst 1, 1) := by decide +kernel
theorem dR_out_10 : decode mR_out.2.1 10 = .ok (.goto 4, 3) := by decide +kernel
theorem dR_out_13 : decode mR_out.2.1 13 = .ok (.iconst 0, 1) := by decide +kernel
theorem dR_out_14 : decode mR_out.2.1 14 = .ok (.ireturn, 1) := by decide +kernel
theorem dR_fail_0 : decode mR_fail.2.1 0 = .ok (.aload_n 0, 1) := by decide +kernel
theorem dR_fail_1 : decode mR_fail.2.1 1 = .ok (.iload_n 1, 1) := by decide +kernel
theorem dR_fail_2 : decode mR_fail.2.1 2 = .ok (.putfield 85, 3) := by decide +kernel
theorem dR_fail_5 : decode mR_fail.2.1 5 = .ok (.iconst 0, 1) := by decide +kernel
theorem dR_fail_6 : decode mR_fail.2.1 6 = .ok (.ireturn, 1) := by decide +kernel
theorem dR_weightScale_0 : decode mR_weightScale.2.1 0 = .ok (.aload_n 0, 1) := by decide +kernel
theorem dR_weightScale_1 : decode mR_weightScale.2.1 1 = .ok (.iconst 0, 1) := by decide +kernel
theorem dR_weightScale_2 : decode mR_weightScale.2.1 2 = .ok (.putfield 85, 3) := by decide +kernel
theorem dR_weightScale_5 : decode mR_weightScale.2.1 5 = .ok (.aload_n 0, 1) := by decide +kernel
theorem dR_weightScale_6 : decode mR_weightScale.2.1 6 = .ok (.dload_n 1, 1) := by decide +kernel
theorem dR_weightScale_7 : decode mR_weightScale.2.1 7 = .ok (.invokevirtual 102, 3) := by decide +kernel
theorem dR_weightScale_10 : decode mR_weightScale.2.1 10 = .ok (.ifCond .eq 11, 3) := by decide +kernel
theorem dR_weightScale_13 : decode mR_weightScale.2.1 13 = .ok (.aload_n 0, 1) := by decide +kernel
theorem dR_weightScale_14 : decode mR_weightScale.2.1 14 = .ok (.iconst 1, 1) := by decide +kernel
theorem dR_weightScale_15 : decode mR_weightScale.2.1 15 = .ok (.putfield 85, 3) := by decide +kernel
theorem dR_weightScale_18 : decode mR_weightScale.2.1 18 = .ok (.goto 8, 3) := by decide +kernel
theorem dR_weightScale_21 : decode mR_weightScale.2.1 21 = .ok (.aload_n 0, 1) := by decide +kernel
theorem dR_weightScale_22 : decode mR_weightScale.2.1 22 = .ok (.dload_n 1, 1) := by decide +kernel
theorem dR_weightScale_23 : decode mR_weightScale.2.1 23 = .ok (.putfield 13, 3) := by decide +kernel
theorem dR_weightScale_26 : decode mR_weightScale.2.1 26 = .ok (.return_, 1) := by decide +kernel
theorem dR_badScale_0 : decode mR_badScale.2.1 0 = .ok (.dload_n 1, 1) := by decide +kernel
theorem dR_badScale_1 : decode mR_badScale.2.1 1 = .ok (.dconst 0, 1) := by decide +kernel
theorem dR_badScale_2 : decode mR_badScale.2.1 2 = .ok (.dcmp .l, 1) := by decide +kernel
theorem dR_badScale_3 : decode mR_badScale.2.1 3 = .ok (.ifCond .le 11, 3) := by decide +kernel
theorem dR_badScale_6 : decode mR_badScale.2.1 6 = .ok (.dload_n 1, 1) := by decide +kernel
theorem dR_badScale_7 : decode mR_badScale.2.1 7 = .ok (.ldc2_w 88, 3) := by decide +kernel
theorem dR_badScale_10 : decode mR_badScale.2.1 10 = .ok (.dcmp .l, 1) := by decide +kernel
theorem dR_badScale_11 : decode mR_badScale.2.1 11 = .ok (.ifCond .le 7, 3) := by decide +kernel
theorem dR_badScale_14 : decode mR_badScale.2.1 14 = .ok (.iconst 1, 1) := by decide +kernel
theorem dR_badScale_15 : decode mR_badScale.2.1 15 = .ok (.goto 4, 3) := by decide +kernel
theorem dR_badScale_18 : decode mR_badScale.2.1 18 = .ok (.iconst 0, 1) := by decide +kernel
theorem dR_badScale_19 : decode mR_badScale.2.1 19 = .ok (.ireturn, 1) := by decide +kernel
theorem dR_input_0 : decode mR_input.2.1 0 = .ok (.aload_n 0, 1) := by decide +kernel
theorem dR_input_1 : decode mR_input.2.1 1 = .ok (.iconst 0, 1) := by decide +kernel
theorem dR_input_2 : decode mR_input.2.1 2 = .ok (.putfield 85, 3) := by decide +kernel
theorem dR_input_5 : decode mR_input.2.1 5 = .ok (.aload_n 0, 1) := by decide +kernel
theorem dR_input_6 : decode mR_input.2.1 6 = .ok (.iload_n 1, 1) := by decide +kernel
theorem dR_input_7 : decode mR_input.2.1 7 = .ok (.iconst 1, 1) := by decide +kernel
theorem dR_input_8 : decode mR_input.2.1 8 = .ok (.isub, 1) := by decide +kernel
theorem dR_input_9 : decode mR_input.2.1 9 = .ok (.iconst 4, 1) := by decide +kernel
theorem dR_input_10 : decode mR_input.2.1 10 = .ok (.invokevirtual 94, 3) := by decide +kernel
theorem dR_input_13 : decode mR_input.2.1 13 = .ok (.ifCond .ne 35, 3) := by decide +kernel
theorem dR_input_16 : decode mR_input.2.1 16 = .ok (.aload_n 0, 1) := by decide +kernel
theorem dR_input_17 : decode mR_input.2.1 17 = .ok (.iload_n 2, 1) := by decide +kernel
theorem dR_input_18 : decode mR_input.2.1 18 = .ok (.iconst 1, 1) := by decide +kernel
theorem dR_input_19 : decode mR_input.2.1 19 = .ok (.isub, 1) := by decide +kernel
theorem dR_input_20 : decode mR_input.2.1 20 = .ok (.iconst 4, 1) := by decide +kernel
theorem dR_input_21 : decode mR_input.2.1 21 = .ok (.invokevirtual 94, 3) := by decide +kernel
theorem dR_input_24 : decode mR_input.2.1 24 = .ok (.ifCond .ne 24, 3) := by decide +kernel
theorem dR_input_27 : decode mR_input.2.1 27 = .ok (.aload_n 0, 1) := by decide +kernel
theorem dR_input_28 : decode mR_input.2.1 28 = .ok (.iload_n 3, 1) := by decide +kernel
theorem dR_input_29 : decode mR_input.2.1 29 = .ok (.iconst 1, 1) := by decide +kernel
theorem dR_input_30 : decode mR_input.2.1 30 = .ok (.isub, 1) := by decide +kernel
theorem dR_input_31 : decode mR_input.2.1 31 = .ok (.bipush 8, 2) := by decide +kernel
theorem dR_input_33 : decode mR_input.2.1 33 = .ok (.invokevirtual 94, 3) := by decide +kernel
theorem dR_input_36 : decode mR_input.2.1 36 = .ok (.ifCond .ne 12, 3) := by decide +kernel
theorem dR_input_39 : decode mR_input.2.1 39 = .ok (.aload_n 0, 1) := by decide +kernel
theorem dR_input_40 : decode mR_input.2.1 40 = .ok (.dload 4, 2) := by decide +kernel
theorem dR_input_42 : decode mR_input.2.1 42 = .ok (.invokevirtual 102, 3) := by decide +kernel
theorem dR_input_45 : decode mR_input.2.1 45 = .ok (.ifCond .eq 9, 3) := by decide +kernel
theorem dR_input_48 : decode mR_input.2.1 48 = .ok (.aload_n 0, 1) := by decide +kernel
theorem dR_input_49 : decode mR_input.2.1 49 = .ok (.iconst 1, 1) := by decide +kernel
theorem dR_input_50 : decode mR_input.2.1 50 = .ok (.invokevirtual 98, 3) := by decide +kernel
theorem dR_input_53 : decode mR_input.2.1 53 = .ok (.ireturn, 1) := by decide +kernel
theorem dR_input_54 : decode mR_input.2.1 54 = .ok (.aload_n 0, 1) := by decide +kernel
theorem dR_input_55 : decode mR_input.2.1 55 = .ok (.getfield 106, 3) := by decide +kernel
theorem dR_input_58 : decode mR_input.2.1 58 = .ok (.bipush 14, 2) := by decide +kernel
theorem dR_input_60 : decode mR_input.2.1 60 = .ok (.if_icmp .ne 9, 3) := by decide +kernel
theorem dR_input_63 : decode mR_input.2.1 63 = .ok (.aload_n 0, 1) := by decide +kernel
theorem dR_input_64 : decode mR_input.2.1 64 = .ok (.iconst 2, 1) := by decide +kernel
theorem dR_input_65 : decode mR_input.2.1 65 = .ok (.invokevirtual 98, 3) := by decide +kernel
theorem dR_input_68 : decode mR_input.2.1 68 = .ok (.ireturn, 1) := by decide +kernel
theorem dR_input_69 : decode mR_input.2.1 69 = .ok (.aload_n 0, 1) := by decide +kernel
theorem dR_input_70 : decode mR_input.2.1 70 = .ok (.iconst 0, 1) := by decide +kernel
theorem dR_input_71 : decode mR_input.2.1 71 = .ok (.iconst (-1), 1) := by decide +kernel
theorem dR_input_72 : decode mR_input.2.1 72 = .ok (.iconst (-1), 1) := by decide +kernel
theorem dR_input_73 : decode mR_input.2.1 73 = .ok (.iload_n 1, 1) := by decide +kernel
theorem dR_input_74 : decode mR_input.2.1 74 = .ok (.iload_n 2, 1) := by decide +kernel
theorem dR_input_75 : decode mR_input.2.1 75 = .ok (.iload_n 3, 1) := by decide +kernel
theorem dR_input_76 : decode mR_input.2.1 76 = .ok (.dload 4, 2) := by decide +kernel
theorem dR_input_78 : decode mR_input.2.1 78 = .ok (.invokevirtual 113, 3) := by decide +kernel
theorem dR_input_81 : decode mR_input.2.1 81 = .ok (.pop, 1) := by decide +kernel
theorem dR_input_82 : decode mR_input.2.1 82 = .ok (.aload_n 0, 1) := by decide +kernel
theorem dR_input_83 : decode mR_input.2.1 83 = .ok (.iconst 0, 1) := by decide +kernel
theorem dR_input_84 : decode mR_input.2.1 84 = .ok (.iconst 0, 1) := by decide +kernel
theorem dR_input_85 : decode mR_input.2.1 85 = .ok (.iconst 0, 1) := by decide +kernel
theorem dR_input_86 : decode mR_input.2.1 86 = .ok (.iconst 0, 1) := by decide +kernel
theorem dR_input_87 : decode mR_input.2.1 87 = .ok (.invokevirtual 117, 3) := by decide +kernel
theorem dR_input_90 : decode mR_input.2.1 90 = .ok (.ireturn, 1) := by decide +kernel
theorem dR_make_0 : decode mR_make.2.1 0 = .ok (.aload_n 0, 1) := by decide +kernel
theorem dR_make_1 : decode mR_make.2.1 1 = .ok (.getfield 106, 3) := by decide +kernel
theorem dR_make_4 : decode mR_make.2.1 4 = .ok (.istore 9, 2) := by decide +kernel
theorem dR_make_6 : decode mR_make.2.1 6 = .ok (.aload_n 0, 1) := by decide +kernel
theorem dR_make_7 : decode mR_make.2.1 7 = .ok (.getfield 17, 3) := by decide +kernel
theorem dR_make_10 : decode mR_make.2.1 10 = .ok (.iload 9, 2) := by decide +kernel
theorem dR_make_12 : decode mR_make.2.1 12 = .ok (.iload_n 1, 1) := by decide +kernel
theorem dR_make_13 : decode mR_make.2.1 13 = .ok (.iastore, 1) := by decide +kernel
theorem dR_make_14 : decode mR_make.2.1 14 = .ok (.aload_n 0, 1) := by decide +kernel
theorem dR_make_15 : decode mR_make.2.1 15 = .ok (.getfield 20, 3) := by decide +kernel
theorem dR_make_18 : decode mR_make.2.1 18 = .ok (.iload 9, 2) := by decide +kernel
theorem dR_make_20 : decode mR_make.2.1 20 = .ok (.iload_n 2, 1) := by decide +kernel
theorem dR_make_21 : decode mR_make.2.1 21 = .ok (.iastore, 1) := by decide +kernel
theorem dR_make_22 : decode mR_make.2.1 22 = .ok (.aload_n 0, 1) := by decide +kernel
theorem dR_make_23 : decode mR_make.2.1 23 = .ok (.getfield 23, 3) := by decide +kernel
theorem dR_make_26 : decode mR_make.2.1 26 = .ok (.iload 9, 2) := by decide +kernel
theorem dR_make_28 : decode mR_make.2.1 28 = .ok (.iload_n 3, 1) := by decide +kernel
theorem dR_make_29 : decode mR_make.2.1 29 = .ok (.iastore, 1) := by decide +kernel
theorem dR_make_30 : decode mR_make.2.1 30 = .ok (.aload_n 0, 1) := by decide +kernel
theorem dR_make_31 : decode mR_make.2.1 31 = .ok (.getfield 26, 3) := by decide +kernel
theorem dR_make_34 : decode mR_make.2.1 34 = .ok (.iload 9, 2) := by decide +kernel
theorem dR_make_36 : decode mR_make.2.1 36 = .ok (.iload 4, 2) := by decide +kernel
theorem dR_make_38 : decode mR_make.2.1 38 = .ok (.iastore, 1) := by decide +kernel
theorem dR_make_39 : decode mR_make.2.1 39 = .ok (.aload_n 0, 1) := by decide +kernel
theorem dR_make_40 : decode mR_make.2.1 40 = .ok (.getfield 29, 3) := by decide +kernel
theorem dR_make_43 : decode mR_make.2.1 43 = .ok (.iload 9, 2) := by decide +kernel
theorem dR_make_45 : decode mR_make.2.1 45 = .ok (.iload 5, 2) := by decide +kernel
theorem dR_make_47 : decode mR_make.2.1 47 = .ok (.iastore, 1) := by decide +kernel
theorem dR_make_48 : decode mR_make.2.1 48 = .ok (.aload_n 0, 1) := by decide +kernel
theorem dR_make_49 : decode mR_make.2.1 49 = .ok (.getfield 32, 3) := by decide +kernel
theorem dR_make_52 : decode mR_make.2.1 52 = .ok (.iload 9, 2) := by decide +kernel
theorem dR_make_54 : decode mR_make.2.1 54 = .ok (.iload 6, 2) := by decide +kernel
theorem dR_make_56 : decode mR_make.2.1 56 = .ok (.iastore, 1) := by decide +kernel
theorem dR_make_57 : decode mR_make.2.1 57 = .ok (.aload_n 0, 1) := by decide +kernel
theorem dR_make_58 : decode mR_make.2.1 58 = .ok (.getfield 35, 3) := by decide +kernel
theorem dR_make_61 : decode mR_make.2.1 61 = .ok (.iload 9, 2) := by decide +kernel
theorem dR_make_63 : decode mR_make.2.1 63 = .ok (.dload 7, 2) := by decide +kernel
theorem dR_make_65 : decode mR_make.2.1 65 = .ok (.dastore, 1) := by decide +kernel
theorem dR_make_66 : decode mR_make.2.1 66 = .ok (.aload_n 0, 1) := by decide +kernel
theorem dR_make_67 : decode mR_make.2.1 67 = .ok (.getfield 39, 3) := by decide +kernel
theorem dR_make_70 : decode mR_make.2.1 70 = .ok (.iload 9, 2) := by decide +kernel
theorem dR_make_72 : decode mR_make.2.1 72 = .ok (.iload_n 1, 1) := by decide +kernel
theorem dR_make_73 : decode mR_make.2.1 73 = .ok (.iconst 1, 1) := by decide +kernel
theorem dR_make_74 : decode mR_make.2.1 74 = .ok (.if_icmp .lt 15, 3) := by decide +kernel
theorem dR_make_77 : decode mR_make.2.1 77 = .ok (.iload_n 1, 1) := by decide +kernel
theorem dR_make_78 : decode mR_make.2.1 78 = .ok (.iconst 3, 1) := by decide +kernel
theorem dR_make_79 : decode mR_make.2.1 79 = .ok (.if_icmp .gt 10, 3) := by decide +kernel
theorem dR_make_82 : decode mR_make.2.1 82 = .ok (.aload_n 0, 1) := by decide +kernel
theorem dR_make_83 : decode mR_make.2.1 83 = .ok (.getfield 13, 3) := by decide +kernel
theorem dR_make_86 : decode mR_make.2.1 86 = .ok (.goto 4, 3) := by decide +kernel
theorem dR_make_89 : decode mR_make.2.1 89 = .ok (.dconst 0, 1) := by decide +kernel
theorem dR_make_90 : decode mR_make.2.1 90 = .ok (.dastore, 1) := by decide +kernel
theorem dR_make_91 : decode mR_make.2.1 91 = .ok (.aload_n 0, 1) := by decide +kernel
theorem dR_make_92 : decode mR_make.2.1 92 = .ok (.getfield 42, 3) := by decide +kernel
theorem dR_make_95 : decode mR_make.2.1 95 = .ok (.iload 9, 2) := by decide +kernel
theorem dR_make_97 : decode mR_make.2.1 97 = .ok (.iconst 0, 1) := by decide +kernel
theorem dR_make_98 : decode mR_make.2.1 98 = .ok (.iastore, 1) := by decide +kernel
theorem dR_make_99 : decode mR_make.2.1 99 = .ok (.iload 9, 2) := by decide +kernel
theorem dR_make_101 : decode mR_make.2.1 101 = .ok (.ireturn, 1) := by decide +kernel
theorem dR_finish_0 : decode mR_finish.2.1 0 = .ok (.aload_n 0, 1) := by decide +kernel
theorem dR_finish_1 : decode mR_finish.2.1 1 = .ok (.getfield 42, 3) := by decide +kernel
theorem dR_finish_4 : decode mR_finish.2.1 4 = .ok (.aload_n 0, 1) := by decide +kernel
theorem dR_finish_5 : decode mR_finish.2.1 5 = .ok (.getfield 106, 3) := by decide +kernel
theorem dR_finish_8 : decode mR_finish.2.1 8 = .ok (.iload_n 1, 1) := by decide +kernel
theorem dR_finish_9 : decode mR_finish.2.1 9 = .ok (.iastore, 1) := by decide +kernel
theorem dR_finish_10 : decode mR_finish.2.1 10 = .ok (.aload_n 0, 1) := by decide +kernel
theorem dR_finish_11 : decode mR_finish.2.1 11 = .ok (.getfield 45, 3) := by decide +kernel
theorem dR_finish_14 : decode mR_finish.2.1 14 = .ok (.aload_n 0, 1) := by decide +kernel
theorem dR_finish_15 : decode mR_finish.2.1 15 = .ok (.getfield 106, 3) := by decide +kernel
theorem dR_finish_18 : decode mR_finish.2.1 18 = .ok (.iload_n 2, 1) := by decide +kernel
theorem dR_finish_19 : decode mR_finish.2.1 19 = .ok (.iastore, 1) := by decide +kernel
theorem dR_finish_20 : decode mR_finish.2.1 20 = .ok (.aload_n 0, 1) := by decide +kernel
theorem dR_finish_21 : decode mR_finish.2.1 21 = .ok (.getfield 48, 3) := by decide +kernel
theorem dR_finish_24 : decode mR_finish.2.1 24 = .ok (.aload_n 0, 1) := by decide +kernel
theorem dR_finish_25 : decode mR_finish.2.1 25 = .ok (.getfield 106, 3) := by decide +kernel
theorem dR_finish_28 : decode mR_finish.2.1 28 = .ok (.iload_n 3, 1) := by decide +kernel
theorem dR_finish_29 : decode mR_finish.2.1 29 = .ok (.iastore, 1) := by decide +kernel
theorem dR_finish_30 : decode mR_finish.2.1 30 = .ok (.aload_n 0, 1) := by decide +kernel
theorem dR_finish_31 : decode mR_finish.2.1 31 = .ok (.getfield 51, 3) := by decide +kernel
theorem dR_finish_34 : decode mR_finish.2.1 34 = .ok (.aload_n 0, 1) := by decide +kernel
theorem dR_finish_35 : decode mR_finish.2.1 35 = .ok (.getfield 106, 3) := by decide +kernel
theorem dR_finish_38 : decode mR_finish.2.1 38 = .ok (.iload 4, 2) := by decide +kernel
theorem dR_finish_40 : decode mR_finish.2.1 40 = .ok (.iastore, 1) := by decide +kernel
theorem dR_finish_41 : decode mR_finish.2.1 41 = .ok (.iconst 0, 1) := by decide +kernel
theorem dR_finish_42 : decode mR_finish.2.1 42 = .ok (.istore 5, 2) := by decide +kernel
theorem dR_finish_44 : decode mR_finish.2.1 44 = .ok (.iload 5, 2) := by decide +kernel
theorem dR_finish_46 : decode mR_finish.2.1 46 = .ok (.sipush 128, 3) := by decide +kernel
theorem dR_finish_49 : decode mR_finish.2.1 49 = .ok (.if_icmp .ge 26, 3) := by decide +kernel
theorem dR_finish_52 : decode mR_finish.2.1 52 = .ok (.aload_n 0, 1) := by decide +kernel
theorem dR_finish_53 : decode mR_finish.2.1 53 = .ok (.getfield 57, 3) := by decide +kernel
theorem dR_finish_56 : decode mR_finish.2.1 56 = .ok (.sipush 128, 3) := by decide +kernel
theorem dR_finish_59 : decode mR_finish.2.1 59 = .ok (.aload_n 0, 1) := by decide +kernel
theorem dR_finish_60 : decode mR_finish.2.1 60 = .ok (.getfield 106, 3) := by decide +kernel
theorem dR_finish_63 : decode mR_finish.2.1 63 = .ok (.imul, 1) := by decide +kernel
theorem dR_finish_64 : decode mR_finish.2.1 64 = .ok (.iload 5, 2) := by decide +kernel
theorem dR_finish_66 : decode mR_finish.2.1 66 = .ok (.iadd, 1) := by decide +kernel
theorem dR_finish_67 : decode mR_finish.2.1 67 = .ok (.iconst 0, 1) := by decide +kernel
theorem dR_finish_68 : decode mR_finish.2.1 68 = .ok (.iastore, 1) := by decide +kernel
theorem dR_finish_69 : decode mR_finish.2.1 69 = .ok (.iinc 5 1, 3) := by decide +kernel
theorem dR_finish_72 : decode mR_finish.2.1 72 = .ok (.goto (-28), 3) := by decide +kernel
theorem dR_finish_75 : decode mR_finish.2.1 75 = .ok (.aload_n 0, 1) := by decide +kernel
theorem dR_finish_76 : decode mR_finish.2.1 76 = .ok (.dup, 1) := by decide +kernel
theorem dR_finish_77 : decode mR_finish.2.1 77 = .ok (.getfield 106, 3) := by decide +kernel
theorem dR_finish_80 : decode mR_finish.2.1 80 = .ok (.iconst 1, 1) := by decide +kernel
theorem dR_finish_81 : decode mR_finish.2.1 81 = .ok (.iadd, 1) := by decide +kernel
theorem dR_finish_82 : decode mR_finish.2.1 82 = .ok (.putfield 106, 3) := by decide +kernel
theorem dR_finish_85 : decode mR_finish.2.1 85 = .ok (.aload_n 0, 1) := by decide +kernel
theorem dR_finish_86 : decode mR_finish.2.1 86 = .ok (.iconst 0, 1) := by decide +kernel
theorem dR_finish_87 : decode mR_finish.2.1 87 = .ok (.putfield 109, 3) := by decide +kernel
theorem dR_finish_90 : decode mR_finish.2.1 90 = .ok (.aload_n 0, 1) := by decide +kernel
theorem dR_finish_91 : decode mR_finish.2.1 91 = .ok (.getfield 106, 3) := by decide +kernel
theorem dR_finish_94 : decode mR_finish.2.1 94 = .ok (.iconst 1, 1) := by decide +kernel
theorem dR_finish_95 : decode mR_finish.2.1 95 = .ok (.isub, 1) := by decide +kernel
theorem dR_finish_96 : decode mR_finish.2.1 96 = .ok (.ireturn, 1) := by decide +kernel
theorem dR_windows_0 : decode mR_windows.2.1 0 = .ok (.aload_n 0, 1) := by decide +kernel
theorem dR_windows_1 : decode mR_windows.2.1 1 = .ok (.iconst 0, 1) := by decide +kernel
theorem dR_windows_2 : decode mR_windows.2.1 2 = .ok (.putfield 85, 3) := by decide +kernel
theorem dR_windows_5 : decode mR_windows.2.1 5 = .ok (.aload_n 0, 1) := by decide +kernel
theorem dR_windows_6 : decode mR_windows.2.1 6 = .ok (.iload_n 1, 1) := by decide +kernel
theorem dR_windows_7 : decode mR_windows.2.1 7 = .ok (.aload_n 0, 1) := by decide +kernel
theorem dR_windows_8 : decode mR_windows.2.1 8 = .ok (.getfield 106, 3) := by decide +kernel
theorem dR_windows_11 : decode mR_windows.2.1 11 = .ok (.invokevirtual 94, 3) := by decide +kernel
theorem dR_windows_14 : decode mR_windows.2.1 14 = .ok (.ifCond .ne 41, 3) := by decide +kernel
theorem dR_windows_17 : decode mR_windows.2.1 17 = .ok (.aload_n 0, 1) := by decide +kernel
theorem dR_windows_18 : decode mR_windows.2.1 18 = .ok (.dload 5, 2) := by decide +kernel
theorem dR_windows_20 : decode mR_windows.2.1 20 = .ok (.invokevirtual 102, 3) := by decide +kernel
theorem dR_windows_23 : decode mR_windows.2.1 23 = .ok (.ifCond .ne 32, 3) := by decide +kernel
theorem dR_windows_26 : decode mR_windows.2.1 26 = .ok (.iload_n 2, 1) := by decide +kernel
theorem dR_windows_27 : decode mR_windows.2.1 27 = .ok (.ifCond .lt 28, 3) := by decide +kernel
theorem dR_windows_30 : decode mR_windows.2.1 30 = .ok (.iload_n 2, 1) := by decide +kernel
theorem dR_windows_31 : decode mR_windows.2.1 31 = .ok (.iload_n 3, 1) := by decide +kernel
theorem dR_windows_32 : decode mR_windows.2.1 32 = .ok (.ifCond .eq 8, 3) := by decide +kernel
theorem dR_windows_35 : decode mR_windows.2.1 35 = .ok (.bipush 12, 2) := by decide +kernel
theorem dR_windows_37 : decode mR_windows.2.1 37 = .ok (.goto 5, 3) := by decide +kernel
theorem dR_windows_40 : decode mR_windows.2.1 40 = .ok (.bipush 108, 2) := by decide +kernel
theorem dR_windows_42 : decode mR_windows.2.1 42 = .ok (.if_icmp .ge 13, 3) := by decide +kernel
theorem dR_windows_45 : decode mR_windows.2.1 45 = .ok (.iload_n 3, 1) := by decide +kernel
theorem dR_windows_46 : decode mR_windows.2.1 46 = .ok (.ifCond .ne 15, 3) := by decide +kernel
theorem dR_windows_49 : decode mR_windows.2.1 49 = .ok (.iload_n 2, 1) := by decide +kernel
theorem dR_windows_50 : decode mR_windows.2.1 50 = .ok (.bipush 12, 2) := by decide +kernel
theorem dR_windows_52 : decode mR_windows.2.1 52 = .ok (.if_icmp .ge 9, 3) := by decide +kernel
theorem dR_windows_55 : decode mR_windows.2.1 55 = .ok (.aload_n 0, 1) := by decide +kernel
theorem dR_windows_56 : decode mR_windows.2.1 56 = .ok (.iconst 1, 1) := by decide +kernel
theorem dR_windows_57 : decode mR_windows.2.1 57 = .ok (.invokevirtual 98, 3) := by decide +kernel
theorem dR_windows_60 : decode mR_windows.2.1 60 = .ok (.ireturn, 1) := by decide +kernel
theorem dR_windows_61 : decode mR_windows.2.1 61 = .ok (.iload_n 2, 1) := by decide +kernel
theorem dR_windows_62 : decode mR_windows.2.1 62 = .ok (.bipush 12, 2) := by decide +kernel
theorem dR_windows_64 : decode mR_windows.2.1 64 = .ok (.irem, 1) := by decide +kernel
theorem dR_windows_65 : decode mR_windows.2.1 65 = .ok (.istore 7, 2) := by decide +kernel
theorem dR_windows_67 : decode mR_windows.2.1 67 = .ok (.iload_n 3, 1) := by decide +kernel
theorem dR_windows_68 : decode mR_windows.2.1 68 = .ok (.ifCond .eq 12, 3) := by decide +kernel
theorem dR_windows_71 : decode mR_windows.2.1 71 = .ok (.aload_n 0, 1) := by decide +kernel
theorem dR_windows_72 : decode mR_windows.2.1 72 = .ok (.getfield 32, 3) := by decide +kernel
theorem dR_windows_75 : decode mR_windows.2.1 75 = .ok (.iload_n 1, 1) := by decide +kernel
theorem dR_windows_76 : decode mR_windows.2.1 76 = .ok (.iaload, 1) := by decide +kernel
theorem dR_windows_77 : decode mR_windows.2.1 77 = .ok (.goto 7, 3) := by decide +kernel
theorem dR_windows_80 : decode mR_windows.2.1 80 = .ok (.iload_n 2, 1) := by decide +kernel
theorem dR_windows_81 : decode mR_windows.2.1 81 = .ok (.bipush 12, 2) := by decide +kernel
theorem dR_windows_83 : decode mR_windows.2.1 83 = .ok (.idiv, 1) := by decide +kernel
theorem dR_windows_84 : decode mR_windows.2.1 84 = .ok (.istore 8, 2) := by decide +kernel
theorem dR_windows_86 : decode mR_windows.2.1 86 = .ok (.iload_n 3, 1) := by decide +kernel
theorem dR_windows_87 : decode mR_windows.2.1 87 = .ok (.ifCond .eq 25, 3) := by decide +kernel
theorem dR_windows_90 : decode mR_windows.2.1 90 = .ok (.iload 8, 2) := by decide +kernel
theorem dR_windows_92 : decode mR_windows.2.1 92 = .ok (.aload_n 0, 1) := by decide +kernel
theorem dR_windows_93 : decode mR_windows.2.1 93 = .ok (.iload 7, 2) := by decide +kernel
theorem dR_windows_95 : decode mR_windows.2.1 95 = .ok (.invokevirtual 124, 3) := by decide +kernel
theorem dR_windows_98 : decode mR_windows.2.1 98 = .ok (.imul, 1) := by decide +kernel
theorem dR_windows_99 : decode mR_windows.2.1 99 = .ok (.aload_n 0, 1) := by decide +kernel
theorem dR_windows_100 : decode mR_windows.2.1 100 = .ok (.iload 7, 2) := by decide +kernel
theorem dR_windows_102 : decode mR_windows.2.1 102 = .ok (.invokevirtual 124, 3) := by decide +kernel
theorem dR_windows_105 : decode mR_windows.2.1 105 = .ok (.imul, 1) := by decide +kernel
theorem dR_windows_106 : decode mR_windows.2.1 106 = .ok (.iload 8, 2) := by decide +kernel
theorem dR_windows_108 : decode mR_windows.2.1 108 = .ok (.iadd, 1) := by decide +kernel
theorem dR_windows_109 : decode mR_windows.2.1 109 = .ok (.goto 29, 3) := by decide +kernel
theorem dR_windows_112 : decode mR_windows.2.1 112 = .ok (.iload 8, 2) := by decide +kernel
theorem dR_windows_114 : decode mR_windows.2.1 114 = .ok (.aload_n 0, 1) := by decide +kernel
theorem dR_windows_115 : decode mR_windows.2.1 115 = .ok (.iload 7, 2) := by decide +kernel
theorem dR_windows_117 : decode mR_windows.2.1 117 = .ok (.invokevirtual 124, 3) := by decide +kernel
theorem dR_windows_120 : decode mR_windows.2.1 120 = .ok (.imul, 1) := by decide +kernel
theorem dR_windows_121 : decode mR_windows.2.1 121 = .ok (.aload_n 0, 1) := by decide +kernel
theorem dR_windows_122 : decode mR_windows.2.1 122 = .ok (.iload 7, 2) := by decide +kernel
theorem dR_windows_124 : decode mR_windows.2.1 124 = .ok (.invokevirtual 124, 3) := by decide +kernel
theorem dR_windows_127 : decode mR_windows.2.1 127 = .ok (.imul, 1) := by decide +kernel
theorem dR_windows_128 : decode mR_windows.2.1 128 = .ok (.aload_n 0, 1) := by decide +kernel
theorem dR_windows_129 : decode mR_windows.2.1 129 = .ok (.getfield 32, 3) := by decide +kernel
theorem dR_windows_132 : decode mR_windows.2.1 132 = .ok (.iload_n 1, 1) := by decide +kernel
theorem dR_windows_133 : decode mR_windows.2.1 133 = .ok (.iaload, 1) := by decide +kernel
theorem dR_windows_134 : decode mR_windows.2.1 134 = .ok (.imul, 1) := by decide +kernel
theorem dR_windows_135 : decode mR_windows.2.1 135 = .ok (.iload 8, 2) := by decide +kernel
theorem dR_windows_137 : decode mR_windows.2.1 137 = .ok (.iadd, 1) := by decide +kernel
theorem dR_windows_138 : decode mR_windows.2.1 138 = .ok (.istore 9, 2) := by decide +kernel
theorem dR_windows_140 : decode mR_windows.2.1 140 = .ok (.aload_n 0, 1) := by decide +kernel
theorem dR_windows_141 : decode mR_windows.2.1 141 = .ok (.iload_n 1, 1) := by decide +kernel
theorem dR_windows_142 : decode mR_windows.2.1 142 = .ok (.iload 7, 2) := by decide +kernel
theorem dR_windows_144 : decode mR_windows.2.1 144 = .ok (.invokevirtual 131, 3) := by decide +kernel
theorem dR_windows_147 : decode mR_windows.2.1 147 = .ok (.ifCond .ne 19, 3) := by decide +kernel
theorem dR_windows_150 : decode mR_windows.2.1 150 = .ok (.iload 4, 2) := by decide +kernel
theorem dR_windows_152 : decode mR_windows.2.1 152 = .ok (.ifCond .lt 14, 3) := by decide +kernel
theorem dR_windows_155 : decode mR_windows.2.1 155 = .ok (.iload 4, 2) := by decide +kernel
theorem dR_windows_157 : decode mR_windows.2.1 157 = .ok (.sipush 512, 3) := by decide +kernel
theorem dR_windows_160 : decode mR_windows.2.1 160 = .ok (.iload 9, 2) := by decide +kernel
theorem dR_windows_162 : decode mR_windows.2.1 162 = .ok (.isub, 1) := by decide +kernel
theorem dR_windows_163 : decode mR_windows.2.1 163 = .ok (.if_icmp .le 9, 3) := by decide +kernel
theorem dR_windows_166 : decode mR_windows.2.1 166 = .ok (.aload_n 0, 1) := by decide +kernel
theorem dR_windows_167 : decode mR_windows.2.1 167 = .ok (.iconst 1, 1) := by decide +kernel
theorem dR_windows_168 : decode mR_windows.2.1 168 = .ok (.invokevirtual 98, 3) := by decide +kernel
theorem dR_windows_171 : decode mR_windows.2.1 171 = .ok (.ireturn, 1) := by decide +kernel
theorem dR_windows_172 : decode mR_windows.2.1 172 = .ok (.aload_n 0, 1) := by decide +kernel
theorem dR_windows_173 : decode mR_windows.2.1 173 = .ok (.aload_n 0, 1) := by decide +kernel
theorem dR_windows_174 : decode mR_windows.2.1 174 = .ok (.getfield 35, 3) := by decide +kernel
theorem dR_windows_177 : decode mR_windows.2.1 177 = .ok (.iload_n 1, 1) := by decide +kernel
theorem dR_windows_178 : decode mR_windows.2.1 178 = .ok (.daload, 1) := by decide +kernel
theorem dR_windows_179 : decode mR_windows.2.1 179 = .ok (.aload_n 0, 1) := by decide +kernel
theorem dR_windows_180 : decode mR_windows.2.1 180 = .ok (.getfield 13, 3) := by decide +kernel
theorem dR_windows_183 : decode mR_windows.2.1 183 = .ok (.dmul, 1) := by decide +kernel
theorem dR_windows_184 : decode mR_windows.2.1 184 = .ok (.dload 5, 2) := by decide +kernel
theorem dR_windows_186 : decode mR_windows.2.1 186 = .ok (.ddiv, 1) := by decide +kernel
theorem dR_windows_187 : decode mR_windows.2.1 187 = .ok (.invokevirtual 134, 3) := by decide +kernel
theorem dR_windows_190 : decode mR_windows.2.1 190 = .ok (.ifCond .eq 9, 3) := by decide +kernel
theorem dR_windows_193 : decode mR_windows.2.1 193 = .ok (.aload_n 0, 1) := by decide +kernel
theorem dR_windows_194 : decode mR_windows.2.1 194 = .ok (.iconst 2, 1) := by decide +kernel
theorem dR_windows_195 : decode mR_windows.2.1 195 = .ok (.invokevirtual 98, 3) := by decide +kernel
theorem dR_windows_198 : decode mR_windows.2.1 198 = .ok (.ireturn, 1) := by decide +kernel
theorem dR_windows_199 : decode mR_windows.2.1 199 = .ok (.aload_n 0, 1) := by decide +kernel
theorem dR_windows_200 : decode mR_windows.2.1 200 = .ok (.getfield 106, 3) := by decide +kernel
theorem dR_windows_203 : decode mR_windows.2.1 203 = .ok (.bipush 14, 2) := by decide +kernel
theorem dR_windows_205 : decode mR_windows.2.1 205 = .ok (.if_icmp .ne 9, 3) := by decide +kernel
theorem dR_windows_208 : decode mR_windows.2.1 208 = .ok (.aload_n 0, 1) := by decide +kernel
theorem dR_windows_209 : decode mR_windows.2.1 209 = .ok (.iconst 3, 1) := by decide +kernel
theorem dR_windows_210 : decode mR_windows.2.1 210 = .ok (.invokevirtual 98, 3) := by decide +kernel
theorem dR_windows_213 : decode mR_windows.2.1 213 = .ok (.ireturn, 1) := by decide +kernel
theorem dR_windows_214 : decode mR_windows.2.1 214 = .ok (.aload_n 0, 1) := by decide +kernel
theorem dR_windows_215 : decode mR_windows.2.1 215 = .ok (.iload_n 3, 1) := by decide +kernel
theorem dR_windows_216 : decode mR_windows.2.1 216 = .ok (.ifCond .eq 7, 3) := by decide +kernel
theorem dR_windows_219 : decode mR_windows.2.1 219 = .ok (.iconst 2, 1) := by decide +kernel
theorem dR_windows_220 : decode mR_windows.2.1 220 = .ok (.goto 4, 3) := by decide +kernel
theorem dR_windows_223 : decode mR_windows.2.1 223 = .ok (.iconst 1, 1) := by decide +kernel
theorem dR_windows_224 : decode mR_windows.2.1 224 = .ok (.iload_n 1, 1) := by decide +kernel
theorem dR_windows_225 : decode mR_windows.2.1 225 = .ok (.iconst (-1), 1) := by decide +kernel
theorem dR_windows_226 : decode mR_windows.2.1 226 = .ok (.aload_n 0, 1) := by decide +kernel
theorem dR_windows_227 : decode mR_windows.2.1 227 = .ok (.aload_n 0, 1) := by decide +kernel
theorem dR_windows_228 : decode mR_windows.2.1 228 = .ok (.getfield 26, 3) := by decide +kernel
theorem dR_windows_231 : decode mR_windows.2.1 231 = .ok (.iload_n 1, 1) := by decide +kernel
theorem dR_windows_232 : decode mR_windows.2.1 232 = .ok (.iaload, 1) := by decide +kernel
theorem dR_windows_233 : decode mR_windows.2.1 233 = .ok (.iload 7, 2) := by decide +kernel
theorem dR_windows_235 : decode mR_windows.2.1 235 = .ok (.invokevirtual 127, 3) := by decide +kernel
theorem dR_windows_238 : decode mR_windows.2.1 238 = .ok (.aload_n 0, 1) := by decide +kernel
theorem dR_windows_239 : decode mR_windows.2.1 239 = .ok (.aload_n 0, 1) := by decide +kernel
theorem dR_windows_240 : decode mR_windows.2.1 240 = .ok (.getfield 29, 3) := by decide +kernel
theorem dR_windows_243 : decode mR_windows.2.1 243 = .ok (.iload_n 1, 1) := by decide +kernel
theorem dR_windows_244 : decode mR_windows.2.1 244 = .ok (.iaload, 1) := by decide +kernel
theorem dR_windows_245 : decode mR_windows.2.1 245 = .ok (.iload 7, 2) := by decide +kernel
theorem dR_windows_247 : decode mR_windows.2.1 247 = .ok (.invokevirtual 127, 3) := by decide +kernel
theorem dR_windows_250 : decode mR_windows.2.1 250 = .ok (.iload 8, 2) := by decide +kernel
theorem dR_windows_252 : decode mR_windows.2.1 252 = .ok (.dload 5, 2) := by decide +kernel
theorem dR_windows_254 : decode mR_windows.2.1 254 = .ok (.invokevirtual 113, 3) := by decide +kernel
theorem dR_windows_257 : decode mR_windows.2.1 257 = .ok (.pop, 1) := by decide +kernel
theorem dR_windows_258 : decode mR_windows.2.1 258 = .ok (.aload_n 0, 1) := by decide +kernel
theorem dR_windows_259 : decode mR_windows.2.1 259 = .ok (.iload 7, 2) := by decide +kernel
theorem dR_windows_261 : decode mR_windows.2.1 261 = .ok (.iload 4, 2) := by decide +kernel
theorem dR_windows_263 : decode mR_windows.2.1 263 = .ok (.iconst 0, 1) := by decide +kernel
theorem dR_windows_264 : decode mR_windows.2.1 264 = .ok (.iconst 0, 1) := by decide +kernel
theorem dR_windows_265 : decode mR_windows.2.1 265 = .ok (.invokevirtual 117, 3) := by decide +kernel
theorem dR_windows_268 : decode mR_windows.2.1 268 = .ok (.ireturn, 1) := by decide +kernel
theorem dR_side_0 : decode mR_side.2.1 0 = .ok (.iconst 1, 1) := by decide +kernel
theorem dR_side_1 : decode mR_side.2.1 1 = .ok (.iload_n 1, 1) := by decide +kernel
theorem dR_side_2 : decode mR_side.2.1 2 = .ok (.iconst 3, 1) := by decide +kernel
theorem dR_side_3 : decode mR_side.2.1 3 = .ok (.irem, 1) := by decide +kernel
theorem dR_side_4 : decode mR_side.2.1 4 = .ok (.iadd, 1) := by decide +kernel
theorem dR_side_5 : decode mR_side.2.1 5 = .ok (.ireturn, 1) := by decide +kernel
theorem dR_narrow_0 : decode mR_narrow.2.1 0 = .ok (.iload_n 2, 1) := by decide +kernel
theorem dR_narrow_1 : decode mR_narrow.2.1 1 = .ok (.bipush 6, 2) := by decide +kernel
theorem dR_narrow_3 : decode mR_narrow.2.1 3 = .ok (.if_icmp .ge 35, 3) := by decide +kernel
theorem dR_narrow_6 : decode mR_narrow.2.1 6 = .ok (.aload_n 0, 1) := by decide +kernel
theorem dR_narrow_7 : decode mR_narrow.2.1 7 = .ok (.getfield 26, 3) := by decide +kernel
theorem dR_narrow_10 : decode mR_narrow.2.1 10 = .ok (.iload_n 1, 1) := by decide +kernel
theorem dR_narrow_11 : decode mR_narrow.2.1 11 = .ok (.iaload, 1) := by decide +kernel
theorem dR_narrow_12 : decode mR_narrow.2.1 12 = .ok (.aload_n 0, 1) := by decide +kernel
theorem dR_narrow_13 : decode mR_narrow.2.1 13 = .ok (.iload_n 2, 1) := by decide +kernel
theorem dR_narrow_14 : decode mR_narrow.2.1 14 = .ok (.invokevirtual 124, 3) := by decide +kernel
theorem dR_narrow_17 : decode mR_narrow.2.1 17 = .ok (.if_icmp .lt 17, 3) := by decide +kernel
theorem dR_narrow_20 : decode mR_narrow.2.1 20 = .ok (.aload_n 0, 1) := by decide +kernel
theorem dR_narrow_21 : decode mR_narrow.2.1 21 = .ok (.getfield 29, 3) := by decide +kernel
theorem dR_narrow_24 : decode mR_narrow.2.1 24 = .ok (.iload_n 1, 1) := by decide +kernel
theorem dR_narrow_25 : decode mR_narrow.2.1 25 = .ok (.iaload, 1) := by decide +kernel
theorem dR_narrow_26 : decode mR_narrow.2.1 26 = .ok (.aload_n 0, 1) := by decide +kernel
theorem dR_narrow_27 : decode mR_narrow.2.1 27 = .ok (.iload_n 2, 1) := by decide +kernel
theorem dR_narrow_28 : decode mR_narrow.2.1 28 = .ok (.invokevirtual 124, 3) := by decide +kernel
theorem dR_narrow_31 : decode mR_narrow.2.1 31 = .ok (.if_icmp .ge 7, 3) := by decide +kernel
theorem dR_narrow_34 : decode mR_narrow.2.1 34 = .ok (.iconst 1, 1) := by decide +kernel
theorem dR_narrow_35 : decode mR_narrow.2.1 35 = .ok (.goto 4, 3) := by decide +kernel
theorem dR_narrow_38 : decode mR_narrow.2.1 38 = .ok (.iconst 0, 1) := by decide +kernel
theorem dR_narrow_39 : decode mR_narrow.2.1 39 = .ok (.ireturn, 1) := by decide +kernel
theorem dR_badRatio_0 : decode mR_badRatio.2.1 0 = .ok (.dload_n 1, 1) := by decide +kernel
theorem dR_badRatio_1 : decode mR_badRatio.2.1 1 = .ok (.ldc2_w 90, 3) := by decide +kernel
theorem dR_badRatio_4 : decode mR_badRatio.2.1 4 = .ok (.dcmp .l, 1) := by decide +kernel
theorem dR_badRatio_5 : decode mR_badRatio.2.1 5 = .ok (.ifCond .le 11, 3) := by decide +kernel
theorem dR_badRatio_8 : decode mR_badRatio.2.1 8 = .ok (.dload_n 1, 1) := by decide +kernel
theorem dR_badRatio_9 : decode mR_badRatio.2.1 9 = .ok (.ldc2_w 92, 3) := by decide +kernel
theorem dR_badRatio_12 : decode mR_badRatio.2.1 12 = .ok (.dcmp .g, 1) := by decide +kernel
theorem dR_badRatio_13 : decode mR_badRatio.2.1 13 = .ok (.ifCond .lt 7, 3) := by decide +kernel
theorem dR_badRatio_16 : decode mR_badRatio.2.1 16 = .ok (.iconst 1, 1) := by decide +kernel
theorem dR_badRatio_17 : decode mR_badRatio.2.1 17 = .ok (.goto 4, 3) := by decide +kernel
theorem dR_badRatio_20 : decode mR_badRatio.2.1 20 = .ok (.iconst 0, 1) := by decide +kernel
theorem dR_badRatio_21 : decode mR_badRatio.2.1 21 = .ok (.ireturn, 1) := by decide +kernel
theorem dR_places_0 : decode mR_places.2.1 0 = .ok (.iload_n 2, 1) := by decide +kernel
theorem dR_places_1 : decode mR_places.2.1 1 = .ok (.bipush 6, 2) := by decide +kernel
theorem dR_places_3 : decode mR_places.2.1 3 = .ok (.if_icmp .lt 21, 3) := by decide +kernel
theorem dR_places_6 : decode mR_places.2.1 6 = .ok (.iload_n 1, 1) := by decide +kernel
theorem dR_places_7 : decode mR_places.2.1 7 = .ok (.aload_n 0, 1) := by decide +kernel
theorem dR_places_8 : decode mR_places.2.1 8 = .ok (.iload_n 2, 1) := by decide +kernel
theorem dR_places_9 : decode mR_places.2.1 9 = .ok (.invokevirtual 121, 3) := by decide +kernel
theorem dR_places_12 : decode mR_places.2.1 12 = .ok (.iadd, 1) := by decide +kernel
theorem dR_places_13 : decode mR_places.2.1 13 = .ok (.iconst 1, 1) := by decide +kernel
theorem dR_places_14 : decode mR_places.2.1 14 = .ok (.isub, 1) := by decide +kernel
theorem dR_places_15 : decode mR_places.2.1 15 = .ok (.aload_n 0, 1) := by decide +kernel
theorem dR_places_16 : decode mR_places.2.1 16 = .ok (.iload_n 2, 1) := by decide +kernel
theorem dR_places_17 : decode mR_places.2.1 17 = .ok (.invokevirtual 121, 3) := by decide +kernel
theorem dR_places_20 : decode mR_places.2.1 20 = .ok (.idiv, 1) := by decide +kernel
theorem dR_places_21 : decode mR_places.2.1 21 = .ok (.goto 18, 3) := by decide +kernel
theorem dR_places_24 : decode mR_places.2.1 24 = .ok (.iload_n 1, 1) := by decide +kernel
theorem dR_places_25 : decode mR_places.2.1 25 = .ok (.aload_n 0, 1) := by decide +kernel
theorem dR_places_26 : decode mR_places.2.1 26 = .ok (.iload_n 2, 1) := by decide +kernel
theorem dR_places_27 : decode mR_places.2.1 27 = .ok (.invokevirtual 124, 3) := by decide +kernel
theorem dR_places_30 : decode mR_places.2.1 30 = .ok (.isub, 1) := by decide +kernel
theorem dR_places_31 : decode mR_places.2.1 31 = .ok (.aload_n 0, 1) := by decide +kernel
theorem dR_places_32 : decode mR_places.2.1 32 = .ok (.iload_n 2, 1) := by decide +kernel
theorem dR_places_33 : decode mR_places.2.1 33 = .ok (.invokevirtual 121, 3) := by decide +kernel
theorem dR_places_36 : decode mR_places.2.1 36 = .ok (.idiv, 1) := by decide +kernel
theorem dR_places_37 : decode mR_places.2.1 37 = .ok (.iconst 1, 1) := by decide +kernel
theorem dR_places_38 : decode mR_places.2.1 38 = .ok (.iadd, 1) := by decide +kernel
theorem dR_places_39 : decode mR_places.2.1 39 = .ok (.ireturn, 1) := by decide +kernel
theorem dR_stride_0 : decode mR_stride.2.1 0 = .ok (.iconst 1, 1) := by decide +kernel
theorem dR_stride_1 : decode mR_stride.2.1 1 = .ok (.iload_n 1, 1) := by decide +kernel
theorem dR_stride_2 : decode mR_stride.2.1 2 = .ok (.iconst 3, 1) := by decide +kernel
theorem dR_stride_3 : decode mR_stride.2.1 3 = .ok (.idiv, 1) := by decide +kernel
theorem dR_stride_4 : decode mR_stride.2.1 4 = .ok (.iconst 2, 1) := by decide +kernel
theorem dR_stride_5 : decode mR_stride.2.1 5 = .ok (.irem, 1) := by decide +kernel
theorem dR_stride_6 : decode mR_stride.2.1 6 = .ok (.iadd, 1) := by decide +kernel
theorem dR_stride_7 : decode mR_stride.2.1 7 = .ok (.ireturn, 1) := by decide +kernel
theorem dR_dense_0 : decode mR_dense.2.1 0 = .ok (.aload_n 0, 1) := by decide +kernel
theorem dR_dense_1 : decode mR_dense.2.1 1 = .ok (.iconst 0, 1) := by decide +kernel
theorem dR_dense_2 : decode mR_dense.2.1 2 = .ok (.putfield 85, 3) := by decide +kernel
theorem dR_dense_5 : decode mR_dense.2.1 5 = .ok (.aload_n 0, 1) := by decide +kernel
theorem dR_dense_6 : decode mR_dense.2.1 6 = .ok (.iload_n 1, 1) := by decide +kernel
theorem dR_dense_7 : decode mR_dense.2.1 7 = .ok (.aload_n 0, 1) := by decide +kernel
theorem dR_dense_8 : decode mR_dense.2.1 8 = .ok (.getfield 106, 3) := by decide +kernel
theorem dR_dense_11 : decode mR_dense.2.1 11 = .ok (.invokevirtual 94, 3) := by decide +kernel
theorem dR_dense_14 : decode mR_dense.2.1 14 = .ok (.ifCond .ne 24, 3) := by decide +kernel
theorem dR_dense_17 : decode mR_dense.2.1 17 = .ok (.aload_n 0, 1) := by decide +kernel
theorem dR_dense_18 : decode mR_dense.2.1 18 = .ok (.dload 4, 2) := by decide +kernel
theorem dR_dense_20 : decode mR_dense.2.1 20 = .ok (.invokevirtual 102, 3) := by decide +kernel
theorem dR_dense_23 : decode mR_dense.2.1 23 = .ok (.ifCond .ne 15, 3) := by decide +kernel
theorem dR_dense_26 : decode mR_dense.2.1 26 = .ok (.aload_n 0, 1) := by decide +kernel
theorem dR_dense_27 : decode mR_dense.2.1 27 = .ok (.iload_n 2, 1) := by decide +kernel
theorem dR_dense_28 : decode mR_dense.2.1 28 = .ok (.iconst 1, 1) := by decide +kernel
theorem dR_dense_29 : decode mR_dense.2.1 29 = .ok (.isub, 1) := by decide +kernel
theorem dR_dense_30 : decode mR_dense.2.1 30 = .ok (.bipush 8, 2) := by decide +kernel
theorem dR_dense_32 : decode mR_dense.2.1 32 = .ok (.invokevirtual 94, 3) := by decide +kernel
theorem dR_dense_35 : decode mR_dense.2.1 35 = .ok (.ifCond .eq 9, 3) := by decide +kernel
theorem dR_dense_38 : decode mR_dense.2.1 38 = .ok (.aload_n 0, 1) := by decide +kernel
theorem dR_dense_39 : decode mR_dense.2.1 39 = .ok (.iconst 1, 1) := by decide +kernel
theorem dR_dense_40 : decode mR_dense.2.1 40 = .ok (.invokevirtual 98, 3) := by decide +kernel
theorem dR_dense_43 : decode mR_dense.2.1 43 = .ok (.ireturn, 1) := by decide +kernel
theorem dR_dense_44 : decode mR_dense.2.1 44 = .ok (.iload_n 3, 1) := by decide +kernel
theorem dR_dense_45 : decode mR_dense.2.1 45 = .ok (.ifCond .lt 20, 3) := by decide +kernel
theorem dR_dense_48 : decode mR_dense.2.1 48 = .ok (.iload_n 3, 1) := by decide +kernel
theorem dR_dense_49 : decode mR_dense.2.1 49 = .ok (.sipush 512, 3) := by decide +kernel
theorem dR_dense_52 : decode mR_dense.2.1 52 = .ok (.iload_n 2, 1) := by decide +kernel
theorem dR_dense_53 : decode mR_dense.2.1 53 = .ok (.aload_n 0, 1) := by decide +kernel
theorem dR_dense_54 : decode mR_dense.2.1 54 = .ok (.iload_n 1, 1) := by decide +kernel
theorem dR_dense_55 : decode mR_dense.2.1 55 = .ok (.invokevirtual 137, 3) := by decide +kernel
theorem dR_dense_58 : decode mR_dense.2.1 58 = .ok (.imul, 1) := by decide +kernel
theorem dR_dense_59 : decode mR_dense.2.1 59 = .ok (.isub, 1) := by decide +kernel
theorem dR_dense_60 : decode mR_dense.2.1 60 = .ok (.iload_n 2, 1) := by decide +kernel
theorem dR_dense_61 : decode mR_dense.2.1 61 = .ok (.isub, 1) := by decide +kernel
theorem dR_dense_62 : decode mR_dense.2.1 62 = .ok (.if_icmp .le 9, 3) := by decide +kernel
theorem dR_dense_65 : decode mR_dense.2.1 65 = .ok (.aload_n 0, 1) := by decide +kernel
theorem dR_dense_66 : decode mR_dense.2.1 66 = .ok (.iconst 1, 1) := by decide +kernel
theorem dR_dense_67 : decode mR_dense.2.1 67 = .ok (.invokevirtual 98, 3) := by decide +kernel
theorem dR_dense_70 : decode mR_dense.2.1 70 = .ok (.ireturn, 1) := by decide +kernel
theorem dR_dense_71 : decode mR_dense.2.1 71 = .ok (.aload_n 0, 1) := by decide +kernel
theorem dR_dense_72 : decode mR_dense.2.1 72 = .ok (.aload_n 0, 1) := by decide +kernel
theorem dR_dense_73 : decode mR_dense.2.1 73 = .ok (.getfield 35, 3) := by decide +kernel
theorem dR_dense_76 : decode mR_dense.2.1 76 = .ok (.iload_n 1, 1) := by decide +kernel
theorem dR_dense_77 : decode mR_dense.2.1 77 = .ok (.daload, 1) := by decide +kernel
theorem dR_dense_78 : decode mR_dense.2.1 78 = .ok (.aload_n 0, 1) := by decide +kernel
theorem dR_dense_79 : decode mR_dense.2.1 79 = .ok (.getfield 13, 3) := by decide +kernel
theorem dR_dense_82 : decode mR_dense.2.1 82 = .ok (.dmul, 1) := by decide +kernel
theorem dR_dense_83 : decode mR_dense.2.1 83 = .ok (.dload 4, 2) := by decide +kernel
theorem dR_dense_85 : decode mR_dense.2.1 85 = .ok (.ddiv, 1) := by decide +kernel
theorem dR_dense_86 : decode mR_dense.2.1 86 = .ok (.invokevirtual 134, 3) := by decide +kernel
theorem dR_dense_89 : decode mR_dense.2.1 89 = .ok (.ifCond .eq 9, 3) := by decide +kernel
theorem dR_dense_92 : decode mR_dense.2.1 92 = .ok (.aload_n 0, 1) := by decide +kernel
theorem dR_dense_93 : decode mR_dense.2.1 93 = .ok (.iconst 2, 1) := by decide +kernel
theorem dR_dense_94 : decode mR_dense.2.1 94 = .ok (.invokevirtual 98, 3) := by decide +kernel
theorem dR_dense_97 : decode mR_dense.2.1 97 = .ok (.ireturn, 1) := by decide +kernel
theorem dR_dense_98 : decode mR_dense.2.1 98 = .ok (.aload_n 0, 1) := by decide +kernel
theorem dR_dense_99 : decode mR_dense.2.1 99 = .ok (.getfield 106, 3) := by decide +kernel
theorem dR_dense_102 : decode mR_dense.2.1 102 = .ok (.bipush 14, 2) := by decide +kernel
theorem dR_dense_104 : decode mR_dense.2.1 104 = .ok (.if_icmp .ne 9, 3) := by decide +kernel
theorem dR_dense_107 : decode mR_dense.2.1 107 = .ok (.aload_n 0, 1) := by decide +kernel
theorem dR_dense_108 : decode mR_dense.2.1 108 = .ok (.iconst 3, 1) := by decide +kernel
theorem dR_dense_109 : decode mR_dense.2.1 109 = .ok (.invokevirtual 98, 3) := by decide +kernel
theorem dR_dense_112 : decode mR_dense.2.1 112 = .ok (.ireturn, 1) := by decide +kernel
theorem dR_dense_113 : decode mR_dense.2.1 113 = .ok (.aload_n 0, 1) := by decide +kernel
theorem dR_dense_114 : decode mR_dense.2.1 114 = .ok (.iconst 3, 1) := by decide +kernel
theorem dR_dense_115 : decode mR_dense.2.1 115 = .ok (.iload_n 1, 1) := by decide +kernel
theorem dR_dense_116 : decode mR_dense.2.1 116 = .ok (.iconst (-1), 1) := by decide +kernel
theorem dR_dense_117 : decode mR_dense.2.1 117 = .ok (.iconst 1, 1) := by decide +kernel
theorem dR_dense_118 : decode mR_dense.2.1 118 = .ok (.iconst 1, 1) := by decide +kernel
theorem dR_dense_119 : decode mR_dense.2.1 119 = .ok (.iload_n 2, 1) := by decide +kernel
theorem dR_dense_120 : decode mR_dense.2.1 120 = .ok (.dload 4, 2) := by decide +kernel
theorem dR_dense_122 : decode mR_dense.2.1 122 = .ok (.invokevirtual 113, 3) := by decide +kernel
theorem dR_dense_125 : decode mR_dense.2.1 125 = .ok (.pop, 1) := by decide +kernel
theorem dR_dense_126 : decode mR_dense.2.1 126 = .ok (.aload_n 0, 1) := by decide +kernel
theorem dR_dense_127 : decode mR_dense.2.1 127 = .ok (.iconst 0, 1) := by decide +kernel
theorem dR_dense_128 : decode mR_dense.2.1 128 = .ok (.iload_n 3, 1) := by decide +kernel
theorem dR_dense_129 : decode mR_dense.2.1 129 = .ok (.iconst 0, 1) := by decide +kernel
theorem dR_dense_130 : decode mR_dense.2.1 130 = .ok (.iconst 0, 1) := by decide +kernel
theorem dR_dense_131 : decode mR_dense.2.1 131 = .ok (.invokevirtual 117, 3) := by decide +kernel
theorem dR_dense_134 : decode mR_dense.2.1 134 = .ok (.ireturn, 1) := by decide +kernel
theorem dR_cells_0 : decode mR_cells.2.1 0 = .ok (.aload_n 0, 1) := by decide +kernel
theorem dR_cells_1 : decode mR_cells.2.1 1 = .ok (.getfield 26, 3) := by decide +kernel
theorem dR_cells_4 : decode mR_cells.2.1 4 = .ok (.iload_n 1, 1) := by decide +kernel
theorem dR_cells_5 : decode mR_cells.2.1 5 = .ok (.iaload, 1) := by decide +kernel
theorem dR_cells_6 : decode mR_cells.2.1 6 = .ok (.aload_n 0, 1) := by decide +kernel
theorem dR_cells_7 : decode mR_cells.2.1 7 = .ok (.getfield 29, 3) := by decide +kernel
theorem dR_cells_10 : decode mR_cells.2.1 10 = .ok (.iload_n 1, 1) := by decide +kernel
theorem dR_cells_11 : decode mR_cells.2.1 11 = .ok (.iaload, 1) := by decide +kernel
theorem dR_cells_12 : decode mR_cells.2.1 12 = .ok (.imul, 1) := by decide +kernel
theorem dR_cells_13 : decode mR_cells.2.1 13 = .ok (.aload_n 0, 1) := by decide +kernel
theorem dR_cells_14 : decode mR_cells.2.1 14 = .ok (.getfield 32, 3) := by decide +kernel
theorem dR_cells_17 : decode mR_cells.2.1 17 = .ok (.iload_n 1, 1) := by decide +kernel
theorem dR_cells_18 : decode mR_cells.2.1 18 = .ok (.iaload, 1) := by decide +kernel
theorem dR_cells_19 : decode mR_cells.2.1 19 = .ok (.imul, 1) := by decide +kernel
theorem dR_cells_20 : decode mR_cells.2.1 20 = .ok (.ireturn, 1) := by decide +kernel
theorem dR_add_0 : decode mR_add.2.1 0 = .ok (.aload_n 0, 1) := by decide +kernel
theorem dR_add_1 : decode mR_add.2.1 1 = .ok (.iconst 0, 1) := by decide +kernel
theorem dR_add_2 : decode mR_add.2.1 2 = .ok (.putfield 85, 3) := by decide +kernel
theorem dR_add_5 : decode mR_add.2.1 5 = .ok (.aload_n 0, 1) := by decide +kernel
theorem dR_add_6 : decode mR_add.2.1 6 = .ok (.iload_n 1, 1) := by decide +kernel
theorem dR_add_7 : decode mR_add.2.1 7 = .ok (.aload_n 0, 1) := by decide +kernel
theorem dR_add_8 : decode mR_add.2.1 8 = .ok (.getfield 106, 3) := by decide +kernel
theorem dR_add_11 : decode mR_add.2.1 11 = .ok (.invokevirtual 94, 3) := by decide +kernel
theorem dR_add_14 : decode mR_add.2.1 14 = .ok (.ifCond .ne 23, 3) := by decide +kernel
theorem dR_add_17 : decode mR_add.2.1 17 = .ok (.aload_n 0, 1) := by decide +kernel
theorem dR_add_18 : decode mR_add.2.1 18 = .ok (.iload_n 2, 1) := by decide +kernel
theorem dR_add_19 : decode mR_add.2.1 19 = .ok (.aload_n 0, 1) := by decide +kernel
theorem dR_add_20 : decode mR_add.2.1 20 = .ok (.getfield 106, 3) := by decide +kernel
theorem dR_add_23 : decode mR_add.2.1 23 = .ok (.invokevirtual 94, 3) := by decide +kernel
theorem dR_add_26 : decode mR_add.2.1 26 = .ok (.ifCond .ne 11, 3) := by decide +kernel
theorem dR_add_29 : decode mR_add.2.1 29 = .ok (.aload_n 0, 1) := by decide +kernel
theorem dR_add_30 : decode mR_add.2.1 30 = .ok (.dload_n 3, 1) := by decide +kernel
theorem dR_add_31 : decode mR_add.2.1 31 = .ok (.invokevirtual 102, 3) := by decide +kernel
theorem dR_add_34 : decode mR_add.2.1 34 = .ok (.ifCond .eq 9, 3) := by decide +kernel
theorem dR_add_37 : decode mR_add.2.1 37 = .ok (.aload_n 0, 1) := by decide +kernel
theorem dR_add_38 : decode mR_add.2.1 38 = .ok (.iconst 1, 1) := by decide +kernel
theorem dR_add_39 : decode mR_add.2.1 39 = .ok (.invokevirtual 98, 3) := by decide +kernel
theorem dR_add_42 : decode mR_add.2.1 42 = .ok (.ireturn, 1) := by decide +kernel
theorem dR_add_43 : decode mR_add.2.1 43 = .ok (.aload_n 0, 1) := by decide +kernel
theorem dR_add_44 : decode mR_add.2.1 44 = .ok (.iload_n 1, 1) := by decide +kernel
theorem dR_add_45 : decode mR_add.2.1 45 = .ok (.iload_n 2, 1) := by decide +kernel
theorem dR_add_46 : decode mR_add.2.1 46 = .ok (.invokevirtual 140, 3) := by decide +kernel
theorem dR_add_49 : decode mR_add.2.1 49 = .ok (.ifCond .eq 18, 3) := by decide +kernel
theorem dR_add_52 : decode mR_add.2.1 52 = .ok (.aload_n 0, 1) := by decide +kernel
theorem dR_add_53 : decode mR_add.2.1 53 = .ok (.getfield 32, 3) := by decide +kernel
theorem dR_add_56 : decode mR_add.2.1 56 = .ok (.iload_n 1, 1) := by decide +kernel
theorem dR_add_57 : decode mR_add.2.1 57 = .ok (.iaload, 1) := by decide +kernel
theorem dR_add_58 : decode mR_add.2.1 58 = .ok (.aload_n 0, 1) := by decide +kernel
theorem dR_add_59 : decode mR_add.2.1 59 = .ok (.getfield 32, 3) := by decide +kernel
theorem dR_add_62 : decode mR_add.2.1 62 = .ok (.iload_n 2, 1) := by decide +kernel
theorem dR_add_63 : decode mR_add.2.1 63 = .ok (.iaload, 1) := by decide +kernel
theorem dR_add_64 : decode mR_add.2.1 64 = .ok (.if_icmp .eq 9, 3) := by decide +kernel
theorem dR_add_67 : decode mR_add.2.1 67 = .ok (.aload_n 0, 1) := by decide +kernel
theorem dR_add_68 : decode mR_add.2.1 68 = .ok (.iconst 1, 1) := by decide +kernel
theorem dR_add_69 : decode mR_add.2.1 69 = .ok (.invokevirtual 98, 3) := by decide +kernel
theorem dR_add_72 : decode mR_add.2.1 72 = .ok (.ireturn, 1) := by decide +kernel
theorem dR_add_73 : decode mR_add.2.1 73 = .ok (.aload_n 0, 1) := by decide +kernel
theorem dR_add_74 : decode mR_add.2.1 74 = .ok (.aload_n 0, 1) := by decide +kernel
theorem dR_add_75 : decode mR_add.2.1 75 = .ok (.getfield 35, 3) := by decide +kernel
theorem dR_add_78 : decode mR_add.2.1 78 = .ok (.iload_n 1, 1) := by decide +kernel
theorem dR_add_79 : decode mR_add.2.1 79 = .ok (.daload, 1) := by decide +kernel
theorem dR_add_80 : decode mR_add.2.1 80 = .ok (.dload_n 3, 1) := by decide +kernel
theorem dR_add_81 : decode mR_add.2.1 81 = .ok (.ddiv, 1) := by decide +kernel
theorem dR_add_82 : decode mR_add.2.1 82 = .ok (.invokevirtual 134, 3) := by decide +kernel
theorem dR_add_85 : decode mR_add.2.1 85 = .ok (.ifCond .ne 18, 3) := by decide +kernel
theorem dR_add_88 : decode mR_add.2.1 88 = .ok (.aload_n 0, 1) := by decide +kernel
theorem dR_add_89 : decode mR_add.2.1 89 = .ok (.aload_n 0, 1) := by decide +kernel
theorem dR_add_90 : decode mR_add.2.1 90 = .ok (.getfield 35, 3) := by decide +kernel
theorem dR_add_93 : decode mR_add.2.1 93 = .ok (.iload_n 2, 1) := by decide +kernel
theorem dR_add_94 : decode mR_add.2.1 94 = .ok (.daload, 1) := by decide +kernel
theorem dR_add_95 : decode mR_add.2.1 95 = .ok (.dload_n 3, 1) := by decide +kernel
theorem dR_add_96 : decode mR_add.2.1 96 = .ok (.ddiv, 1) := by decide +kernel
theorem dR_add_97 : decode mR_add.2.1 97 = .ok (.invokevirtual 134, 3) := by decide +kernel
theorem dR_add_100 : decode mR_add.2.1 100 = .ok (.ifCond .eq 9, 3) := by decide +kernel
theorem dR_add_103 : decode mR_add.2.1 103 = .ok (.aload_n 0, 1) := by decide +kernel
theorem dR_add_104 : decode mR_add.2.1 104 = .ok (.iconst 2, 1) := by decide +kernel
theorem dR_add_105 : decode mR_add.2.1 105 = .ok (.invokevirtual 98, 3) := by decide +kernel
theorem dR_add_108 : decode mR_add.2.1 108 = .ok (.ireturn, 1) := by decide +kernel
theorem dR_add_109 : decode mR_add.2.1 109 = .ok (.aload_n 0, 1) := by decide +kernel
theorem dR_add_110 : decode mR_add.2.1 110 = .ok (.getfield 106, 3) := by decide +kernel
theorem dR_add_113 : decode mR_add.2.1 113 = .ok (.bipush 14, 2) := by decide +kernel
theorem dR_add_115 : decode mR_add.2.1 115 = .ok (.if_icmp .ne 9, 3) := by decide +kernel
theorem dR_add_118 : decode mR_add.2.1 118 = .ok (.aload_n 0, 1) := by decide +kernel
theorem dR_add_119 : decode mR_add.2.1 119 = .ok (.iconst 3, 1) := by decide +kernel
theorem dR_add_120 : decode mR_add.2.1 120 = .ok (.invokevirtual 98, 3) := by decide +kernel
theorem dR_add_123 : decode mR_add.2.1 123 = .ok (.ireturn, 1) := by decide +kernel
theorem dR_add_124 : decode mR_add.2.1 124 = .ok (.aload_n 0, 1) := by decide +kernel
theorem dR_add_125 : decode mR_add.2.1 125 = .ok (.iconst 4, 1) := by decide +kernel
theorem dR_add_126 : decode mR_add.2.1 126 = .ok (.iload_n 1, 1) := by decide +kernel
theorem dR_add_127 : decode mR_add.2.1 127 = .ok (.iload_n 2, 1) := by decide +kernel
theorem dR_add_128 : decode mR_add.2.1 128 = .ok (.aload_n 0, 1) := by decide +kernel
theorem dR_add_129 : decode mR_add.2.1 129 = .ok (.getfield 26, 3) := by decide +kernel
theorem dR_add_132 : decode mR_add.2.1 132 = .ok (.iload_n 1, 1) := by decide +kernel
theorem dR_add_133 : decode mR_add.2.1 133 = .ok (.iaload, 1) := by decide +kernel
theorem dR_add_134 : decode mR_add.2.1 134 = .ok (.aload_n 0, 1) := by decide +kernel
theorem dR_add_135 : decode mR_add.2.1 135 = .ok (.getfield 29, 3) := by decide +kernel
theorem dR_add_138 : decode mR_add.2.1 138 = .ok (.iload_n 1, 1) := by decide +kernel
theorem dR_add_139 : decode mR_add.2.1 139 = .ok (.iaload, 1) := by decide +kernel
theorem dR_add_140 : decode mR_add.2.1 140 = .ok (.aload_n 0, 1) := by decide +kernel
theorem dR_add_141 : decode mR_add.2.1 141 = .ok (.getfield 32, 3) := by decide +kernel
theorem dR_add_144 : decode mR_add.2.1 144 = .ok (.iload_n 1, 1) := by decide +kernel
theorem dR_add_145 : decode mR_add.2.1 145 = .ok (.iaload, 1) := by decide +kernel
theorem dR_add_146 : decode mR_add.2.1 146 = .ok (.dload_n 3, 1) := by decide +kernel
theorem dR_add_147 : decode mR_add.2.1 147 = .ok (.invokevirtual 113, 3) := by decide +kernel
theorem dR_add_150 : decode mR_add.2.1 150 = .ok (.pop, 1) := by decide +kernel
theorem dR_add_151 : decode mR_add.2.1 151 = .ok (.aload_n 0, 1) := by decide +kernel
theorem dR_add_152 : decode mR_add.2.1 152 = .ok (.iconst 0, 1) := by decide +kernel
theorem dR_add_153 : decode mR_add.2.1 153 = .ok (.iconst 0, 1) := by decide +kernel
theorem dR_add_154 : decode mR_add.2.1 154 = .ok (.iconst 0, 1) := by decide +kernel
theorem dR_add_155 : decode mR_add.2.1 155 = .ok (.iconst 0, 1) := by decide +kernel
theorem dR_add_156 : decode mR_add.2.1 156 = .ok (.invokevirtual 117, 3) := by decide +kernel
theorem dR_add_159 : decode mR_add.2.1 159 = .ok (.ireturn, 1) := by decide +kernel
theorem dR_sameSize_0 : decode mR_sameSize.2.1 0 = .ok (.aload_n 0, 1) := by decide +kernel
theorem dR_sameSize_1 : decode mR_sameSize.2.1 1 = .ok (.getfield 26, 3) := by decide +kernel
theorem dR_sameSize_4 : decode mR_sameSize.2.1 4 = .ok (.iload_n 1, 1) := by decide +kernel
theorem dR_sameSize_5 : decode mR_sameSize.2.1 5 = .ok (.iaload, 1) := by decide +kernel
theorem dR_sameSize_6 : decode mR_sameSize.2.1 6 = .ok (.aload_n 0, 1) := by decide +kernel
theorem dR_sameSize_7 : decode mR_sameSize.2.1 7 = .ok (.getfield 26, 3) := by decide +kernel
theorem dR_sameSize_10 : decode mR_sameSize.2.1 10 = .ok (.iload_n 2, 1) := by decide +kernel
theorem dR_sameSize_11 : decode mR_sameSize.2.1 11 = .ok (.iaload, 1) := by decide +kernel
theorem dR_sameSize_12 : decode mR_sameSize.2.1 12 = .ok (.if_icmp .ne 22, 3) := by decide +kernel
theorem dR_sameSize_15 : decode mR_sameSize.2.1 15 = .ok (.aload_n 0, 1) := by decide +kernel
theorem dR_sameSize_16 : decode mR_sameSize.2.1 16 = .ok (.getfield 29, 3) := by decide +kernel
theorem dR_sameSize_19 : decode mR_sameSize.2.1 19 = .ok (.iload_n 1, 1) := by decide +kernel
theorem dR_sameSize_20 : decode mR_sameSize.2.1 20 = .ok (.iaload, 1) := by decide +kernel
theorem dR_sameSize_21 : decode mR_sameSize.2.1 21 = .ok (.aload_n 0, 1) := by decide +kernel
theorem dR_sameSize_22 : decode mR_sameSize.2.1 22 = .ok (.getfield 29, 3) := by decide +kernel
theorem dR_sameSize_25 : decode mR_sameSize.2.1 25 = .ok (.iload_n 2, 1) := by decide +kernel
theorem dR_sameSize_26 : decode mR_sameSize.2.1 26 = .ok (.iaload, 1) := by decide +kernel
theorem dR_sameSize_27 : decode mR_sameSize.2.1 27 = .ok (.if_icmp .ne 7, 3) := by decide +kernel
theorem dR_sameSize_30 : decode mR_sameSize.2.1 30 = .ok (.iconst 1, 1) := by decide +kernel
theorem dR_sameSize_31 : decode mR_sameSize.2.1 31 = .ok (.goto 4, 3) := by decide +kernel
theorem dR_sameSize_34 : decode mR_sameSize.2.1 34 = .ok (.iconst 0, 1) := by decide +kernel
theorem dR_sameSize_35 : decode mR_sameSize.2.1 35 = .ok (.ireturn, 1) := by decide +kernel
theorem dR_concat_0 : decode mR_concat.2.1 0 = .ok (.aload_n 0, 1) := by decide +kernel
theorem dR_concat_1 : decode mR_concat.2.1 1 = .ok (.iconst 0, 1) := by decide +kernel
theorem dR_concat_2 : decode mR_concat.2.1 2 = .ok (.putfield 85, 3) := by decide +kernel
theorem dR_concat_5 : decode mR_concat.2.1 5 = .ok (.aload_n 0, 1) := by decide +kernel
theorem dR_concat_6 : decode mR_concat.2.1 6 = .ok (.iload_n 1, 1) := by decide +kernel
theorem dR_concat_7 : decode mR_concat.2.1 7 = .ok (.aload_n 0, 1) := by decide +kernel
theorem dR_concat_8 : decode mR_concat.2.1 8 = .ok (.getfield 106, 3) := by decide +kernel
theorem dR_concat_11 : decode mR_concat.2.1 11 = .ok (.invokevirtual 94, 3) := by decide +kernel
theorem dR_concat_14 : decode mR_concat.2.1 14 = .ok (.ifCond .ne 15, 3) := by decide +kernel
theorem dR_concat_17 : decode mR_concat.2.1 17 = .ok (.aload_n 0, 1) := by decide +kernel
theorem dR_concat_18 : decode mR_concat.2.1 18 = .ok (.iload_n 2, 1) := by decide +kernel
theorem dR_concat_19 : decode mR_concat.2.1 19 = .ok (.aload_n 0, 1) := by decide +kernel
theorem dR_concat_20 : decode mR_concat.2.1 20 = .ok (.getfield 106, 3) := by decide +kernel
theorem dR_concat_23 : decode mR_concat.2.1 23 = .ok (.invokevirtual 94, 3) := by decide +kernel
theorem dR_concat_26 : decode mR_concat.2.1 26 = .ok (.ifCond .eq 9, 3) := by decide +kernel
theorem dR_concat_29 : decode mR_concat.2.1 29 = .ok (.aload_n 0, 1) := by decide +kernel
theorem dR_concat_30 : decode mR_concat.2.1 30 = .ok (.iconst 1, 1) := by decide +kernel
theorem dR_concat_31 : decode mR_concat.2.1 31 = .ok (.invokevirtual 98, 3) := by decide +kernel
theorem dR_concat_34 : decode mR_concat.2.1 34 = .ok (.ireturn, 1) := by decide +kernel
theorem dR_concat_35 : decode mR_concat.2.1 35 = .ok (.aload_n 0, 1) := by decide +kernel
theorem dR_concat_36 : decode mR_concat.2.1 36 = .ok (.iload_n 1, 1) := by decide +kernel
theorem dR_concat_37 : decode mR_concat.2.1 37 = .ok (.iload_n 2, 1) := by decide +kernel
theorem dR_concat_38 : decode mR_concat.2.1 38 = .ok (.invokevirtual 140, 3) := by decide +kernel
theorem dR_concat_41 : decode mR_concat.2.1 41 = .ok (.ifCond .eq 37, 3) := by decide +kernel
theorem dR_concat_44 : decode mR_concat.2.1 44 = .ok (.aload_n 0, 1) := by decide +kernel
theorem dR_concat_45 : decode mR_concat.2.1 45 = .ok (.getfield 35, 3) := by decide +kernel
theorem dR_concat_48 : decode mR_concat.2.1 48 = .ok (.iload_n 1, 1) := by decide +kernel
theorem dR_concat_49 : decode mR_concat.2.1 49 = .ok (.daload, 1) := by decide +kernel
theorem dR_concat_50 : decode mR_concat.2.1 50 = .ok (.aload_n 0, 1) := by decide +kernel
theorem dR_concat_51 : decode mR_concat.2.1 51 = .ok (.getfield 35, 3) := by decide +kernel
theorem dR_concat_54 : decode mR_concat.2.1 54 = .ok (.iload_n 2, 1) := by decide +kernel
theorem dR_concat_55 : decode mR_concat.2.1 55 = .ok (.daload, 1) := by decide +kernel
theorem dR_concat_56 : decode mR_concat.2.1 56 = .ok (.dcmp .l, 1) := by decide +kernel
theorem dR_concat_57 : decode mR_concat.2.1 57 = .ok (.ifCond .ne 21, 3) := by decide +kernel
theorem dR_concat_60 : decode mR_concat.2.1 60 = .ok (.aload_n 0, 1) := by decide +kernel
theorem dR_concat_61 : decode mR_concat.2.1 61 = .ok (.getfield 32, 3) := by decide +kernel
theorem dR_concat_64 : decode mR_concat.2.1 64 = .ok (.iload_n 1, 1) := by decide +kernel
theorem dR_concat_65 : decode mR_concat.2.1 65 = .ok (.iaload, 1) := by decide +kernel
theorem dR_concat_66 : decode mR_concat.2.1 66 = .ok (.aload_n 0, 1) := by decide +kernel
theorem dR_concat_67 : decode mR_concat.2.1 67 = .ok (.getfield 32, 3) := by decide +kernel
theorem dR_concat_70 : decode mR_concat.2.1 70 = .ok (.iload_n 2, 1) := by decide +kernel
theorem dR_concat_71 : decode mR_concat.2.1 71 = .ok (.iaload, 1) := by decide +kernel
theorem dR_concat_72 : decode mR_concat.2.1 72 = .ok (.iadd, 1) := by decide +kernel
theorem dR_concat_73 : decode mR_concat.2.1 73 = .ok (.bipush 8, 2) := by decide +kernel
theorem dR_concat_75 : decode mR_concat.2.1 75 = .ok (.if_icmp .le 9, 3) := by decide +kernel
theorem dR_concat_78 : decode mR_concat.2.1 78 = .ok (.aload_n 0, 1) := by decide +kernel
theorem dR_concat_79 : decode mR_concat.2.1 79 = .ok (.iconst 1, 1) := by decide +kernel
theorem dR_concat_80 : decode mR_concat.2.1 80 = .ok (.invokevirtual 98, 3) := by decide +kernel
theorem dR_concat_83 : decode mR_concat.2.1 83 = .ok (.ireturn, 1) := by decide +kernel
theorem dR_concat_84 : decode mR_concat.2.1 84 = .ok (.aload_n 0, 1) := by decide +kernel
theorem dR_concat_85 : decode mR_concat.2.1 85 = .ok (.getfield 106, 3) := by decide +kernel
theorem dR_concat_88 : decode mR_concat.2.1 88 = .ok (.bipush 14, 2) := by decide +kernel
theorem dR_concat_90 : decode mR_concat.2.1 90 = .ok (.if_icmp .ne 9, 3) := by decide +kernel
theorem dR_concat_93 : decode mR_concat.2.1 93 = .ok (.aload_n 0, 1) := by decide +kernel
theorem dR_concat_94 : decode mR_concat.2.1 94 = .ok (.iconst 2, 1) := by decide +kernel
theorem dR_concat_95 : decode mR_concat.2.1 95 = .ok (.invokevirtual 98, 3) := by decide +kernel
theorem dR_concat_98 : decode mR_concat.2.1 98 = .ok (.ireturn, 1) := by decide +kernel
theorem dR_concat_99 : decode mR_concat.2.1 99 = .ok (.aload_n 0, 1) := by decide +kernel
theorem dR_concat_100 : decode mR_concat.2.1 100 = .ok (.iconst 5, 1) := by decide +kernel
theorem dR_concat_101 : decode mR_concat.2.1 101 = .ok (.iload_n 1, 1) := by decide +kernel
theorem dR_concat_102 : decode mR_concat.2.1 102 = .ok (.iload_n 2, 1) := by decide +kernel
theorem dR_concat_103 : decode mR_concat.2.1 103 = .ok (.aload_n 0, 1) := by decide +kernel
theorem dR_concat_104 : decode mR_concat.2.1 104 = .ok (.getfield 26, 3) := by decide +kernel
theorem dR_concat_107 : decode mR_concat.2.1 107 = .ok (.iload_n 1, 1) := by decide +kernel
theorem dR_concat_108 : decode mR_concat.2.1 108 = .ok (.iaload, 1) := by decide +kernel
theorem dR_concat_109 : decode mR_concat.2.1 109 = .ok (.aload_n 0, 1) := by decide +kernel
theorem dR_concat_110 : decode mR_concat.2.1 110 = .ok (.getfield 29, 3) := by decide +kernel
theorem dR_concat_113 : decode mR_concat.2.1 113 = .ok (.iload_n 1, 1) := by decide +kernel
theorem dR_concat_114 : decode mR_concat.2.1 114 = .ok (.iaload, 1) := by decide +kernel
theorem dR_concat_115 : decode mR_concat.2.1 115 = .ok (.aload_n 0, 1) := by decide +kernel
theorem dR_concat_116 : decode mR_concat.2.1 116 = .ok (.getfield 32, 3) := by decide +kernel
theorem dR_concat_119 : decode mR_concat.2.1 119 = .ok (.iload_n 1, 1) := by decide +kernel
theorem dR_concat_120 : decode mR_concat.2.1 120 = .ok (.iaload, 1) := by decide +kernel
theorem dR_concat_121 : decode mR_concat.2.1 121 = .ok (.aload_n 0, 1) := by decide +kernel
theorem dR_concat_122 : decode mR_concat.2.1 122 = .ok (.getfield 32, 3) := by decide +kernel
theorem dR_concat_125 : decode mR_concat.2.1 125 = .ok (.iload_n 2, 1) := by decide +kernel
theorem dR_concat_126 : decode mR_concat.2.1 126 = .ok (.iaload, 1) := by decide +kernel
theorem dR_concat_127 : decode mR_concat.2.1 127 = .ok (.iadd, 1) := by decide +kernel
theorem dR_concat_128 : decode mR_concat.2.1 128 = .ok (.aload_n 0, 1) := by decide +kernel
theorem dR_concat_129 : decode mR_concat.2.1 129 = .ok (.getfield 35, 3) := by decide +kernel
theorem dR_concat_132 : decode mR_concat.2.1 132 = .ok (.iload_n 1, 1) := by decide +kernel
theorem dR_concat_133 : decode mR_concat.2.1 133 = .ok (.daload, 1) := by decide +kernel
theorem dR_concat_134 : decode mR_concat.2.1 134 = .ok (.invokevirtual 113, 3) := by decide +kernel
theorem dR_concat_137 : decode mR_concat.2.1 137 = .ok (.pop, 1) := by decide +kernel
theorem dR_concat_138 : decode mR_concat.2.1 138 = .ok (.aload_n 0, 1) := by decide +kernel
theorem dR_concat_139 : decode mR_concat.2.1 139 = .ok (.iconst 0, 1) := by decide +kernel
theorem dR_concat_140 : decode mR_concat.2.1 140 = .ok (.iconst 0, 1) := by decide +kernel
theorem dR_concat_141 : decode mR_concat.2.1 141 = .ok (.iconst 0, 1) := by decide +kernel
theorem dR_concat_142 : decode mR_concat.2.1 142 = .ok (.iconst 0, 1) := by decide +kernel
theorem dR_concat_143 : decode mR_concat.2.1 143 = .ok (.invokevirtual 117, 3) := by decide +kernel
theorem dR_concat_146 : decode mR_concat.2.1 146 = .ok (.ireturn, 1) := by decide +kernel
theorem dR_reshape_0 : decode mR_reshape.2.1 0 = .ok (.aload_n 0, 1) := by decide +kernel
theorem dR_reshape_1 : decode mR_reshape.2.1 1 = .ok (.iconst 0, 1) := by decide +kernel
theorem dR_reshape_2 : decode mR_reshape.2.1 2 = .ok (.putfield 85, 3) := by decide +kernel
theorem dR_reshape_5 : decode mR_reshape.2.1 5 = .ok (.aload_n 0, 1) := by decide +kernel
theorem dR_reshape_6 : decode mR_reshape.2.1 6 = .ok (.iload_n 1, 1) := by decide +kernel
theorem dR_reshape_7 : decode mR_reshape.2.1 7 = .ok (.aload_n 0, 1) := by decide +kernel
theorem dR_reshape_8 : decode mR_reshape.2.1 8 = .ok (.getfield 106, 3) := by decide +kernel
theorem dR_reshape_11 : decode mR_reshape.2.1 11 = .ok (.invokevirtual 94, 3) := by decide +kernel
theorem dR_reshape_14 : decode mR_reshape.2.1 14 = .ok (.ifCond .ne 52, 3) := by decide +kernel
theorem dR_reshape_17 : decode mR_reshape.2.1 17 = .ok (.aload_n 0, 1) := by decide +kernel
theorem dR_reshape_18 : decode mR_reshape.2.1 18 = .ok (.iload_n 2, 1) := by decide +kernel
theorem dR_reshape_19 : decode mR_reshape.2.1 19 = .ok (.iconst 1, 1) := by decide +kernel
theorem dR_reshape_20 : decode mR_reshape.2.1 20 = .ok (.isub, 1) := by decide +kernel
theorem dR_reshape_21 : decode mR_reshape.2.1 21 = .ok (.iconst 4, 1) := by decide +kernel
theorem dR_reshape_22 : decode mR_reshape.2.1 22 = .ok (.invokevirtual 94, 3) := by decide +kernel
theorem dR_reshape_25 : decode mR_reshape.2.1 25 = .ok (.ifCond .ne 41, 3) := by decide +kernel
theorem dR_reshape_28 : decode mR_reshape.2.1 28 = .ok (.aload_n 0, 1) := by decide +kernel
theorem dR_reshape_29 : decode mR_reshape.2.1 29 = .ok (.iload_n 3, 1) := by decide +kernel
theorem dR_reshape_30 : decode mR_reshape.2.1 30 = .ok (.iconst 1, 1) := by decide +kernel
theorem dR_reshape_31 : decode mR_reshape.2.1 31 = .ok (.isub, 1) := by decide +kernel
theorem dR_reshape_32 : decode mR_reshape.2.1 32 = .ok (.iconst 4, 1) := by decide +kernel
theorem dR_reshape_33 : decode mR_reshape.2.1 33 = .ok (.invokevirtual 94, 3) := by decide +kernel
theorem dR_reshape_36 : decode mR_reshape.2.1 36 = .ok (.ifCond .ne 30, 3) := by decide +kernel
theorem dR_reshape_39 : decode mR_reshape.2.1 39 = .ok (.aload_n 0, 1) := by decide +kernel
theorem dR_reshape_40 : decode mR_reshape.2.1 40 = .ok (.iload 4, 2) := by decide +kernel
theorem dR_reshape_42 : decode mR_reshape.2.1 42 = .ok (.iconst 1, 1) := by decide +kernel
theorem dR_reshape_43 : decode mR_reshape.2.1 43 = .ok (.isub, 1) := by decide +kernel
theorem dR_reshape_44 : decode mR_reshape.2.1 44 = .ok (.bipush 8, 2) := by decide +kernel
theorem dR_reshape_46 : decode mR_reshape.2.1 46 = .ok (.invokevirtual 94, 3) := by decide +kernel
theorem dR_reshape_49 : decode mR_reshape.2.1 49 = .ok (.ifCond .ne 17, 3) := by decide +kernel
theorem dR_reshape_52 : decode mR_reshape.2.1 52 = .ok (.iload_n 2, 1) := by decide +kernel
theorem dR_reshape_53 : decode mR_reshape.2.1 53 = .ok (.iload_n 3, 1) := by decide +kernel
theorem dR_reshape_54 : decode mR_reshape.2.1 54 = .ok (.imul, 1) := by decide +kernel
theorem dR_reshape_55 : decode mR_reshape.2.1 55 = .ok (.iload 4, 2) := by decide +kernel
theorem dR_reshape_57 : decode mR_reshape.2.1 57 = .ok (.imul, 1) := by decide +kernel
theorem dR_reshape_58 : decode mR_reshape.2.1 58 = .ok (.aload_n 0, 1) := by decide +kernel
theorem dR_reshape_59 : decode mR_reshape.2.1 59 = .ok (.iload_n 1, 1) := by decide +kernel
theorem dR_reshape_60 : decode mR_reshape.2.1 60 = .ok (.invokevirtual 137, 3) := by decide +kernel
theorem dR_reshape_63 : decode mR_reshape.2.1 63 = .ok (.if_icmp .eq 9, 3) := by decide +kernel
theorem dR_reshape_66 : decode mR_reshape.2.1 66 = .ok (.aload_n 0, 1) := by decide +kernel
theorem dR_reshape_67 : decode mR_reshape.2.1 67 = .ok (.iconst 1, 1) := by decide +kernel
theorem dR_reshape_68 : decode mR_reshape.2.1 68 = .ok (.invokevirtual 98, 3) := by decide +kernel
theorem dR_reshape_71 : decode mR_reshape.2.1 71 = .ok (.ireturn, 1) := by decide +kernel
theorem dR_reshape_72 : decode mR_reshape.2.1 72 = .ok (.aload_n 0, 1) := by decide +kernel
theorem dR_reshape_73 : decode mR_reshape.2.1 73 = .ok (.getfield 106, 3) := by decide +kernel
theorem dR_reshape_76 : decode mR_reshape.2.1 76 = .ok (.bipush 14, 2) := by decide +kernel
theorem dR_reshape_78 : decode mR_reshape.2.1 78 = .ok (.if_icmp .ne 9, 3) := by decide +kernel
theorem dR_reshape_81 : decode mR_reshape.2.1 81 = .ok (.aload_n 0, 1) := by decide +kernel
theorem dR_reshape_82 : decode mR_reshape.2.1 82 = .ok (.iconst 2, 1) := by decide +kernel
theorem dR_reshape_83 : decode mR_reshape.2.1 83 = .ok (.invokevirtual 98, 3) := by decide +kernel
theorem dR_reshape_86 : decode mR_reshape.2.1 86 = .ok (.ireturn, 1) := by decide +kernel
theorem dR_reshape_87 : decode mR_reshape.2.1 87 = .ok (.aload_n 0, 1) := by decide +kernel
theorem dR_reshape_88 : decode mR_reshape.2.1 88 = .ok (.bipush 6, 2) := by decide +kernel
theorem dR_reshape_90 : decode mR_reshape.2.1 90 = .ok (.iload_n 1, 1) := by decide +kernel
theorem dR_reshape_91 : decode mR_reshape.2.1 91 = .ok (.iconst (-1), 1) := by decide +kernel
theorem dR_reshape_92 : decode mR_reshape.2.1 92 = .ok (.iload_n 2, 1) := by decide +kernel
theorem dR_reshape_93 : decode mR_reshape.2.1 93 = .ok (.iload_n 3, 1) := by decide +kernel
theorem dR_reshape_94 : decode mR_reshape.2.1 94 = .ok (.iload 4, 2) := by decide +kernel
theorem dR_reshape_96 : decode mR_reshape.2.1 96 = .ok (.aload_n 0, 1) := by decide +kernel
theorem dR_reshape_97 : decode mR_reshape.2.1 97 = .ok (.getfield 35, 3) := by decide +kernel
theorem dR_reshape_100 : decode mR_reshape.2.1 100 = .ok (.iload_n 1, 1) := by decide +kernel
theorem dR_reshape_101 : decode mR_reshape.2.1 101 = .ok (.daload, 1) := by decide +kernel
theorem dR_reshape_102 : decode mR_reshape.2.1 102 = .ok (.invokevirtual 113, 3) := by decide +kernel
theorem dR_reshape_105 : decode mR_reshape.2.1 105 = .ok (.pop, 1) := by decide +kernel
theorem dR_reshape_106 : decode mR_reshape.2.1 106 = .ok (.aload_n 0, 1) := by decide +kernel
theorem dR_reshape_107 : decode mR_reshape.2.1 107 = .ok (.iconst 0, 1) := by decide +kernel
theorem dR_reshape_108 : decode mR_reshape.2.1 108 = .ok (.iconst 0, 1) := by decide +kernel
theorem dR_reshape_109 : decode mR_reshape.2.1 109 = .ok (.iconst 0, 1) := by decide +kernel
theorem dR_reshape_110 : decode mR_reshape.2.1 110 = .ok (.iconst 0, 1) := by decide +kernel
theorem dR_reshape_111 : decode mR_reshape.2.1 111 = .ok (.invokevirtual 117, 3) := by decide +kernel
theorem dR_reshape_114 : decode mR_reshape.2.1 114 = .ok (.ireturn, 1) := by decide +kernel
theorem dR_pool_0 : decode mR_pool.2.1 0 = .ok (.aload_n 0, 1) := by decide +kernel
theorem dR_pool_1 : decode mR_pool.2.1 1 = .ok (.iconst 0, 1) := by decide +kernel
theorem dR_pool_2 : decode mR_pool.2.1 2 = .ok (.putfield 85, 3) := by decide +kernel
theorem dR_pool_5 : decode mR_pool.2.1 5 = .ok (.aload_n 0, 1) := by decide +kernel
theorem dR_pool_6 : decode mR_pool.2.1 6 = .ok (.iload_n 1, 1) := by decide +kernel
theorem dR_pool_7 : decode mR_pool.2.1 7 = .ok (.aload_n 0, 1) := by decide +kernel
theorem dR_pool_8 : decode mR_pool.2.1 8 = .ok (.getfield 106, 3) := by decide +kernel
theorem dR_pool_11 : decode mR_pool.2.1 11 = .ok (.invokevirtual 94, 3) := by decide +kernel
theorem dR_pool_14 : decode mR_pool.2.1 14 = .ok (.ifCond .ne 22, 3) := by decide +kernel
theorem dR_pool_17 : decode mR_pool.2.1 17 = .ok (.aload_n 0, 1) := by decide +kernel
theorem dR_pool_18 : decode mR_pool.2.1 18 = .ok (.iload_n 2, 1) := by decide +kernel
theorem dR_pool_19 : decode mR_pool.2.1 19 = .ok (.bipush 12, 2) := by decide +kernel
theorem dR_pool_21 : decode mR_pool.2.1 21 = .ok (.invokevirtual 94, 3) := by decide +kernel
theorem dR_pool_24 : decode mR_pool.2.1 24 = .ok (.ifCond .ne 12, 3) := by decide +kernel
theorem dR_pool_27 : decode mR_pool.2.1 27 = .ok (.aload_n 0, 1) := by decide +kernel
theorem dR_pool_28 : decode mR_pool.2.1 28 = .ok (.iload_n 1, 1) := by decide +kernel
theorem dR_pool_29 : decode mR_pool.2.1 29 = .ok (.iload_n 2, 1) := by decide +kernel
theorem dR_pool_30 : decode mR_pool.2.1 30 = .ok (.invokevirtual 131, 3) := by decide +kernel
theorem dR_pool_33 : decode mR_pool.2.1 33 = .ok (.ifCond .eq 9, 3) := by decide +kernel
theorem dR_pool_36 : decode mR_pool.2.1 36 = .ok (.aload_n 0, 1) := by decide +kernel
theorem dR_pool_37 : decode mR_pool.2.1 37 = .ok (.iconst 1, 1) := by decide +kernel
theorem dR_pool_38 : decode mR_pool.2.1 38 = .ok (.invokevirtual 98, 3) := by decide +kernel
theorem dR_pool_41 : decode mR_pool.2.1 41 = .ok (.ireturn, 1) := by decide +kernel
theorem dR_pool_42 : decode mR_pool.2.1 42 = .ok (.aload_n 0, 1) := by decide +kernel
theorem dR_pool_43 : decode mR_pool.2.1 43 = .ok (.getfield 106, 3) := by decide +kernel
theorem dR_pool_46 : decode mR_pool.2.1 46 = .ok (.bipush 14, 2) := by decide +kernel
theorem dR_pool_48 : decode mR_pool.2.1 48 = .ok (.if_icmp .ne 9, 3) := by decide +kernel
theorem dR_pool_51 : decode mR_pool.2.1 51 = .ok (.aload_n 0, 1) := by decide +kernel
theorem dR_pool_52 : decode mR_pool.2.1 52 = .ok (.iconst 2, 1) := by decide +kernel
theorem dR_pool_53 : decode mR_pool.2.1 53 = .ok (.invokevirtual 98, 3) := by decide +kernel
theorem dR_pool_56 : decode mR_pool.2.1 56 = .ok (.ireturn, 1) := by decide +kernel
theorem dR_pool_57 : decode mR_pool.2.1 57 = .ok (.aload_n 0, 1) := by decide +kernel
theorem dR_pool_58 : decode mR_pool.2.1 58 = .ok (.iload_n 3, 1) := by decide +kernel
theorem dR_pool_59 : decode mR_pool.2.1 59 = .ok (.ifCond .eq 8, 3) := by decide +kernel
theorem dR_pool_62 : decode mR_pool.2.1 62 = .ok (.bipush 8, 2) := by decide +kernel
theorem dR_pool_64 : decode mR_pool.2.1 64 = .ok (.goto 5, 3) := by decide +kernel
theorem dR_pool_67 : decode mR_pool.2.1 67 = .ok (.bipush 7, 2) := by decide +kernel
theorem dR_pool_69 : decode mR_pool.2.1 69 = .ok (.iload_n 1, 1) := by decide +kernel
theorem dR_pool_70 : decode mR_pool.2.1 70 = .ok (.iconst (-1), 1) := by decide +kernel
theorem dR_pool_71 : decode mR_pool.2.1 71 = .ok (.aload_n 0, 1) := by decide +kernel
theorem dR_pool_72 : decode mR_pool.2.1 72 = .ok (.aload_n 0, 1) := by decide +kernel
theorem dR_pool_73 : decode mR_pool.2.1 73 = .ok (.getfield 26, 3) := by decide +kernel
theorem dR_pool_76 : decode mR_pool.2.1 76 = .ok (.iload_n 1, 1) := by decide +kernel
theorem dR_pool_77 : decode mR_pool.2.1 77 = .ok (.iaload, 1) := by decide +kernel
theorem dR_pool_78 : decode mR_pool.2.1 78 = .ok (.iload_n 2, 1) := by decide +kernel
theorem dR_pool_79 : decode mR_pool.2.1 79 = .ok (.invokevirtual 127, 3) := by decide +kernel
theorem dR_pool_82 : decode mR_pool.2.1 82 = .ok (.aload_n 0, 1) := by decide +kernel
theorem dR_pool_83 : decode mR_pool.2.1 83 = .ok (.aload_n 0, 1) := by decide +kernel
theorem dR_pool_84 : decode mR_pool.2.1 84 = .ok (.getfield 29, 3) := by decide +kernel
theorem dR_pool_87 : decode mR_pool.2.1 87 = .ok (.iload_n 1, 1) := by decide +kernel
theorem dR_pool_88 : decode mR_pool.2.1 88 = .ok (.iaload, 1) := by decide +kernel
theorem dR_pool_89 : decode mR_pool.2.1 89 = .ok (.iload_n 2, 1) := by decide +kernel
theorem dR_pool_90 : decode mR_pool.2.1 90 = .ok (.invokevirtual 127, 3) := by decide +kernel
theorem dR_pool_93 : decode mR_pool.2.1 93 = .ok (.aload_n 0, 1) := by decide +kernel
theorem dR_pool_94 : decode mR_pool.2.1 94 = .ok (.getfield 32, 3) := by decide +kernel
theorem dR_pool_97 : decode mR_pool.2.1 97 = .ok (.iload_n 1, 1) := by decide +kernel
theorem dR_pool_98 : decode mR_pool.2.1 98 = .ok (.iaload, 1) := by decide +kernel
theorem dR_pool_99 : decode mR_pool.2.1 99 = .ok (.aload_n 0, 1) := by decide +kernel
theorem dR_pool_100 : decode mR_pool.2.1 100 = .ok (.getfield 35, 3) := by decide +kernel
theorem dR_pool_103 : decode mR_pool.2.1 103 = .ok (.iload_n 1, 1) := by decide +kernel
theorem dR_pool_104 : decode mR_pool.2.1 104 = .ok (.daload, 1) := by decide +kernel
theorem dR_pool_105 : decode mR_pool.2.1 105 = .ok (.invokevirtual 113, 3) := by decide +kernel
theorem dR_pool_108 : decode mR_pool.2.1 108 = .ok (.pop, 1) := by decide +kernel
theorem dR_pool_109 : decode mR_pool.2.1 109 = .ok (.aload_n 0, 1) := by decide +kernel
theorem dR_pool_110 : decode mR_pool.2.1 110 = .ok (.iload_n 2, 1) := by decide +kernel
theorem dR_pool_111 : decode mR_pool.2.1 111 = .ok (.iconst 0, 1) := by decide +kernel
theorem dR_pool_112 : decode mR_pool.2.1 112 = .ok (.iconst 0, 1) := by decide +kernel
theorem dR_pool_113 : decode mR_pool.2.1 113 = .ok (.iconst 0, 1) := by decide +kernel
theorem dR_pool_114 : decode mR_pool.2.1 114 = .ok (.invokevirtual 117, 3) := by decide +kernel
theorem dR_pool_117 : decode mR_pool.2.1 117 = .ok (.ireturn, 1) := by decide +kernel
theorem dR_clamp_0 : decode mR_clamp.2.1 0 = .ok (.aload_n 0, 1) := by decide +kernel
theorem dR_clamp_1 : decode mR_clamp.2.1 1 = .ok (.iconst 0, 1) := by decide +kernel
theorem dR_clamp_2 : decode mR_clamp.2.1 2 = .ok (.putfield 85, 3) := by decide +kernel
theorem dR_clamp_5 : decode mR_clamp.2.1 5 = .ok (.aload_n 0, 1) := by decide +kernel
theorem dR_clamp_6 : decode mR_clamp.2.1 6 = .ok (.iload_n 1, 1) := by decide +kernel
theorem dR_clamp_7 : decode mR_clamp.2.1 7 = .ok (.aload_n 0, 1) := by decide +kernel
theorem dR_clamp_8 : decode mR_clamp.2.1 8 = .ok (.getfield 106, 3) := by decide +kernel
theorem dR_clamp_11 : decode mR_clamp.2.1 11 = .ok (.invokevirtual 94, 3) := by decide +kernel
theorem dR_clamp_14 : decode mR_clamp.2.1 14 = .ok (.ifCond .ne 20, 3) := by decide +kernel
theorem dR_clamp_17 : decode mR_clamp.2.1 17 = .ok (.iload_n 2, 1) := by decide +kernel
theorem dR_clamp_18 : decode mR_clamp.2.1 18 = .ok (.bipush (-128), 2) := by decide +kernel
theorem dR_clamp_20 : decode mR_clamp.2.1 20 = .ok (.if_icmp .lt 14, 3) := by decide +kernel
theorem dR_clamp_23 : decode mR_clamp.2.1 23 = .ok (.iload_n 3, 1) := by decide +kernel
theorem dR_clamp_24 : decode mR_clamp.2.1 24 = .ok (.iload_n 2, 1) := by decide +kernel
theorem dR_clamp_25 : decode mR_clamp.2.1 25 = .ok (.if_icmp .lt 9, 3) := by decide +kernel
theorem dR_clamp_28 : decode mR_clamp.2.1 28 = .ok (.iload_n 3, 1) := by decide +kernel
theorem dR_clamp_29 : decode mR_clamp.2.1 29 = .ok (.bipush 127, 2) := by decide +kernel
theorem dR_clamp_31 : decode mR_clamp.2.1 31 = .ok (.if_icmp .le 9, 3) := by decide +kernel
theorem dR_clamp_34 : decode mR_clamp.2.1 34 = .ok (.aload_n 0, 1) := by decide +kernel
theorem dR_clamp_35 : decode mR_clamp.2.1 35 = .ok (.iconst 1, 1) := by decide +kernel
theorem dR_clamp_36 : decode mR_clamp.2.1 36 = .ok (.invokevirtual 98, 3) := by decide +kernel
theorem dR_clamp_39 : decode mR_clamp.2.1 39 = .ok (.ireturn, 1) := by decide +kernel
theorem dR_clamp_40 : decode mR_clamp.2.1 40 = .ok (.aload_n 0, 1) := by decide +kernel
theorem dR_clamp_41 : decode mR_clamp.2.1 41 = .ok (.getfield 106, 3) := by decide +kernel
theorem dR_clamp_44 : decode mR_clamp.2.1 44 = .ok (.bipush 14, 2) := by decide +kernel
theorem dR_clamp_46 : decode mR_clamp.2.1 46 = .ok (.if_icmp .ne 9, 3) := by decide +kernel
theorem dR_clamp_49 : decode mR_clamp.2.1 49 = .ok (.aload_n 0, 1) := by decide +kernel
theorem dR_clamp_50 : decode mR_clamp.2.1 50 = .ok (.iconst 2, 1) := by decide +kernel
theorem dR_clamp_51 : decode mR_clamp.2.1 51 = .ok (.invokevirtual 98, 3) := by decide +kernel
theorem dR_clamp_54 : decode mR_clamp.2.1 54 = .ok (.ireturn, 1) := by decide +kernel
theorem dR_clamp_55 : decode mR_clamp.2.1 55 = .ok (.aload_n 0, 1) := by decide +kernel
theorem dR_clamp_56 : decode mR_clamp.2.1 56 = .ok (.bipush 9, 2) := by decide +kernel
theorem dR_clamp_58 : decode mR_clamp.2.1 58 = .ok (.iload_n 1, 1) := by decide +kernel
theorem dR_clamp_59 : decode mR_clamp.2.1 59 = .ok (.iconst (-1), 1) := by decide +kernel
theorem dR_clamp_60 : decode mR_clamp.2.1 60 = .ok (.aload_n 0, 1) := by decide +kernel
theorem dR_clamp_61 : decode mR_clamp.2.1 61 = .ok (.getfield 26, 3) := by decide +kernel
theorem dR_clamp_64 : decode mR_clamp.2.1 64 = .ok (.iload_n 1, 1) := by decide +kernel
theorem dR_clamp_65 : decode mR_clamp.2.1 65 = .ok (.iaload, 1) := by decide +kernel
theorem dR_clamp_66 : decode mR_clamp.2.1 66 = .ok (.aload_n 0, 1) := by decide +kernel
theorem dR_clamp_67 : decode mR_clamp.2.1 67 = .ok (.getfield 29, 3) := by decide +kernel
theorem dR_clamp_70 : decode mR_clamp.2.1 70 = .ok (.iload_n 1, 1) := by decide +kernel
theorem dR_clamp_71 : decode mR_clamp.2.1 71 = .ok (.iaload, 1) := by decide +kernel
theorem dR_clamp_72 : decode mR_clamp.2.1 72 = .ok (.aload_n 0, 1) := by decide +kernel
theorem dR_clamp_73 : decode mR_clamp.2.1 73 = .ok (.getfield 32, 3) := by decide +kernel
theorem dR_clamp_76 : decode mR_clamp.2.1 76 = .ok (.iload_n 1, 1) := by decide +kernel
theorem dR_clamp_77 : decode mR_clamp.2.1 77 = .ok (.iaload, 1) := by decide +kernel
theorem dR_clamp_78 : decode mR_clamp.2.1 78 = .ok (.aload_n 0, 1) := by decide +kernel
theorem dR_clamp_79 : decode mR_clamp.2.1 79 = .ok (.getfield 35, 3) := by decide +kernel
theorem dR_clamp_82 : decode mR_clamp.2.1 82 = .ok (.iload_n 1, 1) := by decide +kernel
theorem dR_clamp_83 : decode mR_clamp.2.1 83 = .ok (.daload, 1) := by decide +kernel
theorem dR_clamp_84 : decode mR_clamp.2.1 84 = .ok (.invokevirtual 113, 3) := by decide +kernel
theorem dR_clamp_87 : decode mR_clamp.2.1 87 = .ok (.pop, 1) := by decide +kernel
theorem dR_clamp_88 : decode mR_clamp.2.1 88 = .ok (.aload_n 0, 1) := by decide +kernel
theorem dR_clamp_89 : decode mR_clamp.2.1 89 = .ok (.iconst 0, 1) := by decide +kernel
theorem dR_clamp_90 : decode mR_clamp.2.1 90 = .ok (.iconst 0, 1) := by decide +kernel
theorem dR_clamp_91 : decode mR_clamp.2.1 91 = .ok (.iload_n 2, 1) := by decide +kernel
theorem dR_clamp_92 : decode mR_clamp.2.1 92 = .ok (.iload_n 3, 1) := by decide +kernel
theorem dR_clamp_93 : decode mR_clamp.2.1 93 = .ok (.invokevirtual 117, 3) := by decide +kernel
theorem dR_clamp_96 : decode mR_clamp.2.1 96 = .ok (.ireturn, 1) := by decide +kernel
theorem dR_rescale_0 : decode mR_rescale.2.1 0 = .ok (.aload_n 0, 1) := by decide +kernel
theorem dR_rescale_1 : decode mR_rescale.2.1 1 = .ok (.iconst 0, 1) := by decide +kernel
theorem dR_rescale_2 : decode mR_rescale.2.1 2 = .ok (.putfield 85, 3) := by decide +kernel
theorem dR_rescale_5 : decode mR_rescale.2.1 5 = .ok (.aload_n 0, 1) := by decide +kernel
theorem dR_rescale_6 : decode mR_rescale.2.1 6 = .ok (.iload_n 1, 1) := by decide +kernel
theorem dR_rescale_7 : decode mR_rescale.2.1 7 = .ok (.aload_n 0, 1) := by decide +kernel
theorem dR_rescale_8 : decode mR_rescale.2.1 8 = .ok (.getfield 106, 3) := by decide +kernel
theorem dR_rescale_11 : decode mR_rescale.2.1 11 = .ok (.invokevirtual 94, 3) := by decide +kernel
theorem dR_rescale_14 : decode mR_rescale.2.1 14 = .ok (.ifCond .ne 11, 3) := by decide +kernel
theorem dR_rescale_17 : decode mR_rescale.2.1 17 = .ok (.aload_n 0, 1) := by decide +kernel
theorem dR_rescale_18 : decode mR_rescale.2.1 18 = .ok (.dload_n 2, 1) := by decide +kernel
theorem dR_rescale_19 : decode mR_rescale.2.1 19 = .ok (.invokevirtual 102, 3) := by decide +kernel
theorem dR_rescale_22 : decode mR_rescale.2.1 22 = .ok (.ifCond .eq 9, 3) := by decide +kernel
theorem dR_rescale_25 : decode mR_rescale.2.1 25 = .ok (.aload_n 0, 1) := by decide +kernel
theorem dR_rescale_26 : decode mR_rescale.2.1 26 = .ok (.iconst 1, 1) := by decide +kernel
theorem dR_rescale_27 : decode mR_rescale.2.1 27 = .ok (.invokevirtual 98, 3) := by decide +kernel
theorem dR_rescale_30 : decode mR_rescale.2.1 30 = .ok (.ireturn, 1) := by decide +kernel
theorem dR_rescale_31 : decode mR_rescale.2.1 31 = .ok (.aload_n 0, 1) := by decide +kernel
theorem dR_rescale_32 : decode mR_rescale.2.1 32 = .ok (.aload_n 0, 1) := by decide +kernel
theorem dR_rescale_33 : decode mR_rescale.2.1 33 = .ok (.getfield 35, 3) := by decide +kernel
theorem dR_rescale_36 : decode mR_rescale.2.1 36 = .ok (.iload_n 1, 1) := by decide +kernel
theorem dR_rescale_37 : decode mR_rescale.2.1 37 = .ok (.daload, 1) := by decide +kernel
theorem dR_rescale_38 : decode mR_rescale.2.1 38 = .ok (.dload_n 2, 1) := by decide +kernel
theorem dR_rescale_39 : decode mR_rescale.2.1 39 = .ok (.ddiv, 1) := by decide +kernel
theorem dR_rescale_40 : decode mR_rescale.2.1 40 = .ok (.invokevirtual 134, 3) := by decide +kernel
theorem dR_rescale_43 : decode mR_rescale.2.1 43 = .ok (.ifCond .eq 9, 3) := by decide +kernel
theorem dR_rescale_46 : decode mR_rescale.2.1 46 = .ok (.aload_n 0, 1) := by decide +kernel
theorem dR_rescale_47 : decode mR_rescale.2.1 47 = .ok (.iconst 2, 1) := by decide +kernel
theorem dR_rescale_48 : decode mR_rescale.2.1 48 = .ok (.invokevirtual 98, 3) := by decide +kernel
theorem dR_rescale_51 : decode mR_rescale.2.1 51 = .ok (.ireturn, 1) := by decide +kernel
theorem dR_rescale_52 : decode mR_rescale.2.1 52 = .ok (.aload_n 0, 1) := by decide +kernel
theorem dR_rescale_53 : decode mR_rescale.2.1 53 = .ok (.getfield 106, 3) := by decide +kernel
theorem dR_rescale_56 : decode mR_rescale.2.1 56 = .ok (.bipush 14, 2) := by decide +kernel
theorem dR_rescale_58 : decode mR_rescale.2.1 58 = .ok (.if_icmp .ne 9, 3) := by decide +kernel
theorem dR_rescale_61 : decode mR_rescale.2.1 61 = .ok (.aload_n 0, 1) := by decide +kernel
theorem dR_rescale_62 : decode mR_rescale.2.1 62 = .ok (.iconst 3, 1) := by decide +kernel
theorem dR_rescale_63 : decode mR_rescale.2.1 63 = .ok (.invokevirtual 98, 3) := by decide +kernel
theorem dR_rescale_66 : decode mR_rescale.2.1 66 = .ok (.ireturn, 1) := by decide +kernel
theorem dR_rescale_67 : decode mR_rescale.2.1 67 = .ok (.aload_n 0, 1) := by decide +kernel
theorem dR_rescale_68 : decode mR_rescale.2.1 68 = .ok (.bipush 10, 2) := by decide +kernel
theorem dR_rescale_70 : decode mR_rescale.2.1 70 = .ok (.iload_n 1, 1) := by decide +kernel
theorem dR_rescale_71 : decode mR_rescale.2.1 71 = .ok (.iconst (-1), 1) := by decide +kernel
theorem dR_rescale_72 : decode mR_rescale.2.1 72 = .ok (.aload_n 0, 1) := by decide +kernel
theorem dR_rescale_73 : decode mR_rescale.2.1 73 = .ok (.getfield 26, 3) := by decide +kernel
theorem dR_rescale_76 : decode mR_rescale.2.1 76 = .ok (.iload_n 1, 1) := by decide +kernel
theorem dR_rescale_77 : decode mR_rescale.2.1 77 = .ok (.iaload, 1) := by decide +kernel
theorem dR_rescale_78 : decode mR_rescale.2.1 78 = .ok (.aload_n 0, 1) := by decide +kernel
theorem dR_rescale_79 : decode mR_rescale.2.1 79 = .ok (.getfield 29, 3) := by decide +kernel
theorem dR_rescale_82 : decode mR_rescale.2.1 82 = .ok (.iload_n 1, 1) := by decide +kernel
theorem dR_rescale_83 : decode mR_rescale.2.1 83 = .ok (.iaload, 1) := by decide +kernel
theorem dR_rescale_84 : decode mR_rescale.2.1 84 = .ok (.aload_n 0, 1) := by decide +kernel
theorem dR_rescale_85 : decode mR_rescale.2.1 85 = .ok (.getfield 32, 3) := by decide +kernel
theorem dR_rescale_88 : decode mR_rescale.2.1 88 = .ok (.iload_n 1, 1) := by decide +kernel
theorem dR_rescale_89 : decode mR_rescale.2.1 89 = .ok (.iaload, 1) := by decide +kernel
theorem dR_rescale_90 : decode mR_rescale.2.1 90 = .ok (.dload_n 2, 1) := by decide +kernel
theorem dR_rescale_91 : decode mR_rescale.2.1 91 = .ok (.invokevirtual 113, 3) := by decide +kernel
theorem dR_rescale_94 : decode mR_rescale.2.1 94 = .ok (.pop, 1) := by decide +kernel
theorem dR_rescale_95 : decode mR_rescale.2.1 95 = .ok (.aload_n 0, 1) := by decide +kernel
theorem dR_rescale_96 : decode mR_rescale.2.1 96 = .ok (.iconst 0, 1) := by decide +kernel
theorem dR_rescale_97 : decode mR_rescale.2.1 97 = .ok (.iconst 0, 1) := by decide +kernel
theorem dR_rescale_98 : decode mR_rescale.2.1 98 = .ok (.iconst 0, 1) := by decide +kernel
theorem dR_rescale_99 : decode mR_rescale.2.1 99 = .ok (.iconst 0, 1) := by decide +kernel
theorem dR_rescale_100 : decode mR_rescale.2.1 100 = .ok (.invokevirtual 117, 3) := by decide +kernel
theorem dR_rescale_103 : decode mR_rescale.2.1 103 = .ok (.ireturn, 1) := by decide +kernel
theorem dR_output_0 : decode mR_output.2.1 0 = .ok (.aload_n 0, 1) := by decide +kernel
theorem dR_output_1 : decode mR_output.2.1 1 = .ok (.iconst 0, 1) := by decide +kernel
theorem dR_output_2 : decode mR_output.2.1 2 = .ok (.putfield 85, 3) := by decide +kernel
theorem dR_output_5 : decode mR_output.2.1 5 = .ok (.aload_n 0, 1) := by decide +kernel
theorem dR_output_6 : decode mR_output.2.1 6 = .ok (.iload_n 1, 1) := by decide +kernel
theorem dR_output_7 : decode mR_output.2.1 7 = .ok (.aload_n 0, 1) := by decide +kernel
theorem dR_output_8 : decode mR_output.2.1 8 = .ok (.getfield 106, 3) := by decide +kernel
theorem dR_output_11 : decode mR_output.2.1 11 = .ok (.invokevirtual 94, 3) := by decide +kernel
theorem dR_output_14 : decode mR_output.2.1 14 = .ok (.ifCond .eq 9, 3) := by decide +kernel
theorem dR_output_17 : decode mR_output.2.1 17 = .ok (.aload_n 0, 1) := by decide +kernel
theorem dR_output_18 : decode mR_output.2.1 18 = .ok (.iconst 1, 1) := by decide +kernel
theorem dR_output_19 : decode mR_output.2.1 19 = .ok (.invokevirtual 98, 3) := by decide +kernel
theorem dR_output_22 : decode mR_output.2.1 22 = .ok (.ireturn, 1) := by decide +kernel
theorem dR_output_23 : decode mR_output.2.1 23 = .ok (.aload_n 0, 1) := by decide +kernel
theorem dR_output_24 : decode mR_output.2.1 24 = .ok (.iload_n 1, 1) := by decide +kernel
theorem dR_output_25 : decode mR_output.2.1 25 = .ok (.putfield 60, 3) := by decide +kernel
theorem dR_output_28 : decode mR_output.2.1 28 = .ok (.aload_n 0, 1) := by decide +kernel
theorem dR_output_29 : decode mR_output.2.1 29 = .ok (.iconst 0, 1) := by decide +kernel
theorem dR_output_30 : decode mR_output.2.1 30 = .ok (.putfield 109, 3) := by decide +kernel
theorem dR_output_33 : decode mR_output.2.1 33 = .ok (.aload_n 0, 1) := by decide +kernel
theorem dR_output_34 : decode mR_output.2.1 34 = .ok (.iload_n 1, 1) := by decide +kernel
theorem dR_output_35 : decode mR_output.2.1 35 = .ok (.invokevirtual 137, 3) := by decide +kernel
theorem dR_output_38 : decode mR_output.2.1 38 = .ok (.ireturn, 1) := by decide +kernel
theorem dR_compile_0 : decode mR_compile.2.1 0 = .ok (.aload_n 0, 1) := by decide +kernel
theorem dR_compile_1 : decode mR_compile.2.1 1 = .ok (.iconst 0, 1) := by decide +kernel
theorem dR_compile_2 : decode mR_compile.2.1 2 = .ok (.putfield 85, 3) := by decide +kernel
theorem dR_compile_5 : decode mR_compile.2.1 5 = .ok (.aload_n 0, 1) := by decide +kernel
theorem dR_compile_6 : decode mR_compile.2.1 6 = .ok (.getfield 60, 3) := by decide +kernel
theorem dR_compile_9 : decode mR_compile.2.1 9 = .ok (.ifCond .ge 9, 3) := by decide +kernel
theorem dR_compile_12 : decode mR_compile.2.1 12 = .ok (.aload_n 0, 1) := by decide +kernel
theorem dR_compile_13 : decode mR_compile.2.1 13 = .ok (.iconst 1, 1) := by decide +kernel
theorem dR_compile_14 : decode mR_compile.2.1 14 = .ok (.invokevirtual 98, 3) := by decide +kernel
theorem dR_compile_17 : decode mR_compile.2.1 17 = .ok (.ireturn, 1) := by decide +kernel
theorem dR_compile_18 : decode mR_compile.2.1 18 = .ok (.iconst 0, 1) := by decide +kernel
theorem dR_compile_19 : decode mR_compile.2.1 19 = .ok (.istore_n 1, 1) := by decide +kernel
theorem dR_compile_20 : decode mR_compile.2.1 20 = .ok (.iload_n 1, 1) := by decide +kernel
theorem dR_compile_21 : decode mR_compile.2.1 21 = .ok (.aload_n 0, 1) := by decide +kernel
theorem dR_compile_22 : decode mR_compile.2.1 22 = .ok (.getfield 106, 3) := by decide +kernel
theorem dR_compile_25 : decode mR_compile.2.1 25 = .ok (.if_icmp .ge 14, 3) := by decide +kernel
theorem dR_compile_28 : decode mR_compile.2.1 28 = .ok (.aload_n 0, 1) := by decide +kernel
theorem dR_compile_29 : decode mR_compile.2.1 29 = .ok (.iload_n 1, 1) := by decide +kernel
theorem dR_compile_30 : decode mR_compile.2.1 30 = .ok (.invokevirtual 165, 3) := by decide +kernel
theorem dR_compile_33 : decode mR_compile.2.1 33 = .ok (.iinc 1 1, 3) := by decide +kernel
theorem dR_compile_36 : decode mR_compile.2.1 36 = .ok (.goto (-16), 3) := by decide +kernel
theorem dR_compile_39 : decode mR_compile.2.1 39 = .ok (.aload_n 0, 1) := by decide +kernel
theorem dR_compile_40 : decode mR_compile.2.1 40 = .ok (.invokevirtual 169, 3) := by decide +kernel
theorem dR_compile_43 : decode mR_compile.2.1 43 = .ok (.aload_n 0, 1) := by decide +kernel
theorem dR_compile_44 : decode mR_compile.2.1 44 = .ok (.invokevirtual 172, 3) := by decide +kernel
theorem dR_compile_47 : decode mR_compile.2.1 47 = .ok (.aload_n 0, 1) := by decide +kernel
theorem dR_compile_48 : decode mR_compile.2.1 48 = .ok (.invokevirtual 175, 3) := by decide +kernel
theorem dR_compile_51 : decode mR_compile.2.1 51 = .ok (.aload_n 0, 1) := by decide +kernel
theorem dR_compile_52 : decode mR_compile.2.1 52 = .ok (.iconst 1, 1) := by decide +kernel
theorem dR_compile_53 : decode mR_compile.2.1 53 = .ok (.putfield 109, 3) := by decide +kernel
theorem dR_compile_56 : decode mR_compile.2.1 56 = .ok (.aload_n 0, 1) := by decide +kernel
theorem dR_compile_57 : decode mR_compile.2.1 57 = .ok (.getfield 152, 3) := by decide +kernel
theorem dR_compile_60 : decode mR_compile.2.1 60 = .ok (.ireturn, 1) := by decide +kernel
theorem dR_findStands_0 : decode mR_findStands.2.1 0 = .ok (.aload_n 0, 1) := by decide +kernel
theorem dR_findStands_1 : decode mR_findStands.2.1 1 = .ok (.aload_n 0, 1) := by decide +kernel
theorem dR_findStands_2 : decode mR_findStands.2.1 2 = .ok (.getfield 20, 3) := by decide +kernel
theorem dR_findStands_5 : decode mR_findStands.2.1 5 = .ok (.iload_n 1, 1) := by decide +kernel
theorem dR_findStands_6 : decode mR_findStands.2.1 6 = .ok (.iaload, 1) := by decide +kernel
theorem dR_findStands_7 : decode mR_findStands.2.1 7 = .ok (.invokevirtual 143, 3) := by decide +kernel
theorem dR_findStands_10 : decode mR_findStands.2.1 10 = .ok (.istore_n 2, 1) := by decide +kernel
theorem dR_findStands_11 : decode mR_findStands.2.1 11 = .ok (.aload_n 0, 1) := by decide +kernel
theorem dR_findStands_12 : decode mR_findStands.2.1 12 = .ok (.getfield 64, 3) := by decide +kernel
theorem dR_findStands_15 : decode mR_findStands.2.1 15 = .ok (.iload_n 1, 1) := by decide +kernel
theorem dR_findStands_16 : decode mR_findStands.2.1 16 = .ok (.iload_n 1, 1) := by decide +kernel
theorem dR_findStands_17 : decode mR_findStands.2.1 17 = .ok (.iastore, 1) := by decide +kernel
theorem dR_findStands_18 : decode mR_findStands.2.1 18 = .ok (.aload_n 0, 1) := by decide +kernel
theorem dR_findStands_19 : decode mR_findStands.2.1 19 = .ok (.getfield 17, 3) := by decide +kernel
theorem dR_findStands_22 : decode mR_findStands.2.1 22 = .ok (.iload_n 1, 1) := by decide +kernel
theorem dR_findStands_23 : decode mR_findStands.2.1 23 = .ok (.iaload, 1) := by decide +kernel
theorem dR_findStands_24 : decode mR_findStands.2.1 24 = .ok (.bipush 6, 2) := by decide +kernel
theorem dR_findStands_26 : decode mR_findStands.2.1 26 = .ok (.if_icmp .ne 31, 3) := by decide +kernel
theorem dR_findStands_29 : decode mR_findStands.2.1 29 = .ok (.aload_n 0, 1) := by decide +kernel
theorem dR_findStands_30 : decode mR_findStands.2.1 30 = .ok (.iload_n 1, 1) := by decide +kernel
theorem dR_findStands_31 : decode mR_findStands.2.1 31 = .ok (.iload_n 2, 1) := by decide +kernel
theorem dR_findStands_32 : decode mR_findStands.2.1 32 = .ok (.invokevirtual 140, 3) := by decide +kernel
theorem dR_findStands_35 : decode mR_findStands.2.1 35 = .ok (.ifCond .eq 22, 3) := by decide +kernel
theorem dR_findStands_38 : decode mR_findStands.2.1 38 = .ok (.aload_n 0, 1) := by decide +kernel
theorem dR_findStands_39 : decode mR_findStands.2.1 39 = .ok (.getfield 32, 3) := by decide +kernel
theorem dR_findStands_42 : decode mR_findStands.2.1 42 = .ok (.iload_n 1, 1) := by decide +kernel
theorem dR_findStands_43 : decode mR_findStands.2.1 43 = .ok (.iaload, 1) := by decide +kernel
theorem dR_findStands_44 : decode mR_findStands.2.1 44 = .ok (.aload_n 0, 1) := by decide +kernel
theorem dR_findStands_45 : decode mR_findStands.2.1 45 = .ok (.getfield 32, 3) := by decide +kernel
theorem dR_findStands_48 : decode mR_findStands.2.1 48 = .ok (.iload_n 2, 1) := by decide +kernel
theorem dR_findStands_49 : decode mR_findStands.2.1 49 = .ok (.iaload, 1) := by decide +kernel
theorem dR_findStands_50 : decode mR_findStands.2.1 50 = .ok (.if_icmp .ne 7, 3) := by decide +kernel
theorem dR_findStands_53 : decode mR_findStands.2.1 53 = .ok (.iconst 1, 1) := by decide +kernel
theorem dR_findStands_54 : decode mR_findStands.2.1 54 = .ok (.goto 4, 3) := by decide +kernel
theorem dR_findStands_57 : decode mR_findStands.2.1 57 = .ok (.iconst 0, 1) := by decide +kernel
theorem dR_findStands_58 : decode mR_findStands.2.1 58 = .ok (.istore_n 3, 1) := by decide +kernel
theorem dR_findStands_59 : decode mR_findStands.2.1 59 = .ok (.iload_n 3, 1) := by decide +kernel
theorem dR_findStands_60 : decode mR_findStands.2.1 60 = .ok (.aload_n 0, 1) := by decide +kernel
theorem dR_findStands_61 : decode mR_findStands.2.1 61 = .ok (.getfield 17, 3) := by decide +kernel
theorem dR_findStands_64 : decode mR_findStands.2.1 64 = .ok (.iload_n 1, 1) := by decide +kernel
theorem dR_findStands_65 : decode mR_findStands.2.1 65 = .ok (.iaload, 1) := by decide +kernel
theorem dR_findStands_66 : decode mR_findStands.2.1 66 = .ok (.bipush 9, 2) := by decide +kernel
theorem dR_findStands_68 : decode mR_findStands.2.1 68 = .ok (.if_icmp .ne 29, 3) := by decide +kernel
theorem dR_findStands_71 : decode mR_findStands.2.1 71 = .ok (.aload_n 0, 1) := by decide +kernel
theorem dR_findStands_72 : decode mR_findStands.2.1 72 = .ok (.getfield 48, 3) := by decide +kernel
theorem dR_findStands_75 : decode mR_findStands.2.1 75 = .ok (.iload_n 1, 1) := by decide +kernel
theorem dR_findStands_76 : decode mR_findStands.2.1 76 = .ok (.iaload, 1) := by decide +kernel
theorem dR_findStands_77 : decode mR_findStands.2.1 77 = .ok (.bipush (-128), 2) := by decide +kernel
theorem dR_findStands_79 : decode mR_findStands.2.1 79 = .ok (.if_icmp .ne 18, 3) := by decide +kernel
theorem dR_findStands_82 : decode mR_findStands.2.1 82 = .ok (.aload_n 0, 1) := by decide +kernel
theorem dR_findStands_83 : decode mR_findStands.2.1 83 = .ok (.getfield 51, 3) := by decide +kernel
theorem dR_findStands_86 : decode mR_findStands.2.1 86 = .ok (.iload_n 1, 1) := by decide +kernel
theorem dR_findStands_87 : decode mR_findStands.2.1 87 = .ok (.iaload, 1) := by decide +kernel
theorem dR_findStands_88 : decode mR_findStands.2.1 88 = .ok (.bipush 127, 2) := by decide +kernel
theorem dR_findStands_90 : decode mR_findStands.2.1 90 = .ok (.if_icmp .ne 7, 3) := by decide +kernel
theorem dR_findStands_93 : decode mR_findStands.2.1 93 = .ok (.iconst 1, 1) := by decide +kernel
theorem dR_findStands_94 : decode mR_findStands.2.1 94 = .ok (.goto 4, 3) := by decide +kernel
theorem dR_findStands_97 : decode mR_findStands.2.1 97 = .ok (.iconst 0, 1) := by decide +kernel
theorem dR_findStands_98 : decode mR_findStands.2.1 98 = .ok (.ior, 1) := by decide +kernel
theorem dR_findStands_99 : decode mR_findStands.2.1 99 = .ok (.istore_n 3, 1) := by decide +kernel
theorem dR_findStands_100 : decode mR_findStands.2.1 100 = .ok (.iload_n 3, 1) := by decide +kernel
theorem dR_findStands_101 : decode mR_findStands.2.1 101 = .ok (.aload_n 0, 1) := by decide +kernel
theorem dR_findStands_102 : decode mR_findStands.2.1 102 = .ok (.getfield 17, 3) := by decide +kernel
theorem dR_findStands_105 : decode mR_findStands.2.1 105 = .ok (.iload_n 1, 1) := by decide +kernel
theorem dR_findStands_106 : decode mR_findStands.2.1 106 = .ok (.iaload, 1) := by decide +kernel
theorem dR_findStands_107 : decode mR_findStands.2.1 107 = .ok (.bipush 10, 2) := by decide +kernel
theorem dR_findStands_109 : decode mR_findStands.2.1 109 = .ok (.if_icmp .ne 23, 3) := by decide +kernel
theorem dR_findStands_112 : decode mR_findStands.2.1 112 = .ok (.aload_n 0, 1) := by decide +kernel
theorem dR_findStands_113 : decode mR_findStands.2.1 113 = .ok (.getfield 35, 3) := by decide +kernel
theorem dR_findStands_116 : decode mR_findStands.2.1 116 = .ok (.iload_n 1, 1) := by decide +kernel
theorem dR_findStands_117 : decode mR_findStands.2.1 117 = .ok (.daload, 1) := by decide +kernel
theorem dR_findStands_118 : decode mR_findStands.2.1 118 = .ok (.aload_n 0, 1) := by decide +kernel
theorem dR_findStands_119 : decode mR_findStands.2.1 119 = .ok (.getfield 35, 3) := by decide +kernel
theorem dR_findStands_122 : decode mR_findStands.2.1 122 = .ok (.iload_n 2, 1) := by decide +kernel
theorem dR_findStands_123 : decode mR_findStands.2.1 123 = .ok (.daload, 1) := by decide +kernel
theorem dR_findStands_124 : decode mR_findStands.2.1 124 = .ok (.dcmp .l, 1) := by decide +kernel
theorem dR_findStands_125 : decode mR_findStands.2.1 125 = .ok (.ifCond .ne 7, 3) := by decide +kernel
theorem dR_findStands_128 : decode mR_findStands.2.1 128 = .ok (.iconst 1, 1) := by decide +kernel
theorem dR_findStands_129 : decode mR_findStands.2.1 129 = .ok (.goto 4, 3) := by decide +kernel
theorem dR_findStands_132 : decode mR_findStands.2.1 132 = .ok (.iconst 0, 1) := by decide +kernel
theorem dR_findStands_133 : decode mR_findStands.2.1 133 = .ok (.ior, 1) := by decide +kernel
theorem dR_findStands_134 : decode mR_findStands.2.1 134 = .ok (.istore_n 3, 1) := by decide +kernel
theorem dR_findStands_135 : decode mR_findStands.2.1 135 = .ok (.iload_n 3, 1) := by decide +kernel
theorem dR_findStands_136 : decode mR_findStands.2.1 136 = .ok (.ifCond .eq 11, 3) := by decide +kernel
theorem dR_findStands_139 : decode mR_findStands.2.1 139 = .ok (.aload_n 0, 1) := by decide +kernel
theorem dR_findStands_140 : decode mR_findStands.2.1 140 = .ok (.getfield 64, 3) := by decide +kernel
theorem dR_findStands_143 : decode mR_findStands.2.1 143 = .ok (.iload_n 1, 1) := by decide +kernel
theorem dR_findStands_144 : decode mR_findStands.2.1 144 = .ok (.iload_n 2, 1) := by decide +kernel
theorem dR_findStands_145 : decode mR_findStands.2.1 145 = .ok (.iastore, 1) := by decide +kernel
theorem dR_findStands_146 : decode mR_findStands.2.1 146 = .ok (.return_, 1) := by decide +kernel
theorem dR_findStands_147 : decode mR_findStands.2.1 147 = .ok (.iconst 0, 1) := by decide +kernel
theorem dR_findStands_148 : decode mR_findStands.2.1 148 = .ok (.istore 4, 2) := by decide +kernel
theorem dR_findStands_150 : decode mR_findStands.2.1 150 = .ok (.iload 4, 2) := by decide +kernel
theorem dR_findStands_152 : decode mR_findStands.2.1 152 = .ok (.iload_n 1, 1) := by decide +kernel
theorem dR_findStands_153 : decode mR_findStands.2.1 153 = .ok (.if_icmp .ge 49, 3) := by decide +kernel
theorem dR_findStands_156 : decode mR_findStands.2.1 156 = .ok (.aload_n 0, 1) := by decide +kernel
theorem dR_findStands_157 : decode mR_findStands.2.1 157 = .ok (.getfield 17, 3) := by decide +kernel
theorem dR_findStands_160 : decode mR_findStands.2.1 160 = .ok (.iload_n 1, 1) := by decide +kernel
theorem dR_findStands_161 : decode mR_findStands.2.1 161 = .ok (.iaload, 1) := by decide +kernel
theorem dR_findStands_162 : decode mR_findStands.2.1 162 = .ok (.ifCond .eq 40, 3) := by decide +kernel
theorem dR_findStands_165 : decode mR_findStands.2.1 165 = .ok (.aload_n 0, 1) := by decide +kernel
theorem dR_findStands_166 : decode mR_findStands.2.1 166 = .ok (.getfield 64, 3) := by decide +kernel
theorem dR_findStands_169 : decode mR_findStands.2.1 169 = .ok (.iload 4, 2) := by decide +kernel
theorem dR_findStands_171 : decode mR_findStands.2.1 171 = .ok (.iaload, 1) := by decide +kernel
theorem dR_findStands_172 : decode mR_findStands.2.1 172 = .ok (.iload 4, 2) := by decide +kernel
theorem dR_findStands_174 : decode mR_findStands.2.1 174 = .ok (.if_icmp .ne 22, 3) := by decide +kernel
theorem dR_findStands_177 : decode mR_findStands.2.1 177 = .ok (.aload_n 0, 1) := by decide +kernel
theorem dR_findStands_178 : decode mR_findStands.2.1 178 = .ok (.iload_n 1, 1) := by decide +kernel
theorem dR_findStands_179 : decode mR_findStands.2.1 179 = .ok (.iload 4, 2) := by decide +kernel
theorem dR_findStands_181 : decode mR_findStands.2.1 181 = .ok (.invokevirtual 146, 3) := by decide +kernel
theorem dR_findStands_184 : decode mR_findStands.2.1 184 = .ok (.ifCond .eq 12, 3) := by decide +kernel
theorem dR_findStands_187 : decode mR_findStands.2.1 187 = .ok (.aload_n 0, 1) := by decide +kernel
theorem dR_findStands_188 : decode mR_findStands.2.1 188 = .ok (.getfield 64, 3) := by decide +kernel
theorem dR_findStands_191 : decode mR_findStands.2.1 191 = .ok (.iload_n 1, 1) := by decide +kernel
theorem dR_findStands_192 : decode mR_findStands.2.1 192 = .ok (.iload 4, 2) := by decide +kernel
theorem dR_findStands_194 : decode mR_findStands.2.1 194 = .ok (.iastore, 1) := by decide +kernel
theorem dR_findStands_195 : decode mR_findStands.2.1 195 = .ok (.return_, 1) := by decide +kernel
theorem dR_findStands_196 : decode mR_findStands.2.1 196 = .ok (.iinc 4 1, 3) := by decide +kernel
theorem dR_findStands_199 : decode mR_findStands.2.1 199 = .ok (.goto (-49), 3) := by decide +kernel
theorem dR_findStands_202 : decode mR_findStands.2.1 202 = .ok (.return_, 1) := by decide +kernel
theorem dR_standFor_0 : decode mR_standFor.2.1 0 = .ok (.iload_n 1, 1) := by decide +kernel
theorem dR_standFor_1 : decode mR_standFor.2.1 1 = .ok (.ifCond .ge 7, 3) := by decide +kernel
theorem dR_standFor_4 : decode mR_standFor.2.1 4 = .ok (.iconst (-1), 1) := by decide +kernel
theorem dR_standFor_5 : decode mR_standFor.2.1 5 = .ok (.goto 9, 3) := by decide +kernel
theorem dR_standFor_8 : decode mR_standFor.2.1 8 = .ok (.aload_n 0, 1) := by decide +kernel
theorem dR_standFor_9 : decode mR_standFor.2.1 9 = .ok (.getfield 64, 3) := by decide +kernel
theorem dR_standFor_12 : decode mR_standFor.2.1 12 = .ok (.iload_n 1, 1) := by decide +kernel
theorem dR_standFor_13 : decode mR_standFor.2.1 13 = .ok (.iaload, 1) := by decide +kernel
theorem dR_standFor_14 : decode mR_standFor.2.1 14 = .ok (.ireturn, 1) := by decide +kernel
theorem dR_alike_0 : decode mR_alike.2.1 0 = .ok (.aload_n 0, 1) := by decide +kernel
theorem dR_alike_1 : decode mR_alike.2.1 1 = .ok (.aload_n 0, 1) := by decide +kernel
theorem dR_alike_2 : decode mR_alike.2.1 2 = .ok (.getfield 20, 3) := by decide +kernel
theorem dR_alike_5 : decode mR_alike.2.1 5 = .ok (.iload_n 1, 1) := by decide +kernel
theorem dR_alike_6 : decode mR_alike.2.1 6 = .ok (.iaload, 1) := by decide +kernel
theorem dR_alike_7 : decode mR_alike.2.1 7 = .ok (.invokevirtual 143, 3) := by decide +kernel
theorem dR_alike_10 : decode mR_alike.2.1 10 = .ok (.aload_n 0, 1) := by decide +kernel
theorem dR_alike_11 : decode mR_alike.2.1 11 = .ok (.aload_n 0, 1) := by decide +kernel
theorem dR_alike_12 : decode mR_alike.2.1 12 = .ok (.getfield 20, 3) := by decide +kernel
theorem dR_alike_15 : decode mR_alike.2.1 15 = .ok (.iload_n 2, 1) := by decide +kernel
theorem dR_alike_16 : decode mR_alike.2.1 16 = .ok (.iaload, 1) := by decide +kernel
theorem dR_alike_17 : decode mR_alike.2.1 17 = .ok (.invokevirtual 143, 3) := by decide +kernel
theorem dR_alike_20 : decode mR_alike.2.1 20 = .ok (.if_icmp .ne 30, 3) := by decide +kernel
theorem dR_alike_23 : decode mR_alike.2.1 23 = .ok (.aload_n 0, 1) := by decide +kernel
theorem dR_alike_24 : decode mR_alike.2.1 24 = .ok (.aload_n 0, 1) := by decide +kernel
theorem dR_alike_25 : decode mR_alike.2.1 25 = .ok (.getfield 23, 3) := by decide +kernel
theorem dR_alike_28 : decode mR_alike.2.1 28 = .ok (.iload_n 1, 1) := by decide +kernel
theorem dR_alike_29 : decode mR_alike.2.1 29 = .ok (.iaload, 1) := by decide +kernel
theorem dR_alike_30 : decode mR_alike.2.1 30 = .ok (.invokevirtual 143, 3) := by decide +kernel
theorem dR_alike_33 : decode mR_alike.2.1 33 = .ok (.aload_n 0, 1) := by decide +kernel
theorem dR_alike_34 : decode mR_alike.2.1 34 = .ok (.aload_n 0, 1) := by decide +kernel
theorem dR_alike_35 : decode mR_alike.2.1 35 = .ok (.getfield 23, 3) := by decide +kernel
theorem dR_alike_38 : decode mR_alike.2.1 38 = .ok (.iload_n 2, 1) := by decide +kernel
theorem dR_alike_39 : decode mR_alike.2.1 39 = .ok (.iaload, 1) := by decide +kernel
theorem dR_alike_40 : decode mR_alike.2.1 40 = .ok (.invokevirtual 143, 3) := by decide +kernel
theorem dR_alike_43 : decode mR_alike.2.1 43 = .ok (.if_icmp .ne 7, 3) := by decide +kernel
theorem dR_alike_46 : decode mR_alike.2.1 46 = .ok (.iconst 1, 1) := by decide +kernel
theorem dR_alike_47 : decode mR_alike.2.1 47 = .ok (.goto 4, 3) := by decide +kernel
theorem dR_alike_50 : decode mR_alike.2.1 50 = .ok (.iconst 0, 1) := by decide +kernel
theorem dR_alike_51 : decode mR_alike.2.1 51 = .ok (.istore_n 3, 1) := by decide +kernel
theorem dR_alike_52 : decode mR_alike.2.1 52 = .ok (.aload_n 0, 1) := by decide +kernel
theorem dR_alike_53 : decode mR_alike.2.1 53 = .ok (.iload_n 1, 1) := by decide +kernel
theorem dR_alike_54 : decode mR_alike.2.1 54 = .ok (.iload_n 2, 1) := by decide +kernel
theorem dR_alike_55 : decode mR_alike.2.1 55 = .ok (.invokevirtual 140, 3) := by decide +kernel
theorem dR_alike_58 : decode mR_alike.2.1 58 = .ok (.ifCond .eq 38, 3) := by decide +kernel
theorem dR_alike_61 : decode mR_alike.2.1 61 = .ok (.aload_n 0, 1) := by decide +kernel
theorem dR_alike_62 : decode mR_alike.2.1 62 = .ok (.getfield 32, 3) := by decide +kernel
theorem dR_alike_65 : decode mR_alike.2.1 65 = .ok (.iload_n 1, 1) := by decide +kernel
theorem dR_alike_66 : decode mR_alike.2.1 66 = .ok (.iaload, 1) := by decide +kernel
theorem dR_alike_67 : decode mR_alike.2.1 67 = .ok (.aload_n 0, 1) := by decide +kernel
theorem dR_alike_68 : decode mR_alike.2.1 68 = .ok (.getfield 32, 3) := by decide +kernel
theorem dR_alike_71 : decode mR_alike.2.1 71 = .ok (.iload_n 2, 1) := by decide +kernel
theorem dR_alike_72 : decode mR_alike.2.1 72 = .ok (.iaload, 1) := by decide +kernel
theorem dR_alike_73 : decode mR_alike.2.1 73 = .ok (.if_icmp .ne 23, 3) := by decide +kernel
theorem dR_alike_76 : decode mR_alike.2.1 76 = .ok (.aload_n 0, 1) := by decide +kernel
theorem dR_alike_77 : decode mR_alike.2.1 77 = .ok (.getfield 35, 3) := by decide +kernel
theorem dR_alike_80 : decode mR_alike.2.1 80 = .ok (.iload_n 1, 1) := by decide +kernel
theorem dR_alike_81 : decode mR_alike.2.1 81 = .ok (.daload, 1) := by decide +kernel
theorem dR_alike_82 : decode mR_alike.2.1 82 = .ok (.aload_n 0, 1) := by decide +kernel
theorem dR_alike_83 : decode mR_alike.2.1 83 = .ok (.getfield 35, 3) := by decide +kernel
theorem dR_alike_86 : decode mR_alike.2.1 86 = .ok (.iload_n 2, 1) := by decide +kernel
theorem dR_alike_87 : decode mR_alike.2.1 87 = .ok (.daload, 1) := by decide +kernel
theorem dR_alike_88 : decode mR_alike.2.1 88 = .ok (.dcmp .l, 1) := by decide +kernel
theorem dR_alike_89 : decode mR_alike.2.1 89 = .ok (.ifCond .ne 7, 3) := by decide +kernel
theorem dR_alike_92 : decode mR_alike.2.1 92 = .ok (.iconst 1, 1) := by decide +kernel
theorem dR_alike_93 : decode mR_alike.2.1 93 = .ok (.goto 4, 3) := by decide +kernel
theorem dR_alike_96 : decode mR_alike.2.1 96 = .ok (.iconst 0, 1) := by decide +kernel
theorem dR_alike_97 : decode mR_alike.2.1 97 = .ok (.istore 4, 2) := by decide +kernel
theorem dR_alike_99 : decode mR_alike.2.1 99 = .ok (.aload_n 0, 1) := by decide +kernel
theorem dR_alike_100 : decode mR_alike.2.1 100 = .ok (.getfield 42, 3) := by decide +kernel
theorem dR_alike_103 : decode mR_alike.2.1 103 = .ok (.iload_n 1, 1) := by decide +kernel
theorem dR_alike_104 : decode mR_alike.2.1 104 = .ok (.iaload, 1) := by decide +kernel
theorem dR_alike_105 : decode mR_alike.2.1 105 = .ok (.aload_n 0, 1) := by decide +kernel
theorem dR_alike_106 : decode mR_alike.2.1 106 = .ok (.getfield 42, 3) := by decide +kernel
theorem dR_alike_109 : decode mR_alike.2.1 109 = .ok (.iload_n 2, 1) := by decide +kernel
theorem dR_alike_110 : decode mR_alike.2.1 110 = .ok (.iaload, 1) := by decide +kernel
theorem dR_alike_111 : decode mR_alike.2.1 111 = .ok (.if_icmp .ne 52, 3) := by decide +kernel
theorem dR_alike_114 : decode mR_alike.2.1 114 = .ok (.aload_n 0, 1) := by decide +kernel
theorem dR_alike_115 : decode mR_alike.2.1 115 = .ok (.getfield 45, 3) := by decide +kernel
theorem dR_alike_118 : decode mR_alike.2.1 118 = .ok (.iload_n 1, 1) := by decide +kernel
theorem dR_alike_119 : decode mR_alike.2.1 119 = .ok (.iaload, 1) := by decide +kernel
theorem dR_alike_120 : decode mR_alike.2.1 120 = .ok (.aload_n 0, 1) := by decide +kernel
theorem dR_alike_121 : decode mR_alike.2.1 121 = .ok (.getfield 45, 3) := by decide +kernel
theorem dR_alike_124 : decode mR_alike.2.1 124 = .ok (.iload_n 2, 1) := by decide +kernel
theorem dR_alike_125 : decode mR_alike.2.1 125 = .ok (.iaload, 1) := by decide +kernel
theorem dR_alike_126 : decode mR_alike.2.1 126 = .ok (.if_icmp .ne 37, 3) := by decide +kernel
theorem dR_alike_129 : decode mR_alike.2.1 129 = .ok (.aload_n 0, 1) := by decide +kernel
theorem dR_alike_130 : decode mR_alike.2.1 130 = .ok (.getfield 48, 3) := by decide +kernel
theorem dR_alike_133 : decode mR_alike.2.1 133 = .ok (.iload_n 1, 1) := by decide +kernel
theorem dR_alike_134 : decode mR_alike.2.1 134 = .ok (.iaload, 1) := by decide +kernel
theorem dR_alike_135 : decode mR_alike.2.1 135 = .ok (.aload_n 0, 1) := by decide +kernel
theorem dR_alike_136 : decode mR_alike.2.1 136 = .ok (.getfield 48, 3) := by decide +kernel
theorem dR_alike_139 : decode mR_alike.2.1 139 = .ok (.iload_n 2, 1) := by decide +kernel
theorem dR_alike_140 : decode mR_alike.2.1 140 = .ok (.iaload, 1) := by decide +kernel
theorem dR_alike_141 : decode mR_alike.2.1 141 = .ok (.if_icmp .ne 22, 3) := by decide +kernel
theorem dR_alike_144 : decode mR_alike.2.1 144 = .ok (.aload_n 0, 1) := by decide +kernel
theorem dR_alike_145 : decode mR_alike.2.1 145 = .ok (.getfield 51, 3) := by decide +kernel
theorem dR_alike_148 : decode mR_alike.2.1 148 = .ok (.iload_n 1, 1) := by decide +kernel
theorem dR_alike_149 : decode mR_alike.2.1 149 = .ok (.iaload, 1) := by decide +kernel
theorem dR_alike_150 : decode mR_alike.2.1 150 = .ok (.aload_n 0, 1) := by decide +kernel
theorem dR_alike_151 : decode mR_alike.2.1 151 = .ok (.getfield 51, 3) := by decide +kernel
theorem dR_alike_154 : decode mR_alike.2.1 154 = .ok (.iload_n 2, 1) := by decide +kernel
theorem dR_alike_155 : decode mR_alike.2.1 155 = .ok (.iaload, 1) := by decide +kernel
theorem dR_alike_156 : decode mR_alike.2.1 156 = .ok (.if_icmp .ne 7, 3) := by decide +kernel
theorem dR_alike_159 : decode mR_alike.2.1 159 = .ok (.iconst 1, 1) := by decide +kernel
theorem dR_alike_160 : decode mR_alike.2.1 160 = .ok (.goto 4, 3) := by decide +kernel
theorem dR_alike_163 : decode mR_alike.2.1 163 = .ok (.iconst 0, 1) := by decide +kernel
theorem dR_alike_164 : decode mR_alike.2.1 164 = .ok (.istore 5, 2) := by decide +kernel
theorem dR_alike_166 : decode mR_alike.2.1 166 = .ok (.aload_n 0, 1) := by decide +kernel
theorem dR_alike_167 : decode mR_alike.2.1 167 = .ok (.getfield 17, 3) := by decide +kernel
theorem dR_alike_170 : decode mR_alike.2.1 170 = .ok (.iload_n 1, 1) := by decide +kernel
theorem dR_alike_171 : decode mR_alike.2.1 171 = .ok (.iaload, 1) := by decide +kernel
theorem dR_alike_172 : decode mR_alike.2.1 172 = .ok (.aload_n 0, 1) := by decide +kernel
theorem dR_alike_173 : decode mR_alike.2.1 173 = .ok (.getfield 17, 3) := by decide +kernel
theorem dR_alike_176 : decode mR_alike.2.1 176 = .ok (.iload_n 2, 1) := by decide +kernel
theorem dR_alike_177 : decode mR_alike.2.1 177 = .ok (.iaload, 1) := by decide +kernel
theorem dR_alike_178 : decode mR_alike.2.1 178 = .ok (.if_icmp .ne 37, 3) := by decide +kernel
theorem dR_alike_181 : decode mR_alike.2.1 181 = .ok (.iload_n 3, 1) := by decide +kernel
theorem dR_alike_182 : decode mR_alike.2.1 182 = .ok (.ifCond .eq 33, 3) := by decide +kernel
theorem dR_alike_185 : decode mR_alike.2.1 185 = .ok (.iload 4, 2) := by decide +kernel
theorem dR_alike_187 : decode mR_alike.2.1 187 = .ok (.ifCond .eq 28, 3) := by decide +kernel
theorem dR_alike_190 : decode mR_alike.2.1 190 = .ok (.iload 5, 2) := by decide +kernel
theorem dR_alike_192 : decode mR_alike.2.1 192 = .ok (.ifCond .eq 23, 3) := by decide +kernel
theorem dR_alike_195 : decode mR_alike.2.1 195 = .ok (.aload_n 0, 1) := by decide +kernel
theorem dR_alike_196 : decode mR_alike.2.1 196 = .ok (.getfield 39, 3) := by decide +kernel
theorem dR_alike_199 : decode mR_alike.2.1 199 = .ok (.iload_n 1, 1) := by decide +kernel
theorem dR_alike_200 : decode mR_alike.2.1 200 = .ok (.daload, 1) := by decide +kernel
theorem dR_alike_201 : decode mR_alike.2.1 201 = .ok (.aload_n 0, 1) := by decide +kernel
theorem dR_alike_202 : decode mR_alike.2.1 202 = .ok (.getfield 39, 3) := by decide +kernel
theorem dR_alike_205 : decode mR_alike.2.1 205 = .ok (.iload_n 2, 1) := by decide +kernel
theorem dR_alike_206 : decode mR_alike.2.1 206 = .ok (.daload, 1) := by decide +kernel
theorem dR_alike_207 : decode mR_alike.2.1 207 = .ok (.dcmp .l, 1) := by decide +kernel
theorem dR_alike_208 : decode mR_alike.2.1 208 = .ok (.ifCond .ne 7, 3) := by decide +kernel
theorem dR_alike_211 : decode mR_alike.2.1 211 = .ok (.iconst 1, 1) := by decide +kernel
theorem dR_alike_212 : decode mR_alike.2.1 212 = .ok (.goto 4, 3) := by decide +kernel
theorem dR_alike_215 : decode mR_alike.2.1 215 = .ok (.iconst 0, 1) := by decide +kernel
theorem dR_alike_216 : decode mR_alike.2.1 216 = .ok (.ireturn, 1) := by decide +kernel
theorem dR_findRoles_0 : decode mR_findRoles.2.1 0 = .ok (.aload_n 0, 1) := by decide +kernel
theorem dR_findRoles_1 : decode mR_findRoles.2.1 1 = .ok (.getfield 64, 3) := by decide +kernel
theorem dR_findRoles_4 : decode mR_findRoles.2.1 4 = .ok (.aload_n 0, 1) := by decide +kernel
theorem dR_findRoles_5 : decode mR_findRoles.2.1 5 = .ok (.getfield 60, 3) := by decide +kernel
theorem dR_findRoles_8 : decode mR_findRoles.2.1 8 = .ok (.iaload, 1) := by decide +kernel
theorem dR_findRoles_9 : decode mR_findRoles.2.1 9 = .ok (.istore_n 1, 1) := by decide +kernel
theorem dR_findRoles_10 : decode mR_findRoles.2.1 10 = .ok (.iconst 0, 1) := by decide +kernel
theorem dR_findRoles_11 : decode mR_findRoles.2.1 11 = .ok (.istore_n 2, 1) := by decide +kernel
theorem dR_findRoles_12 : decode mR_findRoles.2.1 12 = .ok (.iload_n 2, 1) := by decide +kernel
theorem dR_findRoles_13 : decode mR_findRoles.2.1 13 = .ok (.aload_n 0, 1) := by decide +kernel
theorem dR_findRoles_14 : decode mR_findRoles.2.1 14 = .ok (.getfield 106, 3) := by decide +kernel
theorem dR_findRoles_17 : decode mR_findRoles.2.1 17 = .ok (.if_icmp .ge 16, 3) := by decide +kernel
theorem dR_findRoles_20 : decode mR_findRoles.2.1 20 = .ok (.aload_n 0, 1) := by decide +kernel
theorem dR_findRoles_21 : decode mR_findRoles.2.1 21 = .ok (.getfield 67, 3) := by decide +kernel
theorem dR_findRoles_24 : decode mR_findRoles.2.1 24 = .ok (.iload_n 2, 1) := by decide +kernel
theorem dR_findRoles_25 : decode mR_findRoles.2.1 25 = .ok (.iconst 0, 1) := by decide +kernel
theorem dR_findRoles_26 : decode mR_findRoles.2.1 26 = .ok (.iastore, 1) := by decide +kernel
theorem dR_findRoles_27 : decode mR_findRoles.2.1 27 = .ok (.iinc 2 1, 3) := by decide +kernel
theorem dR_findRoles_30 : decode mR_findRoles.2.1 30 = .ok (.goto (-18), 3) := by decide +kernel
theorem dR_findRoles_33 : decode mR_findRoles.2.1 33 = .ok (.aload_n 0, 1) := by decide +kernel
theorem dR_findRoles_34 : decode mR_findRoles.2.1 34 = .ok (.getfield 67, 3) := by decide +kernel
theorem dR_findRoles_37 : decode mR_findRoles.2.1 37 = .ok (.iload_n 1, 1) := by decide +kernel
theorem dR_findRoles_38 : decode mR_findRoles.2.1 38 = .ok (.iconst 2, 1) := by decide +kernel
theorem dR_findRoles_39 : decode mR_findRoles.2.1 39 = .ok (.iastore, 1) := by decide +kernel
theorem dR_findRoles_40 : decode mR_findRoles.2.1 40 = .ok (.aload_n 0, 1) := by decide +kernel
theorem dR_findRoles_41 : decode mR_findRoles.2.1 41 = .ok (.getfield 106, 3) := by decide +kernel
theorem dR_findRoles_44 : decode mR_findRoles.2.1 44 = .ok (.iconst 1, 1) := by decide +kernel
theorem dR_findRoles_45 : decode mR_findRoles.2.1 45 = .ok (.isub, 1) := by decide +kernel
theorem dR_findRoles_46 : decode mR_findRoles.2.1 46 = .ok (.istore_n 2, 1) := by decide +kernel
theorem dR_findRoles_47 : decode mR_findRoles.2.1 47 = .ok (.iload_n 2, 1) := by decide +kernel
theorem dR_findRoles_48 : decode mR_findRoles.2.1 48 = .ok (.ifCond .lt 71, 3) := by decide +kernel
theorem dR_findRoles_51 : decode mR_findRoles.2.1 51 = .ok (.aload_n 0, 1) := by decide +kernel
theorem dR_findRoles_52 : decode mR_findRoles.2.1 52 = .ok (.getfield 67, 3) := by decide +kernel
theorem dR_findRoles_55 : decode mR_findRoles.2.1 55 = .ok (.iload_n 2, 1) := by decide +kernel
theorem dR_findRoles_56 : decode mR_findRoles.2.1 56 = .ok (.iaload, 1) := by decide +kernel
theorem dR_findRoles_57 : decode mR_findRoles.2.1 57 = .ok (.ifCond .ne 6, 3) := by decide +kernel
theorem dR_findRoles_60 : decode mR_findRoles.2.1 60 = .ok (.goto 53, 3) := by decide +kernel
theorem dR_findRoles_63 : decode mR_findRoles.2.1 63 = .ok (.aload_n 0, 1) := by decide +kernel
theorem dR_findRoles_64 : decode mR_findRoles.2.1 64 = .ok (.getfield 20, 3) := by decide +kernel
theorem dR_findRoles_67 : decode mR_findRoles.2.1 67 = .ok (.iload_n 2, 1) := by decide +kernel
theorem dR_findRoles_68 : decode mR_findRoles.2.1 68 = .ok (.iaload, 1) := by decide +kernel
theorem dR_findRoles_69 : decode mR_findRoles.2.1 69 = .ok (.ifCond .lt 19, 3) := by decide +kernel
theorem dR_findRoles_72 : decode mR_findRoles.2.1 72 = .ok (.aload_n 0, 1) := by decide +kernel
theorem dR_findRoles_73 : decode mR_findRoles.2.1 73 = .ok (.getfield 67, 3) := by decide +kernel
theorem dR_findRoles_76 : decode mR_findRoles.2.1 76 = .ok (.aload_n 0, 1) := by decide +kernel
theorem dR_findRoles_77 : decode mR_findRoles.2.1 77 = .ok (.aload_n 0, 1) := by decide +kernel
theorem dR_findRoles_78 : decode mR_findRoles.2.1 78 = .ok (.getfield 20, 3) := by decide +kernel
theorem dR_findRoles_81 : decode mR_findRoles.2.1 81 = .ok (.iload_n 2, 1) := by decide +kernel
theorem dR_findRoles_82 : decode mR_findRoles.2.1 82 = .ok (.iaload, 1) := by decide +kernel
theorem dR_findRoles_83 : decode mR_findRoles.2.1 83 = .ok (.invokevirtual 143, 3) := by decide +kernel
theorem dR_findRoles_86 : decode mR_findRoles.2.1 86 = .ok (.iconst 2, 1) := by decide +kernel
theorem dR_findRoles_87 : decode mR_findRoles.2.1 87 = .ok (.iastore, 1) := by decide +kernel
theorem dR_findRoles_88 : decode mR_findRoles.2.1 88 = .ok (.aload_n 0, 1) := by decide +kernel
theorem dR_findRoles_89 : decode mR_findRoles.2.1 89 = .ok (.getfield 23, 3) := by decide +kernel
theorem dR_findRoles_92 : decode mR_findRoles.2.1 92 = .ok (.iload_n 2, 1) := by decide +kernel
theorem dR_findRoles_93 : decode mR_findRoles.2.1 93 = .ok (.iaload, 1) := by decide +kernel
theorem dR_findRoles_94 : decode mR_findRoles.2.1 94 = .ok (.ifCond .lt 19, 3) := by decide +kernel
theorem dR_findRoles_97 : decode mR_findRoles.2.1 97 = .ok (.aload_n 0, 1) := by decide +kernel
theorem dR_findRoles_98 : decode mR_findRoles.2.1 98 = .ok (.getfield 67, 3) := by decide +kernel
theorem dR_findRoles_101 : decode mR_findRoles.2.1 101 = .ok (.aload_n 0, 1) := by decide +kernel
theorem dR_findRoles_102 : decode mR_findRoles.2.1 102 = .ok (.aload_n 0, 1) := by decide +kernel
theorem dR_findRoles_103 : decode mR_findRoles.2.1 103 = .ok (.getfield 23, 3) := by decide +kernel
theorem dR_findRoles_106 : decode mR_findRoles.2.1 106 = .ok (.iload_n 2, 1) := by decide +kernel
theorem dR_findRoles_107 : decode mR_findRoles.2.1 107 = .ok (.iaload, 1) := by decide +kernel
theorem dR_findRoles_108 : decode mR_findRoles.2.1 108 = .ok (.invokevirtual 143, 3) := by decide +kernel
theorem dR_findRoles_111 : decode mR_findRoles.2.1 111 = .ok (.iconst 2, 1) := by decide +kernel
theorem dR_findRoles_112 : decode mR_findRoles.2.1 112 = .ok (.iastore, 1) := by decide +kernel
theorem dR_findRoles_113 : decode mR_findRoles.2.1 113 = .ok (.iinc 2 (-1), 3) := by decide +kernel
theorem dR_findRoles_116 : decode mR_findRoles.2.1 116 = .ok (.goto (-69), 3) := by decide +kernel
theorem dR_findRoles_119 : decode mR_findRoles.2.1 119 = .ok (.iconst 0, 1) := by decide +kernel
theorem dR_findRoles_120 : decode mR_findRoles.2.1 120 = .ok (.istore_n 2, 1) := by decide +kernel
theorem dR_findRoles_121 : decode mR_findRoles.2.1 121 = .ok (.iload_n 2, 1) := by decide +kernel
theorem dR_findRoles_122 : decode mR_findRoles.2.1 122 = .ok (.aload_n 0, 1) := by decide +kernel
theorem dR_findRoles_123 : decode mR_findRoles.2.1 123 = .ok (.getfield 106, 3) := by decide +kernel
theorem dR_findRoles_126 : decode mR_findRoles.2.1 126 = .ok (.if_icmp .ge 112, 3) := by decide +kernel
theorem dR_findRoles_129 : decode mR_findRoles.2.1 129 = .ok (.aload_n 0, 1) := by decide +kernel
theorem dR_findRoles_130 : decode mR_findRoles.2.1 130 = .ok (.getfield 67, 3) := by decide +kernel
theorem dR_findRoles_133 : decode mR_findRoles.2.1 133 = .ok (.iload_n 2, 1) := by decide +kernel
theorem dR_findRoles_134 : decode mR_findRoles.2.1 134 = .ok (.iaload, 1) := by decide +kernel
theorem dR_findRoles_135 : decode mR_findRoles.2.1 135 = .ok (.ifCond .eq 97, 3) := by decide +kernel
theorem dR_findRoles_138 : decode mR_findRoles.2.1 138 = .ok (.aload_n 0, 1) := by decide +kernel
theorem dR_findRoles_139 : decode mR_findRoles.2.1 139 = .ok (.getfield 17, 3) := by decide +kernel
theorem dR_findRoles_142 : decode mR_findRoles.2.1 142 = .ok (.iload_n 2, 1) := by decide +kernel
theorem dR_findRoles_143 : decode mR_findRoles.2.1 143 = .ok (.iaload, 1) := by decide +kernel
theorem dR_findRoles_144 : decode mR_findRoles.2.1 144 = .ok (.iconst 1, 1) := by decide +kernel
theorem dR_findRoles_145 : decode mR_findRoles.2.1 145 = .ok (.if_icmp .lt 87, 3) := by decide +kernel
theorem dR_findRoles_148 : decode mR_findRoles.2.1 148 = .ok (.aload_n 0, 1) := by decide +kernel
theorem dR_findRoles_149 : decode mR_findRoles.2.1 149 = .ok (.getfield 17, 3) := by decide +kernel
theorem dR_findRoles_152 : decode mR_findRoles.2.1 152 = .ok (.iload_n 2, 1) := by decide +kernel
theorem dR_findRoles_153 : decode mR_findRoles.2.1 153 = .ok (.iaload, 1) := by decide +kernel
theorem dR_findRoles_154 : decode mR_findRoles.2.1 154 = .ok (.iconst 3, 1) := by decide +kernel
theorem dR_findRoles_155 : decode mR_findRoles.2.1 155 = .ok (.if_icmp .gt 77, 3) := by decide +kernel
theorem dR_findRoles_158 : decode mR_findRoles.2.1 158 = .ok (.iload_n 2, 1) := by decide +kernel
theorem dR_findRoles_159 : decode mR_findRoles.2.1 159 = .ok (.iload_n 1, 1) := by decide +kernel
theorem dR_findRoles_160 : decode mR_findRoles.2.1 160 = .ok (.if_icmp .eq 72, 3) := by decide +kernel
theorem dR_findRoles_163 : decode mR_findRoles.2.1 163 = .ok (.aload_n 0, 1) := by decide +kernel
theorem dR_findRoles_164 : decode mR_findRoles.2.1 164 = .ok (.iload_n 2, 1) := by decide +kernel
theorem dR_findRoles_165 : decode mR_findRoles.2.1 165 = .ok (.invokevirtual 149, 3) := by decide +kernel
theorem dR_findRoles_168 : decode mR_findRoles.2.1 168 = .ok (.iconst 1, 1) := by decide +kernel
theorem dR_findRoles_169 : decode mR_findRoles.2.1 169 = .ok (.if_icmp .eq 6, 3) := by decide +kernel
theorem dR_findRoles_172 : decode mR_findRoles.2.1 172 = .ok (.goto 60, 3) := by decide +kernel
theorem dR_findRoles_175 : decode mR_findRoles.2.1 175 = .ok (.iconst 0, 1) := by decide +kernel
theorem dR_findRoles_176 : decode mR_findRoles.2.1 176 = .ok (.istore_n 3, 1) := by decide +kernel
theorem dR_findRoles_177 : decode mR_findRoles.2.1 177 = .ok (.iload_n 3, 1) := by decide +kernel
theorem dR_findRoles_178 : decode mR_findRoles.2.1 178 = .ok (.aload_n 0, 1) := by decide +kernel
theorem dR_findRoles_179 : decode mR_findRoles.2.1 179 = .ok (.getfield 106, 3) := by decide +kernel
theorem dR_findRoles_182 : decode mR_findRoles.2.1 182 = .ok (.if_icmp .ge 50, 3) := by decide +kernel
theorem dR_findRoles_185 : decode mR_findRoles.2.1 185 = .ok (.aload_n 0, 1) := by decide +kernel
theorem dR_findRoles_186 : decode mR_findRoles.2.1 186 = .ok (.getfield 67, 3) := by decide +kernel
theorem dR_findRoles_189 : decode mR_findRoles.2.1 189 = .ok (.iload_n 3, 1) := by decide +kernel
theorem dR_findRoles_190 : decode mR_findRoles.2.1 190 = .ok (.iaload, 1) := by decide +kernel
theorem dR_findRoles_191 : decode mR_findRoles.2.1 191 = .ok (.ifCond .le 35, 3) := by decide +kernel
theorem dR_findRoles_194 : decode mR_findRoles.2.1 194 = .ok (.aload_n 0, 1) := by decide +kernel
theorem dR_findRoles_195 : decode mR_findRoles.2.1 195 = .ok (.getfield 17, 3) := by decide +kernel
theorem dR_findRoles_198 : decode mR_findRoles.2.1 198 = .ok (.iload_n 3, 1) := by decide +kernel
theorem dR_findRoles_199 : decode mR_findRoles.2.1 199 = .ok (.iaload, 1) := by decide +kernel
theorem dR_findRoles_200 : decode mR_findRoles.2.1 200 = .ok (.bipush 9, 2) := by decide +kernel
theorem dR_findRoles_202 : decode mR_findRoles.2.1 202 = .ok (.if_icmp .ne 24, 3) := by decide +kernel
theorem dR_findRoles_205 : decode mR_findRoles.2.1 205 = .ok (.aload_n 0, 1) := by decide +kernel
theorem dR_findRoles_206 : decode mR_findRoles.2.1 206 = .ok (.aload_n 0, 1) := by decide +kernel
theorem dR_findRoles_207 : decode mR_findRoles.2.1 207 = .ok (.getfield 20, 3) := by decide +kernel
theorem dR_findRoles_210 : decode mR_findRoles.2.1 210 = .ok (.iload_n 3, 1) := by decide +kernel
theorem dR_findRoles_211 : decode mR_findRoles.2.1 211 = .ok (.iaload, 1) := by decide +kernel
theorem dR_findRoles_212 : decode mR_findRoles.2.1 212 = .ok (.invokevirtual 143, 3) := by decide +kernel
theorem dR_findRoles_215 : decode mR_findRoles.2.1 215 = .ok (.iload_n 2, 1) := by decide +kernel
