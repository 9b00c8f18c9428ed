theorem dR_findRoles_216 : decode mR_findRoles.2.1 216 = .ok (.if_icmp .ne 10, 3) := by decide +kernel
theorem dR_findRoles_219 : decode mR_findRoles.2.1 219 = .ok (.aload_n 0, 1) := by decide +kernel
theorem dR_findRoles_220 : decode mR_findRoles.2.1 220 = .ok (.getfield 67, 3) := by decide +kernel
theorem dR_findRoles_223 : decode mR_findRoles.2.1 223 = .ok (.iload_n 2, 1) := by decide +kernel
theorem dR_findRoles_224 : decode mR_findRoles.2.1 224 = .ok (.iconst 1, 1) := by decide +kernel
theorem dR_findRoles_225 : decode mR_findRoles.2.1 225 = .ok (.iastore, 1) := by decide +kernel
theorem dR_findRoles_226 : decode mR_findRoles.2.1 226 = .ok (.iinc 3 1, 3) := by decide +kernel
theorem dR_findRoles_229 : decode mR_findRoles.2.1 229 = .ok (.goto (-52), 3) := by decide +kernel
theorem dR_findRoles_232 : decode mR_findRoles.2.1 232 = .ok (.iinc 2 1, 3) := by decide +kernel
theorem dR_findRoles_235 : decode mR_findRoles.2.1 235 = .ok (.goto (-114), 3) := by decide +kernel
theorem dR_findRoles_238 : decode mR_findRoles.2.1 238 = .ok (.return_, 1) := by decide +kernel
theorem dR_uses_0 : decode mR_uses.2.1 0 = .ok (.iconst 0, 1) := by decide +kernel
theorem dR_uses_1 : decode mR_uses.2.1 1 = .ok (.istore_n 2, 1) := by decide +kernel
theorem dR_uses_2 : decode mR_uses.2.1 2 = .ok (.iconst 0, 1) := by decide +kernel
theorem dR_uses_3 : decode mR_uses.2.1 3 = .ok (.istore_n 3, 1) := by decide +kernel
theorem dR_uses_4 : decode mR_uses.2.1 4 = .ok (.iload_n 3, 1) := by decide +kernel
theorem dR_uses_5 : decode mR_uses.2.1 5 = .ok (.aload_n 0, 1) := by decide +kernel
theorem dR_uses_6 : decode mR_uses.2.1 6 = .ok (.getfield 106, 3) := by decide +kernel
theorem dR_uses_9 : decode mR_uses.2.1 9 = .ok (.if_icmp .ge 65, 3) := by decide +kernel
theorem dR_uses_12 : decode mR_uses.2.1 12 = .ok (.aload_n 0, 1) := by decide +kernel
theorem dR_uses_13 : decode mR_uses.2.1 13 = .ok (.getfield 67, 3) := by decide +kernel
theorem dR_uses_16 : decode mR_uses.2.1 16 = .ok (.iload_n 3, 1) := by decide +kernel
theorem dR_uses_17 : decode mR_uses.2.1 17 = .ok (.iaload, 1) := by decide +kernel
theorem dR_uses_18 : decode mR_uses.2.1 18 = .ok (.ifCond .ne 6, 3) := by decide +kernel
theorem dR_uses_21 : decode mR_uses.2.1 21 = .ok (.goto 47, 3) := by decide +kernel
theorem dR_uses_24 : decode mR_uses.2.1 24 = .ok (.iload_n 2, 1) := by decide +kernel
theorem dR_uses_25 : decode mR_uses.2.1 25 = .ok (.aload_n 0, 1) := by decide +kernel
theorem dR_uses_26 : decode mR_uses.2.1 26 = .ok (.aload_n 0, 1) := by decide +kernel
theorem dR_uses_27 : decode mR_uses.2.1 27 = .ok (.getfield 20, 3) := by decide +kernel
theorem dR_uses_30 : decode mR_uses.2.1 30 = .ok (.iload_n 3, 1) := by decide +kernel
theorem dR_uses_31 : decode mR_uses.2.1 31 = .ok (.iaload, 1) := by decide +kernel
theorem dR_uses_32 : decode mR_uses.2.1 32 = .ok (.invokevirtual 143, 3) := by decide +kernel
theorem dR_uses_35 : decode mR_uses.2.1 35 = .ok (.iload_n 1, 1) := by decide +kernel
theorem dR_uses_36 : decode mR_uses.2.1 36 = .ok (.if_icmp .ne 7, 3) := by decide +kernel
theorem dR_uses_39 : decode mR_uses.2.1 39 = .ok (.iconst 1, 1) := by decide +kernel
theorem dR_uses_40 : decode mR_uses.2.1 40 = .ok (.goto 4, 3) := by decide +kernel
theorem dR_uses_43 : decode mR_uses.2.1 43 = .ok (.iconst 0, 1) := by decide +kernel
theorem dR_uses_44 : decode mR_uses.2.1 44 = .ok (.iadd, 1) := by decide +kernel
theorem dR_uses_45 : decode mR_uses.2.1 45 = .ok (.istore_n 2, 1) := by decide +kernel
theorem dR_uses_46 : decode mR_uses.2.1 46 = .ok (.iload_n 2, 1) := by decide +kernel
theorem dR_uses_47 : decode mR_uses.2.1 47 = .ok (.aload_n 0, 1) := by decide +kernel
theorem dR_uses_48 : decode mR_uses.2.1 48 = .ok (.aload_n 0, 1) := by decide +kernel
theorem dR_uses_49 : decode mR_uses.2.1 49 = .ok (.getfield 23, 3) := by decide +kernel
theorem dR_uses_52 : decode mR_uses.2.1 52 = .ok (.iload_n 3, 1) := by decide +kernel
theorem dR_uses_53 : decode mR_uses.2.1 53 = .ok (.iaload, 1) := by decide +kernel
theorem dR_uses_54 : decode mR_uses.2.1 54 = .ok (.invokevirtual 143, 3) := by decide +kernel
theorem dR_uses_57 : decode mR_uses.2.1 57 = .ok (.iload_n 1, 1) := by decide +kernel
theorem dR_uses_58 : decode mR_uses.2.1 58 = .ok (.if_icmp .ne 7, 3) := by decide +kernel
theorem dR_uses_61 : decode mR_uses.2.1 61 = .ok (.iconst 1, 1) := by decide +kernel
theorem dR_uses_62 : decode mR_uses.2.1 62 = .ok (.goto 4, 3) := by decide +kernel
theorem dR_uses_65 : decode mR_uses.2.1 65 = .ok (.iconst 0, 1) := by decide +kernel
theorem dR_uses_66 : decode mR_uses.2.1 66 = .ok (.iadd, 1) := by decide +kernel
theorem dR_uses_67 : decode mR_uses.2.1 67 = .ok (.istore_n 2, 1) := by decide +kernel
theorem dR_uses_68 : decode mR_uses.2.1 68 = .ok (.iinc 3 1, 3) := by decide +kernel
theorem dR_uses_71 : decode mR_uses.2.1 71 = .ok (.goto (-67), 3) := by decide +kernel
theorem dR_uses_74 : decode mR_uses.2.1 74 = .ok (.iload_n 2, 1) := by decide +kernel
theorem dR_uses_75 : decode mR_uses.2.1 75 = .ok (.ireturn, 1) := by decide +kernel
theorem dR_findLives_0 : decode mR_findLives.2.1 0 = .ok (.aload_n 0, 1) := by decide +kernel
theorem dR_findLives_1 : decode mR_findLives.2.1 1 = .ok (.iconst 0, 1) := by decide +kernel
theorem dR_findLives_2 : decode mR_findLives.2.1 2 = .ok (.putfield 152, 3) := by decide +kernel
theorem dR_findLives_5 : decode mR_findLives.2.1 5 = .ok (.iconst 0, 1) := by decide +kernel
theorem dR_findLives_6 : decode mR_findLives.2.1 6 = .ok (.istore_n 1, 1) := by decide +kernel
theorem dR_findLives_7 : decode mR_findLives.2.1 7 = .ok (.iload_n 1, 1) := by decide +kernel
theorem dR_findLives_8 : decode mR_findLives.2.1 8 = .ok (.aload_n 0, 1) := by decide +kernel
theorem dR_findLives_9 : decode mR_findLives.2.1 9 = .ok (.getfield 106, 3) := by decide +kernel
theorem dR_findLives_12 : decode mR_findLives.2.1 12 = .ok (.if_icmp .ge 39, 3) := by decide +kernel
theorem dR_findLives_15 : decode mR_findLives.2.1 15 = .ok (.aload_n 0, 1) := by decide +kernel
theorem dR_findLives_16 : decode mR_findLives.2.1 16 = .ok (.getfield 67, 3) := by decide +kernel
theorem dR_findLives_19 : decode mR_findLives.2.1 19 = .ok (.iload_n 1, 1) := by decide +kernel
theorem dR_findLives_20 : decode mR_findLives.2.1 20 = .ok (.iaload, 1) := by decide +kernel
theorem dR_findLives_21 : decode mR_findLives.2.1 21 = .ok (.iconst 2, 1) := by decide +kernel
theorem dR_findLives_22 : decode mR_findLives.2.1 22 = .ok (.if_icmp .ne 23, 3) := by decide +kernel
theorem dR_findLives_25 : decode mR_findLives.2.1 25 = .ok (.aload_n 0, 1) := by decide +kernel
theorem dR_findLives_26 : decode mR_findLives.2.1 26 = .ok (.getfield 70, 3) := by decide +kernel
theorem dR_findLives_29 : decode mR_findLives.2.1 29 = .ok (.iload_n 1, 1) := by decide +kernel
theorem dR_findLives_30 : decode mR_findLives.2.1 30 = .ok (.aload_n 0, 1) := by decide +kernel
theorem dR_findLives_31 : decode mR_findLives.2.1 31 = .ok (.getfield 152, 3) := by decide +kernel
theorem dR_findLives_34 : decode mR_findLives.2.1 34 = .ok (.iastore, 1) := by decide +kernel
theorem dR_findLives_35 : decode mR_findLives.2.1 35 = .ok (.aload_n 0, 1) := by decide +kernel
theorem dR_findLives_36 : decode mR_findLives.2.1 36 = .ok (.dup, 1) := by decide +kernel
theorem dR_findLives_37 : decode mR_findLives.2.1 37 = .ok (.getfield 152, 3) := by decide +kernel
theorem dR_findLives_40 : decode mR_findLives.2.1 40 = .ok (.iconst 1, 1) := by decide +kernel
theorem dR_findLives_41 : decode mR_findLives.2.1 41 = .ok (.iadd, 1) := by decide +kernel
theorem dR_findLives_42 : decode mR_findLives.2.1 42 = .ok (.putfield 152, 3) := by decide +kernel
theorem dR_findLives_45 : decode mR_findLives.2.1 45 = .ok (.iinc 1 1, 3) := by decide +kernel
theorem dR_findLives_48 : decode mR_findLives.2.1 48 = .ok (.goto (-41), 3) := by decide +kernel
theorem dR_findLives_51 : decode mR_findLives.2.1 51 = .ok (.iconst 0, 1) := by decide +kernel
theorem dR_findLives_52 : decode mR_findLives.2.1 52 = .ok (.istore_n 1, 1) := by decide +kernel
theorem dR_findLives_53 : decode mR_findLives.2.1 53 = .ok (.iload_n 1, 1) := by decide +kernel
theorem dR_findLives_54 : decode mR_findLives.2.1 54 = .ok (.aload_n 0, 1) := by decide +kernel
theorem dR_findLives_55 : decode mR_findLives.2.1 55 = .ok (.getfield 106, 3) := by decide +kernel
theorem dR_findLives_58 : decode mR_findLives.2.1 58 = .ok (.if_icmp .ge 93, 3) := by decide +kernel
theorem dR_findLives_61 : decode mR_findLives.2.1 61 = .ok (.aload_n 0, 1) := by decide +kernel
theorem dR_findLives_62 : decode mR_findLives.2.1 62 = .ok (.getfield 73, 3) := by decide +kernel
theorem dR_findLives_65 : decode mR_findLives.2.1 65 = .ok (.iload_n 1, 1) := by decide +kernel
theorem dR_findLives_66 : decode mR_findLives.2.1 66 = .ok (.aload_n 0, 1) := by decide +kernel
theorem dR_findLives_67 : decode mR_findLives.2.1 67 = .ok (.getfield 70, 3) := by decide +kernel
theorem dR_findLives_70 : decode mR_findLives.2.1 70 = .ok (.iload_n 1, 1) := by decide +kernel
theorem dR_findLives_71 : decode mR_findLives.2.1 71 = .ok (.iaload, 1) := by decide +kernel
theorem dR_findLives_72 : decode mR_findLives.2.1 72 = .ok (.iastore, 1) := by decide +kernel
theorem dR_findLives_73 : decode mR_findLives.2.1 73 = .ok (.iconst 0, 1) := by decide +kernel
theorem dR_findLives_74 : decode mR_findLives.2.1 74 = .ok (.istore_n 2, 1) := by decide +kernel
theorem dR_findLives_75 : decode mR_findLives.2.1 75 = .ok (.iload_n 2, 1) := by decide +kernel
theorem dR_findLives_76 : decode mR_findLives.2.1 76 = .ok (.aload_n 0, 1) := by decide +kernel
theorem dR_findLives_77 : decode mR_findLives.2.1 77 = .ok (.getfield 106, 3) := by decide +kernel
theorem dR_findLives_80 : decode mR_findLives.2.1 80 = .ok (.if_icmp .ge 65, 3) := by decide +kernel
theorem dR_findLives_83 : decode mR_findLives.2.1 83 = .ok (.aload_n 0, 1) := by decide +kernel
theorem dR_findLives_84 : decode mR_findLives.2.1 84 = .ok (.getfield 67, 3) := by decide +kernel
theorem dR_findLives_87 : decode mR_findLives.2.1 87 = .ok (.iload_n 2, 1) := by decide +kernel
theorem dR_findLives_88 : decode mR_findLives.2.1 88 = .ok (.iaload, 1) := by decide +kernel
theorem dR_findLives_89 : decode mR_findLives.2.1 89 = .ok (.iconst 2, 1) := by decide +kernel
theorem dR_findLives_90 : decode mR_findLives.2.1 90 = .ok (.if_icmp .ne 49, 3) := by decide +kernel
theorem dR_findLives_93 : decode mR_findLives.2.1 93 = .ok (.aload_n 0, 1) := by decide +kernel
theorem dR_findLives_94 : decode mR_findLives.2.1 94 = .ok (.getfield 67, 3) := by decide +kernel
theorem dR_findLives_97 : decode mR_findLives.2.1 97 = .ok (.iload_n 1, 1) := by decide +kernel
theorem dR_findLives_98 : decode mR_findLives.2.1 98 = .ok (.iaload, 1) := by decide +kernel
theorem dR_findLives_99 : decode mR_findLives.2.1 99 = .ok (.iconst 2, 1) := by decide +kernel
theorem dR_findLives_100 : decode mR_findLives.2.1 100 = .ok (.if_icmp .ne 39, 3) := by decide +kernel
theorem dR_findLives_103 : decode mR_findLives.2.1 103 = .ok (.aload_n 0, 1) := by decide +kernel
theorem dR_findLives_104 : decode mR_findLives.2.1 104 = .ok (.iload_n 2, 1) := by decide +kernel
theorem dR_findLives_105 : decode mR_findLives.2.1 105 = .ok (.iload_n 1, 1) := by decide +kernel
theorem dR_findLives_106 : decode mR_findLives.2.1 106 = .ok (.invokevirtual 155, 3) := by decide +kernel
theorem dR_findLives_109 : decode mR_findLives.2.1 109 = .ok (.ifCond .eq 30, 3) := by decide +kernel
theorem dR_findLives_112 : decode mR_findLives.2.1 112 = .ok (.aload_n 0, 1) := by decide +kernel
theorem dR_findLives_113 : decode mR_findLives.2.1 113 = .ok (.getfield 70, 3) := by decide +kernel
theorem dR_findLives_116 : decode mR_findLives.2.1 116 = .ok (.iload_n 2, 1) := by decide +kernel
theorem dR_findLives_117 : decode mR_findLives.2.1 117 = .ok (.iaload, 1) := by decide +kernel
theorem dR_findLives_118 : decode mR_findLives.2.1 118 = .ok (.aload_n 0, 1) := by decide +kernel
theorem dR_findLives_119 : decode mR_findLives.2.1 119 = .ok (.getfield 73, 3) := by decide +kernel
theorem dR_findLives_122 : decode mR_findLives.2.1 122 = .ok (.iload_n 1, 1) := by decide +kernel
theorem dR_findLives_123 : decode mR_findLives.2.1 123 = .ok (.iaload, 1) := by decide +kernel
theorem dR_findLives_124 : decode mR_findLives.2.1 124 = .ok (.if_icmp .le 15, 3) := by decide +kernel
theorem dR_findLives_127 : decode mR_findLives.2.1 127 = .ok (.aload_n 0, 1) := by decide +kernel
theorem dR_findLives_128 : decode mR_findLives.2.1 128 = .ok (.getfield 73, 3) := by decide +kernel
theorem dR_findLives_131 : decode mR_findLives.2.1 131 = .ok (.iload_n 1, 1) := by decide +kernel
theorem dR_findLives_132 : decode mR_findLives.2.1 132 = .ok (.aload_n 0, 1) := by decide +kernel
theorem dR_findLives_133 : decode mR_findLives.2.1 133 = .ok (.getfield 70, 3) := by decide +kernel
theorem dR_findLives_136 : decode mR_findLives.2.1 136 = .ok (.iload_n 2, 1) := by decide +kernel
theorem dR_findLives_137 : decode mR_findLives.2.1 137 = .ok (.iaload, 1) := by decide +kernel
theorem dR_findLives_138 : decode mR_findLives.2.1 138 = .ok (.iastore, 1) := by decide +kernel
theorem dR_findLives_139 : decode mR_findLives.2.1 139 = .ok (.iinc 2 1, 3) := by decide +kernel
theorem dR_findLives_142 : decode mR_findLives.2.1 142 = .ok (.goto (-67), 3) := by decide +kernel
theorem dR_findLives_145 : decode mR_findLives.2.1 145 = .ok (.iinc 1 1, 3) := by decide +kernel
theorem dR_findLives_148 : decode mR_findLives.2.1 148 = .ok (.goto (-95), 3) := by decide +kernel
theorem dR_findLives_151 : decode mR_findLives.2.1 151 = .ok (.aload_n 0, 1) := by decide +kernel
theorem dR_findLives_152 : decode mR_findLives.2.1 152 = .ok (.getfield 73, 3) := by decide +kernel
theorem dR_findLives_155 : decode mR_findLives.2.1 155 = .ok (.aload_n 0, 1) := by decide +kernel
theorem dR_findLives_156 : decode mR_findLives.2.1 156 = .ok (.getfield 64, 3) := by decide +kernel
theorem dR_findLives_159 : decode mR_findLives.2.1 159 = .ok (.aload_n 0, 1) := by decide +kernel
theorem dR_findLives_160 : decode mR_findLives.2.1 160 = .ok (.getfield 60, 3) := by decide +kernel
theorem dR_findLives_163 : decode mR_findLives.2.1 163 = .ok (.iaload, 1) := by decide +kernel
theorem dR_findLives_164 : decode mR_findLives.2.1 164 = .ok (.aload_n 0, 1) := by decide +kernel
theorem dR_findLives_165 : decode mR_findLives.2.1 165 = .ok (.getfield 152, 3) := by decide +kernel
theorem dR_findLives_168 : decode mR_findLives.2.1 168 = .ok (.iastore, 1) := by decide +kernel
theorem dR_findLives_169 : decode mR_findLives.2.1 169 = .ok (.return_, 1) := by decide +kernel
theorem dR_hasInput_0 : decode mR_hasInput.2.1 0 = .ok (.aload_n 0, 1) := by decide +kernel
theorem dR_hasInput_1 : decode mR_hasInput.2.1 1 = .ok (.aload_n 0, 1) := by decide +kernel
theorem dR_hasInput_2 : decode mR_hasInput.2.1 2 = .ok (.getfield 20, 3) := by decide +kernel
theorem dR_hasInput_5 : decode mR_hasInput.2.1 5 = .ok (.iload_n 1, 1) := by decide +kernel
theorem dR_hasInput_6 : decode mR_hasInput.2.1 6 = .ok (.iaload, 1) := by decide +kernel
theorem dR_hasInput_7 : decode mR_hasInput.2.1 7 = .ok (.invokevirtual 143, 3) := by decide +kernel
theorem dR_hasInput_10 : decode mR_hasInput.2.1 10 = .ok (.istore_n 3, 1) := by decide +kernel
theorem dR_hasInput_11 : decode mR_hasInput.2.1 11 = .ok (.iload_n 3, 1) := by decide +kernel
theorem dR_hasInput_12 : decode mR_hasInput.2.1 12 = .ok (.iload_n 2, 1) := by decide +kernel
theorem dR_hasInput_13 : decode mR_hasInput.2.1 13 = .ok (.if_icmp .eq 17, 3) := by decide +kernel
theorem dR_hasInput_16 : decode mR_hasInput.2.1 16 = .ok (.aload_n 0, 1) := by decide +kernel
theorem dR_hasInput_17 : decode mR_hasInput.2.1 17 = .ok (.aload_n 0, 1) := by decide +kernel
theorem dR_hasInput_18 : decode mR_hasInput.2.1 18 = .ok (.getfield 23, 3) := by decide +kernel
theorem dR_hasInput_21 : decode mR_hasInput.2.1 21 = .ok (.iload_n 1, 1) := by decide +kernel
theorem dR_hasInput_22 : decode mR_hasInput.2.1 22 = .ok (.iaload, 1) := by decide +kernel
theorem dR_hasInput_23 : decode mR_hasInput.2.1 23 = .ok (.invokevirtual 143, 3) := by decide +kernel
theorem dR_hasInput_26 : decode mR_hasInput.2.1 26 = .ok (.iload_n 2, 1) := by decide +kernel
theorem dR_hasInput_27 : decode mR_hasInput.2.1 27 = .ok (.if_icmp .ne 5, 3) := by decide +kernel
theorem dR_hasInput_30 : decode mR_hasInput.2.1 30 = .ok (.iconst 1, 1) := by decide +kernel
theorem dR_hasInput_31 : decode mR_hasInput.2.1 31 = .ok (.ireturn, 1) := by decide +kernel
theorem dR_hasInput_32 : decode mR_hasInput.2.1 32 = .ok (.iload_n 3, 1) := by decide +kernel
theorem dR_hasInput_33 : decode mR_hasInput.2.1 33 = .ok (.ifCond .lt 31, 3) := by decide +kernel
theorem dR_hasInput_36 : decode mR_hasInput.2.1 36 = .ok (.aload_n 0, 1) := by decide +kernel
theorem dR_hasInput_37 : decode mR_hasInput.2.1 37 = .ok (.getfield 67, 3) := by decide +kernel
theorem dR_hasInput_40 : decode mR_hasInput.2.1 40 = .ok (.iload_n 3, 1) := by decide +kernel
theorem dR_hasInput_41 : decode mR_hasInput.2.1 41 = .ok (.iaload, 1) := by decide +kernel
theorem dR_hasInput_42 : decode mR_hasInput.2.1 42 = .ok (.iconst 1, 1) := by decide +kernel
theorem dR_hasInput_43 : decode mR_hasInput.2.1 43 = .ok (.if_icmp .ne 21, 3) := by decide +kernel
theorem dR_hasInput_46 : decode mR_hasInput.2.1 46 = .ok (.aload_n 0, 1) := by decide +kernel
theorem dR_hasInput_47 : decode mR_hasInput.2.1 47 = .ok (.aload_n 0, 1) := by decide +kernel
theorem dR_hasInput_48 : decode mR_hasInput.2.1 48 = .ok (.getfield 20, 3) := by decide +kernel
theorem dR_hasInput_51 : decode mR_hasInput.2.1 51 = .ok (.iload_n 3, 1) := by decide +kernel
theorem dR_hasInput_52 : decode mR_hasInput.2.1 52 = .ok (.iaload, 1) := by decide +kernel
theorem dR_hasInput_53 : decode mR_hasInput.2.1 53 = .ok (.invokevirtual 143, 3) := by decide +kernel
theorem dR_hasInput_56 : decode mR_hasInput.2.1 56 = .ok (.iload_n 2, 1) := by decide +kernel
theorem dR_hasInput_57 : decode mR_hasInput.2.1 57 = .ok (.if_icmp .ne 7, 3) := by decide +kernel
theorem dR_hasInput_60 : decode mR_hasInput.2.1 60 = .ok (.iconst 1, 1) := by decide +kernel
theorem dR_hasInput_61 : decode mR_hasInput.2.1 61 = .ok (.goto 4, 3) := by decide +kernel
theorem dR_hasInput_64 : decode mR_hasInput.2.1 64 = .ok (.iconst 0, 1) := by decide +kernel
theorem dR_hasInput_65 : decode mR_hasInput.2.1 65 = .ok (.ireturn, 1) := by decide +kernel
theorem dR_plan_0 : decode mR_plan.2.1 0 = .ok (.aload_n 0, 1) := by decide +kernel
theorem dR_plan_1 : decode mR_plan.2.1 1 = .ok (.iconst 0, 1) := by decide +kernel
theorem dR_plan_2 : decode mR_plan.2.1 2 = .ok (.putfield 158, 3) := by decide +kernel
theorem dR_plan_5 : decode mR_plan.2.1 5 = .ok (.iconst 0, 1) := by decide +kernel
theorem dR_plan_6 : decode mR_plan.2.1 6 = .ok (.istore_n 1, 1) := by decide +kernel
theorem dR_plan_7 : decode mR_plan.2.1 7 = .ok (.iload_n 1, 1) := by decide +kernel
theorem dR_plan_8 : decode mR_plan.2.1 8 = .ok (.aload_n 0, 1) := by decide +kernel
theorem dR_plan_9 : decode mR_plan.2.1 9 = .ok (.getfield 106, 3) := by decide +kernel
theorem dR_plan_12 : decode mR_plan.2.1 12 = .ok (.if_icmp .ge 16, 3) := by decide +kernel
theorem dR_plan_15 : decode mR_plan.2.1 15 = .ok (.aload_n 0, 1) := by decide +kernel
theorem dR_plan_16 : decode mR_plan.2.1 16 = .ok (.getfield 76, 3) := by decide +kernel
theorem dR_plan_19 : decode mR_plan.2.1 19 = .ok (.iload_n 1, 1) := by decide +kernel
theorem dR_plan_20 : decode mR_plan.2.1 20 = .ok (.iconst (-1), 1) := by decide +kernel
theorem dR_plan_21 : decode mR_plan.2.1 21 = .ok (.iastore, 1) := by decide +kernel
theorem dR_plan_22 : decode mR_plan.2.1 22 = .ok (.iinc 1 1, 3) := by decide +kernel
theorem dR_plan_25 : decode mR_plan.2.1 25 = .ok (.goto (-18), 3) := by decide +kernel
theorem dR_plan_28 : decode mR_plan.2.1 28 = .ok (.iconst 0, 1) := by decide +kernel
theorem dR_plan_29 : decode mR_plan.2.1 29 = .ok (.istore_n 1, 1) := by decide +kernel
theorem dR_plan_30 : decode mR_plan.2.1 30 = .ok (.iload_n 1, 1) := by decide +kernel
theorem dR_plan_31 : decode mR_plan.2.1 31 = .ok (.aload_n 0, 1) := by decide +kernel
theorem dR_plan_32 : decode mR_plan.2.1 32 = .ok (.getfield 152, 3) := by decide +kernel
theorem dR_plan_35 : decode mR_plan.2.1 35 = .ok (.if_icmp .ge 164, 3) := by decide +kernel
theorem dR_plan_38 : decode mR_plan.2.1 38 = .ok (.iconst (-1), 1) := by decide +kernel
theorem dR_plan_39 : decode mR_plan.2.1 39 = .ok (.istore_n 2, 1) := by decide +kernel
theorem dR_plan_40 : decode mR_plan.2.1 40 = .ok (.iconst 0, 1) := by decide +kernel
theorem dR_plan_41 : decode mR_plan.2.1 41 = .ok (.istore_n 3, 1) := by decide +kernel
theorem dR_plan_42 : decode mR_plan.2.1 42 = .ok (.iload_n 3, 1) := by decide +kernel
theorem dR_plan_43 : decode mR_plan.2.1 43 = .ok (.aload_n 0, 1) := by decide +kernel
theorem dR_plan_44 : decode mR_plan.2.1 44 = .ok (.getfield 106, 3) := by decide +kernel
theorem dR_plan_47 : decode mR_plan.2.1 47 = .ok (.if_icmp .ge 47, 3) := by decide +kernel
theorem dR_plan_50 : decode mR_plan.2.1 50 = .ok (.aload_n 0, 1) := by decide +kernel
theorem dR_plan_51 : decode mR_plan.2.1 51 = .ok (.getfield 67, 3) := by decide +kernel
theorem dR_plan_54 : decode mR_plan.2.1 54 = .ok (.iload_n 3, 1) := by decide +kernel
theorem dR_plan_55 : decode mR_plan.2.1 55 = .ok (.iaload, 1) := by decide +kernel
theorem dR_plan_56 : decode mR_plan.2.1 56 = .ok (.iconst 2, 1) := by decide +kernel
theorem dR_plan_57 : decode mR_plan.2.1 57 = .ok (.if_icmp .ne 31, 3) := by decide +kernel
theorem dR_plan_60 : decode mR_plan.2.1 60 = .ok (.aload_n 0, 1) := by decide +kernel
theorem dR_plan_61 : decode mR_plan.2.1 61 = .ok (.getfield 76, 3) := by decide +kernel
theorem dR_plan_64 : decode mR_plan.2.1 64 = .ok (.iload_n 3, 1) := by decide +kernel
theorem dR_plan_65 : decode mR_plan.2.1 65 = .ok (.iaload, 1) := by decide +kernel
theorem dR_plan_66 : decode mR_plan.2.1 66 = .ok (.ifCond .ge 22, 3) := by decide +kernel
theorem dR_plan_69 : decode mR_plan.2.1 69 = .ok (.iload_n 2, 1) := by decide +kernel
theorem dR_plan_70 : decode mR_plan.2.1 70 = .ok (.ifCond .lt 16, 3) := by decide +kernel
theorem dR_plan_73 : decode mR_plan.2.1 73 = .ok (.aload_n 0, 1) := by decide +kernel
theorem dR_plan_74 : decode mR_plan.2.1 74 = .ok (.iload_n 3, 1) := by decide +kernel
theorem dR_plan_75 : decode mR_plan.2.1 75 = .ok (.invokevirtual 137, 3) := by decide +kernel
theorem dR_plan_78 : decode mR_plan.2.1 78 = .ok (.aload_n 0, 1) := by decide +kernel
theorem dR_plan_79 : decode mR_plan.2.1 79 = .ok (.iload_n 2, 1) := by decide +kernel
theorem dR_plan_80 : decode mR_plan.2.1 80 = .ok (.invokevirtual 137, 3) := by decide +kernel
theorem dR_plan_83 : decode mR_plan.2.1 83 = .ok (.if_icmp .le 5, 3) := by decide +kernel
theorem dR_plan_86 : decode mR_plan.2.1 86 = .ok (.iload_n 3, 1) := by decide +kernel
theorem dR_plan_87 : decode mR_plan.2.1 87 = .ok (.istore_n 2, 1) := by decide +kernel
theorem dR_plan_88 : decode mR_plan.2.1 88 = .ok (.iinc 3 1, 3) := by decide +kernel
theorem dR_plan_91 : decode mR_plan.2.1 91 = .ok (.goto (-49), 3) := by decide +kernel
theorem dR_plan_94 : decode mR_plan.2.1 94 = .ok (.iconst 0, 1) := by decide +kernel
theorem dR_plan_95 : decode mR_plan.2.1 95 = .ok (.istore_n 3, 1) := by decide +kernel
theorem dR_plan_96 : decode mR_plan.2.1 96 = .ok (.iconst 1, 1) := by decide +kernel
theorem dR_plan_97 : decode mR_plan.2.1 97 = .ok (.istore 4, 2) := by decide +kernel
theorem dR_plan_99 : decode mR_plan.2.1 99 = .ok (.iload 4, 2) := by decide +kernel
theorem dR_plan_101 : decode mR_plan.2.1 101 = .ok (.ifCond .eq 60, 3) := by decide +kernel
theorem dR_plan_104 : decode mR_plan.2.1 104 = .ok (.iconst 0, 1) := by decide +kernel
theorem dR_plan_105 : decode mR_plan.2.1 105 = .ok (.istore 4, 2) := by decide +kernel
theorem dR_plan_107 : decode mR_plan.2.1 107 = .ok (.iconst 0, 1) := by decide +kernel
theorem dR_plan_108 : decode mR_plan.2.1 108 = .ok (.istore 5, 2) := by decide +kernel
theorem dR_plan_110 : decode mR_plan.2.1 110 = .ok (.iload 5, 2) := by decide +kernel
theorem dR_plan_112 : decode mR_plan.2.1 112 = .ok (.aload_n 0, 1) := by decide +kernel
theorem dR_plan_113 : decode mR_plan.2.1 113 = .ok (.getfield 106, 3) := by decide +kernel
theorem dR_plan_116 : decode mR_plan.2.1 116 = .ok (.if_icmp .ge 42, 3) := by decide +kernel
theorem dR_plan_119 : decode mR_plan.2.1 119 = .ok (.iload 5, 2) := by decide +kernel
theorem dR_plan_121 : decode mR_plan.2.1 121 = .ok (.iload_n 2, 1) := by decide +kernel
theorem dR_plan_122 : decode mR_plan.2.1 122 = .ok (.if_icmp .eq 30, 3) := by decide +kernel
theorem dR_plan_125 : decode mR_plan.2.1 125 = .ok (.aload_n 0, 1) := by decide +kernel
theorem dR_plan_126 : decode mR_plan.2.1 126 = .ok (.getfield 76, 3) := by decide +kernel
theorem dR_plan_129 : decode mR_plan.2.1 129 = .ok (.iload 5, 2) := by decide +kernel
theorem dR_plan_131 : decode mR_plan.2.1 131 = .ok (.iaload, 1) := by decide +kernel
theorem dR_plan_132 : decode mR_plan.2.1 132 = .ok (.ifCond .lt 20, 3) := by decide +kernel
theorem dR_plan_135 : decode mR_plan.2.1 135 = .ok (.aload_n 0, 1) := by decide +kernel
theorem dR_plan_136 : decode mR_plan.2.1 136 = .ok (.iload_n 2, 1) := by decide +kernel
theorem dR_plan_137 : decode mR_plan.2.1 137 = .ok (.iload_n 3, 1) := by decide +kernel
theorem dR_plan_138 : decode mR_plan.2.1 138 = .ok (.iload 5, 2) := by decide +kernel
theorem dR_plan_140 : decode mR_plan.2.1 140 = .ok (.invokevirtual 161, 3) := by decide +kernel
theorem dR_plan_143 : decode mR_plan.2.1 143 = .ok (.ifCond .eq 9, 3) := by decide +kernel
theorem dR_plan_146 : decode mR_plan.2.1 146 = .ok (.iinc 3 1, 3) := by decide +kernel
theorem dR_plan_149 : decode mR_plan.2.1 149 = .ok (.iconst 1, 1) := by decide +kernel
theorem dR_plan_150 : decode mR_plan.2.1 150 = .ok (.istore 4, 2) := by decide +kernel
theorem dR_plan_152 : decode mR_plan.2.1 152 = .ok (.iinc 5 1, 3) := by decide +kernel
theorem dR_plan_155 : decode mR_plan.2.1 155 = .ok (.goto (-45), 3) := by decide +kernel
theorem dR_plan_158 : decode mR_plan.2.1 158 = .ok (.goto (-59), 3) := by decide +kernel
theorem dR_plan_161 : decode mR_plan.2.1 161 = .ok (.aload_n 0, 1) := by decide +kernel
theorem dR_plan_162 : decode mR_plan.2.1 162 = .ok (.getfield 76, 3) := by decide +kernel
theorem dR_plan_165 : decode mR_plan.2.1 165 = .ok (.iload_n 2, 1) := by decide +kernel
theorem dR_plan_166 : decode mR_plan.2.1 166 = .ok (.iload_n 3, 1) := by decide +kernel
theorem dR_plan_167 : decode mR_plan.2.1 167 = .ok (.iastore, 1) := by decide +kernel
theorem dR_plan_168 : decode mR_plan.2.1 168 = .ok (.iload_n 3, 1) := by decide +kernel
theorem dR_plan_169 : decode mR_plan.2.1 169 = .ok (.aload_n 0, 1) := by decide +kernel
theorem dR_plan_170 : decode mR_plan.2.1 170 = .ok (.iload_n 2, 1) := by decide +kernel
theorem dR_plan_171 : decode mR_plan.2.1 171 = .ok (.invokevirtual 137, 3) := by decide +kernel
theorem dR_plan_174 : decode mR_plan.2.1 174 = .ok (.iadd, 1) := by decide +kernel
theorem dR_plan_175 : decode mR_plan.2.1 175 = .ok (.aload_n 0, 1) := by decide +kernel
theorem dR_plan_176 : decode mR_plan.2.1 176 = .ok (.getfield 158, 3) := by decide +kernel
theorem dR_plan_179 : decode mR_plan.2.1 179 = .ok (.if_icmp .le 14, 3) := by decide +kernel
theorem dR_plan_182 : decode mR_plan.2.1 182 = .ok (.aload_n 0, 1) := by decide +kernel
theorem dR_plan_183 : decode mR_plan.2.1 183 = .ok (.iload_n 3, 1) := by decide +kernel
theorem dR_plan_184 : decode mR_plan.2.1 184 = .ok (.aload_n 0, 1) := by decide +kernel
theorem dR_plan_185 : decode mR_plan.2.1 185 = .ok (.iload_n 2, 1) := by decide +kernel
theorem dR_plan_186 : decode mR_plan.2.1 186 = .ok (.invokevirtual 137, 3) := by decide +kernel
theorem dR_plan_189 : decode mR_plan.2.1 189 = .ok (.iadd, 1) := by decide +kernel
theorem dR_plan_190 : decode mR_plan.2.1 190 = .ok (.putfield 158, 3) := by decide +kernel
theorem dR_plan_193 : decode mR_plan.2.1 193 = .ok (.iinc 1 1, 3) := by decide +kernel
theorem dR_plan_196 : decode mR_plan.2.1 196 = .ok (.goto (-166), 3) := by decide +kernel
theorem dR_plan_199 : decode mR_plan.2.1 199 = .ok (.return_, 1) := by decide +kernel
theorem dR_hits_0 : decode mR_hits.2.1 0 = .ok (.aload_n 0, 1) := by decide +kernel
theorem dR_hits_1 : decode mR_hits.2.1 1 = .ok (.getfield 70, 3) := by decide +kernel
theorem dR_hits_4 : decode mR_hits.2.1 4 = .ok (.iload_n 1, 1) := by decide +kernel
theorem dR_hits_5 : decode mR_hits.2.1 5 = .ok (.iaload, 1) := by decide +kernel
theorem dR_hits_6 : decode mR_hits.2.1 6 = .ok (.aload_n 0, 1) := by decide +kernel
theorem dR_hits_7 : decode mR_hits.2.1 7 = .ok (.getfield 73, 3) := by decide +kernel
theorem dR_hits_10 : decode mR_hits.2.1 10 = .ok (.iload_n 3, 1) := by decide +kernel
theorem dR_hits_11 : decode mR_hits.2.1 11 = .ok (.iaload, 1) := by decide +kernel
theorem dR_hits_12 : decode mR_hits.2.1 12 = .ok (.if_icmp .gt 22, 3) := by decide +kernel
theorem dR_hits_15 : decode mR_hits.2.1 15 = .ok (.aload_n 0, 1) := by decide +kernel
theorem dR_hits_16 : decode mR_hits.2.1 16 = .ok (.getfield 70, 3) := by decide +kernel
theorem dR_hits_19 : decode mR_hits.2.1 19 = .ok (.iload_n 3, 1) := by decide +kernel
theorem dR_hits_20 : decode mR_hits.2.1 20 = .ok (.iaload, 1) := by decide +kernel
theorem dR_hits_21 : decode mR_hits.2.1 21 = .ok (.aload_n 0, 1) := by decide +kernel
theorem dR_hits_22 : decode mR_hits.2.1 22 = .ok (.getfield 73, 3) := by decide +kernel
theorem dR_hits_25 : decode mR_hits.2.1 25 = .ok (.iload_n 1, 1) := by decide +kernel
theorem dR_hits_26 : decode mR_hits.2.1 26 = .ok (.iaload, 1) := by decide +kernel
theorem dR_hits_27 : decode mR_hits.2.1 27 = .ok (.if_icmp .gt 7, 3) := by decide +kernel
theorem dR_hits_30 : decode mR_hits.2.1 30 = .ok (.iconst 1, 1) := by decide +kernel
theorem dR_hits_31 : decode mR_hits.2.1 31 = .ok (.goto 4, 3) := by decide +kernel
theorem dR_hits_34 : decode mR_hits.2.1 34 = .ok (.iconst 0, 1) := by decide +kernel
theorem dR_hits_35 : decode mR_hits.2.1 35 = .ok (.istore 4, 2) := by decide +kernel
theorem dR_hits_37 : decode mR_hits.2.1 37 = .ok (.iload 4, 2) := by decide +kernel
theorem dR_hits_39 : decode mR_hits.2.1 39 = .ok (.ifCond .eq 39, 3) := by decide +kernel
theorem dR_hits_42 : decode mR_hits.2.1 42 = .ok (.iload_n 2, 1) := by decide +kernel
theorem dR_hits_43 : decode mR_hits.2.1 43 = .ok (.aload_n 0, 1) := by decide +kernel
theorem dR_hits_44 : decode mR_hits.2.1 44 = .ok (.getfield 76, 3) := by decide +kernel
theorem dR_hits_47 : decode mR_hits.2.1 47 = .ok (.iload_n 3, 1) := by decide +kernel
theorem dR_hits_48 : decode mR_hits.2.1 48 = .ok (.iaload, 1) := by decide +kernel
theorem dR_hits_49 : decode mR_hits.2.1 49 = .ok (.aload_n 0, 1) := by decide +kernel
theorem dR_hits_50 : decode mR_hits.2.1 50 = .ok (.iload_n 3, 1) := by decide +kernel
theorem dR_hits_51 : decode mR_hits.2.1 51 = .ok (.invokevirtual 137, 3) := by decide +kernel
theorem dR_hits_54 : decode mR_hits.2.1 54 = .ok (.iadd, 1) := by decide +kernel
theorem dR_hits_55 : decode mR_hits.2.1 55 = .ok (.if_icmp .ge 23, 3) := by decide +kernel
theorem dR_hits_58 : decode mR_hits.2.1 58 = .ok (.aload_n 0, 1) := by decide +kernel
theorem dR_hits_59 : decode mR_hits.2.1 59 = .ok (.getfield 76, 3) := by decide +kernel
theorem dR_hits_62 : decode mR_hits.2.1 62 = .ok (.iload_n 3, 1) := by decide +kernel
theorem dR_hits_63 : decode mR_hits.2.1 63 = .ok (.iaload, 1) := by decide +kernel
theorem dR_hits_64 : decode mR_hits.2.1 64 = .ok (.iload_n 2, 1) := by decide +kernel
theorem dR_hits_65 : decode mR_hits.2.1 65 = .ok (.aload_n 0, 1) := by decide +kernel
theorem dR_hits_66 : decode mR_hits.2.1 66 = .ok (.iload_n 1, 1) := by decide +kernel
theorem dR_hits_67 : decode mR_hits.2.1 67 = .ok (.invokevirtual 137, 3) := by decide +kernel
theorem dR_hits_70 : decode mR_hits.2.1 70 = .ok (.iadd, 1) := by decide +kernel
theorem dR_hits_71 : decode mR_hits.2.1 71 = .ok (.if_icmp .ge 7, 3) := by decide +kernel
theorem dR_hits_74 : decode mR_hits.2.1 74 = .ok (.iconst 1, 1) := by decide +kernel
theorem dR_hits_75 : decode mR_hits.2.1 75 = .ok (.goto 4, 3) := by decide +kernel
theorem dR_hits_78 : decode mR_hits.2.1 78 = .ok (.iconst 0, 1) := by decide +kernel
theorem dR_hits_79 : decode mR_hits.2.1 79 = .ok (.ireturn, 1) := by decide +kernel
theorem dR_feed_0 : decode mR_feed.2.1 0 = .ok (.aload_n 0, 1) := by decide +kernel
theorem dR_feed_1 : decode mR_feed.2.1 1 = .ok (.iconst 0, 1) := by decide +kernel
theorem dR_feed_2 : decode mR_feed.2.1 2 = .ok (.putfield 85, 3) := by decide +kernel
theorem dR_feed_5 : decode mR_feed.2.1 5 = .ok (.aload_n 0, 1) := by decide +kernel
theorem dR_feed_6 : decode mR_feed.2.1 6 = .ok (.iload_n 1, 1) := by decide +kernel
theorem dR_feed_7 : decode mR_feed.2.1 7 = .ok (.aload_n 0, 1) := by decide +kernel
theorem dR_feed_8 : decode mR_feed.2.1 8 = .ok (.getfield 106, 3) := by decide +kernel
theorem dR_feed_11 : decode mR_feed.2.1 11 = .ok (.invokevirtual 94, 3) := by decide +kernel
theorem dR_feed_14 : decode mR_feed.2.1 14 = .ok (.ifCond .ne 25, 3) := by decide +kernel
theorem dR_feed_17 : decode mR_feed.2.1 17 = .ok (.aload_n 0, 1) := by decide +kernel
theorem dR_feed_18 : decode mR_feed.2.1 18 = .ok (.getfield 17, 3) := by decide +kernel
theorem dR_feed_21 : decode mR_feed.2.1 21 = .ok (.iload_n 1, 1) := by decide +kernel
theorem dR_feed_22 : decode mR_feed.2.1 22 = .ok (.iaload, 1) := by decide +kernel
theorem dR_feed_23 : decode mR_feed.2.1 23 = .ok (.ifCond .ne 16, 3) := by decide +kernel
theorem dR_feed_26 : decode mR_feed.2.1 26 = .ok (.aload_n 0, 1) := by decide +kernel
theorem dR_feed_27 : decode mR_feed.2.1 27 = .ok (.iload_n 2, 1) := by decide +kernel
theorem dR_feed_28 : decode mR_feed.2.1 28 = .ok (.aload_n 0, 1) := by decide +kernel
theorem dR_feed_29 : decode mR_feed.2.1 29 = .ok (.iload_n 1, 1) := by decide +kernel
theorem dR_feed_30 : decode mR_feed.2.1 30 = .ok (.invokevirtual 137, 3) := by decide +kernel
theorem dR_feed_33 : decode mR_feed.2.1 33 = .ok (.invokevirtual 94, 3) := by decide +kernel
theorem dR_feed_36 : decode mR_feed.2.1 36 = .ok (.ifCond .eq 9, 3) := by decide +kernel
theorem dR_feed_39 : decode mR_feed.2.1 39 = .ok (.aload_n 0, 1) := by decide +kernel
theorem dR_feed_40 : decode mR_feed.2.1 40 = .ok (.iconst 1, 1) := by decide +kernel
theorem dR_feed_41 : decode mR_feed.2.1 41 = .ok (.invokevirtual 98, 3) := by decide +kernel
theorem dR_feed_44 : decode mR_feed.2.1 44 = .ok (.ireturn, 1) := by decide +kernel
theorem dR_feed_45 : decode mR_feed.2.1 45 = .ok (.iconst 0, 1) := by decide +kernel
theorem dR_feed_46 : decode mR_feed.2.1 46 = .ok (.istore 5, 2) := by decide +kernel
theorem dR_feed_48 : decode mR_feed.2.1 48 = .ok (.iconst 0, 1) := by decide +kernel
theorem dR_feed_49 : decode mR_feed.2.1 49 = .ok (.istore 6, 2) := by decide +kernel
theorem dR_feed_51 : decode mR_feed.2.1 51 = .ok (.iload 6, 2) := by decide +kernel
theorem dR_feed_53 : decode mR_feed.2.1 53 = .ok (.bipush 8, 2) := by decide +kernel
theorem dR_feed_55 : decode mR_feed.2.1 55 = .ok (.if_icmp .ge 51, 3) := by decide +kernel
theorem dR_feed_58 : decode mR_feed.2.1 58 = .ok (.iload_n 2, 1) := by decide +kernel
theorem dR_feed_59 : decode mR_feed.2.1 59 = .ok (.iload 6, 2) := by decide +kernel
theorem dR_feed_61 : decode mR_feed.2.1 61 = .ok (.iadd, 1) := by decide +kernel
theorem dR_feed_62 : decode mR_feed.2.1 62 = .ok (.aload_n 0, 1) := by decide +kernel
theorem dR_feed_63 : decode mR_feed.2.1 63 = .ok (.iload_n 1, 1) := by decide +kernel
theorem dR_feed_64 : decode mR_feed.2.1 64 = .ok (.invokevirtual 137, 3) := by decide +kernel
theorem dR_feed_67 : decode mR_feed.2.1 67 = .ok (.if_icmp .ge 39, 3) := by decide +kernel
theorem dR_feed_70 : decode mR_feed.2.1 70 = .ok (.aload_n 0, 1) := by decide +kernel
theorem dR_feed_71 : decode mR_feed.2.1 71 = .ok (.getfield 57, 3) := by decide +kernel
theorem dR_feed_74 : decode mR_feed.2.1 74 = .ok (.sipush 128, 3) := by decide +kernel
theorem dR_feed_77 : decode mR_feed.2.1 77 = .ok (.iload_n 1, 1) := by decide +kernel
theorem dR_feed_78 : decode mR_feed.2.1 78 = .ok (.imul, 1) := by decide +kernel
theorem dR_feed_79 : decode mR_feed.2.1 79 = .ok (.iload_n 2, 1) := by decide +kernel
theorem dR_feed_80 : decode mR_feed.2.1 80 = .ok (.iadd, 1) := by decide +kernel
theorem dR_feed_81 : decode mR_feed.2.1 81 = .ok (.iload 6, 2) := by decide +kernel
theorem dR_feed_83 : decode mR_feed.2.1 83 = .ok (.iadd, 1) := by decide +kernel
theorem dR_feed_84 : decode mR_feed.2.1 84 = .ok (.lload_n 3, 1) := by decide +kernel
theorem dR_feed_85 : decode mR_feed.2.1 85 = .ok (.bipush 56, 2) := by decide +kernel
theorem dR_feed_87 : decode mR_feed.2.1 87 = .ok (.bipush 8, 2) := by decide +kernel
theorem dR_feed_89 : decode mR_feed.2.1 89 = .ok (.iload 6, 2) := by decide +kernel
theorem dR_feed_91 : decode mR_feed.2.1 91 = .ok (.imul, 1) := by decide +kernel
theorem dR_feed_92 : decode mR_feed.2.1 92 = .ok (.isub, 1) := by decide +kernel
theorem dR_feed_93 : decode mR_feed.2.1 93 = .ok (.lshr, 1) := by decide +kernel
theorem dR_feed_94 : decode mR_feed.2.1 94 = .ok (.l2i, 1) := by decide +kernel
theorem dR_feed_95 : decode mR_feed.2.1 95 = .ok (.i2b, 1) := by decide +kernel
theorem dR_feed_96 : decode mR_feed.2.1 96 = .ok (.iastore, 1) := by decide +kernel
theorem dR_feed_97 : decode mR_feed.2.1 97 = .ok (.iinc 5 1, 3) := by decide +kernel
theorem dR_feed_100 : decode mR_feed.2.1 100 = .ok (.iinc 6 1, 3) := by decide +kernel
theorem dR_feed_103 : decode mR_feed.2.1 103 = .ok (.goto (-52), 3) := by decide +kernel
theorem dR_feed_106 : decode mR_feed.2.1 106 = .ok (.iload 5, 2) := by decide +kernel
theorem dR_feed_108 : decode mR_feed.2.1 108 = .ok (.ireturn, 1) := by decide +kernel
theorem dR_run_0 : decode mR_run.2.1 0 = .ok (.aload_n 0, 1) := by decide +kernel
theorem dR_run_1 : decode mR_run.2.1 1 = .ok (.iconst 0, 1) := by decide +kernel
theorem dR_run_2 : decode mR_run.2.1 2 = .ok (.putfield 85, 3) := by decide +kernel
theorem dR_run_5 : decode mR_run.2.1 5 = .ok (.iload_n 1, 1) := by decide +kernel
theorem dR_run_6 : decode mR_run.2.1 6 = .ok (.ifCond .ge 9, 3) := by decide +kernel
theorem dR_run_9 : decode mR_run.2.1 9 = .ok (.aload_n 0, 1) := by decide +kernel
theorem dR_run_10 : decode mR_run.2.1 10 = .ok (.iconst 1, 1) := by decide +kernel
theorem dR_run_11 : decode mR_run.2.1 11 = .ok (.invokevirtual 98, 3) := by decide +kernel
theorem dR_run_14 : decode mR_run.2.1 14 = .ok (.ireturn, 1) := by decide +kernel
theorem dR_run_15 : decode mR_run.2.1 15 = .ok (.aload_n 0, 1) := by decide +kernel
theorem dR_run_16 : decode mR_run.2.1 16 = .ok (.getfield 109, 3) := by decide +kernel
theorem dR_run_19 : decode mR_run.2.1 19 = .ok (.ifCond .ne 9, 3) := by decide +kernel
theorem dR_run_22 : decode mR_run.2.1 22 = .ok (.aload_n 0, 1) := by decide +kernel
theorem dR_run_23 : decode mR_run.2.1 23 = .ok (.iconst 2, 1) := by decide +kernel
theorem dR_run_24 : decode mR_run.2.1 24 = .ok (.invokevirtual 98, 3) := by decide +kernel
theorem dR_run_27 : decode mR_run.2.1 27 = .ok (.ireturn, 1) := by decide +kernel
theorem dR_run_28 : decode mR_run.2.1 28 = .ok (.iload_n 1, 1) := by decide +kernel
theorem dR_run_29 : decode mR_run.2.1 29 = .ok (.aload_n 0, 1) := by decide +kernel
theorem dR_run_30 : decode mR_run.2.1 30 = .ok (.getfield 158, 3) := by decide +kernel
theorem dR_run_33 : decode mR_run.2.1 33 = .ok (.if_icmp .ge 9, 3) := by decide +kernel
theorem dR_run_36 : decode mR_run.2.1 36 = .ok (.aload_n 0, 1) := by decide +kernel
theorem dR_run_37 : decode mR_run.2.1 37 = .ok (.iconst 3, 1) := by decide +kernel
theorem dR_run_38 : decode mR_run.2.1 38 = .ok (.invokevirtual 98, 3) := by decide +kernel
theorem dR_run_41 : decode mR_run.2.1 41 = .ok (.ireturn, 1) := by decide +kernel
theorem dR_run_42 : decode mR_run.2.1 42 = .ok (.iconst 0, 1) := by decide +kernel
theorem dR_run_43 : decode mR_run.2.1 43 = .ok (.istore_n 2, 1) := by decide +kernel
theorem dR_run_44 : decode mR_run.2.1 44 = .ok (.iload_n 2, 1) := by decide +kernel
theorem dR_run_45 : decode mR_run.2.1 45 = .ok (.aload_n 0, 1) := by decide +kernel
theorem dR_run_46 : decode mR_run.2.1 46 = .ok (.getfield 158, 3) := by decide +kernel
theorem dR_run_49 : decode mR_run.2.1 49 = .ok (.if_icmp .ge 16, 3) := by decide +kernel
theorem dR_run_52 : decode mR_run.2.1 52 = .ok (.aload_n 0, 1) := by decide +kernel
theorem dR_run_53 : decode mR_run.2.1 53 = .ok (.getfield 79, 3) := by decide +kernel
theorem dR_run_56 : decode mR_run.2.1 56 = .ok (.iload_n 2, 1) := by decide +kernel
theorem dR_run_57 : decode mR_run.2.1 57 = .ok (.iconst 0, 1) := by decide +kernel
theorem dR_run_58 : decode mR_run.2.1 58 = .ok (.iastore, 1) := by decide +kernel
theorem dR_run_59 : decode mR_run.2.1 59 = .ok (.iinc 2 1, 3) := by decide +kernel
theorem dR_run_62 : decode mR_run.2.1 62 = .ok (.goto (-18), 3) := by decide +kernel
theorem dR_run_65 : decode mR_run.2.1 65 = .ok (.iconst 0, 1) := by decide +kernel
theorem dR_run_66 : decode mR_run.2.1 66 = .ok (.istore_n 2, 1) := by decide +kernel
theorem dR_run_67 : decode mR_run.2.1 67 = .ok (.iload_n 2, 1) := by decide +kernel
theorem dR_run_68 : decode mR_run.2.1 68 = .ok (.aload_n 0, 1) := by decide +kernel
theorem dR_run_69 : decode mR_run.2.1 69 = .ok (.getfield 106, 3) := by decide +kernel
theorem dR_run_72 : decode mR_run.2.1 72 = .ok (.if_icmp .ge 88, 3) := by decide +kernel
theorem dR_run_75 : decode mR_run.2.1 75 = .ok (.iconst 0, 1) := by decide +kernel
theorem dR_run_76 : decode mR_run.2.1 76 = .ok (.istore_n 3, 1) := by decide +kernel
theorem dR_run_77 : decode mR_run.2.1 77 = .ok (.aload_n 0, 1) := by decide +kernel
theorem dR_run_78 : decode mR_run.2.1 78 = .ok (.getfield 67, 3) := by decide +kernel
theorem dR_run_81 : decode mR_run.2.1 81 = .ok (.iload_n 2, 1) := by decide +kernel
theorem dR_run_82 : decode mR_run.2.1 82 = .ok (.iaload, 1) := by decide +kernel
theorem dR_run_83 : decode mR_run.2.1 83 = .ok (.ifCond .le 71, 3) := by decide +kernel
theorem dR_run_86 : decode mR_run.2.1 86 = .ok (.iload_n 3, 1) := by decide +kernel
theorem dR_run_87 : decode mR_run.2.1 87 = .ok (.aload_n 0, 1) := by decide +kernel
theorem dR_run_88 : decode mR_run.2.1 88 = .ok (.iload_n 2, 1) := by decide +kernel
theorem dR_run_89 : decode mR_run.2.1 89 = .ok (.invokevirtual 137, 3) := by decide +kernel
theorem dR_run_92 : decode mR_run.2.1 92 = .ok (.if_icmp .ge 62, 3) := by decide +kernel
theorem dR_run_95 : decode mR_run.2.1 95 = .ok (.aload_n 0, 1) := by decide +kernel
theorem dR_run_96 : decode mR_run.2.1 96 = .ok (.getfield 54, 3) := by decide +kernel
theorem dR_run_99 : decode mR_run.2.1 99 = .ok (.sipush 128, 3) := by decide +kernel
theorem dR_run_102 : decode mR_run.2.1 102 = .ok (.iload_n 2, 1) := by decide +kernel
theorem dR_run_103 : decode mR_run.2.1 103 = .ok (.imul, 1) := by decide +kernel
theorem dR_run_104 : decode mR_run.2.1 104 = .ok (.iload_n 3, 1) := by decide +kernel
theorem dR_run_105 : decode mR_run.2.1 105 = .ok (.iadd, 1) := by decide +kernel
theorem dR_run_106 : decode mR_run.2.1 106 = .ok (.aload_n 0, 1) := by decide +kernel
theorem dR_run_107 : decode mR_run.2.1 107 = .ok (.iload_n 2, 1) := by decide +kernel
theorem dR_run_108 : decode mR_run.2.1 108 = .ok (.iload_n 3, 1) := by decide +kernel
theorem dR_run_109 : decode mR_run.2.1 109 = .ok (.invokevirtual 229, 3) := by decide +kernel
theorem dR_run_112 : decode mR_run.2.1 112 = .ok (.iastore, 1) := by decide +kernel
theorem dR_run_113 : decode mR_run.2.1 113 = .ok (.aload_n 0, 1) := by decide +kernel
theorem dR_run_114 : decode mR_run.2.1 114 = .ok (.getfield 67, 3) := by decide +kernel
theorem dR_run_117 : decode mR_run.2.1 117 = .ok (.iload_n 2, 1) := by decide +kernel
theorem dR_run_118 : decode mR_run.2.1 118 = .ok (.iaload, 1) := by decide +kernel
theorem dR_run_119 : decode mR_run.2.1 119 = .ok (.iconst 2, 1) := by decide +kernel
theorem dR_run_120 : decode mR_run.2.1 120 = .ok (.if_icmp .ne 28, 3) := by decide +kernel
theorem dR_run_123 : decode mR_run.2.1 123 = .ok (.aload_n 0, 1) := by decide +kernel
theorem dR_run_124 : decode mR_run.2.1 124 = .ok (.getfield 79, 3) := by decide +kernel
theorem dR_run_127 : decode mR_run.2.1 127 = .ok (.aload_n 0, 1) := by decide +kernel
theorem dR_run_128 : decode mR_run.2.1 128 = .ok (.getfield 76, 3) := by decide +kernel
theorem dR_run_131 : decode mR_run.2.1 131 = .ok (.iload_n 2, 1) := by decide +kernel
theorem dR_run_132 : decode mR_run.2.1 132 = .ok (.iaload, 1) := by decide +kernel
theorem dR_run_133 : decode mR_run.2.1 133 = .ok (.iload_n 3, 1) := by decide +kernel
theorem dR_run_134 : decode mR_run.2.1 134 = .ok (.iadd, 1) := by decide +kernel
theorem dR_run_135 : decode mR_run.2.1 135 = .ok (.aload_n 0, 1) := by decide +kernel
theorem dR_run_136 : decode mR_run.2.1 136 = .ok (.getfield 54, 3) := by decide +kernel
theorem dR_run_139 : decode mR_run.2.1 139 = .ok (.sipush 128, 3) := by decide +kernel
theorem dR_run_142 : decode mR_run.2.1 142 = .ok (.iload_n 2, 1) := by decide +kernel
theorem dR_run_143 : decode mR_run.2.1 143 = .ok (.imul, 1) := by decide +kernel
theorem dR_run_144 : decode mR_run.2.1 144 = .ok (.iload_n 3, 1) := by decide +kernel
theorem dR_run_145 : decode mR_run.2.1 145 = .ok (.iadd, 1) := by decide +kernel
theorem dR_run_146 : decode mR_run.2.1 146 = .ok (.iaload, 1) := by decide +kernel
theorem dR_run_147 : decode mR_run.2.1 147 = .ok (.iastore, 1) := by decide +kernel
theorem dR_run_148 : decode mR_run.2.1 148 = .ok (.iinc 3 1, 3) := by decide +kernel
theorem dR_run_151 : decode mR_run.2.1 151 = .ok (.goto (-74), 3) := by decide +kernel
theorem dR_run_154 : decode mR_run.2.1 154 = .ok (.iinc 2 1, 3) := by decide +kernel
theorem dR_run_157 : decode mR_run.2.1 157 = .ok (.goto (-90), 3) := by decide +kernel
theorem dR_run_160 : decode mR_run.2.1 160 = .ok (.aload_n 0, 1) := by decide +kernel
theorem dR_run_161 : decode mR_run.2.1 161 = .ok (.getfield 64, 3) := by decide +kernel
theorem dR_run_164 : decode mR_run.2.1 164 = .ok (.aload_n 0, 1) := by decide +kernel
theorem dR_run_165 : decode mR_run.2.1 165 = .ok (.getfield 60, 3) := by decide +kernel
theorem dR_run_168 : decode mR_run.2.1 168 = .ok (.iaload, 1) := by decide +kernel
theorem dR_run_169 : decode mR_run.2.1 169 = .ok (.istore_n 2, 1) := by decide +kernel
theorem dR_run_170 : decode mR_run.2.1 170 = .ok (.iconst 0, 1) := by decide +kernel
theorem dR_run_171 : decode mR_run.2.1 171 = .ok (.istore_n 3, 1) := by decide +kernel
theorem dR_run_172 : decode mR_run.2.1 172 = .ok (.aload_n 0, 1) := by decide +kernel
theorem dR_run_173 : decode mR_run.2.1 173 = .ok (.aload_n 0, 1) := by decide +kernel
theorem dR_run_174 : decode mR_run.2.1 174 = .ok (.getfield 158, 3) := by decide +kernel
theorem dR_run_177 : decode mR_run.2.1 177 = .ok (.putfield 232, 3) := by decide +kernel
theorem dR_run_180 : decode mR_run.2.1 180 = .ok (.aload_n 0, 1) := by decide +kernel
theorem dR_run_181 : decode mR_run.2.1 181 = .ok (.aload_n 0, 1) := by decide +kernel
theorem dR_run_182 : decode mR_run.2.1 182 = .ok (.aload_n 0, 1) := by decide +kernel
theorem dR_run_183 : decode mR_run.2.1 183 = .ok (.getfield 60, 3) := by decide +kernel
theorem dR_run_186 : decode mR_run.2.1 186 = .ok (.invokevirtual 137, 3) := by decide +kernel
theorem dR_run_189 : decode mR_run.2.1 189 = .ok (.putfield 235, 3) := by decide +kernel
theorem dR_run_192 : decode mR_run.2.1 192 = .ok (.aload_n 0, 1) := by decide +kernel
theorem dR_run_193 : decode mR_run.2.1 193 = .ok (.aload_n 0, 1) := by decide +kernel
theorem dR_run_194 : decode mR_run.2.1 194 = .ok (.getfield 35, 3) := by decide +kernel
theorem dR_run_197 : decode mR_run.2.1 197 = .ok (.aload_n 0, 1) := by decide +kernel
theorem dR_run_198 : decode mR_run.2.1 198 = .ok (.getfield 60, 3) := by decide +kernel
theorem dR_run_201 : decode mR_run.2.1 201 = .ok (.daload, 1) := by decide +kernel
theorem dR_run_202 : decode mR_run.2.1 202 = .ok (.putfield 238, 3) := by decide +kernel
theorem dR_run_205 : decode mR_run.2.1 205 = .ok (.iconst 0, 1) := by decide +kernel
theorem dR_run_206 : decode mR_run.2.1 206 = .ok (.istore 4, 2) := by decide +kernel
theorem dR_run_208 : decode mR_run.2.1 208 = .ok (.iload 4, 2) := by decide +kernel
theorem dR_run_210 : decode mR_run.2.1 210 = .ok (.aload_n 0, 1) := by decide +kernel
theorem dR_run_211 : decode mR_run.2.1 211 = .ok (.iload_n 2, 1) := by decide +kernel
theorem dR_run_212 : decode mR_run.2.1 212 = .ok (.invokevirtual 137, 3) := by decide +kernel
theorem dR_run_215 : decode mR_run.2.1 215 = .ok (.if_icmp .ge 39, 3) := by decide +kernel
theorem dR_run_218 : decode mR_run.2.1 218 = .ok (.aload_n 0, 1) := by decide +kernel
theorem dR_run_219 : decode mR_run.2.1 219 = .ok (.getfield 82, 3) := by decide +kernel
theorem dR_run_222 : decode mR_run.2.1 222 = .ok (.iload 4, 2) := by decide +kernel
theorem dR_run_224 : decode mR_run.2.1 224 = .ok (.aload_n 0, 1) := by decide +kernel
theorem dR_run_225 : decode mR_run.2.1 225 = .ok (.getfield 54, 3) := by decide +kernel
theorem dR_run_228 : decode mR_run.2.1 228 = .ok (.sipush 128, 3) := by decide +kernel
theorem dR_run_231 : decode mR_run.2.1 231 = .ok (.iload_n 2, 1) := by decide +kernel
theorem dR_run_232 : decode mR_run.2.1 232 = .ok (.imul, 1) := by decide +kernel
theorem dR_run_233 : decode mR_run.2.1 233 = .ok (.iload 4, 2) := by decide +kernel
theorem dR_run_235 : decode mR_run.2.1 235 = .ok (.iadd, 1) := by decide +kernel
theorem dR_run_236 : decode mR_run.2.1 236 = .ok (.iaload, 1) := by decide +kernel
theorem dR_run_237 : decode mR_run.2.1 237 = .ok (.iastore, 1) := by decide +kernel
theorem dR_run_238 : decode mR_run.2.1 238 = .ok (.iload_n 3, 1) := by decide +kernel
theorem dR_run_239 : decode mR_run.2.1 239 = .ok (.aload_n 0, 1) := by decide +kernel
theorem dR_run_240 : decode mR_run.2.1 240 = .ok (.getfield 82, 3) := by decide +kernel
theorem dR_run_243 : decode mR_run.2.1 243 = .ok (.iload 4, 2) := by decide +kernel
theorem dR_run_245 : decode mR_run.2.1 245 = .ok (.iaload, 1) := by decide +kernel
theorem dR_run_246 : decode mR_run.2.1 246 = .ok (.iadd, 1) := by decide +kernel
theorem dR_run_247 : decode mR_run.2.1 247 = .ok (.istore_n 3, 1) := by decide +kernel
theorem dR_run_248 : decode mR_run.2.1 248 = .ok (.iinc 4 1, 3) := by decide +kernel
theorem dR_run_251 : decode mR_run.2.1 251 = .ok (.goto (-43), 3) := by decide +kernel
theorem dR_run_254 : decode mR_run.2.1 254 = .ok (.iload_n 3, 1) := by decide +kernel
theorem dR_run_255 : decode mR_run.2.1 255 = .ok (.ireturn, 1) := by decide +kernel
theorem dR_value_0 : decode mR_value.2.1 0 = .ok (.aload_n 0, 1) := by decide +kernel
theorem dR_value_1 : decode mR_value.2.1 1 = .ok (.aload_n 0, 1) := by decide +kernel
theorem dR_value_2 : decode mR_value.2.1 2 = .ok (.getfield 20, 3) := by decide +kernel
theorem dR_value_5 : decode mR_value.2.1 5 = .ok (.iload_n 1, 1) := by decide +kernel
theorem dR_value_6 : decode mR_value.2.1 6 = .ok (.iaload, 1) := by decide +kernel
theorem dR_value_7 : decode mR_value.2.1 7 = .ok (.invokevirtual 143, 3) := by decide +kernel
theorem dR_value_10 : decode mR_value.2.1 10 = .ok (.istore_n 3, 1) := by decide +kernel
theorem dR_value_11 : decode mR_value.2.1 11 = .ok (.aload_n 0, 1) := by decide +kernel
theorem dR_value_12 : decode mR_value.2.1 12 = .ok (.aload_n 0, 1) := by decide +kernel
theorem dR_value_13 : decode mR_value.2.1 13 = .ok (.getfield 23, 3) := by decide +kernel
theorem dR_value_16 : decode mR_value.2.1 16 = .ok (.iload_n 1, 1) := by decide +kernel
theorem dR_value_17 : decode mR_value.2.1 17 = .ok (.iaload, 1) := by decide +kernel
theorem dR_value_18 : decode mR_value.2.1 18 = .ok (.invokevirtual 143, 3) := by decide +kernel
theorem dR_value_21 : decode mR_value.2.1 21 = .ok (.istore 4, 2) := by decide +kernel
theorem dR_value_23 : decode mR_value.2.1 23 = .ok (.iload_n 2, 1) := by decide +kernel
theorem dR_value_24 : decode mR_value.2.1 24 = .ok (.aload_n 0, 1) := by decide +kernel
theorem dR_value_25 : decode mR_value.2.1 25 = .ok (.getfield 32, 3) := by decide +kernel
theorem dR_value_28 : decode mR_value.2.1 28 = .ok (.iload_n 1, 1) := by decide +kernel
theorem dR_value_29 : decode mR_value.2.1 29 = .ok (.iaload, 1) := by decide +kernel
theorem dR_value_30 : decode mR_value.2.1 30 = .ok (.irem, 1) := by decide +kernel
theorem dR_value_31 : decode mR_value.2.1 31 = .ok (.istore 5, 2) := by decide +kernel
theorem dR_value_33 : decode mR_value.2.1 33 = .ok (.iload_n 2, 1) := by decide +kernel
theorem dR_value_34 : decode mR_value.2.1 34 = .ok (.aload_n 0, 1) := by decide +kernel
theorem dR_value_35 : decode mR_value.2.1 35 = .ok (.getfield 32, 3) := by decide +kernel
theorem dR_value_38 : decode mR_value.2.1 38 = .ok (.iload_n 1, 1) := by decide +kernel
theorem dR_value_39 : decode mR_value.2.1 39 = .ok (.iaload, 1) := by decide +kernel
theorem dR_value_40 : decode mR_value.2.1 40 = .ok (.idiv, 1) := by decide +kernel
theorem dR_value_41 : decode mR_value.2.1 41 = .ok (.aload_n 0, 1) := by decide +kernel
theorem dR_value_42 : decode mR_value.2.1 42 = .ok (.getfield 29, 3) := by decide +kernel
theorem dR_value_45 : decode mR_value.2.1 45 = .ok (.iload_n 1, 1) := by decide +kernel
theorem dR_value_46 : decode mR_value.2.1 46 = .ok (.iaload, 1) := by decide +kernel
theorem dR_value_47 : decode mR_value.2.1 47 = .ok (.irem, 1) := by decide +kernel
theorem dR_value_48 : decode mR_value.2.1 48 = .ok (.istore 6, 2) := by decide +kernel
theorem dR_value_50 : decode mR_value.2.1 50 = .ok (.iload_n 2, 1) := by decide +kernel
theorem dR_value_51 : decode mR_value.2.1 51 = .ok (.aload_n 0, 1) := by decide +kernel
theorem dR_value_52 : decode mR_value.2.1 52 = .ok (.getfield 32, 3) := by decide +kernel
theorem dR_value_55 : decode mR_value.2.1 55 = .ok (.iload_n 1, 1) := by decide +kernel
theorem dR_value_56 : decode mR_value.2.1 56 = .ok (.iaload, 1) := by decide +kernel
theorem dR_value_57 : decode mR_value.2.1 57 = .ok (.idiv, 1) := by decide +kernel
theorem dR_value_58 : decode mR_value.2.1 58 = .ok (.aload_n 0, 1) := by decide +kernel
theorem dR_value_59 : decode mR_value.2.1 59 = .ok (.getfield 29, 3) := by decide +kernel
theorem dR_value_62 : decode mR_value.2.1 62 = .ok (.iload_n 1, 1) := by decide +kernel
theorem dR_value_63 : decode mR_value.2.1 63 = .ok (.iaload, 1) := by decide +kernel
theorem dR_value_64 : decode mR_value.2.1 64 = .ok (.idiv, 1) := by decide +kernel
theorem dR_value_65 : decode mR_value.2.1 65 = .ok (.istore 7, 2) := by decide +kernel
theorem dR_value_67 : decode mR_value.2.1 67 = .ok (.aload_n 0, 1) := by decide +kernel
theorem dR_value_68 : decode mR_value.2.1 68 = .ok (.getfield 17, 3) := by decide +kernel
theorem dR_value_71 : decode mR_value.2.1 71 = .ok (.iload_n 1, 1) := by decide +kernel
theorem dR_value_72 : decode mR_value.2.1 72 = .ok (.iaload, 1) := by decide +kernel
theorem dR_value_73 : decode mR_value.2.1 73 = .ok (.iconst 1, 1) := by decide +kernel
theorem dR_value_74 : decode mR_value.2.1 74 = .ok (.if_icmp .lt 36, 3) := by decide +kernel
theorem dR_value_77 : decode mR_value.2.1 77 = .ok (.aload_n 0, 1) := by decide +kernel
theorem dR_value_78 : decode mR_value.2.1 78 = .ok (.getfield 17, 3) := by decide +kernel
theorem dR_value_81 : decode mR_value.2.1 81 = .ok (.iload_n 1, 1) := by decide +kernel
theorem dR_value_82 : decode mR_value.2.1 82 = .ok (.iaload, 1) := by decide +kernel
theorem dR_value_83 : decode mR_value.2.1 83 = .ok (.iconst 3, 1) := by decide +kernel
theorem dR_value_84 : decode mR_value.2.1 84 = .ok (.if_icmp .gt 26, 3) := by decide +kernel
theorem dR_value_87 : decode mR_value.2.1 87 = .ok (.aload_n 0, 1) := by decide +kernel
theorem dR_value_88 : decode mR_value.2.1 88 = .ok (.getfield 35, 3) := by decide +kernel
theorem dR_value_91 : decode mR_value.2.1 91 = .ok (.iload_n 3, 1) := by decide +kernel
theorem dR_value_92 : decode mR_value.2.1 92 = .ok (.daload, 1) := by decide +kernel
theorem dR_value_93 : decode mR_value.2.1 93 = .ok (.aload_n 0, 1) := by decide +kernel
theorem dR_value_94 : decode mR_value.2.1 94 = .ok (.getfield 39, 3) := by decide +kernel
theorem dR_value_97 : decode mR_value.2.1 97 = .ok (.iload_n 1, 1) := by decide +kernel
theorem dR_value_98 : decode mR_value.2.1 98 = .ok (.daload, 1) := by decide +kernel
theorem dR_value_99 : decode mR_value.2.1 99 = .ok (.dmul, 1) := by decide +kernel
theorem dR_value_100 : decode mR_value.2.1 100 = .ok (.aload_n 0, 1) := by decide +kernel
theorem dR_value_101 : decode mR_value.2.1 101 = .ok (.getfield 35, 3) := by decide +kernel
theorem dR_value_104 : decode mR_value.2.1 104 = .ok (.iload_n 1, 1) := by decide +kernel
theorem dR_value_105 : decode mR_value.2.1 105 = .ok (.daload, 1) := by decide +kernel
theorem dR_value_106 : decode mR_value.2.1 106 = .ok (.ddiv, 1) := by decide +kernel
theorem dR_value_107 : decode mR_value.2.1 107 = .ok (.goto 4, 3) := by decide +kernel
theorem dR_value_110 : decode mR_value.2.1 110 = .ok (.dconst 0, 1) := by decide +kernel
theorem dR_value_111 : decode mR_value.2.1 111 = .ok (.dstore 8, 2) := by decide +kernel
theorem dR_value_113 : decode mR_value.2.1 113 = .ok (.aload_n 0, 1) := by decide +kernel
theorem dR_value_114 : decode mR_value.2.1 114 = .ok (.getfield 17, 3) := by decide +kernel
theorem dR_value_117 : decode mR_value.2.1 117 = .ok (.iload_n 1, 1) := by decide +kernel
theorem dR_value_118 : decode mR_value.2.1 118 = .ok (.iaload, 1) := by decide +kernel
theorem dR_value_119 : decode mR_value.2.1 119 = .ok (.tableswitch 289 0 9 #[53, 66, 66, 89, 108, 176, 190, 203, 203, 216], 53) := by decide +kernel
theorem dR_value_172 : decode mR_value.2.1 172 = .ok (.aload_n 0, 1) := by decide +kernel
theorem dR_value_173 : decode mR_value.2.1 173 = .ok (.getfield 57, 3) := by decide +kernel
theorem dR_value_176 : decode mR_value.2.1 176 = .ok (.sipush 128, 3) := by decide +kernel
theorem dR_value_179 : decode mR_value.2.1 179 = .ok (.iload_n 1, 1) := by decide +kernel
theorem dR_value_180 : decode mR_value.2.1 180 = .ok (.imul, 1) := by decide +kernel
theorem dR_value_181 : decode mR_value.2.1 181 = .ok (.iload_n 2, 1) := by decide +kernel
theorem dR_value_182 : decode mR_value.2.1 182 = .ok (.iadd, 1) := by decide +kernel
theorem dR_value_183 : decode mR_value.2.1 183 = .ok (.iaload, 1) := by decide +kernel
theorem dR_value_184 : decode mR_value.2.1 184 = .ok (.ireturn, 1) := by decide +kernel
theorem dR_value_185 : decode mR_value.2.1 185 = .ok (.aload_n 0, 1) := by decide +kernel
theorem dR_value_186 : decode mR_value.2.1 186 = .ok (.aload_n 0, 1) := by decide +kernel
theorem dR_value_187 : decode mR_value.2.1 187 = .ok (.aload_n 0, 1) := by decide +kernel
theorem dR_value_188 : decode mR_value.2.1 188 = .ok (.iload_n 1, 1) := by decide +kernel
theorem dR_value_189 : decode mR_value.2.1 189 = .ok (.iload_n 3, 1) := by decide +kernel
theorem dR_value_190 : decode mR_value.2.1 190 = .ok (.iload 7, 2) := by decide +kernel
theorem dR_value_192 : decode mR_value.2.1 192 = .ok (.iload 6, 2) := by decide +kernel
theorem dR_value_194 : decode mR_value.2.1 194 = .ok (.iload 5, 2) := by decide +kernel
theorem dR_value_196 : decode mR_value.2.1 196 = .ok (.invokevirtual 206, 3) := by decide +kernel
theorem dR_value_199 : decode mR_value.2.1 199 = .ok (.dload 8, 2) := by decide +kernel
theorem dR_value_201 : decode mR_value.2.1 201 = .ok (.invokevirtual 210, 3) := by decide +kernel
theorem dR_value_204 : decode mR_value.2.1 204 = .ok (.invokevirtual 214, 3) := by decide +kernel
theorem dR_value_207 : decode mR_value.2.1 207 = .ok (.ireturn, 1) := by decide +kernel
theorem dR_value_208 : decode mR_value.2.1 208 = .ok (.aload_n 0, 1) := by decide +kernel
theorem dR_value_209 : decode mR_value.2.1 209 = .ok (.aload_n 0, 1) := by decide +kernel
theorem dR_value_210 : decode mR_value.2.1 210 = .ok (.aload_n 0, 1) := by decide +kernel
theorem dR_value_211 : decode mR_value.2.1 211 = .ok (.iload_n 1, 1) := by decide +kernel
theorem dR_value_212 : decode mR_value.2.1 212 = .ok (.iload_n 3, 1) := by decide +kernel
theorem dR_value_213 : decode mR_value.2.1 213 = .ok (.iload 5, 2) := by decide +kernel
theorem dR_value_215 : decode mR_value.2.1 215 = .ok (.invokevirtual 218, 3) := by decide +kernel
theorem dR_value_218 : decode mR_value.2.1 218 = .ok (.dload 8, 2) := by decide +kernel
theorem dR_value_220 : decode mR_value.2.1 220 = .ok (.invokevirtual 210, 3) := by decide +kernel
theorem dR_value_223 : decode mR_value.2.1 223 = .ok (.invokevirtual 214, 3) := by decide +kernel
theorem dR_value_226 : decode mR_value.2.1 226 = .ok (.ireturn, 1) := by decide +kernel
theorem dR_value_227 : decode mR_value.2.1 227 = .ok (.aload_n 0, 1) := by decide +kernel
theorem dR_value_228 : decode mR_value.2.1 228 = .ok (.aload_n 0, 1) := by decide +kernel
theorem dR_value_229 : decode mR_value.2.1 229 = .ok (.aload_n 0, 1) := by decide +kernel
theorem dR_value_230 : decode mR_value.2.1 230 = .ok (.getfield 54, 3) := by decide +kernel
theorem dR_value_233 : decode mR_value.2.1 233 = .ok (.sipush 128, 3) := by decide +kernel
theorem dR_value_236 : decode mR_value.2.1 236 = .ok (.iload_n 3, 1) := by decide +kernel
theorem dR_value_237 : decode mR_value.2.1 237 = .ok (.imul, 1) := by decide +kernel
theorem dR_value_238 : decode mR_value.2.1 238 = .ok (.iload_n 2, 1) := by decide +kernel
theorem dR_value_239 : decode mR_value.2.1 239 = .ok (.iadd, 1) := by decide +kernel
theorem dR_value_240 : decode mR_value.2.1 240 = .ok (.iaload, 1) := by decide +kernel
theorem dR_value_241 : decode mR_value.2.1 241 = .ok (.i2l, 1) := by decide +kernel
theorem dR_value_242 : decode mR_value.2.1 242 = .ok (.aload_n 0, 1) := by decide +kernel
theorem dR_value_243 : decode mR_value.2.1 243 = .ok (.getfield 35, 3) := by decide +kernel
theorem dR_value_246 : decode mR_value.2.1 246 = .ok (.iload_n 3, 1) := by decide +kernel
theorem dR_value_247 : decode mR_value.2.1 247 = .ok (.daload, 1) := by decide +kernel
theorem dR_value_248 : decode mR_value.2.1 248 = .ok (.aload_n 0, 1) := by decide +kernel
theorem dR_value_249 : decode mR_value.2.1 249 = .ok (.getfield 35, 3) := by decide +kernel
theorem dR_value_252 : decode mR_value.2.1 252 = .ok (.iload_n 1, 1) := by decide +kernel
theorem dR_value_253 : decode mR_value.2.1 253 = .ok (.daload, 1) := by decide +kernel
theorem dR_value_254 : decode mR_value.2.1 254 = .ok (.ddiv, 1) := by decide +kernel
theorem dR_value_255 : decode mR_value.2.1 255 = .ok (.invokevirtual 210, 3) := by decide +kernel
theorem dR_value_258 : decode mR_value.2.1 258 = .ok (.aload_n 0, 1) := by decide +kernel
theorem dR_value_259 : decode mR_value.2.1 259 = .ok (.aload_n 0, 1) := by decide +kernel
theorem dR_value_260 : decode mR_value.2.1 260 = .ok (.getfield 54, 3) := by decide +kernel
theorem dR_value_263 : decode mR_value.2.1 263 = .ok (.sipush 128, 3) := by decide +kernel
theorem dR_value_266 : decode mR_value.2.1 266 = .ok (.iload 4, 2) := by decide +kernel
theorem dR_value_268 : decode mR_value.2.1 268 = .ok (.imul, 1) := by decide +kernel
theorem dR_value_269 : decode mR_value.2.1 269 = .ok (.iload_n 2, 1) := by decide +kernel
theorem dR_value_270 : decode mR_value.2.1 270 = .ok (.iadd, 1) := by decide +kernel
theorem dR_value_271 : decode mR_value.2.1 271 = .ok (.iaload, 1) := by decide +kernel
theorem dR_value_272 : decode mR_value.2.1 272 = .ok (.i2l, 1) := by decide +kernel
theorem dR_value_273 : decode mR_value.2.1 273 = .ok (.aload_n 0, 1) := by decide +kernel
theorem dR_value_274 : decode mR_value.2.1 274 = .ok (.getfield 35, 3) := by decide +kernel
theorem dR_value_277 : decode mR_value.2.1 277 = .ok (.iload 4, 2) := by decide +kernel
theorem dR_value_279 : decode mR_value.2.1 279 = .ok (.daload, 1) := by decide +kernel
theorem dR_value_280 : decode mR_value.2.1 280 = .ok (.aload_n 0, 1) := by decide +kernel
theorem dR_value_281 : decode mR_value.2.1 281 = .ok (.getfield 35, 3) := by decide +kernel
theorem dR_value_284 : decode mR_value.2.1 284 = .ok (.iload_n 1, 1) := by decide +kernel
theorem dR_value_285 : decode mR_value.2.1 285 = .ok (.daload, 1) := by decide +kernel
theorem dR_value_286 : decode mR_value.2.1 286 = .ok (.ddiv, 1) := by decide +kernel
theorem dR_value_287 : decode mR_value.2.1 287 = .ok (.invokevirtual 210, 3) := by decide +kernel
theorem dR_value_290 : decode mR_value.2.1 290 = .ok (.ladd, 1) := by decide +kernel
theorem dR_value_291 : decode mR_value.2.1 291 = .ok (.invokevirtual 214, 3) := by decide +kernel
theorem dR_value_294 : decode mR_value.2.1 294 = .ok (.ireturn, 1) := by decide +kernel
theorem dR_value_295 : decode mR_value.2.1 295 = .ok (.aload_n 0, 1) := by decide +kernel
theorem dR_value_296 : decode mR_value.2.1 296 = .ok (.iload_n 3, 1) := by decide +kernel
theorem dR_value_297 : decode mR_value.2.1 297 = .ok (.iload 4, 2) := by decide +kernel
theorem dR_value_299 : decode mR_value.2.1 299 = .ok (.iload 7, 2) := by decide +kernel
theorem dR_value_301 : decode mR_value.2.1 301 = .ok (.iload 6, 2) := by decide +kernel
theorem dR_value_303 : decode mR_value.2.1 303 = .ok (.iload 5, 2) := by decide +kernel
theorem dR_value_305 : decode mR_value.2.1 305 = .ok (.invokevirtual 222, 3) := by decide +kernel
theorem dR_value_308 : decode mR_value.2.1 308 = .ok (.ireturn, 1) := by decide +kernel
theorem dR_value_309 : decode mR_value.2.1 309 = .ok (.aload_n 0, 1) := by decide +kernel
theorem dR_value_310 : decode mR_value.2.1 310 = .ok (.getfield 54, 3) := by decide +kernel
theorem dR_value_313 : decode mR_value.2.1 313 = .ok (.sipush 128, 3) := by decide +kernel
theorem dR_value_316 : decode mR_value.2.1 316 = .ok (.iload_n 3, 1) := by decide +kernel
theorem dR_value_317 : decode mR_value.2.1 317 = .ok (.imul, 1) := by decide +kernel
theorem dR_value_318 : decode mR_value.2.1 318 = .ok (.iload_n 2, 1) := by decide +kernel
theorem dR_value_319 : decode mR_value.2.1 319 = .ok (.iadd, 1) := by decide +kernel
theorem dR_value_320 : decode mR_value.2.1 320 = .ok (.iaload, 1) := by decide +kernel
theorem dR_value_321 : decode mR_value.2.1 321 = .ok (.ireturn, 1) := by decide +kernel
theorem dR_value_322 : decode mR_value.2.1 322 = .ok (.aload_n 0, 1) := by decide +kernel
theorem dR_value_323 : decode mR_value.2.1 323 = .ok (.iload_n 1, 1) := by decide +kernel
theorem dR_value_324 : decode mR_value.2.1 324 = .ok (.iload_n 3, 1) := by decide +kernel
theorem dR_value_325 : decode mR_value.2.1 325 = .ok (.iload 7, 2) := by decide +kernel
theorem dR_value_327 : decode mR_value.2.1 327 = .ok (.iload 6, 2) := by decide +kernel
theorem dR_value_329 : decode mR_value.2.1 329 = .ok (.iload 5, 2) := by decide +kernel
theorem dR_value_331 : decode mR_value.2.1 331 = .ok (.invokevirtual 226, 3) := by decide +kernel
theorem dR_value_334 : decode mR_value.2.1 334 = .ok (.ireturn, 1) := by decide +kernel
theorem dR_value_335 : decode mR_value.2.1 335 = .ok (.aload_n 0, 1) := by decide +kernel
theorem dR_value_336 : decode mR_value.2.1 336 = .ok (.getfield 54, 3) := by decide +kernel
theorem dR_value_339 : decode mR_value.2.1 339 = .ok (.sipush 128, 3) := by decide +kernel
theorem dR_value_342 : decode mR_value.2.1 342 = .ok (.iload_n 3, 1) := by decide +kernel
theorem dR_value_343 : decode mR_value.2.1 343 = .ok (.imul, 1) := by decide +kernel
theorem dR_value_344 : decode mR_value.2.1 344 = .ok (.iload_n 2, 1) := by decide +kernel
theorem dR_value_345 : decode mR_value.2.1 345 = .ok (.iadd, 1) := by decide +kernel
theorem dR_value_346 : decode mR_value.2.1 346 = .ok (.iaload, 1) := by decide +kernel
theorem dR_value_347 : decode mR_value.2.1 347 = .ok (.aload_n 0, 1) := by decide +kernel
theorem dR_value_348 : decode mR_value.2.1 348 = .ok (.getfield 48, 3) := by decide +kernel
theorem dR_value_351 : decode mR_value.2.1 351 = .ok (.iload_n 1, 1) := by decide +kernel
theorem dR_value_352 : decode mR_value.2.1 352 = .ok (.iaload, 1) := by decide +kernel
theorem dR_value_353 : decode mR_value.2.1 353 = .ok (.if_icmp .ge 12, 3) := by decide +kernel
theorem dR_value_356 : decode mR_value.2.1 356 = .ok (.aload_n 0, 1) := by decide +kernel
theorem dR_value_357 : decode mR_value.2.1 357 = .ok (.getfield 48, 3) := by decide +kernel
theorem dR_value_360 : decode mR_value.2.1 360 = .ok (.iload_n 1, 1) := by decide +kernel
theorem dR_value_361 : decode mR_value.2.1 361 = .ok (.iaload, 1) := by decide +kernel
theorem dR_value_362 : decode mR_value.2.1 362 = .ok (.goto 45, 3) := by decide +kernel
theorem dR_value_365 : decode mR_value.2.1 365 = .ok (.aload_n 0, 1) := by decide +kernel
theorem dR_value_366 : decode mR_value.2.1 366 = .ok (.getfield 54, 3) := by decide +kernel
theorem dR_value_369 : decode mR_value.2.1 369 = .ok (.sipush 128, 3) := by decide +kernel
theorem dR_value_372 : decode mR_value.2.1 372 = .ok (.iload_n 3, 1) := by decide +kernel
theorem dR_value_373 : decode mR_value.2.1 373 = .ok (.imul, 1) := by decide +kernel
theorem dR_value_374 : decode mR_value.2.1 374 = .ok (.iload_n 2, 1) := by decide +kernel
theorem dR_value_375 : decode mR_value.2.1 375 = .ok (.iadd, 1) := by decide +kernel
theorem dR_value_376 : decode mR_value.2.1 376 = .ok (.iaload, 1) := by decide +kernel
theorem dR_value_377 : decode mR_value.2.1 377 = .ok (.aload_n 0, 1) := by decide +kernel
theorem dR_value_378 : decode mR_value.2.1 378 = .ok (.getfield 51, 3) := by decide +kernel
theorem dR_value_381 : decode mR_value.2.1 381 = .ok (.iload_n 1, 1) := by decide +kernel
theorem dR_value_382 : decode mR_value.2.1 382 = .ok (.iaload, 1) := by decide +kernel
theorem dR_value_383 : decode mR_value.2.1 383 = .ok (.if_icmp .le 12, 3) := by decide +kernel
theorem dR_value_386 : decode mR_value.2.1 386 = .ok (.aload_n 0, 1) := by decide +kernel
theorem dR_value_387 : decode mR_value.2.1 387 = .ok (.getfield 51, 3) := by decide +kernel
theorem dR_value_390 : decode mR_value.2.1 390 = .ok (.iload_n 1, 1) := by decide +kernel
theorem dR_value_391 : decode mR_value.2.1 391 = .ok (.iaload, 1) := by decide +kernel
theorem dR_value_392 : decode mR_value.2.1 392 = .ok (.goto 15, 3) := by decide +kernel
theorem dR_value_395 : decode mR_value.2.1 395 = .ok (.aload_n 0, 1) := by decide +kernel
theorem dR_value_396 : decode mR_value.2.1 396 = .ok (.getfield 54, 3) := by decide +kernel
theorem dR_value_399 : decode mR_value.2.1 399 = .ok (.sipush 128, 3) := by decide +kernel
theorem dR_value_402 : decode mR_value.2.1 402 = .ok (.iload_n 3, 1) := by decide +kernel
theorem dR_value_403 : decode mR_value.2.1 403 = .ok (.imul, 1) := by decide +kernel
theorem dR_value_404 : decode mR_value.2.1 404 = .ok (.iload_n 2, 1) := by decide +kernel
theorem dR_value_405 : decode mR_value.2.1 405 = .ok (.iadd, 1) := by decide +kernel
theorem dR_value_406 : decode mR_value.2.1 406 = .ok (.iaload, 1) := by decide +kernel
theorem dR_value_407 : decode mR_value.2.1 407 = .ok (.ireturn, 1) := by decide +kernel
theorem dR_value_408 : decode mR_value.2.1 408 = .ok (.aload_n 0, 1) := by decide +kernel
theorem dR_value_409 : decode mR_value.2.1 409 = .ok (.aload_n 0, 1) := by decide +kernel
theorem dR_value_410 : decode mR_value.2.1 410 = .ok (.aload_n 0, 1) := by decide +kernel
theorem dR_value_411 : decode mR_value.2.1 411 = .ok (.getfield 54, 3) := by decide +kernel
theorem dR_value_414 : decode mR_value.2.1 414 = .ok (.sipush 128, 3) := by decide +kernel
theorem dR_value_417 : decode mR_value.2.1 417 = .ok (.iload_n 3, 1) := by decide +kernel
theorem dR_value_418 : decode mR_value.2.1 418 = .ok (.imul, 1) := by decide +kernel
theorem dR_value_419 : decode mR_value.2.1 419 = .ok (.iload_n 2, 1) := by decide +kernel
theorem dR_value_420 : decode mR_value.2.1 420 = .ok (.iadd, 1) := by decide +kernel
theorem dR_value_421 : decode mR_value.2.1 421 = .ok (.iaload, 1) := by decide +kernel
theorem dR_value_422 : decode mR_value.2.1 422 = .ok (.i2l, 1) := by decide +kernel
theorem dR_value_423 : decode mR_value.2.1 423 = .ok (.aload_n 0, 1) := by decide +kernel
theorem dR_value_424 : decode mR_value.2.1 424 = .ok (.getfield 35, 3) := by decide +kernel
theorem dR_value_427 : decode mR_value.2.1 427 = .ok (.iload_n 3, 1) := by decide +kernel
theorem dR_value_428 : decode mR_value.2.1 428 = .ok (.daload, 1) := by decide +kernel
theorem dR_value_429 : decode mR_value.2.1 429 = .ok (.aload_n 0, 1) := by decide +kernel
theorem dR_value_430 : decode mR_value.2.1 430 = .ok (.getfield 35, 3) := by decide +kernel
theorem dR_value_433 : decode mR_value.2.1 433 = .ok (.iload_n 1, 1) := by decide +kernel
theorem dR_value_434 : decode mR_value.2.1 434 = .ok (.daload, 1) := by decide +kernel
theorem dR_value_435 : decode mR_value.2.1 435 = .ok (.ddiv, 1) := by decide +kernel
theorem dR_value_436 : decode mR_value.2.1 436 = .ok (.invokevirtual 210, 3) := by decide +kernel
theorem dR_value_439 : decode mR_value.2.1 439 = .ok (.invokevirtual 214, 3) := by decide +kernel
theorem dR_value_442 : decode mR_value.2.1 442 = .ok (.ireturn, 1) := by decide +kernel
theorem dR_windowSum_0 : decode mR_windowSum.2.1 0 = .ok (.aload_n 0, 1) := by decide +kernel
theorem dR_windowSum_1 : decode mR_windowSum.2.1 1 = .ok (.aload_n 0, 1) := by decide +kernel
theorem dR_windowSum_2 : decode mR_windowSum.2.1 2 = .ok (.getfield 42, 3) := by decide +kernel
theorem dR_windowSum_5 : decode mR_windowSum.2.1 5 = .ok (.iload_n 1, 1) := by decide +kernel
theorem dR_windowSum_6 : decode mR_windowSum.2.1 6 = .ok (.iaload, 1) := by decide +kernel
theorem dR_windowSum_7 : decode mR_windowSum.2.1 7 = .ok (.invokevirtual 124, 3) := by decide +kernel
theorem dR_windowSum_10 : decode mR_windowSum.2.1 10 = .ok (.istore 6, 2) := by decide +kernel
theorem dR_windowSum_12 : decode mR_windowSum.2.1 12 = .ok (.aload_n 0, 1) := by decide +kernel
theorem dR_windowSum_13 : decode mR_windowSum.2.1 13 = .ok (.getfield 17, 3) := by decide +kernel
theorem dR_windowSum_16 : decode mR_windowSum.2.1 16 = .ok (.iload_n 1, 1) := by decide +kernel
theorem dR_windowSum_17 : decode mR_windowSum.2.1 17 = .ok (.iaload, 1) := by decide +kernel
theorem dR_windowSum_18 : decode mR_windowSum.2.1 18 = .ok (.iconst 2, 1) := by decide +kernel
theorem dR_windowSum_19 : decode mR_windowSum.2.1 19 = .ok (.if_icmp .ne 7, 3) := by decide +kernel
theorem dR_windowSum_22 : decode mR_windowSum.2.1 22 = .ok (.iconst 1, 1) := by decide +kernel
theorem dR_windowSum_23 : decode mR_windowSum.2.1 23 = .ok (.goto 4, 3) := by decide +kernel
theorem dR_windowSum_26 : decode mR_windowSum.2.1 26 = .ok (.iconst 0, 1) := by decide +kernel
theorem dR_windowSum_27 : decode mR_windowSum.2.1 27 = .ok (.istore 7, 2) := by decide +kernel
theorem dR_windowSum_29 : decode mR_windowSum.2.1 29 = .ok (.lconst 0, 1) := by decide +kernel
theorem dR_windowSum_30 : decode mR_windowSum.2.1 30 = .ok (.lstore 8, 2) := by decide +kernel
theorem dR_windowSum_32 : decode mR_windowSum.2.1 32 = .ok (.iconst 0, 1) := by decide +kernel
theorem dR_windowSum_33 : decode mR_windowSum.2.1 33 = .ok (.istore 10, 2) := by decide +kernel
theorem dR_windowSum_35 : decode mR_windowSum.2.1 35 = .ok (.iload 10, 2) := by decide +kernel
theorem dR_windowSum_37 : decode mR_windowSum.2.1 37 = .ok (.iload 6, 2) := by decide +kernel
theorem dR_windowSum_39 : decode mR_windowSum.2.1 39 = .ok (.iload 6, 2) := by decide +kernel
theorem dR_windowSum_41 : decode mR_windowSum.2.1 41 = .ok (.imul, 1) := by decide +kernel
theorem dR_windowSum_42 : decode mR_windowSum.2.1 42 = .ok (.if_icmp .ge 239, 3) := by decide +kernel
theorem dR_windowSum_45 : decode mR_windowSum.2.1 45 = .ok (.iload_n 3, 1) := by decide +kernel
theorem dR_windowSum_46 : decode mR_windowSum.2.1 46 = .ok (.aload_n 0, 1) := by decide +kernel
theorem dR_windowSum_47 : decode mR_windowSum.2.1 47 = .ok (.aload_n 0, 1) := by decide +kernel
theorem dR_windowSum_48 : decode mR_windowSum.2.1 48 = .ok (.getfield 42, 3) := by decide +kernel
theorem dR_windowSum_51 : decode mR_windowSum.2.1 51 = .ok (.iload_n 1, 1) := by decide +kernel
theorem dR_windowSum_52 : decode mR_windowSum.2.1 52 = .ok (.iaload, 1) := by decide +kernel
theorem dR_windowSum_53 : decode mR_windowSum.2.1 53 = .ok (.invokevirtual 121, 3) := by decide +kernel
theorem dR_windowSum_56 : decode mR_windowSum.2.1 56 = .ok (.imul, 1) := by decide +kernel
theorem dR_windowSum_57 : decode mR_windowSum.2.1 57 = .ok (.aload_n 0, 1) := by decide +kernel
theorem dR_windowSum_58 : decode mR_windowSum.2.1 58 = .ok (.aload_n 0, 1) := by decide +kernel
theorem dR_windowSum_59 : decode mR_windowSum.2.1 59 = .ok (.getfield 26, 3) := by decide +kernel
theorem dR_windowSum_62 : decode mR_windowSum.2.1 62 = .ok (.iload_n 2, 1) := by decide +kernel
theorem dR_windowSum_63 : decode mR_windowSum.2.1 63 = .ok (.iaload, 1) := by decide +kernel
theorem dR_windowSum_64 : decode mR_windowSum.2.1 64 = .ok (.aload_n 0, 1) := by decide +kernel
theorem dR_windowSum_65 : decode mR_windowSum.2.1 65 = .ok (.getfield 42, 3) := by decide +kernel
theorem dR_windowSum_68 : decode mR_windowSum.2.1 68 = .ok (.iload_n 1, 1) := by decide +kernel
theorem dR_windowSum_69 : decode mR_windowSum.2.1 69 = .ok (.iaload, 1) := by decide +kernel
theorem dR_windowSum_70 : decode mR_windowSum.2.1 70 = .ok (.invokevirtual 198, 3) := by decide +kernel
theorem dR_windowSum_73 : decode mR_windowSum.2.1 73 = .ok (.isub, 1) := by decide +kernel
theorem dR_windowSum_74 : decode mR_windowSum.2.1 74 = .ok (.iload 10, 2) := by decide +kernel
theorem dR_windowSum_76 : decode mR_windowSum.2.1 76 = .ok (.iload 6, 2) := by decide +kernel
theorem dR_windowSum_78 : decode mR_windowSum.2.1 78 = .ok (.idiv, 1) := by decide +kernel
theorem dR_windowSum_79 : decode mR_windowSum.2.1 79 = .ok (.iadd, 1) := by decide +kernel
theorem dR_windowSum_80 : decode mR_windowSum.2.1 80 = .ok (.istore 11, 2) := by decide +kernel
theorem dR_windowSum_82 : decode mR_windowSum.2.1 82 = .ok (.iload 4, 2) := by decide +kernel
theorem dR_windowSum_84 : decode mR_windowSum.2.1 84 = .ok (.aload_n 0, 1) := by decide +kernel
theorem dR_windowSum_85 : decode mR_windowSum.2.1 85 = .ok (.aload_n 0, 1) := by decide +kernel
theorem dR_windowSum_86 : decode mR_windowSum.2.1 86 = .ok (.getfield 42, 3) := by decide +kernel
theorem dR_windowSum_89 : decode mR_windowSum.2.1 89 = .ok (.iload_n 1, 1) := by decide +kernel
theorem dR_windowSum_90 : decode mR_windowSum.2.1 90 = .ok (.iaload, 1) := by decide +kernel
theorem dR_windowSum_91 : decode mR_windowSum.2.1 91 = .ok (.invokevirtual 121, 3) := by decide +kernel
theorem dR_windowSum_94 : decode mR_windowSum.2.1 94 = .ok (.imul, 1) := by decide +kernel
theorem dR_windowSum_95 : decode mR_windowSum.2.1 95 = .ok (.aload_n 0, 1) := by decide +kernel
theorem dR_windowSum_96 : decode mR_windowSum.2.1 96 = .ok (.aload_n 0, 1) := by decide +kernel
theorem dR_windowSum_97 : decode mR_windowSum.2.1 97 = .ok (.getfield 29, 3) := by decide +kernel
theorem dR_windowSum_100 : decode mR_windowSum.2.1 100 = .ok (.iload_n 2, 1) := by decide +kernel
theorem dR_windowSum_101 : decode mR_windowSum.2.1 101 = .ok (.iaload, 1) := by decide +kernel
theorem dR_windowSum_102 : decode mR_windowSum.2.1 102 = .ok (.aload_n 0, 1) := by decide +kernel
theorem dR_windowSum_103 : decode mR_windowSum.2.1 103 = .ok (.getfield 42, 3) := by decide +kernel
theorem dR_windowSum_106 : decode mR_windowSum.2.1 106 = .ok (.iload_n 1, 1) := by decide +kernel
theorem dR_windowSum_107 : decode mR_windowSum.2.1 107 = .ok (.iaload, 1) := by decide +kernel
theorem dR_windowSum_108 : decode mR_windowSum.2.1 108 = .ok (.invokevirtual 198, 3) := by decide +kernel
theorem dR_windowSum_111 : decode mR_windowSum.2.1 111 = .ok (.isub, 1) := by decide +kernel
theorem dR_windowSum_112 : decode mR_windowSum.2.1 112 = .ok (.iload 10, 2) := by decide +kernel
theorem dR_windowSum_114 : decode mR_windowSum.2.1 114 = .ok (.iload 6, 2) := by decide +kernel
theorem dR_windowSum_116 : decode mR_windowSum.2.1 116 = .ok (.irem, 1) := by decide +kernel
theorem dR_windowSum_117 : decode mR_windowSum.2.1 117 = .ok (.iadd, 1) := by decide +kernel
theorem dR_windowSum_118 : decode mR_windowSum.2.1 118 = .ok (.istore 12, 2) := by decide +kernel
theorem dR_windowSum_120 : decode mR_windowSum.2.1 120 = .ok (.aload_n 0, 1) := by decide +kernel
theorem dR_windowSum_121 : decode mR_windowSum.2.1 121 = .ok (.iload 11, 2) := by decide +kernel
theorem dR_windowSum_123 : decode mR_windowSum.2.1 123 = .ok (.aload_n 0, 1) := by decide +kernel
theorem dR_windowSum_124 : decode mR_windowSum.2.1 124 = .ok (.getfield 26, 3) := by decide +kernel
theorem dR_windowSum_127 : decode mR_windowSum.2.1 127 = .ok (.iload_n 2, 1) := by decide +kernel
theorem dR_windowSum_128 : decode mR_windowSum.2.1 128 = .ok (.iaload, 1) := by decide +kernel
theorem dR_windowSum_129 : decode mR_windowSum.2.1 129 = .ok (.invokevirtual 94, 3) := by decide +kernel
theorem dR_windowSum_132 : decode mR_windowSum.2.1 132 = .ok (.ifCond .ne 143, 3) := by decide +kernel
theorem dR_windowSum_135 : decode mR_windowSum.2.1 135 = .ok (.aload_n 0, 1) := by decide +kernel
theorem dR_windowSum_136 : decode mR_windowSum.2.1 136 = .ok (.iload 12, 2) := by decide +kernel
theorem dR_windowSum_138 : decode mR_windowSum.2.1 138 = .ok (.aload_n 0, 1) := by decide +kernel
theorem dR_windowSum_139 : decode mR_windowSum.2.1 139 = .ok (.getfield 29, 3) := by decide +kernel
theorem dR_windowSum_142 : decode mR_windowSum.2.1 142 = .ok (.iload_n 2, 1) := by decide +kernel
theorem dR_windowSum_143 : decode mR_windowSum.2.1 143 = .ok (.iaload, 1) := by decide +kernel
theorem dR_windowSum_144 : decode mR_windowSum.2.1 144 = .ok (.invokevirtual 94, 3) := by decide +kernel
theorem dR_windowSum_147 : decode mR_windowSum.2.1 147 = .ok (.ifCond .eq 6, 3) := by decide +kernel
theorem dR_windowSum_150 : decode mR_windowSum.2.1 150 = .ok (.goto 125, 3) := by decide +kernel
theorem dR_windowSum_153 : decode mR_windowSum.2.1 153 = .ok (.iload 7, 2) := by decide +kernel
theorem dR_windowSum_155 : decode mR_windowSum.2.1 155 = .ok (.ifCond .eq 44, 3) := by decide +kernel
theorem dR_windowSum_158 : decode mR_windowSum.2.1 158 = .ok (.lload 8, 2) := by decide +kernel
theorem dR_windowSum_160 : decode mR_windowSum.2.1 160 = .ok (.aload_n 0, 1) := by decide +kernel
theorem dR_windowSum_161 : decode mR_windowSum.2.1 161 = .ok (.iload_n 2, 1) := by decide +kernel
theorem dR_windowSum_162 : decode mR_windowSum.2.1 162 = .ok (.iload 11, 2) := by decide +kernel
theorem dR_windowSum_164 : decode mR_windowSum.2.1 164 = .ok (.iload 12, 2) := by decide +kernel
theorem dR_windowSum_166 : decode mR_windowSum.2.1 166 = .ok (.iload 5, 2) := by decide +kernel
theorem dR_windowSum_168 : decode mR_windowSum.2.1 168 = .ok (.invokevirtual 201, 3) := by decide +kernel
theorem dR_windowSum_171 : decode mR_windowSum.2.1 171 = .ok (.aload_n 0, 1) := by decide +kernel
theorem dR_windowSum_172 : decode mR_windowSum.2.1 172 = .ok (.getfield 7, 3) := by decide +kernel
theorem dR_windowSum_175 : decode mR_windowSum.2.1 175 = .ok (.aload_n 0, 1) := by decide +kernel
theorem dR_windowSum_176 : decode mR_windowSum.2.1 176 = .ok (.getfield 45, 3) := by decide +kernel
theorem dR_windowSum_179 : decode mR_windowSum.2.1 179 = .ok (.iload_n 1, 1) := by decide +kernel
theorem dR_windowSum_180 : decode mR_windowSum.2.1 180 = .ok (.iaload, 1) := by decide +kernel
theorem dR_windowSum_181 : decode mR_windowSum.2.1 181 = .ok (.iload 5, 2) := by decide +kernel
theorem dR_windowSum_183 : decode mR_windowSum.2.1 183 = .ok (.iload 6, 2) := by decide +kernel
theorem dR_windowSum_185 : decode mR_windowSum.2.1 185 = .ok (.imul, 1) := by decide +kernel
theorem dR_windowSum_186 : decode mR_windowSum.2.1 186 = .ok (.iload 6, 2) := by decide +kernel
theorem dR_windowSum_188 : decode mR_windowSum.2.1 188 = .ok (.imul, 1) := by decide +kernel
theorem dR_windowSum_189 : decode mR_windowSum.2.1 189 = .ok (.iadd, 1) := by decide +kernel
theorem dR_windowSum_190 : decode mR_windowSum.2.1 190 = .ok (.iload 10, 2) := by decide +kernel
theorem dR_windowSum_192 : decode mR_windowSum.2.1 192 = .ok (.iadd, 1) := by decide +kernel
theorem dR_windowSum_193 : decode mR_windowSum.2.1 193 = .ok (.iaload, 1) := by decide +kernel
theorem dR_windowSum_194 : decode mR_windowSum.2.1 194 = .ok (.imul, 1) := by decide +kernel
theorem dR_windowSum_195 : decode mR_windowSum.2.1 195 = .ok (.i2l, 1) := by decide +kernel
theorem dR_windowSum_196 : decode mR_windowSum.2.1 196 = .ok (.ladd, 1) := by decide +kernel
theorem dR_windowSum_197 : decode mR_windowSum.2.1 197 = .ok (.lstore 8, 2) := by decide +kernel
theorem dR_windowSum_199 : decode mR_windowSum.2.1 199 = .ok (.iconst 0, 1) := by decide +kernel
theorem dR_windowSum_200 : decode mR_windowSum.2.1 200 = .ok (.istore 13, 2) := by decide +kernel
theorem dR_windowSum_202 : decode mR_windowSum.2.1 202 = .ok (.iload 7, 2) := by decide +kernel
theorem dR_windowSum_204 : decode mR_windowSum.2.1 204 = .ok (.ifCond .ne 71, 3) := by decide +kernel
theorem dR_windowSum_207 : decode mR_windowSum.2.1 207 = .ok (.iload 13, 2) := by decide +kernel
theorem dR_windowSum_209 : decode mR_windowSum.2.1 209 = .ok (.aload_n 0, 1) := by decide +kernel
theorem dR_windowSum_210 : decode mR_windowSum.2.1 210 = .ok (.getfield 32, 3) := by decide +kernel
theorem dR_windowSum_213 : decode mR_windowSum.2.1 213 = .ok (.iload_n 2, 1) := by decide +kernel
theorem dR_windowSum_214 : decode mR_windowSum.2.1 214 = .ok (.iaload, 1) := by decide +kernel
theorem dR_windowSum_215 : decode mR_windowSum.2.1 215 = .ok (.if_icmp .ge 60, 3) := by decide +kernel
theorem dR_windowSum_218 : decode mR_windowSum.2.1 218 = .ok (.lload 8, 2) := by decide +kernel
theorem dR_windowSum_220 : decode mR_windowSum.2.1 220 = .ok (.aload_n 0, 1) := by decide +kernel
theorem dR_windowSum_221 : decode mR_windowSum.2.1 221 = .ok (.iload_n 2, 1) := by decide +kernel
theorem dR_windowSum_222 : decode mR_windowSum.2.1 222 = .ok (.iload 11, 2) := by decide +kernel
theorem dR_windowSum_224 : decode mR_windowSum.2.1 224 = .ok (.iload 12, 2) := by decide +kernel
theorem dR_windowSum_226 : decode mR_windowSum.2.1 226 = .ok (.iload 13, 2) := by decide +kernel
theorem dR_windowSum_228 : decode mR_windowSum.2.1 228 = .ok (.invokevirtual 201, 3) := by decide +kernel
theorem dR_windowSum_231 : decode mR_windowSum.2.1 231 = .ok (.aload_n 0, 1) := by decide +kernel
theorem dR_windowSum_232 : decode mR_windowSum.2.1 232 = .ok (.getfield 7, 3) := by decide +kernel
theorem dR_windowSum_235 : decode mR_windowSum.2.1 235 = .ok (.aload_n 0, 1) := by decide +kernel
theorem dR_windowSum_236 : decode mR_windowSum.2.1 236 = .ok (.getfield 45, 3) := by decide +kernel
theorem dR_windowSum_239 : decode mR_windowSum.2.1 239 = .ok (.iload_n 1, 1) := by decide +kernel
theorem dR_windowSum_240 : decode mR_windowSum.2.1 240 = .ok (.iaload, 1) := by decide +kernel
theorem dR_windowSum_241 : decode mR_windowSum.2.1 241 = .ok (.iload 5, 2) := by decide +kernel
theorem dR_windowSum_243 : decode mR_windowSum.2.1 243 = .ok (.iload 6, 2) := by decide +kernel
theorem dR_windowSum_245 : decode mR_windowSum.2.1 245 = .ok (.imul, 1) := by decide +kernel
theorem dR_windowSum_246 : decode mR_windowSum.2.1 246 = .ok (.iload 6, 2) := by decide +kernel
theorem dR_windowSum_248 : decode mR_windowSum.2.1 248 = .ok (.imul, 1) := by decide +kernel
theorem dR_windowSum_249 : decode mR_windowSum.2.1 249 = .ok (.iload 10, 2) := by decide +kernel
theorem dR_windowSum_251 : decode mR_windowSum.2.1 251 = .ok (.iadd, 1) := by decide +kernel
theorem dR_windowSum_252 : decode mR_windowSum.2.1 252 = .ok (.aload_n 0, 1) := by decide +kernel
theorem dR_windowSum_253 : decode mR_windowSum.2.1 253 = .ok (.getfield 32, 3) := by decide +kernel
theorem dR_windowSum_256 : decode mR_windowSum.2.1 256 = .ok (.iload_n 2, 1) := by decide +kernel
theorem dR_windowSum_257 : decode mR_windowSum.2.1 257 = .ok (.iaload, 1) := by decide +kernel
theorem dR_windowSum_258 : decode mR_windowSum.2.1 258 = .ok (.imul, 1) := by decide +kernel
theorem dR_windowSum_259 : decode mR_windowSum.2.1 259 = .ok (.iadd, 1) := by decide +kernel
theorem dR_windowSum_260 : decode mR_windowSum.2.1 260 = .ok (.iload 13, 2) := by decide +kernel
theorem dR_windowSum_262 : decode mR_windowSum.2.1 262 = .ok (.iadd, 1) := by decide +kernel
theorem dR_windowSum_263 : decode mR_windowSum.2.1 263 = .ok (.iaload, 1) := by decide +kernel
theorem dR_windowSum_264 : decode mR_windowSum.2.1 264 = .ok (.imul, 1) := by decide +kernel
theorem dR_windowSum_265 : decode mR_windowSum.2.1 265 = .ok (.i2l, 1) := by decide +kernel
theorem dR_windowSum_266 : decode mR_windowSum.2.1 266 = .ok (.ladd, 1) := by decide +kernel
theorem dR_windowSum_267 : decode mR_windowSum.2.1 267 = .ok (.lstore 8, 2) := by decide +kernel
theorem dR_windowSum_269 : decode mR_windowSum.2.1 269 = .ok (.iinc 13 1, 3) := by decide +kernel
theorem dR_windowSum_272 : decode mR_windowSum.2.1 272 = .ok (.goto (-70), 3) := by decide +kernel
theorem dR_windowSum_275 : decode mR_windowSum.2.1 275 = .ok (.iinc 10 1, 3) := by decide +kernel
theorem dR_windowSum_278 : decode mR_windowSum.2.1 278 = .ok (.goto (-243), 3) := by decide +kernel
theorem dR_windowSum_281 : decode mR_windowSum.2.1 281 = .ok (.aload_n 0, 1) := by decide +kernel
theorem dR_windowSum_282 : decode mR_windowSum.2.1 282 = .ok (.getfield 45, 3) := by decide +kernel
theorem dR_windowSum_285 : decode mR_windowSum.2.1 285 = .ok (.iload_n 1, 1) := by decide +kernel
theorem dR_windowSum_286 : decode mR_windowSum.2.1 286 = .ok (.iaload, 1) := by decide +kernel
theorem dR_windowSum_287 : decode mR_windowSum.2.1 287 = .ok (.iload 7, 2) := by decide +kernel
theorem dR_windowSum_289 : decode mR_windowSum.2.1 289 = .ok (.ifCond .eq 18, 3) := by decide +kernel
theorem dR_windowSum_292 : decode mR_windowSum.2.1 292 = .ok (.aload_n 0, 1) := by decide +kernel
theorem dR_windowSum_293 : decode mR_windowSum.2.1 293 = .ok (.getfield 32, 3) := by decide +kernel
theorem dR_windowSum_296 : decode mR_windowSum.2.1 296 = .ok (.iload_n 1, 1) := by decide +kernel
theorem dR_windowSum_297 : decode mR_windowSum.2.1 297 = .ok (.iaload, 1) := by decide +kernel
theorem dR_windowSum_298 : decode mR_windowSum.2.1 298 = .ok (.iload 6, 2) := by decide +kernel
theorem dR_windowSum_300 : decode mR_windowSum.2.1 300 = .ok (.imul, 1) := by decide +kernel
theorem dR_windowSum_301 : decode mR_windowSum.2.1 301 = .ok (.iload 6, 2) := by decide +kernel
theorem dR_windowSum_303 : decode mR_windowSum.2.1 303 = .ok (.imul, 1) := by decide +kernel
theorem dR_windowSum_304 : decode mR_windowSum.2.1 304 = .ok (.goto 22, 3) := by decide +kernel
theorem dR_windowSum_307 : decode mR_windowSum.2.1 307 = .ok (.aload_n 0, 1) := by decide +kernel
theorem dR_windowSum_308 : decode mR_windowSum.2.1 308 = .ok (.getfield 32, 3) := by decide +kernel
theorem dR_windowSum_311 : decode mR_windowSum.2.1 311 = .ok (.iload_n 1, 1) := by decide +kernel
theorem dR_windowSum_312 : decode mR_windowSum.2.1 312 = .ok (.iaload, 1) := by decide +kernel
theorem dR_windowSum_313 : decode mR_windowSum.2.1 313 = .ok (.iload 6, 2) := by decide +kernel
theorem dR_windowSum_315 : decode mR_windowSum.2.1 315 = .ok (.imul, 1) := by decide +kernel
theorem dR_windowSum_316 : decode mR_windowSum.2.1 316 = .ok (.iload 6, 2) := by decide +kernel
theorem dR_windowSum_318 : decode mR_windowSum.2.1 318 = .ok (.imul, 1) := by decide +kernel
theorem dR_windowSum_319 : decode mR_windowSum.2.1 319 = .ok (.aload_n 0, 1) := by decide +kernel
theorem dR_windowSum_320 : decode mR_windowSum.2.1 320 = .ok (.getfield 32, 3) := by decide +kernel
theorem dR_windowSum_323 : decode mR_windowSum.2.1 323 = .ok (.iload_n 2, 1) := by decide +kernel
theorem dR_windowSum_324 : decode mR_windowSum.2.1 324 = .ok (.iaload, 1) := by decide +kernel
theorem dR_windowSum_325 : decode mR_windowSum.2.1 325 = .ok (.imul, 1) := by decide +kernel
theorem dR_windowSum_326 : decode mR_windowSum.2.1 326 = .ok (.iadd, 1) := by decide +kernel
theorem dR_windowSum_327 : decode mR_windowSum.2.1 327 = .ok (.iload 5, 2) := by decide +kernel
theorem dR_windowSum_329 : decode mR_windowSum.2.1 329 = .ok (.iadd, 1) := by decide +kernel
theorem dR_windowSum_330 : decode mR_windowSum.2.1 330 = .ok (.istore 10, 2) := by decide +kernel
theorem dR_windowSum_332 : decode mR_windowSum.2.1 332 = .ok (.lload 8, 2) := by decide +kernel
theorem dR_windowSum_334 : decode mR_windowSum.2.1 334 = .ok (.ldc2_w 204, 3) := by decide +kernel
theorem dR_windowSum_337 : decode mR_windowSum.2.1 337 = .ok (.aload_n 0, 1) := by decide +kernel
theorem dR_windowSum_338 : decode mR_windowSum.2.1 338 = .ok (.getfield 7, 3) := by decide +kernel
theorem dR_windowSum_341 : decode mR_windowSum.2.1 341 = .ok (.iload 10, 2) := by decide +kernel
theorem dR_windowSum_343 : decode mR_windowSum.2.1 343 = .ok (.iaload, 1) := by decide +kernel
theorem dR_windowSum_344 : decode mR_windowSum.2.1 344 = .ok (.i2l, 1) := by decide +kernel
theorem dR_windowSum_345 : decode mR_windowSum.2.1 345 = .ok (.lmul, 1) := by decide +kernel
theorem dR_windowSum_346 : decode mR_windowSum.2.1 346 = .ok (.ladd, 1) := by decide +kernel
theorem dR_windowSum_347 : decode mR_windowSum.2.1 347 = .ok (.lreturn, 1) := by decide +kernel
theorem dR_before_0 : decode mR_before.2.1 0 = .ok (.iload_n 2, 1) := by decide +kernel
theorem dR_before_1 : decode mR_before.2.1 1 = .ok (.bipush 6, 2) := by decide +kernel
theorem dR_before_3 : decode mR_before.2.1 3 = .ok (.if_icmp .ge 5, 3) := by decide +kernel
theorem dR_before_6 : decode mR_before.2.1 6 = .ok (.iconst 0, 1) := by decide +kernel
theorem dR_before_7 : decode mR_before.2.1 7 = .ok (.ireturn, 1) := by decide +kernel
theorem dR_before_8 : decode mR_before.2.1 8 = .ok (.aload_n 0, 1) := by decide +kernel
theorem dR_before_9 : decode mR_before.2.1 9 = .ok (.iload_n 1, 1) := by decide +kernel
theorem dR_before_10 : decode mR_before.2.1 10 = .ok (.iload_n 2, 1) := by decide +kernel
theorem dR_before_11 : decode mR_before.2.1 11 = .ok (.invokevirtual 127, 3) := by decide +kernel
theorem dR_before_14 : decode mR_before.2.1 14 = .ok (.iconst 1, 1) := by decide +kernel
theorem dR_before_15 : decode mR_before.2.1 15 = .ok (.isub, 1) := by decide +kernel
theorem dR_before_16 : decode mR_before.2.1 16 = .ok (.aload_n 0, 1) := by decide +kernel
theorem dR_before_17 : decode mR_before.2.1 17 = .ok (.iload_n 2, 1) := by decide +kernel
theorem dR_before_18 : decode mR_before.2.1 18 = .ok (.invokevirtual 121, 3) := by decide +kernel
theorem dR_before_21 : decode mR_before.2.1 21 = .ok (.imul, 1) := by decide +kernel
theorem dR_before_22 : decode mR_before.2.1 22 = .ok (.aload_n 0, 1) := by decide +kernel
theorem dR_before_23 : decode mR_before.2.1 23 = .ok (.iload_n 2, 1) := by decide +kernel
theorem dR_before_24 : decode mR_before.2.1 24 = .ok (.invokevirtual 124, 3) := by decide +kernel
theorem dR_before_27 : decode mR_before.2.1 27 = .ok (.iadd, 1) := by decide +kernel
theorem dR_before_28 : decode mR_before.2.1 28 = .ok (.iload_n 1, 1) := by decide +kernel
theorem dR_before_29 : decode mR_before.2.1 29 = .ok (.isub, 1) := by decide +kernel
theorem dR_before_30 : decode mR_before.2.1 30 = .ok (.istore_n 3, 1) := by decide +kernel
theorem dR_before_31 : decode mR_before.2.1 31 = .ok (.iload_n 3, 1) := by decide +kernel
theorem dR_before_32 : decode mR_before.2.1 32 = .ok (.ifCond .ge 7, 3) := by decide +kernel
theorem dR_before_35 : decode mR_before.2.1 35 = .ok (.iconst 0, 1) := by decide +kernel
theorem dR_before_36 : decode mR_before.2.1 36 = .ok (.goto 6, 3) := by decide +kernel
theorem dR_before_39 : decode mR_before.2.1 39 = .ok (.iload_n 3, 1) := by decide +kernel
theorem dR_before_40 : decode mR_before.2.1 40 = .ok (.iconst 2, 1) := by decide +kernel
theorem dR_before_41 : decode mR_before.2.1 41 = .ok (.idiv, 1) := by decide +kernel
theorem dR_before_42 : decode mR_before.2.1 42 = .ok (.ireturn, 1) := by decide +kernel
theorem dR_at_0 : decode mR_at.2.1 0 = .ok (.aload_n 0, 1) := by decide +kernel
theorem dR_at_1 : decode mR_at.2.1 1 = .ok (.getfield 54, 3) := by decide +kernel
theorem dR_at_4 : decode mR_at.2.1 4 = .ok (.sipush 128, 3) := by decide +kernel
theorem dR_at_7 : decode mR_at.2.1 7 = .ok (.iload_n 1, 1) := by decide +kernel
theorem dR_at_8 : decode mR_at.2.1 8 = .ok (.imul, 1) := by decide +kernel
theorem dR_at_9 : decode mR_at.2.1 9 = .ok (.iload_n 2, 1) := by decide +kernel
theorem dR_at_10 : decode mR_at.2.1 10 = .ok (.aload_n 0, 1) := by decide +kernel
theorem dR_at_11 : decode mR_at.2.1 11 = .ok (.getfield 29, 3) := by decide +kernel
theorem dR_at_14 : decode mR_at.2.1 14 = .ok (.iload_n 1, 1) := by decide +kernel
theorem dR_at_15 : decode mR_at.2.1 15 = .ok (.iaload, 1) := by decide +kernel
theorem dR_at_16 : decode mR_at.2.1 16 = .ok (.imul, 1) := by decide +kernel
theorem dR_at_17 : decode mR_at.2.1 17 = .ok (.iload_n 3, 1) := by decide +kernel
theorem dR_at_18 : decode mR_at.2.1 18 = .ok (.iadd, 1) := by decide +kernel
theorem dR_at_19 : decode mR_at.2.1 19 = .ok (.aload_n 0, 1) := by decide +kernel
theorem dR_at_20 : decode mR_at.2.1 20 = .ok (.getfield 32, 3) := by decide +kernel
theorem dR_at_23 : decode mR_at.2.1 23 = .ok (.iload_n 1, 1) := by decide +kernel
theorem dR_at_24 : decode mR_at.2.1 24 = .ok (.iaload, 1) := by decide +kernel
theorem dR_at_25 : decode mR_at.2.1 25 = .ok (.imul, 1) := by decide +kernel
theorem dR_at_26 : decode mR_at.2.1 26 = .ok (.iadd, 1) := by decide +kernel
theorem dR_at_27 : decode mR_at.2.1 27 = .ok (.iload 4, 2) := by decide +kernel
theorem dR_at_29 : decode mR_at.2.1 29 = .ok (.iadd, 1) := by decide +kernel
theorem dR_at_30 : decode mR_at.2.1 30 = .ok (.iaload, 1) := by decide +kernel
theorem dR_at_31 : decode mR_at.2.1 31 = .ok (.ireturn, 1) := by decide +kernel
theorem dR_scaled_0 : decode mR_scaled.2.1 0 = .ok (.dload_n 3, 1) := by decide +kernel
theorem dR_scaled_1 : decode mR_scaled.2.1 1 = .ok (.dstore 5, 2) := by decide +kernel
theorem dR_scaled_3 : decode mR_scaled.2.1 3 = .ok (.iconst 0, 1) := by decide +kernel
theorem dR_scaled_4 : decode mR_scaled.2.1 4 = .ok (.istore 7, 2) := by decide +kernel
theorem dR_scaled_6 : decode mR_scaled.2.1 6 = .ok (.dload 5, 2) := by decide +kernel
theorem dR_scaled_8 : decode mR_scaled.2.1 8 = .ok (.dconst 1, 1) := by decide +kernel
theorem dR_scaled_9 : decode mR_scaled.2.1 9 = .ok (.dcmp .l, 1) := by decide +kernel
theorem dR_scaled_10 : decode mR_scaled.2.1 10 = .ok (.ifCond .lt 17, 3) := by decide +kernel
theorem dR_scaled_13 : decode mR_scaled.2.1 13 = .ok (.dload 5, 2) := by decide +kernel
theorem dR_scaled_15 : decode mR_scaled.2.1 15 = .ok (.ldc2_w 180, 3) := by decide +kernel
theorem dR_scaled_18 : decode mR_scaled.2.1 18 = .ok (.dmul, 1) := by decide +kernel
theorem dR_scaled_19 : decode mR_scaled.2.1 19 = .ok (.dstore 5, 2) := by decide +kernel
theorem dR_scaled_21 : decode mR_scaled.2.1 21 = .ok (.iinc 7 1, 3) := by decide +kernel
theorem dR_scaled_24 : decode mR_scaled.2.1 24 = .ok (.goto (-18), 3) := by decide +kernel
theorem dR_scaled_27 : decode mR_scaled.2.1 27 = .ok (.dload 5, 2) := by decide +kernel
theorem dR_scaled_29 : decode mR_scaled.2.1 29 = .ok (.ldc2_w 180, 3) := by decide +kernel
theorem dR_scaled_32 : decode mR_scaled.2.1 32 = .ok (.dcmp .g, 1) := by decide +kernel
theorem dR_scaled_33 : decode mR_scaled.2.1 33 = .ok (.ifCond .ge 17, 3) := by decide +kernel
theorem dR_scaled_36 : decode mR_scaled.2.1 36 = .ok (.dload 5, 2) := by decide +kernel
theorem dR_scaled_38 : decode mR_scaled.2.1 38 = .ok (.ldc2_w 182, 3) := by decide +kernel
theorem dR_scaled_41 : decode mR_scaled.2.1 41 = .ok (.dmul, 1) := by decide +kernel
theorem dR_scaled_42 : decode mR_scaled.2.1 42 = .ok (.dstore 5, 2) := by decide +kernel
theorem dR_scaled_44 : decode mR_scaled.2.1 44 = .ok (.iinc 7 (-1), 3) := by decide +kernel
theorem dR_scaled_47 : decode mR_scaled.2.1 47 = .ok (.goto (-20), 3) := by decide +kernel
theorem dR_scaled_50 : decode mR_scaled.2.1 50 = .ok (.dload 5, 2) := by decide +kernel
theorem dR_scaled_52 : decode mR_scaled.2.1 52 = .ok (.ldc2_w 184, 3) := by decide +kernel
theorem dR_scaled_55 : decode mR_scaled.2.1 55 = .ok (.dmul, 1) := by decide +kernel
theorem dR_scaled_56 : decode mR_scaled.2.1 56 = .ok (.ldc2_w 180, 3) := by decide +kernel
theorem dR_scaled_59 : decode mR_scaled.2.1 59 = .ok (.dadd, 1) := by decide +kernel
theorem dR_scaled_60 : decode mR_scaled.2.1 60 = .ok (.d2l, 1) := by decide +kernel
theorem dR_scaled_61 : decode mR_scaled.2.1 61 = .ok (.lstore 8, 2) := by decide +kernel
theorem dR_scaled_63 : decode mR_scaled.2.1 63 = .ok (.lload 8, 2) := by decide +kernel
theorem dR_scaled_65 : decode mR_scaled.2.1 65 = .ok (.ldc2_w 186, 3) := by decide +kernel
theorem dR_scaled_68 : decode mR_scaled.2.1 68 = .ok (.lcmp, 1) := by decide +kernel
theorem dR_scaled_69 : decode mR_scaled.2.1 69 = .ok (.ifCond .ne 11, 3) := by decide +kernel
theorem dR_scaled_72 : decode mR_scaled.2.1 72 = .ok (.ldc2_w 188, 3) := by decide +kernel
theorem dR_scaled_75 : decode mR_scaled.2.1 75 = .ok (.lstore 8, 2) := by decide +kernel
theorem dR_scaled_77 : decode mR_scaled.2.1 77 = .ok (.iinc 7 1, 3) := by decide +kernel
theorem dR_scaled_80 : decode mR_scaled.2.1 80 = .ok (.aload_n 0, 1) := by decide +kernel
theorem dR_scaled_81 : decode mR_scaled.2.1 81 = .ok (.lload_n 1, 1) := by decide +kernel
theorem dR_scaled_82 : decode mR_scaled.2.1 82 = .ok (.lload 8, 2) := by decide +kernel
theorem dR_scaled_84 : decode mR_scaled.2.1 84 = .ok (.lmul, 1) := by decide +kernel
theorem dR_scaled_85 : decode mR_scaled.2.1 85 = .ok (.lconst 1, 1) := by decide +kernel
theorem dR_scaled_86 : decode mR_scaled.2.1 86 = .ok (.bipush 31, 2) := by decide +kernel
theorem dR_scaled_88 : decode mR_scaled.2.1 88 = .ok (.iload 7, 2) := by decide +kernel
theorem dR_scaled_90 : decode mR_scaled.2.1 90 = .ok (.isub, 1) := by decide +kernel
theorem dR_scaled_91 : decode mR_scaled.2.1 91 = .ok (.lshl, 1) := by decide +kernel
theorem dR_scaled_92 : decode mR_scaled.2.1 92 = .ok (.invokevirtual 190, 3) := by decide +kernel
theorem dR_scaled_95 : decode mR_scaled.2.1 95 = .ok (.lreturn, 1) := by decide +kernel
theorem dR_halves_0 : decode mR_halves.2.1 0 = .ok (.lload_n 1, 1) := by decide +kernel
theorem dR_halves_1 : decode mR_halves.2.1 1 = .ok (.lconst 0, 1) := by decide +kernel
theorem dR_halves_2 : decode mR_halves.2.1 2 = .ok (.lcmp, 1) := by decide +kernel
theorem dR_halves_3 : decode mR_halves.2.1 3 = .ok (.ifCond .ge 8, 3) := by decide +kernel
theorem dR_halves_6 : decode mR_halves.2.1 6 = .ok (.lload_n 1, 1) := by decide +kernel
theorem dR_halves_7 : decode mR_halves.2.1 7 = .ok (.lneg, 1) := by decide +kernel
theorem dR_halves_8 : decode mR_halves.2.1 8 = .ok (.goto 4, 3) := by decide +kernel
theorem dR_halves_11 : decode mR_halves.2.1 11 = .ok (.lload_n 1, 1) := by decide +kernel
theorem dR_halves_12 : decode mR_halves.2.1 12 = .ok (.lstore 5, 2) := by decide +kernel
theorem dR_halves_14 : decode mR_halves.2.1 14 = .ok (.lload 5, 2) := by decide +kernel
theorem dR_halves_16 : decode mR_halves.2.1 16 = .ok (.lload_n 3, 1) := by decide +kernel
theorem dR_halves_17 : decode mR_halves.2.1 17 = .ok (.ldc2_w 178, 3) := by decide +kernel
theorem dR_halves_20 : decode mR_halves.2.1 20 = .ok (.ldiv, 1) := by decide +kernel
theorem dR_halves_21 : decode mR_halves.2.1 21 = .ok (.ladd, 1) := by decide +kernel
theorem dR_halves_22 : decode mR_halves.2.1 22 = .ok (.lload_n 3, 1) := by decide +kernel
theorem dR_halves_23 : decode mR_halves.2.1 23 = .ok (.ldiv, 1) := by decide +kernel
theorem dR_halves_24 : decode mR_halves.2.1 24 = .ok (.lstore 7, 2) := by decide +kernel
theorem dR_halves_26 : decode mR_halves.2.1 26 = .ok (.lload_n 1, 1) := by decide +kernel
theorem dR_halves_27 : decode mR_halves.2.1 27 = .ok (.lconst 0, 1) := by decide +kernel
theorem dR_halves_28 : decode mR_halves.2.1 28 = .ok (.lcmp, 1) := by decide +kernel
theorem dR_halves_29 : decode mR_halves.2.1 29 = .ok (.ifCond .ge 9, 3) := by decide +kernel
theorem dR_halves_32 : decode mR_halves.2.1 32 = .ok (.lload 7, 2) := by decide +kernel
theorem dR_halves_34 : decode mR_halves.2.1 34 = .ok (.lneg, 1) := by decide +kernel
theorem dR_halves_35 : decode mR_halves.2.1 35 = .ok (.goto 5, 3) := by decide +kernel
theorem dR_halves_38 : decode mR_halves.2.1 38 = .ok (.lload 7, 2) := by decide +kernel
theorem dR_halves_40 : decode mR_halves.2.1 40 = .ok (.lreturn, 1) := by decide +kernel
theorem dR_cut_0 : decode mR_cut.2.1 0 = .ok (.lload_n 1, 1) := by decide +kernel
theorem dR_cut_1 : decode mR_cut.2.1 1 = .ok (.ldc2_w 194, 3) := by decide +kernel
theorem dR_cut_4 : decode mR_cut.2.1 4 = .ok (.lcmp, 1) := by decide +kernel
theorem dR_cut_5 : decode mR_cut.2.1 5 = .ok (.ifCond .ge 8, 3) := by decide +kernel
theorem dR_cut_8 : decode mR_cut.2.1 8 = .ok (.bipush (-128), 2) := by decide +kernel
theorem dR_cut_10 : decode mR_cut.2.1 10 = .ok (.goto 18, 3) := by decide +kernel
theorem dR_cut_13 : decode mR_cut.2.1 13 = .ok (.lload_n 1, 1) := by decide +kernel
theorem dR_cut_14 : decode mR_cut.2.1 14 = .ok (.ldc2_w 196, 3) := by decide +kernel
theorem dR_cut_17 : decode mR_cut.2.1 17 = .ok (.lcmp, 1) := by decide +kernel
theorem dR_cut_18 : decode mR_cut.2.1 18 = .ok (.ifCond .le 8, 3) := by decide +kernel
theorem dR_cut_21 : decode mR_cut.2.1 21 = .ok (.bipush 127, 2) := by decide +kernel
theorem dR_cut_23 : decode mR_cut.2.1 23 = .ok (.goto 5, 3) := by decide +kernel
theorem dR_cut_26 : decode mR_cut.2.1 26 = .ok (.lload_n 1, 1) := by decide +kernel
theorem dR_cut_27 : decode mR_cut.2.1 27 = .ok (.l2i, 1) := by decide +kernel
theorem dR_cut_28 : decode mR_cut.2.1 28 = .ok (.ireturn, 1) := by decide +kernel
theorem dR_denseSum_0 : decode mR_denseSum.2.1 0 = .ok (.lconst 0, 1) := by decide +kernel
theorem dR_denseSum_1 : decode mR_denseSum.2.1 1 = .ok (.lstore 4, 2) := by decide +kernel
theorem dR_denseSum_3 : decode mR_denseSum.2.1 3 = .ok (.aload_n 0, 1) := by decide +kernel
theorem dR_denseSum_4 : decode mR_denseSum.2.1 4 = .ok (.iload_n 2, 1) := by decide +kernel
theorem dR_denseSum_5 : decode mR_denseSum.2.1 5 = .ok (.invokevirtual 137, 3) := by decide +kernel
theorem dR_denseSum_8 : decode mR_denseSum.2.1 8 = .ok (.istore 6, 2) := by decide +kernel
theorem dR_denseSum_10 : decode mR_denseSum.2.1 10 = .ok (.iconst 0, 1) := by decide +kernel
theorem dR_denseSum_11 : decode mR_denseSum.2.1 11 = .ok (.istore 7, 2) := by decide +kernel
theorem dR_denseSum_13 : decode mR_denseSum.2.1 13 = .ok (.iload 7, 2) := by decide +kernel
theorem dR_denseSum_15 : decode mR_denseSum.2.1 15 = .ok (.iload 6, 2) := by decide +kernel
theorem dR_denseSum_17 : decode mR_denseSum.2.1 17 = .ok (.if_icmp .ge 48, 3) := by decide +kernel
theorem dR_denseSum_20 : decode mR_denseSum.2.1 20 = .ok (.lload 4, 2) := by decide +kernel
theorem dR_denseSum_22 : decode mR_denseSum.2.1 22 = .ok (.aload_n 0, 1) := by decide +kernel
theorem dR_denseSum_23 : decode mR_denseSum.2.1 23 = .ok (.getfield 54, 3) := by decide +kernel
theorem dR_denseSum_26 : decode mR_denseSum.2.1 26 = .ok (.sipush 128, 3) := by decide +kernel
theorem dR_denseSum_29 : decode mR_denseSum.2.1 29 = .ok (.iload_n 2, 1) := by decide +kernel
theorem dR_denseSum_30 : decode mR_denseSum.2.1 30 = .ok (.imul, 1) := by decide +kernel
theorem dR_denseSum_31 : decode mR_denseSum.2.1 31 = .ok (.iload 7, 2) := by decide +kernel
theorem dR_denseSum_33 : decode mR_denseSum.2.1 33 = .ok (.iadd, 1) := by decide +kernel
theorem dR_denseSum_34 : decode mR_denseSum.2.1 34 = .ok (.iaload, 1) := by decide +kernel
theorem dR_denseSum_35 : decode mR_denseSum.2.1 35 = .ok (.aload_n 0, 1) := by decide +kernel
theorem dR_denseSum_36 : decode mR_denseSum.2.1 36 = .ok (.getfield 7, 3) := by decide +kernel
theorem dR_denseSum_39 : decode mR_denseSum.2.1 39 = .ok (.aload_n 0, 1) := by decide +kernel
theorem dR_denseSum_40 : decode mR_denseSum.2.1 40 = .ok (.getfield 45, 3) := by decide +kernel
theorem dR_denseSum_43 : decode mR_denseSum.2.1 43 = .ok (.iload_n 1, 1) := by decide +kernel
theorem dR_denseSum_44 : decode mR_denseSum.2.1 44 = .ok (.iaload, 1) := by decide +kernel
theorem dR_denseSum_45 : decode mR_denseSum.2.1 45 = .ok (.iload_n 3, 1) := by decide +kernel
theorem dR_denseSum_46 : decode mR_denseSum.2.1 46 = .ok (.iload 6, 2) := by decide +kernel
theorem dR_denseSum_48 : decode mR_denseSum.2.1 48 = .ok (.imul, 1) := by decide +kernel
theorem dR_denseSum_49 : decode mR_denseSum.2.1 49 = .ok (.iadd, 1) := by decide +kernel
theorem dR_denseSum_50 : decode mR_denseSum.2.1 50 = .ok (.iload 7, 2) := by decide +kernel
theorem dR_denseSum_52 : decode mR_denseSum.2.1 52 = .ok (.iadd, 1) := by decide +kernel
theorem dR_denseSum_53 : decode mR_denseSum.2.1 53 = .ok (.iaload, 1) := by decide +kernel
theorem dR_denseSum_54 : decode mR_denseSum.2.1 54 = .ok (.imul, 1) := by decide +kernel
theorem dR_denseSum_55 : decode mR_denseSum.2.1 55 = .ok (.i2l, 1) := by decide +kernel
theorem dR_denseSum_56 : decode mR_denseSum.2.1 56 = .ok (.ladd, 1) := by decide +kernel
theorem dR_denseSum_57 : decode mR_denseSum.2.1 57 = .ok (.lstore 4, 2) := by decide +kernel
theorem dR_denseSum_59 : decode mR_denseSum.2.1 59 = .ok (.iinc 7 1, 3) := by decide +kernel
theorem dR_denseSum_62 : decode mR_denseSum.2.1 62 = .ok (.goto (-49), 3) := by decide +kernel
theorem dR_denseSum_65 : decode mR_denseSum.2.1 65 = .ok (.lload 4, 2) := by decide +kernel
theorem dR_denseSum_67 : decode mR_denseSum.2.1 67 = .ok (.ldc2_w 204, 3) := by decide +kernel
theorem dR_denseSum_70 : decode mR_denseSum.2.1 70 = .ok (.aload_n 0, 1) := by decide +kernel
theorem dR_denseSum_71 : decode mR_denseSum.2.1 71 = .ok (.getfield 7, 3) := by decide +kernel
theorem dR_denseSum_74 : decode mR_denseSum.2.1 74 = .ok (.aload_n 0, 1) := by decide +kernel
theorem dR_denseSum_75 : decode mR_denseSum.2.1 75 = .ok (.getfield 45, 3) := by decide +kernel
theorem dR_denseSum_78 : decode mR_denseSum.2.1 78 = .ok (.iload_n 1, 1) := by decide +kernel
theorem dR_denseSum_79 : decode mR_denseSum.2.1 79 = .ok (.iaload, 1) := by decide +kernel
theorem dR_denseSum_80 : decode mR_denseSum.2.1 80 = .ok (.aload_n 0, 1) := by decide +kernel
theorem dR_denseSum_81 : decode mR_denseSum.2.1 81 = .ok (.getfield 32, 3) := by decide +kernel
theorem dR_denseSum_84 : decode mR_denseSum.2.1 84 = .ok (.iload_n 1, 1) := by decide +kernel
theorem dR_denseSum_85 : decode mR_denseSum.2.1 85 = .ok (.iaload, 1) := by decide +kernel
theorem dR_denseSum_86 : decode mR_denseSum.2.1 86 = .ok (.iload 6, 2) := by decide +kernel
theorem dR_denseSum_88 : decode mR_denseSum.2.1 88 = .ok (.imul, 1) := by decide +kernel
theorem dR_denseSum_89 : decode mR_denseSum.2.1 89 = .ok (.iadd, 1) := by decide +kernel
theorem dR_denseSum_90 : decode mR_denseSum.2.1 90 = .ok (.iload_n 3, 1) := by decide +kernel
theorem dR_denseSum_91 : decode mR_denseSum.2.1 91 = .ok (.iadd, 1) := by decide +kernel
theorem dR_denseSum_92 : decode mR_denseSum.2.1 92 = .ok (.iaload, 1) := by decide +kernel
theorem dR_denseSum_93 : decode mR_denseSum.2.1 93 = .ok (.i2l, 1) := by decide +kernel
theorem dR_denseSum_94 : decode mR_denseSum.2.1 94 = .ok (.lmul, 1) := by decide +kernel
theorem dR_denseSum_95 : decode mR_denseSum.2.1 95 = .ok (.ladd, 1) := by decide +kernel
theorem dR_denseSum_96 : decode mR_denseSum.2.1 96 = .ok (.lreturn, 1) := by decide +kernel
theorem dR_joined_0 : decode mR_joined.2.1 0 = .ok (.iload 5, 2) := by decide +kernel
theorem dR_joined_2 : decode mR_joined.2.1 2 = .ok (.aload_n 0, 1) := by decide +kernel
theorem dR_joined_3 : decode mR_joined.2.1 3 = .ok (.getfield 32, 3) := by decide +kernel
theorem dR_joined_6 : decode mR_joined.2.1 6 = .ok (.iload_n 1, 1) := by decide +kernel
theorem dR_joined_7 : decode mR_joined.2.1 7 = .ok (.iaload, 1) := by decide +kernel
theorem dR_joined_8 : decode mR_joined.2.1 8 = .ok (.if_icmp .ge 16, 3) := by decide +kernel
theorem dR_joined_11 : decode mR_joined.2.1 11 = .ok (.aload_n 0, 1) := by decide +kernel
theorem dR_joined_12 : decode mR_joined.2.1 12 = .ok (.iload_n 1, 1) := by decide +kernel
theorem dR_joined_13 : decode mR_joined.2.1 13 = .ok (.iload_n 3, 1) := by decide +kernel
theorem dR_joined_14 : decode mR_joined.2.1 14 = .ok (.iload 4, 2) := by decide +kernel
theorem dR_joined_16 : decode mR_joined.2.1 16 = .ok (.iload 5, 2) := by decide +kernel
theorem dR_joined_18 : decode mR_joined.2.1 18 = .ok (.invokevirtual 201, 3) := by decide +kernel
theorem dR_joined_21 : decode mR_joined.2.1 21 = .ok (.goto 20, 3) := by decide +kernel
theorem dR_joined_24 : decode mR_joined.2.1 24 = .ok (.aload_n 0, 1) := by decide +kernel
theorem dR_joined_25 : decode mR_joined.2.1 25 = .ok (.iload_n 2, 1) := by decide +kernel
theorem dR_joined_26 : decode mR_joined.2.1 26 = .ok (.iload_n 3, 1) := by decide +kernel
theorem dR_joined_27 : decode mR_joined.2.1 27 = .ok (.iload 4, 2) := by decide +kernel
theorem dR_joined_29 : decode mR_joined.2.1 29 = .ok (.iload 5, 2) := by decide +kernel
theorem dR_joined_31 : decode mR_joined.2.1 31 = .ok (.aload_n 0, 1) := by decide +kernel
theorem dR_joined_32 : decode mR_joined.2.1 32 = .ok (.getfield 32, 3) := by decide +kernel
theorem dR_joined_35 : decode mR_joined.2.1 35 = .ok (.iload_n 1, 1) := by decide +kernel
theorem dR_joined_36 : decode mR_joined.2.1 36 = .ok (.iaload, 1) := by decide +kernel
theorem dR_joined_37 : decode mR_joined.2.1 37 = .ok (.isub, 1) := by decide +kernel
theorem dR_joined_38 : decode mR_joined.2.1 38 = .ok (.invokevirtual 201, 3) := by decide +kernel
theorem dR_joined_41 : decode mR_joined.2.1 41 = .ok (.ireturn, 1) := by decide +kernel
theorem dR_pooled_0 : decode mR_pooled.2.1 0 = .ok (.aload_n 0, 1) := by decide +kernel
theorem dR_pooled_1 : decode mR_pooled.2.1 1 = .ok (.aload_n 0, 1) := by decide +kernel
theorem dR_pooled_2 : decode mR_pooled.2.1 2 = .ok (.getfield 42, 3) := by decide +kernel
theorem dR_pooled_5 : decode mR_pooled.2.1 5 = .ok (.iload_n 1, 1) := by decide +kernel
theorem dR_pooled_6 : decode mR_pooled.2.1 6 = .ok (.iaload, 1) := by decide +kernel
theorem dR_pooled_7 : decode mR_pooled.2.1 7 = .ok (.invokevirtual 124, 3) := by decide +kernel
theorem dR_pooled_10 : decode mR_pooled.2.1 10 = .ok (.istore 6, 2) := by decide +kernel
theorem dR_pooled_12 : decode mR_pooled.2.1 12 = .ok (.sipush (-129), 3) := by decide +kernel
theorem dR_pooled_15 : decode mR_pooled.2.1 15 = .ok (.istore 7, 2) := by decide +kernel
theorem dR_pooled_17 : decode mR_pooled.2.1 17 = .ok (.iconst 0, 1) := by decide +kernel
theorem dR_pooled_18 : decode mR_pooled.2.1 18 = .ok (.istore 8, 2) := by decide +kernel
theorem dR_pooled_20 : decode mR_pooled.2.1 20 = .ok (.iconst 0, 1) := by decide +kernel
theorem dR_pooled_21 : decode mR_pooled.2.1 21 = .ok (.istore 9, 2) := by decide +kernel
theorem dR_pooled_23 : decode mR_pooled.2.1 23 = .ok (.iconst 0, 1) := by decide +kernel
theorem dR_pooled_24 : decode mR_pooled.2.1 24 = .ok (.istore 10, 2) := by decide +kernel
theorem dR_pooled_26 : decode mR_pooled.2.1 26 = .ok (.iload 10, 2) := by decide +kernel
theorem dR_pooled_28 : decode mR_pooled.2.1 28 = .ok (.iload 6, 2) := by decide +kernel
theorem dR_pooled_30 : decode mR_pooled.2.1 30 = .ok (.iload 6, 2) := by decide +kernel
theorem dR_pooled_32 : decode mR_pooled.2.1 32 = .ok (.imul, 1) := by decide +kernel
theorem dR_pooled_33 : decode mR_pooled.2.1 33 = .ok (.if_icmp .ge 156, 3) := by decide +kernel
theorem dR_pooled_36 : decode mR_pooled.2.1 36 = .ok (.iload_n 3, 1) := by decide +kernel
theorem dR_pooled_37 : decode mR_pooled.2.1 37 = .ok (.aload_n 0, 1) := by decide +kernel
theorem dR_pooled_38 : decode mR_pooled.2.1 38 = .ok (.aload_n 0, 1) := by decide +kernel
theorem dR_pooled_39 : decode mR_pooled.2.1 39 = .ok (.getfield 42, 3) := by decide +kernel
theorem dR_pooled_42 : decode mR_pooled.2.1 42 = .ok (.iload_n 1, 1) := by decide +kernel
theorem dR_pooled_43 : decode mR_pooled.2.1 43 = .ok (.iaload, 1) := by decide +kernel
theorem dR_pooled_44 : decode mR_pooled.2.1 44 = .ok (.invokevirtual 121, 3) := by decide +kernel
theorem dR_pooled_47 : decode mR_pooled.2.1 47 = .ok (.imul, 1) := by decide +kernel
theorem dR_pooled_48 : decode mR_pooled.2.1 48 = .ok (.aload_n 0, 1) := by decide +kernel
theorem dR_pooled_49 : decode mR_pooled.2.1 49 = .ok (.aload_n 0, 1) := by decide +kernel
theorem dR_pooled_50 : decode mR_pooled.2.1 50 = .ok (.getfield 26, 3) := by decide +kernel
theorem dR_pooled_53 : decode mR_pooled.2.1 53 = .ok (.iload_n 2, 1) := by decide +kernel
theorem dR_pooled_54 : decode mR_pooled.2.1 54 = .ok (.iaload, 1) := by decide +kernel
theorem dR_pooled_55 : decode mR_pooled.2.1 55 = .ok (.aload_n 0, 1) := by decide +kernel
theorem dR_pooled_56 : decode mR_pooled.2.1 56 = .ok (.getfield 42, 3) := by decide +kernel
theorem dR_pooled_59 : decode mR_pooled.2.1 59 = .ok (.iload_n 1, 1) := by decide +kernel
theorem dR_pooled_60 : decode mR_pooled.2.1 60 = .ok (.iaload, 1) := by decide +kernel
theorem dR_pooled_61 : decode mR_pooled.2.1 61 = .ok (.invokevirtual 198, 3) := by decide +kernel
theorem dR_pooled_64 : decode mR_pooled.2.1 64 = .ok (.isub, 1) := by decide +kernel
theorem dR_pooled_65 : decode mR_pooled.2.1 65 = .ok (.iload 10, 2) := by decide +kernel
theorem dR_pooled_67 : decode mR_pooled.2.1 67 = .ok (.iload 6, 2) := by decide +kernel
theorem dR_pooled_69 : decode mR_pooled.2.1 69 = .ok (.idiv, 1) := by decide +kernel
theorem dR_pooled_70 : decode mR_pooled.2.1 70 = .ok (.iadd, 1) := by decide +kernel
theorem dR_pooled_71 : decode mR_pooled.2.1 71 = .ok (.istore 11, 2) := by decide +kernel
theorem dR_pooled_73 : decode mR_pooled.2.1 73 = .ok (.iload 4, 2) := by decide +kernel
theorem dR_pooled_75 : decode mR_pooled.2.1 75 = .ok (.aload_n 0, 1) := by decide +kernel
theorem dR_pooled_76 : decode mR_pooled.2.1 76 = .ok (.aload_n 0, 1) := by decide +kernel
theorem dR_pooled_77 : decode mR_pooled.2.1 77 = .ok (.getfield 42, 3) := by decide +kernel
theorem dR_pooled_80 : decode mR_pooled.2.1 80 = .ok (.iload_n 1, 1) := by decide +kernel
theorem dR_pooled_81 : decode mR_pooled.2.1 81 = .ok (.iaload, 1) := by decide +kernel
theorem dR_pooled_82 : decode mR_pooled.2.1 82 = .ok (.invokevirtual 121, 3) := by decide +kernel
theorem dR_pooled_85 : decode mR_pooled.2.1 85 = .ok (.imul, 1) := by decide +kernel
theorem dR_pooled_86 : decode mR_pooled.2.1 86 = .ok (.aload_n 0, 1) := by decide +kernel
theorem dR_pooled_87 : decode mR_pooled.2.1 87 = .ok (.aload_n 0, 1) := by decide +kernel
theorem dR_pooled_88 : decode mR_pooled.2.1 88 = .ok (.getfield 29, 3) := by decide +kernel
theorem dR_pooled_91 : decode mR_pooled.2.1 91 = .ok (.iload_n 2, 1) := by decide +kernel
theorem dR_pooled_92 : decode mR_pooled.2.1 92 = .ok (.iaload, 1) := by decide +kernel
theorem dR_pooled_93 : decode mR_pooled.2.1 93 = .ok (.aload_n 0, 1) := by decide +kernel
theorem dR_pooled_94 : decode mR_pooled.2.1 94 = .ok (.getfield 42, 3) := by decide +kernel
theorem dR_pooled_97 : decode mR_pooled.2.1 97 = .ok (.iload_n 1, 1) := by decide +kernel
theorem dR_pooled_98 : decode mR_pooled.2.1 98 = .ok (.iaload, 1) := by decide +kernel
theorem dR_pooled_99 : decode mR_pooled.2.1 99 = .ok (.invokevirtual 198, 3) := by decide +kernel
theorem dR_pooled_102 : decode mR_pooled.2.1 102 = .ok (.isub, 1) := by decide +kernel
theorem dR_pooled_103 : decode mR_pooled.2.1 103 = .ok (.iload 10, 2) := by decide +kernel
theorem dR_pooled_105 : decode mR_pooled.2.1 105 = .ok (.iload 6, 2) := by decide +kernel
theorem dR_pooled_107 : decode mR_pooled.2.1 107 = .ok (.irem, 1) := by decide +kernel
theorem dR_pooled_108 : decode mR_pooled.2.1 108 = .ok (.iadd, 1) := by decide +kernel
theorem dR_pooled_109 : decode mR_pooled.2.1 109 = .ok (.istore 12, 2) := by decide +kernel
theorem dR_pooled_111 : decode mR_pooled.2.1 111 = .ok (.aload_n 0, 1) := by decide +kernel
theorem dR_pooled_112 : decode mR_pooled.2.1 112 = .ok (.iload 11, 2) := by decide +kernel
theorem dR_pooled_114 : decode mR_pooled.2.1 114 = .ok (.aload_n 0, 1) := by decide +kernel
theorem dR_pooled_115 : decode mR_pooled.2.1 115 = .ok (.getfield 26, 3) := by decide +kernel
theorem dR_pooled_118 : decode mR_pooled.2.1 118 = .ok (.iload_n 2, 1) := by decide +kernel
theorem dR_pooled_119 : decode mR_pooled.2.1 119 = .ok (.iaload, 1) := by decide +kernel
theorem dR_pooled_120 : decode mR_pooled.2.1 120 = .ok (.invokevirtual 94, 3) := by decide +kernel
theorem dR_pooled_123 : decode mR_pooled.2.1 123 = .ok (.ifCond .ne 60, 3) := by decide +kernel
theorem dR_pooled_126 : decode mR_pooled.2.1 126 = .ok (.aload_n 0, 1) := by decide +kernel
theorem dR_pooled_127 : decode mR_pooled.2.1 127 = .ok (.iload 12, 2) := by decide +kernel
theorem dR_pooled_129 : decode mR_pooled.2.1 129 = .ok (.aload_n 0, 1) := by decide +kernel
theorem dR_pooled_130 : decode mR_pooled.2.1 130 = .ok (.getfield 29, 3) := by decide +kernel
theorem dR_pooled_133 : decode mR_pooled.2.1 133 = .ok (.iload_n 2, 1) := by decide +kernel
theorem dR_pooled_134 : decode mR_pooled.2.1 134 = .ok (.iaload, 1) := by decide +kernel
theorem dR_pooled_135 : decode mR_pooled.2.1 135 = .ok (.invokevirtual 94, 3) := by decide +kernel
theorem dR_pooled_138 : decode mR_pooled.2.1 138 = .ok (.ifCond .eq 6, 3) := by decide +kernel
theorem dR_pooled_141 : decode mR_pooled.2.1 141 = .ok (.goto 42, 3) := by decide +kernel
theorem dR_pooled_144 : decode mR_pooled.2.1 144 = .ok (.aload_n 0, 1) := by decide +kernel
theorem dR_pooled_145 : decode mR_pooled.2.1 145 = .ok (.iload_n 2, 1) := by decide +kernel
theorem dR_pooled_146 : decode mR_pooled.2.1 146 = .ok (.iload 11, 2) := by decide +kernel
theorem dR_pooled_148 : decode mR_pooled.2.1 148 = .ok (.iload 12, 2) := by decide +kernel
theorem dR_pooled_150 : decode mR_pooled.2.1 150 = .ok (.iload 5, 2) := by decide +kernel
theorem dR_pooled_152 : decode mR_pooled.2.1 152 = .ok (.invokevirtual 201, 3) := by decide +kernel
theorem dR_pooled_155 : decode mR_pooled.2.1 155 = .ok (.istore 13, 2) := by decide +kernel
theorem dR_pooled_157 : decode mR_pooled.2.1 157 = .ok (.iload 13, 2) := by decide +kernel
theorem dR_pooled_159 : decode mR_pooled.2.1 159 = .ok (.iload 7, 2) := by decide +kernel
theorem dR_pooled_161 : decode mR_pooled.2.1 161 = .ok (.if_icmp .le 8, 3) := by decide +kernel
theorem dR_pooled_164 : decode mR_pooled.2.1 164 = .ok (.iload 13, 2) := by decide +kernel
theorem dR_pooled_166 : decode mR_pooled.2.1 166 = .ok (.goto 5, 3) := by decide +kernel
theorem dR_pooled_169 : decode mR_pooled.2.1 169 = .ok (.iload 7, 2) := by decide +kernel
theorem dR_pooled_171 : decode mR_pooled.2.1 171 = .ok (.istore 7, 2) := by decide +kernel
theorem dR_pooled_173 : decode mR_pooled.2.1 173 = .ok (.iload 8, 2) := by decide +kernel
theorem dR_pooled_175 : decode mR_pooled.2.1 175 = .ok (.iload 13, 2) := by decide +kernel
theorem dR_pooled_177 : decode mR_pooled.2.1 177 = .ok (.iadd, 1) := by decide +kernel
theorem dR_pooled_178 : decode mR_pooled.2.1 178 = .ok (.istore 8, 2) := by decide +kernel
theorem dR_pooled_180 : decode mR_pooled.2.1 180 = .ok (.iinc 9 1, 3) := by decide +kernel
theorem dR_pooled_183 : decode mR_pooled.2.1 183 = .ok (.iinc 10 1, 3) := by decide +kernel
theorem dR_pooled_186 : decode mR_pooled.2.1 186 = .ok (.goto (-160), 3) := by decide +kernel
theorem dR_pooled_189 : decode mR_pooled.2.1 189 = .ok (.aload_n 0, 1) := by decide +kernel
theorem dR_pooled_190 : decode mR_pooled.2.1 190 = .ok (.getfield 17, 3) := by decide +kernel
theorem dR_pooled_193 : decode mR_pooled.2.1 193 = .ok (.iload_n 1, 1) := by decide +kernel
theorem dR_pooled_194 : decode mR_pooled.2.1 194 = .ok (.iaload, 1) := by decide +kernel
theorem dR_pooled_195 : decode mR_pooled.2.1 195 = .ok (.bipush 7, 2) := by decide +kernel
theorem dR_pooled_197 : decode mR_pooled.2.1 197 = .ok (.if_icmp .ne 8, 3) := by decide +kernel
theorem dR_pooled_200 : decode mR_pooled.2.1 200 = .ok (.iload 7, 2) := by decide +kernel
theorem dR_pooled_202 : decode mR_pooled.2.1 202 = .ok (.goto 22, 3) := by decide +kernel
theorem dR_pooled_205 : decode mR_pooled.2.1 205 = .ok (.aload_n 0, 1) := by decide +kernel
theorem dR_pooled_206 : decode mR_pooled.2.1 206 = .ok (.ldc2_w 178, 3) := by decide +kernel
theorem dR_pooled_209 : decode mR_pooled.2.1 209 = .ok (.iload 8, 2) := by decide +kernel
theorem dR_pooled_211 : decode mR_pooled.2.1 211 = .ok (.i2l, 1) := by decide +kernel
theorem dR_pooled_212 : decode mR_pooled.2.1 212 = .ok (.lmul, 1) := by decide +kernel
theorem dR_pooled_213 : decode mR_pooled.2.1 213 = .ok (.ldc2_w 178, 3) := by decide +kernel
theorem dR_pooled_216 : decode mR_pooled.2.1 216 = .ok (.iload 9, 2) := by decide +kernel
theorem dR_pooled_218 : decode mR_pooled.2.1 218 = .ok (.i2l, 1) := by decide +kernel
theorem dR_pooled_219 : decode mR_pooled.2.1 219 = .ok (.lmul, 1) := by decide +kernel
theorem dR_pooled_220 : decode mR_pooled.2.1 220 = .ok (.invokevirtual 190, 3) := by decide +kernel
theorem dR_pooled_223 : decode mR_pooled.2.1 223 = .ok (.l2i, 1) := by decide +kernel
theorem dR_pooled_224 : decode mR_pooled.2.1 224 = .ok (.ireturn, 1) := by decide +kernel
theorem dR_arena_0 : decode mR_arena.2.1 0 = .ok (.aload_n 0, 1) := by decide +kernel
theorem dR_arena_1 : decode mR_arena.2.1 1 = .ok (.iconst 0, 1) := by decide +kernel
theorem dR_arena_2 : decode mR_arena.2.1 2 = .ok (.putfield 85, 3) := by decide +kernel
theorem dR_arena_5 : decode mR_arena.2.1 5 = .ok (.aload_n 0, 1) := by decide +kernel
theorem dR_arena_6 : decode mR_arena.2.1 6 = .ok (.iload_n 1, 1) := by decide +kernel
theorem dR_arena_7 : decode mR_arena.2.1 7 = .ok (.aload_n 0, 1) := by decide +kernel
theorem dR_arena_8 : decode mR_arena.2.1 8 = .ok (.getfield 232, 3) := by decide +kernel
theorem dR_arena_11 : decode mR_arena.2.1 11 = .ok (.invokevirtual 94, 3) := by decide +kernel
theorem dR_arena_14 : decode mR_arena.2.1 14 = .ok (.ifCond .eq 11, 3) := by decide +kernel
theorem dR_arena_17 : decode mR_arena.2.1 17 = .ok (.aload_n 0, 1) := by decide +kernel
theorem dR_arena_18 : decode mR_arena.2.1 18 = .ok (.iconst 1, 1) := by decide +kernel
theorem dR_arena_19 : decode mR_arena.2.1 19 = .ok (.invokevirtual 98, 3) := by decide +kernel
theorem dR_arena_22 : decode mR_arena.2.1 22 = .ok (.goto 9, 3) := by decide +kernel
theorem dR_arena_25 : decode mR_arena.2.1 25 = .ok (.aload_n 0, 1) := by decide +kernel
theorem dR_arena_26 : decode mR_arena.2.1 26 = .ok (.getfield 79, 3) := by decide +kernel
theorem dR_arena_29 : decode mR_arena.2.1 29 = .ok (.iload_n 1, 1) := by decide +kernel
theorem dR_arena_30 : decode mR_arena.2.1 30 = .ok (.iaload, 1) := by decide +kernel
theorem dR_arena_31 : decode mR_arena.2.1 31 = .ok (.ireturn, 1) := by decide +kernel
theorem dR_result_0 : decode mR_result.2.1 0 = .ok (.aload_n 0, 1) := by decide +kernel
theorem dR_result_1 : decode mR_result.2.1 1 = .ok (.iconst 0, 1) := by decide +kernel
theorem dR_result_2 : decode mR_result.2.1 2 = .ok (.putfield 85, 3) := by decide +kernel
theorem dR_result_5 : decode mR_result.2.1 5 = .ok (.aload_n 0, 1) := by decide +kernel
theorem dR_result_6 : decode mR_result.2.1 6 = .ok (.iload_n 1, 1) := by decide +kernel
theorem dR_result_7 : decode mR_result.2.1 7 = .ok (.aload_n 0, 1) := by decide +kernel
theorem dR_result_8 : decode mR_result.2.1 8 = .ok (.getfield 235, 3) := by decide +kernel
theorem dR_result_11 : decode mR_result.2.1 11 = .ok (.invokevirtual 94, 3) := by decide +kernel
theorem dR_result_14 : decode mR_result.2.1 14 = .ok (.ifCond .eq 10, 3) := by decide +kernel
theorem dR_result_17 : decode mR_result.2.1 17 = .ok (.aload_n 0, 1) := by decide +kernel
theorem dR_result_18 : decode mR_result.2.1 18 = .ok (.iconst 1, 1) := by decide +kernel
theorem dR_result_19 : decode mR_result.2.1 19 = .ok (.invokevirtual 98, 3) := by decide +kernel
theorem dR_result_22 : decode mR_result.2.1 22 = .ok (.i2d, 1) := by decide +kernel
theorem dR_result_23 : decode mR_result.2.1 23 = .ok (.dreturn, 1) := by decide +kernel
theorem dR_result_24 : decode mR_result.2.1 24 = .ok (.aload_n 0, 1) := by decide +kernel
theorem dR_result_25 : decode mR_result.2.1 25 = .ok (.getfield 82, 3) := by decide +kernel
theorem dR_result_28 : decode mR_result.2.1 28 = .ok (.iload_n 1, 1) := by decide +kernel
theorem dR_result_29 : decode mR_result.2.1 29 = .ok (.iaload, 1) := by decide +kernel
theorem dR_result_30 : decode mR_result.2.1 30 = .ok (.i2d, 1) := by decide +kernel
theorem dR_result_31 : decode mR_result.2.1 31 = .ok (.aload_n 0, 1) := by decide +kernel
theorem dR_result_32 : decode mR_result.2.1 32 = .ok (.getfield 238, 3) := by decide +kernel
theorem dR_result_35 : decode mR_result.2.1 35 = .ok (.dmul, 1) := by decide +kernel
theorem dR_result_36 : decode mR_result.2.1 36 = .ok (.dreturn, 1) := by decide +kernel
theorem dR_about_0 : decode mR_about.2.1 0 = .ok (.aload_n 0, 1) := by decide +kernel
theorem dR_about_1 : decode mR_about.2.1 1 = .ok (.iconst 0, 1) := by decide +kernel
theorem dR_about_2 : decode mR_about.2.1 2 = .ok (.putfield 85, 3) := by decide +kernel
theorem dR_about_5 : decode mR_about.2.1 5 = .ok (.aload_n 0, 1) := by decide +kernel
theorem dR_about_6 : decode mR_about.2.1 6 = .ok (.iload_n 1, 1) := by decide +kernel
theorem dR_about_7 : decode mR_about.2.1 7 = .ok (.aload_n 0, 1) := by decide +kernel
theorem dR_about_8 : decode mR_about.2.1 8 = .ok (.getfield 106, 3) := by decide +kernel
theorem dR_about_11 : decode mR_about.2.1 11 = .ok (.invokevirtual 94, 3) := by decide +kernel
theorem dR_about_14 : decode mR_about.2.1 14 = .ok (.ifCond .ne 13, 3) := by decide +kernel
theorem dR_about_17 : decode mR_about.2.1 17 = .ok (.aload_n 0, 1) := by decide +kernel
theorem dR_about_18 : decode mR_about.2.1 18 = .ok (.iload_n 2, 1) := by decide +kernel
theorem dR_about_19 : decode mR_about.2.1 19 = .ok (.bipush 8, 2) := by decide +kernel
theorem dR_about_21 : decode mR_about.2.1 21 = .ok (.invokevirtual 94, 3) := by decide +kernel
theorem dR_about_24 : decode mR_about.2.1 24 = .ok (.ifCond .eq 9, 3) := by decide +kernel
theorem dR_about_27 : decode mR_about.2.1 27 = .ok (.aload_n 0, 1) := by decide +kernel
theorem dR_about_28 : decode mR_about.2.1 28 = .ok (.iconst 1, 1) := by decide +kernel
theorem dR_about_29 : decode mR_about.2.1 29 = .ok (.invokevirtual 98, 3) := by decide +kernel
theorem dR_about_32 : decode mR_about.2.1 32 = .ok (.ireturn, 1) := by decide +kernel
theorem dR_about_33 : decode mR_about.2.1 33 = .ok (.iload_n 2, 1) := by decide +kernel
theorem dR_about_34 : decode mR_about.2.1 34 = .ok (.ifCond .ne 10, 3) := by decide +kernel
theorem dR_about_37 : decode mR_about.2.1 37 = .ok (.aload_n 0, 1) := by decide +kernel
theorem dR_about_38 : decode mR_about.2.1 38 = .ok (.getfield 17, 3) := by decide +kernel
theorem dR_about_41 : decode mR_about.2.1 41 = .ok (.iload_n 1, 1) := by decide +kernel
theorem dR_about_42 : decode mR_about.2.1 42 = .ok (.iaload, 1) := by decide +kernel
theorem dR_about_43 : decode mR_about.2.1 43 = .ok (.ireturn, 1) := by decide +kernel
theorem dR_about_44 : decode mR_about.2.1 44 = .ok (.iload_n 2, 1) := by decide +kernel
theorem dR_about_45 : decode mR_about.2.1 45 = .ok (.iconst 4, 1) := by decide +kernel
theorem dR_about_46 : decode mR_about.2.1 46 = .ok (.if_icmp .ge 38, 3) := by decide +kernel
theorem dR_about_49 : decode mR_about.2.1 49 = .ok (.iload_n 2, 1) := by decide +kernel
theorem dR_about_50 : decode mR_about.2.1 50 = .ok (.iconst 1, 1) := by decide +kernel
theorem dR_about_51 : decode mR_about.2.1 51 = .ok (.if_icmp .ne 12, 3) := by decide +kernel
theorem dR_about_54 : decode mR_about.2.1 54 = .ok (.aload_n 0, 1) := by decide +kernel
theorem dR_about_55 : decode mR_about.2.1 55 = .ok (.getfield 26, 3) := by decide +kernel
theorem dR_about_58 : decode mR_about.2.1 58 = .ok (.iload_n 1, 1) := by decide +kernel
theorem dR_about_59 : decode mR_about.2.1 59 = .ok (.iaload, 1) := by decide +kernel
theorem dR_about_60 : decode mR_about.2.1 60 = .ok (.goto 23, 3) := by decide +kernel
theorem dR_about_63 : decode mR_about.2.1 63 = .ok (.iload_n 2, 1) := by decide +kernel
theorem dR_about_64 : decode mR_about.2.1 64 = .ok (.iconst 2, 1) := by decide +kernel
theorem dR_about_65 : decode mR_about.2.1 65 = .ok (.if_icmp .ne 12, 3) := by decide +kernel
theorem dR_about_68 : decode mR_about.2.1 68 = .ok (.aload_n 0, 1) := by decide +kernel
theorem dR_about_69 : decode mR_about.2.1 69 = .ok (.getfield 29, 3) := by decide +kernel
theorem dR_about_72 : decode mR_about.2.1 72 = .ok (.iload_n 1, 1) := by decide +kernel
theorem dR_about_73 : decode mR_about.2.1 73 = .ok (.iaload, 1) := by decide +kernel
theorem dR_about_74 : decode mR_about.2.1 74 = .ok (.goto 9, 3) := by decide +kernel
theorem dR_about_77 : decode mR_about.2.1 77 = .ok (.aload_n 0, 1) := by decide +kernel
theorem dR_about_78 : decode mR_about.2.1 78 = .ok (.getfield 32, 3) := by decide +kernel
theorem dR_about_81 : decode mR_about.2.1 81 = .ok (.iload_n 1, 1) := by decide +kernel
theorem dR_about_82 : decode mR_about.2.1 82 = .ok (.iaload, 1) := by decide +kernel
theorem dR_about_83 : decode mR_about.2.1 83 = .ok (.ireturn, 1) := by decide +kernel
theorem dR_about_84 : decode mR_about.2.1 84 = .ok (.aload_n 0, 1) := by decide +kernel
theorem dR_about_85 : decode mR_about.2.1 85 = .ok (.getfield 109, 3) := by decide +kernel
theorem dR_about_88 : decode mR_about.2.1 88 = .ok (.ifCond .ne 9, 3) := by decide +kernel
theorem dR_about_91 : decode mR_about.2.1 91 = .ok (.aload_n 0, 1) := by decide +kernel
theorem dR_about_92 : decode mR_about.2.1 92 = .ok (.iconst 2, 1) := by decide +kernel
theorem dR_about_93 : decode mR_about.2.1 93 = .ok (.invokevirtual 98, 3) := by decide +kernel
theorem dR_about_96 : decode mR_about.2.1 96 = .ok (.ireturn, 1) := by decide +kernel
theorem dR_about_97 : decode mR_about.2.1 97 = .ok (.aload_n 0, 1) := by decide +kernel
theorem dR_about_98 : decode mR_about.2.1 98 = .ok (.getfield 64, 3) := by decide +kernel
theorem dR_about_101 : decode mR_about.2.1 101 = .ok (.iload_n 1, 1) := by decide +kernel
theorem dR_about_102 : decode mR_about.2.1 102 = .ok (.iaload, 1) := by decide +kernel
theorem dR_about_103 : decode mR_about.2.1 103 = .ok (.istore_n 3, 1) := by decide +kernel
theorem dR_about_104 : decode mR_about.2.1 104 = .ok (.iload_n 2, 1) := by decide +kernel
theorem dR_about_105 : decode mR_about.2.1 105 = .ok (.iconst 4, 1) := by decide +kernel
theorem dR_about_106 : decode mR_about.2.1 106 = .ok (.if_icmp .ne 5, 3) := by decide +kernel
theorem dR_about_109 : decode mR_about.2.1 109 = .ok (.iload_n 3, 1) := by decide +kernel
theorem dR_about_110 : decode mR_about.2.1 110 = .ok (.ireturn, 1) := by decide +kernel
theorem dR_about_111 : decode mR_about.2.1 111 = .ok (.iload_n 2, 1) := by decide +kernel
theorem dR_about_112 : decode mR_about.2.1 112 = .ok (.iconst 5, 1) := by decide +kernel
theorem dR_about_113 : decode mR_about.2.1 113 = .ok (.if_icmp .ne 10, 3) := by decide +kernel
theorem dR_about_116 : decode mR_about.2.1 116 = .ok (.aload_n 0, 1) := by decide +kernel
theorem dR_about_117 : decode mR_about.2.1 117 = .ok (.getfield 67, 3) := by decide +kernel
theorem dR_about_120 : decode mR_about.2.1 120 = .ok (.iload_n 3, 1) := by decide +kernel
theorem dR_about_121 : decode mR_about.2.1 121 = .ok (.iaload, 1) := by decide +kernel
theorem dR_about_122 : decode mR_about.2.1 122 = .ok (.ireturn, 1) := by decide +kernel
theorem dR_about_123 : decode mR_about.2.1 123 = .ok (.aload_n 0, 1) := by decide +kernel
theorem dR_about_124 : decode mR_about.2.1 124 = .ok (.getfield 67, 3) := by decide +kernel
theorem dR_about_127 : decode mR_about.2.1 127 = .ok (.iload_n 3, 1) := by decide +kernel
theorem dR_about_128 : decode mR_about.2.1 128 = .ok (.iaload, 1) := by decide +kernel
theorem dR_about_129 : decode mR_about.2.1 129 = .ok (.iconst 2, 1) := by decide +kernel
theorem dR_about_130 : decode mR_about.2.1 130 = .ok (.if_icmp .eq 9, 3) := by decide +kernel
theorem dR_about_133 : decode mR_about.2.1 133 = .ok (.aload_n 0, 1) := by decide +kernel
theorem dR_about_134 : decode mR_about.2.1 134 = .ok (.iconst 3, 1) := by decide +kernel
theorem dR_about_135 : decode mR_about.2.1 135 = .ok (.invokevirtual 98, 3) := by decide +kernel
theorem dR_about_138 : decode mR_about.2.1 138 = .ok (.ireturn, 1) := by decide +kernel
theorem dR_about_139 : decode mR_about.2.1 139 = .ok (.iload_n 2, 1) := by decide +kernel
theorem dR_about_140 : decode mR_about.2.1 140 = .ok (.bipush 6, 2) := by decide +kernel
theorem dR_about_142 : decode mR_about.2.1 142 = .ok (.if_icmp .ne 12, 3) := by decide +kernel
theorem dR_about_145 : decode mR_about.2.1 145 = .ok (.aload_n 0, 1) := by decide +kernel
theorem dR_about_146 : decode mR_about.2.1 146 = .ok (.getfield 70, 3) := by decide +kernel
theorem dR_about_149 : decode mR_about.2.1 149 = .ok (.iload_n 3, 1) := by decide +kernel
theorem dR_about_150 : decode mR_about.2.1 150 = .ok (.iaload, 1) := by decide +kernel
theorem dR_about_151 : decode mR_about.2.1 151 = .ok (.goto 9, 3) := by decide +kernel
theorem dR_about_154 : decode mR_about.2.1 154 = .ok (.aload_n 0, 1) := by decide +kernel
theorem dR_about_155 : decode mR_about.2.1 155 = .ok (.getfield 76, 3) := by decide +kernel
theorem dR_about_158 : decode mR_about.2.1 158 = .ok (.iload_n 3, 1) := by decide +kernel
theorem dR_about_159 : decode mR_about.2.1 159 = .ok (.iaload, 1) := by decide +kernel
theorem dR_about_160 : decode mR_about.2.1 160 = .ok (.ireturn, 1) := by decide +kernel
theorem dR_peak_0 : decode mR_peak.2.1 0 = .ok (.aload_n 0, 1) := by decide +kernel
theorem dR_peak_1 : decode mR_peak.2.1 1 = .ok (.iconst 0, 1) := by decide +kernel
theorem dR_peak_2 : decode mR_peak.2.1 2 = .ok (.putfield 85, 3) := by decide +kernel
theorem dR_peak_5 : decode mR_peak.2.1 5 = .ok (.aload_n 0, 1) := by decide +kernel
theorem dR_peak_6 : decode mR_peak.2.1 6 = .ok (.getfield 109, 3) := by decide +kernel
theorem dR_peak_9 : decode mR_peak.2.1 9 = .ok (.ifCond .eq 10, 3) := by decide +kernel
theorem dR_peak_12 : decode mR_peak.2.1 12 = .ok (.aload_n 0, 1) := by decide +kernel
theorem dR_peak_13 : decode mR_peak.2.1 13 = .ok (.getfield 158, 3) := by decide +kernel
theorem dR_peak_16 : decode mR_peak.2.1 16 = .ok (.goto 8, 3) := by decide +kernel
theorem dR_peak_19 : decode mR_peak.2.1 19 = .ok (.aload_n 0, 1) := by decide +kernel
theorem dR_peak_20 : decode mR_peak.2.1 20 = .ok (.iconst 1, 1) := by decide +kernel
theorem dR_peak_21 : decode mR_peak.2.1 21 = .ok (.invokevirtual 98, 3) := by decide +kernel
theorem dR_peak_24 : decode mR_peak.2.1 24 = .ok (.ireturn, 1) := by decide +kernel
