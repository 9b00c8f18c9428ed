theorem dT_init_0 : decode mT_init.2.1 0 = .ok (.aload_n 0, 1) := by decide +kernel
theorem dT_init_1 : decode mT_init.2.1 1 = .ok (.invokespecial 3, 3) := by decide +kernel
theorem dT_init_4 : decode mT_init.2.1 4 = .ok (.aload_n 0, 1) := by decide +kernel
theorem dT_init_5 : decode mT_init.2.1 5 = .ok (.new 9, 3) := by decide +kernel
theorem dT_init_8 : decode mT_init.2.1 8 = .ok (.dup, 1) := by decide +kernel
theorem dT_init_9 : decode mT_init.2.1 9 = .ok (.invokespecial 11, 3) := by decide +kernel
theorem dT_init_12 : decode mT_init.2.1 12 = .ok (.putfield 12, 3) := by decide +kernel
theorem dT_init_15 : decode mT_init.2.1 15 = .ok (.aload_n 0, 1) := by decide +kernel
theorem dT_init_16 : decode mT_init.2.1 16 = .ok (.new 16, 3) := by decide +kernel
theorem dT_init_19 : decode mT_init.2.1 19 = .ok (.dup, 1) := by decide +kernel
theorem dT_init_20 : decode mT_init.2.1 20 = .ok (.invokespecial 18, 3) := by decide +kernel
theorem dT_init_23 : decode mT_init.2.1 23 = .ok (.putfield 19, 3) := by decide +kernel
theorem dT_init_26 : decode mT_init.2.1 26 = .ok (.aload_n 0, 1) := by decide +kernel
theorem dT_init_27 : decode mT_init.2.1 27 = .ok (.dconst 1, 1) := by decide +kernel
theorem dT_init_28 : decode mT_init.2.1 28 = .ok (.putfield 23, 3) := by decide +kernel
theorem dT_init_31 : decode mT_init.2.1 31 = .ok (.aload_n 0, 1) := by decide +kernel
theorem dT_init_32 : decode mT_init.2.1 32 = .ok (.iconst (-1), 1) := by decide +kernel
theorem dT_init_33 : decode mT_init.2.1 33 = .ok (.putfield 27, 3) := by decide +kernel
theorem dT_init_36 : decode mT_init.2.1 36 = .ok (.aload_n 0, 1) := by decide +kernel
theorem dT_init_37 : decode mT_init.2.1 37 = .ok (.iconst 0, 1) := by decide +kernel
theorem dT_init_38 : decode mT_init.2.1 38 = .ok (.putfield 31, 3) := by decide +kernel
theorem dT_init_41 : decode mT_init.2.1 41 = .ok (.return_, 1) := by decide +kernel
theorem dG_init_0 : decode mG_init.2.1 0 = .ok (.aload_n 0, 1) := by decide +kernel
theorem dG_init_1 : decode mG_init.2.1 1 = .ok (.invokespecial 3, 3) := by decide +kernel
theorem dG_init_4 : decode mG_init.2.1 4 = .ok (.aload_n 0, 1) := by decide +kernel
theorem dG_init_5 : decode mG_init.2.1 5 = .ok (.bipush 14, 2) := by decide +kernel
theorem dG_init_7 : decode mG_init.2.1 7 = .ok (.anewarray 9, 3) := by decide +kernel
theorem dG_init_10 : decode mG_init.2.1 10 = .ok (.putfield 11, 3) := by decide +kernel
theorem dG_init_13 : decode mG_init.2.1 13 = .ok (.aload_n 0, 1) := by decide +kernel
theorem dG_init_14 : decode mG_init.2.1 14 = .ok (.bipush 14, 2) := by decide +kernel
theorem dG_init_16 : decode mG_init.2.1 16 = .ok (.newarray .int, 2) := by decide +kernel
theorem dG_init_18 : decode mG_init.2.1 18 = .ok (.putfield 17, 3) := by decide +kernel
theorem dG_init_21 : decode mG_init.2.1 21 = .ok (.aload_n 0, 1) := by decide +kernel
theorem dG_init_22 : decode mG_init.2.1 22 = .ok (.bipush 14, 2) := by decide +kernel
theorem dG_init_24 : decode mG_init.2.1 24 = .ok (.newarray .int, 2) := by decide +kernel
theorem dG_init_26 : decode mG_init.2.1 26 = .ok (.putfield 21, 3) := by decide +kernel
theorem dG_init_29 : decode mG_init.2.1 29 = .ok (.aload_n 0, 1) := by decide +kernel
theorem dG_init_30 : decode mG_init.2.1 30 = .ok (.bipush 14, 2) := by decide +kernel
theorem dG_init_32 : decode mG_init.2.1 32 = .ok (.newarray .int, 2) := by decide +kernel
theorem dG_init_34 : decode mG_init.2.1 34 = .ok (.putfield 24, 3) := by decide +kernel
theorem dG_init_37 : decode mG_init.2.1 37 = .ok (.aload_n 0, 1) := by decide +kernel
theorem dG_init_38 : decode mG_init.2.1 38 = .ok (.bipush 14, 2) := by decide +kernel
theorem dG_init_40 : decode mG_init.2.1 40 = .ok (.newarray .int, 2) := by decide +kernel
theorem dG_init_42 : decode mG_init.2.1 42 = .ok (.putfield 27, 3) := by decide +kernel
theorem dG_init_45 : decode mG_init.2.1 45 = .ok (.aload_n 0, 1) := by decide +kernel
theorem dG_init_46 : decode mG_init.2.1 46 = .ok (.bipush 14, 2) := by decide +kernel
theorem dG_init_48 : decode mG_init.2.1 48 = .ok (.newarray .int, 2) := by decide +kernel
theorem dG_init_50 : decode mG_init.2.1 50 = .ok (.putfield 30, 3) := by decide +kernel
theorem dG_init_53 : decode mG_init.2.1 53 = .ok (.return_, 1) := by decide +kernel
theorem dM_init_0 : decode mM_init.2.1 0 = .ok (.aload_n 0, 1) := by decide +kernel
theorem dM_init_1 : decode mM_init.2.1 1 = .ok (.invokespecial 3, 3) := by decide +kernel
theorem dM_init_4 : decode mM_init.2.1 4 = .ok (.aload_n 0, 1) := by decide +kernel
theorem dM_init_5 : decode mM_init.2.1 5 = .ok (.sipush 512, 3) := by decide +kernel
theorem dM_init_8 : decode mM_init.2.1 8 = .ok (.newarray .int, 2) := by decide +kernel
theorem dM_init_10 : decode mM_init.2.1 10 = .ok (.putfield 9, 3) := by decide +kernel
theorem dM_init_13 : decode mM_init.2.1 13 = .ok (.aload_n 0, 1) := by decide +kernel
theorem dM_init_14 : decode mM_init.2.1 14 = .ok (.sipush 1792, 3) := by decide +kernel
theorem dM_init_17 : decode mM_init.2.1 17 = .ok (.newarray .int, 2) := by decide +kernel
theorem dM_init_19 : decode mM_init.2.1 19 = .ok (.putfield 15, 3) := by decide +kernel
theorem dM_init_22 : decode mM_init.2.1 22 = .ok (.aload_n 0, 1) := by decide +kernel
theorem dM_init_23 : decode mM_init.2.1 23 = .ok (.new 18, 3) := by decide +kernel
theorem dM_init_26 : decode mM_init.2.1 26 = .ok (.dup, 1) := by decide +kernel
theorem dM_init_27 : decode mM_init.2.1 27 = .ok (.invokespecial 20, 3) := by decide +kernel
theorem dM_init_30 : decode mM_init.2.1 30 = .ok (.putfield 21, 3) := by decide +kernel
theorem dM_init_33 : decode mM_init.2.1 33 = .ok (.aload_n 0, 1) := by decide +kernel
theorem dM_init_34 : decode mM_init.2.1 34 = .ok (.new 25, 3) := by decide +kernel
theorem dM_init_37 : decode mM_init.2.1 37 = .ok (.dup, 1) := by decide +kernel
theorem dM_init_38 : decode mM_init.2.1 38 = .ok (.invokespecial 27, 3) := by decide +kernel
theorem dM_init_41 : decode mM_init.2.1 41 = .ok (.putfield 28, 3) := by decide +kernel
theorem dM_init_44 : decode mM_init.2.1 44 = .ok (.aload_n 0, 1) := by decide +kernel
theorem dM_init_45 : decode mM_init.2.1 45 = .ok (.new 25, 3) := by decide +kernel
theorem dM_init_48 : decode mM_init.2.1 48 = .ok (.dup, 1) := by decide +kernel
theorem dM_init_49 : decode mM_init.2.1 49 = .ok (.invokespecial 27, 3) := by decide +kernel
theorem dM_init_52 : decode mM_init.2.1 52 = .ok (.putfield 32, 3) := by decide +kernel
theorem dM_init_55 : decode mM_init.2.1 55 = .ok (.return_, 1) := by decide +kernel
theorem dW_init_0 : decode mW_init.2.1 0 = .ok (.aload_n 0, 1) := by decide +kernel
theorem dW_init_1 : decode mW_init.2.1 1 = .ok (.invokespecial 1, 3) := by decide +kernel
theorem dW_init_4 : decode mW_init.2.1 4 = .ok (.return_, 1) := by decide +kernel
theorem dS_init_0 : decode mS_init.2.1 0 = .ok (.aload_n 0, 1) := by decide +kernel
theorem dS_init_1 : decode mS_init.2.1 1 = .ok (.invokespecial 1, 3) := by decide +kernel
theorem dS_init_4 : decode mS_init.2.1 4 = .ok (.return_, 1) := by decide +kernel
theorem dL_weights_0 : decode mL_weights.2.1 0 = .ok (.aload 4, 2) := by decide +kernel
theorem dL_weights_2 : decode mL_weights.2.1 2 = .ok (.iconst 0, 1) := by decide +kernel
theorem dL_weights_3 : decode mL_weights.2.1 3 = .ok (.aload_n 0, 1) := by decide +kernel
theorem dL_weights_4 : decode mL_weights.2.1 4 = .ok (.iload_n 1, 1) := by decide +kernel
theorem dL_weights_5 : decode mL_weights.2.1 5 = .ok (.lload_n 2, 1) := by decide +kernel
theorem dL_weights_6 : decode mL_weights.2.1 6 = .ok (.invokevirtual 7, 3) := by decide +kernel
theorem dL_weights_9 : decode mL_weights.2.1 9 = .ok (.i2l, 1) := by decide +kernel
theorem dL_weights_10 : decode mL_weights.2.1 10 = .ok (.lastore, 1) := by decide +kernel
theorem dL_weights_11 : decode mL_weights.2.1 11 = .ok (.goto 7, 3) := by decide +kernel
theorem dL_weights_14 : decode mL_weights.2.1 14 = .ok (.astore 5, 2) := by decide +kernel
theorem dL_weights_16 : decode mL_weights.2.1 16 = .ok (.iconst 1, 1) := by decide +kernel
theorem dL_weights_17 : decode mL_weights.2.1 17 = .ok (.ireturn, 1) := by decide +kernel
theorem dL_weights_18 : decode mL_weights.2.1 18 = .ok (.iconst 0, 1) := by decide +kernel
theorem dL_weights_19 : decode mL_weights.2.1 19 = .ok (.ireturn, 1) := by decide +kernel
theorem dT_weights_0 : decode mT_weights.2.1 0 = .ok (.iload_n 1, 1) := by decide +kernel
theorem dT_weights_1 : decode mT_weights.2.1 1 = .ok (.iconst 0, 1) := by decide +kernel
theorem dT_weights_2 : decode mT_weights.2.1 2 = .ok (.sipush 511, 3) := by decide +kernel
theorem dT_weights_5 : decode mT_weights.2.1 5 = .ok (.invokestatic 35, 3) := by decide +kernel
theorem dT_weights_8 : decode mT_weights.2.1 8 = .ok (.lload_n 2, 1) := by decide +kernel
theorem dT_weights_9 : decode mT_weights.2.1 9 = .ok (.aload_n 0, 1) := by decide +kernel
theorem dT_weights_10 : decode mT_weights.2.1 10 = .ok (.getfield 19, 3) := by decide +kernel
theorem dT_weights_13 : decode mT_weights.2.1 13 = .ok (.getfield 39, 3) := by decide +kernel
theorem dT_weights_16 : decode mT_weights.2.1 16 = .ok (.iload_n 1, 1) := by decide +kernel
theorem dT_weights_17 : decode mT_weights.2.1 17 = .ok (.invokestatic 43, 3) := by decide +kernel
theorem dT_weights_20 : decode mT_weights.2.1 20 = .ok (.ireturn, 1) := by decide +kernel
theorem dT_requireBetween_0 : decode mT_requireBetween.2.1 0 = .ok (.iload_n 0, 1) := by decide +kernel
theorem dT_requireBetween_1 : decode mT_requireBetween.2.1 1 = .ok (.iload_n 1, 1) := by decide +kernel
theorem dT_requireBetween_2 : decode mT_requireBetween.2.1 2 = .ok (.if_icmp .lt 12, 3) := by decide +kernel
theorem dT_requireBetween_5 : decode mT_requireBetween.2.1 5 = .ok (.iload_n 0, 1) := by decide +kernel
theorem dT_requireBetween_6 : decode mT_requireBetween.2.1 6 = .ok (.iload_n 2, 1) := by decide +kernel
theorem dT_requireBetween_7 : decode mT_requireBetween.2.1 7 = .ok (.if_icmp .gt 7, 3) := by decide +kernel
theorem dT_requireBetween_10 : decode mT_requireBetween.2.1 10 = .ok (.iconst 1, 1) := by decide +kernel
theorem dT_requireBetween_11 : decode mT_requireBetween.2.1 11 = .ok (.goto 4, 3) := by decide +kernel
theorem dT_requireBetween_14 : decode mT_requireBetween.2.1 14 = .ok (.iconst 0, 1) := by decide +kernel
theorem dT_requireBetween_15 : decode mT_requireBetween.2.1 15 = .ok (.invokestatic 125, 3) := by decide +kernel
theorem dT_requireBetween_18 : decode mT_requireBetween.2.1 18 = .ok (.return_, 1) := by decide +kernel
theorem dT_require_0 : decode mT_require.2.1 0 = .ok (.iload_n 0, 1) := by decide +kernel
theorem dT_require_1 : decode mT_require.2.1 1 = .ok (.ifCond .ne 13, 3) := by decide +kernel
theorem dT_require_4 : decode mT_require.2.1 4 = .ok (.new 222, 3) := by decide +kernel
theorem dT_require_7 : decode mT_require.2.1 7 = .ok (.dup, 1) := by decide +kernel
theorem dT_require_8 : decode mT_require.2.1 8 = .ok (.ldc 224, 2) := by decide +kernel
theorem dT_require_10 : decode mT_require.2.1 10 = .ok (.invokespecial 226, 3) := by decide +kernel
theorem dT_require_13 : decode mT_require.2.1 13 = .ok (.athrow, 1) := by decide +kernel
theorem dT_require_14 : decode mT_require.2.1 14 = .ok (.return_, 1) := by decide +kernel
theorem dT_spread_0 : decode mT_spread.2.1 0 = .ok (.bipush 8, 2) := by decide +kernel
theorem dT_spread_2 : decode mT_spread.2.1 2 = .ok (.aload_n 2, 1) := by decide +kernel
theorem dT_spread_3 : decode mT_spread.2.1 3 = .ok (.arraylength, 1) := by decide +kernel
theorem dT_spread_4 : decode mT_spread.2.1 4 = .ok (.iload_n 3, 1) := by decide +kernel
theorem dT_spread_5 : decode mT_spread.2.1 5 = .ok (.isub, 1) := by decide +kernel
theorem dT_spread_6 : decode mT_spread.2.1 6 = .ok (.invokestatic 217, 3) := by decide +kernel
theorem dT_spread_9 : decode mT_spread.2.1 9 = .ok (.istore 4, 2) := by decide +kernel
theorem dT_spread_11 : decode mT_spread.2.1 11 = .ok (.iconst 0, 1) := by decide +kernel
theorem dT_spread_12 : decode mT_spread.2.1 12 = .ok (.istore 5, 2) := by decide +kernel
theorem dT_spread_14 : decode mT_spread.2.1 14 = .ok (.iload 5, 2) := by decide +kernel
theorem dT_spread_16 : decode mT_spread.2.1 16 = .ok (.iload 4, 2) := by decide +kernel
theorem dT_spread_18 : decode mT_spread.2.1 18 = .ok (.if_icmp .ge 27, 3) := by decide +kernel
theorem dT_spread_21 : decode mT_spread.2.1 21 = .ok (.aload_n 2, 1) := by decide +kernel
theorem dT_spread_22 : decode mT_spread.2.1 22 = .ok (.iload_n 3, 1) := by decide +kernel
theorem dT_spread_23 : decode mT_spread.2.1 23 = .ok (.iload 5, 2) := by decide +kernel
theorem dT_spread_25 : decode mT_spread.2.1 25 = .ok (.iadd, 1) := by decide +kernel
theorem dT_spread_26 : decode mT_spread.2.1 26 = .ok (.lload_n 0, 1) := by decide +kernel
theorem dT_spread_27 : decode mT_spread.2.1 27 = .ok (.bipush 8, 2) := by decide +kernel
theorem dT_spread_29 : decode mT_spread.2.1 29 = .ok (.bipush 7, 2) := by decide +kernel
theorem dT_spread_31 : decode mT_spread.2.1 31 = .ok (.iload 5, 2) := by decide +kernel
theorem dT_spread_33 : decode mT_spread.2.1 33 = .ok (.isub, 1) := by decide +kernel
theorem dT_spread_34 : decode mT_spread.2.1 34 = .ok (.imul, 1) := by decide +kernel
theorem dT_spread_35 : decode mT_spread.2.1 35 = .ok (.lshr, 1) := by decide +kernel
theorem dT_spread_36 : decode mT_spread.2.1 36 = .ok (.l2i, 1) := by decide +kernel
theorem dT_spread_37 : decode mT_spread.2.1 37 = .ok (.i2b, 1) := by decide +kernel
theorem dT_spread_38 : decode mT_spread.2.1 38 = .ok (.iastore, 1) := by decide +kernel
theorem dT_spread_39 : decode mT_spread.2.1 39 = .ok (.iinc 5 1, 3) := by decide +kernel
theorem dT_spread_42 : decode mT_spread.2.1 42 = .ok (.goto (-28), 3) := by decide +kernel
theorem dT_spread_45 : decode mT_spread.2.1 45 = .ok (.iload 4, 2) := by decide +kernel
theorem dT_spread_47 : decode mT_spread.2.1 47 = .ok (.ireturn, 1) := by decide +kernel
theorem dL_weightScale_0 : decode mL_weightScale.2.1 0 = .ok (.aload_n 0, 1) := by decide +kernel
theorem dL_weightScale_1 : decode mL_weightScale.2.1 1 = .ok (.dload_n 1, 1) := by decide +kernel
theorem dL_weightScale_2 : decode mL_weightScale.2.1 2 = .ok (.invokevirtual 15, 3) := by decide +kernel
theorem dL_weightScale_5 : decode mL_weightScale.2.1 5 = .ok (.goto 6, 3) := by decide +kernel
theorem dL_weightScale_8 : decode mL_weightScale.2.1 8 = .ok (.astore_n 3, 1) := by decide +kernel
theorem dL_weightScale_9 : decode mL_weightScale.2.1 9 = .ok (.iconst 1, 1) := by decide +kernel
theorem dL_weightScale_10 : decode mL_weightScale.2.1 10 = .ok (.ireturn, 1) := by decide +kernel
theorem dL_weightScale_11 : decode mL_weightScale.2.1 11 = .ok (.iconst 0, 1) := by decide +kernel
theorem dL_weightScale_12 : decode mL_weightScale.2.1 12 = .ok (.ireturn, 1) := by decide +kernel
theorem dT_weightScale_0 : decode mT_weightScale.2.1 0 = .ok (.dload_n 1, 1) := by decide +kernel
theorem dT_weightScale_1 : decode mT_weightScale.2.1 1 = .ok (.invokestatic 47, 3) := by decide +kernel
theorem dT_weightScale_4 : decode mT_weightScale.2.1 4 = .ok (.aload_n 0, 1) := by decide +kernel
theorem dT_weightScale_5 : decode mT_weightScale.2.1 5 = .ok (.dload_n 1, 1) := by decide +kernel
theorem dT_weightScale_6 : decode mT_weightScale.2.1 6 = .ok (.putfield 23, 3) := by decide +kernel
theorem dT_weightScale_9 : decode mT_weightScale.2.1 9 = .ok (.return_, 1) := by decide +kernel
theorem dT_requireScale_0 : decode mT_requireScale.2.1 0 = .ok (.dload_n 0, 1) := by decide +kernel
theorem dT_requireScale_1 : decode mT_requireScale.2.1 1 = .ok (.dconst 0, 1) := by decide +kernel
theorem dT_requireScale_2 : decode mT_requireScale.2.1 2 = .ok (.dcmp .l, 1) := by decide +kernel
theorem dT_requireScale_3 : decode mT_requireScale.2.1 3 = .ok (.ifCond .le 15, 3) := by decide +kernel
theorem dT_requireScale_6 : decode mT_requireScale.2.1 6 = .ok (.dload_n 0, 1) := by decide +kernel
theorem dT_requireScale_7 : decode mT_requireScale.2.1 7 = .ok (.ldc2_w 230, 3) := by decide +kernel
theorem dT_requireScale_10 : decode mT_requireScale.2.1 10 = .ok (.dcmp .g, 1) := by decide +kernel
theorem dT_requireScale_11 : decode mT_requireScale.2.1 11 = .ok (.ifCond .gt 7, 3) := by decide +kernel
theorem dT_requireScale_14 : decode mT_requireScale.2.1 14 = .ok (.iconst 1, 1) := by decide +kernel
theorem dT_requireScale_15 : decode mT_requireScale.2.1 15 = .ok (.goto 4, 3) := by decide +kernel
theorem dT_requireScale_18 : decode mT_requireScale.2.1 18 = .ok (.iconst 0, 1) := by decide +kernel
theorem dT_requireScale_19 : decode mT_requireScale.2.1 19 = .ok (.invokestatic 125, 3) := by decide +kernel
theorem dT_requireScale_22 : decode mT_requireScale.2.1 22 = .ok (.return_, 1) := by decide +kernel
theorem dL_input_0 : decode mL_input.2.1 0 = .ok (.aload 6, 2) := by decide +kernel
theorem dL_input_2 : decode mL_input.2.1 2 = .ok (.iconst 0, 1) := by decide +kernel
theorem dL_input_3 : decode mL_input.2.1 3 = .ok (.aload_n 0, 1) := by decide +kernel
theorem dL_input_4 : decode mL_input.2.1 4 = .ok (.iload_n 1, 1) := by decide +kernel
theorem dL_input_5 : decode mL_input.2.1 5 = .ok (.iload_n 2, 1) := by decide +kernel
theorem dL_input_6 : decode mL_input.2.1 6 = .ok (.iload_n 3, 1) := by decide +kernel
theorem dL_input_7 : decode mL_input.2.1 7 = .ok (.dload 4, 2) := by decide +kernel
theorem dL_input_9 : decode mL_input.2.1 9 = .ok (.invokevirtual 19, 3) := by decide +kernel
theorem dL_input_12 : decode mL_input.2.1 12 = .ok (.i2l, 1) := by decide +kernel
theorem dL_input_13 : decode mL_input.2.1 13 = .ok (.lastore, 1) := by decide +kernel
theorem dL_input_14 : decode mL_input.2.1 14 = .ok (.goto 11, 3) := by decide +kernel
theorem dL_input_17 : decode mL_input.2.1 17 = .ok (.astore 7, 2) := by decide +kernel
theorem dL_input_19 : decode mL_input.2.1 19 = .ok (.iconst 1, 1) := by decide +kernel
theorem dL_input_20 : decode mL_input.2.1 20 = .ok (.ireturn, 1) := by decide +kernel
theorem dL_input_21 : decode mL_input.2.1 21 = .ok (.astore 7, 2) := by decide +kernel
theorem dL_input_23 : decode mL_input.2.1 23 = .ok (.iconst 2, 1) := by decide +kernel
theorem dL_input_24 : decode mL_input.2.1 24 = .ok (.ireturn, 1) := by decide +kernel
theorem dL_input_25 : decode mL_input.2.1 25 = .ok (.iconst 0, 1) := by decide +kernel
theorem dL_input_26 : decode mL_input.2.1 26 = .ok (.ireturn, 1) := by decide +kernel
theorem dT_input_0 : decode mT_input.2.1 0 = .ok (.iload_n 1, 1) := by decide +kernel
theorem dT_input_1 : decode mT_input.2.1 1 = .ok (.iload_n 2, 1) := by decide +kernel
theorem dT_input_2 : decode mT_input.2.1 2 = .ok (.iload_n 3, 1) := by decide +kernel
theorem dT_input_3 : decode mT_input.2.1 3 = .ok (.invokestatic 51, 3) := by decide +kernel
theorem dT_input_6 : decode mT_input.2.1 6 = .ok (.dload 4, 2) := by decide +kernel
theorem dT_input_8 : decode mT_input.2.1 8 = .ok (.invokestatic 47, 3) := by decide +kernel
theorem dT_input_11 : decode mT_input.2.1 11 = .ok (.aload_n 0, 1) := by decide +kernel
theorem dT_input_12 : decode mT_input.2.1 12 = .ok (.invokevirtual 54, 3) := by decide +kernel
theorem dT_input_15 : decode mT_input.2.1 15 = .ok (.aload_n 0, 1) := by decide +kernel
theorem dT_input_16 : decode mT_input.2.1 16 = .ok (.new 57, 3) := by decide +kernel
theorem dT_input_19 : decode mT_input.2.1 19 = .ok (.dup, 1) := by decide +kernel
theorem dT_input_20 : decode mT_input.2.1 20 = .ok (.iconst 0, 1) := by decide +kernel
theorem dT_input_21 : decode mT_input.2.1 21 = .ok (.iconst (-1), 1) := by decide +kernel
theorem dT_input_22 : decode mT_input.2.1 22 = .ok (.iconst (-1), 1) := by decide +kernel
theorem dT_input_23 : decode mT_input.2.1 23 = .ok (.iload_n 1, 1) := by decide +kernel
theorem dT_input_24 : decode mT_input.2.1 24 = .ok (.iload_n 2, 1) := by decide +kernel
theorem dT_input_25 : decode mT_input.2.1 25 = .ok (.iload_n 3, 1) := by decide +kernel
theorem dT_input_26 : decode mT_input.2.1 26 = .ok (.dload 4, 2) := by decide +kernel
theorem dT_input_28 : decode mT_input.2.1 28 = .ok (.invokespecial 59, 3) := by decide +kernel
theorem dT_input_31 : decode mT_input.2.1 31 = .ok (.invokevirtual 62, 3) := by decide +kernel
theorem dT_input_34 : decode mT_input.2.1 34 = .ok (.ireturn, 1) := by decide +kernel
theorem dT_requireShape_0 : decode mT_requireShape.2.1 0 = .ok (.iload_n 0, 1) := by decide +kernel
theorem dT_requireShape_1 : decode mT_requireShape.2.1 1 = .ok (.iconst 1, 1) := by decide +kernel
theorem dT_requireShape_2 : decode mT_requireShape.2.1 2 = .ok (.iconst 4, 1) := by decide +kernel
theorem dT_requireShape_3 : decode mT_requireShape.2.1 3 = .ok (.invokestatic 35, 3) := by decide +kernel
theorem dT_requireShape_6 : decode mT_requireShape.2.1 6 = .ok (.iload_n 1, 1) := by decide +kernel
theorem dT_requireShape_7 : decode mT_requireShape.2.1 7 = .ok (.iconst 1, 1) := by decide +kernel
theorem dT_requireShape_8 : decode mT_requireShape.2.1 8 = .ok (.iconst 4, 1) := by decide +kernel
theorem dT_requireShape_9 : decode mT_requireShape.2.1 9 = .ok (.invokestatic 35, 3) := by decide +kernel
theorem dT_requireShape_12 : decode mT_requireShape.2.1 12 = .ok (.iload_n 2, 1) := by decide +kernel
theorem dT_requireShape_13 : decode mT_requireShape.2.1 13 = .ok (.iconst 1, 1) := by decide +kernel
theorem dT_requireShape_14 : decode mT_requireShape.2.1 14 = .ok (.bipush 8, 2) := by decide +kernel
theorem dT_requireShape_16 : decode mT_requireShape.2.1 16 = .ok (.invokestatic 35, 3) := by decide +kernel
theorem dT_requireShape_19 : decode mT_requireShape.2.1 19 = .ok (.return_, 1) := by decide +kernel
theorem dT_requireRoom_0 : decode mT_requireRoom.2.1 0 = .ok (.aload_n 0, 1) := by decide +kernel
theorem dT_requireRoom_1 : decode mT_requireRoom.2.1 1 = .ok (.getfield 12, 3) := by decide +kernel
theorem dT_requireRoom_4 : decode mT_requireRoom.2.1 4 = .ok (.getfield 227, 3) := by decide +kernel
theorem dT_requireRoom_7 : decode mT_requireRoom.2.1 7 = .ok (.bipush 14, 2) := by decide +kernel
theorem dT_requireRoom_9 : decode mT_requireRoom.2.1 9 = .ok (.if_icmp .lt 13, 3) := by decide +kernel
theorem dT_requireRoom_12 : decode mT_requireRoom.2.1 12 = .ok (.new 144, 3) := by decide +kernel
theorem dT_requireRoom_15 : decode mT_requireRoom.2.1 15 = .ok (.dup, 1) := by decide +kernel
theorem dT_requireRoom_16 : decode mT_requireRoom.2.1 16 = .ok (.ldc 247, 2) := by decide +kernel
theorem dT_requireRoom_18 : decode mT_requireRoom.2.1 18 = .ok (.invokespecial 148, 3) := by decide +kernel
theorem dT_requireRoom_21 : decode mT_requireRoom.2.1 21 = .ok (.athrow, 1) := by decide +kernel
theorem dT_requireRoom_22 : decode mT_requireRoom.2.1 22 = .ok (.return_, 1) := by decide +kernel
theorem dN_init_0 : decode mN_init.2.1 0 = .ok (.aload_n 0, 1) := by decide +kernel
theorem dN_init_1 : decode mN_init.2.1 1 = .ok (.invokespecial 3, 3) := by decide +kernel
theorem dN_init_4 : decode mN_init.2.1 4 = .ok (.aload_n 0, 1) := by decide +kernel
theorem dN_init_5 : decode mN_init.2.1 5 = .ok (.iload_n 1, 1) := by decide +kernel
theorem dN_init_6 : decode mN_init.2.1 6 = .ok (.putfield 9, 3) := by decide +kernel
theorem dN_init_9 : decode mN_init.2.1 9 = .ok (.aload_n 0, 1) := by decide +kernel
theorem dN_init_10 : decode mN_init.2.1 10 = .ok (.iload_n 2, 1) := by decide +kernel
theorem dN_init_11 : decode mN_init.2.1 11 = .ok (.putfield 15, 3) := by decide +kernel
theorem dN_init_14 : decode mN_init.2.1 14 = .ok (.aload_n 0, 1) := by decide +kernel
theorem dN_init_15 : decode mN_init.2.1 15 = .ok (.iload_n 3, 1) := by decide +kernel
theorem dN_init_16 : decode mN_init.2.1 16 = .ok (.putfield 18, 3) := by decide +kernel
theorem dN_init_19 : decode mN_init.2.1 19 = .ok (.aload_n 0, 1) := by decide +kernel
theorem dN_init_20 : decode mN_init.2.1 20 = .ok (.iload 4, 2) := by decide +kernel
theorem dN_init_22 : decode mN_init.2.1 22 = .ok (.putfield 21, 3) := by decide +kernel
theorem dN_init_25 : decode mN_init.2.1 25 = .ok (.aload_n 0, 1) := by decide +kernel
theorem dN_init_26 : decode mN_init.2.1 26 = .ok (.iload 5, 2) := by decide +kernel
theorem dN_init_28 : decode mN_init.2.1 28 = .ok (.putfield 24, 3) := by decide +kernel
theorem dN_init_31 : decode mN_init.2.1 31 = .ok (.aload_n 0, 1) := by decide +kernel
theorem dN_init_32 : decode mN_init.2.1 32 = .ok (.iload 6, 2) := by decide +kernel
theorem dN_init_34 : decode mN_init.2.1 34 = .ok (.putfield 27, 3) := by decide +kernel
theorem dN_init_37 : decode mN_init.2.1 37 = .ok (.aload_n 0, 1) := by decide +kernel
theorem dN_init_38 : decode mN_init.2.1 38 = .ok (.dload 7, 2) := by decide +kernel
theorem dN_init_40 : decode mN_init.2.1 40 = .ok (.putfield 30, 3) := by decide +kernel
theorem dN_init_43 : decode mN_init.2.1 43 = .ok (.aload_n 0, 1) := by decide +kernel
theorem dN_init_44 : decode mN_init.2.1 44 = .ok (.iload 4, 2) := by decide +kernel
theorem dN_init_46 : decode mN_init.2.1 46 = .ok (.iload 5, 2) := by decide +kernel
theorem dN_init_48 : decode mN_init.2.1 48 = .ok (.imul, 1) := by decide +kernel
theorem dN_init_49 : decode mN_init.2.1 49 = .ok (.iload 6, 2) := by decide +kernel
theorem dN_init_51 : decode mN_init.2.1 51 = .ok (.imul, 1) := by decide +kernel
theorem dN_init_52 : decode mN_init.2.1 52 = .ok (.putfield 34, 3) := by decide +kernel
theorem dN_init_55 : decode mN_init.2.1 55 = .ok (.aload_n 0, 1) := by decide +kernel
theorem dN_init_56 : decode mN_init.2.1 56 = .ok (.iload_n 1, 1) := by decide +kernel
theorem dN_init_57 : decode mN_init.2.1 57 = .ok (.ifCond .ne 10, 3) := by decide +kernel
theorem dN_init_60 : decode mN_init.2.1 60 = .ok (.aload_n 0, 1) := by decide +kernel
theorem dN_init_61 : decode mN_init.2.1 61 = .ok (.getfield 34, 3) := by decide +kernel
theorem dN_init_64 : decode mN_init.2.1 64 = .ok (.goto 4, 3) := by decide +kernel
theorem dN_init_67 : decode mN_init.2.1 67 = .ok (.iconst 0, 1) := by decide +kernel
theorem dN_init_68 : decode mN_init.2.1 68 = .ok (.newarray .int, 2) := by decide +kernel
theorem dN_init_70 : decode mN_init.2.1 70 = .ok (.putfield 37, 3) := by decide +kernel
theorem dN_init_73 : decode mN_init.2.1 73 = .ok (.return_, 1) := by decide +kernel
theorem dT_keep_0 : decode mT_keep.2.1 0 = .ok (.aload_n 0, 1) := by decide +kernel
theorem dT_keep_1 : decode mT_keep.2.1 1 = .ok (.iconst 0, 1) := by decide +kernel
theorem dT_keep_2 : decode mT_keep.2.1 2 = .ok (.putfield 31, 3) := by decide +kernel
theorem dT_keep_5 : decode mT_keep.2.1 5 = .ok (.aload_n 0, 1) := by decide +kernel
theorem dT_keep_6 : decode mT_keep.2.1 6 = .ok (.getfield 12, 3) := by decide +kernel
theorem dT_keep_9 : decode mT_keep.2.1 9 = .ok (.aload_n 1, 1) := by decide +kernel
theorem dT_keep_10 : decode mT_keep.2.1 10 = .ok (.invokevirtual 214, 3) := by decide +kernel
theorem dT_keep_13 : decode mT_keep.2.1 13 = .ok (.ireturn, 1) := by decide +kernel
theorem dG_append_0 : decode mG_append.2.1 0 = .ok (.aload_n 0, 1) := by decide +kernel
theorem dG_append_1 : decode mG_append.2.1 1 = .ok (.getfield 33, 3) := by decide +kernel
theorem dG_append_4 : decode mG_append.2.1 4 = .ok (.istore_n 2, 1) := by decide +kernel
theorem dG_append_5 : decode mG_append.2.1 5 = .ok (.aload_n 0, 1) := by decide +kernel
theorem dG_append_6 : decode mG_append.2.1 6 = .ok (.getfield 11, 3) := by decide +kernel
theorem dG_append_9 : decode mG_append.2.1 9 = .ok (.iload_n 2, 1) := by decide +kernel
theorem dG_append_10 : decode mG_append.2.1 10 = .ok (.aload_n 1, 1) := by decide +kernel
theorem dG_append_11 : decode mG_append.2.1 11 = .ok (.aastore, 1) := by decide +kernel
theorem dG_append_12 : decode mG_append.2.1 12 = .ok (.aload_n 0, 1) := by decide +kernel
theorem dG_append_13 : decode mG_append.2.1 13 = .ok (.dup, 1) := by decide +kernel
theorem dG_append_14 : decode mG_append.2.1 14 = .ok (.getfield 33, 3) := by decide +kernel
theorem dG_append_17 : decode mG_append.2.1 17 = .ok (.iconst 1, 1) := by decide +kernel
theorem dG_append_18 : decode mG_append.2.1 18 = .ok (.iadd, 1) := by decide +kernel
theorem dG_append_19 : decode mG_append.2.1 19 = .ok (.putfield 33, 3) := by decide +kernel
theorem dG_append_22 : decode mG_append.2.1 22 = .ok (.iload_n 2, 1) := by decide +kernel
theorem dG_append_23 : decode mG_append.2.1 23 = .ok (.ireturn, 1) := by decide +kernel
theorem dL_windows_0 : decode mL_windows.2.1 0 = .ok (.aload 7, 2) := by decide +kernel
theorem dL_windows_2 : decode mL_windows.2.1 2 = .ok (.iconst 0, 1) := by decide +kernel
theorem dL_windows_3 : decode mL_windows.2.1 3 = .ok (.aload_n 0, 1) := by decide +kernel
theorem dL_windows_4 : decode mL_windows.2.1 4 = .ok (.iload_n 1, 1) := by decide +kernel
theorem dL_windows_5 : decode mL_windows.2.1 5 = .ok (.iload_n 2, 1) := by decide +kernel
theorem dL_windows_6 : decode mL_windows.2.1 6 = .ok (.iload_n 3, 1) := by decide +kernel
theorem dL_windows_7 : decode mL_windows.2.1 7 = .ok (.iload 4, 2) := by decide +kernel
theorem dL_windows_9 : decode mL_windows.2.1 9 = .ok (.dload 5, 2) := by decide +kernel
theorem dL_windows_11 : decode mL_windows.2.1 11 = .ok (.invokevirtual 25, 3) := by decide +kernel
theorem dL_windows_14 : decode mL_windows.2.1 14 = .ok (.i2l, 1) := by decide +kernel
theorem dL_windows_15 : decode mL_windows.2.1 15 = .ok (.lastore, 1) := by decide +kernel
theorem dL_windows_16 : decode mL_windows.2.1 16 = .ok (.goto 15, 3) := by decide +kernel
theorem dL_windows_19 : decode mL_windows.2.1 19 = .ok (.astore 8, 2) := by decide +kernel
theorem dL_windows_21 : decode mL_windows.2.1 21 = .ok (.iconst 1, 1) := by decide +kernel
theorem dL_windows_22 : decode mL_windows.2.1 22 = .ok (.ireturn, 1) := by decide +kernel
theorem dL_windows_23 : decode mL_windows.2.1 23 = .ok (.astore 8, 2) := by decide +kernel
theorem dL_windows_25 : decode mL_windows.2.1 25 = .ok (.iconst 2, 1) := by decide +kernel
theorem dL_windows_26 : decode mL_windows.2.1 26 = .ok (.ireturn, 1) := by decide +kernel
theorem dL_windows_27 : decode mL_windows.2.1 27 = .ok (.astore 8, 2) := by decide +kernel
theorem dL_windows_29 : decode mL_windows.2.1 29 = .ok (.iconst 3, 1) := by decide +kernel
theorem dL_windows_30 : decode mL_windows.2.1 30 = .ok (.ireturn, 1) := by decide +kernel
theorem dL_windows_31 : decode mL_windows.2.1 31 = .ok (.iconst 0, 1) := by decide +kernel
theorem dL_windows_32 : decode mL_windows.2.1 32 = .ok (.ireturn, 1) := by decide +kernel
theorem dT_windows_0 : decode mT_windows.2.1 0 = .ok (.aload_n 0, 1) := by decide +kernel
theorem dT_windows_1 : decode mT_windows.2.1 1 = .ok (.iload_n 1, 1) := by decide +kernel
theorem dT_windows_2 : decode mT_windows.2.1 2 = .ok (.invokevirtual 66, 3) := by decide +kernel
theorem dT_windows_5 : decode mT_windows.2.1 5 = .ok (.iload_n 2, 1) := by decide +kernel
theorem dT_windows_6 : decode mT_windows.2.1 6 = .ok (.iload_n 3, 1) := by decide +kernel
theorem dT_windows_7 : decode mT_windows.2.1 7 = .ok (.invokestatic 70, 3) := by decide +kernel
theorem dT_windows_10 : decode mT_windows.2.1 10 = .ok (.dload 5, 2) := by decide +kernel
theorem dT_windows_12 : decode mT_windows.2.1 12 = .ok (.invokestatic 47, 3) := by decide +kernel
theorem dT_windows_15 : decode mT_windows.2.1 15 = .ok (.aload_n 0, 1) := by decide +kernel
theorem dT_windows_16 : decode mT_windows.2.1 16 = .ok (.getfield 12, 3) := by decide +kernel
theorem dT_windows_19 : decode mT_windows.2.1 19 = .ok (.getfield 74, 3) := by decide +kernel
theorem dT_windows_22 : decode mT_windows.2.1 22 = .ok (.iload_n 1, 1) := by decide +kernel
theorem dT_windows_23 : decode mT_windows.2.1 23 = .ok (.aaload, 1) := by decide +kernel
theorem dT_windows_24 : decode mT_windows.2.1 24 = .ok (.astore 7, 2) := by decide +kernel
theorem dT_windows_26 : decode mT_windows.2.1 26 = .ok (.iload_n 2, 1) := by decide +kernel
theorem dT_windows_27 : decode mT_windows.2.1 27 = .ok (.bipush 12, 2) := by decide +kernel
theorem dT_windows_29 : decode mT_windows.2.1 29 = .ok (.irem, 1) := by decide +kernel
theorem dT_windows_30 : decode mT_windows.2.1 30 = .ok (.istore 8, 2) := by decide +kernel
theorem dT_windows_32 : decode mT_windows.2.1 32 = .ok (.aload 7, 2) := by decide +kernel
theorem dT_windows_34 : decode mT_windows.2.1 34 = .ok (.iload 8, 2) := by decide +kernel
theorem dT_windows_36 : decode mT_windows.2.1 36 = .ok (.invokestatic 78, 3) := by decide +kernel
theorem dT_windows_39 : decode mT_windows.2.1 39 = .ok (.iload 8, 2) := by decide +kernel
theorem dT_windows_41 : decode mT_windows.2.1 41 = .ok (.invokestatic 82, 3) := by decide +kernel
theorem dT_windows_44 : decode mT_windows.2.1 44 = .ok (.istore 9, 2) := by decide +kernel
theorem dT_windows_46 : decode mT_windows.2.1 46 = .ok (.iload_n 3, 1) := by decide +kernel
theorem dT_windows_47 : decode mT_windows.2.1 47 = .ok (.ifCond .eq 11, 3) := by decide +kernel
theorem dT_windows_50 : decode mT_windows.2.1 50 = .ok (.aload 7, 2) := by decide +kernel
theorem dT_windows_52 : decode mT_windows.2.1 52 = .ok (.getfield 88, 3) := by decide +kernel
theorem dT_windows_55 : decode mT_windows.2.1 55 = .ok (.goto 7, 3) := by decide +kernel
theorem dT_windows_58 : decode mT_windows.2.1 58 = .ok (.iload_n 2, 1) := by decide +kernel
theorem dT_windows_59 : decode mT_windows.2.1 59 = .ok (.bipush 12, 2) := by decide +kernel
theorem dT_windows_61 : decode mT_windows.2.1 61 = .ok (.idiv, 1) := by decide +kernel
theorem dT_windows_62 : decode mT_windows.2.1 62 = .ok (.istore 10, 2) := by decide +kernel
theorem dT_windows_64 : decode mT_windows.2.1 64 = .ok (.iload 9, 2) := by decide +kernel
theorem dT_windows_66 : decode mT_windows.2.1 66 = .ok (.iload 9, 2) := by decide +kernel
theorem dT_windows_68 : decode mT_windows.2.1 68 = .ok (.imul, 1) := by decide +kernel
theorem dT_windows_69 : decode mT_windows.2.1 69 = .ok (.iload_n 3, 1) := by decide +kernel
theorem dT_windows_70 : decode mT_windows.2.1 70 = .ok (.ifCond .eq 7, 3) := by decide +kernel
theorem dT_windows_73 : decode mT_windows.2.1 73 = .ok (.iconst 1, 1) := by decide +kernel
theorem dT_windows_74 : decode mT_windows.2.1 74 = .ok (.goto 8, 3) := by decide +kernel
theorem dT_windows_77 : decode mT_windows.2.1 77 = .ok (.aload 7, 2) := by decide +kernel
theorem dT_windows_79 : decode mT_windows.2.1 79 = .ok (.getfield 88, 3) := by decide +kernel
theorem dT_windows_82 : decode mT_windows.2.1 82 = .ok (.imul, 1) := by decide +kernel
theorem dT_windows_83 : decode mT_windows.2.1 83 = .ok (.istore 11, 2) := by decide +kernel
theorem dT_windows_85 : decode mT_windows.2.1 85 = .ok (.iload 4, 2) := by decide +kernel
theorem dT_windows_87 : decode mT_windows.2.1 87 = .ok (.iload 10, 2) := by decide +kernel
theorem dT_windows_89 : decode mT_windows.2.1 89 = .ok (.iload 11, 2) := by decide +kernel
theorem dT_windows_91 : decode mT_windows.2.1 91 = .ok (.invokestatic 91, 3) := by decide +kernel
theorem dT_windows_94 : decode mT_windows.2.1 94 = .ok (.aload_n 0, 1) := by decide +kernel
theorem dT_windows_95 : decode mT_windows.2.1 95 = .ok (.aload 7, 2) := by decide +kernel
theorem dT_windows_97 : decode mT_windows.2.1 97 = .ok (.dload 5, 2) := by decide +kernel
theorem dT_windows_99 : decode mT_windows.2.1 99 = .ok (.invokevirtual 94, 3) := by decide +kernel
theorem dT_windows_102 : decode mT_windows.2.1 102 = .ok (.dstore 12, 2) := by decide +kernel
theorem dT_windows_104 : decode mT_windows.2.1 104 = .ok (.dload 12, 2) := by decide +kernel
theorem dT_windows_106 : decode mT_windows.2.1 106 = .ok (.invokestatic 98, 3) := by decide +kernel
theorem dT_windows_109 : decode mT_windows.2.1 109 = .ok (.aload_n 0, 1) := by decide +kernel
theorem dT_windows_110 : decode mT_windows.2.1 110 = .ok (.invokevirtual 54, 3) := by decide +kernel
theorem dT_windows_113 : decode mT_windows.2.1 113 = .ok (.iload 8, 2) := by decide +kernel
theorem dT_windows_115 : decode mT_windows.2.1 115 = .ok (.aload 7, 2) := by decide +kernel
theorem dT_windows_117 : decode mT_windows.2.1 117 = .ok (.getfield 101, 3) := by decide +kernel
theorem dT_windows_120 : decode mT_windows.2.1 120 = .ok (.invokestatic 104, 3) := by decide +kernel
theorem dT_windows_123 : decode mT_windows.2.1 123 = .ok (.istore 14, 2) := by decide +kernel
theorem dT_windows_125 : decode mT_windows.2.1 125 = .ok (.iload 8, 2) := by decide +kernel
theorem dT_windows_127 : decode mT_windows.2.1 127 = .ok (.aload 7, 2) := by decide +kernel
theorem dT_windows_129 : decode mT_windows.2.1 129 = .ok (.getfield 108, 3) := by decide +kernel
theorem dT_windows_132 : decode mT_windows.2.1 132 = .ok (.invokestatic 104, 3) := by decide +kernel
theorem dT_windows_135 : decode mT_windows.2.1 135 = .ok (.istore 15, 2) := by decide +kernel
theorem dT_windows_137 : decode mT_windows.2.1 137 = .ok (.new 57, 3) := by decide +kernel
theorem dT_windows_140 : decode mT_windows.2.1 140 = .ok (.dup, 1) := by decide +kernel
theorem dT_windows_141 : decode mT_windows.2.1 141 = .ok (.iload_n 3, 1) := by decide +kernel
theorem dT_windows_142 : decode mT_windows.2.1 142 = .ok (.ifCond .eq 7, 3) := by decide +kernel
theorem dT_windows_145 : decode mT_windows.2.1 145 = .ok (.iconst 2, 1) := by decide +kernel
theorem dT_windows_146 : decode mT_windows.2.1 146 = .ok (.goto 4, 3) := by decide +kernel
theorem dT_windows_149 : decode mT_windows.2.1 149 = .ok (.iconst 1, 1) := by decide +kernel
theorem dT_windows_150 : decode mT_windows.2.1 150 = .ok (.iload_n 1, 1) := by decide +kernel
theorem dT_windows_151 : decode mT_windows.2.1 151 = .ok (.iconst (-1), 1) := by decide +kernel
theorem dT_windows_152 : decode mT_windows.2.1 152 = .ok (.iload 14, 2) := by decide +kernel
theorem dT_windows_154 : decode mT_windows.2.1 154 = .ok (.iload 15, 2) := by decide +kernel
theorem dT_windows_156 : decode mT_windows.2.1 156 = .ok (.iload 10, 2) := by decide +kernel
theorem dT_windows_158 : decode mT_windows.2.1 158 = .ok (.dload 5, 2) := by decide +kernel
theorem dT_windows_160 : decode mT_windows.2.1 160 = .ok (.invokespecial 59, 3) := by decide +kernel
theorem dT_windows_163 : decode mT_windows.2.1 163 = .ok (.astore 16, 2) := by decide +kernel
theorem dT_windows_165 : decode mT_windows.2.1 165 = .ok (.aload 16, 2) := by decide +kernel
theorem dT_windows_167 : decode mT_windows.2.1 167 = .ok (.iload 8, 2) := by decide +kernel
theorem dT_windows_169 : decode mT_windows.2.1 169 = .ok (.putfield 111, 3) := by decide +kernel
theorem dT_windows_172 : decode mT_windows.2.1 172 = .ok (.aload 16, 2) := by decide +kernel
theorem dT_windows_174 : decode mT_windows.2.1 174 = .ok (.iload 4, 2) := by decide +kernel
theorem dT_windows_176 : decode mT_windows.2.1 176 = .ok (.aload_n 0, 1) := by decide +kernel
theorem dT_windows_177 : decode mT_windows.2.1 177 = .ok (.getfield 23, 3) := by decide +kernel
theorem dT_windows_180 : decode mT_windows.2.1 180 = .ok (.dload 12, 2) := by decide +kernel
theorem dT_windows_182 : decode mT_windows.2.1 182 = .ok (.invokevirtual 114, 3) := by decide +kernel
theorem dT_windows_185 : decode mT_windows.2.1 185 = .ok (.aload_n 0, 1) := by decide +kernel
theorem dT_windows_186 : decode mT_windows.2.1 186 = .ok (.aload 16, 2) := by decide +kernel
theorem dT_windows_188 : decode mT_windows.2.1 188 = .ok (.invokevirtual 62, 3) := by decide +kernel
theorem dT_windows_191 : decode mT_windows.2.1 191 = .ok (.ireturn, 1) := by decide +kernel
theorem dT_requireNode_0 : decode mT_requireNode.2.1 0 = .ok (.iload_n 1, 1) := by decide +kernel
theorem dT_requireNode_1 : decode mT_requireNode.2.1 1 = .ok (.iconst 0, 1) := by decide +kernel
theorem dT_requireNode_2 : decode mT_requireNode.2.1 2 = .ok (.aload_n 0, 1) := by decide +kernel
theorem dT_requireNode_3 : decode mT_requireNode.2.1 3 = .ok (.getfield 12, 3) := by decide +kernel
theorem dT_requireNode_6 : decode mT_requireNode.2.1 6 = .ok (.getfield 227, 3) := by decide +kernel
theorem dT_requireNode_9 : decode mT_requireNode.2.1 9 = .ok (.iconst 1, 1) := by decide +kernel
theorem dT_requireNode_10 : decode mT_requireNode.2.1 10 = .ok (.isub, 1) := by decide +kernel
theorem dT_requireNode_11 : decode mT_requireNode.2.1 11 = .ok (.invokestatic 35, 3) := by decide +kernel
theorem dT_requireNode_14 : decode mT_requireNode.2.1 14 = .ok (.return_, 1) := by decide +kernel
theorem dT_requireWindowsCode_0 : decode mT_requireWindowsCode.2.1 0 = .ok (.iload_n 1, 1) := by decide +kernel
theorem dT_requireWindowsCode_1 : decode mT_requireWindowsCode.2.1 1 = .ok (.ifCond .eq 7, 3) := by decide +kernel
theorem dT_requireWindowsCode_4 : decode mT_requireWindowsCode.2.1 4 = .ok (.iconst 0, 1) := by decide +kernel
theorem dT_requireWindowsCode_5 : decode mT_requireWindowsCode.2.1 5 = .ok (.goto 5, 3) := by decide +kernel
theorem dT_requireWindowsCode_8 : decode mT_requireWindowsCode.2.1 8 = .ok (.bipush 12, 2) := by decide +kernel
theorem dT_requireWindowsCode_10 : decode mT_requireWindowsCode.2.1 10 = .ok (.istore_n 2, 1) := by decide +kernel
theorem dT_requireWindowsCode_11 : decode mT_requireWindowsCode.2.1 11 = .ok (.iload_n 1, 1) := by decide +kernel
theorem dT_requireWindowsCode_12 : decode mT_requireWindowsCode.2.1 12 = .ok (.ifCond .eq 8, 3) := by decide +kernel
theorem dT_requireWindowsCode_15 : decode mT_requireWindowsCode.2.1 15 = .ok (.bipush 11, 2) := by decide +kernel
theorem dT_requireWindowsCode_17 : decode mT_requireWindowsCode.2.1 17 = .ok (.goto 5, 3) := by decide +kernel
theorem dT_requireWindowsCode_20 : decode mT_requireWindowsCode.2.1 20 = .ok (.bipush 107, 2) := by decide +kernel
theorem dT_requireWindowsCode_22 : decode mT_requireWindowsCode.2.1 22 = .ok (.istore_n 3, 1) := by decide +kernel
theorem dT_requireWindowsCode_23 : decode mT_requireWindowsCode.2.1 23 = .ok (.iload_n 0, 1) := by decide +kernel
theorem dT_requireWindowsCode_24 : decode mT_requireWindowsCode.2.1 24 = .ok (.iload_n 2, 1) := by decide +kernel
theorem dT_requireWindowsCode_25 : decode mT_requireWindowsCode.2.1 25 = .ok (.iload_n 3, 1) := by decide +kernel
theorem dT_requireWindowsCode_26 : decode mT_requireWindowsCode.2.1 26 = .ok (.invokestatic 35, 3) := by decide +kernel
theorem dT_requireWindowsCode_29 : decode mT_requireWindowsCode.2.1 29 = .ok (.return_, 1) := by decide +kernel
theorem dT_requireWindowFits_0 : decode mT_requireWindowFits.2.1 0 = .ok (.iload_n 1, 1) := by decide +kernel
theorem dT_requireWindowFits_1 : decode mT_requireWindowFits.2.1 1 = .ok (.aload_n 0, 1) := by decide +kernel
theorem dT_requireWindowFits_2 : decode mT_requireWindowFits.2.1 2 = .ok (.getfield 101, 3) := by decide +kernel
theorem dT_requireWindowFits_5 : decode mT_requireWindowFits.2.1 5 = .ok (.invokestatic 232, 3) := by decide +kernel
theorem dT_requireWindowFits_8 : decode mT_requireWindowFits.2.1 8 = .ok (.ifCond .eq 18, 3) := by decide +kernel
theorem dT_requireWindowFits_11 : decode mT_requireWindowFits.2.1 11 = .ok (.iload_n 1, 1) := by decide +kernel
theorem dT_requireWindowFits_12 : decode mT_requireWindowFits.2.1 12 = .ok (.aload_n 0, 1) := by decide +kernel
theorem dT_requireWindowFits_13 : decode mT_requireWindowFits.2.1 13 = .ok (.getfield 108, 3) := by decide +kernel
theorem dT_requireWindowFits_16 : decode mT_requireWindowFits.2.1 16 = .ok (.invokestatic 232, 3) := by decide +kernel
theorem dT_requireWindowFits_19 : decode mT_requireWindowFits.2.1 19 = .ok (.ifCond .eq 7, 3) := by decide +kernel
theorem dT_requireWindowFits_22 : decode mT_requireWindowFits.2.1 22 = .ok (.iconst 1, 1) := by decide +kernel
theorem dT_requireWindowFits_23 : decode mT_requireWindowFits.2.1 23 = .ok (.goto 4, 3) := by decide +kernel
theorem dT_requireWindowFits_26 : decode mT_requireWindowFits.2.1 26 = .ok (.iconst 0, 1) := by decide +kernel
theorem dT_requireWindowFits_27 : decode mT_requireWindowFits.2.1 27 = .ok (.invokestatic 125, 3) := by decide +kernel
theorem dT_requireWindowFits_30 : decode mT_requireWindowFits.2.1 30 = .ok (.return_, 1) := by decide +kernel
theorem dW_fits_0 : decode mW_fits.2.1 0 = .ok (.iload_n 0, 1) := by decide +kernel
theorem dW_fits_1 : decode mW_fits.2.1 1 = .ok (.invokestatic 7, 3) := by decide +kernel
theorem dW_fits_4 : decode mW_fits.2.1 4 = .ok (.ifCond .ne 11, 3) := by decide +kernel
theorem dW_fits_7 : decode mW_fits.2.1 7 = .ok (.iload_n 1, 1) := by decide +kernel
theorem dW_fits_8 : decode mW_fits.2.1 8 = .ok (.iload_n 0, 1) := by decide +kernel
theorem dW_fits_9 : decode mW_fits.2.1 9 = .ok (.invokestatic 13, 3) := by decide +kernel
theorem dW_fits_12 : decode mW_fits.2.1 12 = .ok (.if_icmp .lt 7, 3) := by decide +kernel
theorem dW_fits_15 : decode mW_fits.2.1 15 = .ok (.iconst 1, 1) := by decide +kernel
theorem dW_fits_16 : decode mW_fits.2.1 16 = .ok (.goto 4, 3) := by decide +kernel
theorem dW_fits_19 : decode mW_fits.2.1 19 = .ok (.iconst 0, 1) := by decide +kernel
theorem dW_fits_20 : decode mW_fits.2.1 20 = .ok (.ireturn, 1) := by decide +kernel
theorem dW_isSame_0 : decode mW_isSame.2.1 0 = .ok (.iload_n 0, 1) := by decide +kernel
theorem dW_isSame_1 : decode mW_isSame.2.1 1 = .ok (.bipush 6, 2) := by decide +kernel
theorem dW_isSame_3 : decode mW_isSame.2.1 3 = .ok (.if_icmp .lt 7, 3) := by decide +kernel
theorem dW_isSame_6 : decode mW_isSame.2.1 6 = .ok (.iconst 1, 1) := by decide +kernel
theorem dW_isSame_7 : decode mW_isSame.2.1 7 = .ok (.goto 4, 3) := by decide +kernel
theorem dW_isSame_10 : decode mW_isSame.2.1 10 = .ok (.iconst 0, 1) := by decide +kernel
theorem dW_isSame_11 : decode mW_isSame.2.1 11 = .ok (.ireturn, 1) := by decide +kernel
theorem dW_sizeOf_0 : decode mW_sizeOf.2.1 0 = .ok (.iconst 1, 1) := by decide +kernel
theorem dW_sizeOf_1 : decode mW_sizeOf.2.1 1 = .ok (.iload_n 0, 1) := by decide +kernel
theorem dW_sizeOf_2 : decode mW_sizeOf.2.1 2 = .ok (.iconst 3, 1) := by decide +kernel
theorem dW_sizeOf_3 : decode mW_sizeOf.2.1 3 = .ok (.irem, 1) := by decide +kernel
theorem dW_sizeOf_4 : decode mW_sizeOf.2.1 4 = .ok (.iadd, 1) := by decide +kernel
theorem dW_sizeOf_5 : decode mW_sizeOf.2.1 5 = .ok (.ireturn, 1) := by decide +kernel
theorem dT_requireWeights_0 : decode mT_requireWeights.2.1 0 = .ok (.iload_n 1, 1) := by decide +kernel
theorem dT_requireWeights_1 : decode mT_requireWeights.2.1 1 = .ok (.istore_n 3, 1) := by decide +kernel
theorem dT_requireWeights_2 : decode mT_requireWeights.2.1 2 = .ok (.iload_n 0, 1) := by decide +kernel
theorem dT_requireWeights_3 : decode mT_requireWeights.2.1 3 = .ok (.iconst 0, 1) := by decide +kernel
theorem dT_requireWeights_4 : decode mT_requireWeights.2.1 4 = .ok (.sipush 512, 3) := by decide +kernel
theorem dT_requireWeights_7 : decode mT_requireWeights.2.1 7 = .ok (.iload_n 1, 1) := by decide +kernel
theorem dT_requireWeights_8 : decode mT_requireWeights.2.1 8 = .ok (.iload_n 2, 1) := by decide +kernel
theorem dT_requireWeights_9 : decode mT_requireWeights.2.1 9 = .ok (.imul, 1) := by decide +kernel
theorem dT_requireWeights_10 : decode mT_requireWeights.2.1 10 = .ok (.isub, 1) := by decide +kernel
theorem dT_requireWeights_11 : decode mT_requireWeights.2.1 11 = .ok (.iload_n 3, 1) := by decide +kernel
theorem dT_requireWeights_12 : decode mT_requireWeights.2.1 12 = .ok (.isub, 1) := by decide +kernel
theorem dT_requireWeights_13 : decode mT_requireWeights.2.1 13 = .ok (.invokestatic 35, 3) := by decide +kernel
theorem dT_requireWeights_16 : decode mT_requireWeights.2.1 16 = .ok (.return_, 1) := by decide +kernel
theorem dT_weightedRatio_0 : decode mT_weightedRatio.2.1 0 = .ok (.aload_n 1, 1) := by decide +kernel
theorem dT_weightedRatio_1 : decode mT_weightedRatio.2.1 1 = .ok (.getfield 129, 3) := by decide +kernel
theorem dT_weightedRatio_4 : decode mT_weightedRatio.2.1 4 = .ok (.aload_n 0, 1) := by decide +kernel
theorem dT_weightedRatio_5 : decode mT_weightedRatio.2.1 5 = .ok (.getfield 23, 3) := by decide +kernel
theorem dT_weightedRatio_8 : decode mT_weightedRatio.2.1 8 = .ok (.dmul, 1) := by decide +kernel
theorem dT_weightedRatio_9 : decode mT_weightedRatio.2.1 9 = .ok (.dload_n 2, 1) := by decide +kernel
theorem dT_weightedRatio_10 : decode mT_weightedRatio.2.1 10 = .ok (.ddiv, 1) := by decide +kernel
theorem dT_weightedRatio_11 : decode mT_weightedRatio.2.1 11 = .ok (.dreturn, 1) := by decide +kernel
theorem dT_requireGood_0 : decode mT_requireGood.2.1 0 = .ok (.dload_n 0, 1) := by decide +kernel
theorem dT_requireGood_1 : decode mT_requireGood.2.1 1 = .ok (.invokestatic 236, 3) := by decide +kernel
theorem dT_requireGood_4 : decode mT_requireGood.2.1 4 = .ok (.ifCond .ne 13, 3) := by decide +kernel
theorem dT_requireGood_7 : decode mT_requireGood.2.1 7 = .ok (.new 242, 3) := by decide +kernel
theorem dT_requireGood_10 : decode mT_requireGood.2.1 10 = .ok (.dup, 1) := by decide +kernel
theorem dT_requireGood_11 : decode mT_requireGood.2.1 11 = .ok (.ldc 244, 2) := by decide +kernel
theorem dT_requireGood_13 : decode mT_requireGood.2.1 13 = .ok (.invokespecial 246, 3) := by decide +kernel
theorem dT_requireGood_16 : decode mT_requireGood.2.1 16 = .ok (.athrow, 1) := by decide +kernel
theorem dT_requireGood_17 : decode mT_requireGood.2.1 17 = .ok (.return_, 1) := by decide +kernel
theorem dS_isGood_0 : decode mS_isGood.2.1 0 = .ok (.dload_n 0, 1) := by decide +kernel
theorem dS_isGood_1 : decode mS_isGood.2.1 1 = .ok (.ldc2_w 7, 3) := by decide +kernel
theorem dS_isGood_4 : decode mS_isGood.2.1 4 = .ok (.dcmp .l, 1) := by decide +kernel
theorem dS_isGood_5 : decode mS_isGood.2.1 5 = .ok (.ifCond .le 15, 3) := by decide +kernel
theorem dS_isGood_8 : decode mS_isGood.2.1 8 = .ok (.dload_n 0, 1) := by decide +kernel
theorem dS_isGood_9 : decode mS_isGood.2.1 9 = .ok (.ldc2_w 9, 3) := by decide +kernel
theorem dS_isGood_12 : decode mS_isGood.2.1 12 = .ok (.dcmp .g, 1) := by decide +kernel
theorem dS_isGood_13 : decode mS_isGood.2.1 13 = .ok (.ifCond .ge 7, 3) := by decide +kernel
theorem dS_isGood_16 : decode mS_isGood.2.1 16 = .ok (.iconst 1, 1) := by decide +kernel
theorem dS_isGood_17 : decode mS_isGood.2.1 17 = .ok (.goto 4, 3) := by decide +kernel
theorem dS_isGood_20 : decode mS_isGood.2.1 20 = .ok (.iconst 0, 1) := by decide +kernel
theorem dS_isGood_21 : decode mS_isGood.2.1 21 = .ok (.ireturn, 1) := by decide +kernel
theorem dW_placesOf_0 : decode mW_placesOf.2.1 0 = .ok (.iload_n 0, 1) := by decide +kernel
theorem dW_placesOf_1 : decode mW_placesOf.2.1 1 = .ok (.invokestatic 7, 3) := by decide +kernel
theorem dW_placesOf_4 : decode mW_placesOf.2.1 4 = .ok (.ifCond .eq 9, 3) := by decide +kernel
theorem dW_placesOf_7 : decode mW_placesOf.2.1 7 = .ok (.iload_n 1, 1) := by decide +kernel
theorem dW_placesOf_8 : decode mW_placesOf.2.1 8 = .ok (.iconst 1, 1) := by decide +kernel
theorem dW_placesOf_9 : decode mW_placesOf.2.1 9 = .ok (.isub, 1) := by decide +kernel
theorem dW_placesOf_10 : decode mW_placesOf.2.1 10 = .ok (.goto 9, 3) := by decide +kernel
theorem dW_placesOf_13 : decode mW_placesOf.2.1 13 = .ok (.iload_n 1, 1) := by decide +kernel
theorem dW_placesOf_14 : decode mW_placesOf.2.1 14 = .ok (.iload_n 0, 1) := by decide +kernel
theorem dW_placesOf_15 : decode mW_placesOf.2.1 15 = .ok (.invokestatic 13, 3) := by decide +kernel
theorem dW_placesOf_18 : decode mW_placesOf.2.1 18 = .ok (.isub, 1) := by decide +kernel
theorem dW_placesOf_19 : decode mW_placesOf.2.1 19 = .ok (.istore_n 2, 1) := by decide +kernel
theorem dW_placesOf_20 : decode mW_placesOf.2.1 20 = .ok (.iconst 1, 1) := by decide +kernel
theorem dW_placesOf_21 : decode mW_placesOf.2.1 21 = .ok (.iload_n 0, 1) := by decide +kernel
theorem dW_placesOf_22 : decode mW_placesOf.2.1 22 = .ok (.invokestatic 17, 3) := by decide +kernel
theorem dW_placesOf_25 : decode mW_placesOf.2.1 25 = .ok (.iconst 2, 1) := by decide +kernel
theorem dW_placesOf_26 : decode mW_placesOf.2.1 26 = .ok (.if_icmp .ne 9, 3) := by decide +kernel
theorem dW_placesOf_29 : decode mW_placesOf.2.1 29 = .ok (.iload_n 2, 1) := by decide +kernel
theorem dW_placesOf_30 : decode mW_placesOf.2.1 30 = .ok (.iconst 2, 1) := by decide +kernel
theorem dW_placesOf_31 : decode mW_placesOf.2.1 31 = .ok (.idiv, 1) := by decide +kernel
theorem dW_placesOf_32 : decode mW_placesOf.2.1 32 = .ok (.goto 4, 3) := by decide +kernel
theorem dW_placesOf_35 : decode mW_placesOf.2.1 35 = .ok (.iload_n 2, 1) := by decide +kernel
theorem dW_placesOf_36 : decode mW_placesOf.2.1 36 = .ok (.iadd, 1) := by decide +kernel
theorem dW_placesOf_37 : decode mW_placesOf.2.1 37 = .ok (.ireturn, 1) := by decide +kernel
theorem dW_stepOf_0 : decode mW_stepOf.2.1 0 = .ok (.iconst 1, 1) := by decide +kernel
theorem dW_stepOf_1 : decode mW_stepOf.2.1 1 = .ok (.iload_n 0, 1) := by decide +kernel
theorem dW_stepOf_2 : decode mW_stepOf.2.1 2 = .ok (.iconst 3, 1) := by decide +kernel
theorem dW_stepOf_3 : decode mW_stepOf.2.1 3 = .ok (.idiv, 1) := by decide +kernel
theorem dW_stepOf_4 : decode mW_stepOf.2.1 4 = .ok (.iconst 2, 1) := by decide +kernel
theorem dW_stepOf_5 : decode mW_stepOf.2.1 5 = .ok (.irem, 1) := by decide +kernel
theorem dW_stepOf_6 : decode mW_stepOf.2.1 6 = .ok (.iadd, 1) := by decide +kernel
theorem dW_stepOf_7 : decode mW_stepOf.2.1 7 = .ok (.ireturn, 1) := by decide +kernel
theorem dN_weigh_0 : decode mN_weigh.2.1 0 = .ok (.aload_n 0, 1) := by decide +kernel
theorem dN_weigh_1 : decode mN_weigh.2.1 1 = .ok (.iload_n 1, 1) := by decide +kernel
theorem dN_weigh_2 : decode mN_weigh.2.1 2 = .ok (.putfield 41, 3) := by decide +kernel
theorem dN_weigh_5 : decode mN_weigh.2.1 5 = .ok (.aload_n 0, 1) := by decide +kernel
theorem dN_weigh_6 : decode mN_weigh.2.1 6 = .ok (.dload_n 2, 1) := by decide +kernel
theorem dN_weigh_7 : decode mN_weigh.2.1 7 = .ok (.putfield 44, 3) := by decide +kernel
theorem dN_weigh_10 : decode mN_weigh.2.1 10 = .ok (.aload_n 0, 1) := by decide +kernel
theorem dN_weigh_11 : decode mN_weigh.2.1 11 = .ok (.dload 4, 2) := by decide +kernel
theorem dN_weigh_13 : decode mN_weigh.2.1 13 = .ok (.putfield 47, 3) := by decide +kernel
theorem dN_weigh_16 : decode mN_weigh.2.1 16 = .ok (.return_, 1) := by decide +kernel
theorem dL_dense_0 : decode mL_dense.2.1 0 = .ok (.aload 6, 2) := by decide +kernel
theorem dL_dense_2 : decode mL_dense.2.1 2 = .ok (.iconst 0, 1) := by decide +kernel
theorem dL_dense_3 : decode mL_dense.2.1 3 = .ok (.aload_n 0, 1) := by decide +kernel
theorem dL_dense_4 : decode mL_dense.2.1 4 = .ok (.iload_n 1, 1) := by decide +kernel
theorem dL_dense_5 : decode mL_dense.2.1 5 = .ok (.iload_n 2, 1) := by decide +kernel
theorem dL_dense_6 : decode mL_dense.2.1 6 = .ok (.iload_n 3, 1) := by decide +kernel
theorem dL_dense_7 : decode mL_dense.2.1 7 = .ok (.dload 4, 2) := by decide +kernel
theorem dL_dense_9 : decode mL_dense.2.1 9 = .ok (.invokevirtual 31, 3) := by decide +kernel
theorem dL_dense_12 : decode mL_dense.2.1 12 = .ok (.i2l, 1) := by decide +kernel
theorem dL_dense_13 : decode mL_dense.2.1 13 = .ok (.lastore, 1) := by decide +kernel
theorem dL_dense_14 : decode mL_dense.2.1 14 = .ok (.goto 15, 3) := by decide +kernel
theorem dL_dense_17 : decode mL_dense.2.1 17 = .ok (.astore 7, 2) := by decide +kernel
theorem dL_dense_19 : decode mL_dense.2.1 19 = .ok (.iconst 1, 1) := by decide +kernel
theorem dL_dense_20 : decode mL_dense.2.1 20 = .ok (.ireturn, 1) := by decide +kernel
theorem dL_dense_21 : decode mL_dense.2.1 21 = .ok (.astore 7, 2) := by decide +kernel
theorem dL_dense_23 : decode mL_dense.2.1 23 = .ok (.iconst 2, 1) := by decide +kernel
theorem dL_dense_24 : decode mL_dense.2.1 24 = .ok (.ireturn, 1) := by decide +kernel
theorem dL_dense_25 : decode mL_dense.2.1 25 = .ok (.astore 7, 2) := by decide +kernel
theorem dL_dense_27 : decode mL_dense.2.1 27 = .ok (.iconst 3, 1) := by decide +kernel
theorem dL_dense_28 : decode mL_dense.2.1 28 = .ok (.ireturn, 1) := by decide +kernel
theorem dL_dense_29 : decode mL_dense.2.1 29 = .ok (.iconst 0, 1) := by decide +kernel
theorem dL_dense_30 : decode mL_dense.2.1 30 = .ok (.ireturn, 1) := by decide +kernel
theorem dT_dense_0 : decode mT_dense.2.1 0 = .ok (.aload_n 0, 1) := by decide +kernel
theorem dT_dense_1 : decode mT_dense.2.1 1 = .ok (.iload_n 1, 1) := by decide +kernel
theorem dT_dense_2 : decode mT_dense.2.1 2 = .ok (.invokevirtual 66, 3) := by decide +kernel
theorem dT_dense_5 : decode mT_dense.2.1 5 = .ok (.iload_n 2, 1) := by decide +kernel
theorem dT_dense_6 : decode mT_dense.2.1 6 = .ok (.iconst 1, 1) := by decide +kernel
theorem dT_dense_7 : decode mT_dense.2.1 7 = .ok (.bipush 8, 2) := by decide +kernel
theorem dT_dense_9 : decode mT_dense.2.1 9 = .ok (.invokestatic 35, 3) := by decide +kernel
theorem dT_dense_12 : decode mT_dense.2.1 12 = .ok (.dload 4, 2) := by decide +kernel
theorem dT_dense_14 : decode mT_dense.2.1 14 = .ok (.invokestatic 47, 3) := by decide +kernel
theorem dT_dense_17 : decode mT_dense.2.1 17 = .ok (.aload_n 0, 1) := by decide +kernel
theorem dT_dense_18 : decode mT_dense.2.1 18 = .ok (.getfield 12, 3) := by decide +kernel
theorem dT_dense_21 : decode mT_dense.2.1 21 = .ok (.getfield 74, 3) := by decide +kernel
theorem dT_dense_24 : decode mT_dense.2.1 24 = .ok (.iload_n 1, 1) := by decide +kernel
theorem dT_dense_25 : decode mT_dense.2.1 25 = .ok (.aaload, 1) := by decide +kernel
theorem dT_dense_26 : decode mT_dense.2.1 26 = .ok (.astore 6, 2) := by decide +kernel
theorem dT_dense_28 : decode mT_dense.2.1 28 = .ok (.iload_n 3, 1) := by decide +kernel
theorem dT_dense_29 : decode mT_dense.2.1 29 = .ok (.iload_n 2, 1) := by decide +kernel
theorem dT_dense_30 : decode mT_dense.2.1 30 = .ok (.aload 6, 2) := by decide +kernel
theorem dT_dense_32 : decode mT_dense.2.1 32 = .ok (.getfield 118, 3) := by decide +kernel
theorem dT_dense_35 : decode mT_dense.2.1 35 = .ok (.invokestatic 91, 3) := by decide +kernel
theorem dT_dense_38 : decode mT_dense.2.1 38 = .ok (.aload_n 0, 1) := by decide +kernel
theorem dT_dense_39 : decode mT_dense.2.1 39 = .ok (.aload 6, 2) := by decide +kernel
theorem dT_dense_41 : decode mT_dense.2.1 41 = .ok (.dload 4, 2) := by decide +kernel
theorem dT_dense_43 : decode mT_dense.2.1 43 = .ok (.invokevirtual 94, 3) := by decide +kernel
theorem dT_dense_46 : decode mT_dense.2.1 46 = .ok (.dstore 7, 2) := by decide +kernel
theorem dT_dense_48 : decode mT_dense.2.1 48 = .ok (.dload 7, 2) := by decide +kernel
theorem dT_dense_50 : decode mT_dense.2.1 50 = .ok (.invokestatic 98, 3) := by decide +kernel
theorem dT_dense_53 : decode mT_dense.2.1 53 = .ok (.aload_n 0, 1) := by decide +kernel
theorem dT_dense_54 : decode mT_dense.2.1 54 = .ok (.invokevirtual 54, 3) := by decide +kernel
theorem dT_dense_57 : decode mT_dense.2.1 57 = .ok (.new 57, 3) := by decide +kernel
theorem dT_dense_60 : decode mT_dense.2.1 60 = .ok (.dup, 1) := by decide +kernel
theorem dT_dense_61 : decode mT_dense.2.1 61 = .ok (.iconst 3, 1) := by decide +kernel
theorem dT_dense_62 : decode mT_dense.2.1 62 = .ok (.iload_n 1, 1) := by decide +kernel
theorem dT_dense_63 : decode mT_dense.2.1 63 = .ok (.iconst (-1), 1) := by decide +kernel
theorem dT_dense_64 : decode mT_dense.2.1 64 = .ok (.iconst 1, 1) := by decide +kernel
theorem dT_dense_65 : decode mT_dense.2.1 65 = .ok (.iconst 1, 1) := by decide +kernel
theorem dT_dense_66 : decode mT_dense.2.1 66 = .ok (.iload_n 2, 1) := by decide +kernel
theorem dT_dense_67 : decode mT_dense.2.1 67 = .ok (.dload 4, 2) := by decide +kernel
theorem dT_dense_69 : decode mT_dense.2.1 69 = .ok (.invokespecial 59, 3) := by decide +kernel
theorem dT_dense_72 : decode mT_dense.2.1 72 = .ok (.astore 9, 2) := by decide +kernel
theorem dT_dense_74 : decode mT_dense.2.1 74 = .ok (.aload 9, 2) := by decide +kernel
theorem dT_dense_76 : decode mT_dense.2.1 76 = .ok (.iload_n 3, 1) := by decide +kernel
theorem dT_dense_77 : decode mT_dense.2.1 77 = .ok (.aload_n 0, 1) := by decide +kernel
theorem dT_dense_78 : decode mT_dense.2.1 78 = .ok (.getfield 23, 3) := by decide +kernel
theorem dT_dense_81 : decode mT_dense.2.1 81 = .ok (.dload 7, 2) := by decide +kernel
theorem dT_dense_83 : decode mT_dense.2.1 83 = .ok (.invokevirtual 114, 3) := by decide +kernel
theorem dT_dense_86 : decode mT_dense.2.1 86 = .ok (.aload_n 0, 1) := by decide +kernel
theorem dT_dense_87 : decode mT_dense.2.1 87 = .ok (.aload 9, 2) := by decide +kernel
theorem dT_dense_89 : decode mT_dense.2.1 89 = .ok (.invokevirtual 62, 3) := by decide +kernel
theorem dT_dense_92 : decode mT_dense.2.1 92 = .ok (.ireturn, 1) := by decide +kernel
theorem dL_add_0 : decode mL_add.2.1 0 = .ok (.aload 5, 2) := by decide +kernel
theorem dL_add_2 : decode mL_add.2.1 2 = .ok (.iconst 0, 1) := by decide +kernel
theorem dL_add_3 : decode mL_add.2.1 3 = .ok (.aload_n 0, 1) := by decide +kernel
theorem dL_add_4 : decode mL_add.2.1 4 = .ok (.iload_n 1, 1) := by decide +kernel
theorem dL_add_5 : decode mL_add.2.1 5 = .ok (.iload_n 2, 1) := by decide +kernel
theorem dL_add_6 : decode mL_add.2.1 6 = .ok (.dload_n 3, 1) := by decide +kernel
theorem dL_add_7 : decode mL_add.2.1 7 = .ok (.invokevirtual 34, 3) := by decide +kernel
theorem dL_add_10 : decode mL_add.2.1 10 = .ok (.i2l, 1) := by decide +kernel
theorem dL_add_11 : decode mL_add.2.1 11 = .ok (.lastore, 1) := by decide +kernel
theorem dL_add_12 : decode mL_add.2.1 12 = .ok (.goto 15, 3) := by decide +kernel
theorem dL_add_15 : decode mL_add.2.1 15 = .ok (.astore 6, 2) := by decide +kernel
theorem dL_add_17 : decode mL_add.2.1 17 = .ok (.iconst 1, 1) := by decide +kernel
theorem dL_add_18 : decode mL_add.2.1 18 = .ok (.ireturn, 1) := by decide +kernel
theorem dL_add_19 : decode mL_add.2.1 19 = .ok (.astore 6, 2) := by decide +kernel
theorem dL_add_21 : decode mL_add.2.1 21 = .ok (.iconst 2, 1) := by decide +kernel
theorem dL_add_22 : decode mL_add.2.1 22 = .ok (.ireturn, 1) := by decide +kernel
theorem dL_add_23 : decode mL_add.2.1 23 = .ok (.astore 6, 2) := by decide +kernel
theorem dL_add_25 : decode mL_add.2.1 25 = .ok (.iconst 3, 1) := by decide +kernel
theorem dL_add_26 : decode mL_add.2.1 26 = .ok (.ireturn, 1) := by decide +kernel
theorem dL_add_27 : decode mL_add.2.1 27 = .ok (.iconst 0, 1) := by decide +kernel
theorem dL_add_28 : decode mL_add.2.1 28 = .ok (.ireturn, 1) := by decide +kernel
theorem dT_add_0 : decode mT_add.2.1 0 = .ok (.aload_n 0, 1) := by decide +kernel
theorem dT_add_1 : decode mT_add.2.1 1 = .ok (.iload_n 1, 1) := by decide +kernel
theorem dT_add_2 : decode mT_add.2.1 2 = .ok (.invokevirtual 66, 3) := by decide +kernel
theorem dT_add_5 : decode mT_add.2.1 5 = .ok (.aload_n 0, 1) := by decide +kernel
theorem dT_add_6 : decode mT_add.2.1 6 = .ok (.iload_n 2, 1) := by decide +kernel
theorem dT_add_7 : decode mT_add.2.1 7 = .ok (.invokevirtual 66, 3) := by decide +kernel
theorem dT_add_10 : decode mT_add.2.1 10 = .ok (.dload_n 3, 1) := by decide +kernel
theorem dT_add_11 : decode mT_add.2.1 11 = .ok (.invokestatic 47, 3) := by decide +kernel
theorem dT_add_14 : decode mT_add.2.1 14 = .ok (.aload_n 0, 1) := by decide +kernel
theorem dT_add_15 : decode mT_add.2.1 15 = .ok (.getfield 12, 3) := by decide +kernel
theorem dT_add_18 : decode mT_add.2.1 18 = .ok (.getfield 74, 3) := by decide +kernel
theorem dT_add_21 : decode mT_add.2.1 21 = .ok (.iload_n 1, 1) := by decide +kernel
theorem dT_add_22 : decode mT_add.2.1 22 = .ok (.aaload, 1) := by decide +kernel
theorem dT_add_23 : decode mT_add.2.1 23 = .ok (.astore 5, 2) := by decide +kernel
theorem dT_add_25 : decode mT_add.2.1 25 = .ok (.aload_n 0, 1) := by decide +kernel
theorem dT_add_26 : decode mT_add.2.1 26 = .ok (.getfield 12, 3) := by decide +kernel
theorem dT_add_29 : decode mT_add.2.1 29 = .ok (.getfield 74, 3) := by decide +kernel
theorem dT_add_32 : decode mT_add.2.1 32 = .ok (.iload_n 2, 1) := by decide +kernel
theorem dT_add_33 : decode mT_add.2.1 33 = .ok (.aaload, 1) := by decide +kernel
theorem dT_add_34 : decode mT_add.2.1 34 = .ok (.astore 6, 2) := by decide +kernel
theorem dT_add_36 : decode mT_add.2.1 36 = .ok (.aload 6, 2) := by decide +kernel
theorem dT_add_38 : decode mT_add.2.1 38 = .ok (.aload 5, 2) := by decide +kernel
theorem dT_add_40 : decode mT_add.2.1 40 = .ok (.getfield 101, 3) := by decide +kernel
theorem dT_add_43 : decode mT_add.2.1 43 = .ok (.aload 5, 2) := by decide +kernel
theorem dT_add_45 : decode mT_add.2.1 45 = .ok (.getfield 108, 3) := by decide +kernel
theorem dT_add_48 : decode mT_add.2.1 48 = .ok (.aload 5, 2) := by decide +kernel
theorem dT_add_50 : decode mT_add.2.1 50 = .ok (.getfield 88, 3) := by decide +kernel
theorem dT_add_53 : decode mT_add.2.1 53 = .ok (.invokevirtual 121, 3) := by decide +kernel
theorem dT_add_56 : decode mT_add.2.1 56 = .ok (.invokestatic 125, 3) := by decide +kernel
theorem dT_add_59 : decode mT_add.2.1 59 = .ok (.aload 5, 2) := by decide +kernel
theorem dT_add_61 : decode mT_add.2.1 61 = .ok (.getfield 129, 3) := by decide +kernel
theorem dT_add_64 : decode mT_add.2.1 64 = .ok (.dload_n 3, 1) := by decide +kernel
theorem dT_add_65 : decode mT_add.2.1 65 = .ok (.ddiv, 1) := by decide +kernel
theorem dT_add_66 : decode mT_add.2.1 66 = .ok (.dstore 7, 2) := by decide +kernel
theorem dT_add_68 : decode mT_add.2.1 68 = .ok (.aload 6, 2) := by decide +kernel
theorem dT_add_70 : decode mT_add.2.1 70 = .ok (.getfield 129, 3) := by decide +kernel
theorem dT_add_73 : decode mT_add.2.1 73 = .ok (.dload_n 3, 1) := by decide +kernel
theorem dT_add_74 : decode mT_add.2.1 74 = .ok (.ddiv, 1) := by decide +kernel
theorem dT_add_75 : decode mT_add.2.1 75 = .ok (.dstore 9, 2) := by decide +kernel
theorem dT_add_77 : decode mT_add.2.1 77 = .ok (.dload 7, 2) := by decide +kernel
theorem dT_add_79 : decode mT_add.2.1 79 = .ok (.invokestatic 98, 3) := by decide +kernel
theorem dT_add_82 : decode mT_add.2.1 82 = .ok (.dload 9, 2) := by decide +kernel
theorem dT_add_84 : decode mT_add.2.1 84 = .ok (.invokestatic 98, 3) := by decide +kernel
theorem dT_add_87 : decode mT_add.2.1 87 = .ok (.aload_n 0, 1) := by decide +kernel
theorem dT_add_88 : decode mT_add.2.1 88 = .ok (.invokevirtual 54, 3) := by decide +kernel
theorem dT_add_91 : decode mT_add.2.1 91 = .ok (.new 57, 3) := by decide +kernel
theorem dT_add_94 : decode mT_add.2.1 94 = .ok (.dup, 1) := by decide +kernel
theorem dT_add_95 : decode mT_add.2.1 95 = .ok (.iconst 4, 1) := by decide +kernel
theorem dT_add_96 : decode mT_add.2.1 96 = .ok (.iload_n 1, 1) := by decide +kernel
theorem dT_add_97 : decode mT_add.2.1 97 = .ok (.iload_n 2, 1) := by decide +kernel
theorem dT_add_98 : decode mT_add.2.1 98 = .ok (.aload 5, 2) := by decide +kernel
theorem dT_add_100 : decode mT_add.2.1 100 = .ok (.getfield 101, 3) := by decide +kernel
theorem dT_add_103 : decode mT_add.2.1 103 = .ok (.aload 5, 2) := by decide +kernel
theorem dT_add_105 : decode mT_add.2.1 105 = .ok (.getfield 108, 3) := by decide +kernel
theorem dT_add_108 : decode mT_add.2.1 108 = .ok (.aload 5, 2) := by decide +kernel
theorem dT_add_110 : decode mT_add.2.1 110 = .ok (.getfield 88, 3) := by decide +kernel
theorem dT_add_113 : decode mT_add.2.1 113 = .ok (.dload_n 3, 1) := by decide +kernel
theorem dT_add_114 : decode mT_add.2.1 114 = .ok (.invokespecial 59, 3) := by decide +kernel
theorem dT_add_117 : decode mT_add.2.1 117 = .ok (.astore 11, 2) := by decide +kernel
theorem dT_add_119 : decode mT_add.2.1 119 = .ok (.aload 11, 2) := by decide +kernel
theorem dT_add_121 : decode mT_add.2.1 121 = .ok (.dload 7, 2) := by decide +kernel
theorem dT_add_123 : decode mT_add.2.1 123 = .ok (.putfield 132, 3) := by decide +kernel
theorem dT_add_126 : decode mT_add.2.1 126 = .ok (.aload 11, 2) := by decide +kernel
theorem dT_add_128 : decode mT_add.2.1 128 = .ok (.dload 9, 2) := by decide +kernel
theorem dT_add_130 : decode mT_add.2.1 130 = .ok (.putfield 135, 3) := by decide +kernel
theorem dT_add_133 : decode mT_add.2.1 133 = .ok (.aload_n 0, 1) := by decide +kernel
theorem dT_add_134 : decode mT_add.2.1 134 = .ok (.aload 11, 2) := by decide +kernel
theorem dT_add_136 : decode mT_add.2.1 136 = .ok (.invokevirtual 62, 3) := by decide +kernel
theorem dT_add_139 : decode mT_add.2.1 139 = .ok (.ireturn, 1) := by decide +kernel
theorem dN_hasShape_0 : decode mN_hasShape.2.1 0 = .ok (.aload_n 0, 1) := by decide +kernel
theorem dN_hasShape_1 : decode mN_hasShape.2.1 1 = .ok (.getfield 21, 3) := by decide +kernel
theorem dN_hasShape_4 : decode mN_hasShape.2.1 4 = .ok (.iload_n 1, 1) := by decide +kernel
theorem dN_hasShape_5 : decode mN_hasShape.2.1 5 = .ok (.if_icmp .ne 23, 3) := by decide +kernel
theorem dN_hasShape_8 : decode mN_hasShape.2.1 8 = .ok (.aload_n 0, 1) := by decide +kernel
theorem dN_hasShape_9 : decode mN_hasShape.2.1 9 = .ok (.getfield 24, 3) := by decide +kernel
theorem dN_hasShape_12 : decode mN_hasShape.2.1 12 = .ok (.iload_n 2, 1) := by decide +kernel
theorem dN_hasShape_13 : decode mN_hasShape.2.1 13 = .ok (.if_icmp .ne 15, 3) := by decide +kernel
theorem dN_hasShape_16 : decode mN_hasShape.2.1 16 = .ok (.aload_n 0, 1) := by decide +kernel
theorem dN_hasShape_17 : decode mN_hasShape.2.1 17 = .ok (.getfield 27, 3) := by decide +kernel
theorem dN_hasShape_20 : decode mN_hasShape.2.1 20 = .ok (.iload_n 3, 1) := by decide +kernel
theorem dN_hasShape_21 : decode mN_hasShape.2.1 21 = .ok (.if_icmp .ne 7, 3) := by decide +kernel
theorem dN_hasShape_24 : decode mN_hasShape.2.1 24 = .ok (.iconst 1, 1) := by decide +kernel
theorem dN_hasShape_25 : decode mN_hasShape.2.1 25 = .ok (.goto 4, 3) := by decide +kernel
theorem dN_hasShape_28 : decode mN_hasShape.2.1 28 = .ok (.iconst 0, 1) := by decide +kernel
theorem dN_hasShape_29 : decode mN_hasShape.2.1 29 = .ok (.ireturn, 1) := by decide +kernel
theorem dL_concat_0 : decode mL_concat.2.1 0 = .ok (.aload_n 3, 1) := by decide +kernel
theorem dL_concat_1 : decode mL_concat.2.1 1 = .ok (.iconst 0, 1) := by decide +kernel
theorem dL_concat_2 : decode mL_concat.2.1 2 = .ok (.aload_n 0, 1) := by decide +kernel
theorem dL_concat_3 : decode mL_concat.2.1 3 = .ok (.iload_n 1, 1) := by decide +kernel
theorem dL_concat_4 : decode mL_concat.2.1 4 = .ok (.iload_n 2, 1) := by decide +kernel
theorem dL_concat_5 : decode mL_concat.2.1 5 = .ok (.invokevirtual 38, 3) := by decide +kernel
theorem dL_concat_8 : decode mL_concat.2.1 8 = .ok (.i2l, 1) := by decide +kernel
theorem dL_concat_9 : decode mL_concat.2.1 9 = .ok (.lastore, 1) := by decide +kernel
theorem dL_concat_10 : decode mL_concat.2.1 10 = .ok (.goto 11, 3) := by decide +kernel
theorem dL_concat_13 : decode mL_concat.2.1 13 = .ok (.astore 4, 2) := by decide +kernel
theorem dL_concat_15 : decode mL_concat.2.1 15 = .ok (.iconst 1, 1) := by decide +kernel
theorem dL_concat_16 : decode mL_concat.2.1 16 = .ok (.ireturn, 1) := by decide +kernel
theorem dL_concat_17 : decode mL_concat.2.1 17 = .ok (.astore 4, 2) := by decide +kernel
theorem dL_concat_19 : decode mL_concat.2.1 19 = .ok (.iconst 2, 1) := by decide +kernel
theorem dL_concat_20 : decode mL_concat.2.1 20 = .ok (.ireturn, 1) := by decide +kernel
theorem dL_concat_21 : decode mL_concat.2.1 21 = .ok (.iconst 0, 1) := by decide +kernel
theorem dL_concat_22 : decode mL_concat.2.1 22 = .ok (.ireturn, 1) := by decide +kernel
theorem dT_concat_0 : decode mT_concat.2.1 0 = .ok (.aload_n 0, 1) := by decide +kernel
theorem dT_concat_1 : decode mT_concat.2.1 1 = .ok (.iload_n 1, 1) := by decide +kernel
theorem dT_concat_2 : decode mT_concat.2.1 2 = .ok (.invokevirtual 66, 3) := by decide +kernel
theorem dT_concat_5 : decode mT_concat.2.1 5 = .ok (.aload_n 0, 1) := by decide +kernel
theorem dT_concat_6 : decode mT_concat.2.1 6 = .ok (.iload_n 2, 1) := by decide +kernel
theorem dT_concat_7 : decode mT_concat.2.1 7 = .ok (.invokevirtual 66, 3) := by decide +kernel
theorem dT_concat_10 : decode mT_concat.2.1 10 = .ok (.aload_n 0, 1) := by decide +kernel
theorem dT_concat_11 : decode mT_concat.2.1 11 = .ok (.getfield 12, 3) := by decide +kernel
theorem dT_concat_14 : decode mT_concat.2.1 14 = .ok (.getfield 74, 3) := by decide +kernel
theorem dT_concat_17 : decode mT_concat.2.1 17 = .ok (.iload_n 1, 1) := by decide +kernel
theorem dT_concat_18 : decode mT_concat.2.1 18 = .ok (.aaload, 1) := by decide +kernel
theorem dT_concat_19 : decode mT_concat.2.1 19 = .ok (.astore_n 3, 1) := by decide +kernel
theorem dT_concat_20 : decode mT_concat.2.1 20 = .ok (.aload_n 0, 1) := by decide +kernel
theorem dT_concat_21 : decode mT_concat.2.1 21 = .ok (.getfield 12, 3) := by decide +kernel
theorem dT_concat_24 : decode mT_concat.2.1 24 = .ok (.getfield 74, 3) := by decide +kernel
theorem dT_concat_27 : decode mT_concat.2.1 27 = .ok (.iload_n 2, 1) := by decide +kernel
theorem dT_concat_28 : decode mT_concat.2.1 28 = .ok (.aaload, 1) := by decide +kernel
theorem dT_concat_29 : decode mT_concat.2.1 29 = .ok (.astore 4, 2) := by decide +kernel
theorem dT_concat_31 : decode mT_concat.2.1 31 = .ok (.aload_n 3, 1) := by decide +kernel
theorem dT_concat_32 : decode mT_concat.2.1 32 = .ok (.getfield 101, 3) := by decide +kernel
theorem dT_concat_35 : decode mT_concat.2.1 35 = .ok (.aload 4, 2) := by decide +kernel
theorem dT_concat_37 : decode mT_concat.2.1 37 = .ok (.getfield 101, 3) := by decide +kernel
theorem dT_concat_40 : decode mT_concat.2.1 40 = .ok (.if_icmp .ne 32, 3) := by decide +kernel
theorem dT_concat_43 : decode mT_concat.2.1 43 = .ok (.aload_n 3, 1) := by decide +kernel
theorem dT_concat_44 : decode mT_concat.2.1 44 = .ok (.getfield 108, 3) := by decide +kernel
theorem dT_concat_47 : decode mT_concat.2.1 47 = .ok (.aload 4, 2) := by decide +kernel
theorem dT_concat_49 : decode mT_concat.2.1 49 = .ok (.getfield 108, 3) := by decide +kernel
theorem dT_concat_52 : decode mT_concat.2.1 52 = .ok (.if_icmp .ne 20, 3) := by decide +kernel
theorem dT_concat_55 : decode mT_concat.2.1 55 = .ok (.aload_n 3, 1) := by decide +kernel
theorem dT_concat_56 : decode mT_concat.2.1 56 = .ok (.getfield 129, 3) := by decide +kernel
theorem dT_concat_59 : decode mT_concat.2.1 59 = .ok (.aload 4, 2) := by decide +kernel
theorem dT_concat_61 : decode mT_concat.2.1 61 = .ok (.getfield 129, 3) := by decide +kernel
theorem dT_concat_64 : decode mT_concat.2.1 64 = .ok (.dcmp .l, 1) := by decide +kernel
theorem dT_concat_65 : decode mT_concat.2.1 65 = .ok (.ifCond .ne 7, 3) := by decide +kernel
theorem dT_concat_68 : decode mT_concat.2.1 68 = .ok (.iconst 1, 1) := by decide +kernel
theorem dT_concat_69 : decode mT_concat.2.1 69 = .ok (.goto 4, 3) := by decide +kernel
theorem dT_concat_72 : decode mT_concat.2.1 72 = .ok (.iconst 0, 1) := by decide +kernel
theorem dT_concat_73 : decode mT_concat.2.1 73 = .ok (.invokestatic 125, 3) := by decide +kernel
theorem dT_concat_76 : decode mT_concat.2.1 76 = .ok (.aload_n 3, 1) := by decide +kernel
theorem dT_concat_77 : decode mT_concat.2.1 77 = .ok (.getfield 88, 3) := by decide +kernel
theorem dT_concat_80 : decode mT_concat.2.1 80 = .ok (.aload 4, 2) := by decide +kernel
theorem dT_concat_82 : decode mT_concat.2.1 82 = .ok (.getfield 88, 3) := by decide +kernel
theorem dT_concat_85 : decode mT_concat.2.1 85 = .ok (.iadd, 1) := by decide +kernel
theorem dT_concat_86 : decode mT_concat.2.1 86 = .ok (.istore 5, 2) := by decide +kernel
theorem dT_concat_88 : decode mT_concat.2.1 88 = .ok (.iload 5, 2) := by decide +kernel
theorem dT_concat_90 : decode mT_concat.2.1 90 = .ok (.iconst 1, 1) := by decide +kernel
theorem dT_concat_91 : decode mT_concat.2.1 91 = .ok (.bipush 8, 2) := by decide +kernel
theorem dT_concat_93 : decode mT_concat.2.1 93 = .ok (.invokestatic 35, 3) := by decide +kernel
theorem dT_concat_96 : decode mT_concat.2.1 96 = .ok (.aload_n 0, 1) := by decide +kernel
theorem dT_concat_97 : decode mT_concat.2.1 97 = .ok (.invokevirtual 54, 3) := by decide +kernel
theorem dT_concat_100 : decode mT_concat.2.1 100 = .ok (.aload_n 0, 1) := by decide +kernel
theorem dT_concat_101 : decode mT_concat.2.1 101 = .ok (.new 57, 3) := by decide +kernel
theorem dT_concat_104 : decode mT_concat.2.1 104 = .ok (.dup, 1) := by decide +kernel
theorem dT_concat_105 : decode mT_concat.2.1 105 = .ok (.iconst 5, 1) := by decide +kernel
theorem dT_concat_106 : decode mT_concat.2.1 106 = .ok (.iload_n 1, 1) := by decide +kernel
theorem dT_concat_107 : decode mT_concat.2.1 107 = .ok (.iload_n 2, 1) := by decide +kernel
theorem dT_concat_108 : decode mT_concat.2.1 108 = .ok (.aload_n 3, 1) := by decide +kernel
theorem dT_concat_109 : decode mT_concat.2.1 109 = .ok (.getfield 101, 3) := by decide +kernel
theorem dT_concat_112 : decode mT_concat.2.1 112 = .ok (.aload_n 3, 1) := by decide +kernel
theorem dT_concat_113 : decode mT_concat.2.1 113 = .ok (.getfield 108, 3) := by decide +kernel
theorem dT_concat_116 : decode mT_concat.2.1 116 = .ok (.iload 5, 2) := by decide +kernel
theorem dT_concat_118 : decode mT_concat.2.1 118 = .ok (.aload_n 3, 1) := by decide +kernel
theorem dT_concat_119 : decode mT_concat.2.1 119 = .ok (.getfield 129, 3) := by decide +kernel
theorem dT_concat_122 : decode mT_concat.2.1 122 = .ok (.invokespecial 59, 3) := by decide +kernel
theorem dT_concat_125 : decode mT_concat.2.1 125 = .ok (.invokevirtual 62, 3) := by decide +kernel
theorem dT_concat_128 : decode mT_concat.2.1 128 = .ok (.ireturn, 1) := by decide +kernel
theorem dL_reshape_0 : decode mL_reshape.2.1 0 = .ok (.aload 5, 2) := by decide +kernel
theorem dL_reshape_2 : decode mL_reshape.2.1 2 = .ok (.iconst 0, 1) := by decide +kernel
theorem dL_reshape_3 : decode mL_reshape.2.1 3 = .ok (.aload_n 0, 1) := by decide +kernel
theorem dL_reshape_4 : decode mL_reshape.2.1 4 = .ok (.iload_n 1, 1) := by decide +kernel
theorem dL_reshape_5 : decode mL_reshape.2.1 5 = .ok (.iload_n 2, 1) := by decide +kernel
theorem dL_reshape_6 : decode mL_reshape.2.1 6 = .ok (.iload_n 3, 1) := by decide +kernel
theorem dL_reshape_7 : decode mL_reshape.2.1 7 = .ok (.iload 4, 2) := by decide +kernel
theorem dL_reshape_9 : decode mL_reshape.2.1 9 = .ok (.invokevirtual 42, 3) := by decide +kernel
theorem dL_reshape_12 : decode mL_reshape.2.1 12 = .ok (.i2l, 1) := by decide +kernel
theorem dL_reshape_13 : decode mL_reshape.2.1 13 = .ok (.lastore, 1) := by decide +kernel
theorem dL_reshape_14 : decode mL_reshape.2.1 14 = .ok (.goto 11, 3) := by decide +kernel
theorem dL_reshape_17 : decode mL_reshape.2.1 17 = .ok (.astore 6, 2) := by decide +kernel
theorem dL_reshape_19 : decode mL_reshape.2.1 19 = .ok (.iconst 1, 1) := by decide +kernel
theorem dL_reshape_20 : decode mL_reshape.2.1 20 = .ok (.ireturn, 1) := by decide +kernel
theorem dL_reshape_21 : decode mL_reshape.2.1 21 = .ok (.astore 6, 2) := by decide +kernel
theorem dL_reshape_23 : decode mL_reshape.2.1 23 = .ok (.iconst 2, 1) := by decide +kernel
theorem dL_reshape_24 : decode mL_reshape.2.1 24 = .ok (.ireturn, 1) := by decide +kernel
theorem dL_reshape_25 : decode mL_reshape.2.1 25 = .ok (.iconst 0, 1) := by decide +kernel
theorem dL_reshape_26 : decode mL_reshape.2.1 26 = .ok (.ireturn, 1) := by decide +kernel
theorem dT_reshape_0 : decode mT_reshape.2.1 0 = .ok (.aload_n 0, 1) := by decide +kernel
theorem dT_reshape_1 : decode mT_reshape.2.1 1 = .ok (.iload_n 1, 1) := by decide +kernel
theorem dT_reshape_2 : decode mT_reshape.2.1 2 = .ok (.invokevirtual 66, 3) := by decide +kernel
theorem dT_reshape_5 : decode mT_reshape.2.1 5 = .ok (.iload_n 2, 1) := by decide +kernel
theorem dT_reshape_6 : decode mT_reshape.2.1 6 = .ok (.iload_n 3, 1) := by decide +kernel
theorem dT_reshape_7 : decode mT_reshape.2.1 7 = .ok (.iload 4, 2) := by decide +kernel
theorem dT_reshape_9 : decode mT_reshape.2.1 9 = .ok (.invokestatic 51, 3) := by decide +kernel
theorem dT_reshape_12 : decode mT_reshape.2.1 12 = .ok (.aload_n 0, 1) := by decide +kernel
theorem dT_reshape_13 : decode mT_reshape.2.1 13 = .ok (.getfield 12, 3) := by decide +kernel
theorem dT_reshape_16 : decode mT_reshape.2.1 16 = .ok (.getfield 74, 3) := by decide +kernel
theorem dT_reshape_19 : decode mT_reshape.2.1 19 = .ok (.iload_n 1, 1) := by decide +kernel
theorem dT_reshape_20 : decode mT_reshape.2.1 20 = .ok (.aaload, 1) := by decide +kernel
theorem dT_reshape_21 : decode mT_reshape.2.1 21 = .ok (.astore 5, 2) := by decide +kernel
theorem dT_reshape_23 : decode mT_reshape.2.1 23 = .ok (.iload_n 2, 1) := by decide +kernel
theorem dT_reshape_24 : decode mT_reshape.2.1 24 = .ok (.iload_n 3, 1) := by decide +kernel
theorem dT_reshape_25 : decode mT_reshape.2.1 25 = .ok (.imul, 1) := by decide +kernel
theorem dT_reshape_26 : decode mT_reshape.2.1 26 = .ok (.iload 4, 2) := by decide +kernel
theorem dT_reshape_28 : decode mT_reshape.2.1 28 = .ok (.imul, 1) := by decide +kernel
theorem dT_reshape_29 : decode mT_reshape.2.1 29 = .ok (.aload 5, 2) := by decide +kernel
theorem dT_reshape_31 : decode mT_reshape.2.1 31 = .ok (.getfield 118, 3) := by decide +kernel
theorem dT_reshape_34 : decode mT_reshape.2.1 34 = .ok (.if_icmp .ne 7, 3) := by decide +kernel
theorem dT_reshape_37 : decode mT_reshape.2.1 37 = .ok (.iconst 1, 1) := by decide +kernel
theorem dT_reshape_38 : decode mT_reshape.2.1 38 = .ok (.goto 4, 3) := by decide +kernel
theorem dT_reshape_41 : decode mT_reshape.2.1 41 = .ok (.iconst 0, 1) := by decide +kernel
theorem dT_reshape_42 : decode mT_reshape.2.1 42 = .ok (.invokestatic 125, 3) := by decide +kernel
theorem dT_reshape_45 : decode mT_reshape.2.1 45 = .ok (.aload_n 0, 1) := by decide +kernel
theorem dT_reshape_46 : decode mT_reshape.2.1 46 = .ok (.invokevirtual 54, 3) := by decide +kernel
theorem dT_reshape_49 : decode mT_reshape.2.1 49 = .ok (.aload_n 0, 1) := by decide +kernel
theorem dT_reshape_50 : decode mT_reshape.2.1 50 = .ok (.new 57, 3) := by decide +kernel
theorem dT_reshape_53 : decode mT_reshape.2.1 53 = .ok (.dup, 1) := by decide +kernel
theorem dT_reshape_54 : decode mT_reshape.2.1 54 = .ok (.bipush 6, 2) := by decide +kernel
theorem dT_reshape_56 : decode mT_reshape.2.1 56 = .ok (.iload_n 1, 1) := by decide +kernel
theorem dT_reshape_57 : decode mT_reshape.2.1 57 = .ok (.iconst (-1), 1) := by decide +kernel
theorem dT_reshape_58 : decode mT_reshape.2.1 58 = .ok (.iload_n 2, 1) := by decide +kernel
theorem dT_reshape_59 : decode mT_reshape.2.1 59 = .ok (.iload_n 3, 1) := by decide +kernel
theorem dT_reshape_60 : decode mT_reshape.2.1 60 = .ok (.iload 4, 2) := by decide +kernel
theorem dT_reshape_62 : decode mT_reshape.2.1 62 = .ok (.aload 5, 2) := by decide +kernel
theorem dT_reshape_64 : decode mT_reshape.2.1 64 = .ok (.getfield 129, 3) := by decide +kernel
theorem dT_reshape_67 : decode mT_reshape.2.1 67 = .ok (.invokespecial 59, 3) := by decide +kernel
theorem dT_reshape_70 : decode mT_reshape.2.1 70 = .ok (.invokevirtual 62, 3) := by decide +kernel
theorem dT_reshape_73 : decode mT_reshape.2.1 73 = .ok (.ireturn, 1) := by decide +kernel
theorem dL_pool_0 : decode mL_pool.2.1 0 = .ok (.aload 4, 2) := by decide +kernel
theorem dL_pool_2 : decode mL_pool.2.1 2 = .ok (.iconst 0, 1) := by decide +kernel
theorem dL_pool_3 : decode mL_pool.2.1 3 = .ok (.aload_n 0, 1) := by decide +kernel
theorem dL_pool_4 : decode mL_pool.2.1 4 = .ok (.iload_n 1, 1) := by decide +kernel
theorem dL_pool_5 : decode mL_pool.2.1 5 = .ok (.iload_n 2, 1) := by decide +kernel
theorem dL_pool_6 : decode mL_pool.2.1 6 = .ok (.iload_n 3, 1) := by decide +kernel
theorem dL_pool_7 : decode mL_pool.2.1 7 = .ok (.invokevirtual 46, 3) := by decide +kernel
theorem dL_pool_10 : decode mL_pool.2.1 10 = .ok (.i2l, 1) := by decide +kernel
theorem dL_pool_11 : decode mL_pool.2.1 11 = .ok (.lastore, 1) := by decide +kernel
theorem dL_pool_12 : decode mL_pool.2.1 12 = .ok (.goto 11, 3) := by decide +kernel
theorem dL_pool_15 : decode mL_pool.2.1 15 = .ok (.astore 5, 2) := by decide +kernel
theorem dL_pool_17 : decode mL_pool.2.1 17 = .ok (.iconst 1, 1) := by decide +kernel
theorem dL_pool_18 : decode mL_pool.2.1 18 = .ok (.ireturn, 1) := by decide +kernel
theorem dL_pool_19 : decode mL_pool.2.1 19 = .ok (.astore 5, 2) := by decide +kernel
theorem dL_pool_21 : decode mL_pool.2.1 21 = .ok (.iconst 2, 1) := by decide +kernel
theorem dL_pool_22 : decode mL_pool.2.1 22 = .ok (.ireturn, 1) := by decide +kernel
theorem dL_pool_23 : decode mL_pool.2.1 23 = .ok (.iconst 0, 1) := by decide +kernel
theorem dL_pool_24 : decode mL_pool.2.1 24 = .ok (.ireturn, 1) := by decide +kernel
theorem dT_pool_0 : decode mT_pool.2.1 0 = .ok (.aload_n 0, 1) := by decide +kernel
theorem dT_pool_1 : decode mT_pool.2.1 1 = .ok (.iload_n 1, 1) := by decide +kernel
theorem dT_pool_2 : decode mT_pool.2.1 2 = .ok (.invokevirtual 66, 3) := by decide +kernel
theorem dT_pool_5 : decode mT_pool.2.1 5 = .ok (.iload_n 2, 1) := by decide +kernel
theorem dT_pool_6 : decode mT_pool.2.1 6 = .ok (.iconst 0, 1) := by decide +kernel
theorem dT_pool_7 : decode mT_pool.2.1 7 = .ok (.bipush 11, 2) := by decide +kernel
theorem dT_pool_9 : decode mT_pool.2.1 9 = .ok (.invokestatic 35, 3) := by decide +kernel
theorem dT_pool_12 : decode mT_pool.2.1 12 = .ok (.aload_n 0, 1) := by decide +kernel
theorem dT_pool_13 : decode mT_pool.2.1 13 = .ok (.getfield 12, 3) := by decide +kernel
theorem dT_pool_16 : decode mT_pool.2.1 16 = .ok (.getfield 74, 3) := by decide +kernel
theorem dT_pool_19 : decode mT_pool.2.1 19 = .ok (.iload_n 1, 1) := by decide +kernel
theorem dT_pool_20 : decode mT_pool.2.1 20 = .ok (.aaload, 1) := by decide +kernel
theorem dT_pool_21 : decode mT_pool.2.1 21 = .ok (.astore 4, 2) := by decide +kernel
theorem dT_pool_23 : decode mT_pool.2.1 23 = .ok (.aload 4, 2) := by decide +kernel
theorem dT_pool_25 : decode mT_pool.2.1 25 = .ok (.iload_n 2, 1) := by decide +kernel
theorem dT_pool_26 : decode mT_pool.2.1 26 = .ok (.invokestatic 78, 3) := by decide +kernel
theorem dT_pool_29 : decode mT_pool.2.1 29 = .ok (.aload_n 0, 1) := by decide +kernel
theorem dT_pool_30 : decode mT_pool.2.1 30 = .ok (.invokevirtual 54, 3) := by decide +kernel
theorem dT_pool_33 : decode mT_pool.2.1 33 = .ok (.iload_n 2, 1) := by decide +kernel
theorem dT_pool_34 : decode mT_pool.2.1 34 = .ok (.aload 4, 2) := by decide +kernel
theorem dT_pool_36 : decode mT_pool.2.1 36 = .ok (.getfield 101, 3) := by decide +kernel
theorem dT_pool_39 : decode mT_pool.2.1 39 = .ok (.invokestatic 104, 3) := by decide +kernel
theorem dT_pool_42 : decode mT_pool.2.1 42 = .ok (.istore 5, 2) := by decide +kernel
theorem dT_pool_44 : decode mT_pool.2.1 44 = .ok (.iload_n 2, 1) := by decide +kernel
theorem dT_pool_45 : decode mT_pool.2.1 45 = .ok (.aload 4, 2) := by decide +kernel
theorem dT_pool_47 : decode mT_pool.2.1 47 = .ok (.getfield 108, 3) := by decide +kernel
theorem dT_pool_50 : decode mT_pool.2.1 50 = .ok (.invokestatic 104, 3) := by decide +kernel
theorem dT_pool_53 : decode mT_pool.2.1 53 = .ok (.istore 6, 2) := by decide +kernel
theorem dT_pool_55 : decode mT_pool.2.1 55 = .ok (.new 57, 3) := by decide +kernel
theorem dT_pool_58 : decode mT_pool.2.1 58 = .ok (.dup, 1) := by decide +kernel
theorem dT_pool_59 : decode mT_pool.2.1 59 = .ok (.iload_n 3, 1) := by decide +kernel
theorem dT_pool_60 : decode mT_pool.2.1 60 = .ok (.ifCond .eq 8, 3) := by decide +kernel
theorem dT_pool_63 : decode mT_pool.2.1 63 = .ok (.bipush 8, 2) := by decide +kernel
theorem dT_pool_65 : decode mT_pool.2.1 65 = .ok (.goto 5, 3) := by decide +kernel
theorem dT_pool_68 : decode mT_pool.2.1 68 = .ok (.bipush 7, 2) := by decide +kernel
theorem dT_pool_70 : decode mT_pool.2.1 70 = .ok (.iload_n 1, 1) := by decide +kernel
theorem dT_pool_71 : decode mT_pool.2.1 71 = .ok (.iconst (-1), 1) := by decide +kernel
theorem dT_pool_72 : decode mT_pool.2.1 72 = .ok (.iload 5, 2) := by decide +kernel
theorem dT_pool_74 : decode mT_pool.2.1 74 = .ok (.iload 6, 2) := by decide +kernel
theorem dT_pool_76 : decode mT_pool.2.1 76 = .ok (.aload 4, 2) := by decide +kernel
theorem dT_pool_78 : decode mT_pool.2.1 78 = .ok (.getfield 88, 3) := by decide +kernel
theorem dT_pool_81 : decode mT_pool.2.1 81 = .ok (.aload 4, 2) := by decide +kernel
theorem dT_pool_83 : decode mT_pool.2.1 83 = .ok (.getfield 129, 3) := by decide +kernel
theorem dT_pool_86 : decode mT_pool.2.1 86 = .ok (.invokespecial 59, 3) := by decide +kernel
theorem dT_pool_89 : decode mT_pool.2.1 89 = .ok (.astore 7, 2) := by decide +kernel
theorem dT_pool_91 : decode mT_pool.2.1 91 = .ok (.aload 7, 2) := by decide +kernel
theorem dT_pool_93 : decode mT_pool.2.1 93 = .ok (.iload_n 2, 1) := by decide +kernel
theorem dT_pool_94 : decode mT_pool.2.1 94 = .ok (.putfield 111, 3) := by decide +kernel
theorem dT_pool_97 : decode mT_pool.2.1 97 = .ok (.aload_n 0, 1) := by decide +kernel
theorem dT_pool_98 : decode mT_pool.2.1 98 = .ok (.aload 7, 2) := by decide +kernel
theorem dT_pool_100 : decode mT_pool.2.1 100 = .ok (.invokevirtual 62, 3) := by decide +kernel
theorem dT_pool_103 : decode mT_pool.2.1 103 = .ok (.ireturn, 1) := by decide +kernel
theorem dL_clamp_0 : decode mL_clamp.2.1 0 = .ok (.aload 4, 2) := by decide +kernel
theorem dL_clamp_2 : decode mL_clamp.2.1 2 = .ok (.iconst 0, 1) := by decide +kernel
theorem dL_clamp_3 : decode mL_clamp.2.1 3 = .ok (.aload_n 0, 1) := by decide +kernel
theorem dL_clamp_4 : decode mL_clamp.2.1 4 = .ok (.iload_n 1, 1) := by decide +kernel
theorem dL_clamp_5 : decode mL_clamp.2.1 5 = .ok (.iload_n 2, 1) := by decide +kernel
theorem dL_clamp_6 : decode mL_clamp.2.1 6 = .ok (.iload_n 3, 1) := by decide +kernel
theorem dL_clamp_7 : decode mL_clamp.2.1 7 = .ok (.invokevirtual 50, 3) := by decide +kernel
theorem dL_clamp_10 : decode mL_clamp.2.1 10 = .ok (.i2l, 1) := by decide +kernel
theorem dL_clamp_11 : decode mL_clamp.2.1 11 = .ok (.lastore, 1) := by decide +kernel
theorem dL_clamp_12 : decode mL_clamp.2.1 12 = .ok (.goto 11, 3) := by decide +kernel
theorem dL_clamp_15 : decode mL_clamp.2.1 15 = .ok (.astore 5, 2) := by decide +kernel
theorem dL_clamp_17 : decode mL_clamp.2.1 17 = .ok (.iconst 1, 1) := by decide +kernel
theorem dL_clamp_18 : decode mL_clamp.2.1 18 = .ok (.ireturn, 1) := by decide +kernel
theorem dL_clamp_19 : decode mL_clamp.2.1 19 = .ok (.astore 5, 2) := by decide +kernel
theorem dL_clamp_21 : decode mL_clamp.2.1 21 = .ok (.iconst 2, 1) := by decide +kernel
theorem dL_clamp_22 : decode mL_clamp.2.1 22 = .ok (.ireturn, 1) := by decide +kernel
theorem dL_clamp_23 : decode mL_clamp.2.1 23 = .ok (.iconst 0, 1) := by decide +kernel
theorem dL_clamp_24 : decode mL_clamp.2.1 24 = .ok (.ireturn, 1) := by decide +kernel
theorem dT_clamp_0 : decode mT_clamp.2.1 0 = .ok (.aload_n 0, 1) := by decide +kernel
theorem dT_clamp_1 : decode mT_clamp.2.1 1 = .ok (.iload_n 1, 1) := by decide +kernel
theorem dT_clamp_2 : decode mT_clamp.2.1 2 = .ok (.invokevirtual 66, 3) := by decide +kernel
theorem dT_clamp_5 : decode mT_clamp.2.1 5 = .ok (.iload_n 3, 1) := by decide +kernel
theorem dT_clamp_6 : decode mT_clamp.2.1 6 = .ok (.bipush (-128), 2) := by decide +kernel
theorem dT_clamp_8 : decode mT_clamp.2.1 8 = .ok (.bipush 127, 2) := by decide +kernel
theorem dT_clamp_10 : decode mT_clamp.2.1 10 = .ok (.invokestatic 35, 3) := by decide +kernel
theorem dT_clamp_13 : decode mT_clamp.2.1 13 = .ok (.iload_n 2, 1) := by decide +kernel
theorem dT_clamp_14 : decode mT_clamp.2.1 14 = .ok (.bipush (-128), 2) := by decide +kernel
theorem dT_clamp_16 : decode mT_clamp.2.1 16 = .ok (.iload_n 3, 1) := by decide +kernel
theorem dT_clamp_17 : decode mT_clamp.2.1 17 = .ok (.invokestatic 35, 3) := by decide +kernel
theorem dT_clamp_20 : decode mT_clamp.2.1 20 = .ok (.aload_n 0, 1) := by decide +kernel
theorem dT_clamp_21 : decode mT_clamp.2.1 21 = .ok (.invokevirtual 54, 3) := by decide +kernel
theorem dT_clamp_24 : decode mT_clamp.2.1 24 = .ok (.aload_n 0, 1) := by decide +kernel
theorem dT_clamp_25 : decode mT_clamp.2.1 25 = .ok (.getfield 12, 3) := by decide +kernel
theorem dT_clamp_28 : decode mT_clamp.2.1 28 = .ok (.getfield 74, 3) := by decide +kernel
theorem dT_clamp_31 : decode mT_clamp.2.1 31 = .ok (.iload_n 1, 1) := by decide +kernel
theorem dT_clamp_32 : decode mT_clamp.2.1 32 = .ok (.aaload, 1) := by decide +kernel
theorem dT_clamp_33 : decode mT_clamp.2.1 33 = .ok (.astore 4, 2) := by decide +kernel
theorem dT_clamp_35 : decode mT_clamp.2.1 35 = .ok (.new 57, 3) := by decide +kernel
theorem dT_clamp_38 : decode mT_clamp.2.1 38 = .ok (.dup, 1) := by decide +kernel
theorem dT_clamp_39 : decode mT_clamp.2.1 39 = .ok (.bipush 9, 2) := by decide +kernel
theorem dT_clamp_41 : decode mT_clamp.2.1 41 = .ok (.iload_n 1, 1) := by decide +kernel
theorem dT_clamp_42 : decode mT_clamp.2.1 42 = .ok (.iconst (-1), 1) := by decide +kernel
theorem dT_clamp_43 : decode mT_clamp.2.1 43 = .ok (.aload 4, 2) := by decide +kernel
theorem dT_clamp_45 : decode mT_clamp.2.1 45 = .ok (.getfield 101, 3) := by decide +kernel
theorem dT_clamp_48 : decode mT_clamp.2.1 48 = .ok (.aload 4, 2) := by decide +kernel
theorem dT_clamp_50 : decode mT_clamp.2.1 50 = .ok (.getfield 108, 3) := by decide +kernel
theorem dT_clamp_53 : decode mT_clamp.2.1 53 = .ok (.aload 4, 2) := by decide +kernel
theorem dT_clamp_55 : decode mT_clamp.2.1 55 = .ok (.getfield 88, 3) := by decide +kernel
theorem dT_clamp_58 : decode mT_clamp.2.1 58 = .ok (.aload 4, 2) := by decide +kernel
theorem dT_clamp_60 : decode mT_clamp.2.1 60 = .ok (.getfield 129, 3) := by decide +kernel
theorem dT_clamp_63 : decode mT_clamp.2.1 63 = .ok (.invokespecial 59, 3) := by decide +kernel
theorem dT_clamp_66 : decode mT_clamp.2.1 66 = .ok (.astore 5, 2) := by decide +kernel
theorem dT_clamp_68 : decode mT_clamp.2.1 68 = .ok (.aload 5, 2) := by decide +kernel
theorem dT_clamp_70 : decode mT_clamp.2.1 70 = .ok (.iload_n 2, 1) := by decide +kernel
theorem dT_clamp_71 : decode mT_clamp.2.1 71 = .ok (.putfield 138, 3) := by decide +kernel
theorem dT_clamp_74 : decode mT_clamp.2.1 74 = .ok (.aload 5, 2) := by decide +kernel
theorem dT_clamp_76 : decode mT_clamp.2.1 76 = .ok (.iload_n 3, 1) := by decide +kernel
theorem dT_clamp_77 : decode mT_clamp.2.1 77 = .ok (.putfield 141, 3) := by decide +kernel
theorem dT_clamp_80 : decode mT_clamp.2.1 80 = .ok (.aload_n 0, 1) := by decide +kernel
theorem dT_clamp_81 : decode mT_clamp.2.1 81 = .ok (.aload 5, 2) := by decide +kernel
theorem dT_clamp_83 : decode mT_clamp.2.1 83 = .ok (.invokevirtual 62, 3) := by decide +kernel
theorem dT_clamp_86 : decode mT_clamp.2.1 86 = .ok (.ireturn, 1) := by decide +kernel
theorem dL_rescale_0 : decode mL_rescale.2.1 0 = .ok (.aload 4, 2) := by decide +kernel
theorem dL_rescale_2 : decode mL_rescale.2.1 2 = .ok (.iconst 0, 1) := by decide +kernel
theorem dL_rescale_3 : decode mL_rescale.2.1 3 = .ok (.aload_n 0, 1) := by decide +kernel
theorem dL_rescale_4 : decode mL_rescale.2.1 4 = .ok (.iload_n 1, 1) := by decide +kernel
theorem dL_rescale_5 : decode mL_rescale.2.1 5 = .ok (.dload_n 2, 1) := by decide +kernel
theorem dL_rescale_6 : decode mL_rescale.2.1 6 = .ok (.invokevirtual 54, 3) := by decide +kernel
theorem dL_rescale_9 : decode mL_rescale.2.1 9 = .ok (.i2l, 1) := by decide +kernel
theorem dL_rescale_10 : decode mL_rescale.2.1 10 = .ok (.lastore, 1) := by decide +kernel
theorem dL_rescale_11 : decode mL_rescale.2.1 11 = .ok (.goto 15, 3) := by decide +kernel
theorem dL_rescale_14 : decode mL_rescale.2.1 14 = .ok (.astore 5, 2) := by decide +kernel
theorem dL_rescale_16 : decode mL_rescale.2.1 16 = .ok (.iconst 1, 1) := by decide +kernel
theorem dL_rescale_17 : decode mL_rescale.2.1 17 = .ok (.ireturn, 1) := by decide +kernel
theorem dL_rescale_18 : decode mL_rescale.2.1 18 = .ok (.astore 5, 2) := by decide +kernel
theorem dL_rescale_20 : decode mL_rescale.2.1 20 = .ok (.iconst 2, 1) := by decide +kernel
theorem dL_rescale_21 : decode mL_rescale.2.1 21 = .ok (.ireturn, 1) := by decide +kernel
theorem dL_rescale_22 : decode mL_rescale.2.1 22 = .ok (.astore 5, 2) := by decide +kernel
theorem dL_rescale_24 : decode mL_rescale.2.1 24 = .ok (.iconst 3, 1) := by decide +kernel
theorem dL_rescale_25 : decode mL_rescale.2.1 25 = .ok (.ireturn, 1) := by decide +kernel
theorem dL_rescale_26 : decode mL_rescale.2.1 26 = .ok (.iconst 0, 1) := by decide +kernel
theorem dL_rescale_27 : decode mL_rescale.2.1 27 = .ok (.ireturn, 1) := by decide +kernel
theorem dT_rescale_0 : decode mT_rescale.2.1 0 = .ok (.aload_n 0, 1) := by decide +kernel
theorem dT_rescale_1 : decode mT_rescale.2.1 1 = .ok (.iload_n 1, 1) := by decide +kernel
theorem dT_rescale_2 : decode mT_rescale.2.1 2 = .ok (.invokevirtual 66, 3) := by decide +kernel
theorem dT_rescale_5 : decode mT_rescale.2.1 5 = .ok (.dload_n 2, 1) := by decide +kernel
theorem dT_rescale_6 : decode mT_rescale.2.1 6 = .ok (.invokestatic 47, 3) := by decide +kernel
theorem dT_rescale_9 : decode mT_rescale.2.1 9 = .ok (.aload_n 0, 1) := by decide +kernel
theorem dT_rescale_10 : decode mT_rescale.2.1 10 = .ok (.getfield 12, 3) := by decide +kernel
theorem dT_rescale_13 : decode mT_rescale.2.1 13 = .ok (.getfield 74, 3) := by decide +kernel
theorem dT_rescale_16 : decode mT_rescale.2.1 16 = .ok (.iload_n 1, 1) := by decide +kernel
theorem dT_rescale_17 : decode mT_rescale.2.1 17 = .ok (.aaload, 1) := by decide +kernel
theorem dT_rescale_18 : decode mT_rescale.2.1 18 = .ok (.astore 4, 2) := by decide +kernel
theorem dT_rescale_20 : decode mT_rescale.2.1 20 = .ok (.aload 4, 2) := by decide +kernel
theorem dT_rescale_22 : decode mT_rescale.2.1 22 = .ok (.getfield 129, 3) := by decide +kernel
theorem dT_rescale_25 : decode mT_rescale.2.1 25 = .ok (.dload_n 2, 1) := by decide +kernel
theorem dT_rescale_26 : decode mT_rescale.2.1 26 = .ok (.ddiv, 1) := by decide +kernel
theorem dT_rescale_27 : decode mT_rescale.2.1 27 = .ok (.dstore 5, 2) := by decide +kernel
theorem dT_rescale_29 : decode mT_rescale.2.1 29 = .ok (.dload 5, 2) := by decide +kernel
theorem dT_rescale_31 : decode mT_rescale.2.1 31 = .ok (.invokestatic 98, 3) := by decide +kernel
theorem dT_rescale_34 : decode mT_rescale.2.1 34 = .ok (.aload_n 0, 1) := by decide +kernel
theorem dT_rescale_35 : decode mT_rescale.2.1 35 = .ok (.invokevirtual 54, 3) := by decide +kernel
theorem dT_rescale_38 : decode mT_rescale.2.1 38 = .ok (.new 57, 3) := by decide +kernel
theorem dT_rescale_41 : decode mT_rescale.2.1 41 = .ok (.dup, 1) := by decide +kernel
theorem dT_rescale_42 : decode mT_rescale.2.1 42 = .ok (.bipush 10, 2) := by decide +kernel
theorem dT_rescale_44 : decode mT_rescale.2.1 44 = .ok (.iload_n 1, 1) := by decide +kernel
theorem dT_rescale_45 : decode mT_rescale.2.1 45 = .ok (.iconst (-1), 1) := by decide +kernel
theorem dT_rescale_46 : decode mT_rescale.2.1 46 = .ok (.aload 4, 2) := by decide +kernel
theorem dT_rescale_48 : decode mT_rescale.2.1 48 = .ok (.getfield 101, 3) := by decide +kernel
theorem dT_rescale_51 : decode mT_rescale.2.1 51 = .ok (.aload 4, 2) := by decide +kernel
theorem dT_rescale_53 : decode mT_rescale.2.1 53 = .ok (.getfield 108, 3) := by decide +kernel
theorem dT_rescale_56 : decode mT_rescale.2.1 56 = .ok (.aload 4, 2) := by decide +kernel
theorem dT_rescale_58 : decode mT_rescale.2.1 58 = .ok (.getfield 88, 3) := by decide +kernel
theorem dT_rescale_61 : decode mT_rescale.2.1 61 = .ok (.dload_n 2, 1) := by decide +kernel
theorem dT_rescale_62 : decode mT_rescale.2.1 62 = .ok (.invokespecial 59, 3) := by decide +kernel
theorem dT_rescale_65 : decode mT_rescale.2.1 65 = .ok (.astore 7, 2) := by decide +kernel
theorem dT_rescale_67 : decode mT_rescale.2.1 67 = .ok (.aload 7, 2) := by decide +kernel
theorem dT_rescale_69 : decode mT_rescale.2.1 69 = .ok (.dload 5, 2) := by decide +kernel
theorem dT_rescale_71 : decode mT_rescale.2.1 71 = .ok (.putfield 132, 3) := by decide +kernel
theorem dT_rescale_74 : decode mT_rescale.2.1 74 = .ok (.aload_n 0, 1) := by decide +kernel
theorem dT_rescale_75 : decode mT_rescale.2.1 75 = .ok (.aload 7, 2) := by decide +kernel
theorem dT_rescale_77 : decode mT_rescale.2.1 77 = .ok (.invokevirtual 62, 3) := by decide +kernel
theorem dT_rescale_80 : decode mT_rescale.2.1 80 = .ok (.ireturn, 1) := by decide +kernel
theorem dL_output_0 : decode mL_output.2.1 0 = .ok (.aload_n 2, 1) := by decide +kernel
theorem dL_output_1 : decode mL_output.2.1 1 = .ok (.iconst 0, 1) := by decide +kernel
theorem dL_output_2 : decode mL_output.2.1 2 = .ok (.aload_n 0, 1) := by decide +kernel
theorem dL_output_3 : decode mL_output.2.1 3 = .ok (.iload_n 1, 1) := by decide +kernel
theorem dL_output_4 : decode mL_output.2.1 4 = .ok (.invokevirtual 58, 3) := by decide +kernel
theorem dL_output_7 : decode mL_output.2.1 7 = .ok (.i2l, 1) := by decide +kernel
theorem dL_output_8 : decode mL_output.2.1 8 = .ok (.lastore, 1) := by decide +kernel
theorem dL_output_9 : decode mL_output.2.1 9 = .ok (.goto 6, 3) := by decide +kernel
theorem dL_output_12 : decode mL_output.2.1 12 = .ok (.astore_n 3, 1) := by decide +kernel
theorem dL_output_13 : decode mL_output.2.1 13 = .ok (.iconst 1, 1) := by decide +kernel
theorem dL_output_14 : decode mL_output.2.1 14 = .ok (.ireturn, 1) := by decide +kernel
theorem dL_output_15 : decode mL_output.2.1 15 = .ok (.iconst 0, 1) := by decide +kernel
theorem dL_output_16 : decode mL_output.2.1 16 = .ok (.ireturn, 1) := by decide +kernel
theorem dT_output_0 : decode mT_output.2.1 0 = .ok (.aload_n 0, 1) := by decide +kernel
theorem dT_output_1 : decode mT_output.2.1 1 = .ok (.iload_n 1, 1) := by decide +kernel
theorem dT_output_2 : decode mT_output.2.1 2 = .ok (.invokevirtual 66, 3) := by decide +kernel
theorem dT_output_5 : decode mT_output.2.1 5 = .ok (.aload_n 0, 1) := by decide +kernel
theorem dT_output_6 : decode mT_output.2.1 6 = .ok (.iload_n 1, 1) := by decide +kernel
theorem dT_output_7 : decode mT_output.2.1 7 = .ok (.putfield 27, 3) := by decide +kernel
theorem dT_output_10 : decode mT_output.2.1 10 = .ok (.aload_n 0, 1) := by decide +kernel
theorem dT_output_11 : decode mT_output.2.1 11 = .ok (.iconst 0, 1) := by decide +kernel
theorem dT_output_12 : decode mT_output.2.1 12 = .ok (.putfield 31, 3) := by decide +kernel
theorem dT_output_15 : decode mT_output.2.1 15 = .ok (.aload_n 0, 1) := by decide +kernel
theorem dT_output_16 : decode mT_output.2.1 16 = .ok (.getfield 12, 3) := by decide +kernel
theorem dT_output_19 : decode mT_output.2.1 19 = .ok (.getfield 74, 3) := by decide +kernel
theorem dT_output_22 : decode mT_output.2.1 22 = .ok (.iload_n 1, 1) := by decide +kernel
theorem dT_output_23 : decode mT_output.2.1 23 = .ok (.aaload, 1) := by decide +kernel
theorem dT_output_24 : decode mT_output.2.1 24 = .ok (.getfield 118, 3) := by decide +kernel
theorem dT_output_27 : decode mT_output.2.1 27 = .ok (.ireturn, 1) := by decide +kernel
theorem dL_compile_0 : decode mL_compile.2.1 0 = .ok (.aload_n 1, 1) := by decide +kernel
theorem dL_compile_1 : decode mL_compile.2.1 1 = .ok (.iconst 0, 1) := by decide +kernel
theorem dL_compile_2 : decode mL_compile.2.1 2 = .ok (.aload_n 0, 1) := by decide +kernel
theorem dL_compile_3 : decode mL_compile.2.1 3 = .ok (.invokevirtual 62, 3) := by decide +kernel
theorem dL_compile_6 : decode mL_compile.2.1 6 = .ok (.i2l, 1) := by decide +kernel
theorem dL_compile_7 : decode mL_compile.2.1 7 = .ok (.lastore, 1) := by decide +kernel
theorem dL_compile_8 : decode mL_compile.2.1 8 = .ok (.goto 6, 3) := by decide +kernel
theorem dL_compile_11 : decode mL_compile.2.1 11 = .ok (.astore_n 2, 1) := by decide +kernel
theorem dL_compile_12 : decode mL_compile.2.1 12 = .ok (.iconst 1, 1) := by decide +kernel
theorem dL_compile_13 : decode mL_compile.2.1 13 = .ok (.ireturn, 1) := by decide +kernel
theorem dL_compile_14 : decode mL_compile.2.1 14 = .ok (.iconst 0, 1) := by decide +kernel
theorem dL_compile_15 : decode mL_compile.2.1 15 = .ok (.ireturn, 1) := by decide +kernel
theorem dT_compile_0 : decode mT_compile.2.1 0 = .ok (.aload_n 0, 1) := by decide +kernel
theorem dT_compile_1 : decode mT_compile.2.1 1 = .ok (.getfield 27, 3) := by decide +kernel
theorem dT_compile_4 : decode mT_compile.2.1 4 = .ok (.iconst (-1), 1) := by decide +kernel
theorem dT_compile_5 : decode mT_compile.2.1 5 = .ok (.if_icmp .ne 13, 3) := by decide +kernel
theorem dT_compile_8 : decode mT_compile.2.1 8 = .ok (.new 144, 3) := by decide +kernel
theorem dT_compile_11 : decode mT_compile.2.1 11 = .ok (.dup, 1) := by decide +kernel
theorem dT_compile_12 : decode mT_compile.2.1 12 = .ok (.ldc 146, 2) := by decide +kernel
theorem dT_compile_14 : decode mT_compile.2.1 14 = .ok (.invokespecial 148, 3) := by decide +kernel
theorem dT_compile_17 : decode mT_compile.2.1 17 = .ok (.athrow, 1) := by decide +kernel
theorem dT_compile_18 : decode mT_compile.2.1 18 = .ok (.aload_n 0, 1) := by decide +kernel
theorem dT_compile_19 : decode mT_compile.2.1 19 = .ok (.getfield 12, 3) := by decide +kernel
theorem dT_compile_22 : decode mT_compile.2.1 22 = .ok (.aload_n 0, 1) := by decide +kernel
theorem dT_compile_23 : decode mT_compile.2.1 23 = .ok (.getfield 27, 3) := by decide +kernel
theorem dT_compile_26 : decode mT_compile.2.1 26 = .ok (.invokevirtual 151, 3) := by decide +kernel
theorem dT_compile_29 : decode mT_compile.2.1 29 = .ok (.aload_n 0, 1) := by decide +kernel
theorem dT_compile_30 : decode mT_compile.2.1 30 = .ok (.iconst 1, 1) := by decide +kernel
theorem dT_compile_31 : decode mT_compile.2.1 31 = .ok (.putfield 31, 3) := by decide +kernel
theorem dT_compile_34 : decode mT_compile.2.1 34 = .ok (.aload_n 0, 1) := by decide +kernel
theorem dT_compile_35 : decode mT_compile.2.1 35 = .ok (.getfield 12, 3) := by decide +kernel
theorem dT_compile_38 : decode mT_compile.2.1 38 = .ok (.getfield 154, 3) := by decide +kernel
theorem dT_compile_41 : decode mT_compile.2.1 41 = .ok (.ireturn, 1) := by decide +kernel
theorem dG_plan_0 : decode mG_plan.2.1 0 = .ok (.aload_n 0, 1) := by decide +kernel
theorem dG_plan_1 : decode mG_plan.2.1 1 = .ok (.invokevirtual 37, 3) := by decide +kernel
theorem dG_plan_4 : decode mG_plan.2.1 4 = .ok (.aload_n 0, 1) := by decide +kernel
theorem dG_plan_5 : decode mG_plan.2.1 5 = .ok (.getfield 17, 3) := by decide +kernel
theorem dG_plan_8 : decode mG_plan.2.1 8 = .ok (.iload_n 1, 1) := by decide +kernel
theorem dG_plan_9 : decode mG_plan.2.1 9 = .ok (.iaload, 1) := by decide +kernel
theorem dG_plan_10 : decode mG_plan.2.1 10 = .ok (.istore_n 2, 1) := by decide +kernel
theorem dG_plan_11 : decode mG_plan.2.1 11 = .ok (.aload_n 0, 1) := by decide +kernel
theorem dG_plan_12 : decode mG_plan.2.1 12 = .ok (.iload_n 2, 1) := by decide +kernel
theorem dG_plan_13 : decode mG_plan.2.1 13 = .ok (.invokevirtual 40, 3) := by decide +kernel
theorem dG_plan_16 : decode mG_plan.2.1 16 = .ok (.aload_n 0, 1) := by decide +kernel
theorem dG_plan_17 : decode mG_plan.2.1 17 = .ok (.iload_n 2, 1) := by decide +kernel
theorem dG_plan_18 : decode mG_plan.2.1 18 = .ok (.invokevirtual 44, 3) := by decide +kernel
theorem dG_plan_21 : decode mG_plan.2.1 21 = .ok (.aload_n 0, 1) := by decide +kernel
theorem dG_plan_22 : decode mG_plan.2.1 22 = .ok (.invokevirtual 47, 3) := by decide +kernel
theorem dG_plan_25 : decode mG_plan.2.1 25 = .ok (.aload_n 0, 1) := by decide +kernel
theorem dG_plan_26 : decode mG_plan.2.1 26 = .ok (.iload_n 2, 1) := by decide +kernel
theorem dG_plan_27 : decode mG_plan.2.1 27 = .ok (.invokevirtual 50, 3) := by decide +kernel
theorem dG_plan_30 : decode mG_plan.2.1 30 = .ok (.aload_n 0, 1) := by decide +kernel
theorem dG_plan_31 : decode mG_plan.2.1 31 = .ok (.invokevirtual 53, 3) := by decide +kernel
theorem dG_plan_34 : decode mG_plan.2.1 34 = .ok (.return_, 1) := by decide +kernel
theorem dG_makeSmaller_0 : decode mG_makeSmaller.2.1 0 = .ok (.iconst 0, 1) := by decide +kernel
theorem dG_makeSmaller_1 : decode mG_makeSmaller.2.1 1 = .ok (.istore_n 1, 1) := by decide +kernel
theorem dG_makeSmaller_2 : decode mG_makeSmaller.2.1 2 = .ok (.iload_n 1, 1) := by decide +kernel
theorem dG_makeSmaller_3 : decode mG_makeSmaller.2.1 3 = .ok (.aload_n 0, 1) := by decide +kernel
theorem dG_makeSmaller_4 : decode mG_makeSmaller.2.1 4 = .ok (.getfield 33, 3) := by decide +kernel
theorem dG_makeSmaller_7 : decode mG_makeSmaller.2.1 7 = .ok (.if_icmp .ge 49, 3) := by decide +kernel
theorem dG_makeSmaller_10 : decode mG_makeSmaller.2.1 10 = .ok (.aload_n 0, 1) := by decide +kernel
theorem dG_makeSmaller_11 : decode mG_makeSmaller.2.1 11 = .ok (.getfield 17, 3) := by decide +kernel
theorem dG_makeSmaller_14 : decode mG_makeSmaller.2.1 14 = .ok (.iload_n 1, 1) := by decide +kernel
theorem dG_makeSmaller_15 : decode mG_makeSmaller.2.1 15 = .ok (.aload_n 0, 1) := by decide +kernel
theorem dG_makeSmaller_16 : decode mG_makeSmaller.2.1 16 = .ok (.aload_n 0, 1) := by decide +kernel
theorem dG_makeSmaller_17 : decode mG_makeSmaller.2.1 17 = .ok (.getfield 11, 3) := by decide +kernel
theorem dG_makeSmaller_20 : decode mG_makeSmaller.2.1 20 = .ok (.iload_n 1, 1) := by decide +kernel
theorem dG_makeSmaller_21 : decode mG_makeSmaller.2.1 21 = .ok (.aaload, 1) := by decide +kernel
theorem dG_makeSmaller_22 : decode mG_makeSmaller.2.1 22 = .ok (.invokevirtual 63, 3) := by decide +kernel
theorem dG_makeSmaller_25 : decode mG_makeSmaller.2.1 25 = .ok (.ifCond .eq 19, 3) := by decide +kernel
theorem dG_makeSmaller_28 : decode mG_makeSmaller.2.1 28 = .ok (.aload_n 0, 1) := by decide +kernel
theorem dG_makeSmaller_29 : decode mG_makeSmaller.2.1 29 = .ok (.aload_n 0, 1) := by decide +kernel
theorem dG_makeSmaller_30 : decode mG_makeSmaller.2.1 30 = .ok (.getfield 11, 3) := by decide +kernel
theorem dG_makeSmaller_33 : decode mG_makeSmaller.2.1 33 = .ok (.iload_n 1, 1) := by decide +kernel
theorem dG_makeSmaller_34 : decode mG_makeSmaller.2.1 34 = .ok (.aaload, 1) := by decide +kernel
theorem dG_makeSmaller_35 : decode mG_makeSmaller.2.1 35 = .ok (.getfield 56, 3) := by decide +kernel
theorem dG_makeSmaller_38 : decode mG_makeSmaller.2.1 38 = .ok (.invokevirtual 59, 3) := by decide +kernel
theorem dG_makeSmaller_41 : decode mG_makeSmaller.2.1 41 = .ok (.goto 8, 3) := by decide +kernel
theorem dG_makeSmaller_44 : decode mG_makeSmaller.2.1 44 = .ok (.aload_n 0, 1) := by decide +kernel
theorem dG_makeSmaller_45 : decode mG_makeSmaller.2.1 45 = .ok (.iload_n 1, 1) := by decide +kernel
theorem dG_makeSmaller_46 : decode mG_makeSmaller.2.1 46 = .ok (.invokevirtual 67, 3) := by decide +kernel
theorem dG_makeSmaller_49 : decode mG_makeSmaller.2.1 49 = .ok (.iastore, 1) := by decide +kernel
theorem dG_makeSmaller_50 : decode mG_makeSmaller.2.1 50 = .ok (.iinc 1 1, 3) := by decide +kernel
theorem dG_makeSmaller_53 : decode mG_makeSmaller.2.1 53 = .ok (.goto (-51), 3) := by decide +kernel
theorem dG_makeSmaller_56 : decode mG_makeSmaller.2.1 56 = .ok (.return_, 1) := by decide +kernel
theorem dG_changesNothing_0 : decode mG_changesNothing.2.1 0 = .ok (.aload_n 1, 1) := by decide +kernel
theorem dG_changesNothing_1 : decode mG_changesNothing.2.1 1 = .ok (.getfield 56, 3) := by decide +kernel
theorem dG_changesNothing_4 : decode mG_changesNothing.2.1 4 = .ok (.iconst (-1), 1) := by decide +kernel
theorem dG_changesNothing_5 : decode mG_changesNothing.2.1 5 = .ok (.if_icmp .ne 5, 3) := by decide +kernel
theorem dG_changesNothing_8 : decode mG_changesNothing.2.1 8 = .ok (.iconst 0, 1) := by decide +kernel
theorem dG_changesNothing_9 : decode mG_changesNothing.2.1 9 = .ok (.ireturn, 1) := by decide +kernel
theorem dG_changesNothing_10 : decode mG_changesNothing.2.1 10 = .ok (.aload_n 0, 1) := by decide +kernel
theorem dG_changesNothing_11 : decode mG_changesNothing.2.1 11 = .ok (.getfield 11, 3) := by decide +kernel
theorem dG_changesNothing_14 : decode mG_changesNothing.2.1 14 = .ok (.aload_n 0, 1) := by decide +kernel
theorem dG_changesNothing_15 : decode mG_changesNothing.2.1 15 = .ok (.getfield 17, 3) := by decide +kernel
theorem dG_changesNothing_18 : decode mG_changesNothing.2.1 18 = .ok (.aload_n 1, 1) := by decide +kernel
theorem dG_changesNothing_19 : decode mG_changesNothing.2.1 19 = .ok (.getfield 56, 3) := by decide +kernel
theorem dG_changesNothing_22 : decode mG_changesNothing.2.1 22 = .ok (.iaload, 1) := by decide +kernel
theorem dG_changesNothing_23 : decode mG_changesNothing.2.1 23 = .ok (.aaload, 1) := by decide +kernel
theorem dG_changesNothing_24 : decode mG_changesNothing.2.1 24 = .ok (.astore_n 2, 1) := by decide +kernel
theorem dG_changesNothing_25 : decode mG_changesNothing.2.1 25 = .ok (.aload_n 1, 1) := by decide +kernel
theorem dG_changesNothing_26 : decode mG_changesNothing.2.1 26 = .ok (.getfield 70, 3) := by decide +kernel
theorem dG_changesNothing_29 : decode mG_changesNothing.2.1 29 = .ok (.tableswitch 94 6 10 #[35, 94, 94, 52, 76], 35) := by decide +kernel
theorem dG_changesNothing_64 : decode mG_changesNothing.2.1 64 = .ok (.aload_n 1, 1) := by decide +kernel
theorem dG_changesNothing_65 : decode mG_changesNothing.2.1 65 = .ok (.aload_n 2, 1) := by decide +kernel
theorem dG_changesNothing_66 : decode mG_changesNothing.2.1 66 = .ok (.getfield 73, 3) := by decide +kernel
theorem dG_changesNothing_69 : decode mG_changesNothing.2.1 69 = .ok (.aload_n 2, 1) := by decide +kernel
theorem dG_changesNothing_70 : decode mG_changesNothing.2.1 70 = .ok (.getfield 76, 3) := by decide +kernel
theorem dG_changesNothing_73 : decode mG_changesNothing.2.1 73 = .ok (.aload_n 2, 1) := by decide +kernel
theorem dG_changesNothing_74 : decode mG_changesNothing.2.1 74 = .ok (.getfield 79, 3) := by decide +kernel
theorem dG_changesNothing_77 : decode mG_changesNothing.2.1 77 = .ok (.invokevirtual 82, 3) := by decide +kernel
theorem dG_changesNothing_80 : decode mG_changesNothing.2.1 80 = .ok (.ireturn, 1) := by decide +kernel
theorem dG_changesNothing_81 : decode mG_changesNothing.2.1 81 = .ok (.aload_n 1, 1) := by decide +kernel
theorem dG_changesNothing_82 : decode mG_changesNothing.2.1 82 = .ok (.getfield 86, 3) := by decide +kernel
theorem dG_changesNothing_85 : decode mG_changesNothing.2.1 85 = .ok (.bipush (-128), 2) := by decide +kernel
theorem dG_changesNothing_87 : decode mG_changesNothing.2.1 87 = .ok (.if_icmp .ne 16, 3) := by decide +kernel
theorem dG_changesNothing_90 : decode mG_changesNothing.2.1 90 = .ok (.aload_n 1, 1) := by decide +kernel
theorem dG_changesNothing_91 : decode mG_changesNothing.2.1 91 = .ok (.getfield 89, 3) := by decide +kernel
theorem dG_changesNothing_94 : decode mG_changesNothing.2.1 94 = .ok (.bipush 127, 2) := by decide +kernel
theorem dG_changesNothing_96 : decode mG_changesNothing.2.1 96 = .ok (.if_icmp .ne 7, 3) := by decide +kernel
theorem dG_changesNothing_99 : decode mG_changesNothing.2.1 99 = .ok (.iconst 1, 1) := by decide +kernel
theorem dG_changesNothing_100 : decode mG_changesNothing.2.1 100 = .ok (.goto 4, 3) := by decide +kernel
theorem dG_changesNothing_103 : decode mG_changesNothing.2.1 103 = .ok (.iconst 0, 1) := by decide +kernel
theorem dG_changesNothing_104 : decode mG_changesNothing.2.1 104 = .ok (.ireturn, 1) := by decide +kernel
theorem dG_changesNothing_105 : decode mG_changesNothing.2.1 105 = .ok (.aload_n 1, 1) := by decide +kernel
theorem dG_changesNothing_106 : decode mG_changesNothing.2.1 106 = .ok (.getfield 92, 3) := by decide +kernel
theorem dG_changesNothing_109 : decode mG_changesNothing.2.1 109 = .ok (.aload_n 2, 1) := by decide +kernel
theorem dG_changesNothing_110 : decode mG_changesNothing.2.1 110 = .ok (.getfield 92, 3) := by decide +kernel
theorem dG_changesNothing_113 : decode mG_changesNothing.2.1 113 = .ok (.dcmp .l, 1) := by decide +kernel
theorem dG_changesNothing_114 : decode mG_changesNothing.2.1 114 = .ok (.ifCond .ne 7, 3) := by decide +kernel
theorem dG_changesNothing_117 : decode mG_changesNothing.2.1 117 = .ok (.iconst 1, 1) := by decide +kernel
theorem dG_changesNothing_118 : decode mG_changesNothing.2.1 118 = .ok (.goto 4, 3) := by decide +kernel
theorem dG_changesNothing_121 : decode mG_changesNothing.2.1 121 = .ok (.iconst 0, 1) := by decide +kernel
theorem dG_changesNothing_122 : decode mG_changesNothing.2.1 122 = .ok (.ireturn, 1) := by decide +kernel
theorem dG_changesNothing_123 : decode mG_changesNothing.2.1 123 = .ok (.iconst 0, 1) := by decide +kernel
theorem dG_changesNothing_124 : decode mG_changesNothing.2.1 124 = .ok (.ireturn, 1) := by decide +kernel
theorem dG_meant_0 : decode mG_meant.2.1 0 = .ok (.iload_n 1, 1) := by decide +kernel
theorem dG_meant_1 : decode mG_meant.2.1 1 = .ok (.iconst (-1), 1) := by decide +kernel
theorem dG_meant_2 : decode mG_meant.2.1 2 = .ok (.if_icmp .ne 7, 3) := by decide +kernel
theorem dG_meant_5 : decode mG_meant.2.1 5 = .ok (.iconst (-1), 1) := by decide +kernel
theorem dG_meant_6 : decode mG_meant.2.1 6 = .ok (.goto 9, 3) := by decide +kernel
theorem dG_meant_9 : decode mG_meant.2.1 9 = .ok (.aload_n 0, 1) := by decide +kernel
theorem dG_meant_10 : decode mG_meant.2.1 10 = .ok (.getfield 17, 3) := by decide +kernel
theorem dG_meant_13 : decode mG_meant.2.1 13 = .ok (.iload_n 1, 1) := by decide +kernel
theorem dG_meant_14 : decode mG_meant.2.1 14 = .ok (.iaload, 1) := by decide +kernel
theorem dG_meant_15 : decode mG_meant.2.1 15 = .ok (.ireturn, 1) := by decide +kernel
theorem dG_firstAlike_0 : decode mG_firstAlike.2.1 0 = .ok (.aload_n 0, 1) := by decide +kernel
theorem dG_firstAlike_1 : decode mG_firstAlike.2.1 1 = .ok (.getfield 11, 3) := by decide +kernel
theorem dG_firstAlike_4 : decode mG_firstAlike.2.1 4 = .ok (.iload_n 1, 1) := by decide +kernel
theorem dG_firstAlike_5 : decode mG_firstAlike.2.1 5 = .ok (.aaload, 1) := by decide +kernel
theorem dG_firstAlike_6 : decode mG_firstAlike.2.1 6 = .ok (.getfield 70, 3) := by decide +kernel
theorem dG_firstAlike_9 : decode mG_firstAlike.2.1 9 = .ok (.ifCond .ne 5, 3) := by decide +kernel
theorem dG_firstAlike_12 : decode mG_firstAlike.2.1 12 = .ok (.iload_n 1, 1) := by decide +kernel
theorem dG_firstAlike_13 : decode mG_firstAlike.2.1 13 = .ok (.ireturn, 1) := by decide +kernel
theorem dG_firstAlike_14 : decode mG_firstAlike.2.1 14 = .ok (.iconst 0, 1) := by decide +kernel
theorem dG_firstAlike_15 : decode mG_firstAlike.2.1 15 = .ok (.istore_n 2, 1) := by decide +kernel
theorem dG_firstAlike_16 : decode mG_firstAlike.2.1 16 = .ok (.iload_n 2, 1) := by decide +kernel
theorem dG_firstAlike_17 : decode mG_firstAlike.2.1 17 = .ok (.iload_n 1, 1) := by decide +kernel
theorem dG_firstAlike_18 : decode mG_firstAlike.2.1 18 = .ok (.if_icmp .ge 30, 3) := by decide +kernel
theorem dG_firstAlike_21 : decode mG_firstAlike.2.1 21 = .ok (.aload_n 0, 1) := by decide +kernel
theorem dG_firstAlike_22 : decode mG_firstAlike.2.1 22 = .ok (.getfield 17, 3) := by decide +kernel
theorem dG_firstAlike_25 : decode mG_firstAlike.2.1 25 = .ok (.iload_n 2, 1) := by decide +kernel
theorem dG_firstAlike_26 : decode mG_firstAlike.2.1 26 = .ok (.iaload, 1) := by decide +kernel
theorem dG_firstAlike_27 : decode mG_firstAlike.2.1 27 = .ok (.iload_n 2, 1) := by decide +kernel
theorem dG_firstAlike_28 : decode mG_firstAlike.2.1 28 = .ok (.if_icmp .ne 14, 3) := by decide +kernel
theorem dG_firstAlike_31 : decode mG_firstAlike.2.1 31 = .ok (.aload_n 0, 1) := by decide +kernel
theorem dG_firstAlike_32 : decode mG_firstAlike.2.1 32 = .ok (.iload_n 2, 1) := by decide +kernel
theorem dG_firstAlike_33 : decode mG_firstAlike.2.1 33 = .ok (.iload_n 1, 1) := by decide +kernel
theorem dG_firstAlike_34 : decode mG_firstAlike.2.1 34 = .ok (.invokevirtual 96, 3) := by decide +kernel
theorem dG_firstAlike_37 : decode mG_firstAlike.2.1 37 = .ok (.ifCond .eq 5, 3) := by decide +kernel
theorem dG_firstAlike_40 : decode mG_firstAlike.2.1 40 = .ok (.iload_n 2, 1) := by decide +kernel
theorem dG_firstAlike_41 : decode mG_firstAlike.2.1 41 = .ok (.ireturn, 1) := by decide +kernel
theorem dG_firstAlike_42 : decode mG_firstAlike.2.1 42 = .ok (.iinc 2 1, 3) := by decide +kernel
theorem dG_firstAlike_45 : decode mG_firstAlike.2.1 45 = .ok (.goto (-29), 3) := by decide +kernel
theorem dG_firstAlike_48 : decode mG_firstAlike.2.1 48 = .ok (.iload_n 1, 1) := by decide +kernel
theorem dG_firstAlike_49 : decode mG_firstAlike.2.1 49 = .ok (.ireturn, 1) := by decide +kernel
theorem dG_alike_0 : decode mG_alike.2.1 0 = .ok (.aload_n 0, 1) := by decide +kernel
theorem dG_alike_1 : decode mG_alike.2.1 1 = .ok (.getfield 11, 3) := by decide +kernel
theorem dG_alike_4 : decode mG_alike.2.1 4 = .ok (.iload_n 1, 1) := by decide +kernel
theorem dG_alike_5 : decode mG_alike.2.1 5 = .ok (.aaload, 1) := by decide +kernel
theorem dG_alike_6 : decode mG_alike.2.1 6 = .ok (.astore_n 3, 1) := by decide +kernel
theorem dG_alike_7 : decode mG_alike.2.1 7 = .ok (.aload_n 0, 1) := by decide +kernel
theorem dG_alike_8 : decode mG_alike.2.1 8 = .ok (.getfield 11, 3) := by decide +kernel
theorem dG_alike_11 : decode mG_alike.2.1 11 = .ok (.iload_n 2, 1) := by decide +kernel
theorem dG_alike_12 : decode mG_alike.2.1 12 = .ok (.aaload, 1) := by decide +kernel
theorem dG_alike_13 : decode mG_alike.2.1 13 = .ok (.astore 4, 2) := by decide +kernel
theorem dG_alike_15 : decode mG_alike.2.1 15 = .ok (.aload_n 3, 1) := by decide +kernel
theorem dG_alike_16 : decode mG_alike.2.1 16 = .ok (.aload 4, 2) := by decide +kernel
theorem dG_alike_18 : decode mG_alike.2.1 18 = .ok (.invokevirtual 100, 3) := by decide +kernel
theorem dG_alike_21 : decode mG_alike.2.1 21 = .ok (.ifCond .eq 47, 3) := by decide +kernel
theorem dG_alike_24 : decode mG_alike.2.1 24 = .ok (.aload_n 0, 1) := by decide +kernel
theorem dG_alike_25 : decode mG_alike.2.1 25 = .ok (.aload_n 3, 1) := by decide +kernel
theorem dG_alike_26 : decode mG_alike.2.1 26 = .ok (.getfield 56, 3) := by decide +kernel
theorem dG_alike_29 : decode mG_alike.2.1 29 = .ok (.invokevirtual 59, 3) := by decide +kernel
theorem dG_alike_32 : decode mG_alike.2.1 32 = .ok (.aload_n 0, 1) := by decide +kernel
theorem dG_alike_33 : decode mG_alike.2.1 33 = .ok (.aload 4, 2) := by decide +kernel
theorem dG_alike_35 : decode mG_alike.2.1 35 = .ok (.getfield 56, 3) := by decide +kernel
theorem dG_alike_38 : decode mG_alike.2.1 38 = .ok (.invokevirtual 59, 3) := by decide +kernel
theorem dG_alike_41 : decode mG_alike.2.1 41 = .ok (.if_icmp .ne 27, 3) := by decide +kernel
theorem dG_alike_44 : decode mG_alike.2.1 44 = .ok (.aload_n 0, 1) := by decide +kernel
theorem dG_alike_45 : decode mG_alike.2.1 45 = .ok (.aload_n 3, 1) := by decide +kernel
theorem dG_alike_46 : decode mG_alike.2.1 46 = .ok (.getfield 103, 3) := by decide +kernel
theorem dG_alike_49 : decode mG_alike.2.1 49 = .ok (.invokevirtual 59, 3) := by decide +kernel
theorem dG_alike_52 : decode mG_alike.2.1 52 = .ok (.aload_n 0, 1) := by decide +kernel
theorem dG_alike_53 : decode mG_alike.2.1 53 = .ok (.aload 4, 2) := by decide +kernel
theorem dG_alike_55 : decode mG_alike.2.1 55 = .ok (.getfield 103, 3) := by decide +kernel
theorem dG_alike_58 : decode mG_alike.2.1 58 = .ok (.invokevirtual 59, 3) := by decide +kernel
theorem dG_alike_61 : decode mG_alike.2.1 61 = .ok (.if_icmp .ne 7, 3) := by decide +kernel
theorem dG_alike_64 : decode mG_alike.2.1 64 = .ok (.iconst 1, 1) := by decide +kernel
theorem dG_alike_65 : decode mG_alike.2.1 65 = .ok (.goto 4, 3) := by decide +kernel
theorem dG_alike_68 : decode mG_alike.2.1 68 = .ok (.iconst 0, 1) := by decide +kernel
theorem dG_alike_69 : decode mG_alike.2.1 69 = .ok (.ireturn, 1) := by decide +kernel
theorem dN_saysTheSame_0 : decode mN_saysTheSame.2.1 0 = .ok (.aload_n 0, 1) := by decide +kernel
theorem dN_saysTheSame_1 : decode mN_saysTheSame.2.1 1 = .ok (.getfield 9, 3) := by decide +kernel
theorem dN_saysTheSame_4 : decode mN_saysTheSame.2.1 4 = .ok (.aload_n 1, 1) := by decide +kernel
theorem dN_saysTheSame_5 : decode mN_saysTheSame.2.1 5 = .ok (.getfield 9, 3) := by decide +kernel
theorem dN_saysTheSame_8 : decode mN_saysTheSame.2.1 8 = .ok (.if_icmp .ne 94, 3) := by decide +kernel
theorem dN_saysTheSame_11 : decode mN_saysTheSame.2.1 11 = .ok (.aload_n 0, 1) := by decide +kernel
theorem dN_saysTheSame_12 : decode mN_saysTheSame.2.1 12 = .ok (.aload_n 1, 1) := by decide +kernel
theorem dN_saysTheSame_13 : decode mN_saysTheSame.2.1 13 = .ok (.getfield 21, 3) := by decide +kernel
theorem dN_saysTheSame_16 : decode mN_saysTheSame.2.1 16 = .ok (.aload_n 1, 1) := by decide +kernel
theorem dN_saysTheSame_17 : decode mN_saysTheSame.2.1 17 = .ok (.getfield 24, 3) := by decide +kernel
theorem dN_saysTheSame_20 : decode mN_saysTheSame.2.1 20 = .ok (.aload_n 1, 1) := by decide +kernel
theorem dN_saysTheSame_21 : decode mN_saysTheSame.2.1 21 = .ok (.getfield 27, 3) := by decide +kernel
theorem dN_saysTheSame_24 : decode mN_saysTheSame.2.1 24 = .ok (.invokevirtual 50, 3) := by decide +kernel
theorem dN_saysTheSame_27 : decode mN_saysTheSame.2.1 27 = .ok (.ifCond .eq 75, 3) := by decide +kernel
theorem dN_saysTheSame_30 : decode mN_saysTheSame.2.1 30 = .ok (.aload_n 0, 1) := by decide +kernel
theorem dN_saysTheSame_31 : decode mN_saysTheSame.2.1 31 = .ok (.getfield 30, 3) := by decide +kernel
theorem dN_saysTheSame_34 : decode mN_saysTheSame.2.1 34 = .ok (.aload_n 1, 1) := by decide +kernel
theorem dN_saysTheSame_35 : decode mN_saysTheSame.2.1 35 = .ok (.getfield 30, 3) := by decide +kernel
theorem dN_saysTheSame_38 : decode mN_saysTheSame.2.1 38 = .ok (.dcmp .l, 1) := by decide +kernel
theorem dN_saysTheSame_39 : decode mN_saysTheSame.2.1 39 = .ok (.ifCond .ne 63, 3) := by decide +kernel
theorem dN_saysTheSame_42 : decode mN_saysTheSame.2.1 42 = .ok (.aload_n 0, 1) := by decide +kernel
theorem dN_saysTheSame_43 : decode mN_saysTheSame.2.1 43 = .ok (.getfield 54, 3) := by decide +kernel
theorem dN_saysTheSame_46 : decode mN_saysTheSame.2.1 46 = .ok (.aload_n 1, 1) := by decide +kernel
theorem dN_saysTheSame_47 : decode mN_saysTheSame.2.1 47 = .ok (.getfield 54, 3) := by decide +kernel
theorem dN_saysTheSame_50 : decode mN_saysTheSame.2.1 50 = .ok (.if_icmp .ne 52, 3) := by decide +kernel
theorem dN_saysTheSame_53 : decode mN_saysTheSame.2.1 53 = .ok (.aload_n 0, 1) := by decide +kernel
theorem dN_saysTheSame_54 : decode mN_saysTheSame.2.1 54 = .ok (.getfield 41, 3) := by decide +kernel
theorem dN_saysTheSame_57 : decode mN_saysTheSame.2.1 57 = .ok (.aload_n 1, 1) := by decide +kernel
theorem dN_saysTheSame_58 : decode mN_saysTheSame.2.1 58 = .ok (.getfield 41, 3) := by decide +kernel
theorem dN_saysTheSame_61 : decode mN_saysTheSame.2.1 61 = .ok (.if_icmp .ne 41, 3) := by decide +kernel
theorem dN_saysTheSame_64 : decode mN_saysTheSame.2.1 64 = .ok (.aload_n 0, 1) := by decide +kernel
theorem dN_saysTheSame_65 : decode mN_saysTheSame.2.1 65 = .ok (.getfield 44, 3) := by decide +kernel
theorem dN_saysTheSame_68 : decode mN_saysTheSame.2.1 68 = .ok (.aload_n 1, 1) := by decide +kernel
theorem dN_saysTheSame_69 : decode mN_saysTheSame.2.1 69 = .ok (.getfield 44, 3) := by decide +kernel
theorem dN_saysTheSame_72 : decode mN_saysTheSame.2.1 72 = .ok (.dcmp .l, 1) := by decide +kernel
theorem dN_saysTheSame_73 : decode mN_saysTheSame.2.1 73 = .ok (.ifCond .ne 29, 3) := by decide +kernel
theorem dN_saysTheSame_76 : decode mN_saysTheSame.2.1 76 = .ok (.aload_n 0, 1) := by decide +kernel
theorem dN_saysTheSame_77 : decode mN_saysTheSame.2.1 77 = .ok (.getfield 57, 3) := by decide +kernel
theorem dN_saysTheSame_80 : decode mN_saysTheSame.2.1 80 = .ok (.aload_n 1, 1) := by decide +kernel
theorem dN_saysTheSame_81 : decode mN_saysTheSame.2.1 81 = .ok (.getfield 57, 3) := by decide +kernel
theorem dN_saysTheSame_84 : decode mN_saysTheSame.2.1 84 = .ok (.if_icmp .ne 18, 3) := by decide +kernel
theorem dN_saysTheSame_87 : decode mN_saysTheSame.2.1 87 = .ok (.aload_n 0, 1) := by decide +kernel
theorem dN_saysTheSame_88 : decode mN_saysTheSame.2.1 88 = .ok (.getfield 60, 3) := by decide +kernel
theorem dN_saysTheSame_91 : decode mN_saysTheSame.2.1 91 = .ok (.aload_n 1, 1) := by decide +kernel
theorem dN_saysTheSame_92 : decode mN_saysTheSame.2.1 92 = .ok (.getfield 60, 3) := by decide +kernel
theorem dN_saysTheSame_95 : decode mN_saysTheSame.2.1 95 = .ok (.if_icmp .ne 7, 3) := by decide +kernel
theorem dN_saysTheSame_98 : decode mN_saysTheSame.2.1 98 = .ok (.iconst 1, 1) := by decide +kernel
theorem dN_saysTheSame_99 : decode mN_saysTheSame.2.1 99 = .ok (.goto 4, 3) := by decide +kernel
theorem dN_saysTheSame_102 : decode mN_saysTheSame.2.1 102 = .ok (.iconst 0, 1) := by decide +kernel
theorem dN_saysTheSame_103 : decode mN_saysTheSame.2.1 103 = .ok (.ireturn, 1) := by decide +kernel
theorem dG_markNeeded_0 : decode mG_markNeeded.2.1 0 = .ok (.aload_n 0, 1) := by decide +kernel
theorem dG_markNeeded_1 : decode mG_markNeeded.2.1 1 = .ok (.getfield 21, 3) := by decide +kernel
theorem dG_markNeeded_4 : decode mG_markNeeded.2.1 4 = .ok (.iconst 0, 1) := by decide +kernel
theorem dG_markNeeded_5 : decode mG_markNeeded.2.1 5 = .ok (.invokestatic 106, 3) := by decide +kernel
theorem dG_markNeeded_8 : decode mG_markNeeded.2.1 8 = .ok (.aload_n 0, 1) := by decide +kernel
theorem dG_markNeeded_9 : decode mG_markNeeded.2.1 9 = .ok (.getfield 21, 3) := by decide +kernel
theorem dG_markNeeded_12 : decode mG_markNeeded.2.1 12 = .ok (.iload_n 1, 1) := by decide +kernel
theorem dG_markNeeded_13 : decode mG_markNeeded.2.1 13 = .ok (.iconst 2, 1) := by decide +kernel
theorem dG_markNeeded_14 : decode mG_markNeeded.2.1 14 = .ok (.iastore, 1) := by decide +kernel
theorem dG_markNeeded_15 : decode mG_markNeeded.2.1 15 = .ok (.iload_n 1, 1) := by decide +kernel
theorem dG_markNeeded_16 : decode mG_markNeeded.2.1 16 = .ok (.istore_n 2, 1) := by decide +kernel
theorem dG_markNeeded_17 : decode mG_markNeeded.2.1 17 = .ok (.iload_n 2, 1) := by decide +kernel
theorem dG_markNeeded_18 : decode mG_markNeeded.2.1 18 = .ok (.ifCond .lt 45, 3) := by decide +kernel
theorem dG_markNeeded_21 : decode mG_markNeeded.2.1 21 = .ok (.aload_n 0, 1) := by decide +kernel
theorem dG_markNeeded_22 : decode mG_markNeeded.2.1 22 = .ok (.getfield 21, 3) := by decide +kernel
theorem dG_markNeeded_25 : decode mG_markNeeded.2.1 25 = .ok (.iload_n 2, 1) := by decide +kernel
theorem dG_markNeeded_26 : decode mG_markNeeded.2.1 26 = .ok (.iaload, 1) := by decide +kernel
theorem dG_markNeeded_27 : decode mG_markNeeded.2.1 27 = .ok (.iconst 2, 1) := by decide +kernel
theorem dG_markNeeded_28 : decode mG_markNeeded.2.1 28 = .ok (.if_icmp .ne 29, 3) := by decide +kernel
theorem dG_markNeeded_31 : decode mG_markNeeded.2.1 31 = .ok (.aload_n 0, 1) := by decide +kernel
theorem dG_markNeeded_32 : decode mG_markNeeded.2.1 32 = .ok (.aload_n 0, 1) := by decide +kernel
theorem dG_markNeeded_33 : decode mG_markNeeded.2.1 33 = .ok (.getfield 11, 3) := by decide +kernel
theorem dG_markNeeded_36 : decode mG_markNeeded.2.1 36 = .ok (.iload_n 2, 1) := by decide +kernel
theorem dG_markNeeded_37 : decode mG_markNeeded.2.1 37 = .ok (.aaload, 1) := by decide +kernel
theorem dG_markNeeded_38 : decode mG_markNeeded.2.1 38 = .ok (.getfield 56, 3) := by decide +kernel
theorem dG_markNeeded_41 : decode mG_markNeeded.2.1 41 = .ok (.invokevirtual 112, 3) := by decide +kernel
theorem dG_markNeeded_44 : decode mG_markNeeded.2.1 44 = .ok (.aload_n 0, 1) := by decide +kernel
theorem dG_markNeeded_45 : decode mG_markNeeded.2.1 45 = .ok (.aload_n 0, 1) := by decide +kernel
theorem dG_markNeeded_46 : decode mG_markNeeded.2.1 46 = .ok (.getfield 11, 3) := by decide +kernel
theorem dG_markNeeded_49 : decode mG_markNeeded.2.1 49 = .ok (.iload_n 2, 1) := by decide +kernel
theorem dG_markNeeded_50 : decode mG_markNeeded.2.1 50 = .ok (.aaload, 1) := by decide +kernel
theorem dG_markNeeded_51 : decode mG_markNeeded.2.1 51 = .ok (.getfield 103, 3) := by decide +kernel
theorem dG_markNeeded_54 : decode mG_markNeeded.2.1 54 = .ok (.invokevirtual 112, 3) := by decide +kernel
theorem dG_markNeeded_57 : decode mG_markNeeded.2.1 57 = .ok (.iinc 2 (-1), 3) := by decide +kernel
theorem dG_markNeeded_60 : decode mG_markNeeded.2.1 60 = .ok (.goto (-43), 3) := by decide +kernel
theorem dG_markNeeded_63 : decode mG_markNeeded.2.1 63 = .ok (.return_, 1) := by decide +kernel
theorem dJ_fill_0 : decode mJ_fill.2.1 0 = .ok (.iconst 0, 1) := by decide +kernel
theorem dJ_fill_1 : decode mJ_fill.2.1 1 = .ok (.istore_n 2, 1) := by decide +kernel
theorem dJ_fill_2 : decode mJ_fill.2.1 2 = .ok (.aload_n 0, 1) := by decide +kernel
theorem dJ_fill_3 : decode mJ_fill.2.1 3 = .ok (.arraylength, 1) := by decide +kernel
theorem dJ_fill_4 : decode mJ_fill.2.1 4 = .ok (.istore_n 3, 1) := by decide +kernel
theorem dJ_fill_5 : decode mJ_fill.2.1 5 = .ok (.iload_n 2, 1) := by decide +kernel
theorem dJ_fill_6 : decode mJ_fill.2.1 6 = .ok (.iload_n 3, 1) := by decide +kernel
theorem dJ_fill_7 : decode mJ_fill.2.1 7 = .ok (.if_icmp .ge 13, 3) := by decide +kernel
theorem dJ_fill_10 : decode mJ_fill.2.1 10 = .ok (.aload_n 0, 1) := by decide +kernel
theorem dJ_fill_11 : decode mJ_fill.2.1 11 = .ok (.iload_n 2, 1) := by decide +kernel
theorem dJ_fill_12 : decode mJ_fill.2.1 12 = .ok (.iload_n 1, 1) := by decide +kernel
theorem dJ_fill_13 : decode mJ_fill.2.1 13 = .ok (.iastore, 1) := by decide +kernel
theorem dJ_fill_14 : decode mJ_fill.2.1 14 = .ok (.iinc 2 1, 3) := by decide +kernel
theorem dJ_fill_17 : decode mJ_fill.2.1 17 = .ok (.goto (-12), 3) := by decide +kernel
theorem dJ_fill_20 : decode mJ_fill.2.1 20 = .ok (.return_, 1) := by decide +kernel
theorem dG_need_0 : decode mG_need.2.1 0 = .ok (.iload_n 1, 1) := by decide +kernel
theorem dG_need_1 : decode mG_need.2.1 1 = .ok (.iconst (-1), 1) := by decide +kernel
theorem dG_need_2 : decode mG_need.2.1 2 = .ok (.if_icmp .eq 15, 3) := by decide +kernel
theorem dG_need_5 : decode mG_need.2.1 5 = .ok (.aload_n 0, 1) := by decide +kernel
theorem dG_need_6 : decode mG_need.2.1 6 = .ok (.getfield 21, 3) := by decide +kernel
theorem dG_need_9 : decode mG_need.2.1 9 = .ok (.aload_n 0, 1) := by decide +kernel
theorem dG_need_10 : decode mG_need.2.1 10 = .ok (.getfield 17, 3) := by decide +kernel
theorem dG_need_13 : decode mG_need.2.1 13 = .ok (.iload_n 1, 1) := by decide +kernel
theorem dG_need_14 : decode mG_need.2.1 14 = .ok (.iaload, 1) := by decide +kernel
theorem dG_need_15 : decode mG_need.2.1 15 = .ok (.iconst 2, 1) := by decide +kernel
theorem dG_need_16 : decode mG_need.2.1 16 = .ok (.iastore, 1) := by decide +kernel
theorem dG_need_17 : decode mG_need.2.1 17 = .ok (.return_, 1) := by decide +kernel
theorem dG_fuse_0 : decode mG_fuse.2.1 0 = .ok (.iconst 0, 1) := by decide +kernel
theorem dG_fuse_1 : decode mG_fuse.2.1 1 = .ok (.istore_n 2, 1) := by decide +kernel
theorem dG_fuse_2 : decode mG_fuse.2.1 2 = .ok (.iload_n 2, 1) := by decide +kernel
theorem dG_fuse_3 : decode mG_fuse.2.1 3 = .ok (.aload_n 0, 1) := by decide +kernel
theorem dG_fuse_4 : decode mG_fuse.2.1 4 = .ok (.getfield 33, 3) := by decide +kernel
theorem dG_fuse_7 : decode mG_fuse.2.1 7 = .ok (.if_icmp .ge 51, 3) := by decide +kernel
theorem dG_fuse_10 : decode mG_fuse.2.1 10 = .ok (.aload_n 0, 1) := by decide +kernel
theorem dG_fuse_11 : decode mG_fuse.2.1 11 = .ok (.getfield 21, 3) := by decide +kernel
theorem dG_fuse_14 : decode mG_fuse.2.1 14 = .ok (.iload_n 2, 1) := by decide +kernel
theorem dG_fuse_15 : decode mG_fuse.2.1 15 = .ok (.iaload, 1) := by decide +kernel
theorem dG_fuse_16 : decode mG_fuse.2.1 16 = .ok (.iconst 2, 1) := by decide +kernel
theorem dG_fuse_17 : decode mG_fuse.2.1 17 = .ok (.if_icmp .ne 35, 3) := by decide +kernel
theorem dG_fuse_20 : decode mG_fuse.2.1 20 = .ok (.iload_n 2, 1) := by decide +kernel
theorem dG_fuse_21 : decode mG_fuse.2.1 21 = .ok (.iload_n 1, 1) := by decide +kernel
theorem dG_fuse_22 : decode mG_fuse.2.1 22 = .ok (.if_icmp .eq 30, 3) := by decide +kernel
theorem dG_fuse_25 : decode mG_fuse.2.1 25 = .ok (.aload_n 0, 1) := by decide +kernel
theorem dG_fuse_26 : decode mG_fuse.2.1 26 = .ok (.getfield 11, 3) := by decide +kernel
theorem dG_fuse_29 : decode mG_fuse.2.1 29 = .ok (.iload_n 2, 1) := by decide +kernel
theorem dG_fuse_30 : decode mG_fuse.2.1 30 = .ok (.aaload, 1) := by decide +kernel
theorem dG_fuse_31 : decode mG_fuse.2.1 31 = .ok (.invokevirtual 115, 3) := by decide +kernel
theorem dG_fuse_34 : decode mG_fuse.2.1 34 = .ok (.ifCond .eq 18, 3) := by decide +kernel
theorem dG_fuse_37 : decode mG_fuse.2.1 37 = .ok (.aload_n 0, 1) := by decide +kernel
theorem dG_fuse_38 : decode mG_fuse.2.1 38 = .ok (.iload_n 2, 1) := by decide +kernel
theorem dG_fuse_39 : decode mG_fuse.2.1 39 = .ok (.invokevirtual 119, 3) := by decide +kernel
theorem dG_fuse_42 : decode mG_fuse.2.1 42 = .ok (.ifCond .eq 10, 3) := by decide +kernel
theorem dG_fuse_45 : decode mG_fuse.2.1 45 = .ok (.aload_n 0, 1) := by decide +kernel
theorem dG_fuse_46 : decode mG_fuse.2.1 46 = .ok (.getfield 21, 3) := by decide +kernel
theorem dG_fuse_49 : decode mG_fuse.2.1 49 = .ok (.iload_n 2, 1) := by decide +kernel
theorem dG_fuse_50 : decode mG_fuse.2.1 50 = .ok (.iconst 1, 1) := by decide +kernel
theorem dG_fuse_51 : decode mG_fuse.2.1 51 = .ok (.iastore, 1) := by decide +kernel
theorem dG_fuse_52 : decode mG_fuse.2.1 52 = .ok (.iinc 2 1, 3) := by decide +kernel
theorem dG_fuse_55 : decode mG_fuse.2.1 55 = .ok (.goto (-53), 3) := by decide +kernel
theorem dG_fuse_58 : decode mG_fuse.2.1 58 = .ok (.return_, 1) := by decide +kernel
theorem dN_hasWeights_0 : decode mN_hasWeights.2.1 0 = .ok (.aload_n 0, 1) := by decide +kernel
theorem dN_hasWeights_1 : decode mN_hasWeights.2.1 1 = .ok (.getfield 9, 3) := by decide +kernel
theorem dN_hasWeights_4 : decode mN_hasWeights.2.1 4 = .ok (.iconst 1, 1) := by decide +kernel
theorem dN_hasWeights_5 : decode mN_hasWeights.2.1 5 = .ok (.if_icmp .eq 19, 3) := by decide +kernel
theorem dN_hasWeights_8 : decode mN_hasWeights.2.1 8 = .ok (.aload_n 0, 1) := by decide +kernel
theorem dN_hasWeights_9 : decode mN_hasWeights.2.1 9 = .ok (.getfield 9, 3) := by decide +kernel
theorem dN_hasWeights_12 : decode mN_hasWeights.2.1 12 = .ok (.iconst 2, 1) := by decide +kernel
theorem dN_hasWeights_13 : decode mN_hasWeights.2.1 13 = .ok (.if_icmp .eq 11, 3) := by decide +kernel
theorem dN_hasWeights_16 : decode mN_hasWeights.2.1 16 = .ok (.aload_n 0, 1) := by decide +kernel
theorem dN_hasWeights_17 : decode mN_hasWeights.2.1 17 = .ok (.getfield 9, 3) := by decide +kernel
theorem dN_hasWeights_20 : decode mN_hasWeights.2.1 20 = .ok (.iconst 3, 1) := by decide +kernel
theorem dN_hasWeights_21 : decode mN_hasWeights.2.1 21 = .ok (.if_icmp .ne 7, 3) := by decide +kernel
theorem dN_hasWeights_24 : decode mN_hasWeights.2.1 24 = .ok (.iconst 1, 1) := by decide +kernel
theorem dN_hasWeights_25 : decode mN_hasWeights.2.1 25 = .ok (.goto 4, 3) := by decide +kernel
theorem dN_hasWeights_28 : decode mN_hasWeights.2.1 28 = .ok (.iconst 0, 1) := by decide +kernel
theorem dN_hasWeights_29 : decode mN_hasWeights.2.1 29 = .ok (.ireturn, 1) := by decide +kernel
theorem dG_feedsOneClamp_0 : decode mG_feedsOneClamp.2.1 0 = .ok (.iconst 0, 1) := by decide +kernel
theorem dG_feedsOneClamp_1 : decode mG_feedsOneClamp.2.1 1 = .ok (.istore_n 2, 1) := by decide +kernel
theorem dG_feedsOneClamp_2 : decode mG_feedsOneClamp.2.1 2 = .ok (.iconst 0, 1) := by decide +kernel
theorem dG_feedsOneClamp_3 : decode mG_feedsOneClamp.2.1 3 = .ok (.istore_n 3, 1) := by decide +kernel
theorem dG_feedsOneClamp_4 : decode mG_feedsOneClamp.2.1 4 = .ok (.iload_n 1, 1) := by decide +kernel
theorem dG_feedsOneClamp_5 : decode mG_feedsOneClamp.2.1 5 = .ok (.iconst 1, 1) := by decide +kernel
theorem dG_feedsOneClamp_6 : decode mG_feedsOneClamp.2.1 6 = .ok (.iadd, 1) := by decide +kernel
theorem dG_feedsOneClamp_7 : decode mG_feedsOneClamp.2.1 7 = .ok (.istore 4, 2) := by decide +kernel
theorem dG_feedsOneClamp_9 : decode mG_feedsOneClamp.2.1 9 = .ok (.iload 4, 2) := by decide +kernel
theorem dG_feedsOneClamp_11 : decode mG_feedsOneClamp.2.1 11 = .ok (.aload_n 0, 1) := by decide +kernel
theorem dG_feedsOneClamp_12 : decode mG_feedsOneClamp.2.1 12 = .ok (.getfield 33, 3) := by decide +kernel
theorem dG_feedsOneClamp_15 : decode mG_feedsOneClamp.2.1 15 = .ok (.if_icmp .ge 62, 3) := by decide +kernel
theorem dG_feedsOneClamp_18 : decode mG_feedsOneClamp.2.1 18 = .ok (.aload_n 0, 1) := by decide +kernel
theorem dG_feedsOneClamp_19 : decode mG_feedsOneClamp.2.1 19 = .ok (.getfield 21, 3) := by decide +kernel
theorem dG_feedsOneClamp_22 : decode mG_feedsOneClamp.2.1 22 = .ok (.iload 4, 2) := by decide +kernel
theorem dG_feedsOneClamp_24 : decode mG_feedsOneClamp.2.1 24 = .ok (.iaload, 1) := by decide +kernel
theorem dG_feedsOneClamp_25 : decode mG_feedsOneClamp.2.1 25 = .ok (.ifCond .eq 46, 3) := by decide +kernel
theorem dG_feedsOneClamp_28 : decode mG_feedsOneClamp.2.1 28 = .ok (.aload_n 0, 1) := by decide +kernel
theorem dG_feedsOneClamp_29 : decode mG_feedsOneClamp.2.1 29 = .ok (.aload_n 0, 1) := by decide +kernel
theorem dG_feedsOneClamp_30 : decode mG_feedsOneClamp.2.1 30 = .ok (.getfield 11, 3) := by decide +kernel
theorem dG_feedsOneClamp_33 : decode mG_feedsOneClamp.2.1 33 = .ok (.iload 4, 2) := by decide +kernel
theorem dG_feedsOneClamp_35 : decode mG_feedsOneClamp.2.1 35 = .ok (.aaload, 1) := by decide +kernel
theorem dG_feedsOneClamp_36 : decode mG_feedsOneClamp.2.1 36 = .ok (.iload_n 1, 1) := by decide +kernel
theorem dG_feedsOneClamp_37 : decode mG_feedsOneClamp.2.1 37 = .ok (.invokevirtual 123, 3) := by decide +kernel
theorem dG_feedsOneClamp_40 : decode mG_feedsOneClamp.2.1 40 = .ok (.istore 5, 2) := by decide +kernel
theorem dG_feedsOneClamp_42 : decode mG_feedsOneClamp.2.1 42 = .ok (.iload_n 2, 1) := by decide +kernel
theorem dG_feedsOneClamp_43 : decode mG_feedsOneClamp.2.1 43 = .ok (.iload 5, 2) := by decide +kernel
theorem dG_feedsOneClamp_45 : decode mG_feedsOneClamp.2.1 45 = .ok (.iadd, 1) := by decide +kernel
theorem dG_feedsOneClamp_46 : decode mG_feedsOneClamp.2.1 46 = .ok (.istore_n 2, 1) := by decide +kernel
theorem dG_feedsOneClamp_47 : decode mG_feedsOneClamp.2.1 47 = .ok (.iload_n 3, 1) := by decide +kernel
theorem dG_feedsOneClamp_48 : decode mG_feedsOneClamp.2.1 48 = .ok (.aload_n 0, 1) := by decide +kernel
theorem dG_feedsOneClamp_49 : decode mG_feedsOneClamp.2.1 49 = .ok (.getfield 11, 3) := by decide +kernel
theorem dG_feedsOneClamp_52 : decode mG_feedsOneClamp.2.1 52 = .ok (.iload 4, 2) := by decide +kernel
theorem dG_feedsOneClamp_54 : decode mG_feedsOneClamp.2.1 54 = .ok (.aaload, 1) := by decide +kernel
theorem dG_feedsOneClamp_55 : decode mG_feedsOneClamp.2.1 55 = .ok (.getfield 70, 3) := by decide +kernel
theorem dG_feedsOneClamp_58 : decode mG_feedsOneClamp.2.1 58 = .ok (.bipush 9, 2) := by decide +kernel
theorem dG_feedsOneClamp_60 : decode mG_feedsOneClamp.2.1 60 = .ok (.if_icmp .ne 8, 3) := by decide +kernel
theorem dG_feedsOneClamp_63 : decode mG_feedsOneClamp.2.1 63 = .ok (.iload 5, 2) := by decide +kernel
theorem dG_feedsOneClamp_65 : decode mG_feedsOneClamp.2.1 65 = .ok (.goto 4, 3) := by decide +kernel
theorem dG_feedsOneClamp_68 : decode mG_feedsOneClamp.2.1 68 = .ok (.iconst 0, 1) := by decide +kernel
theorem dG_feedsOneClamp_69 : decode mG_feedsOneClamp.2.1 69 = .ok (.iadd, 1) := by decide +kernel
theorem dG_feedsOneClamp_70 : decode mG_feedsOneClamp.2.1 70 = .ok (.istore_n 3, 1) := by decide +kernel
theorem dG_feedsOneClamp_71 : decode mG_feedsOneClamp.2.1 71 = .ok (.iinc 4 1, 3) := by decide +kernel
theorem dG_feedsOneClamp_74 : decode mG_feedsOneClamp.2.1 74 = .ok (.goto (-65), 3) := by decide +kernel
theorem dG_feedsOneClamp_77 : decode mG_feedsOneClamp.2.1 77 = .ok (.iload_n 2, 1) := by decide +kernel
theorem dG_feedsOneClamp_78 : decode mG_feedsOneClamp.2.1 78 = .ok (.iconst 1, 1) := by decide +kernel
theorem dG_feedsOneClamp_79 : decode mG_feedsOneClamp.2.1 79 = .ok (.if_icmp .ne 12, 3) := by decide +kernel
theorem dG_feedsOneClamp_82 : decode mG_feedsOneClamp.2.1 82 = .ok (.iload_n 3, 1) := by decide +kernel
theorem dG_feedsOneClamp_83 : decode mG_feedsOneClamp.2.1 83 = .ok (.iconst 1, 1) := by decide +kernel
theorem dG_feedsOneClamp_84 : decode mG_feedsOneClamp.2.1 84 = .ok (.if_icmp .ne 7, 3) := by decide +kernel
theorem dG_feedsOneClamp_87 : decode mG_feedsOneClamp.2.1 87 = .ok (.iconst 1, 1) := by decide +kernel
theorem dG_feedsOneClamp_88 : decode mG_feedsOneClamp.2.1 88 = .ok (.goto 4, 3) := by decide +kernel
theorem dG_feedsOneClamp_91 : decode mG_feedsOneClamp.2.1 91 = .ok (.iconst 0, 1) := by decide +kernel
theorem dG_feedsOneClamp_92 : decode mG_feedsOneClamp.2.1 92 = .ok (.ireturn, 1) := by decide +kernel
theorem dG_timesUsed_0 : decode mG_timesUsed.2.1 0 = .ok (.aload_n 0, 1) := by decide +kernel
theorem dG_timesUsed_1 : decode mG_timesUsed.2.1 1 = .ok (.aload_n 1, 1) := by decide +kernel
theorem dG_timesUsed_2 : decode mG_timesUsed.2.1 2 = .ok (.getfield 56, 3) := by decide +kernel
theorem dG_timesUsed_5 : decode mG_timesUsed.2.1 5 = .ok (.invokevirtual 59, 3) := by decide +kernel
theorem dG_timesUsed_8 : decode mG_timesUsed.2.1 8 = .ok (.iload_n 2, 1) := by decide +kernel
theorem dG_timesUsed_9 : decode mG_timesUsed.2.1 9 = .ok (.if_icmp .ne 7, 3) := by decide +kernel
theorem dG_timesUsed_12 : decode mG_timesUsed.2.1 12 = .ok (.iconst 1, 1) := by decide +kernel
theorem dG_timesUsed_13 : decode mG_timesUsed.2.1 13 = .ok (.goto 4, 3) := by decide +kernel
theorem dG_timesUsed_16 : decode mG_timesUsed.2.1 16 = .ok (.iconst 0, 1) := by decide +kernel
theorem dG_timesUsed_17 : decode mG_timesUsed.2.1 17 = .ok (.aload_n 0, 1) := by decide +kernel
theorem dG_timesUsed_18 : decode mG_timesUsed.2.1 18 = .ok (.aload_n 1, 1) := by decide +kernel
theorem dG_timesUsed_19 : decode mG_timesUsed.2.1 19 = .ok (.getfield 103, 3) := by decide +kernel
theorem dG_timesUsed_22 : decode mG_timesUsed.2.1 22 = .ok (.invokevirtual 59, 3) := by decide +kernel
theorem dG_timesUsed_25 : decode mG_timesUsed.2.1 25 = .ok (.iload_n 2, 1) := by decide +kernel
theorem dG_timesUsed_26 : decode mG_timesUsed.2.1 26 = .ok (.if_icmp .ne 7, 3) := by decide +kernel
theorem dG_timesUsed_29 : decode mG_timesUsed.2.1 29 = .ok (.iconst 1, 1) := by decide +kernel
theorem dG_timesUsed_30 : decode mG_timesUsed.2.1 30 = .ok (.goto 4, 3) := by decide +kernel
theorem dG_timesUsed_33 : decode mG_timesUsed.2.1 33 = .ok (.iconst 0, 1) := by decide +kernel
theorem dG_timesUsed_34 : decode mG_timesUsed.2.1 34 = .ok (.iadd, 1) := by decide +kernel
theorem dG_timesUsed_35 : decode mG_timesUsed.2.1 35 = .ok (.ireturn, 1) := by decide +kernel
theorem dG_countSteps_0 : decode mG_countSteps.2.1 0 = .ok (.aload_n 0, 1) := by decide +kernel
theorem dG_countSteps_1 : decode mG_countSteps.2.1 1 = .ok (.iconst 0, 1) := by decide +kernel
theorem dG_countSteps_2 : decode mG_countSteps.2.1 2 = .ok (.putfield 127, 3) := by decide +kernel
theorem dG_countSteps_5 : decode mG_countSteps.2.1 5 = .ok (.iconst 0, 1) := by decide +kernel
theorem dG_countSteps_6 : decode mG_countSteps.2.1 6 = .ok (.istore_n 1, 1) := by decide +kernel
theorem dG_countSteps_7 : decode mG_countSteps.2.1 7 = .ok (.iload_n 1, 1) := by decide +kernel
theorem dG_countSteps_8 : decode mG_countSteps.2.1 8 = .ok (.aload_n 0, 1) := by decide +kernel
theorem dG_countSteps_9 : decode mG_countSteps.2.1 9 = .ok (.getfield 33, 3) := by decide +kernel
theorem dG_countSteps_12 : decode mG_countSteps.2.1 12 = .ok (.if_icmp .ge 39, 3) := by decide +kernel
theorem dG_countSteps_15 : decode mG_countSteps.2.1 15 = .ok (.aload_n 0, 1) := by decide +kernel
theorem dG_countSteps_16 : decode mG_countSteps.2.1 16 = .ok (.getfield 21, 3) := by decide +kernel
theorem dG_countSteps_19 : decode mG_countSteps.2.1 19 = .ok (.iload_n 1, 1) := by decide +kernel
theorem dG_countSteps_20 : decode mG_countSteps.2.1 20 = .ok (.iaload, 1) := by decide +kernel
theorem dG_countSteps_21 : decode mG_countSteps.2.1 21 = .ok (.iconst 2, 1) := by decide +kernel
theorem dG_countSteps_22 : decode mG_countSteps.2.1 22 = .ok (.if_icmp .ne 23, 3) := by decide +kernel
theorem dG_countSteps_25 : decode mG_countSteps.2.1 25 = .ok (.aload_n 0, 1) := by decide +kernel
theorem dG_countSteps_26 : decode mG_countSteps.2.1 26 = .ok (.getfield 24, 3) := by decide +kernel
theorem dG_countSteps_29 : decode mG_countSteps.2.1 29 = .ok (.iload_n 1, 1) := by decide +kernel
theorem dG_countSteps_30 : decode mG_countSteps.2.1 30 = .ok (.aload_n 0, 1) := by decide +kernel
theorem dG_countSteps_31 : decode mG_countSteps.2.1 31 = .ok (.getfield 127, 3) := by decide +kernel
theorem dG_countSteps_34 : decode mG_countSteps.2.1 34 = .ok (.iastore, 1) := by decide +kernel
theorem dG_countSteps_35 : decode mG_countSteps.2.1 35 = .ok (.aload_n 0, 1) := by decide +kernel
theorem dG_countSteps_36 : decode mG_countSteps.2.1 36 = .ok (.dup, 1) := by decide +kernel
theorem dG_countSteps_37 : decode mG_countSteps.2.1 37 = .ok (.getfield 127, 3) := by decide +kernel
theorem dG_countSteps_40 : decode mG_countSteps.2.1 40 = .ok (.iconst 1, 1) := by decide +kernel
theorem dG_countSteps_41 : decode mG_countSteps.2.1 41 = .ok (.iadd, 1) := by decide +kernel
theorem dG_countSteps_42 : decode mG_countSteps.2.1 42 = .ok (.putfield 127, 3) := by decide +kernel
theorem dG_countSteps_45 : decode mG_countSteps.2.1 45 = .ok (.iinc 1 1, 3) := by decide +kernel
theorem dG_countSteps_48 : decode mG_countSteps.2.1 48 = .ok (.goto (-41), 3) := by decide +kernel
theorem dG_countSteps_51 : decode mG_countSteps.2.1 51 = .ok (.return_, 1) := by decide +kernel
theorem dG_findLives_0 : decode mG_findLives.2.1 0 = .ok (.iconst 0, 1) := by decide +kernel
