theorem lT_init : (parseMethodDescriptor mT_init.1.desc).map (fun q => q.parameters.length) = some 0 := by decide +kernel
theorem lG_init : (parseMethodDescriptor mG_init.1.desc).map (fun q => q.parameters.length) = some 0 := by decide +kernel
theorem lM_init : (parseMethodDescriptor mM_init.1.desc).map (fun q => q.parameters.length) = some 0 := by decide +kernel
theorem lW_init : (parseMethodDescriptor mW_init.1.desc).map (fun q => q.parameters.length) = some 0 := by decide +kernel
theorem lS_init : (parseMethodDescriptor mS_init.1.desc).map (fun q => q.parameters.length) = some 0 := by decide +kernel
theorem lL_weights : (parseMethodDescriptor mL_weights.1.desc).map (fun q => q.parameters.length) = some 4 := by decide +kernel
theorem lT_weights : (parseMethodDescriptor mT_weights.1.desc).map (fun q => q.parameters.length) = some 2 := by decide +kernel
theorem lT_requireBetween : (parseMethodDescriptor mT_requireBetween.1.desc).map (fun q => q.parameters.length) = some 3 := by decide +kernel
theorem lT_require : (parseMethodDescriptor mT_require.1.desc).map (fun q => q.parameters.length) = some 1 := by decide +kernel
theorem lT_spread : (parseMethodDescriptor mT_spread.1.desc).map (fun q => q.parameters.length) = some 3 := by decide +kernel
theorem lL_weightScale : (parseMethodDescriptor mL_weightScale.1.desc).map (fun q => q.parameters.length) = some 2 := by decide +kernel
theorem lT_weightScale : (parseMethodDescriptor mT_weightScale.1.desc).map (fun q => q.parameters.length) = some 1 := by decide +kernel
theorem lT_requireScale : (parseMethodDescriptor mT_requireScale.1.desc).map (fun q => q.parameters.length) = some 1 := by decide +kernel
theorem lL_input : (parseMethodDescriptor mL_input.1.desc).map (fun q => q.parameters.length) = some 6 := by decide +kernel
theorem lT_input : (parseMethodDescriptor mT_input.1.desc).map (fun q => q.parameters.length) = some 4 := by decide +kernel
theorem lT_requireShape : (parseMethodDescriptor mT_requireShape.1.desc).map (fun q => q.parameters.length) = some 3 := by decide +kernel
theorem lT_requireRoom : (parseMethodDescriptor mT_requireRoom.1.desc).map (fun q => q.parameters.length) = some 0 := by decide +kernel
theorem lN_init : (parseMethodDescriptor mN_init.1.desc).map (fun q => q.parameters.length) = some 7 := by decide +kernel
theorem lT_keep : (parseMethodDescriptor mT_keep.1.desc).map (fun q => q.parameters.length) = some 1 := by decide +kernel
theorem lG_append : (parseMethodDescriptor mG_append.1.desc).map (fun q => q.parameters.length) = some 1 := by decide +kernel
theorem lL_windows : (parseMethodDescriptor mL_windows.1.desc).map (fun q => q.parameters.length) = some 7 := by decide +kernel
theorem lT_windows : (parseMethodDescriptor mT_windows.1.desc).map (fun q => q.parameters.length) = some 5 := by decide +kernel
theorem lT_requireNode : (parseMethodDescriptor mT_requireNode.1.desc).map (fun q => q.parameters.length) = some 1 := by decide +kernel
theorem lT_requireWindowsCode : (parseMethodDescriptor mT_requireWindowsCode.1.desc).map (fun q => q.parameters.length) = some 2 := by decide +kernel
theorem lT_requireWindowFits : (parseMethodDescriptor mT_requireWindowFits.1.desc).map (fun q => q.parameters.length) = some 2 := by decide +kernel
theorem lW_fits : (parseMethodDescriptor mW_fits.1.desc).map (fun q => q.parameters.length) = some 2 := by decide +kernel
theorem lW_isSame : (parseMethodDescriptor mW_isSame.1.desc).map (fun q => q.parameters.length) = some 1 := by decide +kernel
theorem lW_sizeOf : (parseMethodDescriptor mW_sizeOf.1.desc).map (fun q => q.parameters.length) = some 1 := by decide +kernel
theorem lT_requireWeights : (parseMethodDescriptor mT_requireWeights.1.desc).map (fun q => q.parameters.length) = some 3 := by decide +kernel
theorem lT_weightedRatio : (parseMethodDescriptor mT_weightedRatio.1.desc).map (fun q => q.parameters.length) = some 2 := by decide +kernel
theorem lT_requireGood : (parseMethodDescriptor mT_requireGood.1.desc).map (fun q => q.parameters.length) = some 1 := by decide +kernel
theorem lS_isGood : (parseMethodDescriptor mS_isGood.1.desc).map (fun q => q.parameters.length) = some 1 := by decide +kernel
theorem lW_placesOf : (parseMethodDescriptor mW_placesOf.1.desc).map (fun q => q.parameters.length) = some 2 := by decide +kernel
theorem lW_stepOf : (parseMethodDescriptor mW_stepOf.1.desc).map (fun q => q.parameters.length) = some 1 := by decide +kernel
theorem lN_weigh : (parseMethodDescriptor mN_weigh.1.desc).map (fun q => q.parameters.length) = some 3 := by decide +kernel
theorem lL_dense : (parseMethodDescriptor mL_dense.1.desc).map (fun q => q.parameters.length) = some 6 := by decide +kernel
theorem lT_dense : (parseMethodDescriptor mT_dense.1.desc).map (fun q => q.parameters.length) = some 4 := by decide +kernel
theorem lL_add : (parseMethodDescriptor mL_add.1.desc).map (fun q => q.parameters.length) = some 5 := by decide +kernel
theorem lT_add : (parseMethodDescriptor mT_add.1.desc).map (fun q => q.parameters.length) = some 3 := by decide +kernel
theorem lN_hasShape : (parseMethodDescriptor mN_hasShape.1.desc).map (fun q => q.parameters.length) = some 3 := by decide +kernel
theorem lL_concat : (parseMethodDescriptor mL_concat.1.desc).map (fun q => q.parameters.length) = some 4 := by decide +kernel
theorem lT_concat : (parseMethodDescriptor mT_concat.1.desc).map (fun q => q.parameters.length) = some 2 := by decide +kernel
theorem lL_reshape : (parseMethodDescriptor mL_reshape.1.desc).map (fun q => q.parameters.length) = some 6 := by decide +kernel
theorem lT_reshape : (parseMethodDescriptor mT_reshape.1.desc).map (fun q => q.parameters.length) = some 4 := by decide +kernel
theorem lL_pool : (parseMethodDescriptor mL_pool.1.desc).map (fun q => q.parameters.length) = some 5 := by decide +kernel
theorem lT_pool : (parseMethodDescriptor mT_pool.1.desc).map (fun q => q.parameters.length) = some 3 := by decide +kernel
theorem lL_clamp : (parseMethodDescriptor mL_clamp.1.desc).map (fun q => q.parameters.length) = some 5 := by decide +kernel
theorem lT_clamp : (parseMethodDescriptor mT_clamp.1.desc).map (fun q => q.parameters.length) = some 3 := by decide +kernel
theorem lL_rescale : (parseMethodDescriptor mL_rescale.1.desc).map (fun q => q.parameters.length) = some 4 := by decide +kernel
theorem lT_rescale : (parseMethodDescriptor mT_rescale.1.desc).map (fun q => q.parameters.length) = some 2 := by decide +kernel
theorem lL_output : (parseMethodDescriptor mL_output.1.desc).map (fun q => q.parameters.length) = some 3 := by decide +kernel
theorem lT_output : (parseMethodDescriptor mT_output.1.desc).map (fun q => q.parameters.length) = some 1 := by decide +kernel
theorem lL_compile : (parseMethodDescriptor mL_compile.1.desc).map (fun q => q.parameters.length) = some 2 := by decide +kernel
theorem lT_compile : (parseMethodDescriptor mT_compile.1.desc).map (fun q => q.parameters.length) = some 0 := by decide +kernel
theorem lG_plan : (parseMethodDescriptor mG_plan.1.desc).map (fun q => q.parameters.length) = some 1 := by decide +kernel
theorem lG_makeSmaller : (parseMethodDescriptor mG_makeSmaller.1.desc).map (fun q => q.parameters.length) = some 0 := by decide +kernel
theorem lG_changesNothing : (parseMethodDescriptor mG_changesNothing.1.desc).map (fun q => q.parameters.length) = some 1 := by decide +kernel
theorem lG_meant : (parseMethodDescriptor mG_meant.1.desc).map (fun q => q.parameters.length) = some 1 := by decide +kernel
theorem lG_firstAlike : (parseMethodDescriptor mG_firstAlike.1.desc).map (fun q => q.parameters.length) = some 1 := by decide +kernel
theorem lG_alike : (parseMethodDescriptor mG_alike.1.desc).map (fun q => q.parameters.length) = some 2 := by decide +kernel
theorem lN_saysTheSame : (parseMethodDescriptor mN_saysTheSame.1.desc).map (fun q => q.parameters.length) = some 1 := by decide +kernel
theorem lG_markNeeded : (parseMethodDescriptor mG_markNeeded.1.desc).map (fun q => q.parameters.length) = some 1 := by decide +kernel
theorem lJ_fill : (parseMethodDescriptor mJ_fill.1.desc).map (fun q => q.parameters.length) = some 2 := by decide +kernel
theorem lG_need : (parseMethodDescriptor mG_need.1.desc).map (fun q => q.parameters.length) = some 1 := by decide +kernel
theorem lG_fuse : (parseMethodDescriptor mG_fuse.1.desc).map (fun q => q.parameters.length) = some 1 := by decide +kernel
theorem lN_hasWeights : (parseMethodDescriptor mN_hasWeights.1.desc).map (fun q => q.parameters.length) = some 0 := by decide +kernel
theorem lG_feedsOneClamp : (parseMethodDescriptor mG_feedsOneClamp.1.desc).map (fun q => q.parameters.length) = some 1 := by decide +kernel
theorem lG_timesUsed : (parseMethodDescriptor mG_timesUsed.1.desc).map (fun q => q.parameters.length) = some 2 := by decide +kernel
theorem lG_countSteps : (parseMethodDescriptor mG_countSteps.1.desc).map (fun q => q.parameters.length) = some 0 := by decide +kernel
theorem lG_findLives : (parseMethodDescriptor mG_findLives.1.desc).map (fun q => q.parameters.length) = some 1 := by decide +kernel
theorem lG_fusedInto : (parseMethodDescriptor mG_fusedInto.1.desc).map (fun q => q.parameters.length) = some 1 := by decide +kernel
theorem lG_keepAlive : (parseMethodDescriptor mG_keepAlive.1.desc).map (fun q => q.parameters.length) = some 2 := by decide +kernel
theorem lG_givePlaces : (parseMethodDescriptor mG_givePlaces.1.desc).map (fun q => q.parameters.length) = some 0 := by decide +kernel
theorem lG_largestWithoutPlace : (parseMethodDescriptor mG_largestWithoutPlace.1.desc).map (fun q => q.parameters.length) = some 0 := by decide +kernel
theorem lG_leastFreePlace : (parseMethodDescriptor mG_leastFreePlace.1.desc).map (fun q => q.parameters.length) = some 1 := by decide +kernel
theorem lG_nodeInTheWay : (parseMethodDescriptor mG_nodeInTheWay.1.desc).map (fun q => q.parameters.length) = some 2 := by decide +kernel
theorem lG_liveTogether : (parseMethodDescriptor mG_liveTogether.1.desc).map (fun q => q.parameters.length) = some 2 := by decide +kernel
theorem lL_feed : (parseMethodDescriptor mL_feed.1.desc).map (fun q => q.parameters.length) = some 5 := by decide +kernel
theorem lT_feed : (parseMethodDescriptor mT_feed.1.desc).map (fun q => q.parameters.length) = some 3 := by decide +kernel
theorem lL_run : (parseMethodDescriptor mL_run.1.desc).map (fun q => q.parameters.length) = some 3 := by decide +kernel
theorem lT_run : (parseMethodDescriptor mT_run.1.desc).map (fun q => q.parameters.length) = some 1 := by decide +kernel
theorem lT_requireCompiled : (parseMethodDescriptor mT_requireCompiled.1.desc).map (fun q => q.parameters.length) = some 0 := by decide +kernel
theorem lM_perform : (parseMethodDescriptor mM_perform.1.desc).map (fun q => q.parameters.length) = some 2 := by decide +kernel
theorem lM_doStep : (parseMethodDescriptor mM_doStep.1.desc).map (fun q => q.parameters.length) = some 2 := by decide +kernel
theorem lM_compute : (parseMethodDescriptor mM_compute.1.desc).map (fun q => q.parameters.length) = some 3 := by decide +kernel
theorem lG_placeMeant : (parseMethodDescriptor mG_placeMeant.1.desc).map (fun q => q.parameters.length) = some 1 := by decide +kernel
theorem lM_connect : (parseMethodDescriptor mM_connect.1.desc).map (fun q => q.parameters.length) = some 4 := by decide +kernel
theorem lS_take : (parseMethodDescriptor mS_take.1.desc).map (fun q => q.parameters.length) = some 1 := by decide +kernel
theorem lM_bias : (parseMethodDescriptor mM_bias.1.desc).map (fun q => q.parameters.length) = some 3 := by decide +kernel
theorem lS_scaled : (parseMethodDescriptor mS_scaled.1.desc).map (fun q => q.parameters.length) = some 1 := by decide +kernel
theorem lM_cut : (parseMethodDescriptor mM_cut.1.desc).map (fun q => q.parameters.length) = some 1 := by decide +kernel
theorem lM_addUp : (parseMethodDescriptor mM_addUp.1.desc).map (fun q => q.parameters.length) = some 4 := by decide +kernel
theorem lM_join : (parseMethodDescriptor mM_join.1.desc).map (fun q => q.parameters.length) = some 5 := by decide +kernel
theorem lM_hold : (parseMethodDescriptor mM_hold.1.desc).map (fun q => q.parameters.length) = some 3 := by decide +kernel
theorem lM_changeScale : (parseMethodDescriptor mM_changeScale.1.desc).map (fun q => q.parameters.length) = some 3 := by decide +kernel
theorem lM_slide : (parseMethodDescriptor mM_slide.1.desc).map (fun q => q.parameters.length) = some 4 := by decide +kernel
theorem lW_lay : (parseMethodDescriptor mW_lay.1.desc).map (fun q => q.parameters.length) = some 2 := by decide +kernel
theorem lW_before : (parseMethodDescriptor mW_before.1.desc).map (fun q => q.parameters.length) = some 2 := by decide +kernel
theorem lW_move : (parseMethodDescriptor mW_move.1.desc).map (fun q => q.parameters.length) = some 2 := by decide +kernel
theorem lM_ofWindow : (parseMethodDescriptor mM_ofWindow.1.desc).map (fun q => q.parameters.length) = some 4 := by decide +kernel
theorem lM_sumAllChannels : (parseMethodDescriptor mM_sumAllChannels.1.desc).map (fun q => q.parameters.length) = some 4 := by decide +kernel
theorem lM_sumOneChannel : (parseMethodDescriptor mM_sumOneChannel.1.desc).map (fun q => q.parameters.length) = some 4 := by decide +kernel
theorem lM_greatest : (parseMethodDescriptor mM_greatest.1.desc).map (fun q => q.parameters.length) = some 2 := by decide +kernel
theorem lM_average : (parseMethodDescriptor mM_average.1.desc).map (fun q => q.parameters.length) = some 2 := by decide +kernel
theorem lM_sumOfResult : (parseMethodDescriptor mM_sumOfResult.1.desc).map (fun q => q.parameters.length) = some 0 := by decide +kernel
theorem lL_arena : (parseMethodDescriptor mL_arena.1.desc).map (fun q => q.parameters.length) = some 3 := by decide +kernel
theorem lT_arena : (parseMethodDescriptor mT_arena.1.desc).map (fun q => q.parameters.length) = some 1 := by decide +kernel
theorem lT_requirePresent : (parseMethodDescriptor mT_requirePresent.1.desc).map (fun q => q.parameters.length) = some 1 := by decide +kernel
theorem lL_result : (parseMethodDescriptor mL_result.1.desc).map (fun q => q.parameters.length) = some 3 := by decide +kernel
theorem lT_result : (parseMethodDescriptor mT_result.1.desc).map (fun q => q.parameters.length) = some 1 := by decide +kernel
theorem lL_about : (parseMethodDescriptor mL_about.1.desc).map (fun q => q.parameters.length) = some 4 := by decide +kernel
theorem lT_about : (parseMethodDescriptor mT_about.1.desc).map (fun q => q.parameters.length) = some 2 := by decide +kernel
theorem lT_aboutMade : (parseMethodDescriptor mT_aboutMade.1.desc).map (fun q => q.parameters.length) = some 2 := by decide +kernel
theorem lT_aboutPlanned : (parseMethodDescriptor mT_aboutPlanned.1.desc).map (fun q => q.parameters.length) = some 2 := by decide +kernel
theorem lL_peak : (parseMethodDescriptor mL_peak.1.desc).map (fun q => q.parameters.length) = some 2 := by decide +kernel
theorem lT_peak : (parseMethodDescriptor mT_peak.1.desc).map (fun q => q.parameters.length) = some 0 := by decide +kernel
theorem lR_init : (parseMethodDescriptor mR_init.1.desc).map (fun q => q.parameters.length) = some 0 := by decide +kernel
theorem lR_thrown : (parseMethodDescriptor mR_thrown.1.desc).map (fun q => q.parameters.length) = some 0 := by decide +kernel
theorem lR_weights : (parseMethodDescriptor mR_weights.1.desc).map (fun q => q.parameters.length) = some 2 := by decide +kernel
theorem lR_out : (parseMethodDescriptor mR_out.1.desc).map (fun q => q.parameters.length) = some 2 := by decide +kernel
theorem lR_fail : (parseMethodDescriptor mR_fail.1.desc).map (fun q => q.parameters.length) = some 1 := by decide +kernel
theorem lR_weightScale : (parseMethodDescriptor mR_weightScale.1.desc).map (fun q => q.parameters.length) = some 1 := by decide +kernel
theorem lR_badScale : (parseMethodDescriptor mR_badScale.1.desc).map (fun q => q.parameters.length) = some 1 := by decide +kernel
theorem lR_input : (parseMethodDescriptor mR_input.1.desc).map (fun q => q.parameters.length) = some 4 := by decide +kernel
theorem lR_make : (parseMethodDescriptor mR_make.1.desc).map (fun q => q.parameters.length) = some 7 := by decide +kernel
theorem lR_finish : (parseMethodDescriptor mR_finish.1.desc).map (fun q => q.parameters.length) = some 4 := by decide +kernel
theorem lR_windows : (parseMethodDescriptor mR_windows.1.desc).map (fun q => q.parameters.length) = some 5 := by decide +kernel
theorem lR_side : (parseMethodDescriptor mR_side.1.desc).map (fun q => q.parameters.length) = some 1 := by decide +kernel
theorem lR_narrow : (parseMethodDescriptor mR_narrow.1.desc).map (fun q => q.parameters.length) = some 2 := by decide +kernel
theorem lR_badRatio : (parseMethodDescriptor mR_badRatio.1.desc).map (fun q => q.parameters.length) = some 1 := by decide +kernel
theorem lR_places : (parseMethodDescriptor mR_places.1.desc).map (fun q => q.parameters.length) = some 2 := by decide +kernel
theorem lR_stride : (parseMethodDescriptor mR_stride.1.desc).map (fun q => q.parameters.length) = some 1 := by decide +kernel
theorem lR_dense : (parseMethodDescriptor mR_dense.1.desc).map (fun q => q.parameters.length) = some 4 := by decide +kernel
theorem lR_cells : (parseMethodDescriptor mR_cells.1.desc).map (fun q => q.parameters.length) = some 1 := by decide +kernel
theorem lR_add : (parseMethodDescriptor mR_add.1.desc).map (fun q => q.parameters.length) = some 3 := by decide +kernel
theorem lR_sameSize : (parseMethodDescriptor mR_sameSize.1.desc).map (fun q => q.parameters.length) = some 2 := by decide +kernel
theorem lR_concat : (parseMethodDescriptor mR_concat.1.desc).map (fun q => q.parameters.length) = some 2 := by decide +kernel
theorem lR_reshape : (parseMethodDescriptor mR_reshape.1.desc).map (fun q => q.parameters.length) = some 4 := by decide +kernel
theorem lR_pool : (parseMethodDescriptor mR_pool.1.desc).map (fun q => q.parameters.length) = some 3 := by decide +kernel
theorem lR_clamp : (parseMethodDescriptor mR_clamp.1.desc).map (fun q => q.parameters.length) = some 3 := by decide +kernel
theorem lR_rescale : (parseMethodDescriptor mR_rescale.1.desc).map (fun q => q.parameters.length) = some 2 := by decide +kernel
theorem lR_output : (parseMethodDescriptor mR_output.1.desc).map (fun q => q.parameters.length) = some 1 := by decide +kernel
theorem lR_compile : (parseMethodDescriptor mR_compile.1.desc).map (fun q => q.parameters.length) = some 0 := by decide +kernel
theorem lR_findStands : (parseMethodDescriptor mR_findStands.1.desc).map (fun q => q.parameters.length) = some 1 := by decide +kernel
theorem lR_standFor : (parseMethodDescriptor mR_standFor.1.desc).map (fun q => q.parameters.length) = some 1 := by decide +kernel
theorem lR_alike : (parseMethodDescriptor mR_alike.1.desc).map (fun q => q.parameters.length) = some 2 := by decide +kernel
theorem lR_findRoles : (parseMethodDescriptor mR_findRoles.1.desc).map (fun q => q.parameters.length) = some 0 := by decide +kernel
theorem lR_uses : (parseMethodDescriptor mR_uses.1.desc).map (fun q => q.parameters.length) = some 1 := by decide +kernel
theorem lR_findLives : (parseMethodDescriptor mR_findLives.1.desc).map (fun q => q.parameters.length) = some 0 := by decide +kernel
theorem lR_hasInput : (parseMethodDescriptor mR_hasInput.1.desc).map (fun q => q.parameters.length) = some 2 := by decide +kernel
theorem lR_plan : (parseMethodDescriptor mR_plan.1.desc).map (fun q => q.parameters.length) = some 0 := by decide +kernel
theorem lR_hits : (parseMethodDescriptor mR_hits.1.desc).map (fun q => q.parameters.length) = some 3 := by decide +kernel
theorem lR_feed : (parseMethodDescriptor mR_feed.1.desc).map (fun q => q.parameters.length) = some 3 := by decide +kernel
theorem lR_run : (parseMethodDescriptor mR_run.1.desc).map (fun q => q.parameters.length) = some 1 := by decide +kernel
theorem lR_value : (parseMethodDescriptor mR_value.1.desc).map (fun q => q.parameters.length) = some 2 := by decide +kernel
theorem lR_windowSum : (parseMethodDescriptor mR_windowSum.1.desc).map (fun q => q.parameters.length) = some 5 := by decide +kernel
theorem lR_before : (parseMethodDescriptor mR_before.1.desc).map (fun q => q.parameters.length) = some 2 := by decide +kernel
theorem lR_at : (parseMethodDescriptor mR_at.1.desc).map (fun q => q.parameters.length) = some 4 := by decide +kernel
theorem lR_scaled : (parseMethodDescriptor mR_scaled.1.desc).map (fun q => q.parameters.length) = some 2 := by decide +kernel
theorem lR_halves : (parseMethodDescriptor mR_halves.1.desc).map (fun q => q.parameters.length) = some 2 := by decide +kernel
theorem lR_cut : (parseMethodDescriptor mR_cut.1.desc).map (fun q => q.parameters.length) = some 1 := by decide +kernel
theorem lR_denseSum : (parseMethodDescriptor mR_denseSum.1.desc).map (fun q => q.parameters.length) = some 3 := by decide +kernel
theorem lR_joined : (parseMethodDescriptor mR_joined.1.desc).map (fun q => q.parameters.length) = some 5 := by decide +kernel
theorem lR_pooled : (parseMethodDescriptor mR_pooled.1.desc).map (fun q => q.parameters.length) = some 5 := by decide +kernel
theorem lR_arena : (parseMethodDescriptor mR_arena.1.desc).map (fun q => q.parameters.length) = some 1 := by decide +kernel
theorem lR_result : (parseMethodDescriptor mR_result.1.desc).map (fun q => q.parameters.length) = some 1 := by decide +kernel
theorem lR_about : (parseMethodDescriptor mR_about.1.desc).map (fun q => q.parameters.length) = some 2 := by decide +kernel
theorem lR_peak : (parseMethodDescriptor mR_peak.1.desc).map (fun q => q.parameters.length) = some 0 := by decide +kernel
theorem w_arr_int : Cond.arrayClass .int ∈ rk_tbl := (in_t1 75 rfl rfl)
theorem w_arr_long : Cond.arrayClass .long ∈ rk_tbl := (in_t5 235 rfl rfl)
theorem w_arr_double : Cond.arrayClass .double ∈ rk_tbl := (in_t5 16 rfl rfl)
theorem w_obj : Cond.instanceMethod objectInit ∈ rk_tbl ∧ Cond.code objectInit ⟨#[0xb1]⟩ 1 none ∈ rk_tbl := ⟨(in_t1 25 rfl rfl), (in_t1 26 rfl rfl)⟩
theorem w_jmax : Cond.static Lib.Math.max.name ∈ rk_tbl ∧ Cond.initialized "java/lang/Math" ∈ rk_tbl ∧ Cond.code Lib.Math.max.name Lib.Math.max.code 2 (some .int) ∈ rk_tbl := ⟨(in_t3 179 rfl rfl), (in_t1 11 rfl rfl), (in_t3 180 rfl rfl)⟩
theorem w_jmin : Cond.static Lib.Math.min.name ∈ rk_tbl ∧ Cond.initialized "java/lang/Math" ∈ rk_tbl ∧ Cond.code Lib.Math.min.name Lib.Math.min.code 2 (some .int) ∈ rk_tbl := ⟨(in_t2 43 rfl rfl), (in_t1 11 rfl rfl), (in_t2 44 rfl rfl)⟩
theorem w_jabs : Cond.static Lib.Math.abs.name ∈ rk_tbl ∧ Cond.initialized "java/lang/Math" ∈ rk_tbl ∧ Cond.code Lib.Math.abs.name Lib.Math.abs.code 1 (some .int) ∈ rk_tbl := ⟨(in_t4 92 rfl rfl), (in_t1 11 rfl rfl), (in_t4 93 rfl rfl)⟩
theorem w_jabsl : Cond.static Lib.MathLoose.abs_long.x ∈ rk_tbl ∧ Cond.initialized "java/lang/Math" ∈ rk_tbl ∧ Cond.code Lib.MathLoose.abs_long.x Lib.MathLoose.abs_long.code 2 (some .long) ∈ rk_tbl := ⟨(in_t4 21 rfl rfl), (in_t1 11 rfl rfl), (in_t4 22 rfl rfl)⟩
theorem w_jmaxl : Cond.static Lib.MathLoose.max_long.x ∈ rk_tbl ∧ Cond.initialized "java/lang/Math" ∈ rk_tbl ∧ Cond.code Lib.MathLoose.max_long.x Lib.MathLoose.max_long.code 4 (some .long) ∈ rk_tbl := ⟨(in_t4 32 rfl rfl), (in_t1 11 rfl rfl), (in_t4 33 rfl rfl)⟩
theorem w_jminl : Cond.static Lib.MathLoose.min_long.x ∈ rk_tbl ∧ Cond.initialized "java/lang/Math" ∈ rk_tbl ∧ Cond.code Lib.MathLoose.min_long.x Lib.MathLoose.min_long.code 4 (some .long) ∈ rk_tbl := ⟨(in_t4 29 rfl rfl), (in_t1 11 rfl rfl), (in_t4 30 rfl rfl)⟩
theorem w_acp : Cond.native arraycopyName ∈ rk_tbl ∧ Cond.static arraycopyName ∈ rk_tbl ∧ Cond.initialized "java/lang/System" ∈ rk_tbl := ⟨(in_t3 234 rfl rfl), (in_t3 233 rfl rfl), (in_t1 17 rfl rfl)⟩
/-- deterministic ends -/
def rk_Rv (v : Value) (h2 : rk_H) : rk_P := fun r h' => r = .inl (some v) ∧ h' = h2
def rk_R0 (h2 : rk_H) : rk_P := fun r h' => r = .inl none ∧ h' = h2
def rk_Th (C : String) (h2 : rk_H) : rk_P := fun r h' => r = .inr C ∧ h' = h2
section RKD
variable {M N : rk_M} {B B' : rk_B} {P P' : rk_P} {pc idx ci b : Nat} {lv : List (Option Value)} {st As rest fs : List Value} {h h2 : rk_H} {u : rk_U} {v : Value} {C : String}
theorem rk_nxv {k : rk_U} (r : rk_Run M B P (pc + 3) lv (v :: rest) h k) : rk_nx M B P pc lv rest h k (.inl (some v)) := r
theorem rk_nx0 {k : rk_U} (r : rk_Run M B P (pc + 3) lv rest h k) : rk_nx M B P pc lv rest h k (.inl none) := r
theorem rk_nxT {k : rk_U} (hh : M.2.2.2.2 = []) (hP : P (.inr C) h) (hu : rk_ok k B) : rk_nx M B P pc lv rest h k (.inr C) := by
  unfold rk_nx
  simp only [hh]
  exact ⟨hP, hu⟩
theorem rk_csV (con : rk_Con N B' As h (rk_Rv v h2)) (w : rk_cS M.1.cls idx N) (hd : decode M.2.1 pc = .ok (.invokestatic idx, 3)) (hs : st = As.reverse ++ rest) (hlen : (parseMethodDescriptor N.1.desc).map (fun q => q.parameters.length) = some As.length) (hst : (rest.map fun v => v.category).sum + (N.2.2.1 + 11) + B'.2.1 ≤ B.2.1) (hdd : B'.1 + 1 ≤ B.1) (hk : u.1 + B'.2.2.1 ≤ B.2.2.1) (hn : u.2 + B'.2.2.2 ≤ B.2.2.2) (r : rk_Run M B P (pc + 3) lv (v :: rest) h2 (u.1 + B'.2.2.1, u.2 + B'.2.2.2)) : rk_Run M B P pc lv st h u :=
  rk_calls As rest w hd hs hlen hst hdd hk hn con (fun r' h' q => by obtain ⟨rfl, rfl⟩ := q; exact rk_nxv r)
theorem rk_cs0 (con : rk_Con N B' As h (rk_R0 h2)) (w : rk_cS M.1.cls idx N) (hd : decode M.2.1 pc = .ok (.invokestatic idx, 3)) (hs : st = As.reverse ++ rest) (hlen : (parseMethodDescriptor N.1.desc).map (fun q => q.parameters.length) = some As.length) (hst : (rest.map fun v => v.category).sum + (N.2.2.1 + 11) + B'.2.1 ≤ B.2.1) (hdd : B'.1 + 1 ≤ B.1) (hk : u.1 + B'.2.2.1 ≤ B.2.2.1) (hn : u.2 + B'.2.2.2 ≤ B.2.2.2) (r : rk_Run M B P (pc + 3) lv rest h2 (u.1 + B'.2.2.1, u.2 + B'.2.2.2)) : rk_Run M B P pc lv st h u :=
  rk_calls As rest w hd hs hlen hst hdd hk hn con (fun r' h' q => by obtain ⟨rfl, rfl⟩ := q; exact rk_nx0 r)
theorem rk_csT (con : rk_Con N B' As h (rk_Th C h2)) (w : rk_cS M.1.cls idx N) (hd : decode M.2.1 pc = .ok (.invokestatic idx, 3)) (hs : st = As.reverse ++ rest) (hlen : (parseMethodDescriptor N.1.desc).map (fun q => q.parameters.length) = some As.length) (hst : (rest.map fun v => v.category).sum + (N.2.2.1 + 11) + B'.2.1 ≤ B.2.1) (hdd : B'.1 + 1 ≤ B.1) (hk : u.1 + B'.2.2.1 ≤ B.2.2.1) (hn : u.2 + B'.2.2.2 ≤ B.2.2.2) (hh : M.2.2.2.2 = []) (hP : P (.inr C) h2) (hu : rk_ok (u.1 + B'.2.2.1, u.2 + B'.2.2.2) B) : rk_Run M B P pc lv st h u :=
  rk_calls As rest w hd hs hlen hst hdd hk hn con (fun r' h' q => by obtain ⟨rfl, rfl⟩ := q; exact rk_nxT hh hP hu)
theorem rk_csG (con : rk_Con N B' As h P') (w : rk_cS M.1.cls idx N) (hd : decode M.2.1 pc = .ok (.invokestatic idx, 3)) (hs : st = As.reverse ++ rest) (hlen : (parseMethodDescriptor N.1.desc).map (fun q => q.parameters.length) = some As.length) (hst : (rest.map fun v => v.category).sum + (N.2.2.1 + 11) + B'.2.1 ≤ B.2.1) (hdd : B'.1 + 1 ≤ B.1) (hk : u.1 + B'.2.2.1 ≤ B.2.2.1) (hn : u.2 + B'.2.2.2 ≤ B.2.2.2) (nx : ∀ r h', P' r h' → rk_nx M B P pc lv rest h' (u.1 + B'.2.2.1, u.2 + B'.2.2.2) r) : rk_Run M B P pc lv st h u :=
  rk_calls As rest w hd hs hlen hst hdd hk hn con nx
theorem rk_cvV (con : rk_Con N B' (.ref b :: As) h (rk_Rv v h2)) (w : rk_cV M.1.cls idx N ci) (hd : decode M.2.1 pc = .ok (.invokevirtual idx, 3)) (hs : st = As.reverse ++ .ref b :: rest) (hlen : (parseMethodDescriptor N.1.desc).map (fun q => q.parameters.length) = some As.length) (hst : (rest.map fun v => v.category).sum + (N.2.2.1 + 11) + B'.2.1 ≤ B.2.1) (hdd : B'.1 + 1 ≤ B.1) (hk : u.1 + B'.2.2.1 ≤ B.2.2.1) (hn : u.2 + B'.2.2.2 ≤ B.2.2.2) (he : h b = some (oB ci fs)) (r : rk_Run M B P (pc + 3) lv (v :: rest) h2 (u.1 + B'.2.2.1, u.2 + B'.2.2.2)) : rk_Run M B P pc lv st h u :=
  rk_callv As rest w hd hs hlen hst hdd hk hn he con (fun r' h' q => by obtain ⟨rfl, rfl⟩ := q; exact rk_nxv r)
theorem rk_cv0 (con : rk_Con N B' (.ref b :: As) h (rk_R0 h2)) (w : rk_cV M.1.cls idx N ci) (hd : decode M.2.1 pc = .ok (.invokevirtual idx, 3)) (hs : st = As.reverse ++ .ref b :: rest) (hlen : (parseMethodDescriptor N.1.desc).map (fun q => q.parameters.length) = some As.length) (hst : (rest.map fun v => v.category).sum + (N.2.2.1 + 11) + B'.2.1 ≤ B.2.1) (hdd : B'.1 + 1 ≤ B.1) (hk : u.1 + B'.2.2.1 ≤ B.2.2.1) (hn : u.2 + B'.2.2.2 ≤ B.2.2.2) (he : h b = some (oB ci fs)) (r : rk_Run M B P (pc + 3) lv rest h2 (u.1 + B'.2.2.1, u.2 + B'.2.2.2)) : rk_Run M B P pc lv st h u :=
  rk_callv As rest w hd hs hlen hst hdd hk hn he con (fun r' h' q => by obtain ⟨rfl, rfl⟩ := q; exact rk_nx0 r)
theorem rk_cvT (con : rk_Con N B' (.ref b :: As) h (rk_Th C h2)) (w : rk_cV M.1.cls idx N ci) (hd : decode M.2.1 pc = .ok (.invokevirtual idx, 3)) (hs : st = As.reverse ++ .ref b :: rest) (hlen : (parseMethodDescriptor N.1.desc).map (fun q => q.parameters.length) = some As.length) (hst : (rest.map fun v => v.category).sum + (N.2.2.1 + 11) + B'.2.1 ≤ B.2.1) (hdd : B'.1 + 1 ≤ B.1) (hk : u.1 + B'.2.2.1 ≤ B.2.2.1) (hn : u.2 + B'.2.2.2 ≤ B.2.2.2) (he : h b = some (oB ci fs)) (hh : M.2.2.2.2 = []) (hP : P (.inr C) h2) (hu : rk_ok (u.1 + B'.2.2.1, u.2 + B'.2.2.2) B) : rk_Run M B P pc lv st h u :=
  rk_callv As rest w hd hs hlen hst hdd hk hn he con (fun r' h' q => by obtain ⟨rfl, rfl⟩ := q; exact rk_nxT hh hP hu)
theorem rk_cvG (con : rk_Con N B' (.ref b :: As) h P') (w : rk_cV M.1.cls idx N ci) (hd : decode M.2.1 pc = .ok (.invokevirtual idx, 3)) (hs : st = As.reverse ++ .ref b :: rest) (hlen : (parseMethodDescriptor N.1.desc).map (fun q => q.parameters.length) = some As.length) (hst : (rest.map fun v => v.category).sum + (N.2.2.1 + 11) + B'.2.1 ≤ B.2.1) (hdd : B'.1 + 1 ≤ B.1) (hk : u.1 + B'.2.2.1 ≤ B.2.2.1) (hn : u.2 + B'.2.2.2 ≤ B.2.2.2) (he : h b = some (oB ci fs)) (nx : ∀ r h', P' r h' → rk_nx M B P pc lv rest h' (u.1 + B'.2.2.1, u.2 + B'.2.2.2) r) : rk_Run M B P pc lv st h u :=
  rk_callv As rest w hd hs hlen hst hdd hk hn he con nx
theorem rk_cnV (con : rk_Con N B' (.ref b :: As) h (rk_Rv v h2)) (w : rk_cI M.1.cls idx N) (hd : decode M.2.1 pc = .ok (.invokespecial idx, 3)) (hs : st = As.reverse ++ .ref b :: rest) (hlen : (parseMethodDescriptor N.1.desc).map (fun q => q.parameters.length) = some As.length) (hst : (rest.map fun v => v.category).sum + (N.2.2.1 + 11) + B'.2.1 ≤ B.2.1) (hdd : B'.1 + 1 ≤ B.1) (hk : u.1 + B'.2.2.1 ≤ B.2.2.1) (hn : u.2 + B'.2.2.2 ≤ B.2.2.2) (r : rk_Run M B P (pc + 3) lv (v :: rest) h2 (u.1 + B'.2.2.1, u.2 + B'.2.2.2)) : rk_Run M B P pc lv st h u :=
  rk_calln As rest w hd hs hlen hst hdd hk hn con (fun r' h' q => by obtain ⟨rfl, rfl⟩ := q; exact rk_nxv r)
theorem rk_cn0 (con : rk_Con N B' (.ref b :: As) h (rk_R0 h2)) (w : rk_cI M.1.cls idx N) (hd : decode M.2.1 pc = .ok (.invokespecial idx, 3)) (hs : st = As.reverse ++ .ref b :: rest) (hlen : (parseMethodDescriptor N.1.desc).map (fun q => q.parameters.length) = some As.length) (hst : (rest.map fun v => v.category).sum + (N.2.2.1 + 11) + B'.2.1 ≤ B.2.1) (hdd : B'.1 + 1 ≤ B.1) (hk : u.1 + B'.2.2.1 ≤ B.2.2.1) (hn : u.2 + B'.2.2.2 ≤ B.2.2.2) (r : rk_Run M B P (pc + 3) lv rest h2 (u.1 + B'.2.2.1, u.2 + B'.2.2.2)) : rk_Run M B P pc lv st h u :=
  rk_calln As rest w hd hs hlen hst hdd hk hn con (fun r' h' q => by obtain ⟨rfl, rfl⟩ := q; exact rk_nx0 r)
theorem rk_cnT (con : rk_Con N B' (.ref b :: As) h (rk_Th C h2)) (w : rk_cI M.1.cls idx N) (hd : decode M.2.1 pc = .ok (.invokespecial idx, 3)) (hs : st = As.reverse ++ .ref b :: rest) (hlen : (parseMethodDescriptor N.1.desc).map (fun q => q.parameters.length) = some As.length) (hst : (rest.map fun v => v.category).sum + (N.2.2.1 + 11) + B'.2.1 ≤ B.2.1) (hdd : B'.1 + 1 ≤ B.1) (hk : u.1 + B'.2.2.1 ≤ B.2.2.1) (hn : u.2 + B'.2.2.2 ≤ B.2.2.2) (hh : M.2.2.2.2 = []) (hP : P (.inr C) h2) (hu : rk_ok (u.1 + B'.2.2.1, u.2 + B'.2.2.2) B) : rk_Run M B P pc lv st h u :=
  rk_calln As rest w hd hs hlen hst hdd hk hn con (fun r' h' q => by obtain ⟨rfl, rfl⟩ := q; exact rk_nxT hh hP hu)
theorem rk_cnG (con : rk_Con N B' (.ref b :: As) h P') (w : rk_cI M.1.cls idx N) (hd : decode M.2.1 pc = .ok (.invokespecial idx, 3)) (hs : st = As.reverse ++ .ref b :: rest) (hlen : (parseMethodDescriptor N.1.desc).map (fun q => q.parameters.length) = some As.length) (hst : (rest.map fun v => v.category).sum + (N.2.2.1 + 11) + B'.2.1 ≤ B.2.1) (hdd : B'.1 + 1 ≤ B.1) (hk : u.1 + B'.2.2.1 ≤ B.2.2.1) (hn : u.2 + B'.2.2.2 ≤ B.2.2.2) (nx : ∀ r h', P' r h' → rk_nx M B P pc lv rest h' (u.1 + B'.2.2.1, u.2 + B'.2.2.2) r) : rk_Run M B P pc lv st h u :=
  rk_calln As rest w hd hs hlen hst hdd hk hn con nx
theorem rk_jmax {x y : Int32} (hw : Cond.methodLink M.1.cls idx Lib.Math.max.name ∈ rk_tbl) (hd : decode M.2.1 pc = .ok (.invokestatic idx, 3)) (hu : rk_ok u B) (hf1 : 1 ≤ B.1) (hst : (st.map fun v => v.category).sum + 15 ≤ B.2.1) (r : rk_Run M B P (pc + 3) lv (.int (if x < y then y else x) :: st) h u) : rk_Run M B P pc lv (.int y :: .int x :: st) h u :=
  rk_mmax hw w_jmax.1 w_jmax.2.1 w_jmax.2.2 hd hu hf1 hst r
theorem rk_jmin {x y : Int32} (hw : Cond.methodLink M.1.cls idx Lib.Math.min.name ∈ rk_tbl) (hd : decode M.2.1 pc = .ok (.invokestatic idx, 3)) (hu : rk_ok u B) (hf1 : 1 ≤ B.1) (hst : (st.map fun v => v.category).sum + 15 ≤ B.2.1) (r : rk_Run M B P (pc + 3) lv (.int (if y < x then y else x) :: st) h u) : rk_Run M B P pc lv (.int y :: .int x :: st) h u :=
  rk_mmin hw w_jmin.1 w_jmin.2.1 w_jmin.2.2 hd hu hf1 hst r
theorem rk_jabs {x : Int32} (hw : Cond.methodLink M.1.cls idx Lib.Math.abs.name ∈ rk_tbl) (hd : decode M.2.1 pc = .ok (.invokestatic idx, 3)) (hu : rk_ok u B) (hf1 : 1 ≤ B.1) (hst : (st.map fun v => v.category).sum + 15 ≤ B.2.1) (r : rk_Run M B P (pc + 3) lv (.int (if 0 ≤ x then x else 0 - x) :: st) h u) : rk_Run M B P pc lv (.int x :: st) h u := by
  intro l p e R s m args below meth c G H locs ls C hR hS hf hl
  have hts := C.2.2.2.2.2.2.1
  have h1 := C.2.2.2.2.2.2.2.2.2.1
  have h2 := C.2.2.2.2.2.2.2.2.2.2.1
  exact va_mabs C.1 C.2.1 (by rw [C.2.2.1]; exact hl.1.symm) C.2.2.2.2.2.1 (hts _ hw) (hts _ w_jabs.1) (hts _ w_jabs.2.1) (hts _ w_jabs.2.2) (by omega) (by omega) (Nat.le_trans hu.1 C.2.2.2.2.2.2.2.2.2.2.2.1) (Nat.le_trans hu.2 C.2.2.2.2.2.2.2.2.2.2.2.2.1) hd (r l p e R s m args below meth c G H locs ls C hR hS hf hl)
theorem rk_jabsl {x : Int64} (hw : Cond.methodLink M.1.cls idx Lib.MathLoose.abs_long.x ∈ rk_tbl) (hd : decode M.2.1 pc = .ok (.invokestatic idx, 3)) (hu : rk_ok u B) (hf1 : 1 ≤ B.1) (hst : (st.map fun v => v.category).sum + 15 ≤ B.2.1) (r : rk_Run M B P (pc + 3) lv (.long (if 0 < x then x else -x) :: st) h u) : rk_Run M B P pc lv (.long x :: st) h u := by
  intro l p e R s m args below meth c G H locs ls C hR hS hf hl
  have hts := C.2.2.2.2.2.2.1
  have h1 := C.2.2.2.2.2.2.2.2.2.1
  have h2 := C.2.2.2.2.2.2.2.2.2.2.1
  exact va_mabs_long C.1 C.2.1 (by rw [C.2.2.1]; exact hl.1.symm) C.2.2.2.2.2.1 (hts _ hw) (hts _ w_jabsl.1) (hts _ w_jabsl.2.1) (hts _ w_jabsl.2.2) (by omega) (by omega) (Nat.le_trans hu.1 C.2.2.2.2.2.2.2.2.2.2.2.1) (Nat.le_trans hu.2 C.2.2.2.2.2.2.2.2.2.2.2.2.1) hd (r l p e R s m args below meth c G H locs ls C hR hS hf hl)
theorem rk_jmaxl {x y : Int64} (hw : Cond.methodLink M.1.cls idx Lib.MathLoose.max_long.x ∈ rk_tbl) (hd : decode M.2.1 pc = .ok (.invokestatic idx, 3)) (hu : rk_ok u B) (hf1 : 1 ≤ B.1) (hst : (st.map fun v => v.category).sum + 15 ≤ B.2.1) (r : rk_Run M B P (pc + 3) lv (.long (if y < x then x else y) :: st) h u) : rk_Run M B P pc lv (.long y :: .long x :: st) h u := by
  intro l p e R s m args below meth c G H locs ls C hR hS hf hl
  have hts := C.2.2.2.2.2.2.1
  have h1 := C.2.2.2.2.2.2.2.2.2.1
  have h2 := C.2.2.2.2.2.2.2.2.2.2.1
  exact va_mmax_long C.1 C.2.1 (by rw [C.2.2.1]; exact hl.1.symm) C.2.2.2.2.2.1 (hts _ hw) (hts _ w_jmaxl.1) (hts _ w_jmaxl.2.1) (hts _ w_jmaxl.2.2) (by omega) (by omega) (Nat.le_trans hu.1 C.2.2.2.2.2.2.2.2.2.2.2.1) (Nat.le_trans hu.2 C.2.2.2.2.2.2.2.2.2.2.2.2.1) hd (r l p e R s m args below meth c G H locs ls C hR hS hf hl)
theorem rk_jminl {x y : Int64} (hw : Cond.methodLink M.1.cls idx Lib.MathLoose.min_long.x ∈ rk_tbl) (hd : decode M.2.1 pc = .ok (.invokestatic idx, 3)) (hu : rk_ok u B) (hf1 : 1 ≤ B.1) (hst : (st.map fun v => v.category).sum + 15 ≤ B.2.1) (r : rk_Run M B P (pc + 3) lv (.long (if y < x then y else x) :: st) h u) : rk_Run M B P pc lv (.long y :: .long x :: st) h u := by
  intro l p e R s m args below meth c G H locs ls C hR hS hf hl
  have hts := C.2.2.2.2.2.2.1
  have h1 := C.2.2.2.2.2.2.2.2.2.1
  have h2 := C.2.2.2.2.2.2.2.2.2.2.1
  exact va_mmin_long C.1 C.2.1 (by rw [C.2.2.1]; exact hl.1.symm) C.2.2.2.2.2.1 (hts _ hw) (hts _ w_jminl.1) (hts _ w_jminl.2.1) (hts _ w_jminl.2.2) (by omega) (by omega) (Nat.le_trans hu.1 C.2.2.2.2.2.2.2.2.2.2.2.1) (Nat.le_trans hu.2 C.2.2.2.2.2.2.2.2.2.2.2.2.1) hd (r l p e R s m args below meth c G H locs ls C hR hS hf hl)
theorem rk_acp {a0 a n0 n1 : Nat} {f g : Nat → Int32} {sp dp n : Int32} (hw : Cond.methodLink M.1.cls idx arraycopyName ∈ rk_tbl) (hd : decode M.2.1 pc = .ok (.invokestatic idx, 3)) (he0 : h a0 = some (.inl (0, n0, .inl f))) (he1 : h a = some (.inl (0, n1, .inl g))) (h1 : ¬ sp < 0) (h2 : ¬ dp < 0) (h3 : ¬ n < 0) (h4 : sp.toNatClampNeg + n.toNatClampNeg ≤ n0) (h5 : dp.toNatClampNeg + n.toNatClampNeg ≤ n1) (hf1 : 1 ≤ B.1) (hst : (st.map fun v => v.category).sum + 18 ≤ B.2.1)
    (r : rk_Run M B P (pc + 3) lv st (rk_up h a (.inl (0, n1, .inl (va_cpy f g sp.toNatClampNeg dp.toNatClampNeg n.toNatClampNeg)))) u) : rk_Run M B P pc lv (.int n :: .int dp :: .ref a :: .int sp :: .ref a0 :: st) h u := by
  intro l p e R s m args below meth c G H locs ls C hR hS hf hl
  have hts := C.2.2.2.2.2.2.1
  have k1 := C.2.2.2.2.2.2.2.2.2.1
  have k2 := C.2.2.2.2.2.2.2.2.2.2.1
  have hK := C.2.2.2.2.2.2.2.1.2.1 0 .int rfl
  have nn : ∀ z : Int32, ¬ z < 0 → z.toInt = (z.toNatClampNeg : Int) := by
    intro z hz
    have hz0 : (0 : Int) ≤ z.toInt := by
      have := Int32.not_lt.mp hz
      simpa using Int32.le_iff_toInt_le.mp this
    show z.toInt = ((z.toInt.toNat : Nat) : Int)
    omega
  intro T hT X
  have hc0 : H[a0]? = some (vp_cell (G.2.2 0) (n0, .inl f)) := (hR a0 _ he0).2
  have hc1 : H[a]? = some (vp_cell (G.2.2 0) (n1, .inl g)) := (hR a _ he1).2
  obtain ⟨-, c0, hk0, cm0, hkk0⟩ := hK.1 n0 (fun j => .int (f j))
  obtain ⟨-, c1, hk1, cm1, hkk1⟩ := hK.1 n1 (fun j => .int (g j))
  obtain ⟨vm', X', step⟩ := X.arraycopy C.1 C.2.2.2.2.2.1 (hts _ hw) (hts _ w_acp.1) (hts _ w_acp.2.1) (hts _ w_acp.2.2) (src := a0) (dst := a) (cs := vp_cell (G.2.2 0) (n0, .inl f)) (cd := vp_cell (G.2.2 0) (n1, .inl g)) (srcPos := sp) (destPos := dp) (n := n) (by rw [hT]; exact hc0) (by rw [hT]; exact hc1)
    (fun _ h => by cases h) (fun _ h => by cases h) (fun h => by cases h) (fun h => by cases h) hk0 hk1 hkk0 hkk1 (by simp [refKind]) h1 h2 h3
    (by rw [nn sp h1, nn n h3]; show ¬ _ > ((arrV _ n0 (fun j => .int (f j))).slots.size : Int); rw [arrV_size]; omega)
    (by rw [nn dp h2, nn n h3]; show ¬ _ > ((arrV _ n1 (fun j => .int (g j))).slots.size : Int); rw [arrV_size]; omega)
    (fun vm₁ _ i hi => by
      have e : (vp_cell (G.2.2 0) (n0, .inl f)).slots.getD (sp.toNatClampNeg + i) .null = .int (f (sp.toNatClampNeg + i)) := by
        show (arrV _ n0 (fun j => .int (f j))).slots.getD _ _ = _
        rw [Array.getD_eq_getD_getElem?, arrV_read _ _ (by omega)]
        rfl
      refine ⟨?_, ?_⟩
      · rw [e]
        rfl
      · rw [e]
        exact trivial)
    (g := F0 m pc ls (.int n :: .int dp :: .ref a :: .int sp :: .ref a0 :: st)) rfl (by rw [C.2.2.1]; exact hl.1) (rest := st) rfl (by rw [C.2.1]; exact hd) (by omega) (by show 2 * 0 + _ + 18 ≤ _; omega)
  have e1 : copied (vp_cell (G.2.2 0) (n0, .inl f)) (vp_cell (G.2.2 0) (n1, .inl g)) sp dp n = vp_cell (G.2.2 0) (n1, .inl (va_cpy f g sp.toNatClampNeg dp.toNatClampNeg n.toNatClampNeg)) := va_copied (fun z => .int z) _ _ f g h4
  rw [e1] at X' step
  have hlt : a < H.size := (Array.getElem?_eq_some_iff.mp hc1).1
  have oq : ∀ q : Nat, q ≠ a → (H.setIfInBounds a (vp_cell (G.2.2 0) (n1, .inl (va_cpy f g sp.toNatClampNeg dp.toNatClampNeg n.toNatClampNeg))))[q]? = H[q]? := fun q hq => by simp [Array.getElem?_setIfInBounds, Ne.symm hq]
  have hheap : ((T.setVm vm').setCell a (vp_cell (G.2.2 0) (n1, .inl (va_cpy f g sp.toNatClampNeg dp.toNatClampNeg n.toNatClampNeg)))).heap = H.setIfInBounds a (vp_cell (G.2.2 0) (n1, .inl (va_cpy f g sp.toNatClampNeg dp.toNatClampNeg n.toNatClampNeg))) := by rw [← hT]; rfl
  obtain ⟨t, a1, b1⟩ := r l p e R s m args below meth c G _ _ ls C (hR.set (hR.wr he1 rfl) (show (H.setIfInBounds a _)[a]? = some _ by simp [Array.getElem?_setIfInBounds, hlt]) oq) (hS.put (by simp) oq (hR.wr he1 rfl)) (fun q hq => by
      rcases List.mem_append.mp hq with h | h
      · exact hf q h
      · obtain ⟨z, -, hz⟩ := List.mem_map.mp h
        rw [← hz]
        exact (hR.wr he1 rfl)) hl _ hheap X'
  exact ⟨t, step t a1, b1⟩
end RKD
theorem rk_up_up {h : rk_H} {a : Nat} {e e' : rk_E} : rk_up (rk_up h a e) a e' = rk_up h a e' := by
  funext q
  unfold rk_up
  by_cases hq : q = a
  · rw [if_pos hq, if_pos hq]
  · rw [if_neg hq, if_neg hq, if_neg hq]
theorem rk_up_sw {h : rk_H} {a b : Nat} {e e' : rk_E} (hab : a ≠ b) : rk_up (rk_up h a e) b e' = rk_up (rk_up h b e') a e := by
  funext q
  unfold rk_up
  by_cases hq : q = b
  · subst hq
    rw [if_pos rfl, if_neg (fun z => hab z.symm), if_pos rfl]
  · rw [if_neg hq, if_neg hq]
theorem rk_up_id {h : rk_H} {a : Nat} {e : rk_E} (ha : h a = some e) : rk_up h a e = h := by
  funext q
  unfold rk_up
  by_cases hq : q = a
  · rw [if_pos hq, hq, ha]
  · rw [if_neg hq]
/-- a check: it returns, or it throws; nothing changes -/
def rk_If (g : Prop) (C : String) (h : rk_H) : rk_P := fun r h' => h' = h ∧ ((g ∧ r = .inl none) ∨ (¬ g ∧ r = .inr C))
section RKI
variable {M N : rk_M} {B B' : rk_B} {P : rk_P} {pc idx ci b : Nat} {lv : List (Option Value)} {st As rest fs : List Value} {h : rk_H} {u : rk_U} {C : String} {g : Prop}
theorem rk_csI (con : rk_Con N B' As h (rk_If g C h)) (w : rk_cS M.1.cls idx N) (hd : decode M.2.1 pc = .ok (.invokestatic idx, 3)) (hs : st = As.reverse ++ rest) (hlen : (parseMethodDescriptor N.1.desc).map (fun q => q.parameters.length) = some As.length) (hst : (rest.map fun v => v.category).sum + (N.2.2.1 + 11) + B'.2.1 ≤ B.2.1) (hdd : B'.1 + 1 ≤ B.1) (hk : u.1 + B'.2.2.1 ≤ B.2.2.1) (hn : u.2 + B'.2.2.2 ≤ B.2.2.2) (hh : M.2.2.2.2 = []) (hu : rk_ok (u.1 + B'.2.2.1, u.2 + B'.2.2.2) B) (no : ¬ g → P (.inr C) h) (r : g → rk_Run M B P (pc + 3) lv rest h (u.1 + B'.2.2.1, u.2 + B'.2.2.2)) : rk_Run M B P pc lv st h u :=
  rk_calls As rest w hd hs hlen hst hdd hk hn con (fun r' h' q => by
    obtain ⟨rfl, ⟨q, rfl⟩ | ⟨q, rfl⟩⟩ := q
    · exact rk_nx0 (r q)
    · exact rk_nxT hh (no q) hu)
theorem rk_cvI (con : rk_Con N B' (.ref b :: As) h (rk_If g C h)) (w : rk_cV M.1.cls idx N ci) (hd : decode M.2.1 pc = .ok (.invokevirtual idx, 3)) (hs : st = As.reverse ++ .ref b :: rest) (hlen : (parseMethodDescriptor N.1.desc).map (fun q => q.parameters.length) = some As.length) (hst : (rest.map fun v => v.category).sum + (N.2.2.1 + 11) + B'.2.1 ≤ B.2.1) (hdd : B'.1 + 1 ≤ B.1) (hk : u.1 + B'.2.2.1 ≤ B.2.2.1) (hn : u.2 + B'.2.2.2 ≤ B.2.2.2) (he : h b = some (oB ci fs)) (hh : M.2.2.2.2 = []) (hu : rk_ok (u.1 + B'.2.2.1, u.2 + B'.2.2.2) B) (no : ¬ g → P (.inr C) h) (r : g → rk_Run M B P (pc + 3) lv rest h (u.1 + B'.2.2.1, u.2 + B'.2.2.2)) : rk_Run M B P pc lv st h u :=
  rk_callv As rest w hd hs hlen hst hdd hk hn he con (fun r' h' q => by
    obtain ⟨rfl, ⟨q, rfl⟩ | ⟨q, rfl⟩⟩ := q
    · exact rk_nx0 (r q)
    · exact rk_nxT hh (no q) hu)
end RKI
