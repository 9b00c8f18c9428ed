/-! the reference: its small methods -/
section RVU
variable {b : rk_H} {A : Nat → Nat} {X : rX}
theorem rA.ucm0 (k : rA A) : rk_up (rv b A X) (A 0) (oB 6 ((rls A X).set 19 (.int 0))) = rv b A (X.wcm false) := k.ucm (v := false)
theorem rA.ucm1 (k : rA A) : rk_up (rv b A X) (A 0) (oB 6 ((rls A X).set 19 (.int 1))) = rv b A (X.wcm true) := k.ucm (v := true)
theorem rA.uou' (k : rA A) {j : Nat} : rk_up (rv b A X) (A 0) (oB 6 ((rls A X).set 18 (.int (nI j)))) = rv b A (X.wou (some j)) := k.uou (v := some j)
end RVU
def ouB (v n : Int32) : Bool := decide (v < 0) || decide (n ≤ v)
theorem ouB_f {v n : Int32} : ouB v n = false ↔ (0 ≤ v ∧ v < n) := by
  unfold ouB
  rw [Bool.or_eq_false_iff, decide_eq_false_iff_not, decide_eq_false_iff_not, Int32.not_lt, Int32.not_le]
theorem c_R_out (b : rk_H) (A : Nat → Nat) (X : rX) (v n : Int32) : rk_Con mR_out (0, 0, 0, 0) [.ref (A 0), .int v, .int n] (rv b A X) (rk_Rv (.int (b2i (ouB v n))) (rv b A X)) := by
  refine rk_Con.of [some (.ref (A 0)), some (.int v), some (.int n)] rfl (Nat.le_of_ble_eq_true rfl) (by decide +kernel) ?_
  refine rk_iload_n dR_out_0 rfl ?_
  refine rk_if_lt 9 dR_out_1 (by decide) (fun q_1 => ?_) (fun q_1 => ?_)
  · refine rk_iconst (v := 1) dR_out_9 (by decide) ?_
    refine rk_goto 14 dR_out_10 (by decide) ?_
    exact rk_zret rfl rfl dR_out_14 ⟨(Nat.le_of_ble_eq_true rfl), (Nat.le_of_ble_eq_true rfl)⟩ (⟨by unfold ouB; first | (rw [decide_eq_true q_1]; rfl) | (rw [decide_eq_false (p := n ≤ v) (Int32.not_le.mpr q_6), decide_eq_false q_1]; rfl) | (rw [decide_eq_true (Int32.not_lt.mp q_6), Bool.or_true]; rfl), rfl⟩)
  · refine rk_iload_n dR_out_4 rfl ?_
    refine rk_iload_n dR_out_5 rfl ?_
    refine rk_icmp_lt 13 dR_out_6 (by decide) (fun q_6 => ?_) (fun q_6 => ?_)
    · refine rk_iconst (v := 0) dR_out_13 (by decide) ?_
      exact rk_zret rfl rfl dR_out_14 ⟨(Nat.le_of_ble_eq_true rfl), (Nat.le_of_ble_eq_true rfl)⟩ (⟨by unfold ouB; first | (rw [decide_eq_true q_1]; rfl) | (rw [decide_eq_false (p := n ≤ v) (Int32.not_le.mpr q_6), decide_eq_false q_1]; rfl) | (rw [decide_eq_true (Int32.not_lt.mp q_6), Bool.or_true]; rfl), rfl⟩)
    · refine rk_iconst (v := 1) dR_out_9 (by decide) ?_
      refine rk_goto 14 dR_out_10 (by decide) ?_
      exact rk_zret rfl rfl dR_out_14 ⟨(Nat.le_of_ble_eq_true rfl), (Nat.le_of_ble_eq_true rfl)⟩ (⟨by unfold ouB; first | (rw [decide_eq_true q_1]; rfl) | (rw [decide_eq_false (p := n ≤ v) (Int32.not_le.mpr q_6), decide_eq_false q_1]; rfl) | (rw [decide_eq_true (Int32.not_lt.mp q_6), Bool.or_true]; rfl), rfl⟩)
theorem c_R_cells (b : rk_H) (A : Nat → Nat) (X : rX) (k : rA A) (j : Nat) (hj : j < 14) : rk_Con mR_cells (0, 0, 0, 0) [.ref (A 0), .int (nI j)] (rv b A X) (rk_Rv (.int (nI (X.N j).ce)) (rv b A X)) := by
  refine rk_Con.of [some (.ref (A 0)), some (.int (nI j))] rfl (Nat.le_of_ble_eq_true rfl) (by decide +kernel) ?_
  refine rk_aload_n dR_cells_0 rfl ?_
  refine rk_getf fR_26 dR_cells_1 k.m rfl ?_
  refine rk_iload_n dR_cells_4 rfl ?_
  refine rk_iald dR_cells_5 k.hi (vp_in_nI hj (by omega)) ?_
  refine rk_aload_n dR_cells_6 rfl ?_
  refine rk_getf fR_29 dR_cells_7 k.m rfl ?_
  refine rk_iload_n dR_cells_10 rfl ?_
  refine rk_iald dR_cells_11 k.wi (vp_in_nI hj (by omega)) ?_
  refine rk_imul dR_cells_12 ?_
  refine rk_aload_n dR_cells_13 rfl ?_
  refine rk_getf fR_32 dR_cells_14 k.m rfl ?_
  refine rk_iload_n dR_cells_17 rfl ?_
  refine rk_iald dR_cells_18 k.de (vp_in_nI hj (by omega)) ?_
  refine rk_imul dR_cells_19 ?_
  rw [nI_clamp (show j < 2 ^ 31 by omega), pk_mul, pk_mul]
  exact rk_iret rfl dR_cells_20 ⟨(Nat.le_of_ble_eq_true rfl), (Nat.le_of_ble_eq_true rfl)⟩ (⟨rfl, rfl⟩)
def badS (r : UInt64) : Bool := decide (Op.cmpValue (FP.dcmp r FP.dconst0) .l ≤ 0) || decide (¬ Op.cmpValue (FP.dcmp r 4696837146684686336) .l ≤ 0)
theorem c_R_badScale (b : rk_H) (A : Nat → Nat) (X : rX) (r : UInt64) : rk_Con mR_badScale (0, 0, 0, 0) [.ref (A 0), .double r] (rv b A X) (rk_Rv (.int (b2i (badS r))) (rv b A X)) := by
  refine rk_Con.of [some (.ref (A 0)), some (.double r), none] rfl (Nat.le_of_ble_eq_true rfl) (by decide +kernel) ?_
  refine rk_dload_n dR_badScale_0 rfl ?_
  refine rk_dconst0 dR_badScale_1 ?_
  refine rk_dcmp dR_badScale_2 ?_
  refine rk_if_le 14 dR_badScale_3 (by decide) (fun q_3 => ?_) (fun q_3 => ?_)
  · refine rk_iconst (v := 1) dR_badScale_14 (by decide) ?_
    refine rk_goto 19 dR_badScale_15 (by decide) ?_
    exact rk_zret rfl rfl dR_badScale_19 ⟨(Nat.le_of_ble_eq_true rfl), (Nat.le_of_ble_eq_true rfl)⟩ (⟨by unfold badS; first | (rw [decide_eq_true q_3]; rfl) | (rw [decide_eq_false q_3, decide_eq_false (fun z => z q_11)]; rfl) | (rw [decide_eq_true q_11, Bool.or_true]; rfl), rfl⟩)
  · refine rk_dload_n dR_badScale_6 rfl ?_
    refine rk_ldc2d qR_88 dR_badScale_7 ?_
    refine rk_dcmp dR_badScale_10 ?_
    refine rk_if_le 18 dR_badScale_11 (by decide) (fun q_11 => ?_) (fun q_11 => ?_)
    · refine rk_iconst (v := 0) dR_badScale_18 (by decide) ?_
      exact rk_zret rfl rfl dR_badScale_19 ⟨(Nat.le_of_ble_eq_true rfl), (Nat.le_of_ble_eq_true rfl)⟩ (⟨by unfold badS; first | (rw [decide_eq_true q_3]; rfl) | (rw [decide_eq_false q_3, decide_eq_false (fun z => z q_11)]; rfl) | (rw [decide_eq_true q_11, Bool.or_true]; rfl), rfl⟩)
    · refine rk_iconst (v := 1) dR_badScale_14 (by decide) ?_
      refine rk_goto 19 dR_badScale_15 (by decide) ?_
      exact rk_zret rfl rfl dR_badScale_19 ⟨(Nat.le_of_ble_eq_true rfl), (Nat.le_of_ble_eq_true rfl)⟩ (⟨by unfold badS; first | (rw [decide_eq_true q_3]; rfl) | (rw [decide_eq_false q_3, decide_eq_false (fun z => z q_11)]; rfl) | (rw [decide_eq_true q_11, Bool.or_true]; rfl), rfl⟩)
theorem c_R_badRatio (b : rk_H) (A : Nat → Nat) (X : rX) (r : UInt64) : rk_Con mR_badRatio (0, 0, 0, 0) [.ref (A 0), .double r] (rv b A X) (rk_Rv (.int (b2i (!d_good r))) (rv b A X)) := by
  refine rk_Con.of [some (.ref (A 0)), some (.double r), none] rfl (Nat.le_of_ble_eq_true rfl) (by decide +kernel) ?_
  refine rk_dload_n dR_badRatio_0 rfl ?_
  refine rk_ldc2d qR_90 dR_badRatio_1 ?_
  refine rk_dcmp dR_badRatio_4 ?_
  refine rk_if_le 16 dR_badRatio_5 (by decide) (fun q_5 => ?_) (fun q_5 => ?_)
  · refine rk_iconst (v := 1) dR_badRatio_16 (by decide) ?_
    refine rk_goto 21 dR_badRatio_17 (by decide) ?_
    exact rk_zret rfl rfl dR_badRatio_21 ⟨(Nat.le_of_ble_eq_true rfl), (Nat.le_of_ble_eq_true rfl)⟩ (by simp_all [rk_Rv, b2i, d_good, Int32.not_le, Int32.not_lt])
  · refine rk_dload_n dR_badRatio_8 rfl ?_
    refine rk_ldc2d qR_92 dR_badRatio_9 ?_
    refine rk_dcmp dR_badRatio_12 ?_
    refine rk_if_lt 20 dR_badRatio_13 (by decide) (fun q_13 => ?_) (fun q_13 => ?_)
    · refine rk_iconst (v := 0) dR_badRatio_20 (by decide) ?_
      exact rk_zret rfl rfl dR_badRatio_21 ⟨(Nat.le_of_ble_eq_true rfl), (Nat.le_of_ble_eq_true rfl)⟩ (by simp_all [rk_Rv, b2i, d_good, Int32.not_le, Int32.not_lt])
    · refine rk_iconst (v := 1) dR_badRatio_16 (by decide) ?_
      refine rk_goto 21 dR_badRatio_17 (by decide) ?_
      exact rk_zret rfl rfl dR_badRatio_21 ⟨(Nat.le_of_ble_eq_true rfl), (Nat.le_of_ble_eq_true rfl)⟩ (by simp_all [rk_Rv, b2i, d_good, Int32.not_le, Int32.not_lt])
theorem c_R_fail (b : rk_H) (A : Nat → Nat) (X : rX) (k : rA A) (c : Int32) : rk_Con mR_fail (0, 0, 0, 0) [.ref (A 0), .int c] (rv b A X) (rk_Rv (.int 0) (rv b A (X.wfa c))) := by
  refine rk_Con.of [some (.ref (A 0)), some (.int c)] rfl (Nat.le_of_ble_eq_true rfl) (by decide +kernel) ?_
  refine rk_aload_n dR_fail_0 rfl ?_
  refine rk_iload_n dR_fail_1 rfl ?_
  refine rk_putf pR_85 dR_fail_2 k.m (Nat.le_of_ble_eq_true rfl) rfl rfl ?_
  rw [k.ufa]
  refine rk_iconst (v := 0) dR_fail_5 (by decide) ?_
  exact rk_iret rfl dR_fail_6 ⟨(Nat.le_of_ble_eq_true rfl), (Nat.le_of_ble_eq_true rfl)⟩ (⟨rfl, rfl⟩)
theorem c_R_thrown (b : rk_H) (A : Nat → Nat) (X : rX) (k : rA A) : rk_Con mR_thrown (0, 0, 0, 0) [.ref (A 0)] (rv b A X) (rk_Rv (.int X.fa) (rv b A X)) := by
  refine rk_Con.of [some (.ref (A 0))] rfl (Nat.le_of_ble_eq_true rfl) (by decide +kernel) ?_
  refine rk_aload_n dR_thrown_0 rfl ?_
  refine rk_getf fR_85 dR_thrown_1 k.m rfl ?_
  exact rk_iret rfl dR_thrown_4 ⟨(Nat.le_of_ble_eq_true rfl), (Nat.le_of_ble_eq_true rfl)⟩ (⟨rfl, rfl⟩)
theorem c_R_side (b : rk_H) (A : Nat → Nat) (X : rX) (co : Nat) (hc : co < 2 ^ 31) : rk_Con mR_side (0, 0, 0, 0) [.ref (A 0), .int (nI co)] (rv b A X) (rk_Rv (.int (nI (z_size co))) (rv b A X)) := by
  refine rk_Con.of [some (.ref (A 0)), some (.int (nI co))] rfl (Nat.le_of_ble_eq_true rfl) (by decide +kernel) ?_
  refine rk_iconst (v := 1) dR_side_0 (by decide) ?_
  refine rk_iload_n dR_side_1 rfl ?_
  refine rk_iconst (v := 3) dR_side_2 (by decide) ?_
  refine rk_irem dR_side_3 (by decide) ?_
  refine rk_iadd dR_side_4 ?_
  exact rk_iret rfl dR_side_5 ⟨(Nat.le_of_ble_eq_true rfl), (Nat.le_of_ble_eq_true rfl)⟩ (⟨congrArg _ (congrArg _ (congrArg _ (z_size_i hc))), rfl⟩)
theorem c_R_stride (b : rk_H) (A : Nat → Nat) (X : rX) (co : Nat) (hc : co < 2 ^ 31) : rk_Con mR_stride (0, 0, 0, 0) [.ref (A 0), .int (nI co)] (rv b A X) (rk_Rv (.int (nI (z_step co))) (rv b A X)) := by
  refine rk_Con.of [some (.ref (A 0)), some (.int (nI co))] rfl (Nat.le_of_ble_eq_true rfl) (by decide +kernel) ?_
  refine rk_iconst (v := 1) dR_stride_0 (by decide) ?_
  refine rk_iload_n dR_stride_1 rfl ?_
  refine rk_iconst (v := 3) dR_stride_2 (by decide) ?_
  refine rk_idiv dR_stride_3 (by decide) ?_
  refine rk_iconst (v := 2) dR_stride_4 (by decide) ?_
  refine rk_irem dR_stride_5 (by decide) ?_
  refine rk_iadd dR_stride_6 ?_
  exact rk_iret rfl dR_stride_7 ⟨(Nat.le_of_ble_eq_true rfl), (Nat.le_of_ble_eq_true rfl)⟩ (⟨congrArg _ (congrArg _ (congrArg _ (z_step_i hc))), rfl⟩)
