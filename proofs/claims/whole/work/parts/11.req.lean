/-! the checks of TensorForge -/
def x_IA : String := "java/lang/IllegalArgumentException"
def x_IS : String := "java/lang/IllegalStateException"
def x_AR : String := "java/lang/ArithmeticException"
def x_UO : String := "java/lang/UnsupportedOperationException"
def x_NS : String := "java/util/NoSuchElementException"
theorem c_T_require (x : Int32) (h : rk_H) : rk_Con mT_require (6, 82, 1, 6) [.int x] h (rk_If (¬ x = 0) x_IA h) := by
  refine rk_Con.of [some (.int x)] rfl (Nat.le_of_ble_eq_true rfl) (by decide +kernel) ?_
  refine rk_iload_n dT_require_0 rfl ?_
  refine rk_if_ne 14 dT_require_1 (by decide) (fun q_1 => ?_) (fun q_1 => ?_)
  · exact rk_ret rfl dT_require_14 ⟨(Nat.le_of_ble_eq_true rfl), (Nat.le_of_ble_eq_true rfl)⟩ (by simp_all [rk_If, x_IA])
  · exact rk_throw tmT_require_4 rfl dT_require_4 dT_require_7 dT_require_8 dT_require_10 dT_require_13 (Nat.le_of_ble_eq_true rfl) (Nat.le_of_ble_eq_true rfl) (Nat.le_of_ble_eq_true rfl) (Nat.le_of_ble_eq_true rfl) (by simp_all [rk_If, x_IA])
def btw (v a b : Int32) : Prop := a ≤ v ∧ v ≤ b
theorem btw_n1 {v a b : Int32} (h : v < a) : ¬ btw v a b := fun q => Int32.not_lt.mpr q.1 h
theorem btw_n2 {v a b : Int32} (h : b < v) : ¬ btw v a b := fun q => Int32.not_lt.mpr q.2 h
theorem btw_y {v a b : Int32} (h1 : ¬ v < a) (h2 : ¬ b < v) : btw v a b := ⟨Int32.not_lt.mp h1, Int32.not_lt.mp h2⟩
theorem c_T_requireBetween (v a b : Int32) (h : rk_H) : rk_Con mT_requireBetween (7, 94, 1, 6) [.int v, .int a, .int b] h (rk_If (btw v a b) x_IA h) := by
  refine rk_Con.of [some (.int v), some (.int a), some (.int b)] rfl (Nat.le_of_ble_eq_true rfl) (by decide +kernel) ?_
  refine rk_iload_n dT_requireBetween_0 rfl ?_
  refine rk_iload_n dT_requireBetween_1 rfl ?_
  refine rk_icmp_lt 14 dT_requireBetween_2 (by decide) (fun q_2 => ?_) (fun q_2 => ?_)
  · refine rk_iconst (v := 0) dT_requireBetween_14 (by decide) ?_
    refine rk_csI (c_T_require _ h) cT_125 dT_requireBetween_15 rfl lT_require (Nat.le_of_ble_eq_true rfl) (Nat.le_of_ble_eq_true rfl) (Nat.le_of_ble_eq_true rfl) (Nat.le_of_ble_eq_true rfl) rfl ⟨(Nat.le_of_ble_eq_true rfl), (Nat.le_of_ble_eq_true rfl)⟩ (fun g_15 => by simp_all [rk_If, btw_y, btw_n1, btw_n2]) (fun g_15 => ?_)
    exact rk_ret rfl dT_requireBetween_18 ⟨(Nat.le_of_ble_eq_true rfl), (Nat.le_of_ble_eq_true rfl)⟩ (by simp_all [rk_If, btw_y, btw_n1, btw_n2])
  · refine rk_iload_n dT_requireBetween_5 rfl ?_
    refine rk_iload_n dT_requireBetween_6 rfl ?_
    refine rk_icmp_gt 14 dT_requireBetween_7 (by decide) (fun q_7 => ?_) (fun q_7 => ?_)
    · refine rk_iconst (v := 0) dT_requireBetween_14 (by decide) ?_
      refine rk_csI (c_T_require _ h) cT_125 dT_requireBetween_15 rfl lT_require (Nat.le_of_ble_eq_true rfl) (Nat.le_of_ble_eq_true rfl) (Nat.le_of_ble_eq_true rfl) (Nat.le_of_ble_eq_true rfl) rfl ⟨(Nat.le_of_ble_eq_true rfl), (Nat.le_of_ble_eq_true rfl)⟩ (fun g_15 => by simp_all [rk_If, btw_y, btw_n1, btw_n2]) (fun g_15 => ?_)
      exact rk_ret rfl dT_requireBetween_18 ⟨(Nat.le_of_ble_eq_true rfl), (Nat.le_of_ble_eq_true rfl)⟩ (by simp_all [rk_If, btw_y, btw_n1, btw_n2])
    · refine rk_iconst (v := 1) dT_requireBetween_10 (by decide) ?_
      refine rk_goto 15 dT_requireBetween_11 (by decide) ?_
      refine rk_csI (c_T_require _ h) cT_125 dT_requireBetween_15 rfl lT_require (Nat.le_of_ble_eq_true rfl) (Nat.le_of_ble_eq_true rfl) (Nat.le_of_ble_eq_true rfl) (Nat.le_of_ble_eq_true rfl) rfl ⟨(Nat.le_of_ble_eq_true rfl), (Nat.le_of_ble_eq_true rfl)⟩ (fun g_15 => by simp_all [rk_If, btw_y, btw_n1, btw_n2]) (fun g_15 => ?_)
      exact rk_ret rfl dT_requireBetween_18 ⟨(Nat.le_of_ble_eq_true rfl), (Nat.le_of_ble_eq_true rfl)⟩ (by simp_all [rk_If, btw_y, btw_n1, btw_n2])
theorem c_T_requireShape (x y z : Int32) (h : rk_H) : rk_Con mT_requireShape (8, 108, 3, 18) [.int x, .int y, .int z] h (rk_If (btw x 1 4 ∧ btw y 1 4 ∧ btw z 1 8) x_IA h) := by
  refine rk_Con.of [some (.int x), some (.int y), some (.int z)] rfl (Nat.le_of_ble_eq_true rfl) (by decide +kernel) ?_
  refine rk_iload_n dT_requireShape_0 rfl ?_
  refine rk_iconst (v := 1) dT_requireShape_1 (by decide) ?_
  refine rk_iconst (v := 4) dT_requireShape_2 (by decide) ?_
  refine rk_csI (c_T_requireBetween x 1 4 h) cT_35 dT_requireShape_3 rfl lT_requireBetween (Nat.le_of_ble_eq_true rfl) (Nat.le_of_ble_eq_true rfl) (Nat.le_of_ble_eq_true rfl) (Nat.le_of_ble_eq_true rfl) rfl ⟨(Nat.le_of_ble_eq_true rfl), (Nat.le_of_ble_eq_true rfl)⟩ (fun g_3 => by simp_all [rk_If]) (fun g_3 => ?_)
  refine rk_iload_n dT_requireShape_6 rfl ?_
  refine rk_iconst (v := 1) dT_requireShape_7 (by decide) ?_
  refine rk_iconst (v := 4) dT_requireShape_8 (by decide) ?_
  refine rk_csI (c_T_requireBetween y 1 4 h) cT_35 dT_requireShape_9 rfl lT_requireBetween (Nat.le_of_ble_eq_true rfl) (Nat.le_of_ble_eq_true rfl) (Nat.le_of_ble_eq_true rfl) (Nat.le_of_ble_eq_true rfl) rfl ⟨(Nat.le_of_ble_eq_true rfl), (Nat.le_of_ble_eq_true rfl)⟩ (fun g_9 => by simp_all [rk_If]) (fun g_9 => ?_)
  refine rk_iload_n dT_requireShape_12 rfl ?_
  refine rk_iconst (v := 1) dT_requireShape_13 (by decide) ?_
  refine rk_bipush (v := 8) dT_requireShape_14 (by decide) ?_
  refine rk_csI (c_T_requireBetween z 1 8 h) cT_35 dT_requireShape_16 rfl lT_requireBetween (Nat.le_of_ble_eq_true rfl) (Nat.le_of_ble_eq_true rfl) (Nat.le_of_ble_eq_true rfl) (Nat.le_of_ble_eq_true rfl) rfl ⟨(Nat.le_of_ble_eq_true rfl), (Nat.le_of_ble_eq_true rfl)⟩ (fun g_16 => by simp_all [rk_If]) (fun g_16 => ?_)
  exact rk_ret rfl dT_requireShape_19 ⟨(Nat.le_of_ble_eq_true rfl), (Nat.le_of_ble_eq_true rfl)⟩ (by simp_all [rk_If])
/-- a scale that is above 0.0 and not above 1000000.0 -/
def d_scl (r : UInt64) : Prop := ¬ Op.cmpValue (FP.dcmp r FP.dconst0) .l ≤ 0 ∧ ¬ 0 < Op.cmpValue (FP.dcmp r 4696837146684686336) .g
theorem c_T_requireScale (r : UInt64) (h : rk_H) : rk_Con mT_requireScale (7, 94, 1, 6) [.double r] h (rk_If (d_scl r) x_IA h) := by
  refine rk_Con.of [some (.double r), none] rfl (Nat.le_of_ble_eq_true rfl) (by decide +kernel) ?_
  refine rk_dload_n dT_requireScale_0 rfl ?_
  refine rk_dconst0 dT_requireScale_1 ?_
  refine rk_dcmp dT_requireScale_2 ?_
  refine rk_if_le 18 dT_requireScale_3 (by decide) (fun q_3 => ?_) (fun q_3 => ?_)
  · refine rk_iconst (v := 0) dT_requireScale_18 (by decide) ?_
    refine rk_csI (c_T_require _ h) cT_125 dT_requireScale_19 rfl lT_require (Nat.le_of_ble_eq_true rfl) (Nat.le_of_ble_eq_true rfl) (Nat.le_of_ble_eq_true rfl) (Nat.le_of_ble_eq_true rfl) rfl ⟨(Nat.le_of_ble_eq_true rfl), (Nat.le_of_ble_eq_true rfl)⟩ (fun g_19 => by simp_all [rk_If, d_scl]) (fun g_19 => ?_)
    exact rk_ret rfl dT_requireScale_22 ⟨(Nat.le_of_ble_eq_true rfl), (Nat.le_of_ble_eq_true rfl)⟩ (by simp_all [rk_If, d_scl])
  · refine rk_dload_n dT_requireScale_6 rfl ?_
    refine rk_ldc2d qT_230 dT_requireScale_7 ?_
    refine rk_dcmp dT_requireScale_10 ?_
    refine rk_if_gt 18 dT_requireScale_11 (by decide) (fun q_11 => ?_) (fun q_11 => ?_)
    · refine rk_iconst (v := 0) dT_requireScale_18 (by decide) ?_
      refine rk_csI (c_T_require _ h) cT_125 dT_requireScale_19 rfl lT_require (Nat.le_of_ble_eq_true rfl) (Nat.le_of_ble_eq_true rfl) (Nat.le_of_ble_eq_true rfl) (Nat.le_of_ble_eq_true rfl) rfl ⟨(Nat.le_of_ble_eq_true rfl), (Nat.le_of_ble_eq_true rfl)⟩ (fun g_19 => by simp_all [rk_If, d_scl]) (fun g_19 => ?_)
      exact rk_ret rfl dT_requireScale_22 ⟨(Nat.le_of_ble_eq_true rfl), (Nat.le_of_ble_eq_true rfl)⟩ (by simp_all [rk_If, d_scl])
    · refine rk_iconst (v := 1) dT_requireScale_14 (by decide) ?_
      refine rk_goto 19 dT_requireScale_15 (by decide) ?_
      refine rk_csI (c_T_require _ h) cT_125 dT_requireScale_19 rfl lT_require (Nat.le_of_ble_eq_true rfl) (Nat.le_of_ble_eq_true rfl) (Nat.le_of_ble_eq_true rfl) (Nat.le_of_ble_eq_true rfl) rfl ⟨(Nat.le_of_ble_eq_true rfl), (Nat.le_of_ble_eq_true rfl)⟩ (fun g_19 => by simp_all [rk_If, d_scl]) (fun g_19 => ?_)
      exact rk_ret rfl dT_requireScale_22 ⟨(Nat.le_of_ble_eq_true rfl), (Nat.le_of_ble_eq_true rfl)⟩ (by simp_all [rk_If, d_scl])
theorem c_T_requireWindowsCode (c x : Int32) (h : rk_H) : rk_Con mT_requireWindowsCode (8, 108, 1, 6) [.int c, .int x] h (rk_If (if x = 0 then btw c 12 107 else btw c 0 11) x_IA h) := by
  refine rk_Con.of [some (.int c), some (.int x), none, none] rfl (Nat.le_of_ble_eq_true rfl) (by decide +kernel) ?_
  refine rk_iload_n dT_requireWindowsCode_0 rfl ?_
  refine rk_if_eq 8 dT_requireWindowsCode_1 (by decide) (fun q_1 => ?_) (fun q_1 => ?_)
  · refine rk_bipush (v := 12) dT_requireWindowsCode_8 (by decide) ?_
    refine rk_istore_n dT_requireWindowsCode_10 (Nat.le_of_ble_eq_true rfl) ?_
    refine rk_iload_n dT_requireWindowsCode_11 rfl ?_
    refine rk_if_eq 20 dT_requireWindowsCode_12 (by decide) (fun q_12 => ?_) (fun q_12 => ?_)
    · refine rk_bipush (v := 107) dT_requireWindowsCode_20 (by decide) ?_
      refine rk_istore_n dT_requireWindowsCode_22 (Nat.le_of_ble_eq_true rfl) ?_
      refine rk_iload_n dT_requireWindowsCode_23 rfl ?_
      refine rk_iload_n dT_requireWindowsCode_24 rfl ?_
      refine rk_iload_n dT_requireWindowsCode_25 rfl ?_
      refine rk_csI (c_T_requireBetween _ _ _ h) cT_35 dT_requireWindowsCode_26 rfl lT_requireBetween (Nat.le_of_ble_eq_true rfl) (Nat.le_of_ble_eq_true rfl) (Nat.le_of_ble_eq_true rfl) (Nat.le_of_ble_eq_true rfl) rfl ⟨(Nat.le_of_ble_eq_true rfl), (Nat.le_of_ble_eq_true rfl)⟩ (fun g_26 => by simp_all [rk_If]) (fun g_26 => ?_)
      exact rk_ret rfl dT_requireWindowsCode_29 ⟨(Nat.le_of_ble_eq_true rfl), (Nat.le_of_ble_eq_true rfl)⟩ (by simp_all [rk_If])
    · refine rk_bipush (v := 11) dT_requireWindowsCode_15 (by decide) ?_
      refine rk_goto 22 dT_requireWindowsCode_17 (by decide) ?_
      refine rk_istore_n dT_requireWindowsCode_22 (Nat.le_of_ble_eq_true rfl) ?_
      refine rk_iload_n dT_requireWindowsCode_23 rfl ?_
      refine rk_iload_n dT_requireWindowsCode_24 rfl ?_
      refine rk_iload_n dT_requireWindowsCode_25 rfl ?_
      refine rk_csI (c_T_requireBetween _ _ _ h) cT_35 dT_requireWindowsCode_26 rfl lT_requireBetween (Nat.le_of_ble_eq_true rfl) (Nat.le_of_ble_eq_true rfl) (Nat.le_of_ble_eq_true rfl) (Nat.le_of_ble_eq_true rfl) rfl ⟨(Nat.le_of_ble_eq_true rfl), (Nat.le_of_ble_eq_true rfl)⟩ (fun g_26 => by simp_all [rk_If]) (fun g_26 => ?_)
      exact rk_ret rfl dT_requireWindowsCode_29 ⟨(Nat.le_of_ble_eq_true rfl), (Nat.le_of_ble_eq_true rfl)⟩ (by simp_all [rk_If])
  · refine rk_iconst (v := 0) dT_requireWindowsCode_4 (by decide) ?_
    refine rk_goto 10 dT_requireWindowsCode_5 (by decide) ?_
    refine rk_istore_n dT_requireWindowsCode_10 (Nat.le_of_ble_eq_true rfl) ?_
    refine rk_iload_n dT_requireWindowsCode_11 rfl ?_
    refine rk_if_eq 20 dT_requireWindowsCode_12 (by decide) (fun q_12 => ?_) (fun q_12 => ?_)
    · refine rk_bipush (v := 107) dT_requireWindowsCode_20 (by decide) ?_
      refine rk_istore_n dT_requireWindowsCode_22 (Nat.le_of_ble_eq_true rfl) ?_
      refine rk_iload_n dT_requireWindowsCode_23 rfl ?_
      refine rk_iload_n dT_requireWindowsCode_24 rfl ?_
      refine rk_iload_n dT_requireWindowsCode_25 rfl ?_
      refine rk_csI (c_T_requireBetween _ _ _ h) cT_35 dT_requireWindowsCode_26 rfl lT_requireBetween (Nat.le_of_ble_eq_true rfl) (Nat.le_of_ble_eq_true rfl) (Nat.le_of_ble_eq_true rfl) (Nat.le_of_ble_eq_true rfl) rfl ⟨(Nat.le_of_ble_eq_true rfl), (Nat.le_of_ble_eq_true rfl)⟩ (fun g_26 => by simp_all [rk_If]) (fun g_26 => ?_)
      exact rk_ret rfl dT_requireWindowsCode_29 ⟨(Nat.le_of_ble_eq_true rfl), (Nat.le_of_ble_eq_true rfl)⟩ (by simp_all [rk_If])
    · refine rk_bipush (v := 11) dT_requireWindowsCode_15 (by decide) ?_
      refine rk_goto 22 dT_requireWindowsCode_17 (by decide) ?_
      refine rk_istore_n dT_requireWindowsCode_22 (Nat.le_of_ble_eq_true rfl) ?_
      refine rk_iload_n dT_requireWindowsCode_23 rfl ?_
      refine rk_iload_n dT_requireWindowsCode_24 rfl ?_
      refine rk_iload_n dT_requireWindowsCode_25 rfl ?_
      refine rk_csI (c_T_requireBetween _ _ _ h) cT_35 dT_requireWindowsCode_26 rfl lT_requireBetween (Nat.le_of_ble_eq_true rfl) (Nat.le_of_ble_eq_true rfl) (Nat.le_of_ble_eq_true rfl) (Nat.le_of_ble_eq_true rfl) rfl ⟨(Nat.le_of_ble_eq_true rfl), (Nat.le_of_ble_eq_true rfl)⟩ (fun g_26 => by simp_all [rk_If]) (fun g_26 => ?_)
      exact rk_ret rfl dT_requireWindowsCode_29 ⟨(Nat.le_of_ble_eq_true rfl), (Nat.le_of_ble_eq_true rfl)⟩ (by simp_all [rk_If])
theorem c_T_requireWindowFits (a : Nat) (n : nR) (c : Int32) (h : rk_H) (ha : h a = some (oB 2 n.ls)) : rk_Con mT_requireWindowFits (7, 94, 1, 6) [.ref a, .int c] h (rk_If (w_fits c n.h = true ∧ w_fits c n.w = true) x_IA h) := by
  refine rk_Con.of [some (.ref a), some (.int c)] rfl (Nat.le_of_ble_eq_true rfl) (by decide +kernel) ?_
  refine rk_iload_n dT_requireWindowFits_0 rfl ?_
  refine rk_aload_n dT_requireWindowFits_1 rfl ?_
  refine rk_getf fT_101 dT_requireWindowFits_2 (by first | exact ha | assumption) rfl ?_
  refine rk_csV (c_W_fits c n.h h) cT_232 dT_requireWindowFits_5 rfl lW_fits (Nat.le_of_ble_eq_true rfl) (Nat.le_of_ble_eq_true rfl) (Nat.le_of_ble_eq_true rfl) (Nat.le_of_ble_eq_true rfl) ?_
  refine rk_if_eq 26 dT_requireWindowFits_8 (by decide) (fun q_8 => ?_) (fun q_8 => ?_)
  · refine rk_iconst (v := 0) dT_requireWindowFits_26 (by decide) ?_
    refine rk_csI (c_T_require _ h) cT_125 dT_requireWindowFits_27 rfl lT_require (Nat.le_of_ble_eq_true rfl) (Nat.le_of_ble_eq_true rfl) (Nat.le_of_ble_eq_true rfl) (Nat.le_of_ble_eq_true rfl) rfl ⟨(Nat.le_of_ble_eq_true rfl), (Nat.le_of_ble_eq_true rfl)⟩ (fun g_27 => by simp_all [rk_If, b2i_0]) (fun g_27 => ?_)
    exact rk_ret rfl dT_requireWindowFits_30 ⟨(Nat.le_of_ble_eq_true rfl), (Nat.le_of_ble_eq_true rfl)⟩ (by simp_all [rk_If, b2i_0])
  · refine rk_iload_n dT_requireWindowFits_11 rfl ?_
    refine rk_aload_n dT_requireWindowFits_12 rfl ?_
    refine rk_getf fT_108 dT_requireWindowFits_13 (by first | exact ha | assumption) rfl ?_
    refine rk_csV (c_W_fits c n.w h) cT_232 dT_requireWindowFits_16 rfl lW_fits (Nat.le_of_ble_eq_true rfl) (Nat.le_of_ble_eq_true rfl) (Nat.le_of_ble_eq_true rfl) (Nat.le_of_ble_eq_true rfl) ?_
    refine rk_if_eq 26 dT_requireWindowFits_19 (by decide) (fun q_19 => ?_) (fun q_19 => ?_)
    · refine rk_iconst (v := 0) dT_requireWindowFits_26 (by decide) ?_
      refine rk_csI (c_T_require _ h) cT_125 dT_requireWindowFits_27 rfl lT_require (Nat.le_of_ble_eq_true rfl) (Nat.le_of_ble_eq_true rfl) (Nat.le_of_ble_eq_true rfl) (Nat.le_of_ble_eq_true rfl) rfl ⟨(Nat.le_of_ble_eq_true rfl), (Nat.le_of_ble_eq_true rfl)⟩ (fun g_27 => by simp_all [rk_If, b2i_0]) (fun g_27 => ?_)
      exact rk_ret rfl dT_requireWindowFits_30 ⟨(Nat.le_of_ble_eq_true rfl), (Nat.le_of_ble_eq_true rfl)⟩ (by simp_all [rk_If, b2i_0])
    · refine rk_iconst (v := 1) dT_requireWindowFits_22 (by decide) ?_
      refine rk_goto 27 dT_requireWindowFits_23 (by decide) ?_
      refine rk_csI (c_T_require _ h) cT_125 dT_requireWindowFits_27 rfl lT_require (Nat.le_of_ble_eq_true rfl) (Nat.le_of_ble_eq_true rfl) (Nat.le_of_ble_eq_true rfl) (Nat.le_of_ble_eq_true rfl) rfl ⟨(Nat.le_of_ble_eq_true rfl), (Nat.le_of_ble_eq_true rfl)⟩ (fun g_27 => by simp_all [rk_If, b2i_0]) (fun g_27 => ?_)
      exact rk_ret rfl dT_requireWindowFits_30 ⟨(Nat.le_of_ble_eq_true rfl), (Nat.le_of_ble_eq_true rfl)⟩ (by simp_all [rk_If, b2i_0])
theorem c_T_requireWeights (o c p : Int32) (h : rk_H) : rk_Con mT_requireWeights (8, 108, 1, 6) [.int o, .int c, .int p] h (rk_If (btw o 0 (512 - c * p - c)) x_IA h) := by
  refine rk_Con.of [some (.int o), some (.int c), some (.int p), none] rfl (Nat.le_of_ble_eq_true rfl) (by decide +kernel) ?_
  refine rk_iload_n dT_requireWeights_0 rfl ?_
  refine rk_istore_n dT_requireWeights_1 (Nat.le_of_ble_eq_true rfl) ?_
  refine rk_iload_n dT_requireWeights_2 rfl ?_
  refine rk_iconst (v := 0) dT_requireWeights_3 (by decide) ?_
  refine rk_sipush (v := 512) dT_requireWeights_4 (by decide) ?_
  refine rk_iload_n dT_requireWeights_7 rfl ?_
  refine rk_iload_n dT_requireWeights_8 rfl ?_
  refine rk_imul dT_requireWeights_9 ?_
  refine rk_isub dT_requireWeights_10 ?_
  refine rk_iload_n dT_requireWeights_11 rfl ?_
  refine rk_isub dT_requireWeights_12 ?_
  refine rk_csI (c_T_requireBetween _ _ _ h) cT_35 dT_requireWeights_13 rfl lT_requireBetween (Nat.le_of_ble_eq_true rfl) (Nat.le_of_ble_eq_true rfl) (Nat.le_of_ble_eq_true rfl) (Nat.le_of_ble_eq_true rfl) rfl ⟨(Nat.le_of_ble_eq_true rfl), (Nat.le_of_ble_eq_true rfl)⟩ (fun g_13 => by simp_all [rk_If]) (fun g_13 => ?_)
  exact rk_ret rfl dT_requireWeights_16 ⟨(Nat.le_of_ble_eq_true rfl), (Nat.le_of_ble_eq_true rfl)⟩ (by simp_all [rk_If])
theorem c_T_requireGood (r : UInt64) (h : rk_H) : rk_Con mT_requireGood (6, 82, 1, 6) [.double r] h (rk_If (d_good r = true) x_AR h) := by
  refine rk_Con.of [some (.double r), none] rfl (Nat.le_of_ble_eq_true rfl) (by decide +kernel) ?_
  refine rk_dload_n dT_requireGood_0 rfl ?_
  refine rk_csV (c_S_isGood r h) cT_236 dT_requireGood_1 rfl lS_isGood (Nat.le_of_ble_eq_true rfl) (Nat.le_of_ble_eq_true rfl) (Nat.le_of_ble_eq_true rfl) (Nat.le_of_ble_eq_true rfl) ?_
  refine rk_if_ne 17 dT_requireGood_4 (by decide) (fun q_4 => ?_) (fun q_4 => ?_)
  · exact rk_ret rfl dT_requireGood_17 ⟨(Nat.le_of_ble_eq_true rfl), (Nat.le_of_ble_eq_true rfl)⟩ (by simp_all [rk_If, b2i_0, x_AR])
  · exact rk_throw tmT_requireGood_7 rfl dT_requireGood_7 dT_requireGood_10 dT_requireGood_11 dT_requireGood_13 dT_requireGood_16 (Nat.le_of_ble_eq_true rfl) (Nat.le_of_ble_eq_true rfl) (Nat.le_of_ble_eq_true rfl) (Nat.le_of_ble_eq_true rfl) (by simp_all [rk_If, b2i_0, x_AR])
/-- TensorForge's fields; Graph's fields -/
abbrev tR : Type := (Nat × Nat) × UInt64 × Int32 × Int32
def tR.ls (t : tR) : List Value := [.ref t.1.1, .ref t.1.2, .double t.2.1, .int t.2.2.1, .int t.2.2.2]
abbrev gR : Type := (Nat × Nat × Nat × Nat × Nat × Nat) × (Int32 × Int32 × Int32)
def gR.na (g : gR) : Nat := g.1.1
def gR.sf (g : gR) : Nat := g.1.2.1
def gR.st (g : gR) : Nat := g.1.2.2.1
def gR.sp (g : gR) : Nat := g.1.2.2.2.1
def gR.pl (g : gR) : Nat := g.1.2.2.2.2.1
def gR.la (g : gR) : Nat := g.1.2.2.2.2.2
def gR.n (g : gR) : Int32 := g.2.1
def gR.sn (g : gR) : Int32 := g.2.2.1
def gR.pk (g : gR) : Int32 := g.2.2.2
def gR.ls (g : gR) : List Value := [.ref g.na, .ref g.sf, .ref g.st, .ref g.sp, .ref g.pl, .int g.n, .int g.sn, .int g.pk, .ref g.la]
theorem c_T_requireNode (a b : Nat) (t : tR) (g : gR) (n : Int32) (h : rk_H) (ha : h a = some (oB 5 t.ls)) (hb : h t.1.1 = some (oB 0 g.ls)) : rk_Con mT_requireNode (8, 108, 1, 6) [.ref a, .int n] h (rk_If (btw n 0 (g.n - 1)) x_IA h) := by
  refine rk_Con.of [some (.ref a), some (.int n)] rfl (Nat.le_of_ble_eq_true rfl) (by decide +kernel) ?_
  refine rk_iload_n dT_requireNode_0 rfl ?_
  refine rk_iconst (v := 0) dT_requireNode_1 (by decide) ?_
  refine rk_aload_n dT_requireNode_2 rfl ?_
  refine rk_getf fT_12 dT_requireNode_3 (by first | exact ha | exact hb | assumption) rfl ?_
  refine rk_getf fT_227 dT_requireNode_6 (by first | exact ha | exact hb | assumption) rfl ?_
  refine rk_iconst (v := 1) dT_requireNode_9 (by decide) ?_
  refine rk_isub dT_requireNode_10 ?_
  refine rk_csI (c_T_requireBetween _ _ _ h) cT_35 dT_requireNode_11 rfl lT_requireBetween (Nat.le_of_ble_eq_true rfl) (Nat.le_of_ble_eq_true rfl) (Nat.le_of_ble_eq_true rfl) (Nat.le_of_ble_eq_true rfl) rfl ⟨(Nat.le_of_ble_eq_true rfl), (Nat.le_of_ble_eq_true rfl)⟩ (fun g_11 => by simp_all [rk_If]) (fun g_11 => ?_)
  exact rk_ret rfl dT_requireNode_14 ⟨(Nat.le_of_ble_eq_true rfl), (Nat.le_of_ble_eq_true rfl)⟩ (by simp_all [rk_If])
theorem c_T_requireRoom (a : Nat) (t : tR) (g : gR) (h : rk_H) (ha : h a = some (oB 5 t.ls)) (hb : h t.1.1 = some (oB 0 g.ls)) : rk_Con mT_requireRoom (6, 82, 1, 6) [.ref a] h (rk_If (g.n < 14) x_IS h) := by
  refine rk_Con.of [some (.ref a)] rfl (Nat.le_of_ble_eq_true rfl) (by decide +kernel) ?_
  refine rk_aload_n dT_requireRoom_0 rfl ?_
  refine rk_getf fT_12 dT_requireRoom_1 (by first | exact ha | exact hb | assumption) rfl ?_
  refine rk_getf fT_227 dT_requireRoom_4 (by first | exact ha | exact hb | assumption) rfl ?_
  refine rk_bipush (v := 14) dT_requireRoom_7 (by decide) ?_
  refine rk_icmp_lt 22 dT_requireRoom_9 (by decide) (fun q_9 => ?_) (fun q_9 => ?_)
  · exact rk_ret rfl dT_requireRoom_22 ⟨(Nat.le_of_ble_eq_true rfl), (Nat.le_of_ble_eq_true rfl)⟩ (by simp_all [rk_If, x_IS])
  · exact rk_throw tmT_requireRoom_12 rfl dT_requireRoom_12 dT_requireRoom_15 dT_requireRoom_16 dT_requireRoom_18 dT_requireRoom_21 (Nat.le_of_ble_eq_true rfl) (Nat.le_of_ble_eq_true rfl) (Nat.le_of_ble_eq_true rfl) (Nat.le_of_ble_eq_true rfl) (by simp_all [rk_If, x_IS])
theorem c_T_requireCompiled (a : Nat) (t : tR) (h : rk_H) (ha : h a = some (oB 5 t.ls)) : rk_Con mT_requireCompiled (6, 82, 1, 6) [.ref a] h (rk_If (¬ t.2.2.2 = 0) x_IS h) := by
  refine rk_Con.of [some (.ref a)] rfl (Nat.le_of_ble_eq_true rfl) (by decide +kernel) ?_
  refine rk_aload_n dT_requireCompiled_0 rfl ?_
  refine rk_getf fT_31 dT_requireCompiled_1 (by first | exact ha | assumption) rfl ?_
  refine rk_if_ne 17 dT_requireCompiled_4 (by decide) (fun q_4 => ?_) (fun q_4 => ?_)
  · exact rk_ret rfl dT_requireCompiled_17 ⟨(Nat.le_of_ble_eq_true rfl), (Nat.le_of_ble_eq_true rfl)⟩ (by simp_all [rk_If, x_IS])
  · exact rk_throw tmT_requireCompiled_7 rfl dT_requireCompiled_7 dT_requireCompiled_10 dT_requireCompiled_11 dT_requireCompiled_13 dT_requireCompiled_16 (Nat.le_of_ble_eq_true rfl) (Nat.le_of_ble_eq_true rfl) (Nat.le_of_ble_eq_true rfl) (Nat.le_of_ble_eq_true rfl) (by simp_all [rk_If, x_IS])
