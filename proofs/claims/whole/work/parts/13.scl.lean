/-! Scaler; cut -/
def s_scl (m : Int64) (sh x : Int32) : Int64 :=
  let v := ((if 0 < x.toInt64 then x.toInt64 else -x.toInt64) * m + (1 <<< ((sh - 1).toInt64 &&& 63))) >>> (sh.toInt64 &&& 63)
  if 0 ≤ x then v else -v
theorem c_S_scaled (a : Nat) (m : Int64) (sh x : Int32) (h : rk_H) (ha : h a = some (oB 3 [.long m, .int sh])) : rk_Con mS_scaled (1, 18, 0, 0) [.ref a, .int x] h (rk_Rv (.long (s_scl m sh x)) h) := by
  refine rk_Con.of [some (.ref a), some (.int x), none, none, none, none] rfl (Nat.le_of_ble_eq_true rfl) (by decide +kernel) ?_
  refine rk_lconst (v := 1) dS_scaled_0 (by decide) ?_
  refine rk_aload_n dS_scaled_1 rfl ?_
  refine rk_getf fS_27 dS_scaled_2 (by first | exact ha | assumption) rfl ?_
  refine rk_iconst (v := 1) dS_scaled_5 (by decide) ?_
  refine rk_isub dS_scaled_6 ?_
  refine rk_lshl dS_scaled_7 ?_
  refine rk_lstore_n dS_scaled_8 (Nat.le_of_ble_eq_true rfl) ?_
  refine rk_iload_n dS_scaled_9 rfl ?_
  refine rk_i2l dS_scaled_10 ?_
  refine rk_jabsl jS_31 dS_scaled_11 ⟨(Nat.le_of_ble_eq_true rfl), (Nat.le_of_ble_eq_true rfl)⟩ (Nat.le_of_ble_eq_true rfl) (Nat.le_of_ble_eq_true rfl) ?_
  refine rk_aload_n dS_scaled_14 rfl ?_
  refine rk_getf fS_19 dS_scaled_15 (by first | exact ha | assumption) rfl ?_
  refine rk_lmul dS_scaled_18 ?_
  refine rk_lload_n dS_scaled_19 rfl ?_
  refine rk_ladd dS_scaled_20 ?_
  refine rk_aload_n dS_scaled_21 rfl ?_
  refine rk_getf fS_27 dS_scaled_22 (by first | exact ha | assumption) rfl ?_
  refine rk_lshr dS_scaled_25 ?_
  refine rk_lstore dS_scaled_26 (Nat.le_of_ble_eq_true rfl) ?_
  refine rk_iload_n dS_scaled_28 rfl ?_
  refine rk_if_ge 38 dS_scaled_29 (by decide) (fun q_29 => ?_) (fun q_29 => ?_)
  · refine rk_lload dS_scaled_38 rfl ?_
    exact rk_lret rfl dS_scaled_40 ⟨(Nat.le_of_ble_eq_true rfl), (Nat.le_of_ble_eq_true rfl)⟩ (by simp only [rk_Rv, s_scl, q_29, ↓reduceIte, and_self])
  · refine rk_lload dS_scaled_32 rfl ?_
    refine rk_lneg dS_scaled_34 ?_
    refine rk_goto 40 dS_scaled_35 (by decide) ?_
    exact rk_lret rfl dS_scaled_40 ⟨(Nat.le_of_ble_eq_true rfl), (Nat.le_of_ble_eq_true rfl)⟩ (by simp only [rk_Rv, s_scl, q_29, ↓reduceIte, and_self])
def s_cut (v : Int64) : Int32 := (if (if v < 127 then v else 127) < -128 then -128 else (if v < 127 then v else 127)).toInt32
theorem c_M_cut (v : Int64) (h : rk_H) : rk_Con mM_cut (1, 20, 0, 0) [.long v] h (rk_Rv (.int (s_cut v)) h) := by
  refine rk_Con.of [some (.long v), none] rfl (Nat.le_of_ble_eq_true rfl) (by decide +kernel) ?_
  refine rk_ldc2 qM_241 dM_cut_0 ?_
  refine rk_ldc2 qM_243 dM_cut_3 ?_
  refine rk_lload_n dM_cut_6 rfl ?_
  refine rk_jminl jM_245 dM_cut_7 ⟨(Nat.le_of_ble_eq_true rfl), (Nat.le_of_ble_eq_true rfl)⟩ (Nat.le_of_ble_eq_true rfl) (Nat.le_of_ble_eq_true rfl) ?_
  refine rk_jmaxl jM_248 dM_cut_10 ⟨(Nat.le_of_ble_eq_true rfl), (Nat.le_of_ble_eq_true rfl)⟩ (Nat.le_of_ble_eq_true rfl) (Nat.le_of_ble_eq_true rfl) ?_
  refine rk_l2i dM_cut_13 ?_
  exact rk_iret rfl dM_cut_14 ⟨(Nat.le_of_ble_eq_true rfl), (Nat.le_of_ble_eq_true rfl)⟩ (⟨rfl, rfl⟩)
/-- a good ratio as a fraction in [0.5, 1) and a power of two, then as a whole number over a power of two -/
def s_fr (r : UInt64) : UInt64 := UInt64.ofNat (1022 * 2 ^ 52 + r.toNat % 2 ^ 52)
def s_ex (r : UInt64) : Int32 := nI (r.toNat / 2 ^ 52) - 1022
def s_m0 (r : UInt64) : Int64 := FP.d2l (FP.dadd (FP.dmul (s_fr r) 4746794007248502784) 4602678819172646912)
def s_mul (r : UInt64) : Int64 := if s_m0 r = 2147483648 then 1073741824 else s_m0 r
def s_sh (r : UInt64) : Int32 := if s_m0 r = 2147483648 then 31 - (s_ex r + 1) else 31 - s_ex r
theorem c_S_take (a : Nat) (m : Int64) (sh : Int32) (r : UInt64) (h : rk_H) (ha : h a = some (oB 3 [.long m, .int sh])) (hr : d_good r = true) : rk_Con mS_take (0, 0, 0, 0) [.ref a, .double r] h (rk_R0 (rk_up h a (oB 3 [.long (s_mul r), .int (s_sh r)]))) := by
  sorry
