/-! Window, Scaler, Node: the leaves -/
def b2i (b : Bool) : Int32 := if b = true then 1 else 0
def i_mod (a b : Int32) : Int32 := a - a / b * b
def w_size (c : Int32) : Int32 := 1 + i_mod c 3
def w_step (c : Int32) : Int32 := 1 + i_mod (c / 3) 2
def w_same (c : Int32) : Bool := decide (6 ≤ c)
theorem c_W_sizeOf (c : Int32) (h : rk_H) : rk_Con mW_sizeOf (0, 0, 0, 0) [.int c] h (rk_Rv (.int (w_size c)) h) := by
  refine rk_Con.of [some (.int c)] rfl (Nat.le_of_ble_eq_true rfl) (by decide +kernel) ?_
  refine rk_iconst (v := 1) dW_sizeOf_0 (by decide) ?_
  refine rk_iload_n dW_sizeOf_1 rfl ?_
  refine rk_iconst (v := 3) dW_sizeOf_2 (by decide) ?_
  refine rk_irem dW_sizeOf_3 (by decide) ?_
  refine rk_iadd dW_sizeOf_4 ?_
  exact rk_iret rfl dW_sizeOf_5 ⟨(Nat.le_of_ble_eq_true rfl), (Nat.le_of_ble_eq_true rfl)⟩ (⟨rfl, rfl⟩)
theorem c_W_stepOf (c : Int32) (h : rk_H) : rk_Con mW_stepOf (0, 0, 0, 0) [.int c] h (rk_Rv (.int (w_step c)) h) := by
  refine rk_Con.of [some (.int c)] rfl (Nat.le_of_ble_eq_true rfl) (by decide +kernel) ?_
  refine rk_iconst (v := 1) dW_stepOf_0 (by decide) ?_
  refine rk_iload_n dW_stepOf_1 rfl ?_
  refine rk_iconst (v := 3) dW_stepOf_2 (by decide) ?_
  refine rk_idiv dW_stepOf_3 (by decide) ?_
  refine rk_iconst (v := 2) dW_stepOf_4 (by decide) ?_
  refine rk_irem dW_stepOf_5 (by decide) ?_
  refine rk_iadd dW_stepOf_6 ?_
  exact rk_iret rfl dW_stepOf_7 ⟨(Nat.le_of_ble_eq_true rfl), (Nat.le_of_ble_eq_true rfl)⟩ (⟨rfl, rfl⟩)
theorem c_W_isSame (c : Int32) (h : rk_H) : rk_Con mW_isSame (0, 0, 0, 0) [.int c] h (rk_Rv (.int (b2i (w_same c))) h) := by
  refine rk_Con.of [some (.int c)] rfl (Nat.le_of_ble_eq_true rfl) (by decide +kernel) ?_
  refine rk_iload_n dW_isSame_0 rfl ?_
  refine rk_bipush (v := 6) dW_isSame_1 (by decide) ?_
  refine rk_icmp_lt 10 dW_isSame_3 (by decide) (fun q_3 => ?_) (fun q_3 => ?_)
  · refine rk_iconst (v := 0) dW_isSame_10 (by decide) ?_
    exact rk_zret rfl rfl dW_isSame_11 ⟨(Nat.le_of_ble_eq_true rfl), (Nat.le_of_ble_eq_true rfl)⟩ (by simp_all [rk_Rv, b2i, w_same])
  · refine rk_iconst (v := 1) dW_isSame_6 (by decide) ?_
    refine rk_goto 11 dW_isSame_7 (by decide) ?_
    exact rk_zret rfl rfl dW_isSame_11 ⟨(Nat.le_of_ble_eq_true rfl), (Nat.le_of_ble_eq_true rfl)⟩ (by simp_all [rk_Rv, b2i, w_same])
