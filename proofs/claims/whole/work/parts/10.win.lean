/-! Window, Scaler, Node: the leaves -/
def b2i (b : Bool) : Int32 := if b = true then 1 else 0
theorem b2i_0 {b : Bool} : b2i b = 0 ↔ b = false := by cases b <;> simp [b2i]
theorem b2i_t : b2i true = 1 := rfl
theorem b2i_f : b2i false = 0 := rfl
theorem b2i_nr (b : Bool) : narrow .boolean (.int (b2i b)) = .int (b2i b) := by cases b <;> rfl
def i_mod (a b : Int32) : Int32 := a - a / b * b
def i_max (x y : Int32) : Int32 := if x < y then y else x
def i_min (x y : Int32) : Int32 := if y < x then y else x
def w_size (c : Int32) : Int32 := 1 + i_mod c 3
def w_step (c : Int32) : Int32 := 1 + i_mod (c / 3) 2
def w_same (c : Int32) : Bool := decide (6 ≤ c)
def w_fits (c l : Int32) : Bool := w_same c || decide (w_size c ≤ l)
def w_way (c l : Int32) : Int32 := if w_same c = true then l - 1 else l - w_size c
def w_plc (c l : Int32) : Int32 := 1 + (if w_step c = 2 then w_way c l / 2 else w_way c l)
theorem c_W_sizeOf (c : Int32) (h : rk_H) : rk_Con mW_sizeOf (0, 0, 0, 0) [.int c] h (rk_Rv (.int (w_size c)) h) := by
  refine rk_Con.of [some (.int c)] rfl (Nat.le_of_ble_eq_true rfl) (by decide +kernel) ?_
  refine rk_iconst (v := 1) dW_sizeOf_0 (by decide) ?_
  refine rk_iload_n dW_sizeOf_1 rfl ?_
  refine rk_iconst (v := 3) dW_sizeOf_2 (by decide) ?_
  refine rk_irem dW_sizeOf_3 (by decide) ?_
  refine rk_iadd dW_sizeOf_4 ?_
  exact rk_iret rfl dW_sizeOf_5 ⟨(Nat.le_of_ble_eq_true rfl), (Nat.le_of_ble_eq_true rfl)⟩ (⟨rfl, rfl⟩)
theorem c_W_stepOf (c : Int32) (h : rk_H) : rk_Con mW_stepOf (0, 0, 0, 0) [.int c] h (rk_Rv (.int (w_step c)) h) := by
  refine rk_Con.of [some (.int c)] rfl (Nat.le_of_ble_eq_true rfl) (by decide +kernel) ?_
  refine rk_iconst (v := 1) dW_stepOf_0 (by decide) ?_
  refine rk_iload_n dW_stepOf_1 rfl ?_
  refine rk_iconst (v := 3) dW_stepOf_2 (by decide) ?_
  refine rk_idiv dW_stepOf_3 (by decide) ?_
  refine rk_iconst (v := 2) dW_stepOf_4 (by decide) ?_
  refine rk_irem dW_stepOf_5 (by decide) ?_
  refine rk_iadd dW_stepOf_6 ?_
  exact rk_iret rfl dW_stepOf_7 ⟨(Nat.le_of_ble_eq_true rfl), (Nat.le_of_ble_eq_true rfl)⟩ (⟨rfl, rfl⟩)
theorem c_W_isSame (c : Int32) (h : rk_H) : rk_Con mW_isSame (0, 0, 0, 0) [.int c] h (rk_Rv (.int (b2i (w_same c))) h) := by
  refine rk_Con.of [some (.int c)] rfl (Nat.le_of_ble_eq_true rfl) (by decide +kernel) ?_
  refine rk_iload_n dW_isSame_0 rfl ?_
  refine rk_bipush (v := 6) dW_isSame_1 (by decide) ?_
  refine rk_icmp_lt 10 dW_isSame_3 (by decide) (fun q_3 => ?_) (fun q_3 => ?_)
  · refine rk_iconst (v := 0) dW_isSame_10 (by decide) ?_
    exact rk_zret rfl rfl dW_isSame_11 ⟨(Nat.le_of_ble_eq_true rfl), (Nat.le_of_ble_eq_true rfl)⟩ (by simp_all [rk_Rv, b2i, w_same])
  · refine rk_iconst (v := 1) dW_isSame_6 (by decide) ?_
    refine rk_goto 11 dW_isSame_7 (by decide) ?_
    exact rk_zret rfl rfl dW_isSame_11 ⟨(Nat.le_of_ble_eq_true rfl), (Nat.le_of_ble_eq_true rfl)⟩ (by simp_all [rk_Rv, b2i, w_same])
theorem c_W_fits (c l : Int32) (h : rk_H) : rk_Con mW_fits (1, 13, 0, 0) [.int c, .int l] h (rk_Rv (.int (b2i (w_fits c l))) h) := by
  refine rk_Con.of [some (.int c), some (.int l)] rfl (Nat.le_of_ble_eq_true rfl) (by decide +kernel) ?_
  refine rk_iload_n dW_fits_0 rfl ?_
  refine rk_csV (c_W_isSame c h) cW_7 dW_fits_1 rfl lW_isSame (Nat.le_of_ble_eq_true rfl) (Nat.le_of_ble_eq_true rfl) (Nat.le_of_ble_eq_true rfl) (Nat.le_of_ble_eq_true rfl) ?_
  refine rk_if_ne 15 dW_fits_4 (by decide) (fun q_4 => ?_) (fun q_4 => ?_)
  · refine rk_iconst (v := 1) dW_fits_15 (by decide) ?_
    refine rk_goto 20 dW_fits_16 (by decide) ?_
    exact rk_zret rfl rfl dW_fits_20 ⟨(Nat.le_of_ble_eq_true rfl), (Nat.le_of_ble_eq_true rfl)⟩ (by simp_all [rk_Rv, b2i, w_fits])
  · refine rk_iload_n dW_fits_7 rfl ?_
    refine rk_iload_n dW_fits_8 rfl ?_
    refine rk_csV (c_W_sizeOf c h) cW_13 dW_fits_9 rfl lW_sizeOf (Nat.le_of_ble_eq_true rfl) (Nat.le_of_ble_eq_true rfl) (Nat.le_of_ble_eq_true rfl) (Nat.le_of_ble_eq_true rfl) ?_
    refine rk_icmp_lt 19 dW_fits_12 (by decide) (fun q_12 => ?_) (fun q_12 => ?_)
    · refine rk_iconst (v := 0) dW_fits_19 (by decide) ?_
      exact rk_zret rfl rfl dW_fits_20 ⟨(Nat.le_of_ble_eq_true rfl), (Nat.le_of_ble_eq_true rfl)⟩ (by simp_all [rk_Rv, b2i, w_fits])
    · refine rk_iconst (v := 1) dW_fits_15 (by decide) ?_
      refine rk_goto 20 dW_fits_16 (by decide) ?_
      exact rk_zret rfl rfl dW_fits_20 ⟨(Nat.le_of_ble_eq_true rfl), (Nat.le_of_ble_eq_true rfl)⟩ (by simp_all [rk_Rv, b2i, w_fits])
theorem c_W_placesOf (c l : Int32) (h : rk_H) : rk_Con mW_placesOf (1, 13, 0, 0) [.int c, .int l] h (rk_Rv (.int (w_plc c l)) h) := by
  refine rk_Con.of [some (.int c), some (.int l), none] rfl (Nat.le_of_ble_eq_true rfl) (by decide +kernel) ?_
  refine rk_iload_n dW_placesOf_0 rfl ?_
  refine rk_csV (c_W_isSame c h) cW_7 dW_placesOf_1 rfl lW_isSame (Nat.le_of_ble_eq_true rfl) (Nat.le_of_ble_eq_true rfl) (Nat.le_of_ble_eq_true rfl) (Nat.le_of_ble_eq_true rfl) ?_
  refine rk_if_eq 13 dW_placesOf_4 (by decide) (fun q_4 => ?_) (fun q_4 => ?_)
  · refine rk_iload_n dW_placesOf_13 rfl ?_
    refine rk_iload_n dW_placesOf_14 rfl ?_
    refine rk_csV (c_W_sizeOf c h) cW_13 dW_placesOf_15 rfl lW_sizeOf (Nat.le_of_ble_eq_true rfl) (Nat.le_of_ble_eq_true rfl) (Nat.le_of_ble_eq_true rfl) (Nat.le_of_ble_eq_true rfl) ?_
    refine rk_isub dW_placesOf_18 ?_
    refine rk_istore_n dW_placesOf_19 (Nat.le_of_ble_eq_true rfl) ?_
    refine rk_iconst (v := 1) dW_placesOf_20 (by decide) ?_
    refine rk_iload_n dW_placesOf_21 rfl ?_
    refine rk_csV (c_W_stepOf c h) cW_17 dW_placesOf_22 rfl lW_stepOf (Nat.le_of_ble_eq_true rfl) (Nat.le_of_ble_eq_true rfl) (Nat.le_of_ble_eq_true rfl) (Nat.le_of_ble_eq_true rfl) ?_
    refine rk_iconst (v := 2) dW_placesOf_25 (by decide) ?_
    refine rk_icmp_ne 35 dW_placesOf_26 (by decide) (fun q_26 => ?_) (fun q_26 => ?_)
    · refine rk_iload_n dW_placesOf_35 rfl ?_
      refine rk_iadd dW_placesOf_36 ?_
      exact rk_iret rfl dW_placesOf_37 ⟨(Nat.le_of_ble_eq_true rfl), (Nat.le_of_ble_eq_true rfl)⟩ (by simp_all [rk_Rv, b2i_0, w_plc, w_way])
    · refine rk_iload_n dW_placesOf_29 rfl ?_
      refine rk_iconst (v := 2) dW_placesOf_30 (by decide) ?_
      refine rk_idiv dW_placesOf_31 (by decide) ?_
      refine rk_goto 36 dW_placesOf_32 (by decide) ?_
      refine rk_iadd dW_placesOf_36 ?_
      exact rk_iret rfl dW_placesOf_37 ⟨(Nat.le_of_ble_eq_true rfl), (Nat.le_of_ble_eq_true rfl)⟩ (by simp_all [rk_Rv, b2i_0, w_plc, w_way])
  · refine rk_iload_n dW_placesOf_7 rfl ?_
    refine rk_iconst (v := 1) dW_placesOf_8 (by decide) ?_
    refine rk_isub dW_placesOf_9 ?_
    refine rk_goto 19 dW_placesOf_10 (by decide) ?_
    refine rk_istore_n dW_placesOf_19 (Nat.le_of_ble_eq_true rfl) ?_
    refine rk_iconst (v := 1) dW_placesOf_20 (by decide) ?_
    refine rk_iload_n dW_placesOf_21 rfl ?_
    refine rk_csV (c_W_stepOf c h) cW_17 dW_placesOf_22 rfl lW_stepOf (Nat.le_of_ble_eq_true rfl) (Nat.le_of_ble_eq_true rfl) (Nat.le_of_ble_eq_true rfl) (Nat.le_of_ble_eq_true rfl) ?_
    refine rk_iconst (v := 2) dW_placesOf_25 (by decide) ?_
    refine rk_icmp_ne 35 dW_placesOf_26 (by decide) (fun q_26 => ?_) (fun q_26 => ?_)
    · refine rk_iload_n dW_placesOf_35 rfl ?_
      refine rk_iadd dW_placesOf_36 ?_
      exact rk_iret rfl dW_placesOf_37 ⟨(Nat.le_of_ble_eq_true rfl), (Nat.le_of_ble_eq_true rfl)⟩ (by simp_all [rk_Rv, b2i_0, w_plc, w_way])
    · refine rk_iload_n dW_placesOf_29 rfl ?_
      refine rk_iconst (v := 2) dW_placesOf_30 (by decide) ?_
      refine rk_idiv dW_placesOf_31 (by decide) ?_
      refine rk_goto 36 dW_placesOf_32 (by decide) ?_
      refine rk_iadd dW_placesOf_36 ?_
      exact rk_iret rfl dW_placesOf_37 ⟨(Nat.le_of_ble_eq_true rfl), (Nat.le_of_ble_eq_true rfl)⟩ (by simp_all [rk_Rv, b2i_0, w_plc, w_way])
/-- a Window's fields -/
abbrev wR : Type := (Int32 × Int32 × Int32) × (Int32 × Int32 × Int32 × Int32) × (Int32 × Int32 × Int32 × Int32 × Int32)
def wR.k (w : wR) : Int32 := w.1.1
def wR.top (w : wR) : Int32 := w.1.2.1
def wR.left (w : wR) : Int32 := w.1.2.2
def wR.r0 (w : wR) : Int32 := w.2.1.1
def wR.r1 (w : wR) : Int32 := w.2.1.2.1
def wR.c0 (w : wR) : Int32 := w.2.1.2.2.1
def wR.c1 (w : wR) : Int32 := w.2.1.2.2.2
def wR.sp (w : wR) : Int32 := w.2.2.1
def wR.rs (w : wR) : Int32 := w.2.2.2.1
def wR.cs (w : wR) : Int32 := w.2.2.2.2.1
def wR.rb (w : wR) : Int32 := w.2.2.2.2.2.1
def wR.cb (w : wR) : Int32 := w.2.2.2.2.2.2
def wR.ls (w : wR) : List Value := [.int w.k, .int w.top, .int w.left, .int w.r0, .int w.r1, .int w.c0, .int w.c1, .int w.sp, .int w.rs, .int w.cs, .int w.rb, .int w.cb]
/-- a Node's fields -/
abbrev nR : Type := (Int32 × Int32 × Int32) × (Int32 × Int32 × Int32 × Int32) × (UInt64 × Nat) × (Int32 × Int32 × UInt64) × (Int32 × Int32) × (UInt64 × UInt64)
def nR.kd (n : nR) : Int32 := n.1.1
def nR.one (n : nR) : Int32 := n.1.2.1
def nR.two (n : nR) : Int32 := n.1.2.2
def nR.h (n : nR) : Int32 := n.2.1.1
def nR.w (n : nR) : Int32 := n.2.1.2.1
def nR.c (n : nR) : Int32 := n.2.1.2.2.1
def nR.ce (n : nR) : Int32 := n.2.1.2.2.2
def nR.sc (n : nR) : UInt64 := n.2.2.1.1
def nR.fe (n : nR) : Nat := n.2.2.1.2
def nR.co (n : nR) : Int32 := n.2.2.2.1.1
def nR.off (n : nR) : Int32 := n.2.2.2.1.2.1
def nR.ws (n : nR) : UInt64 := n.2.2.2.1.2.2
def nR.lo (n : nR) : Int32 := n.2.2.2.2.1.1
def nR.hi (n : nR) : Int32 := n.2.2.2.2.1.2
def nR.ra (n : nR) : UInt64 := n.2.2.2.2.2.1
def nR.ro (n : nR) : UInt64 := n.2.2.2.2.2.2
def nR.ls (n : nR) : List Value := [.int n.kd, .int n.one, .int n.two, .int n.h, .int n.w, .int n.c, .int n.ce, .double n.sc, .ref n.fe, .int n.co, .int n.off, .double n.ws, .int n.lo, .int n.hi, .double n.ra, .double n.ro]
def w_bef (k sp p l : Int32) : Int32 := (i_max ((p - 1) * sp + k - l) 0) / 2
theorem c_W_before (a : Nat) (w : wR) (p l : Int32) (h : rk_H) (ha : h a = some (oB 4 w.ls)) : rk_Con mW_before (1, 18, 0, 0) [.ref a, .int p, .int l] h (rk_Rv (.int (w_bef w.k w.sp p l)) h) := by
  refine rk_Con.of [some (.ref a), some (.int p), some (.int l), none] rfl (Nat.le_of_ble_eq_true rfl) (by decide +kernel) ?_
  refine rk_iload_n dW_before_0 rfl ?_
  refine rk_iconst (v := 1) dW_before_1 (by decide) ?_
  refine rk_isub dW_before_2 ?_
  refine rk_aload_n dW_before_3 rfl ?_
  refine rk_getf fW_29 dW_before_4 (by first | exact ha | assumption) rfl ?_
  refine rk_imul dW_before_7 ?_
  refine rk_aload_n dW_before_8 rfl ?_
  refine rk_getf fW_26 dW_before_9 (by first | exact ha | assumption) rfl ?_
  refine rk_iadd dW_before_12 ?_
  refine rk_iload_n dW_before_13 rfl ?_
  refine rk_isub dW_before_14 ?_
  refine rk_istore_n dW_before_15 (Nat.le_of_ble_eq_true rfl) ?_
  refine rk_iload_n dW_before_16 rfl ?_
  refine rk_iconst (v := 0) dW_before_17 (by decide) ?_
  refine rk_jmax jW_54 dW_before_18 ⟨(Nat.le_of_ble_eq_true rfl), (Nat.le_of_ble_eq_true rfl)⟩ (Nat.le_of_ble_eq_true rfl) (Nat.le_of_ble_eq_true rfl) ?_
  refine rk_iconst (v := 2) dW_before_21 (by decide) ?_
  refine rk_idiv dW_before_22 (by decide) ?_
  exact rk_iret rfl dW_before_23 ⟨(Nat.le_of_ble_eq_true rfl), (Nat.le_of_ble_eq_true rfl)⟩ (⟨rfl, rfl⟩)
def w_lay (w : wR) (co nh nw oh ow : Int32) : wR := ((w_size co, w.top, w.left), (w.r0, w.r1, w.c0, w.c1), (w_step co, oh, ow, w_bef (w_size co) (w_step co) nh oh, w_bef (w_size co) (w_step co) nw ow))
theorem c_W_lay (a b c : Nat) (w : wR) (n o : nR) (h : rk_H) (ha : h a = some (oB 4 w.ls)) (hb : h b = some (oB 2 n.ls)) (hc : h c = some (oB 2 o.ls)) (hba : b ≠ a) (hca : c ≠ a) : rk_Con mW_lay (2, 34, 0, 0) [.ref a, .ref b, .ref c] h (rk_R0 (rk_up h a (oB 4 (w_lay w n.co n.h n.w o.h o.w).ls))) := by
  refine rk_Con.of [some (.ref a), some (.ref b), some (.ref c)] rfl (Nat.le_of_ble_eq_true rfl) (by decide +kernel) ?_
  refine rk_aload_n dW_lay_0 rfl ?_
  refine rk_aload_n dW_lay_1 rfl ?_
  refine rk_getf fW_20 dW_lay_2 (by first | exact ha | exact hb | exact hc | assumption | (simp only [rk_up_s, rk_up_n hba, rk_up_n hca]; first | exact ha | exact hb | exact hc | rfl)) rfl ?_
  refine rk_csV (c_W_sizeOf _ _) cW_13 dW_lay_5 rfl lW_sizeOf (Nat.le_of_ble_eq_true rfl) (Nat.le_of_ble_eq_true rfl) (Nat.le_of_ble_eq_true rfl) (Nat.le_of_ble_eq_true rfl) ?_
  refine rk_putf pW_26 dW_lay_8 (by first | exact ha | exact hb | exact hc | assumption | (simp only [rk_up_s, rk_up_n hba, rk_up_n hca]; first | exact ha | exact hb | exact hc | rfl)) (Nat.le_of_ble_eq_true rfl) rfl rfl ?_
  refine rk_aload_n dW_lay_11 rfl ?_
  refine rk_aload_n dW_lay_12 rfl ?_
  refine rk_getf fW_20 dW_lay_13 (by first | exact ha | exact hb | exact hc | assumption | (simp only [rk_up_s, rk_up_n hba, rk_up_n hca]; first | exact ha | exact hb | exact hc | rfl)) rfl ?_
  refine rk_csV (c_W_stepOf _ _) cW_17 dW_lay_16 rfl lW_stepOf (Nat.le_of_ble_eq_true rfl) (Nat.le_of_ble_eq_true rfl) (Nat.le_of_ble_eq_true rfl) (Nat.le_of_ble_eq_true rfl) ?_
  refine rk_putf pW_29 dW_lay_19 (by first | exact ha | exact hb | exact hc | assumption | (simp only [rk_up_s, rk_up_n hba, rk_up_n hca]; first | exact ha | exact hb | exact hc | rfl)) (Nat.le_of_ble_eq_true rfl) rfl rfl ?_
  refine rk_aload_n dW_lay_22 rfl ?_
  refine rk_aload_n dW_lay_23 rfl ?_
  refine rk_getf fW_32 dW_lay_24 (by first | exact ha | exact hb | exact hc | assumption | (simp only [rk_up_s, rk_up_n hba, rk_up_n hca]; first | exact ha | exact hb | exact hc | rfl)) rfl ?_
  refine rk_putf pW_35 dW_lay_27 (by first | exact ha | exact hb | exact hc | assumption | (simp only [rk_up_s, rk_up_n hba, rk_up_n hca]; first | exact ha | exact hb | exact hc | rfl)) (Nat.le_of_ble_eq_true rfl) rfl rfl ?_
  refine rk_aload_n dW_lay_30 rfl ?_
  refine rk_aload_n dW_lay_31 rfl ?_
  refine rk_getf fW_38 dW_lay_32 (by first | exact ha | exact hb | exact hc | assumption | (simp only [rk_up_s, rk_up_n hba, rk_up_n hca]; first | exact ha | exact hb | exact hc | rfl)) rfl ?_
  refine rk_putf pW_41 dW_lay_35 (by first | exact ha | exact hb | exact hc | assumption | (simp only [rk_up_s, rk_up_n hba, rk_up_n hca]; first | exact ha | exact hb | exact hc | rfl)) (Nat.le_of_ble_eq_true rfl) rfl rfl ?_
  refine rk_aload_n dW_lay_38 rfl ?_
  refine rk_aload_n dW_lay_39 rfl ?_
  refine rk_aload_n dW_lay_40 rfl ?_
  refine rk_getf fW_32 dW_lay_41 (by first | exact ha | exact hb | exact hc | assumption | (simp only [rk_up_s, rk_up_n hba, rk_up_n hca]; first | exact ha | exact hb | exact hc | rfl)) rfl ?_
  refine rk_aload_n dW_lay_44 rfl ?_
  refine rk_getf fW_32 dW_lay_45 (by first | exact ha | exact hb | exact hc | assumption | (simp only [rk_up_s, rk_up_n hba, rk_up_n hca]; first | exact ha | exact hb | exact hc | rfl)) rfl ?_
  refine rk_cvV (c_W_before a ((w_size n.co, w.top, w.left), (w.r0, w.r1, w.c0, w.c1), (w_step n.co, o.h, o.w, w.rb, w.cb)) n.h o.h _ (by simp only [rk_up_s]; rfl)) cW_44 dW_lay_48 rfl lW_before (Nat.le_of_ble_eq_true rfl) (Nat.le_of_ble_eq_true rfl) (Nat.le_of_ble_eq_true rfl) (Nat.le_of_ble_eq_true rfl) (by first | exact ha | exact hb | exact hc | assumption | (simp only [rk_up_s, rk_up_n hba, rk_up_n hca]; first | exact ha | exact hb | exact hc | rfl)) ?_
  refine rk_putf pW_48 dW_lay_51 (by first | exact ha | exact hb | exact hc | assumption | (simp only [rk_up_s, rk_up_n hba, rk_up_n hca]; first | exact ha | exact hb | exact hc | rfl)) (Nat.le_of_ble_eq_true rfl) rfl rfl ?_
  refine rk_aload_n dW_lay_54 rfl ?_
  refine rk_aload_n dW_lay_55 rfl ?_
  refine rk_aload_n dW_lay_56 rfl ?_
  refine rk_getf fW_38 dW_lay_57 (by first | exact ha | exact hb | exact hc | assumption | (simp only [rk_up_s, rk_up_n hba, rk_up_n hca]; first | exact ha | exact hb | exact hc | rfl)) rfl ?_
  refine rk_aload_n dW_lay_60 rfl ?_
  refine rk_getf fW_38 dW_lay_61 (by first | exact ha | exact hb | exact hc | assumption | (simp only [rk_up_s, rk_up_n hba, rk_up_n hca]; first | exact ha | exact hb | exact hc | rfl)) rfl ?_
  refine rk_cvV (c_W_before a ((w_size n.co, w.top, w.left), (w.r0, w.r1, w.c0, w.c1), (w_step n.co, o.h, o.w, w_bef (w_size n.co) (w_step n.co) n.h o.h, w.cb)) n.w o.w _ (by simp only [rk_up_s]; rfl)) cW_44 dW_lay_64 rfl lW_before (Nat.le_of_ble_eq_true rfl) (Nat.le_of_ble_eq_true rfl) (Nat.le_of_ble_eq_true rfl) (Nat.le_of_ble_eq_true rfl) (by first | exact ha | exact hb | exact hc | assumption | (simp only [rk_up_s, rk_up_n hba, rk_up_n hca]; first | exact ha | exact hb | exact hc | rfl)) ?_
  refine rk_putf pW_51 dW_lay_67 (by first | exact ha | exact hb | exact hc | assumption | (simp only [rk_up_s, rk_up_n hba, rk_up_n hca]; first | exact ha | exact hb | exact hc | rfl)) (Nat.le_of_ble_eq_true rfl) rfl rfl ?_
  exact rk_ret rfl dW_lay_70 ⟨(Nat.le_of_ble_eq_true rfl), (Nat.le_of_ble_eq_true rfl)⟩ (⟨rfl, by simp only [rk_up_up]; rfl⟩)
def w_mov (w : wR) (y x : Int32) : wR :=
  ((w.k, y * w.sp - w.rb, x * w.sp - w.cb), (i_max (y * w.sp - w.rb) 0, i_min (y * w.sp - w.rb + w.k) w.rs, i_max (x * w.sp - w.cb) 0, i_min (x * w.sp - w.cb + w.k) w.cs), (w.sp, w.rs, w.cs, w.rb, w.cb))
theorem c_W_move (a : Nat) (w : wR) (y x : Int32) (h : rk_H) (ha : h a = some (oB 4 w.ls)) : rk_Con mW_move (1, 19, 0, 0) [.ref a, .int y, .int x] h (rk_R0 (rk_up h a (oB 4 (w_mov w y x).ls))) := by
  refine rk_Con.of [some (.ref a), some (.int y), some (.int x)] rfl (Nat.le_of_ble_eq_true rfl) (by decide +kernel) ?_
  refine rk_aload_n dW_move_0 rfl ?_
  refine rk_iload_n dW_move_1 rfl ?_
  refine rk_aload_n dW_move_2 rfl ?_
  refine rk_getf fW_29 dW_move_3 (by first | exact ha | assumption | (simp only [rk_up_s]; first | exact ha | rfl)) rfl ?_
  refine rk_imul dW_move_6 ?_
  refine rk_aload_n dW_move_7 rfl ?_
  refine rk_getf fW_48 dW_move_8 (by first | exact ha | assumption | (simp only [rk_up_s]; first | exact ha | rfl)) rfl ?_
  refine rk_isub dW_move_11 ?_
  refine rk_putf pW_59 dW_move_12 (by first | exact ha | assumption | (simp only [rk_up_s]; first | exact ha | rfl)) (Nat.le_of_ble_eq_true rfl) rfl rfl ?_
  refine rk_aload_n dW_move_15 rfl ?_
  refine rk_iload_n dW_move_16 rfl ?_
  refine rk_aload_n dW_move_17 rfl ?_
  refine rk_getf fW_29 dW_move_18 (by first | exact ha | assumption | (simp only [rk_up_s]; first | exact ha | rfl)) rfl ?_
  refine rk_imul dW_move_21 ?_
  refine rk_aload_n dW_move_22 rfl ?_
  refine rk_getf fW_51 dW_move_23 (by first | exact ha | assumption | (simp only [rk_up_s]; first | exact ha | rfl)) rfl ?_
  refine rk_isub dW_move_26 ?_
  refine rk_putf pW_62 dW_move_27 (by first | exact ha | assumption | (simp only [rk_up_s]; first | exact ha | rfl)) (Nat.le_of_ble_eq_true rfl) rfl rfl ?_
  refine rk_aload_n dW_move_30 rfl ?_
  refine rk_aload_n dW_move_31 rfl ?_
  refine rk_getf fW_59 dW_move_32 (by first | exact ha | assumption | (simp only [rk_up_s]; first | exact ha | rfl)) rfl ?_
  refine rk_iconst (v := 0) dW_move_35 (by decide) ?_
  refine rk_jmax jW_54 dW_move_36 ⟨(Nat.le_of_ble_eq_true rfl), (Nat.le_of_ble_eq_true rfl)⟩ (Nat.le_of_ble_eq_true rfl) (Nat.le_of_ble_eq_true rfl) ?_
  refine rk_putf pW_65 dW_move_39 (by first | exact ha | assumption | (simp only [rk_up_s]; first | exact ha | rfl)) (Nat.le_of_ble_eq_true rfl) rfl rfl ?_
  refine rk_aload_n dW_move_42 rfl ?_
  refine rk_aload_n dW_move_43 rfl ?_
  refine rk_getf fW_59 dW_move_44 (by first | exact ha | assumption | (simp only [rk_up_s]; first | exact ha | rfl)) rfl ?_
  refine rk_aload_n dW_move_47 rfl ?_
  refine rk_getf fW_26 dW_move_48 (by first | exact ha | assumption | (simp only [rk_up_s]; first | exact ha | rfl)) rfl ?_
  refine rk_iadd dW_move_51 ?_
  refine rk_aload_n dW_move_52 rfl ?_
  refine rk_getf fW_35 dW_move_53 (by first | exact ha | assumption | (simp only [rk_up_s]; first | exact ha | rfl)) rfl ?_
  refine rk_jmin jW_68 dW_move_56 ⟨(Nat.le_of_ble_eq_true rfl), (Nat.le_of_ble_eq_true rfl)⟩ (Nat.le_of_ble_eq_true rfl) (Nat.le_of_ble_eq_true rfl) ?_
  refine rk_putf pW_71 dW_move_59 (by first | exact ha | assumption | (simp only [rk_up_s]; first | exact ha | rfl)) (Nat.le_of_ble_eq_true rfl) rfl rfl ?_
  refine rk_aload_n dW_move_62 rfl ?_
  refine rk_aload_n dW_move_63 rfl ?_
  refine rk_getf fW_62 dW_move_64 (by first | exact ha | assumption | (simp only [rk_up_s]; first | exact ha | rfl)) rfl ?_
  refine rk_iconst (v := 0) dW_move_67 (by decide) ?_
  refine rk_jmax jW_54 dW_move_68 ⟨(Nat.le_of_ble_eq_true rfl), (Nat.le_of_ble_eq_true rfl)⟩ (Nat.le_of_ble_eq_true rfl) (Nat.le_of_ble_eq_true rfl) ?_
  refine rk_putf pW_74 dW_move_71 (by first | exact ha | assumption | (simp only [rk_up_s]; first | exact ha | rfl)) (Nat.le_of_ble_eq_true rfl) rfl rfl ?_
  refine rk_aload_n dW_move_74 rfl ?_
  refine rk_aload_n dW_move_75 rfl ?_
  refine rk_getf fW_62 dW_move_76 (by first | exact ha | assumption | (simp only [rk_up_s]; first | exact ha | rfl)) rfl ?_
  refine rk_aload_n dW_move_79 rfl ?_
  refine rk_getf fW_26 dW_move_80 (by first | exact ha | assumption | (simp only [rk_up_s]; first | exact ha | rfl)) rfl ?_
  refine rk_iadd dW_move_83 ?_
  refine rk_aload_n dW_move_84 rfl ?_
  refine rk_getf fW_41 dW_move_85 (by first | exact ha | assumption | (simp only [rk_up_s]; first | exact ha | rfl)) rfl ?_
  refine rk_jmin jW_68 dW_move_88 ⟨(Nat.le_of_ble_eq_true rfl), (Nat.le_of_ble_eq_true rfl)⟩ (Nat.le_of_ble_eq_true rfl) (Nat.le_of_ble_eq_true rfl) ?_
  refine rk_putf pW_77 dW_move_91 (by first | exact ha | assumption | (simp only [rk_up_s]; first | exact ha | rfl)) (Nat.le_of_ble_eq_true rfl) rfl rfl ?_
  exact rk_ret rfl dW_move_94 ⟨(Nat.le_of_ble_eq_true rfl), (Nat.le_of_ble_eq_true rfl)⟩ (⟨rfl, by simp only [rk_up_up]; rfl⟩)
theorem c_N_hasShape (a : Nat) (n : nR) (x y z : Int32) (h : rk_H) (ha : h a = some (oB 2 n.ls)) : rk_Con mN_hasShape (0, 0, 0, 0) [.ref a, .int x, .int y, .int z] h (rk_Rv (.int (b2i (decide (n.h = x) && decide (n.w = y) && decide (n.c = z)))) h) := by
  refine rk_Con.of [some (.ref a), some (.int x), some (.int y), some (.int z)] rfl (Nat.le_of_ble_eq_true rfl) (by decide +kernel) ?_
  refine rk_aload_n dN_hasShape_0 rfl ?_
  refine rk_getf fN_21 dN_hasShape_1 (by first | exact ha | assumption) rfl ?_
  refine rk_iload_n dN_hasShape_4 rfl ?_
  refine rk_icmp_ne 28 dN_hasShape_5 (by decide) (fun q_5 => ?_) (fun q_5 => ?_)
  · refine rk_iconst (v := 0) dN_hasShape_28 (by decide) ?_
    exact rk_zret rfl rfl dN_hasShape_29 ⟨(Nat.le_of_ble_eq_true rfl), (Nat.le_of_ble_eq_true rfl)⟩ (by simp_all [rk_Rv, b2i])
  · refine rk_aload_n dN_hasShape_8 rfl ?_
    refine rk_getf fN_24 dN_hasShape_9 (by first | exact ha | assumption) rfl ?_
    refine rk_iload_n dN_hasShape_12 rfl ?_
    refine rk_icmp_ne 28 dN_hasShape_13 (by decide) (fun q_13 => ?_) (fun q_13 => ?_)
    · refine rk_iconst (v := 0) dN_hasShape_28 (by decide) ?_
      exact rk_zret rfl rfl dN_hasShape_29 ⟨(Nat.le_of_ble_eq_true rfl), (Nat.le_of_ble_eq_true rfl)⟩ (by simp_all [rk_Rv, b2i])
    · refine rk_aload_n dN_hasShape_16 rfl ?_
      refine rk_getf fN_27 dN_hasShape_17 (by first | exact ha | assumption) rfl ?_
      refine rk_iload_n dN_hasShape_20 rfl ?_
      refine rk_icmp_ne 28 dN_hasShape_21 (by decide) (fun q_21 => ?_) (fun q_21 => ?_)
      · refine rk_iconst (v := 0) dN_hasShape_28 (by decide) ?_
        exact rk_zret rfl rfl dN_hasShape_29 ⟨(Nat.le_of_ble_eq_true rfl), (Nat.le_of_ble_eq_true rfl)⟩ (by simp_all [rk_Rv, b2i])
      · refine rk_iconst (v := 1) dN_hasShape_24 (by decide) ?_
        refine rk_goto 29 dN_hasShape_25 (by decide) ?_
        exact rk_zret rfl rfl dN_hasShape_29 ⟨(Nat.le_of_ble_eq_true rfl), (Nat.le_of_ble_eq_true rfl)⟩ (by simp_all [rk_Rv, b2i])
def n_hasW (k : Int32) : Bool := decide (k = 1) || decide (k = 2) || decide (k = 3)
theorem c_N_hasWeights (a : Nat) (n : nR) (h : rk_H) (ha : h a = some (oB 2 n.ls)) : rk_Con mN_hasWeights (0, 0, 0, 0) [.ref a] h (rk_Rv (.int (b2i (n_hasW n.kd))) h) := by
  refine rk_Con.of [some (.ref a)] rfl (Nat.le_of_ble_eq_true rfl) (by decide +kernel) ?_
  refine rk_aload_n dN_hasWeights_0 rfl ?_
  refine rk_getf fN_9 dN_hasWeights_1 (by first | exact ha | assumption) rfl ?_
  refine rk_iconst (v := 1) dN_hasWeights_4 (by decide) ?_
  refine rk_icmp_eq 24 dN_hasWeights_5 (by decide) (fun q_5 => ?_) (fun q_5 => ?_)
  · refine rk_iconst (v := 1) dN_hasWeights_24 (by decide) ?_
    refine rk_goto 29 dN_hasWeights_25 (by decide) ?_
    exact rk_zret rfl rfl dN_hasWeights_29 ⟨(Nat.le_of_ble_eq_true rfl), (Nat.le_of_ble_eq_true rfl)⟩ (by simp_all [rk_Rv, b2i, n_hasW])
  · refine rk_aload_n dN_hasWeights_8 rfl ?_
    refine rk_getf fN_9 dN_hasWeights_9 (by first | exact ha | assumption) rfl ?_
    refine rk_iconst (v := 2) dN_hasWeights_12 (by decide) ?_
    refine rk_icmp_eq 24 dN_hasWeights_13 (by decide) (fun q_13 => ?_) (fun q_13 => ?_)
    · refine rk_iconst (v := 1) dN_hasWeights_24 (by decide) ?_
      refine rk_goto 29 dN_hasWeights_25 (by decide) ?_
      exact rk_zret rfl rfl dN_hasWeights_29 ⟨(Nat.le_of_ble_eq_true rfl), (Nat.le_of_ble_eq_true rfl)⟩ (by simp_all [rk_Rv, b2i, n_hasW])
    · refine rk_aload_n dN_hasWeights_16 rfl ?_
      refine rk_getf fN_9 dN_hasWeights_17 (by first | exact ha | assumption) rfl ?_
      refine rk_iconst (v := 3) dN_hasWeights_20 (by decide) ?_
      refine rk_icmp_ne 28 dN_hasWeights_21 (by decide) (fun q_21 => ?_) (fun q_21 => ?_)
      · refine rk_iconst (v := 0) dN_hasWeights_28 (by decide) ?_
        exact rk_zret rfl rfl dN_hasWeights_29 ⟨(Nat.le_of_ble_eq_true rfl), (Nat.le_of_ble_eq_true rfl)⟩ (by simp_all [rk_Rv, b2i, n_hasW])
      · refine rk_iconst (v := 1) dN_hasWeights_24 (by decide) ?_
        refine rk_goto 29 dN_hasWeights_25 (by decide) ?_
        exact rk_zret rfl rfl dN_hasWeights_29 ⟨(Nat.le_of_ble_eq_true rfl), (Nat.le_of_ble_eq_true rfl)⟩ (by simp_all [rk_Rv, b2i, n_hasW])
def d_eq (x y : UInt64) : Bool := decide (Op.cmpValue (FP.dcmp x y) .l = 0)
def n_same (n o : nR) : Bool := decide (n.kd = o.kd) && (decide (n.h = o.h) && decide (n.w = o.w) && decide (n.c = o.c)) && d_eq n.sc o.sc && decide (n.co = o.co) && decide (n.off = o.off) && d_eq n.ws o.ws && decide (n.lo = o.lo) && decide (n.hi = o.hi)
theorem c_N_saysTheSame (a b : Nat) (n o : nR) (h : rk_H) (ha : h a = some (oB 2 n.ls)) (hb : h b = some (oB 2 o.ls)) : rk_Con mN_saysTheSame (1, 15, 0, 0) [.ref a, .ref b] h (rk_Rv (.int (b2i (n_same n o))) h) := by
  refine rk_Con.of [some (.ref a), some (.ref b)] rfl (Nat.le_of_ble_eq_true rfl) (by decide +kernel) ?_
  refine rk_aload_n dN_saysTheSame_0 rfl ?_
  refine rk_getf fN_9 dN_saysTheSame_1 (by first | exact ha | exact hb | assumption) rfl ?_
  refine rk_aload_n dN_saysTheSame_4 rfl ?_
  refine rk_getf fN_9 dN_saysTheSame_5 (by first | exact ha | exact hb | assumption) rfl ?_
  refine rk_icmp_ne 102 dN_saysTheSame_8 (by decide) (fun q_8 => ?_) (fun q_8 => ?_)
  · refine rk_iconst (v := 0) dN_saysTheSame_102 (by decide) ?_
    exact rk_zret rfl rfl dN_saysTheSame_103 ⟨(Nat.le_of_ble_eq_true rfl), (Nat.le_of_ble_eq_true rfl)⟩ (by simp_all [rk_Rv, b2i, n_same, d_eq])
  · refine rk_aload_n dN_saysTheSame_11 rfl ?_
    refine rk_aload_n dN_saysTheSame_12 rfl ?_
    refine rk_getf fN_21 dN_saysTheSame_13 (by first | exact ha | exact hb | assumption) rfl ?_
    refine rk_aload_n dN_saysTheSame_16 rfl ?_
    refine rk_getf fN_24 dN_saysTheSame_17 (by first | exact ha | exact hb | assumption) rfl ?_
    refine rk_aload_n dN_saysTheSame_20 rfl ?_
    refine rk_getf fN_27 dN_saysTheSame_21 (by first | exact ha | exact hb | assumption) rfl ?_
    refine rk_cvV (c_N_hasShape a n o.h o.w o.c h ha) cN_50 dN_saysTheSame_24 rfl lN_hasShape (Nat.le_of_ble_eq_true rfl) (Nat.le_of_ble_eq_true rfl) (Nat.le_of_ble_eq_true rfl) (Nat.le_of_ble_eq_true rfl) (by first | exact ha | exact hb | assumption) ?_
    refine rk_if_eq 102 dN_saysTheSame_27 (by decide) (fun q_27 => ?_) (fun q_27 => ?_)
    · refine rk_iconst (v := 0) dN_saysTheSame_102 (by decide) ?_
      exact rk_zret rfl rfl dN_saysTheSame_103 ⟨(Nat.le_of_ble_eq_true rfl), (Nat.le_of_ble_eq_true rfl)⟩ (by simp_all [rk_Rv, b2i, n_same, d_eq])
    · refine rk_aload_n dN_saysTheSame_30 rfl ?_
      refine rk_getf fN_30 dN_saysTheSame_31 (by first | exact ha | exact hb | assumption) rfl ?_
      refine rk_aload_n dN_saysTheSame_34 rfl ?_
      refine rk_getf fN_30 dN_saysTheSame_35 (by first | exact ha | exact hb | assumption) rfl ?_
      refine rk_dcmp dN_saysTheSame_38 ?_
      refine rk_if_ne 102 dN_saysTheSame_39 (by decide) (fun q_39 => ?_) (fun q_39 => ?_)
      · refine rk_iconst (v := 0) dN_saysTheSame_102 (by decide) ?_
        exact rk_zret rfl rfl dN_saysTheSame_103 ⟨(Nat.le_of_ble_eq_true rfl), (Nat.le_of_ble_eq_true rfl)⟩ (by simp_all [rk_Rv, b2i, n_same, d_eq])
      · refine rk_aload_n dN_saysTheSame_42 rfl ?_
        refine rk_getf fN_54 dN_saysTheSame_43 (by first | exact ha | exact hb | assumption) rfl ?_
        refine rk_aload_n dN_saysTheSame_46 rfl ?_
        refine rk_getf fN_54 dN_saysTheSame_47 (by first | exact ha | exact hb | assumption) rfl ?_
        refine rk_icmp_ne 102 dN_saysTheSame_50 (by decide) (fun q_50 => ?_) (fun q_50 => ?_)
        · refine rk_iconst (v := 0) dN_saysTheSame_102 (by decide) ?_
          exact rk_zret rfl rfl dN_saysTheSame_103 ⟨(Nat.le_of_ble_eq_true rfl), (Nat.le_of_ble_eq_true rfl)⟩ (by simp_all [rk_Rv, b2i, n_same, d_eq])
        · refine rk_aload_n dN_saysTheSame_53 rfl ?_
          refine rk_getf fN_41 dN_saysTheSame_54 (by first | exact ha | exact hb | assumption) rfl ?_
          refine rk_aload_n dN_saysTheSame_57 rfl ?_
          refine rk_getf fN_41 dN_saysTheSame_58 (by first | exact ha | exact hb | assumption) rfl ?_
          refine rk_icmp_ne 102 dN_saysTheSame_61 (by decide) (fun q_61 => ?_) (fun q_61 => ?_)
          · refine rk_iconst (v := 0) dN_saysTheSame_102 (by decide) ?_
            exact rk_zret rfl rfl dN_saysTheSame_103 ⟨(Nat.le_of_ble_eq_true rfl), (Nat.le_of_ble_eq_true rfl)⟩ (by simp_all [rk_Rv, b2i, n_same, d_eq])
          · refine rk_aload_n dN_saysTheSame_64 rfl ?_
            refine rk_getf fN_44 dN_saysTheSame_65 (by first | exact ha | exact hb | assumption) rfl ?_
            refine rk_aload_n dN_saysTheSame_68 rfl ?_
            refine rk_getf fN_44 dN_saysTheSame_69 (by first | exact ha | exact hb | assumption) rfl ?_
            refine rk_dcmp dN_saysTheSame_72 ?_
            refine rk_if_ne 102 dN_saysTheSame_73 (by decide) (fun q_73 => ?_) (fun q_73 => ?_)
            · refine rk_iconst (v := 0) dN_saysTheSame_102 (by decide) ?_
              exact rk_zret rfl rfl dN_saysTheSame_103 ⟨(Nat.le_of_ble_eq_true rfl), (Nat.le_of_ble_eq_true rfl)⟩ (by simp_all [rk_Rv, b2i, n_same, d_eq])
            · refine rk_aload_n dN_saysTheSame_76 rfl ?_
              refine rk_getf fN_57 dN_saysTheSame_77 (by first | exact ha | exact hb | assumption) rfl ?_
              refine rk_aload_n dN_saysTheSame_80 rfl ?_
              refine rk_getf fN_57 dN_saysTheSame_81 (by first | exact ha | exact hb | assumption) rfl ?_
              refine rk_icmp_ne 102 dN_saysTheSame_84 (by decide) (fun q_84 => ?_) (fun q_84 => ?_)
              · refine rk_iconst (v := 0) dN_saysTheSame_102 (by decide) ?_
                exact rk_zret rfl rfl dN_saysTheSame_103 ⟨(Nat.le_of_ble_eq_true rfl), (Nat.le_of_ble_eq_true rfl)⟩ (by simp_all [rk_Rv, b2i, n_same, d_eq])
              · refine rk_aload_n dN_saysTheSame_87 rfl ?_
                refine rk_getf fN_60 dN_saysTheSame_88 (by first | exact ha | exact hb | assumption) rfl ?_
                refine rk_aload_n dN_saysTheSame_91 rfl ?_
                refine rk_getf fN_60 dN_saysTheSame_92 (by first | exact ha | exact hb | assumption) rfl ?_
                refine rk_icmp_ne 102 dN_saysTheSame_95 (by decide) (fun q_95 => ?_) (fun q_95 => ?_)
                · refine rk_iconst (v := 0) dN_saysTheSame_102 (by decide) ?_
                  exact rk_zret rfl rfl dN_saysTheSame_103 ⟨(Nat.le_of_ble_eq_true rfl), (Nat.le_of_ble_eq_true rfl)⟩ (by simp_all [rk_Rv, b2i, n_same, d_eq])
                · refine rk_iconst (v := 1) dN_saysTheSame_98 (by decide) ?_
                  refine rk_goto 103 dN_saysTheSame_99 (by decide) ?_
                  exact rk_zret rfl rfl dN_saysTheSame_103 ⟨(Nat.le_of_ble_eq_true rfl), (Nat.le_of_ble_eq_true rfl)⟩ (by simp_all [rk_Rv, b2i, n_same, d_eq])
def n_wgh (n : nR) (f : Int32) (ws ra : UInt64) : nR := (n.1, n.2.1, n.2.2.1, (n.co, f, ws), n.2.2.2.2.1, (ra, n.ro))
theorem c_N_weigh (a : Nat) (n : nR) (f : Int32) (ws ra : UInt64) (h : rk_H) (ha : h a = some (oB 2 n.ls)) : rk_Con mN_weigh (0, 0, 0, 0) [.ref a, .int f, .double ws, .double ra] h (rk_R0 (rk_up h a (oB 2 (n_wgh n f ws ra).ls))) := by
  refine rk_Con.of [some (.ref a), some (.int f), some (.double ws), none, some (.double ra), none] rfl (Nat.le_of_ble_eq_true rfl) (by decide +kernel) ?_
  refine rk_aload_n dN_weigh_0 rfl ?_
  refine rk_iload_n dN_weigh_1 rfl ?_
  refine rk_putf pN_41 dN_weigh_2 (by first | exact ha | assumption | (simp only [rk_up_s]; first | exact ha | rfl)) (Nat.le_of_ble_eq_true rfl) rfl rfl ?_
  refine rk_aload_n dN_weigh_5 rfl ?_
  refine rk_dload_n dN_weigh_6 rfl ?_
  refine rk_putf pN_44 dN_weigh_7 (by first | exact ha | assumption | (simp only [rk_up_s]; first | exact ha | rfl)) (Nat.le_of_ble_eq_true rfl) rfl rfl ?_
  refine rk_aload_n dN_weigh_10 rfl ?_
  refine rk_dload dN_weigh_11 rfl ?_
  refine rk_putf pN_47 dN_weigh_13 (by first | exact ha | assumption | (simp only [rk_up_s]; first | exact ha | rfl)) (Nat.le_of_ble_eq_true rfl) rfl rfl ?_
  exact rk_ret rfl dN_weigh_16 ⟨(Nat.le_of_ble_eq_true rfl), (Nat.le_of_ble_eq_true rfl)⟩ (⟨rfl, by simp only [rk_up_up]; rfl⟩)
def d_good (r : UInt64) : Bool := decide (¬ Op.cmpValue (FP.dcmp r 4502148214488346440) .l ≤ 0) && decide (¬ 0 ≤ Op.cmpValue (FP.dcmp r 4673975551164153856) .g)
theorem c_S_isGood (r : UInt64) (h : rk_H) : rk_Con mS_isGood (0, 0, 0, 0) [.double r] h (rk_Rv (.int (b2i (d_good r))) h) := by
  refine rk_Con.of [some (.double r), none] rfl (Nat.le_of_ble_eq_true rfl) (by decide +kernel) ?_
  refine rk_dload_n dS_isGood_0 rfl ?_
  refine rk_ldc2d qS_7 dS_isGood_1 ?_
  refine rk_dcmp dS_isGood_4 ?_
  refine rk_if_le 20 dS_isGood_5 (by decide) (fun q_5 => ?_) (fun q_5 => ?_)
  · refine rk_iconst (v := 0) dS_isGood_20 (by decide) ?_
    exact rk_zret rfl rfl dS_isGood_21 ⟨(Nat.le_of_ble_eq_true rfl), (Nat.le_of_ble_eq_true rfl)⟩ (by simp_all [rk_Rv, b2i, d_good])
  · refine rk_dload_n dS_isGood_8 rfl ?_
    refine rk_ldc2d qS_9 dS_isGood_9 ?_
    refine rk_dcmp dS_isGood_12 ?_
    refine rk_if_ge 20 dS_isGood_13 (by decide) (fun q_13 => ?_) (fun q_13 => ?_)
    · refine rk_iconst (v := 0) dS_isGood_20 (by decide) ?_
      exact rk_zret rfl rfl dS_isGood_21 ⟨(Nat.le_of_ble_eq_true rfl), (Nat.le_of_ble_eq_true rfl)⟩ (by simp_all [rk_Rv, b2i, d_good])
    · refine rk_iconst (v := 1) dS_isGood_16 (by decide) ?_
      refine rk_goto 21 dS_isGood_17 (by decide) ?_
      exact rk_zret rfl rfl dS_isGood_21 ⟨(Nat.le_of_ble_eq_true rfl), (Nat.le_of_ble_eq_true rfl)⟩ (by simp_all [rk_Rv, b2i, d_good])
