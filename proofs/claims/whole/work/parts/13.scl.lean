/-! Scaler; cut -/
def s_scl (m : Int64) (sh x : Int32) : Int64 :=
  let v := ((if 0 < x.toInt64 then x.toInt64 else -x.toInt64) * m + (1 <<< ((sh - 1).toInt64 &&& 63))) >>> (sh.toInt64 &&& 63)
  if 0 ≤ x then v else -v
theorem c_S_scaled (a : Nat) (m : Int64) (sh x : Int32) (h : rk_H) (ha : h a = some (oB 3 [.long m, .int sh])) : rk_Con mS_scaled (1, 18, 0, 0) [.ref a, .int x] h (rk_Rv (.long (s_scl m sh x)) h) := by
  refine rk_Con.of [some (.ref a), some (.int x), none, none, none, none] rfl (Nat.le_of_ble_eq_true rfl) (by decide +kernel) ?_
  refine rk_lconst (v := 1) dS_scaled_0 (by decide) ?_
  refine rk_aload_n dS_scaled_1 rfl ?_
  refine rk_getf fS_27 dS_scaled_2 (by first | exact ha | assumption) rfl ?_
  refine rk_iconst (v := 1) dS_scaled_5 (by decide) ?_
  refine rk_isub dS_scaled_6 ?_
  refine rk_lshl dS_scaled_7 ?_
  refine rk_lstore_n dS_scaled_8 (Nat.le_of_ble_eq_true rfl) ?_
  refine rk_iload_n dS_scaled_9 rfl ?_
  refine rk_i2l dS_scaled_10 ?_
  refine rk_jabsl jS_31 dS_scaled_11 ⟨(Nat.le_of_ble_eq_true rfl), (Nat.le_of_ble_eq_true rfl)⟩ (Nat.le_of_ble_eq_true rfl) (Nat.le_of_ble_eq_true rfl) ?_
  refine rk_aload_n dS_scaled_14 rfl ?_
  refine rk_getf fS_19 dS_scaled_15 (by first | exact ha | assumption) rfl ?_
  refine rk_lmul dS_scaled_18 ?_
  refine rk_lload_n dS_scaled_19 rfl ?_
  refine rk_ladd dS_scaled_20 ?_
  refine rk_aload_n dS_scaled_21 rfl ?_
  refine rk_getf fS_27 dS_scaled_22 (by first | exact ha | assumption) rfl ?_
  refine rk_lshr dS_scaled_25 ?_
  refine rk_lstore dS_scaled_26 (Nat.le_of_ble_eq_true rfl) ?_
  refine rk_iload_n dS_scaled_28 rfl ?_
  refine rk_if_ge 38 dS_scaled_29 (by decide) (fun q_29 => ?_) (fun q_29 => ?_)
  · refine rk_lload dS_scaled_38 rfl ?_
    exact rk_lret rfl dS_scaled_40 ⟨(Nat.le_of_ble_eq_true rfl), (Nat.le_of_ble_eq_true rfl)⟩ (by simp only [rk_Rv, s_scl, q_29, ↓reduceIte, and_self])
  · refine rk_lload dS_scaled_32 rfl ?_
    refine rk_lneg dS_scaled_34 ?_
    refine rk_goto 40 dS_scaled_35 (by decide) ?_
    exact rk_lret rfl dS_scaled_40 ⟨(Nat.le_of_ble_eq_true rfl), (Nat.le_of_ble_eq_true rfl)⟩ (by simp only [rk_Rv, s_scl, q_29, ↓reduceIte, and_self])
def s_cut (v : Int64) : Int32 := (if (if v < 127 then v else 127) < -128 then -128 else (if v < 127 then v else 127)).toInt32
theorem c_M_cut (v : Int64) (h : rk_H) : rk_Con mM_cut (1, 20, 0, 0) [.long v] h (rk_Rv (.int (s_cut v)) h) := by
  refine rk_Con.of [some (.long v), none] rfl (Nat.le_of_ble_eq_true rfl) (by decide +kernel) ?_
  refine rk_ldc2 qM_241 dM_cut_0 ?_
  refine rk_ldc2 qM_243 dM_cut_3 ?_
  refine rk_lload_n dM_cut_6 rfl ?_
  refine rk_jminl jM_245 dM_cut_7 ⟨(Nat.le_of_ble_eq_true rfl), (Nat.le_of_ble_eq_true rfl)⟩ (Nat.le_of_ble_eq_true rfl) (Nat.le_of_ble_eq_true rfl) ?_
  refine rk_jmaxl jM_248 dM_cut_10 ⟨(Nat.le_of_ble_eq_true rfl), (Nat.le_of_ble_eq_true rfl)⟩ (Nat.le_of_ble_eq_true rfl) (Nat.le_of_ble_eq_true rfl) ?_
  refine rk_l2i dM_cut_13 ?_
  exact rk_iret rfl dM_cut_14 ⟨(Nat.le_of_ble_eq_true rfl), (Nat.le_of_ble_eq_true rfl)⟩ (⟨rfl, rfl⟩)
theorem ex_dn (j : Nat) : (0 : Int32) - nI j + Int32.ofInt (-1) = 0 - nI (j + 1) := by
  rw [← nI_1, show Int32.ofInt (-1) = -1 from rfl]
  simp only [Int32.sub_eq_add_neg, Int32.neg_add]
  rw [Int32.add_assoc]
theorem ex_sub {a b : Nat} (h : a ≤ b) : (0 : Int32) - nI (b - a) = nI a - nI b := by
  have e : nI b = nI (b - a) + nI a := by rw [nI_add]; congr 1; omega
  rw [e]
  simp only [Int32.sub_eq_add_neg, Int32.neg_add]
  rw [Int32.add_comm (nI a), Int32.add_assoc, Int32.add_left_neg, Int32.add_zero, Int32.zero_add]
theorem c_S_take (a : Nat) (m : Int64) (sh : Int32) (r : UInt64) (h : rk_H) (ha : h a = some (oB 3 [.long m, .int sh])) (hr : d_good r = true) : rk_Con mS_take (0, 0, 0, 0) [.ref a, .double r] h (rk_R0 (rk_up h a (oB 3 [.long (s_mul r), .int (s_sh r)]))) := by
  obtain ⟨E, t, ⟨ht, hE1, hE2⟩, er, ef, ee⟩ := f_y_r hr
  obtain ⟨em, vm1, vm2⟩ := f_y_m ht ef
  have fin : rk_Run mS_take (0, 0, 0, 0) (rk_R0 (rk_up h a (oB 3 [.long (s_mul r), .int (s_sh r)]))) 57 [some (.ref a), some (.double r), none, some (.double (f_y 1022 t)), none, some (.int (s_ex r))] [] h (0, 0) := by
    have el : ∀ x y : Int64, lg_cmp x y = 0 ↔ x = y := lg_cmp_eq
    refine rk_aload_n dS_take_57 rfl ?_
    refine rk_dload_n dS_take_58 rfl ?_
    refine rk_ldc2d qS_17 dS_take_59 ?_
    refine rk_dmul dS_take_62 vm1 ?_
    refine rk_ldc2d qS_15 dS_take_63 ?_
    refine rk_dadd dS_take_66 vm2 ?_
    refine rk_d2l dS_take_67 ?_
    rw [em]
    refine rk_putf pS_19 dS_take_68 (by first | exact ha | assumption | (simp only [rk_up_s]; first | exact ha | rfl)) (Nat.le_of_ble_eq_true rfl) rfl rfl ?_
    refine rk_aload_n dS_take_71 rfl ?_
    refine rk_getf fS_19 dS_take_72 (by first | exact ha | assumption | (simp only [rk_up_s]; first | exact ha | rfl)) rfl ?_
    refine rk_ldc2 qS_23 dS_take_75 ?_
    refine rk_lcmp dS_take_78 ?_
    refine rk_if_ne 92 dS_take_79 (by decide) (fun q_79 => ?_) (fun q_79 => ?_)
    · refine rk_aload_n dS_take_92 rfl ?_
      refine rk_bipush (v := 31) dS_take_93 (by decide) ?_
      refine rk_iload dS_take_95 rfl ?_
      refine rk_isub dS_take_97 ?_
      refine rk_putf pS_27 dS_take_98 (by first | exact ha | assumption | (simp only [rk_up_s]; first | exact ha | rfl)) (Nat.le_of_ble_eq_true rfl) rfl rfl ?_
      exact rk_ret rfl dS_take_101 ⟨(Nat.le_of_ble_eq_true rfl), (Nat.le_of_ble_eq_true rfl)⟩ (by simp only [rk_R0, rk_up_up, true_and]; unfold s_mul s_sh; first | (rw [if_pos ((el _ _).mp q_79), if_pos ((el _ _).mp q_79)]; rfl) | (rw [if_neg (fun z => q_79 ((el _ _).mpr z)), if_neg (fun z => q_79 ((el _ _).mpr z))]; rfl))
    · refine rk_aload_n dS_take_82 rfl ?_
      refine rk_ldc2 qS_25 dS_take_83 ?_
      refine rk_putf pS_19 dS_take_86 (by first | exact ha | assumption | (simp only [rk_up_s]; first | exact ha | rfl)) (Nat.le_of_ble_eq_true rfl) rfl rfl ?_
      refine rk_iinc dS_take_89 rfl rfl (Nat.le_of_ble_eq_true rfl) ?_
      refine rk_aload_n dS_take_92 rfl ?_
      refine rk_bipush (v := 31) dS_take_93 (by decide) ?_
      refine rk_iload dS_take_95 rfl ?_
      refine rk_isub dS_take_97 ?_
      refine rk_putf pS_27 dS_take_98 (by first | exact ha | assumption | (simp only [rk_up_s]; first | exact ha | rfl)) (Nat.le_of_ble_eq_true rfl) rfl rfl ?_
      exact rk_ret rfl dS_take_101 ⟨(Nat.le_of_ble_eq_true rfl), (Nat.le_of_ble_eq_true rfl)⟩ (by simp only [rk_R0, rk_up_up, true_and]; unfold s_mul s_sh; first | (rw [if_pos ((el _ _).mp q_79), if_pos ((el _ _).mp q_79)]; rfl) | (rw [if_neg (fun z => q_79 ((el _ _).mpr z)), if_neg (fun z => q_79 ((el _ _).mpr z))]; rfl))
  have out2 : ∀ e : Int32, e = s_ex r → rk_Run mS_take (0, 0, 0, 0) (rk_R0 (rk_up h a (oB 3 [.long (s_mul r), .int (s_sh r)]))) 30 [some (.ref a), some (.double r), none, some (.double (f_y 1022 t)), none, some (.int e)] [] h (0, 0) := by
    intro e he
    subst he
    refine rk_dload_n dS_take_30 rfl ?_
    refine rk_ldc2d qS_15 dS_take_31 ?_
    refine rk_dcmp dS_take_34 ?_
    refine rk_if_ge 57 dS_take_35 (by decide) (fun q_35 => ?_) (fun q_35 => ?_)
    · exact fin
    · exact absurd ((f_y_5 ht (by omega) .g).mpr (Nat.le_refl _)) q_35
  have L2 : ∀ (d j : Nat), j + d + E = 1022 → rk_Run mS_take (0, 0, 0, 0) (rk_R0 (rk_up h a (oB 3 [.long (s_mul r), .int (s_sh r)]))) 30 [some (.ref a), some (.double r), none, some (.double (f_y (E + j) t)), none, some (.int (0 - nI j))] [] h (0, 0) := by
    intro d
    induction d with
    | zero =>
      intro j hj
      rw [show E + j = 1022 by omega]
      exact out2 _ (by rw [ee, show j = 1022 - E by omega]; exact ex_sub (by omega))
    | succ d ih =>
      intro j hj
      have hgt : (-31 : Int32) < 0 - nI j := by
        have e1 : (0 - nI j) = nI (31 - j) - nI 31 := by
          have := ex_sub (a := 31 - j) (b := 31) (by omega)
          rw [← this, show 31 - (31 - j) = j by omega]
        rw [e1, Int32.lt_iff_toInt_lt, Int32.toInt_sub, nI_toInt (by omega), nI_toInt (by omega), show (-31 : Int32).toInt = -31 from rfl, Int.bmod_def]
        omega
      refine rk_dload_n dS_take_30 rfl ?_
      refine rk_ldc2d qS_15 dS_take_31 ?_
      refine rk_dcmp dS_take_34 ?_
      refine rk_if_ge 57 dS_take_35 (by decide) (fun q_35 => (by exact absurd ((f_y_5 ht (by omega) .g).mp q_35) (by omega))) (fun q_35 => ?_)
      refine rk_iload dS_take_38 rfl ?_
      refine rk_bipush (v := -31) dS_take_40 (by decide) ?_
      refine rk_icmp_le 57 dS_take_42 (by decide) (fun q_42 => (by exact absurd hgt (Int32.not_lt.mpr q_42))) (fun q_42 => ?_)
      refine rk_dload_n dS_take_45 rfl ?_
      refine rk_ldc2d qS_13 dS_take_46 ?_
      refine rk_dmul dS_take_49 (by rw [f_y_dbl ht (by omega) (by omega)]; exact f_y_v ht (by omega) (by omega)) ?_
      rw [f_y_dbl ht (by omega) (by omega)]
      refine rk_dstore_n dS_take_50 (Nat.le_of_ble_eq_true rfl) ?_
      refine rk_iinc dS_take_51 rfl (ex_dn j) (Nat.le_of_ble_eq_true rfl) ?_
      refine rk_goto 30 dS_take_54 (by decide) ?_
      exact ih (j + 1) (by omega)
  have L1 : ∀ (d j : Nat), j + d + 1022 = E → rk_Run mS_take (0, 0, 0, 0) (rk_R0 (rk_up h a (oB 3 [.long (s_mul r), .int (s_sh r)]))) 5 [some (.ref a), some (.double r), none, some (.double (f_y (1022 + d) t)), none, some (.int (nI j))] [] h (0, 0) := by
    intro d
    induction d with
    | zero =>
      intro j hj
      refine rk_dload_n dS_take_5 rfl ?_
      refine rk_dconst1 dS_take_6 ?_
      refine rk_dcmp dS_take_7 ?_
      refine rk_if_lt 30 dS_take_8 (by decide) (fun q_8 => ?_) (fun q_8 => ?_)
      · exact out2 _ (by rw [ee, show (1022 : Int32) = nI 1022 from rfl, pk_sub (by omega), show E - 1022 = j by omega])
      · exact absurd ((f_y_1 ht (by omega) .l).mpr (by omega)) q_8
    | succ d ih =>
      intro j hj
      refine rk_dload_n dS_take_5 rfl ?_
      refine rk_dconst1 dS_take_6 ?_
      refine rk_dcmp dS_take_7 ?_
      refine rk_if_lt 30 dS_take_8 (by decide) (fun q_8 => (by exact absurd ((f_y_1 ht (by omega) .l).mp q_8) (by omega))) (fun q_8 => ?_)
      refine rk_iload dS_take_11 rfl ?_
      refine rk_bipush (v := 31) dS_take_13 (by decide) ?_
      refine rk_icmp_ge 30 dS_take_15 (by decide) (fun q_15 => (by exact absurd q_15 (nI_ge (b := 31) (by omega) (by omega)))) (fun q_15 => ?_)
      refine rk_dload_n dS_take_18 rfl ?_
      refine rk_ldc2d qS_13 dS_take_19 ?_
      rw [show 1022 + (d + 1) = (1022 + d) + 1 from rfl]
      refine rk_ddiv dS_take_22 (by rw [f_y_hd ht (by omega) (by omega)]; exact f_y_v ht (by omega) (by omega)) ?_
      rw [f_y_hd ht (by omega) (by omega)]
      refine rk_dstore_n dS_take_23 (Nat.le_of_ble_eq_true rfl) ?_
      refine rk_iinc dS_take_24 rfl (inc1 j) (Nat.le_of_ble_eq_true rfl) ?_
      refine rk_goto 5 dS_take_27 (by decide) ?_
      exact ih (j + 1) (by omega)
  refine rk_Con.of [some (.ref a), some (.double r), none, none, none, none] rfl (Nat.le_of_ble_eq_true rfl) (by decide +kernel) ?_
  by_cases hE : 1022 ≤ E
  · refine rk_dload_n dS_take_0 rfl ?_
    refine rk_dstore_n dS_take_1 (Nat.le_of_ble_eq_true rfl) ?_
    refine rk_iconst (v := 0) dS_take_2 (by decide) ?_
    refine rk_istore dS_take_3 (Nat.le_of_ble_eq_true rfl) ?_
    refine rk_lv [some (.ref a), some (.double r), none, some (.double (f_y (1022 + (E - 1022)) t)), none, some (.int (nI 0))] ⟨rfl, rfl, by rw [show 1022 + (E - 1022) = E by omega, ← er]; rfl, rfl, trivial⟩ ?_
    exact L1 (E - 1022) 0 (by omega)
  · have e0 := L2 (1022 - E) 0 (by omega)
    refine rk_dload_n dS_take_0 rfl ?_
    refine rk_dstore_n dS_take_1 (Nat.le_of_ble_eq_true rfl) ?_
    refine rk_iconst (v := 0) dS_take_2 (by decide) ?_
    refine rk_istore dS_take_3 (Nat.le_of_ble_eq_true rfl) ?_
    refine rk_lv [some (.ref a), some (.double r), none, some (.double (f_y E t)), none, some (.int (0 - nI 0))] ⟨rfl, rfl, by rw [← er]; rfl, rfl, trivial⟩ ?_
    refine rk_dload_n dS_take_5 rfl ?_
    refine rk_dconst1 dS_take_6 ?_
    refine rk_dcmp dS_take_7 ?_
    refine rk_if_lt 30 dS_take_8 (by decide) (fun q_8 => ?_) (fun q_8 => ?_)
    · exact e0
    · exact absurd ((f_y_1 ht (by omega) .l).mpr (by omega)) q_8
