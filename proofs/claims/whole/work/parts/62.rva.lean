/-! the reference: halves, scaled, cut, at, joined, denseSum -/
theorem c_R_halves (b : rk_H) (A : Nat → Nat) (X : rX) (v d : Int64) (hd : ¬ d = 0) : rk_Con mR_halves (0, 0, 0, 0) [.ref (A 0), .long v, .long d] (rv b A X) (rk_Rv (.long (hv v d)) (rv b A X)) := by
  have ec := lg_cmp_ge v 0
  refine rk_Con.of [some (.ref (A 0)), some (.long v), none, some (.long d), none, none, none, none, none] rfl (Nat.le_of_ble_eq_true rfl) (by decide +kernel) ?_
  by_cases h : v < 0
  · have e : ¬ 0 ≤ lg_cmp v 0 := mt ec.mp (Int64.not_le.mpr h)
    have ev : hv v d = -((-v + d / 2) / d) := by unfold hv; simp only [if_pos h]
    rw [ev]
    refine rk_lload_n dR_halves_0 rfl ?_
    refine rk_lconst (v := 0) dR_halves_1 (by decide) ?_
    refine rk_lcmp dR_halves_2 ?_
    refine rk_if_ge 11 dR_halves_3 (by decide) (fun q_3 => ?_) (fun q_3 => ?_)
    · exact absurd q_3 e
    · refine rk_lload_n dR_halves_6 rfl ?_
      refine rk_lneg dR_halves_7 ?_
      refine rk_goto 12 dR_halves_8 (by decide) ?_
      refine rk_lstore dR_halves_12 (Nat.le_of_ble_eq_true rfl) ?_
      refine rk_lload dR_halves_14 rfl ?_
      refine rk_lload_n dR_halves_16 rfl ?_
      refine rk_ldc2 qR_178 dR_halves_17 ?_
      refine rk_ldiv dR_halves_20 (by decide) ?_
      refine rk_ladd dR_halves_21 ?_
      refine rk_lload_n dR_halves_22 rfl ?_
      refine rk_ldiv dR_halves_23 hd ?_
      refine rk_lstore dR_halves_24 (Nat.le_of_ble_eq_true rfl) ?_
      refine rk_lload_n dR_halves_26 rfl ?_
      refine rk_lconst (v := 0) dR_halves_27 (by decide) ?_
      refine rk_lcmp dR_halves_28 ?_
      refine rk_if_ge 38 dR_halves_29 (by decide) (fun q_29 => ?_) (fun q_29 => ?_)
      · exact absurd q_29 e
      · refine rk_lload dR_halves_32 rfl ?_
        refine rk_lneg dR_halves_34 ?_
        refine rk_goto 40 dR_halves_35 (by decide) ?_
        exact rk_lret rfl dR_halves_40 ⟨(Nat.le_of_ble_eq_true rfl), (Nat.le_of_ble_eq_true rfl)⟩ (⟨rfl, rfl⟩)
  · have e : 0 ≤ lg_cmp v 0 := ec.mpr (Int64.not_lt.mp h)
    have ev : hv v d = (v + d / 2) / d := by unfold hv; simp only [if_neg h]
    rw [ev]
    refine rk_lload_n dR_halves_0 rfl ?_
    refine rk_lconst (v := 0) dR_halves_1 (by decide) ?_
    refine rk_lcmp dR_halves_2 ?_
    refine rk_if_ge 11 dR_halves_3 (by decide) (fun q_3 => ?_) (fun q_3 => ?_)
    · refine rk_lload_n dR_halves_11 rfl ?_
      refine rk_lstore dR_halves_12 (Nat.le_of_ble_eq_true rfl) ?_
      refine rk_lload dR_halves_14 rfl ?_
      refine rk_lload_n dR_halves_16 rfl ?_
      refine rk_ldc2 qR_178 dR_halves_17 ?_
      refine rk_ldiv dR_halves_20 (by decide) ?_
      refine rk_ladd dR_halves_21 ?_
      refine rk_lload_n dR_halves_22 rfl ?_
      refine rk_ldiv dR_halves_23 hd ?_
      refine rk_lstore dR_halves_24 (Nat.le_of_ble_eq_true rfl) ?_
      refine rk_lload_n dR_halves_26 rfl ?_
      refine rk_lconst (v := 0) dR_halves_27 (by decide) ?_
      refine rk_lcmp dR_halves_28 ?_
      refine rk_if_ge 38 dR_halves_29 (by decide) (fun q_29 => ?_) (fun q_29 => ?_)
      · refine rk_lload dR_halves_38 rfl ?_
        exact rk_lret rfl dR_halves_40 ⟨(Nat.le_of_ble_eq_true rfl), (Nat.le_of_ble_eq_true rfl)⟩ (⟨rfl, rfl⟩)
      · exact absurd e q_29
    · exact absurd e q_3
theorem sh_nz {r : UInt64} (hr : d_good r = true) : ¬ ((1 : Int64) <<< ((s_sh r).toInt64 &&& 63)) = 0 := by
  obtain ⟨σ, hs, h1, h2⟩ := s_sh_b hr
  intro z
  have e := shl1 (by omega) hs
  rw [z] at e
  have := Nat.two_pow_pos σ
  have e0 : (0 : Int64).toInt = 0 := rfl
  omega
def scR (r : UInt64) (s : Int64) : Int64 := hv (s * s_mul r) (1 <<< ((s_sh r).toInt64 &&& 63))
theorem c_R_scaled (b : rk_H) (A : Nat → Nat) (X : rX) (k : rA A) (s : Int64) (r : UInt64) (hr : d_good r = true) : rk_Con mR_scaled (1, 20, 0, 0) [.ref (A 0), .long s, .double r] (rv b A X) (rk_Rv (.long (scR r s)) (rv b A X)) := by
  obtain ⟨E, t, ⟨ht, hE1, hE2⟩, er, ef, ee⟩ := f_y_r hr
  obtain ⟨em, vm1, vm2⟩ := f_y_m ht ef
  have hz := sh_nz hr
  have T : ∀ (x : UInt64) (e : Int32) (m : Int64), m = s_mul r → 31 - e = s_sh r → rk_Run mR_scaled (1, 20, 0, 0) (rk_Rv (.long (scR r s)) (rv b A X)) 80 [some (.ref (A 0)), some (.long s), none, some (.double r), none, some (.double x), none, some (.int e), some (.long m), none] [] (rv b A X) (0, 0) := by
    intro x e m hm he
    refine rk_aload_n dR_scaled_80 rfl ?_
    refine rk_lload_n dR_scaled_81 rfl ?_
    refine rk_lload dR_scaled_82 rfl ?_
    refine rk_lmul dR_scaled_84 ?_
    rw [hm]
    refine rk_lconst (v := 1) dR_scaled_85 (by decide) ?_
    refine rk_bipush (v := 31) dR_scaled_86 (by decide) ?_
    refine rk_iload dR_scaled_88 rfl ?_
    refine rk_isub dR_scaled_90 ?_
    rw [he]
    refine rk_lshl dR_scaled_91 ?_
    refine rk_cvV (c_R_halves b A X (s * s_mul r) (1 <<< ((s_sh r).toInt64 &&& 63)) hz) cR_190 dR_scaled_92 rfl lR_halves (Nat.le_of_ble_eq_true rfl) (Nat.le_of_ble_eq_true rfl) (Nat.le_of_ble_eq_true rfl) (Nat.le_of_ble_eq_true rfl) k.m ?_
    exact rk_lret rfl dR_scaled_95 ⟨(Nat.le_of_ble_eq_true rfl), (Nat.le_of_ble_eq_true rfl)⟩ (⟨rfl, rfl⟩)
  have fin : rk_Run mR_scaled (1, 20, 0, 0) (rk_Rv (.long (scR r s)) (rv b A X)) 50 [some (.ref (A 0)), some (.long s), none, some (.double r), none, some (.double (f_y 1022 t)), none, some (.int (s_ex r)), none, none] [] (rv b A X) (0, 0) := by
    have el := lg_cmp_eq (s_m0 r) 2147483648
    refine rk_dload dR_scaled_50 rfl ?_
    refine rk_ldc2d qR_184 dR_scaled_52 ?_
    refine rk_dmul dR_scaled_55 vm1 ?_
    refine rk_ldc2d qR_180 dR_scaled_56 ?_
    refine rk_dadd dR_scaled_59 vm2 ?_
    refine rk_d2l dR_scaled_60 ?_
    rw [em]
    refine rk_lstore dR_scaled_61 (Nat.le_of_ble_eq_true rfl) ?_
    refine rk_lload dR_scaled_63 rfl ?_
    refine rk_ldc2 qR_186 dR_scaled_65 ?_
    refine rk_lcmp dR_scaled_68 ?_
    refine rk_if_ne 80 dR_scaled_69 (by decide) (fun q_69 => ?_) (fun q_69 => ?_)
    · first | exact T _ _ _ (by unfold s_mul; rw [if_neg (mt el.mpr q_69)]) (by unfold s_sh; rw [if_neg (mt el.mpr q_69)]) | exact T _ _ _ (by unfold s_mul; rw [if_pos (el.mp q_69)]) (by unfold s_sh; rw [if_pos (el.mp q_69)]; rfl)
    · refine rk_ldc2 qR_188 dR_scaled_72 ?_
      refine rk_lstore dR_scaled_75 (Nat.le_of_ble_eq_true rfl) ?_
      refine rk_iinc dR_scaled_77 rfl rfl (Nat.le_of_ble_eq_true rfl) ?_
      first | exact T _ _ _ (by unfold s_mul; rw [if_neg (mt el.mpr q_69)]) (by unfold s_sh; rw [if_neg (mt el.mpr q_69)]) | exact T _ _ _ (by unfold s_mul; rw [if_pos (el.mp q_69)]) (by unfold s_sh; rw [if_pos (el.mp q_69)]; rfl)
  have out2 : ∀ e : Int32, e = s_ex r → rk_Run mR_scaled (1, 20, 0, 0) (rk_Rv (.long (scR r s)) (rv b A X)) 27 [some (.ref (A 0)), some (.long s), none, some (.double r), none, some (.double (f_y 1022 t)), none, some (.int e), none, none] [] (rv b A X) (0, 0) := by
    intro e he
    subst he
    refine rk_dload dR_scaled_27 rfl ?_
    refine rk_ldc2d qR_180 dR_scaled_29 ?_
    refine rk_dcmp dR_scaled_32 ?_
    refine rk_if_ge 50 dR_scaled_33 (by decide) (fun q_33 => ?_) (fun q_33 => ?_)
    · exact fin
    · exact absurd ((f_y_5 ht (by omega) .g).mpr (Nat.le_refl _)) q_33
  have L2 : ∀ (d j : Nat), j + d + E = 1022 → rk_Run mR_scaled (1, 20, 0, 0) (rk_Rv (.long (scR r s)) (rv b A X)) 27 [some (.ref (A 0)), some (.long s), none, some (.double r), none, some (.double (f_y (E + j) t)), none, some (.int (0 - nI j)), none, none] [] (rv b A X) (0, 0) := by
    intro d
    induction d with
    | zero =>
      intro j hj
      rw [show E + j = 1022 by omega]
      exact out2 _ (by rw [ee, show j = 1022 - E by omega]; exact ex_sub (by omega))
    | succ d ih =>
      intro j hj
      refine rk_dload dR_scaled_27 rfl ?_
      refine rk_ldc2d qR_180 dR_scaled_29 ?_
      refine rk_dcmp dR_scaled_32 ?_
      refine rk_if_ge 50 dR_scaled_33 (by decide) (fun q_33 => (by exact absurd ((f_y_5 ht (by omega) .g).mp q_33) (by omega))) (fun q_33 => ?_)
      refine rk_dload dR_scaled_36 rfl ?_
      refine rk_ldc2d qR_182 dR_scaled_38 ?_
      refine rk_dmul dR_scaled_41 (by rw [f_y_dbl ht (by omega) (by omega)]; exact f_y_v ht (by omega) (by omega)) ?_
      rw [f_y_dbl ht (by omega) (by omega)]
      refine rk_dstore dR_scaled_42 (Nat.le_of_ble_eq_true rfl) ?_
      refine rk_iinc dR_scaled_44 rfl (ex_dn j) (Nat.le_of_ble_eq_true rfl) ?_
      refine rk_goto 27 dR_scaled_47 (by decide) ?_
      exact ih (j + 1) (by omega)
  have L1 : ∀ (d j : Nat), j + d + 1022 = E → rk_Run mR_scaled (1, 20, 0, 0) (rk_Rv (.long (scR r s)) (rv b A X)) 6 [some (.ref (A 0)), some (.long s), none, some (.double r), none, some (.double (f_y (1022 + d) t)), none, some (.int (nI j)), none, none] [] (rv b A X) (0, 0) := by
    intro d
    induction d with
    | zero =>
      intro j hj
      refine rk_dload dR_scaled_6 rfl ?_
      refine rk_dconst1 dR_scaled_8 ?_
      refine rk_dcmp dR_scaled_9 ?_
      refine rk_if_lt 27 dR_scaled_10 (by decide) (fun q_10 => ?_) (fun q_10 => ?_)
      · exact out2 _ (by rw [ee, show (1022 : Int32) = nI 1022 from rfl, pk_sub (by omega), show E - 1022 = j by omega])
      · exact absurd ((f_y_1 ht (by omega) .l).mpr (by omega)) q_10
    | succ d ih =>
      intro j hj
      refine rk_dload dR_scaled_6 rfl ?_
      refine rk_dconst1 dR_scaled_8 ?_
      refine rk_dcmp dR_scaled_9 ?_
      refine rk_if_lt 27 dR_scaled_10 (by decide) (fun q_10 => (by exact absurd ((f_y_1 ht (by omega) .l).mp q_10) (by omega))) (fun q_10 => ?_)
      refine rk_dload dR_scaled_13 rfl ?_
      refine rk_ldc2d qR_180 dR_scaled_15 ?_
      rw [show 1022 + (d + 1) = (1022 + d) + 1 from rfl]
      refine rk_dmul dR_scaled_18 (by rw [f_y_half ht (by omega) (by omega)]; exact f_y_v ht (by omega) (by omega)) ?_
      rw [f_y_half ht (by omega) (by omega)]
      refine rk_dstore dR_scaled_19 (Nat.le_of_ble_eq_true rfl) ?_
      refine rk_iinc dR_scaled_21 rfl (inc1 j) (Nat.le_of_ble_eq_true rfl) ?_
      refine rk_goto 6 dR_scaled_24 (by decide) ?_
      exact ih (j + 1) (by omega)
  refine rk_Con.of [some (.ref (A 0)), some (.long s), none, some (.double r), none, none, none, none, none, none] rfl (Nat.le_of_ble_eq_true rfl) (by decide +kernel) ?_
  by_cases hE : 1022 ≤ E
  · refine rk_dload_n dR_scaled_0 rfl ?_
    refine rk_dstore dR_scaled_1 (Nat.le_of_ble_eq_true rfl) ?_
    refine rk_iconst (v := 0) dR_scaled_3 (by decide) ?_
    refine rk_istore dR_scaled_4 (Nat.le_of_ble_eq_true rfl) ?_
    refine rk_lv [some (.ref (A 0)), some (.long s), none, some (.double r), none, some (.double (f_y (1022 + (E - 1022)) t)), none, some (.int (nI 0)), none, none] ⟨rfl, rfl, rfl, by rw [show 1022 + (E - 1022) = E by omega, ← er]; rfl, rfl, trivial⟩ ?_
    exact L1 (E - 1022) 0 (by omega)
  · have e0 := L2 (1022 - E) 0 (by omega)
    refine rk_dload_n dR_scaled_0 rfl ?_
    refine rk_dstore dR_scaled_1 (Nat.le_of_ble_eq_true rfl) ?_
    refine rk_iconst (v := 0) dR_scaled_3 (by decide) ?_
    refine rk_istore dR_scaled_4 (Nat.le_of_ble_eq_true rfl) ?_
    refine rk_lv [some (.ref (A 0)), some (.long s), none, some (.double r), none, some (.double (f_y E t)), none, some (.int (0 - nI 0)), none, none] ⟨rfl, rfl, rfl, by rw [← er]; rfl, rfl, trivial⟩ ?_
    refine rk_dload dR_scaled_6 rfl ?_
    refine rk_dconst1 dR_scaled_8 ?_
    refine rk_dcmp dR_scaled_9 ?_
    refine rk_if_lt 27 dR_scaled_10 (by decide) (fun q_10 => ?_) (fun q_10 => ?_)
    · exact e0
    · exact absurd ((f_y_1 ht (by omega) .l).mpr (by omega)) q_10
theorem c_R_cut (b : rk_H) (A : Nat → Nat) (X : rX) (v : Int64) : rk_Con mR_cut (0, 0, 0, 0) [.ref (A 0), .long v] (rv b A X) (rk_Rv (.int (s_cut v)) (rv b A X)) := by
  have e1 := lg_cmp_ge v (-128)
  have e2 := lg_cmp_le v 127
  refine rk_Con.of [some (.ref (A 0)), some (.long v), none] rfl (Nat.le_of_ble_eq_true rfl) (by decide +kernel) ?_
  refine rk_lload_n dR_cut_0 rfl ?_
  refine rk_ldc2 qR_194 dR_cut_1 ?_
  refine rk_lcmp dR_cut_4 ?_
  refine rk_if_ge 13 dR_cut_5 (by decide) (fun q_5 => ?_) (fun q_5 => ?_)
  · refine rk_lload_n dR_cut_13 rfl ?_
    refine rk_ldc2 qR_196 dR_cut_14 ?_
    refine rk_lcmp dR_cut_17 ?_
    refine rk_if_le 26 dR_cut_18 (by decide) (fun q_18 => ?_) (fun q_18 => ?_)
    · refine rk_lload_n dR_cut_26 rfl ?_
      refine rk_l2i dR_cut_27 ?_
      exact rk_iret rfl dR_cut_28 ⟨(Nat.le_of_ble_eq_true rfl), (Nat.le_of_ble_eq_true rfl)⟩ (⟨by rw [← cut_eq]; first | (rw [if_pos (Int64.not_le.mp (mt e1.mpr q_5))]) | (rw [if_neg (Int64.not_lt.mpr (e1.mp q_5)), if_neg (Int64.not_lt.mpr (e2.mp q_18))]) | (rw [if_neg (Int64.not_lt.mpr (e1.mp q_5)), if_pos (Int64.not_le.mp (mt e2.mpr q_18))]), rfl⟩)
    · refine rk_bipush (v := 127) dR_cut_21 (by decide) ?_
      refine rk_goto 28 dR_cut_23 (by decide) ?_
      exact rk_iret rfl dR_cut_28 ⟨(Nat.le_of_ble_eq_true rfl), (Nat.le_of_ble_eq_true rfl)⟩ (⟨by rw [← cut_eq]; first | (rw [if_pos (Int64.not_le.mp (mt e1.mpr q_5))]) | (rw [if_neg (Int64.not_lt.mpr (e1.mp q_5)), if_neg (Int64.not_lt.mpr (e2.mp q_18))]) | (rw [if_neg (Int64.not_lt.mpr (e1.mp q_5)), if_pos (Int64.not_le.mp (mt e2.mpr q_18))]), rfl⟩)
  · refine rk_bipush (v := -128) dR_cut_8 (by decide) ?_
    refine rk_goto 28 dR_cut_10 (by decide) ?_
    exact rk_iret rfl dR_cut_28 ⟨(Nat.le_of_ble_eq_true rfl), (Nat.le_of_ble_eq_true rfl)⟩ (⟨by rw [← cut_eq]; first | (rw [if_pos (Int64.not_le.mp (mt e1.mpr q_5))]) | (rw [if_neg (Int64.not_lt.mpr (e1.mp q_5)), if_neg (Int64.not_lt.mpr (e2.mp q_18))]) | (rw [if_neg (Int64.not_lt.mpr (e1.mp q_5)), if_pos (Int64.not_le.mp (mt e2.mpr q_18))]), rfl⟩)
theorem c_R_at (b : rk_H) (A : Nat → Nat) (X : rX) (k : rA A) (n y x c : Nat) (hn : n < 14) (hi : (y * (X.N n).w + x) * (X.N n).c + c < 128) : rk_Con mR_at (0, 0, 0, 0) [.ref (A 0), .int (nI n), .int (nI y), .int (nI x), .int (nI c)] (rv b A X) (rk_Rv (.int (X.ce (128 * n + (y * (X.N n).w + x) * (X.N n).c + c))) (rv b A X)) := by
  refine rk_Con.of [some (.ref (A 0)), some (.int (nI n)), some (.int (nI y)), some (.int (nI x)), some (.int (nI c))] rfl (Nat.le_of_ble_eq_true rfl) (by decide +kernel) ?_
  refine rk_aload_n dR_at_0 rfl ?_
  refine rk_getf fR_54 dR_at_1 k.m rfl ?_
  refine rk_sipush (v := 128) dR_at_4 (by decide) ?_
  refine rk_iload_n dR_at_7 rfl ?_
  refine rk_imul dR_at_8 ?_
  refine rk_iload_n dR_at_9 rfl ?_
  refine rk_aload_n dR_at_10 rfl ?_
  refine rk_getf fR_29 dR_at_11 k.m rfl ?_
  refine rk_iload_n dR_at_14 rfl ?_
  refine rk_iald dR_at_15 k.wi (vp_in_nI hn (by omega)) ?_
  rw [nI_clamp (show n < 2 ^ 31 by omega)]
  refine rk_imul dR_at_16 ?_
  refine rk_iload_n dR_at_17 rfl ?_
  refine rk_iadd dR_at_18 ?_
  refine rk_aload_n dR_at_19 rfl ?_
  refine rk_getf fR_32 dR_at_20 k.m rfl ?_
  refine rk_iload_n dR_at_23 rfl ?_
  refine rk_iald dR_at_24 k.de (vp_in_nI hn (by omega)) ?_
  rw [nI_clamp (show n < 2 ^ 31 by omega)]
  refine rk_imul dR_at_25 ?_
  refine rk_iadd dR_at_26 ?_
  refine rk_iload dR_at_27 rfl ?_
  refine rk_iadd dR_at_29 ?_
  rw [show (128 : Int32) = nI 128 from rfl]
  simp only [pk_mul, nI_add]
  refine rk_iald dR_at_30 k.ce (vp_in_nI (show 128 * n + (y * (X.N n).w + x) * (X.N n).c + c < 1792 by omega) (by omega)) ?_
  exact rk_iret rfl dR_at_31 ⟨(Nat.le_of_ble_eq_true rfl), (Nat.le_of_ble_eq_true rfl)⟩ (⟨by rw [nI_clamp (by omega)], rfl⟩)
theorem c_R_joined (b : rk_H) (A : Nat → Nat) (X : rX) (k : rA A) (n m y x c : Nat) (hn : n < 14) (hm : m < 14) (bn : (X.N n).c < 100) (hc : c < 100) (h1 : c < (X.N n).c → (y * (X.N n).w + x) * (X.N n).c + c < 128) (h2 : ¬ c < (X.N n).c → (y * (X.N m).w + x) * (X.N m).c + (c - (X.N n).c) < 128) : rk_Con mR_joined (1, 16, 0, 0) [.ref (A 0), .int (nI n), .int (nI m), .int (nI y), .int (nI x), .int (nI c)] (rv b A X) (rk_Rv (.int (if c < (X.N n).c then X.ce (128 * n + (y * (X.N n).w + x) * (X.N n).c + c) else X.ce (128 * m + (y * (X.N m).w + x) * (X.N m).c + (c - (X.N n).c)))) (rv b A X)) := by
  have e : nI (X.N n).c ≤ nI c ↔ (X.N n).c ≤ c := nI_leI (by omega) (by omega)
  refine rk_Con.of [some (.ref (A 0)), some (.int (nI n)), some (.int (nI m)), some (.int (nI y)), some (.int (nI x)), some (.int (nI c))] rfl (Nat.le_of_ble_eq_true rfl) (by decide +kernel) ?_
  by_cases hh : c < (X.N n).c
  · rw [if_pos hh]
    refine rk_iload dR_joined_0 rfl ?_
    refine rk_aload_n dR_joined_2 rfl ?_
    refine rk_getf fR_32 dR_joined_3 k.m rfl ?_
    refine rk_iload_n dR_joined_6 rfl ?_
    refine rk_iald dR_joined_7 k.de (vp_in_nI hn (by omega)) ?_
    rw [nI_clamp (show n < 2 ^ 31 by omega)]
    refine rk_icmp_ge 24 dR_joined_8 (by decide) (fun q_8 => ?_) (fun q_8 => ?_)
    · exact absurd (e.mp q_8) (by omega)
    · refine rk_aload_n dR_joined_11 rfl ?_
      refine rk_iload_n dR_joined_12 rfl ?_
      refine rk_iload_n dR_joined_13 rfl ?_
      refine rk_iload dR_joined_14 rfl ?_
      refine rk_iload dR_joined_16 rfl ?_
      refine rk_cvV (c_R_at b A X k n y x c hn (h1 hh)) cR_201 dR_joined_18 rfl lR_at (Nat.le_of_ble_eq_true rfl) (Nat.le_of_ble_eq_true rfl) (Nat.le_of_ble_eq_true rfl) (Nat.le_of_ble_eq_true rfl) k.m ?_
      refine rk_goto 41 dR_joined_21 (by decide) ?_
      exact rk_iret rfl dR_joined_41 ⟨(Nat.le_of_ble_eq_true rfl), (Nat.le_of_ble_eq_true rfl)⟩ (⟨rfl, rfl⟩)
  · rw [if_neg hh]
    refine rk_iload dR_joined_0 rfl ?_
    refine rk_aload_n dR_joined_2 rfl ?_
    refine rk_getf fR_32 dR_joined_3 k.m rfl ?_
    refine rk_iload_n dR_joined_6 rfl ?_
    refine rk_iald dR_joined_7 k.de (vp_in_nI hn (by omega)) ?_
    rw [nI_clamp (show n < 2 ^ 31 by omega)]
    refine rk_icmp_ge 24 dR_joined_8 (by decide) (fun q_8 => ?_) (fun q_8 => ?_)
    · refine rk_aload_n dR_joined_24 rfl ?_
      refine rk_iload_n dR_joined_25 rfl ?_
      refine rk_iload_n dR_joined_26 rfl ?_
      refine rk_iload dR_joined_27 rfl ?_
      refine rk_iload dR_joined_29 rfl ?_
      refine rk_aload_n dR_joined_31 rfl ?_
      refine rk_getf fR_32 dR_joined_32 k.m rfl ?_
      refine rk_iload_n dR_joined_35 rfl ?_
      refine rk_iald dR_joined_36 k.de (vp_in_nI hn (by omega)) ?_
      rw [nI_clamp (show n < 2 ^ 31 by omega)]
      refine rk_isub dR_joined_37 ?_
      rw [pk_sub (by omega)]
      refine rk_cvV (c_R_at b A X k m y x (c - (X.N n).c) hm (h2 hh)) cR_201 dR_joined_38 rfl lR_at (Nat.le_of_ble_eq_true rfl) (Nat.le_of_ble_eq_true rfl) (Nat.le_of_ble_eq_true rfl) (Nat.le_of_ble_eq_true rfl) k.m ?_
      exact rk_iret rfl dR_joined_41 ⟨(Nat.le_of_ble_eq_true rfl), (Nat.le_of_ble_eq_true rfl)⟩ (⟨rfl, rfl⟩)
    · exact absurd (e.mpr (by omega)) q_8
def dnL (X : rX) (n a o : Nat) : Int64 := itr (fun j S => S + (X.ce (128 * a + j) * X.w ((X.N n).off + o * (X.N a).ce + j)).toInt64) (X.N a).ce 0 0 + 16 * (X.w ((X.N n).off + (X.N n).c * (X.N a).ce + o)).toInt64
theorem c_R_denseSum (b : rk_H) (A : Nat → Nat) (X : rX) (k : rA A) (n a o : Nat) (hn : n < 14) (ha : a < 14) (hce : (X.N a).ce ≤ 128) (ho : o < (X.N n).c) (hw : (X.N n).off + (X.N n).c * (X.N a).ce + (X.N n).c ≤ 512) : rk_Con mR_denseSum (1, 13, 0, 0) [.ref (A 0), .int (nI n), .int (nI a), .int (nI o)] (rv b A X) (rk_Rv (.long (dnL X n a o)) (rv b A X)) := by
  have hoc : o * (X.N a).ce + (X.N a).ce ≤ (X.N n).c * (X.N a).ce := by rw [← Nat.succ_mul]; exact Nat.mul_le_mul_right _ ho
  have loop : ∀ (k1 j : Nat) (S : Int64), j + k1 = (X.N a).ce → rk_Run mR_denseSum (1, 13, 0, 0) (rk_Rv (.long (itr (fun j S => S + (X.ce (128 * a + j) * X.w ((X.N n).off + o * (X.N a).ce + j)).toInt64) k1 j S + 16 * (X.w ((X.N n).off + (X.N n).c * (X.N a).ce + o)).toInt64)) (rv b A X)) 13 [some (.ref (A 0)), some (.int (nI n)), some (.int (nI a)), some (.int (nI o)), some (.long S), none, some (.int (nI (X.N a).ce)), some (.int (nI j))] [] (rv b A X) (0, 0) := by
    intro k1
    induction k1 with
    | zero =>
      intro j S hj
      have hj : j = (X.N a).ce := by omega
      subst hj
      refine rk_iload dR_denseSum_13 rfl ?_
      refine rk_iload dR_denseSum_15 rfl ?_
      refine rk_icmp_ge 65 dR_denseSum_17 (by decide) (fun q_17 => ?_) (fun q_17 => ?_)
      · refine rk_lload dR_denseSum_65 rfl ?_
        refine rk_ldc2 qR_204 dR_denseSum_67 ?_
        refine rk_aload_n dR_denseSum_70 rfl ?_
        refine rk_getf fR_7 dR_denseSum_71 k.m rfl ?_
        refine rk_aload_n dR_denseSum_74 rfl ?_
        refine rk_getf fR_45 dR_denseSum_75 k.m rfl ?_
        refine rk_iload_n dR_denseSum_78 rfl ?_
        refine rk_iald dR_denseSum_79 k.of (vp_in_nI hn (by omega)) ?_
        rw [nI_clamp (show n < 2 ^ 31 by omega)]
        refine rk_aload_n dR_denseSum_80 rfl ?_
        refine rk_getf fR_32 dR_denseSum_81 k.m rfl ?_
        refine rk_iload_n dR_denseSum_84 rfl ?_
        refine rk_iald dR_denseSum_85 k.de (vp_in_nI hn (by omega)) ?_
        rw [nI_clamp (show n < 2 ^ 31 by omega)]
        refine rk_iload dR_denseSum_86 rfl ?_
        refine rk_imul dR_denseSum_88 ?_
        refine rk_iadd dR_denseSum_89 ?_
        refine rk_iload_n dR_denseSum_90 rfl ?_
        refine rk_iadd dR_denseSum_91 ?_
        simp only [pk_mul, nI_add]
        refine rk_iald dR_denseSum_92 k.w (vp_in_nI (show (X.N n).off + (X.N n).c * (X.N a).ce + o < 512 by omega) (by omega)) ?_
        refine rk_i2l dR_denseSum_93 ?_
        refine rk_lmul dR_denseSum_94 ?_
        refine rk_ladd dR_denseSum_95 ?_
        exact rk_lret rfl dR_denseSum_96 ⟨(Nat.le_of_ble_eq_true rfl), (Nat.le_of_ble_eq_true rfl)⟩ (⟨by rw [nI_clamp (by omega)]; rfl, rfl⟩)
      · exact absurd (nI_le (Nat.le_refl _) (by omega)) q_17
    | succ k1 ih =>
      intro j S hj
      refine rk_iload dR_denseSum_13 rfl ?_
      refine rk_iload dR_denseSum_15 rfl ?_
      refine rk_icmp_ge 65 dR_denseSum_17 (by decide) (fun q_17 => (by exact absurd q_17 (nI_ge (by omega) (by omega)))) (fun q_17 => ?_)
      refine rk_lload dR_denseSum_20 rfl ?_
      refine rk_aload_n dR_denseSum_22 rfl ?_
      refine rk_getf fR_54 dR_denseSum_23 k.m rfl ?_
      refine rk_sipush (v := 128) dR_denseSum_26 (by decide) ?_
      refine rk_iload_n dR_denseSum_29 rfl ?_
      refine rk_imul dR_denseSum_30 ?_
      refine rk_iload dR_denseSum_31 rfl ?_
      refine rk_iadd dR_denseSum_33 ?_
      rw [show (128 : Int32) = nI 128 from rfl, pk_mul, nI_add]
      refine rk_iald dR_denseSum_34 k.ce (vp_in_nI (show 128 * a + j < 1792 by omega) (by omega)) ?_
      rw [nI_clamp (show 128 * a + j < 2 ^ 31 by omega)]
      refine rk_aload_n dR_denseSum_35 rfl ?_
      refine rk_getf fR_7 dR_denseSum_36 k.m rfl ?_
      refine rk_aload_n dR_denseSum_39 rfl ?_
      refine rk_getf fR_45 dR_denseSum_40 k.m rfl ?_
      refine rk_iload_n dR_denseSum_43 rfl ?_
      refine rk_iald dR_denseSum_44 k.of (vp_in_nI hn (by omega)) ?_
      rw [nI_clamp (show n < 2 ^ 31 by omega)]
      refine rk_iload_n dR_denseSum_45 rfl ?_
      refine rk_iload dR_denseSum_46 rfl ?_
      refine rk_imul dR_denseSum_48 ?_
      refine rk_iadd dR_denseSum_49 ?_
      refine rk_iload dR_denseSum_50 rfl ?_
      refine rk_iadd dR_denseSum_52 ?_
      simp only [pk_mul, nI_add]
      refine rk_iald dR_denseSum_53 k.w (vp_in_nI (show (X.N n).off + o * (X.N a).ce + j < 512 by omega) (by omega)) ?_
      rw [nI_clamp (show (X.N n).off + o * (X.N a).ce + j < 2 ^ 31 by omega)]
      refine rk_imul dR_denseSum_54 ?_
      refine rk_i2l dR_denseSum_55 ?_
      refine rk_ladd dR_denseSum_56 ?_
      refine rk_lstore dR_denseSum_57 (Nat.le_of_ble_eq_true rfl) ?_
      refine rk_iinc dR_denseSum_59 rfl (inc1 j) (Nat.le_of_ble_eq_true rfl) ?_
      refine rk_goto 13 dR_denseSum_62 (by decide) ?_
      exact ih (j + 1) _ (by omega)
  refine rk_Con.of [some (.ref (A 0)), some (.int (nI n)), some (.int (nI a)), some (.int (nI o)), none, none, none, none] rfl (Nat.le_of_ble_eq_true rfl) (by decide +kernel) ?_
  refine rk_lconst (v := 0) dR_denseSum_0 (by decide) ?_
  refine rk_lstore dR_denseSum_1 (Nat.le_of_ble_eq_true rfl) ?_
  refine rk_aload_n dR_denseSum_3 rfl ?_
  refine rk_iload_n dR_denseSum_4 rfl ?_
  refine rk_cvV (c_R_cells b A X k a ha) cR_137 dR_denseSum_5 rfl lR_cells (Nat.le_of_ble_eq_true rfl) (Nat.le_of_ble_eq_true rfl) (Nat.le_of_ble_eq_true rfl) (Nat.le_of_ble_eq_true rfl) k.m ?_
  refine rk_istore dR_denseSum_8 (Nat.le_of_ble_eq_true rfl) ?_
  refine rk_iconst (v := 0) dR_denseSum_10 (by decide) ?_
  refine rk_istore dR_denseSum_11 (Nat.le_of_ble_eq_true rfl) ?_
  exact loop _ 0 0 (Nat.zero_add _)
