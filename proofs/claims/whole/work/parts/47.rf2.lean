/-! the reference: windows' numbers; making a node -/
theorem c_R_places (b : rk_H) (A : Nat → Nat) (X : rX) (k : rA A) (co l : Nat) (hc : co < 12) (h1 : 1 ≤ l) (hl : l ≤ 4) (hf : z_fit co l = true) : rk_Con mR_places (1, 14, 0, 0) [.ref (A 0), .int (nI l), .int (nI co)] (rv b A X) (rk_Rv (.int (nI (z_plc co l))) (rv b A X)) := by
  have e6 : nI co < 6 ↔ co < 6 := nI_ltI (b := 6) (by omega) (by omega)
  have hs := z_step_or co
  have hst : ¬ nI (z_step co) = 0 := nI_ne0 (by omega) (by omega)
  have hsz : z_size co ≤ 3 := by unfold z_size; omega
  refine rk_Con.of [some (.ref (A 0)), some (.int (nI l)), some (.int (nI co))] rfl (Nat.le_of_ble_eq_true rfl) (by decide +kernel) ?_
  by_cases h6 : co < 6
  · have hfl : z_size co ≤ l := by
      unfold z_fit at hf
      rw [decide_eq_false (show ¬ 6 ≤ co by omega), Bool.false_or, decide_eq_true_eq] at hf
      exact hf
    have ev : (l - z_size co) / z_step co + 1 = z_plc co l := by
      unfold z_plc z_way
      rw [if_neg (show ¬ 6 ≤ co by omega)]
      rcases hs with hs | hs
      · rw [hs, if_neg (by decide)]; omega
      · rw [hs, if_pos rfl]; omega
    refine rk_iload_n dR_places_0 rfl ?_
    refine rk_bipush (v := 6) dR_places_1 (by decide) ?_
    refine rk_icmp_lt 24 dR_places_3 (by decide) (fun q_3 => ?_) (fun q_3 => ?_)
    · refine rk_iload_n dR_places_24 rfl ?_
      refine rk_aload_n dR_places_25 rfl ?_
      refine rk_iload_n dR_places_26 rfl ?_
      refine rk_cvV (c_R_side b A X co (by omega)) cR_124 dR_places_27 rfl lR_side (Nat.le_of_ble_eq_true rfl) (Nat.le_of_ble_eq_true rfl) (Nat.le_of_ble_eq_true rfl) (Nat.le_of_ble_eq_true rfl) k.m ?_
      refine rk_isub dR_places_30 ?_
      rw [pk_sub hfl]
      refine rk_aload_n dR_places_31 rfl ?_
      refine rk_iload_n dR_places_32 rfl ?_
      refine rk_cvV (c_R_stride b A X co (by omega)) cR_121 dR_places_33 rfl lR_stride (Nat.le_of_ble_eq_true rfl) (Nat.le_of_ble_eq_true rfl) (Nat.le_of_ble_eq_true rfl) (Nat.le_of_ble_eq_true rfl) k.m ?_
      refine rk_idiv dR_places_36 hst ?_
      rw [pk_div (by omega) (by omega) (by omega)]
      refine rk_iconst (v := 1) dR_places_37 (by decide) ?_
      refine rk_iadd dR_places_38 ?_
      rw [show nI ((l - z_size co) / z_step co) + 1 = nI ((l - z_size co) / z_step co + 1) from nI_1 _, ev]
      exact rk_iret rfl dR_places_39 ⟨(Nat.le_of_ble_eq_true rfl), (Nat.le_of_ble_eq_true rfl)⟩ (⟨rfl, rfl⟩)
    · exact absurd (e6.mpr h6) q_3
  · have ev : (l + z_step co - 1) / z_step co = z_plc co l := by
      unfold z_plc z_way
      rw [if_pos (show 6 ≤ co by omega)]
      rcases hs with hs | hs
      · rw [hs, if_neg (by decide)]; omega
      · rw [hs, if_pos rfl]; omega
    refine rk_iload_n dR_places_0 rfl ?_
    refine rk_bipush (v := 6) dR_places_1 (by decide) ?_
    refine rk_icmp_lt 24 dR_places_3 (by decide) (fun q_3 => ?_) (fun q_3 => ?_)
    · exact absurd (e6.mp q_3) h6
    · refine rk_iload_n dR_places_6 rfl ?_
      refine rk_aload_n dR_places_7 rfl ?_
      refine rk_iload_n dR_places_8 rfl ?_
      refine rk_cvV (c_R_stride b A X co (by omega)) cR_121 dR_places_9 rfl lR_stride (Nat.le_of_ble_eq_true rfl) (Nat.le_of_ble_eq_true rfl) (Nat.le_of_ble_eq_true rfl) (Nat.le_of_ble_eq_true rfl) k.m ?_
      refine rk_iadd dR_places_12 ?_
      refine rk_iconst (v := 1) dR_places_13 (by decide) ?_
      refine rk_isub dR_places_14 ?_
      rw [nI_add, show (1 : Int32) = nI 1 from rfl, pk_sub (by omega)]
      refine rk_aload_n dR_places_15 rfl ?_
      refine rk_iload_n dR_places_16 rfl ?_
      refine rk_cvV (c_R_stride b A X co (by omega)) cR_121 dR_places_17 rfl lR_stride (Nat.le_of_ble_eq_true rfl) (Nat.le_of_ble_eq_true rfl) (Nat.le_of_ble_eq_true rfl) (Nat.le_of_ble_eq_true rfl) k.m ?_
      refine rk_idiv dR_places_20 hst ?_
      rw [pk_div (by omega) (by omega) (by omega), ev]
      refine rk_goto 39 dR_places_21 (by decide) ?_
      exact rk_iret rfl dR_places_39 ⟨(Nat.le_of_ble_eq_true rfl), (Nat.le_of_ble_eq_true rfl)⟩ (⟨rfl, rfl⟩)
theorem c_R_before (b : rk_H) (A : Nat → Nat) (X : rX) (k : rA A) (co l : Nat) (hc : co < 12) (h1 : 1 ≤ l) (hl : l ≤ 4) (hf : z_fit co l = true) : rk_Con mR_before (2, 28, 0, 0) [.ref (A 0), .int (nI l), .int (nI co)] (rv b A X) (rk_Rv (.int (nI (z_bef (z_size co) (z_step co) (z_plc co l) l))) (rv b A X)) := by
  have e6 : 6 ≤ nI co ↔ 6 ≤ co := nI_leI (a := 6) (by omega) (by omega)
  have hs := z_step_or co
  have hsz : z_size co ≤ 3 := by unfold z_size; omega
  have hp := z_plc_ok (co := co) h1 hf
  refine rk_Con.of [some (.ref (A 0)), some (.int (nI l)), some (.int (nI co)), none] rfl (Nat.le_of_ble_eq_true rfl) (by decide +kernel) ?_
  by_cases h6 : 6 ≤ co
  · have hpp : (z_plc co l - 1) * z_step co ≤ 8 := by omega
    refine rk_iload_n dR_before_0 rfl ?_
    refine rk_bipush (v := 6) dR_before_1 (by decide) ?_
    refine rk_icmp_ge 8 dR_before_3 (by decide) (fun q_3 => ?_) (fun q_3 => (by exact absurd (e6.mpr h6) q_3))
    refine rk_aload_n dR_before_8 rfl ?_
    refine rk_iload_n dR_before_9 rfl ?_
    refine rk_iload_n dR_before_10 rfl ?_
    refine rk_cvV (c_R_places b A X k co l hc h1 hl hf) cR_127 dR_before_11 rfl lR_places (Nat.le_of_ble_eq_true rfl) (Nat.le_of_ble_eq_true rfl) (Nat.le_of_ble_eq_true rfl) (Nat.le_of_ble_eq_true rfl) k.m ?_
    refine rk_iconst (v := 1) dR_before_14 (by decide) ?_
    refine rk_isub dR_before_15 ?_
    rw [show (1 : Int32) = nI 1 from rfl, pk_sub (by omega)]
    refine rk_aload_n dR_before_16 rfl ?_
    refine rk_iload_n dR_before_17 rfl ?_
    refine rk_cvV (c_R_stride b A X co (by omega)) cR_121 dR_before_18 rfl lR_stride (Nat.le_of_ble_eq_true rfl) (Nat.le_of_ble_eq_true rfl) (Nat.le_of_ble_eq_true rfl) (Nat.le_of_ble_eq_true rfl) k.m ?_
    refine rk_imul dR_before_21 ?_
    rw [pk_mul]
    refine rk_aload_n dR_before_22 rfl ?_
    refine rk_iload_n dR_before_23 rfl ?_
    refine rk_cvV (c_R_side b A X co (by omega)) cR_124 dR_before_24 rfl lR_side (Nat.le_of_ble_eq_true rfl) (Nat.le_of_ble_eq_true rfl) (Nat.le_of_ble_eq_true rfl) (Nat.le_of_ble_eq_true rfl) k.m ?_
    refine rk_iadd dR_before_27 ?_
    rw [nI_add]
    refine rk_iload_n dR_before_28 rfl ?_
    refine rk_isub dR_before_29 ?_
    refine rk_istore_n dR_before_30 (Nat.le_of_ble_eq_true rfl) ?_
    refine rk_iload_n dR_before_31 rfl ?_
    refine rk_if_ge 39 dR_before_32 (by decide) (fun q_32 => ?_) (fun q_32 => ?_)
    · refine rk_iload_n dR_before_39 rfl ?_
      refine rk_iconst (v := 2) dR_before_40 (by decide) ?_
      refine rk_idiv dR_before_41 (by decide) ?_
      exact rk_iret rfl dR_before_42 ⟨(Nat.le_of_ble_eq_true rfl), (Nat.le_of_ble_eq_true rfl)⟩ (⟨by have hb := z_bef_i (k := z_size co) (sp := z_step co) (l := l) hp.2.1 (by omega) (by omega); unfold w_bef i_max at hb; rw [show (1 : Int32) = nI 1 from rfl, pk_sub hp.2.1, pk_mul, nI_add] at hb; rw [← hb]; first | (rw [if_neg (fun z => absurd z (Int32.not_lt.mpr q_32))]) | (rw [if_pos (Int32.not_le.mp q_32)]; rfl), rfl⟩)
    · refine rk_iconst (v := 0) dR_before_35 (by decide) ?_
      refine rk_goto 42 dR_before_36 (by decide) ?_
      exact rk_iret rfl dR_before_42 ⟨(Nat.le_of_ble_eq_true rfl), (Nat.le_of_ble_eq_true rfl)⟩ (⟨by have hb := z_bef_i (k := z_size co) (sp := z_step co) (l := l) hp.2.1 (by omega) (by omega); unfold w_bef i_max at hb; rw [show (1 : Int32) = nI 1 from rfl, pk_sub hp.2.1, pk_mul, nI_add] at hb; rw [← hb]; first | (rw [if_neg (fun z => absurd z (Int32.not_lt.mpr q_32))]) | (rw [if_pos (Int32.not_le.mp q_32)]; rfl), rfl⟩)
  · have ez : z_bef (z_size co) (z_step co) (z_plc co l) l = 0 := by
      have : (z_plc co l - 1) * z_step co ≤ z_way co l := by
        unfold z_plc
        rcases hs with hs | hs
        · rw [hs, if_neg (by decide)]; omega
        · rw [hs, if_pos rfl]; omega
      unfold z_way at this
      rw [if_neg h6] at this
      unfold z_bef
      unfold z_fit at hf
      rw [decide_eq_false h6, Bool.false_or, decide_eq_true_eq] at hf
      omega
    refine rk_iload_n dR_before_0 rfl ?_
    refine rk_bipush (v := 6) dR_before_1 (by decide) ?_
    refine rk_icmp_ge 8 dR_before_3 (by decide) (fun q_3 => ?_) (fun q_3 => ?_)
    · exact absurd (e6.mp q_3) h6
    · refine rk_iconst (v := 0) dR_before_6 (by decide) ?_
      exact rk_iret rfl dR_before_7 ⟨(Nat.le_of_ble_eq_true rfl), (Nat.le_of_ble_eq_true rfl)⟩ (⟨by rw [ez]; rfl, rfl⟩)
theorem c_R_narrow (b : rk_H) (A : Nat → Nat) (X : rX) (k : rA A) (j co : Nat) (hj : j < 14) (hc : co < 2 ^ 31) (hb : bdI (X.N j)) : rk_Con mR_narrow (1, 14, 0, 0) [.ref (A 0), .int (nI j), .int (nI co)] (rv b A X) (rk_Rv (.int (b2i (!(z_fit co (X.N j).h && z_fit co (X.N j).w)))) (rv b A X)) := by
  have e6 : 6 ≤ nI co ↔ 6 ≤ co := nI_leI (a := 6) (by omega) (by omega)
  have hsz : z_size co ≤ 3 := by unfold z_size; omega
  have h4 := hb.1.2.1
  have w4 := hb.1.2.2.1
  have eh : nI (X.N j).h < nI (z_size co) ↔ (X.N j).h < z_size co := nI_ltI (by omega) (by omega)
  have ew : nI (z_size co) ≤ nI (X.N j).w ↔ z_size co ≤ (X.N j).w := nI_leI (by omega) (by omega)
  refine rk_Con.of [some (.ref (A 0)), some (.int (nI j)), some (.int (nI co))] rfl (Nat.le_of_ble_eq_true rfl) (by decide +kernel) ?_
  refine rk_iload_n dR_narrow_0 rfl ?_
  refine rk_bipush (v := 6) dR_narrow_1 (by decide) ?_
  refine rk_icmp_ge 38 dR_narrow_3 (by decide) (fun q_3 => ?_) (fun q_3 => ?_)
  · refine rk_iconst (v := 0) dR_narrow_38 (by decide) ?_
    exact rk_zret rfl rfl dR_narrow_39 ⟨(Nat.le_of_ble_eq_true rfl), (Nat.le_of_ble_eq_true rfl)⟩ (⟨by unfold z_fit; simp_all [b2i, Nat.not_le, Nat.not_lt], rfl⟩)
  · refine rk_aload_n dR_narrow_6 rfl ?_
    refine rk_getf fR_26 dR_narrow_7 k.m rfl ?_
    refine rk_iload_n dR_narrow_10 rfl ?_
    refine rk_iald dR_narrow_11 k.hi (vp_in_nI hj (by omega)) ?_
    rw [nI_clamp (show j < 2 ^ 31 by omega)]
    refine rk_aload_n dR_narrow_12 rfl ?_
    refine rk_iload_n dR_narrow_13 rfl ?_
    refine rk_cvV (c_R_side b A X co hc) cR_124 dR_narrow_14 rfl lR_side (Nat.le_of_ble_eq_true rfl) (Nat.le_of_ble_eq_true rfl) (Nat.le_of_ble_eq_true rfl) (Nat.le_of_ble_eq_true rfl) k.m ?_
    refine rk_icmp_lt 34 dR_narrow_17 (by decide) (fun q_17 => ?_) (fun q_17 => ?_)
    · refine rk_iconst (v := 1) dR_narrow_34 (by decide) ?_
      refine rk_goto 39 dR_narrow_35 (by decide) ?_
      exact rk_zret rfl rfl dR_narrow_39 ⟨(Nat.le_of_ble_eq_true rfl), (Nat.le_of_ble_eq_true rfl)⟩ (⟨by unfold z_fit; simp_all [b2i, Nat.not_le, Nat.not_lt], rfl⟩)
    · refine rk_aload_n dR_narrow_20 rfl ?_
      refine rk_getf fR_29 dR_narrow_21 k.m rfl ?_
      refine rk_iload_n dR_narrow_24 rfl ?_
      refine rk_iald dR_narrow_25 k.wi (vp_in_nI hj (by omega)) ?_
      rw [nI_clamp (show j < 2 ^ 31 by omega)]
      refine rk_aload_n dR_narrow_26 rfl ?_
      refine rk_iload_n dR_narrow_27 rfl ?_
      refine rk_cvV (c_R_side b A X co hc) cR_124 dR_narrow_28 rfl lR_side (Nat.le_of_ble_eq_true rfl) (Nat.le_of_ble_eq_true rfl) (Nat.le_of_ble_eq_true rfl) (Nat.le_of_ble_eq_true rfl) k.m ?_
      refine rk_icmp_ge 38 dR_narrow_31 (by decide) (fun q_31 => ?_) (fun q_31 => ?_)
      · refine rk_iconst (v := 0) dR_narrow_38 (by decide) ?_
        exact rk_zret rfl rfl dR_narrow_39 ⟨(Nat.le_of_ble_eq_true rfl), (Nat.le_of_ble_eq_true rfl)⟩ (⟨by unfold z_fit; simp_all [b2i, Nat.not_le, Nat.not_lt], rfl⟩)
      · refine rk_iconst (v := 1) dR_narrow_34 (by decide) ?_
        refine rk_goto 39 dR_narrow_35 (by decide) ?_
        exact rk_zret rfl rfl dR_narrow_39 ⟨(Nat.le_of_ble_eq_true rfl), (Nat.le_of_ble_eq_true rfl)⟩ (⟨by unfold z_fit; simp_all [b2i, Nat.not_le, Nat.not_lt], rfl⟩)
theorem c_R_sameSize (b : rk_H) (A : Nat → Nat) (X : rX) (k : rA A) (i j : Nat) (hi : i < 14) (hj : j < 14) (bi : bdI (X.N i)) (bj : bdI (X.N j)) : rk_Con mR_sameSize (0, 0, 0, 0) [.ref (A 0), .int (nI i), .int (nI j)] (rv b A X) (rk_Rv (.int (b2i (decide ((X.N i).h = (X.N j).h) && decide ((X.N i).w = (X.N j).w)))) (rv b A X)) := by
  have a1 := bi.1.2.1
  have a2 := bi.1.2.2.1
  have a3 := bj.1.2.1
  have a4 := bj.1.2.2.1
  have eh : nI (X.N i).h = nI (X.N j).h ↔ (X.N i).h = (X.N j).h := nI_eq (by omega) (by omega)
  have ew : nI (X.N i).w = nI (X.N j).w ↔ (X.N i).w = (X.N j).w := nI_eq (by omega) (by omega)
  refine rk_Con.of [some (.ref (A 0)), some (.int (nI i)), some (.int (nI j))] rfl (Nat.le_of_ble_eq_true rfl) (by decide +kernel) ?_
  refine rk_aload_n dR_sameSize_0 rfl ?_
  refine rk_getf fR_26 dR_sameSize_1 k.m rfl ?_
  refine rk_iload_n dR_sameSize_4 rfl ?_
  refine rk_iald dR_sameSize_5 k.hi (vp_in_nI hi (by omega)) ?_
  refine rk_aload_n dR_sameSize_6 rfl ?_
  refine rk_getf fR_26 dR_sameSize_7 k.m rfl ?_
  refine rk_iload_n dR_sameSize_10 rfl ?_
  refine rk_iald dR_sameSize_11 k.hi (vp_in_nI hj (by omega)) ?_
  rw [nI_clamp (show i < 2 ^ 31 by omega), nI_clamp (show j < 2 ^ 31 by omega)]
  refine rk_icmp_ne 34 dR_sameSize_12 (by decide) (fun q_12 => ?_) (fun q_12 => ?_)
  · refine rk_iconst (v := 0) dR_sameSize_34 (by decide) ?_
    exact rk_zret rfl rfl dR_sameSize_35 ⟨(Nat.le_of_ble_eq_true rfl), (Nat.le_of_ble_eq_true rfl)⟩ (⟨by simp_all [b2i], rfl⟩)
  · refine rk_aload_n dR_sameSize_15 rfl ?_
    refine rk_getf fR_29 dR_sameSize_16 k.m rfl ?_
    refine rk_iload_n dR_sameSize_19 rfl ?_
    refine rk_iald dR_sameSize_20 k.wi (vp_in_nI hi (by omega)) ?_
    refine rk_aload_n dR_sameSize_21 rfl ?_
    refine rk_getf fR_29 dR_sameSize_22 k.m rfl ?_
    refine rk_iload_n dR_sameSize_25 rfl ?_
    refine rk_iald dR_sameSize_26 k.wi (vp_in_nI hj (by omega)) ?_
    rw [nI_clamp (show i < 2 ^ 31 by omega), nI_clamp (show j < 2 ^ 31 by omega)]
    refine rk_icmp_ne 34 dR_sameSize_27 (by decide) (fun q_27 => ?_) (fun q_27 => ?_)
    · refine rk_iconst (v := 0) dR_sameSize_34 (by decide) ?_
      exact rk_zret rfl rfl dR_sameSize_35 ⟨(Nat.le_of_ble_eq_true rfl), (Nat.le_of_ble_eq_true rfl)⟩ (⟨by simp_all [b2i], rfl⟩)
    · refine rk_iconst (v := 1) dR_sameSize_30 (by decide) ?_
      refine rk_goto 35 dR_sameSize_31 (by decide) ?_
      exact rk_zret rfl rfl dR_sameSize_35 ⟨(Nat.le_of_ble_eq_true rfl), (Nat.le_of_ble_eq_true rfl)⟩ (⟨by simp_all [b2i], rfl⟩)
