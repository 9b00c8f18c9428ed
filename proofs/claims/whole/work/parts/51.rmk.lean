/-! the reference: calls that make a node -/
theorem c_R_input (b : rk_H) (A : Nat → Nat) (X : rX) (s : aS) (k : rA A) (kX : rOK X s) (ok : aOK s) (x y z : Int32) (sc : UInt64) (hs : badS sc = !dsB sc) : rk_Con mR_input (1, 21, 0, 0) [.ref (A 0), .int x, .int y, .int z, .double sc] (rv b A X) (rPo b A (some (.int 0)) (opInput s x y z sc)) := by
  have hn := ok.1.1
  have hbd := ok.1.2.1.bd
  refine rk_Con.of [some (.ref (A 0)), some (.int x), some (.int y), some (.int z), some (.double sc), none] rfl (Nat.le_of_ble_eq_true rfl) (by decide +kernel) ?_
  refine rk_aload_n dR_input_0 rfl ?_
  refine rk_iconst (v := 0) dR_input_1 (by decide) ?_
  refine rk_putf pR_85 dR_input_2 k.m (Nat.le_of_ble_eq_true rfl) rfl rfl ?_
  rw [k.ufa]
  skip
  have kY : rOK (X.wfa 0) s := kX
  have hfa : (X.wfa 0).fa = 0 := rfl
  generalize X.wfa 0 = Y at kY hfa ⊢
  have nd : ∀ x, ouB x (nI Y.no) = !ndB s x := fun x => kY.nd hn
  have n14 := kY.n14 hn
  have hno : ¬ s.n = 14 → Y.no < 14 := fun q => by rw [kY.1.2.1]; omega
  have eN := kY.1.1
  have eW := kY.1.2.2.2
  have h4 : ∀ v : Int32, ouB (v - 1) 4 = !btB v 1 4 := fun v => ou_bt (by decide)
  have h8 : ∀ v : Int32, ouB (v - 1) 8 = !btB v 1 8 := fun v => ou_bt (by decide)
  refine rk_aload_n dR_input_5 rfl ?_
  refine rk_iload_n dR_input_6 rfl ?_
  refine rk_iconst (v := 1) dR_input_7 (by decide) ?_
  refine rk_isub dR_input_8 ?_
  refine rk_iconst (v := 4) dR_input_9 (by decide) ?_
  refine rk_cvV (c_R_out b A Y (x - 1) 4) cR_94 dR_input_10 rfl lR_out (Nat.le_of_ble_eq_true rfl) (Nat.le_of_ble_eq_true rfl) (Nat.le_of_ble_eq_true rfl) (Nat.le_of_ble_eq_true rfl) k.m ?_
  rw [h4]
  refine rk_if_ne 48 dR_input_13 (by decide) (fun q_13 => ?_) (fun q_13 => ?_)
  · refine rk_aload_n dR_input_48 rfl ?_
    refine rk_iconst (v := 1) dR_input_49 (by decide) ?_
    refine rk_cvV (c_R_fail b A Y k 1) cR_98 dR_input_50 rfl lR_fail (Nat.le_of_ble_eq_true rfl) (Nat.le_of_ble_eq_true rfl) (Nat.le_of_ble_eq_true rfl) (Nat.le_of_ble_eq_true rfl) k.m ?_
    exact rk_iret rfl dR_input_53 ⟨(Nat.le_of_ble_eq_true rfl), (Nat.le_of_ble_eq_true rfl)⟩ (rPo.fl (c := 1) kY (mk2_1 (fun hh => by simp only [Bool.and_eq_true, decide_eq_true_eq] at hh; simp_all [b2i, tN_I])) (by decide))
  · refine rk_aload_n dR_input_16 rfl ?_
    refine rk_iload_n dR_input_17 rfl ?_
    refine rk_iconst (v := 1) dR_input_18 (by decide) ?_
    refine rk_isub dR_input_19 ?_
    refine rk_iconst (v := 4) dR_input_20 (by decide) ?_
    refine rk_cvV (c_R_out b A Y (y - 1) 4) cR_94 dR_input_21 rfl lR_out (Nat.le_of_ble_eq_true rfl) (Nat.le_of_ble_eq_true rfl) (Nat.le_of_ble_eq_true rfl) (Nat.le_of_ble_eq_true rfl) k.m ?_
    rw [h4]
    refine rk_if_ne 48 dR_input_24 (by decide) (fun q_24 => ?_) (fun q_24 => ?_)
    · refine rk_aload_n dR_input_48 rfl ?_
      refine rk_iconst (v := 1) dR_input_49 (by decide) ?_
      refine rk_cvV (c_R_fail b A Y k 1) cR_98 dR_input_50 rfl lR_fail (Nat.le_of_ble_eq_true rfl) (Nat.le_of_ble_eq_true rfl) (Nat.le_of_ble_eq_true rfl) (Nat.le_of_ble_eq_true rfl) k.m ?_
      exact rk_iret rfl dR_input_53 ⟨(Nat.le_of_ble_eq_true rfl), (Nat.le_of_ble_eq_true rfl)⟩ (rPo.fl (c := 1) kY (mk2_1 (fun hh => by simp only [Bool.and_eq_true, decide_eq_true_eq] at hh; simp_all [b2i, tN_I])) (by decide))
    · refine rk_aload_n dR_input_27 rfl ?_
      refine rk_iload_n dR_input_28 rfl ?_
      refine rk_iconst (v := 1) dR_input_29 (by decide) ?_
      refine rk_isub dR_input_30 ?_
      refine rk_bipush (v := 8) dR_input_31 (by decide) ?_
      refine rk_cvV (c_R_out b A Y (z - 1) 8) cR_94 dR_input_33 rfl lR_out (Nat.le_of_ble_eq_true rfl) (Nat.le_of_ble_eq_true rfl) (Nat.le_of_ble_eq_true rfl) (Nat.le_of_ble_eq_true rfl) k.m ?_
      rw [h8]
      refine rk_if_ne 48 dR_input_36 (by decide) (fun q_36 => ?_) (fun q_36 => ?_)
      · refine rk_aload_n dR_input_48 rfl ?_
        refine rk_iconst (v := 1) dR_input_49 (by decide) ?_
        refine rk_cvV (c_R_fail b A Y k 1) cR_98 dR_input_50 rfl lR_fail (Nat.le_of_ble_eq_true rfl) (Nat.le_of_ble_eq_true rfl) (Nat.le_of_ble_eq_true rfl) (Nat.le_of_ble_eq_true rfl) k.m ?_
        exact rk_iret rfl dR_input_53 ⟨(Nat.le_of_ble_eq_true rfl), (Nat.le_of_ble_eq_true rfl)⟩ (rPo.fl (c := 1) kY (mk2_1 (fun hh => by simp only [Bool.and_eq_true, decide_eq_true_eq] at hh; simp_all [b2i, tN_I])) (by decide))
      · refine rk_aload_n dR_input_39 rfl ?_
        refine rk_dload dR_input_40 rfl ?_
        refine rk_cvV (c_R_badScale b A Y sc) cR_102 dR_input_42 rfl lR_badScale (Nat.le_of_ble_eq_true rfl) (Nat.le_of_ble_eq_true rfl) (Nat.le_of_ble_eq_true rfl) (Nat.le_of_ble_eq_true rfl) k.m ?_
        rw [hs]
        refine rk_if_eq 54 dR_input_45 (by decide) (fun q_45 => ?_) (fun q_45 => ?_)
        · refine rk_aload_n dR_input_54 rfl ?_
          refine rk_getf fR_106 dR_input_55 k.m rfl ?_
          refine rk_bipush (v := 14) dR_input_58 (by decide) ?_
          refine rk_icmp_ne 69 dR_input_60 (by decide) (fun q_60 => ?_) (fun q_60 => ?_)
          · have hgg : (btB x 1 4 && btB y 1 4 && btB z 1 8 && dsB sc) = true := by simp_all [b2i]
            obtain ⟨x, ⟨x1, x2⟩, rfl⟩ := bt1K (m := 4) (by omega) (btB_iff.mp (b2n q_13))
            obtain ⟨y, ⟨y1, y2⟩, rfl⟩ := bt1K (m := 4) (by omega) (btB_iff.mp (b2n q_24))
            obtain ⟨z, ⟨z1, z2⟩, rfl⟩ := bt1K (m := 8) (by omega) (btB_iff.mp (b2n q_36))
            have hno := hno (mt n14.mpr q_60)
            refine rk_aload_n dR_input_69 rfl ?_
            refine rk_iconst (v := 0) dR_input_70 (by decide) ?_
            refine rk_iconst (v := -1) dR_input_71 (by decide) ?_
            refine rk_iconst (v := -1) dR_input_72 (by decide) ?_
            refine rk_iload_n dR_input_73 rfl ?_
            refine rk_iload_n dR_input_74 rfl ?_
            refine rk_iload_n dR_input_75 rfl ?_
            refine rk_dload dR_input_76 rfl ?_
            refine rk_cvV (c_R_mk b A Y k 0 none none x y z sc hno (by omega) rfl rfl rfl rfl rfl rfl) cR_113 dR_input_78 rfl lR_make (Nat.le_of_ble_eq_true rfl) (Nat.le_of_ble_eq_true rfl) (Nat.le_of_ble_eq_true rfl) (Nat.le_of_ble_eq_true rfl) k.m ?_
            refine rk_pop dR_input_81 rfl ?_
            refine rk_aload_n dR_input_82 rfl ?_
            refine rk_iconst (v := 0) dR_input_83 (by decide) ?_
            refine rk_iconst (v := 0) dR_input_84 (by decide) ?_
            refine rk_iconst (v := 0) dR_input_85 (by decide) ?_
            refine rk_iconst (v := 0) dR_input_86 (by decide) ?_
            refine rk_cvV (c_R_fin b A (Y.mkd 0 none none x y z sc) k 0 0 0 0 mkd_no hno rfl rfl) cR_117 dR_input_87 rfl lR_finish (Nat.le_of_ble_eq_true rfl) (Nat.le_of_ble_eq_true rfl) (Nat.le_of_ble_eq_true rfl) (Nat.le_of_ble_eq_true rfl) k.m ?_
            exact rk_iret rfl dR_input_90 ⟨(Nat.le_of_ble_eq_true rfl), (Nat.le_of_ble_eq_true rfl)⟩ (rPo.ps kY hfa (mk2_0 hgg (mt n14.mpr q_60)) (by rw [tN_I (show x < 2 ^ 31 by omega), tN_I (show y < 2 ^ 31 by omega), tN_I (show z < 2 ^ 31 by omega)]; rfl))
          · refine rk_aload_n dR_input_63 rfl ?_
            refine rk_iconst (v := 2) dR_input_64 (by decide) ?_
            refine rk_cvV (c_R_fail b A Y k 2) cR_98 dR_input_65 rfl lR_fail (Nat.le_of_ble_eq_true rfl) (Nat.le_of_ble_eq_true rfl) (Nat.le_of_ble_eq_true rfl) (Nat.le_of_ble_eq_true rfl) k.m ?_
            exact rk_iret rfl dR_input_68 ⟨(Nat.le_of_ble_eq_true rfl), (Nat.le_of_ble_eq_true rfl)⟩ (rPo.fl (c := 2) kY (mk2_2 (by simp_all [b2i]) (n14.mp q_60)) (by decide))
        · refine rk_aload_n dR_input_48 rfl ?_
          refine rk_iconst (v := 1) dR_input_49 (by decide) ?_
          refine rk_cvV (c_R_fail b A Y k 1) cR_98 dR_input_50 rfl lR_fail (Nat.le_of_ble_eq_true rfl) (Nat.le_of_ble_eq_true rfl) (Nat.le_of_ble_eq_true rfl) (Nat.le_of_ble_eq_true rfl) k.m ?_
          exact rk_iret rfl dR_input_53 ⟨(Nat.le_of_ble_eq_true rfl), (Nat.le_of_ble_eq_true rfl)⟩ (rPo.fl (c := 1) kY (mk2_1 (fun hh => by simp only [Bool.and_eq_true, decide_eq_true_eq] at hh; simp_all [b2i, tN_I])) (by decide))
theorem c_R_reshape (b : rk_H) (A : Nat → Nat) (X : rX) (s : aS) (k : rA A) (kX : rOK X s) (ok : aOK s) (p x y z : Int32) : rk_Con mR_reshape (1, 21, 0, 0) [.ref (A 0), .int p, .int x, .int y, .int z] (rv b A X) (rPo b A (some (.int 0)) (opReshape s p x y z)) := by
  have hn := ok.1.1
  have hbd := ok.1.2.1.bd
  refine rk_Con.of [some (.ref (A 0)), some (.int p), some (.int x), some (.int y), some (.int z)] rfl (Nat.le_of_ble_eq_true rfl) (by decide +kernel) ?_
  refine rk_aload_n dR_reshape_0 rfl ?_
  refine rk_iconst (v := 0) dR_reshape_1 (by decide) ?_
  refine rk_putf pR_85 dR_reshape_2 k.m (Nat.le_of_ble_eq_true rfl) rfl rfl ?_
  rw [k.ufa]
  skip
  have kY : rOK (X.wfa 0) s := kX
  have hfa : (X.wfa 0).fa = 0 := rfl
  generalize X.wfa 0 = Y at kY hfa ⊢
  have nd : ∀ x, ouB x (nI Y.no) = !ndB s x := fun x => kY.nd hn
  have n14 := kY.n14 hn
  have hno : ¬ s.n = 14 → Y.no < 14 := fun q => by rw [kY.1.2.1]; omega
  have eN := kY.1.1
  have eW := kY.1.2.2.2
  have h4 : ∀ v : Int32, ouB (v - 1) 4 = !btB v 1 4 := fun v => ou_bt (by decide)
  have h8 : ∀ v : Int32, ouB (v - 1) 8 = !btB v 1 8 := fun v => ou_bt (by decide)
  refine rk_aload_n dR_reshape_5 rfl ?_
  refine rk_iload_n dR_reshape_6 rfl ?_
  refine rk_aload_n dR_reshape_7 rfl ?_
  refine rk_getf fR_106 dR_reshape_8 k.m rfl ?_
  refine rk_cvV (c_R_out b A Y p (nI Y.no)) cR_94 dR_reshape_11 rfl lR_out (Nat.le_of_ble_eq_true rfl) (Nat.le_of_ble_eq_true rfl) (Nat.le_of_ble_eq_true rfl) (Nat.le_of_ble_eq_true rfl) k.m ?_
  rw [nd]
  refine rk_if_ne 66 dR_reshape_14 (by decide) (fun q_14 => ?_) (fun q_14 => ?_)
  · refine rk_aload_n dR_reshape_66 rfl ?_
    refine rk_iconst (v := 1) dR_reshape_67 (by decide) ?_
    refine rk_cvV (c_R_fail b A Y k 1) cR_98 dR_reshape_68 rfl lR_fail (Nat.le_of_ble_eq_true rfl) (Nat.le_of_ble_eq_true rfl) (Nat.le_of_ble_eq_true rfl) (Nat.le_of_ble_eq_true rfl) k.m ?_
    exact rk_iret rfl dR_reshape_71 ⟨(Nat.le_of_ble_eq_true rfl), (Nat.le_of_ble_eq_true rfl)⟩ (rPo.fl (c := 1) kY (mk2_1 (fun hh => by simp only [Bool.and_eq_true, decide_eq_true_eq] at hh; simp_all [b2i, tN_I])) (by decide))
  · obtain ⟨j, hj, rfl⟩ := ndB_of hn (b2n q_14)
    have htj : tN (nI j) = j := tN_I (by omega)
    refine rk_aload_n dR_reshape_17 rfl ?_
    refine rk_iload_n dR_reshape_18 rfl ?_
    refine rk_iconst (v := 1) dR_reshape_19 (by decide) ?_
    refine rk_isub dR_reshape_20 ?_
    refine rk_iconst (v := 4) dR_reshape_21 (by decide) ?_
    refine rk_cvV (c_R_out b A Y (x - 1) 4) cR_94 dR_reshape_22 rfl lR_out (Nat.le_of_ble_eq_true rfl) (Nat.le_of_ble_eq_true rfl) (Nat.le_of_ble_eq_true rfl) (Nat.le_of_ble_eq_true rfl) k.m ?_
    rw [h4]
    refine rk_if_ne 66 dR_reshape_25 (by decide) (fun q_25 => ?_) (fun q_25 => ?_)
    · refine rk_aload_n dR_reshape_66 rfl ?_
      refine rk_iconst (v := 1) dR_reshape_67 (by decide) ?_
      refine rk_cvV (c_R_fail b A Y k 1) cR_98 dR_reshape_68 rfl lR_fail (Nat.le_of_ble_eq_true rfl) (Nat.le_of_ble_eq_true rfl) (Nat.le_of_ble_eq_true rfl) (Nat.le_of_ble_eq_true rfl) k.m ?_
      exact rk_iret rfl dR_reshape_71 ⟨(Nat.le_of_ble_eq_true rfl), (Nat.le_of_ble_eq_true rfl)⟩ (rPo.fl (c := 1) kY (mk2_1 (fun hh => by simp only [Bool.and_eq_true, decide_eq_true_eq] at hh; simp_all [b2i, tN_I])) (by decide))
    · refine rk_aload_n dR_reshape_28 rfl ?_
      refine rk_iload_n dR_reshape_29 rfl ?_
      refine rk_iconst (v := 1) dR_reshape_30 (by decide) ?_
      refine rk_isub dR_reshape_31 ?_
      refine rk_iconst (v := 4) dR_reshape_32 (by decide) ?_
      refine rk_cvV (c_R_out b A Y (y - 1) 4) cR_94 dR_reshape_33 rfl lR_out (Nat.le_of_ble_eq_true rfl) (Nat.le_of_ble_eq_true rfl) (Nat.le_of_ble_eq_true rfl) (Nat.le_of_ble_eq_true rfl) k.m ?_
      rw [h4]
      refine rk_if_ne 66 dR_reshape_36 (by decide) (fun q_36 => ?_) (fun q_36 => ?_)
      · refine rk_aload_n dR_reshape_66 rfl ?_
        refine rk_iconst (v := 1) dR_reshape_67 (by decide) ?_
        refine rk_cvV (c_R_fail b A Y k 1) cR_98 dR_reshape_68 rfl lR_fail (Nat.le_of_ble_eq_true rfl) (Nat.le_of_ble_eq_true rfl) (Nat.le_of_ble_eq_true rfl) (Nat.le_of_ble_eq_true rfl) k.m ?_
        exact rk_iret rfl dR_reshape_71 ⟨(Nat.le_of_ble_eq_true rfl), (Nat.le_of_ble_eq_true rfl)⟩ (rPo.fl (c := 1) kY (mk2_1 (fun hh => by simp only [Bool.and_eq_true, decide_eq_true_eq] at hh; simp_all [b2i, tN_I])) (by decide))
      · refine rk_aload_n dR_reshape_39 rfl ?_
        refine rk_iload dR_reshape_40 rfl ?_
        refine rk_iconst (v := 1) dR_reshape_42 (by decide) ?_
        refine rk_isub dR_reshape_43 ?_
        refine rk_bipush (v := 8) dR_reshape_44 (by decide) ?_
        refine rk_cvV (c_R_out b A Y (z - 1) 8) cR_94 dR_reshape_46 rfl lR_out (Nat.le_of_ble_eq_true rfl) (Nat.le_of_ble_eq_true rfl) (Nat.le_of_ble_eq_true rfl) (Nat.le_of_ble_eq_true rfl) k.m ?_
        rw [h8]
        refine rk_if_ne 66 dR_reshape_49 (by decide) (fun q_49 => ?_) (fun q_49 => ?_)
        · refine rk_aload_n dR_reshape_66 rfl ?_
          refine rk_iconst (v := 1) dR_reshape_67 (by decide) ?_
          refine rk_cvV (c_R_fail b A Y k 1) cR_98 dR_reshape_68 rfl lR_fail (Nat.le_of_ble_eq_true rfl) (Nat.le_of_ble_eq_true rfl) (Nat.le_of_ble_eq_true rfl) (Nat.le_of_ble_eq_true rfl) k.m ?_
          exact rk_iret rfl dR_reshape_71 ⟨(Nat.le_of_ble_eq_true rfl), (Nat.le_of_ble_eq_true rfl)⟩ (rPo.fl (c := 1) kY (mk2_1 (fun hh => by simp only [Bool.and_eq_true, decide_eq_true_eq] at hh; simp_all [b2i, tN_I])) (by decide))
        · refine rk_iload_n dR_reshape_52 rfl ?_
          refine rk_iload_n dR_reshape_53 rfl ?_
          refine rk_imul dR_reshape_54 ?_
          refine rk_iload dR_reshape_55 rfl ?_
          refine rk_imul dR_reshape_57 ?_
          refine rk_aload_n dR_reshape_58 rfl ?_
          refine rk_iload_n dR_reshape_59 rfl ?_
          refine rk_cvV (c_R_cells b A Y k j (by omega)) cR_137 dR_reshape_60 rfl lR_cells (Nat.le_of_ble_eq_true rfl) (Nat.le_of_ble_eq_true rfl) (Nat.le_of_ble_eq_true rfl) (Nat.le_of_ble_eq_true rfl) k.m ?_
          rw [eN]
          refine rk_icmp_eq 72 dR_reshape_63 (by decide) (fun q_63 => ?_) (fun q_63 => ?_)
          · refine rk_aload_n dR_reshape_72 rfl ?_
            refine rk_getf fR_106 dR_reshape_73 k.m rfl ?_
            refine rk_bipush (v := 14) dR_reshape_76 (by decide) ?_
            refine rk_icmp_ne 87 dR_reshape_78 (by decide) (fun q_78 => ?_) (fun q_78 => ?_)
            · have hgg : (ndB s (nI j) && (btB x 1 4 && btB y 1 4 && btB z 1 8) && decide (x * y * z = nI (s.N (tN (nI j))).ce)) = true := by simp_all [b2i]
              obtain ⟨x, ⟨x1, x2⟩, rfl⟩ := bt1K (m := 4) (by omega) (btB_iff.mp (b2n q_25))
              obtain ⟨y, ⟨y1, y2⟩, rfl⟩ := bt1K (m := 4) (by omega) (btB_iff.mp (b2n q_36))
              obtain ⟨z, ⟨z1, z2⟩, rfl⟩ := bt1K (m := 8) (by omega) (btB_iff.mp (b2n q_49))
              have hno := hno (mt n14.mpr q_78)
              refine rk_aload_n dR_reshape_87 rfl ?_
              refine rk_bipush (v := 6) dR_reshape_88 (by decide) ?_
              refine rk_iload_n dR_reshape_90 rfl ?_
              refine rk_iconst (v := -1) dR_reshape_91 (by decide) ?_
              refine rk_iload_n dR_reshape_92 rfl ?_
              refine rk_iload_n dR_reshape_93 rfl ?_
              refine rk_iload dR_reshape_94 rfl ?_
              refine rk_aload_n dR_reshape_96 rfl ?_
              refine rk_getf fR_35 dR_reshape_97 k.m rfl ?_
              refine rk_iload_n dR_reshape_100 rfl ?_
              refine rk_dald dR_reshape_101 k.sc (vp_in_nI (show j < 14 by omega) (by omega)) ?_
              rw [nI_clamp (show j < 2 ^ 31 by omega), eN]
              refine rk_cvV (c_R_mk b A Y k 6 (some j) none x y z (s.N j).sc hno (by omega) rfl rfl rfl rfl rfl rfl) cR_113 dR_reshape_102 rfl lR_make (Nat.le_of_ble_eq_true rfl) (Nat.le_of_ble_eq_true rfl) (Nat.le_of_ble_eq_true rfl) (Nat.le_of_ble_eq_true rfl) k.m ?_
              refine rk_pop dR_reshape_105 rfl ?_
              refine rk_aload_n dR_reshape_106 rfl ?_
              refine rk_iconst (v := 0) dR_reshape_107 (by decide) ?_
              refine rk_iconst (v := 0) dR_reshape_108 (by decide) ?_
              refine rk_iconst (v := 0) dR_reshape_109 (by decide) ?_
              refine rk_iconst (v := 0) dR_reshape_110 (by decide) ?_
              refine rk_cvV (c_R_fin b A (Y.mkd 6 (some j) none x y z (s.N j).sc) k 0 0 0 0 mkd_no hno rfl rfl) cR_117 dR_reshape_111 rfl lR_finish (Nat.le_of_ble_eq_true rfl) (Nat.le_of_ble_eq_true rfl) (Nat.le_of_ble_eq_true rfl) (Nat.le_of_ble_eq_true rfl) k.m ?_
              exact rk_iret rfl dR_reshape_114 ⟨(Nat.le_of_ble_eq_true rfl), (Nat.le_of_ble_eq_true rfl)⟩ (rPo.ps kY hfa (mk2_0 hgg (mt n14.mpr q_78)) (by rw [htj, tN_I (show x < 2 ^ 31 by omega), tN_I (show y < 2 ^ 31 by omega), tN_I (show z < 2 ^ 31 by omega)]; rfl))
            · refine rk_aload_n dR_reshape_81 rfl ?_
              refine rk_iconst (v := 2) dR_reshape_82 (by decide) ?_
              refine rk_cvV (c_R_fail b A Y k 2) cR_98 dR_reshape_83 rfl lR_fail (Nat.le_of_ble_eq_true rfl) (Nat.le_of_ble_eq_true rfl) (Nat.le_of_ble_eq_true rfl) (Nat.le_of_ble_eq_true rfl) k.m ?_
              exact rk_iret rfl dR_reshape_86 ⟨(Nat.le_of_ble_eq_true rfl), (Nat.le_of_ble_eq_true rfl)⟩ (rPo.fl (c := 2) kY (mk2_2 (by simp_all [b2i]) (n14.mp q_78)) (by decide))
          · refine rk_aload_n dR_reshape_66 rfl ?_
            refine rk_iconst (v := 1) dR_reshape_67 (by decide) ?_
            refine rk_cvV (c_R_fail b A Y k 1) cR_98 dR_reshape_68 rfl lR_fail (Nat.le_of_ble_eq_true rfl) (Nat.le_of_ble_eq_true rfl) (Nat.le_of_ble_eq_true rfl) (Nat.le_of_ble_eq_true rfl) k.m ?_
            exact rk_iret rfl dR_reshape_71 ⟨(Nat.le_of_ble_eq_true rfl), (Nat.le_of_ble_eq_true rfl)⟩ (rPo.fl (c := 1) kY (mk2_1 (fun hh => by simp only [Bool.and_eq_true, decide_eq_true_eq] at hh; simp_all [b2i, tN_I])) (by decide))
theorem c_R_clamp (b : rk_H) (A : Nat → Nat) (X : rX) (s : aS) (k : rA A) (kX : rOK X s) (ok : aOK s) (p lo hi : Int32) : rk_Con mR_clamp (1, 21, 0, 0) [.ref (A 0), .int p, .int lo, .int hi] (rv b A X) (rPo b A (some (.int 0)) (opClamp s p lo hi)) := by
  have hn := ok.1.1
  have hbd := ok.1.2.1.bd
  refine rk_Con.of [some (.ref (A 0)), some (.int p), some (.int lo), some (.int hi)] rfl (Nat.le_of_ble_eq_true rfl) (by decide +kernel) ?_
  refine rk_aload_n dR_clamp_0 rfl ?_
  refine rk_iconst (v := 0) dR_clamp_1 (by decide) ?_
  refine rk_putf pR_85 dR_clamp_2 k.m (Nat.le_of_ble_eq_true rfl) rfl rfl ?_
  rw [k.ufa]
  skip
  have kY : rOK (X.wfa 0) s := kX
  have hfa : (X.wfa 0).fa = 0 := rfl
  generalize X.wfa 0 = Y at kY hfa ⊢
  have nd : ∀ x, ouB x (nI Y.no) = !ndB s x := fun x => kY.nd hn
  have n14 := kY.n14 hn
  have hno : ¬ s.n = 14 → Y.no < 14 := fun q => by rw [kY.1.2.1]; omega
  have eN := kY.1.1
  have eW := kY.1.2.2.2
  have eb : ∀ v a c : Int32, btB v a c = (decide (a ≤ v) && decide (v ≤ c)) := fun _ _ _ => rfl
  refine rk_aload_n dR_clamp_5 rfl ?_
  refine rk_iload_n dR_clamp_6 rfl ?_
  refine rk_aload_n dR_clamp_7 rfl ?_
  refine rk_getf fR_106 dR_clamp_8 k.m rfl ?_
  refine rk_cvV (c_R_out b A Y p (nI Y.no)) cR_94 dR_clamp_11 rfl lR_out (Nat.le_of_ble_eq_true rfl) (Nat.le_of_ble_eq_true rfl) (Nat.le_of_ble_eq_true rfl) (Nat.le_of_ble_eq_true rfl) k.m ?_
  rw [nd]
  refine rk_if_ne 34 dR_clamp_14 (by decide) (fun q_14 => ?_) (fun q_14 => ?_)
  · refine rk_aload_n dR_clamp_34 rfl ?_
    refine rk_iconst (v := 1) dR_clamp_35 (by decide) ?_
    refine rk_cvV (c_R_fail b A Y k 1) cR_98 dR_clamp_36 rfl lR_fail (Nat.le_of_ble_eq_true rfl) (Nat.le_of_ble_eq_true rfl) (Nat.le_of_ble_eq_true rfl) (Nat.le_of_ble_eq_true rfl) k.m ?_
    exact rk_iret rfl dR_clamp_39 ⟨(Nat.le_of_ble_eq_true rfl), (Nat.le_of_ble_eq_true rfl)⟩ (rPo.fl (c := 1) kY (mk2_1 (fun hh => by simp only [Bool.and_eq_true, decide_eq_true_eq, eb] at hh; simp_all [b2i, Int32.not_lt, Int32.not_le]; first | done | exact absurd hh.2.1 (Int32.not_le.mpr q_20) | exact absurd hh.2.2 (Int32.not_le.mpr q_25) | exact absurd hh.1.2.2 (Int32.not_le.mpr q_31))) (by decide))
  · refine rk_iload_n dR_clamp_17 rfl ?_
    refine rk_bipush (v := -128) dR_clamp_18 (by decide) ?_
    refine rk_icmp_lt 34 dR_clamp_20 (by decide) (fun q_20 => ?_) (fun q_20 => ?_)
    · refine rk_aload_n dR_clamp_34 rfl ?_
      refine rk_iconst (v := 1) dR_clamp_35 (by decide) ?_
      refine rk_cvV (c_R_fail b A Y k 1) cR_98 dR_clamp_36 rfl lR_fail (Nat.le_of_ble_eq_true rfl) (Nat.le_of_ble_eq_true rfl) (Nat.le_of_ble_eq_true rfl) (Nat.le_of_ble_eq_true rfl) k.m ?_
      exact rk_iret rfl dR_clamp_39 ⟨(Nat.le_of_ble_eq_true rfl), (Nat.le_of_ble_eq_true rfl)⟩ (rPo.fl (c := 1) kY (mk2_1 (fun hh => by simp only [Bool.and_eq_true, decide_eq_true_eq, eb] at hh; simp_all [b2i, Int32.not_lt, Int32.not_le]; first | done | exact absurd hh.2.1 (Int32.not_le.mpr q_20) | exact absurd hh.2.2 (Int32.not_le.mpr q_25) | exact absurd hh.1.2.2 (Int32.not_le.mpr q_31))) (by decide))
    · refine rk_iload_n dR_clamp_23 rfl ?_
      refine rk_iload_n dR_clamp_24 rfl ?_
      refine rk_icmp_lt 34 dR_clamp_25 (by decide) (fun q_25 => ?_) (fun q_25 => ?_)
      · refine rk_aload_n dR_clamp_34 rfl ?_
        refine rk_iconst (v := 1) dR_clamp_35 (by decide) ?_
        refine rk_cvV (c_R_fail b A Y k 1) cR_98 dR_clamp_36 rfl lR_fail (Nat.le_of_ble_eq_true rfl) (Nat.le_of_ble_eq_true rfl) (Nat.le_of_ble_eq_true rfl) (Nat.le_of_ble_eq_true rfl) k.m ?_
        exact rk_iret rfl dR_clamp_39 ⟨(Nat.le_of_ble_eq_true rfl), (Nat.le_of_ble_eq_true rfl)⟩ (rPo.fl (c := 1) kY (mk2_1 (fun hh => by simp only [Bool.and_eq_true, decide_eq_true_eq, eb] at hh; simp_all [b2i, Int32.not_lt, Int32.not_le]; first | done | exact absurd hh.2.1 (Int32.not_le.mpr q_20) | exact absurd hh.2.2 (Int32.not_le.mpr q_25) | exact absurd hh.1.2.2 (Int32.not_le.mpr q_31))) (by decide))
      · refine rk_iload_n dR_clamp_28 rfl ?_
        refine rk_bipush (v := 127) dR_clamp_29 (by decide) ?_
        refine rk_icmp_le 40 dR_clamp_31 (by decide) (fun q_31 => ?_) (fun q_31 => ?_)
        · have hgg : (ndB s p && btB hi (-128) 127 && btB lo (-128) hi) = true := by rw [b2n q_14]; exact and2.mpr ⟨and2.mpr ⟨rfl, btB_iff.mpr ⟨Int32.le_trans (Int32.not_lt.mp q_20) (Int32.not_lt.mp q_25), q_31⟩⟩, btB_iff.mpr ⟨Int32.not_lt.mp q_20, Int32.not_lt.mp q_25⟩⟩
          refine rk_aload_n dR_clamp_40 rfl ?_
          refine rk_getf fR_106 dR_clamp_41 k.m rfl ?_
          refine rk_bipush (v := 14) dR_clamp_44 (by decide) ?_
          refine rk_icmp_ne 55 dR_clamp_46 (by decide) (fun q_46 => ?_) (fun q_46 => ?_)
          · obtain ⟨j, hj, rfl⟩ := ndB_of hn (b2n q_14)
            have htj : tN (nI j) = j := tN_I (by omega)
            have hno := hno (mt n14.mpr q_46)
            refine rk_aload_n dR_clamp_55 rfl ?_
            refine rk_bipush (v := 9) dR_clamp_56 (by decide) ?_
            refine rk_iload_n dR_clamp_58 rfl ?_
            refine rk_iconst (v := -1) dR_clamp_59 (by decide) ?_
            refine rk_aload_n dR_clamp_60 rfl ?_
            refine rk_getf fR_26 dR_clamp_61 k.m rfl ?_
            refine rk_iload_n dR_clamp_64 rfl ?_
            refine rk_iald dR_clamp_65 k.hi (vp_in_nI (show j < 14 by omega) (by omega)) ?_
            rw [nI_clamp (show j < 2 ^ 31 by omega), eN]
            refine rk_aload_n dR_clamp_66 rfl ?_
            refine rk_getf fR_29 dR_clamp_67 k.m rfl ?_
            refine rk_iload_n dR_clamp_70 rfl ?_
            refine rk_iald dR_clamp_71 k.wi (vp_in_nI (show j < 14 by omega) (by omega)) ?_
            rw [nI_clamp (show j < 2 ^ 31 by omega), eN]
            refine rk_aload_n dR_clamp_72 rfl ?_
            refine rk_getf fR_32 dR_clamp_73 k.m rfl ?_
            refine rk_iload_n dR_clamp_76 rfl ?_
            refine rk_iald dR_clamp_77 k.de (vp_in_nI (show j < 14 by omega) (by omega)) ?_
            rw [nI_clamp (show j < 2 ^ 31 by omega), eN]
            refine rk_aload_n dR_clamp_78 rfl ?_
            refine rk_getf fR_35 dR_clamp_79 k.m rfl ?_
            refine rk_iload_n dR_clamp_82 rfl ?_
            refine rk_dald dR_clamp_83 k.sc (vp_in_nI (show j < 14 by omega) (by omega)) ?_
            rw [nI_clamp (show j < 2 ^ 31 by omega), eN]
            refine rk_cvV (c_R_mk b A Y k 9 (some j) none (s.N j).h (s.N j).w (s.N j).c (s.N j).sc hno (by omega) rfl rfl rfl rfl rfl rfl) cR_113 dR_clamp_84 rfl lR_make (Nat.le_of_ble_eq_true rfl) (Nat.le_of_ble_eq_true rfl) (Nat.le_of_ble_eq_true rfl) (Nat.le_of_ble_eq_true rfl) k.m ?_
            refine rk_pop dR_clamp_87 rfl ?_
            refine rk_aload_n dR_clamp_88 rfl ?_
            refine rk_iconst (v := 0) dR_clamp_89 (by decide) ?_
            refine rk_iconst (v := 0) dR_clamp_90 (by decide) ?_
            refine rk_iload_n dR_clamp_91 rfl ?_
            refine rk_iload_n dR_clamp_92 rfl ?_
            refine rk_cvV (c_R_fin b A (Y.mkd 9 (some j) none (s.N j).h (s.N j).w (s.N j).c (s.N j).sc) k 0 0 lo hi mkd_no hno rfl rfl) cR_117 dR_clamp_93 rfl lR_finish (Nat.le_of_ble_eq_true rfl) (Nat.le_of_ble_eq_true rfl) (Nat.le_of_ble_eq_true rfl) (Nat.le_of_ble_eq_true rfl) k.m ?_
            exact rk_iret rfl dR_clamp_96 ⟨(Nat.le_of_ble_eq_true rfl), (Nat.le_of_ble_eq_true rfl)⟩ (rPo.ps kY hfa (mk2_0 hgg (mt n14.mpr q_46)) (by rw [htj]; rfl))
          · refine rk_aload_n dR_clamp_49 rfl ?_
            refine rk_iconst (v := 2) dR_clamp_50 (by decide) ?_
            refine rk_cvV (c_R_fail b A Y k 2) cR_98 dR_clamp_51 rfl lR_fail (Nat.le_of_ble_eq_true rfl) (Nat.le_of_ble_eq_true rfl) (Nat.le_of_ble_eq_true rfl) (Nat.le_of_ble_eq_true rfl) k.m ?_
            exact rk_iret rfl dR_clamp_54 ⟨(Nat.le_of_ble_eq_true rfl), (Nat.le_of_ble_eq_true rfl)⟩ (rPo.fl (c := 2) kY (mk2_2 hgg (n14.mp q_46)) (by decide))
        · refine rk_aload_n dR_clamp_34 rfl ?_
          refine rk_iconst (v := 1) dR_clamp_35 (by decide) ?_
          refine rk_cvV (c_R_fail b A Y k 1) cR_98 dR_clamp_36 rfl lR_fail (Nat.le_of_ble_eq_true rfl) (Nat.le_of_ble_eq_true rfl) (Nat.le_of_ble_eq_true rfl) (Nat.le_of_ble_eq_true rfl) k.m ?_
          exact rk_iret rfl dR_clamp_39 ⟨(Nat.le_of_ble_eq_true rfl), (Nat.le_of_ble_eq_true rfl)⟩ (rPo.fl (c := 1) kY (mk2_1 (fun hh => by simp only [Bool.and_eq_true, decide_eq_true_eq, eb] at hh; simp_all [b2i, Int32.not_lt, Int32.not_le]; first | done | exact absurd hh.2.1 (Int32.not_le.mpr q_20) | exact absurd hh.2.2 (Int32.not_le.mpr q_25) | exact absurd hh.1.2.2 (Int32.not_le.mpr q_31))) (by decide))
theorem c_R_rescale (b : rk_H) (A : Nat → Nat) (X : rX) (s : aS) (k : rA A) (kX : rOK X s) (ok : aOK s) (p : Int32) (sc : UInt64) (hs : badS sc = !dsB sc) : rk_Con mR_rescale (1, 21, 0, 0) [.ref (A 0), .int p, .double sc] (rv b A X) (rPo b A (some (.int 0)) (opRescale s p sc)) := by
  have hn := ok.1.1
  have hbd := ok.1.2.1.bd
  refine rk_Con.of [some (.ref (A 0)), some (.int p), some (.double sc), none] rfl (Nat.le_of_ble_eq_true rfl) (by decide +kernel) ?_
  refine rk_aload_n dR_rescale_0 rfl ?_
  refine rk_iconst (v := 0) dR_rescale_1 (by decide) ?_
  refine rk_putf pR_85 dR_rescale_2 k.m (Nat.le_of_ble_eq_true rfl) rfl rfl ?_
  rw [k.ufa]
  skip
  have kY : rOK (X.wfa 0) s := kX
  have hfa : (X.wfa 0).fa = 0 := rfl
  generalize X.wfa 0 = Y at kY hfa ⊢
  have nd : ∀ x, ouB x (nI Y.no) = !ndB s x := fun x => kY.nd hn
  have n14 := kY.n14 hn
  have hno : ¬ s.n = 14 → Y.no < 14 := fun q => by rw [kY.1.2.1]; omega
  have eN := kY.1.1
  have eW := kY.1.2.2.2
  refine rk_aload_n dR_rescale_5 rfl ?_
  refine rk_iload_n dR_rescale_6 rfl ?_
  refine rk_aload_n dR_rescale_7 rfl ?_
  refine rk_getf fR_106 dR_rescale_8 k.m rfl ?_
  refine rk_cvV (c_R_out b A Y p (nI Y.no)) cR_94 dR_rescale_11 rfl lR_out (Nat.le_of_ble_eq_true rfl) (Nat.le_of_ble_eq_true rfl) (Nat.le_of_ble_eq_true rfl) (Nat.le_of_ble_eq_true rfl) k.m ?_
  rw [nd]
  refine rk_if_ne 25 dR_rescale_14 (by decide) (fun q_14 => ?_) (fun q_14 => ?_)
  · refine rk_aload_n dR_rescale_25 rfl ?_
    refine rk_iconst (v := 1) dR_rescale_26 (by decide) ?_
    refine rk_cvV (c_R_fail b A Y k 1) cR_98 dR_rescale_27 rfl lR_fail (Nat.le_of_ble_eq_true rfl) (Nat.le_of_ble_eq_true rfl) (Nat.le_of_ble_eq_true rfl) (Nat.le_of_ble_eq_true rfl) k.m ?_
    exact rk_iret rfl dR_rescale_30 ⟨(Nat.le_of_ble_eq_true rfl), (Nat.le_of_ble_eq_true rfl)⟩ (rPo.fl (c := 1) kY (mk3_1 (fun hh => by simp only [Bool.and_eq_true, decide_eq_true_eq] at hh; simp_all [b2i, tN_I])) (by decide))
  · refine rk_aload_n dR_rescale_17 rfl ?_
    refine rk_dload_n dR_rescale_18 rfl ?_
    refine rk_cvV (c_R_badScale b A Y sc) cR_102 dR_rescale_19 rfl lR_badScale (Nat.le_of_ble_eq_true rfl) (Nat.le_of_ble_eq_true rfl) (Nat.le_of_ble_eq_true rfl) (Nat.le_of_ble_eq_true rfl) k.m ?_
    rw [hs]
    refine rk_if_eq 31 dR_rescale_22 (by decide) (fun q_22 => ?_) (fun q_22 => ?_)
    · have hgg : (ndB s p && dsB sc) = true := by simp_all [b2i]
      obtain ⟨j, hj, rfl⟩ := ndB_of hn (b2n q_14)
      have htj : tN (nI j) = j := tN_I (by omega)
      have hsc := d_scl_iff.mp (dsB_iff.mp (b2n q_22))
      refine rk_aload_n dR_rescale_31 rfl ?_
      refine rk_aload_n dR_rescale_32 rfl ?_
      refine rk_getf fR_35 dR_rescale_33 k.m rfl ?_
      refine rk_iload_n dR_rescale_36 rfl ?_
      refine rk_dald dR_rescale_37 k.sc (vp_in_nI (show j < 14 by omega) (by omega)) ?_
      rw [nI_clamp (show j < 2 ^ 31 by omega), eN]
      refine rk_dload_n dR_rescale_38 rfl ?_
      refine rk_ddiv dR_rescale_39 (fp_rat2 (hbd j hj).2.1 hsc) ?_
      refine rk_cvV (c_R_badRatio b A Y (FP.ddiv (s.N j).sc sc)) cR_134 dR_rescale_40 rfl lR_badRatio (Nat.le_of_ble_eq_true rfl) (Nat.le_of_ble_eq_true rfl) (Nat.le_of_ble_eq_true rfl) (Nat.le_of_ble_eq_true rfl) k.m ?_
      refine rk_if_eq 52 dR_rescale_43 (by decide) (fun q_43 => ?_) (fun q_43 => ?_)
      · refine rk_aload_n dR_rescale_52 rfl ?_
        refine rk_getf fR_106 dR_rescale_53 k.m rfl ?_
        refine rk_bipush (v := 14) dR_rescale_56 (by decide) ?_
        refine rk_icmp_ne 67 dR_rescale_58 (by decide) (fun q_58 => ?_) (fun q_58 => ?_)
        · have hno := hno (mt n14.mpr q_58)
          refine rk_aload_n dR_rescale_67 rfl ?_
          refine rk_bipush (v := 10) dR_rescale_68 (by decide) ?_
          refine rk_iload_n dR_rescale_70 rfl ?_
          refine rk_iconst (v := -1) dR_rescale_71 (by decide) ?_
          refine rk_aload_n dR_rescale_72 rfl ?_
          refine rk_getf fR_26 dR_rescale_73 k.m rfl ?_
          refine rk_iload_n dR_rescale_76 rfl ?_
          refine rk_iald dR_rescale_77 k.hi (vp_in_nI (show j < 14 by omega) (by omega)) ?_
          rw [nI_clamp (show j < 2 ^ 31 by omega), eN]
          refine rk_aload_n dR_rescale_78 rfl ?_
          refine rk_getf fR_29 dR_rescale_79 k.m rfl ?_
          refine rk_iload_n dR_rescale_82 rfl ?_
          refine rk_iald dR_rescale_83 k.wi (vp_in_nI (show j < 14 by omega) (by omega)) ?_
          rw [nI_clamp (show j < 2 ^ 31 by omega), eN]
          refine rk_aload_n dR_rescale_84 rfl ?_
          refine rk_getf fR_32 dR_rescale_85 k.m rfl ?_
          refine rk_iload_n dR_rescale_88 rfl ?_
          refine rk_iald dR_rescale_89 k.de (vp_in_nI (show j < 14 by omega) (by omega)) ?_
          rw [nI_clamp (show j < 2 ^ 31 by omega), eN]
          refine rk_dload_n dR_rescale_90 rfl ?_
          refine rk_cvV (c_R_mk b A Y k 10 (some j) none (s.N j).h (s.N j).w (s.N j).c sc hno (by omega) rfl rfl rfl rfl rfl rfl) cR_113 dR_rescale_91 rfl lR_make (Nat.le_of_ble_eq_true rfl) (Nat.le_of_ble_eq_true rfl) (Nat.le_of_ble_eq_true rfl) (Nat.le_of_ble_eq_true rfl) k.m ?_
          refine rk_pop dR_rescale_94 rfl ?_
          refine rk_aload_n dR_rescale_95 rfl ?_
          refine rk_iconst (v := 0) dR_rescale_96 (by decide) ?_
          refine rk_iconst (v := 0) dR_rescale_97 (by decide) ?_
          refine rk_iconst (v := 0) dR_rescale_98 (by decide) ?_
          refine rk_iconst (v := 0) dR_rescale_99 (by decide) ?_
          refine rk_cvV (c_R_fin b A (Y.mkd 10 (some j) none (s.N j).h (s.N j).w (s.N j).c sc) k 0 0 0 0 mkd_no hno rfl rfl) cR_117 dR_rescale_100 rfl lR_finish (Nat.le_of_ble_eq_true rfl) (Nat.le_of_ble_eq_true rfl) (Nat.le_of_ble_eq_true rfl) (Nat.le_of_ble_eq_true rfl) k.m ?_
          exact rk_iret rfl dR_rescale_103 ⟨(Nat.le_of_ble_eq_true rfl), (Nat.le_of_ble_eq_true rfl)⟩ (rPo.ps kY hfa (mk3_0 hgg (by rw [htj]; exact b2n q_43) (mt n14.mpr q_58)) (by rw [htj]; rfl))
        · refine rk_aload_n dR_rescale_61 rfl ?_
          refine rk_iconst (v := 3) dR_rescale_62 (by decide) ?_
          refine rk_cvV (c_R_fail b A Y k 3) cR_98 dR_rescale_63 rfl lR_fail (Nat.le_of_ble_eq_true rfl) (Nat.le_of_ble_eq_true rfl) (Nat.le_of_ble_eq_true rfl) (Nat.le_of_ble_eq_true rfl) k.m ?_
          exact rk_iret rfl dR_rescale_66 ⟨(Nat.le_of_ble_eq_true rfl), (Nat.le_of_ble_eq_true rfl)⟩ (rPo.fl (c := 3) kY (mk3_3 hgg (by rw [htj]; exact b2n q_43) (n14.mp q_58)) (by decide))
      · refine rk_aload_n dR_rescale_46 rfl ?_
        refine rk_iconst (v := 2) dR_rescale_47 (by decide) ?_
        refine rk_cvV (c_R_fail b A Y k 2) cR_98 dR_rescale_48 rfl lR_fail (Nat.le_of_ble_eq_true rfl) (Nat.le_of_ble_eq_true rfl) (Nat.le_of_ble_eq_true rfl) (Nat.le_of_ble_eq_true rfl) k.m ?_
        exact rk_iret rfl dR_rescale_51 ⟨(Nat.le_of_ble_eq_true rfl), (Nat.le_of_ble_eq_true rfl)⟩ (rPo.fl (c := 2) kY (mk3_2 hgg (by rw [htj]; simp_all [b2i])) (by decide))
    · refine rk_aload_n dR_rescale_25 rfl ?_
      refine rk_iconst (v := 1) dR_rescale_26 (by decide) ?_
      refine rk_cvV (c_R_fail b A Y k 1) cR_98 dR_rescale_27 rfl lR_fail (Nat.le_of_ble_eq_true rfl) (Nat.le_of_ble_eq_true rfl) (Nat.le_of_ble_eq_true rfl) (Nat.le_of_ble_eq_true rfl) k.m ?_
      exact rk_iret rfl dR_rescale_30 ⟨(Nat.le_of_ble_eq_true rfl), (Nat.le_of_ble_eq_true rfl)⟩ (rPo.fl (c := 1) kY (mk3_1 (fun hh => by simp only [Bool.and_eq_true, decide_eq_true_eq] at hh; simp_all [b2i, tN_I])) (by decide))
theorem c_R_concat (b : rk_H) (A : Nat → Nat) (X : rX) (s : aS) (k : rA A) (kX : rOK X s) (ok : aOK s) (p q : Int32) : rk_Con mR_concat (1, 21, 0, 0) [.ref (A 0), .int p, .int q] (rv b A X) (rPo b A (some (.int 0)) (opConcat s p q)) := by
  have hn := ok.1.1
  have hbd := ok.1.2.1.bd
  refine rk_Con.of [some (.ref (A 0)), some (.int p), some (.int q)] rfl (Nat.le_of_ble_eq_true rfl) (by decide +kernel) ?_
  refine rk_aload_n dR_concat_0 rfl ?_
  refine rk_iconst (v := 0) dR_concat_1 (by decide) ?_
  refine rk_putf pR_85 dR_concat_2 k.m (Nat.le_of_ble_eq_true rfl) rfl rfl ?_
  rw [k.ufa]
  skip
  have kY : rOK (X.wfa 0) s := kX
  have hfa : (X.wfa 0).fa = 0 := rfl
  generalize X.wfa 0 = Y at kY hfa ⊢
  have nd : ∀ x, ouB x (nI Y.no) = !ndB s x := fun x => kY.nd hn
  have n14 := kY.n14 hn
  have hno : ¬ s.n = 14 → Y.no < 14 := fun q => by rw [kY.1.2.1]; omega
  have eN := kY.1.1
  have eW := kY.1.2.2.2
  refine rk_aload_n dR_concat_5 rfl ?_
  refine rk_iload_n dR_concat_6 rfl ?_
  refine rk_aload_n dR_concat_7 rfl ?_
  refine rk_getf fR_106 dR_concat_8 k.m rfl ?_
  refine rk_cvV (c_R_out b A Y p (nI Y.no)) cR_94 dR_concat_11 rfl lR_out (Nat.le_of_ble_eq_true rfl) (Nat.le_of_ble_eq_true rfl) (Nat.le_of_ble_eq_true rfl) (Nat.le_of_ble_eq_true rfl) k.m ?_
  rw [nd]
  refine rk_if_ne 29 dR_concat_14 (by decide) (fun q_14 => ?_) (fun q_14 => ?_)
  · refine rk_aload_n dR_concat_29 rfl ?_
    refine rk_iconst (v := 1) dR_concat_30 (by decide) ?_
    refine rk_cvV (c_R_fail b A Y k 1) cR_98 dR_concat_31 rfl lR_fail (Nat.le_of_ble_eq_true rfl) (Nat.le_of_ble_eq_true rfl) (Nat.le_of_ble_eq_true rfl) (Nat.le_of_ble_eq_true rfl) k.m ?_
    exact rk_iret rfl dR_concat_34 ⟨(Nat.le_of_ble_eq_true rfl), (Nat.le_of_ble_eq_true rfl)⟩ (rPo.fl (c := 1) kY (mk2_1 (fun hh => by simp only [Bool.and_eq_true, decide_eq_true_eq] at hh; simp_all [b2i, tN_I])) (by decide))
  · refine rk_aload_n dR_concat_17 rfl ?_
    refine rk_iload_n dR_concat_18 rfl ?_
    refine rk_aload_n dR_concat_19 rfl ?_
    refine rk_getf fR_106 dR_concat_20 k.m rfl ?_
    refine rk_cvV (c_R_out b A Y q (nI Y.no)) cR_94 dR_concat_23 rfl lR_out (Nat.le_of_ble_eq_true rfl) (Nat.le_of_ble_eq_true rfl) (Nat.le_of_ble_eq_true rfl) (Nat.le_of_ble_eq_true rfl) k.m ?_
    rw [nd]
    refine rk_if_eq 35 dR_concat_26 (by decide) (fun q_26 => ?_) (fun q_26 => ?_)
    · obtain ⟨j, hj, rfl⟩ := ndB_of hn (b2n q_14)
      have htj : tN (nI j) = j := tN_I (by omega)
      obtain ⟨i, hi, rfl⟩ := ndB_of hn (b2n q_26)
      have hti : tN (nI i) = i := tN_I (by omega)
      have bj : bdI (Y.N j) := by rw [eN]; exact hbd j hj
      have bi : bdI (Y.N i) := by rw [eN]; exact hbd i hi
      have e8 : nI ((s.N j).c + (s.N i).c) ≤ 8 ↔ (s.N j).c + (s.N i).c ≤ 8 := nI_leI (b := 8) (by have := (hbd j hj).1.2.2.2.1; have := (hbd i hi).1.2.2.2.1; omega) (by omega)
      have hde := d_eq_iff (hbd j hj).2.1 (hbd i hi).2.1
      refine rk_aload_n dR_concat_35 rfl ?_
      refine rk_iload_n dR_concat_36 rfl ?_
      refine rk_iload_n dR_concat_37 rfl ?_
      refine rk_cvV (c_R_sameSize b A Y k j i (by omega) (by omega) bj bi) cR_140 dR_concat_38 rfl lR_sameSize (Nat.le_of_ble_eq_true rfl) (Nat.le_of_ble_eq_true rfl) (Nat.le_of_ble_eq_true rfl) (Nat.le_of_ble_eq_true rfl) k.m ?_
      rw [eN]
      refine rk_if_eq 78 dR_concat_41 (by decide) (fun q_41 => ?_) (fun q_41 => ?_)
      · refine rk_aload_n dR_concat_78 rfl ?_
        refine rk_iconst (v := 1) dR_concat_79 (by decide) ?_
        refine rk_cvV (c_R_fail b A Y k 1) cR_98 dR_concat_80 rfl lR_fail (Nat.le_of_ble_eq_true rfl) (Nat.le_of_ble_eq_true rfl) (Nat.le_of_ble_eq_true rfl) (Nat.le_of_ble_eq_true rfl) k.m ?_
        exact rk_iret rfl dR_concat_83 ⟨(Nat.le_of_ble_eq_true rfl), (Nat.le_of_ble_eq_true rfl)⟩ (rPo.fl (c := 1) kY (mk2_1 (fun hh => by rw [htj, hti] at hh; simp only [Bool.and_eq_true, decide_eq_true_eq] at hh; unfold d_eq at hde; simp_all [b2i])) (by decide))
      · refine rk_aload_n dR_concat_44 rfl ?_
        refine rk_getf fR_35 dR_concat_45 k.m rfl ?_
        refine rk_iload_n dR_concat_48 rfl ?_
        refine rk_dald dR_concat_49 k.sc (vp_in_nI (show j < 14 by omega) (by omega)) ?_
        rw [nI_clamp (show j < 2 ^ 31 by omega), eN]
        refine rk_aload_n dR_concat_50 rfl ?_
        refine rk_getf fR_35 dR_concat_51 k.m rfl ?_
        refine rk_iload_n dR_concat_54 rfl ?_
        refine rk_dald dR_concat_55 k.sc (vp_in_nI (show i < 14 by omega) (by omega)) ?_
        rw [nI_clamp (show i < 2 ^ 31 by omega), eN]
        refine rk_dcmp dR_concat_56 ?_
        refine rk_if_ne 78 dR_concat_57 (by decide) (fun q_57 => ?_) (fun q_57 => ?_)
        · refine rk_aload_n dR_concat_78 rfl ?_
          refine rk_iconst (v := 1) dR_concat_79 (by decide) ?_
          refine rk_cvV (c_R_fail b A Y k 1) cR_98 dR_concat_80 rfl lR_fail (Nat.le_of_ble_eq_true rfl) (Nat.le_of_ble_eq_true rfl) (Nat.le_of_ble_eq_true rfl) (Nat.le_of_ble_eq_true rfl) k.m ?_
          exact rk_iret rfl dR_concat_83 ⟨(Nat.le_of_ble_eq_true rfl), (Nat.le_of_ble_eq_true rfl)⟩ (rPo.fl (c := 1) kY (mk2_1 (fun hh => by rw [htj, hti] at hh; simp only [Bool.and_eq_true, decide_eq_true_eq] at hh; unfold d_eq at hde; simp_all [b2i])) (by decide))
        · refine rk_aload_n dR_concat_60 rfl ?_
          refine rk_getf fR_32 dR_concat_61 k.m rfl ?_
          refine rk_iload_n dR_concat_64 rfl ?_
          refine rk_iald dR_concat_65 k.de (vp_in_nI (show j < 14 by omega) (by omega)) ?_
          rw [nI_clamp (show j < 2 ^ 31 by omega), eN]
          refine rk_aload_n dR_concat_66 rfl ?_
          refine rk_getf fR_32 dR_concat_67 k.m rfl ?_
          refine rk_iload_n dR_concat_70 rfl ?_
          refine rk_iald dR_concat_71 k.de (vp_in_nI (show i < 14 by omega) (by omega)) ?_
          rw [nI_clamp (show i < 2 ^ 31 by omega), eN]
          refine rk_iadd dR_concat_72 ?_
          rw [nI_add]
          refine rk_bipush (v := 8) dR_concat_73 (by decide) ?_
          refine rk_icmp_le 84 dR_concat_75 (by decide) (fun q_75 => ?_) (fun q_75 => ?_)
          · have hgg : (ndB s (nI j) && ndB s (nI i) && (decide ((s.N (tN (nI j))).h = (s.N (tN (nI i))).h) && decide ((s.N (tN (nI j))).w = (s.N (tN (nI i))).w) && decide ((s.N (tN (nI j))).sc = (s.N (tN (nI i))).sc)) && decide ((s.N (tN (nI j))).c + (s.N (tN (nI i))).c ≤ 8)) = true := by rw [htj, hti]; unfold d_eq at hde; simp_all [b2i]
            refine rk_aload_n dR_concat_84 rfl ?_
            refine rk_getf fR_106 dR_concat_85 k.m rfl ?_
            refine rk_bipush (v := 14) dR_concat_88 (by decide) ?_
            refine rk_icmp_ne 99 dR_concat_90 (by decide) (fun q_90 => ?_) (fun q_90 => ?_)
            · have hno := hno (mt n14.mpr q_90)
              refine rk_aload_n dR_concat_99 rfl ?_
              refine rk_iconst (v := 5) dR_concat_100 (by decide) ?_
              refine rk_iload_n dR_concat_101 rfl ?_
              refine rk_iload_n dR_concat_102 rfl ?_
              refine rk_aload_n dR_concat_103 rfl ?_
              refine rk_getf fR_26 dR_concat_104 k.m rfl ?_
              refine rk_iload_n dR_concat_107 rfl ?_
              refine rk_iald dR_concat_108 k.hi (vp_in_nI (show j < 14 by omega) (by omega)) ?_
              rw [nI_clamp (show j < 2 ^ 31 by omega), eN]
              refine rk_aload_n dR_concat_109 rfl ?_
              refine rk_getf fR_29 dR_concat_110 k.m rfl ?_
              refine rk_iload_n dR_concat_113 rfl ?_
              refine rk_iald dR_concat_114 k.wi (vp_in_nI (show j < 14 by omega) (by omega)) ?_
              rw [nI_clamp (show j < 2 ^ 31 by omega), eN]
              refine rk_aload_n dR_concat_115 rfl ?_
              refine rk_getf fR_32 dR_concat_116 k.m rfl ?_
              refine rk_iload_n dR_concat_119 rfl ?_
              refine rk_iald dR_concat_120 k.de (vp_in_nI (show j < 14 by omega) (by omega)) ?_
              rw [nI_clamp (show j < 2 ^ 31 by omega), eN]
              refine rk_aload_n dR_concat_121 rfl ?_
              refine rk_getf fR_32 dR_concat_122 k.m rfl ?_
              refine rk_iload_n dR_concat_125 rfl ?_
              refine rk_iald dR_concat_126 k.de (vp_in_nI (show i < 14 by omega) (by omega)) ?_
              rw [nI_clamp (show i < 2 ^ 31 by omega), eN]
              refine rk_iadd dR_concat_127 ?_
              rw [nI_add]
              refine rk_aload_n dR_concat_128 rfl ?_
              refine rk_getf fR_35 dR_concat_129 k.m rfl ?_
              refine rk_iload_n dR_concat_132 rfl ?_
              refine rk_dald dR_concat_133 k.sc (vp_in_nI (show j < 14 by omega) (by omega)) ?_
              rw [nI_clamp (show j < 2 ^ 31 by omega), eN]
              refine rk_cvV (c_R_mk b A Y k 5 (some j) (some i) (s.N j).h (s.N j).w ((s.N j).c + (s.N i).c) (s.N j).sc hno (by omega) rfl rfl rfl rfl rfl rfl) cR_113 dR_concat_134 rfl lR_make (Nat.le_of_ble_eq_true rfl) (Nat.le_of_ble_eq_true rfl) (Nat.le_of_ble_eq_true rfl) (Nat.le_of_ble_eq_true rfl) k.m ?_
              refine rk_pop dR_concat_137 rfl ?_
              refine rk_aload_n dR_concat_138 rfl ?_
              refine rk_iconst (v := 0) dR_concat_139 (by decide) ?_
              refine rk_iconst (v := 0) dR_concat_140 (by decide) ?_
              refine rk_iconst (v := 0) dR_concat_141 (by decide) ?_
              refine rk_iconst (v := 0) dR_concat_142 (by decide) ?_
              refine rk_cvV (c_R_fin b A (Y.mkd 5 (some j) (some i) (s.N j).h (s.N j).w ((s.N j).c + (s.N i).c) (s.N j).sc) k 0 0 0 0 mkd_no hno rfl rfl) cR_117 dR_concat_143 rfl lR_finish (Nat.le_of_ble_eq_true rfl) (Nat.le_of_ble_eq_true rfl) (Nat.le_of_ble_eq_true rfl) (Nat.le_of_ble_eq_true rfl) k.m ?_
              exact rk_iret rfl dR_concat_146 ⟨(Nat.le_of_ble_eq_true rfl), (Nat.le_of_ble_eq_true rfl)⟩ (rPo.ps kY hfa (mk2_0 hgg (mt n14.mpr q_90)) (by rw [htj, hti]; rfl))
            · refine rk_aload_n dR_concat_93 rfl ?_
              refine rk_iconst (v := 2) dR_concat_94 (by decide) ?_
              refine rk_cvV (c_R_fail b A Y k 2) cR_98 dR_concat_95 rfl lR_fail (Nat.le_of_ble_eq_true rfl) (Nat.le_of_ble_eq_true rfl) (Nat.le_of_ble_eq_true rfl) (Nat.le_of_ble_eq_true rfl) k.m ?_
              exact rk_iret rfl dR_concat_98 ⟨(Nat.le_of_ble_eq_true rfl), (Nat.le_of_ble_eq_true rfl)⟩ (rPo.fl (c := 2) kY (mk2_2 hgg (n14.mp q_90)) (by decide))
          · refine rk_aload_n dR_concat_78 rfl ?_
            refine rk_iconst (v := 1) dR_concat_79 (by decide) ?_
            refine rk_cvV (c_R_fail b A Y k 1) cR_98 dR_concat_80 rfl lR_fail (Nat.le_of_ble_eq_true rfl) (Nat.le_of_ble_eq_true rfl) (Nat.le_of_ble_eq_true rfl) (Nat.le_of_ble_eq_true rfl) k.m ?_
            exact rk_iret rfl dR_concat_83 ⟨(Nat.le_of_ble_eq_true rfl), (Nat.le_of_ble_eq_true rfl)⟩ (rPo.fl (c := 1) kY (mk2_1 (fun hh => by rw [htj, hti] at hh; simp only [Bool.and_eq_true, decide_eq_true_eq] at hh; unfold d_eq at hde; simp_all [b2i])) (by decide))
    · refine rk_aload_n dR_concat_29 rfl ?_
      refine rk_iconst (v := 1) dR_concat_30 (by decide) ?_
      refine rk_cvV (c_R_fail b A Y k 1) cR_98 dR_concat_31 rfl lR_fail (Nat.le_of_ble_eq_true rfl) (Nat.le_of_ble_eq_true rfl) (Nat.le_of_ble_eq_true rfl) (Nat.le_of_ble_eq_true rfl) k.m ?_
      exact rk_iret rfl dR_concat_34 ⟨(Nat.le_of_ble_eq_true rfl), (Nat.le_of_ble_eq_true rfl)⟩ (rPo.fl (c := 1) kY (mk2_1 (fun hh => by simp only [Bool.and_eq_true, decide_eq_true_eq] at hh; simp_all [b2i, tN_I])) (by decide))
theorem c_R_add (b : rk_H) (A : Nat → Nat) (X : rX) (s : aS) (k : rA A) (kX : rOK X s) (ok : aOK s) (p q : Int32) (sc : UInt64) (hs : badS sc = !dsB sc) : rk_Con mR_add (1, 21, 0, 0) [.ref (A 0), .int p, .int q, .double sc] (rv b A X) (rPo b A (some (.int 0)) (opAdd s p q sc)) := by
  have hn := ok.1.1
  have hbd := ok.1.2.1.bd
  refine rk_Con.of [some (.ref (A 0)), some (.int p), some (.int q), some (.double sc), none] rfl (Nat.le_of_ble_eq_true rfl) (by decide +kernel) ?_
  refine rk_aload_n dR_add_0 rfl ?_
  refine rk_iconst (v := 0) dR_add_1 (by decide) ?_
  refine rk_putf pR_85 dR_add_2 k.m (Nat.le_of_ble_eq_true rfl) rfl rfl ?_
  rw [k.ufa]
  skip
  have kY : rOK (X.wfa 0) s := kX
  have hfa : (X.wfa 0).fa = 0 := rfl
  generalize X.wfa 0 = Y at kY hfa ⊢
  have nd : ∀ x, ouB x (nI Y.no) = !ndB s x := fun x => kY.nd hn
  have n14 := kY.n14 hn
  have hno : ¬ s.n = 14 → Y.no < 14 := fun q => by rw [kY.1.2.1]; omega
  have eN := kY.1.1
  have eW := kY.1.2.2.2
  refine rk_aload_n dR_add_5 rfl ?_
  refine rk_iload_n dR_add_6 rfl ?_
  refine rk_aload_n dR_add_7 rfl ?_
  refine rk_getf fR_106 dR_add_8 k.m rfl ?_
  refine rk_cvV (c_R_out b A Y p (nI Y.no)) cR_94 dR_add_11 rfl lR_out (Nat.le_of_ble_eq_true rfl) (Nat.le_of_ble_eq_true rfl) (Nat.le_of_ble_eq_true rfl) (Nat.le_of_ble_eq_true rfl) k.m ?_
  rw [nd]
  refine rk_if_ne 37 dR_add_14 (by decide) (fun q_14 => ?_) (fun q_14 => ?_)
  · refine rk_aload_n dR_add_37 rfl ?_
    refine rk_iconst (v := 1) dR_add_38 (by decide) ?_
    refine rk_cvV (c_R_fail b A Y k 1) cR_98 dR_add_39 rfl lR_fail (Nat.le_of_ble_eq_true rfl) (Nat.le_of_ble_eq_true rfl) (Nat.le_of_ble_eq_true rfl) (Nat.le_of_ble_eq_true rfl) k.m ?_
    exact rk_iret rfl dR_add_42 ⟨(Nat.le_of_ble_eq_true rfl), (Nat.le_of_ble_eq_true rfl)⟩ (rPo.fl (c := 1) kY (mk3_1 (fun hh => by simp only [Bool.and_eq_true, decide_eq_true_eq] at hh; simp_all [b2i, tN_I])) (by decide))
  · refine rk_aload_n dR_add_17 rfl ?_
    refine rk_iload_n dR_add_18 rfl ?_
    refine rk_aload_n dR_add_19 rfl ?_
    refine rk_getf fR_106 dR_add_20 k.m rfl ?_
    refine rk_cvV (c_R_out b A Y q (nI Y.no)) cR_94 dR_add_23 rfl lR_out (Nat.le_of_ble_eq_true rfl) (Nat.le_of_ble_eq_true rfl) (Nat.le_of_ble_eq_true rfl) (Nat.le_of_ble_eq_true rfl) k.m ?_
    rw [nd]
    refine rk_if_ne 37 dR_add_26 (by decide) (fun q_26 => ?_) (fun q_26 => ?_)
    · refine rk_aload_n dR_add_37 rfl ?_
      refine rk_iconst (v := 1) dR_add_38 (by decide) ?_
      refine rk_cvV (c_R_fail b A Y k 1) cR_98 dR_add_39 rfl lR_fail (Nat.le_of_ble_eq_true rfl) (Nat.le_of_ble_eq_true rfl) (Nat.le_of_ble_eq_true rfl) (Nat.le_of_ble_eq_true rfl) k.m ?_
      exact rk_iret rfl dR_add_42 ⟨(Nat.le_of_ble_eq_true rfl), (Nat.le_of_ble_eq_true rfl)⟩ (rPo.fl (c := 1) kY (mk3_1 (fun hh => by simp only [Bool.and_eq_true, decide_eq_true_eq] at hh; simp_all [b2i, tN_I])) (by decide))
    · refine rk_aload_n dR_add_29 rfl ?_
      refine rk_dload_n dR_add_30 rfl ?_
      refine rk_cvV (c_R_badScale b A Y sc) cR_102 dR_add_31 rfl lR_badScale (Nat.le_of_ble_eq_true rfl) (Nat.le_of_ble_eq_true rfl) (Nat.le_of_ble_eq_true rfl) (Nat.le_of_ble_eq_true rfl) k.m ?_
      rw [hs]
      refine rk_if_eq 43 dR_add_34 (by decide) (fun q_34 => ?_) (fun q_34 => ?_)
      · obtain ⟨j, hj, rfl⟩ := ndB_of hn (b2n q_14)
        have htj : tN (nI j) = j := tN_I (by omega)
        obtain ⟨i, hi, rfl⟩ := ndB_of hn (b2n q_26)
        have hti : tN (nI i) = i := tN_I (by omega)
        have bj : bdI (Y.N j) := by rw [eN]; exact hbd j hj
        have bi : bdI (Y.N i) := by rw [eN]; exact hbd i hi
        have ec : nI (s.N j).c = nI (s.N i).c ↔ (s.N j).c = (s.N i).c := nI_eq (by have := (hbd j hj).1.2.2.2.1; omega) (by have := (hbd i hi).1.2.2.2.1; omega)
        have hsc := d_scl_iff.mp (dsB_iff.mp (b2n q_34))
        refine rk_aload_n dR_add_43 rfl ?_
        refine rk_iload_n dR_add_44 rfl ?_
        refine rk_iload_n dR_add_45 rfl ?_
        refine rk_cvV (c_R_sameSize b A Y k j i (by omega) (by omega) bj bi) cR_140 dR_add_46 rfl lR_sameSize (Nat.le_of_ble_eq_true rfl) (Nat.le_of_ble_eq_true rfl) (Nat.le_of_ble_eq_true rfl) (Nat.le_of_ble_eq_true rfl) k.m ?_
        rw [eN]
        refine rk_if_eq 67 dR_add_49 (by decide) (fun q_49 => ?_) (fun q_49 => ?_)
        · refine rk_aload_n dR_add_67 rfl ?_
          refine rk_iconst (v := 1) dR_add_68 (by decide) ?_
          refine rk_cvV (c_R_fail b A Y k 1) cR_98 dR_add_69 rfl lR_fail (Nat.le_of_ble_eq_true rfl) (Nat.le_of_ble_eq_true rfl) (Nat.le_of_ble_eq_true rfl) (Nat.le_of_ble_eq_true rfl) k.m ?_
          exact rk_iret rfl dR_add_72 ⟨(Nat.le_of_ble_eq_true rfl), (Nat.le_of_ble_eq_true rfl)⟩ (rPo.fl (c := 1) kY (mk3_1 (fun hh => by rw [htj, hti] at hh; unfold shq at hh; simp only [Bool.and_eq_true, decide_eq_true_eq] at hh; simp_all [b2i])) (by decide))
        · refine rk_aload_n dR_add_52 rfl ?_
          refine rk_getf fR_32 dR_add_53 k.m rfl ?_
          refine rk_iload_n dR_add_56 rfl ?_
          refine rk_iald dR_add_57 k.de (vp_in_nI (show j < 14 by omega) (by omega)) ?_
          rw [nI_clamp (show j < 2 ^ 31 by omega), eN]
          refine rk_aload_n dR_add_58 rfl ?_
          refine rk_getf fR_32 dR_add_59 k.m rfl ?_
          refine rk_iload_n dR_add_62 rfl ?_
          refine rk_iald dR_add_63 k.de (vp_in_nI (show i < 14 by omega) (by omega)) ?_
          rw [nI_clamp (show i < 2 ^ 31 by omega), eN]
          refine rk_icmp_eq 73 dR_add_64 (by decide) (fun q_64 => ?_) (fun q_64 => ?_)
          · have hgg : (ndB s (nI j) && ndB s (nI i) && dsB sc && shq (s.N (tN (nI i))) (s.N (tN (nI j)))) = true := by rw [htj, hti]; unfold shq; simp_all [b2i]
            refine rk_aload_n dR_add_73 rfl ?_
            refine rk_aload_n dR_add_74 rfl ?_
            refine rk_getf fR_35 dR_add_75 k.m rfl ?_
            refine rk_iload_n dR_add_78 rfl ?_
            refine rk_dald dR_add_79 k.sc (vp_in_nI (show j < 14 by omega) (by omega)) ?_
            rw [nI_clamp (show j < 2 ^ 31 by omega), eN]
            refine rk_dload_n dR_add_80 rfl ?_
            refine rk_ddiv dR_add_81 (fp_rat2 (hbd j hj).2.1 hsc) ?_
            refine rk_cvV (c_R_badRatio b A Y (FP.ddiv (s.N j).sc sc)) cR_134 dR_add_82 rfl lR_badRatio (Nat.le_of_ble_eq_true rfl) (Nat.le_of_ble_eq_true rfl) (Nat.le_of_ble_eq_true rfl) (Nat.le_of_ble_eq_true rfl) k.m ?_
            refine rk_if_ne 103 dR_add_85 (by decide) (fun q_85 => ?_) (fun q_85 => ?_)
            · refine rk_aload_n dR_add_103 rfl ?_
              refine rk_iconst (v := 2) dR_add_104 (by decide) ?_
              refine rk_cvV (c_R_fail b A Y k 2) cR_98 dR_add_105 rfl lR_fail (Nat.le_of_ble_eq_true rfl) (Nat.le_of_ble_eq_true rfl) (Nat.le_of_ble_eq_true rfl) (Nat.le_of_ble_eq_true rfl) k.m ?_
              exact rk_iret rfl dR_add_108 ⟨(Nat.le_of_ble_eq_true rfl), (Nat.le_of_ble_eq_true rfl)⟩ (rPo.fl (c := 2) kY (mk3_2 hgg (fun hh => by rw [htj, hti] at hh; simp_all [b2i])) (by decide))
            · refine rk_aload_n dR_add_88 rfl ?_
              refine rk_aload_n dR_add_89 rfl ?_
              refine rk_getf fR_35 dR_add_90 k.m rfl ?_
              refine rk_iload_n dR_add_93 rfl ?_
              refine rk_dald dR_add_94 k.sc (vp_in_nI (show i < 14 by omega) (by omega)) ?_
              rw [nI_clamp (show i < 2 ^ 31 by omega), eN]
              refine rk_dload_n dR_add_95 rfl ?_
              refine rk_ddiv dR_add_96 (fp_rat2 (hbd i hi).2.1 hsc) ?_
              refine rk_cvV (c_R_badRatio b A Y (FP.ddiv (s.N i).sc sc)) cR_134 dR_add_97 rfl lR_badRatio (Nat.le_of_ble_eq_true rfl) (Nat.le_of_ble_eq_true rfl) (Nat.le_of_ble_eq_true rfl) (Nat.le_of_ble_eq_true rfl) k.m ?_
              refine rk_if_eq 109 dR_add_100 (by decide) (fun q_100 => ?_) (fun q_100 => ?_)
              · refine rk_aload_n dR_add_109 rfl ?_
                refine rk_getf fR_106 dR_add_110 k.m rfl ?_
                refine rk_bipush (v := 14) dR_add_113 (by decide) ?_
                refine rk_icmp_ne 124 dR_add_115 (by decide) (fun q_115 => ?_) (fun q_115 => ?_)
                · have hno := hno (mt n14.mpr q_115)
                  refine rk_aload_n dR_add_124 rfl ?_
                  refine rk_iconst (v := 4) dR_add_125 (by decide) ?_
                  refine rk_iload_n dR_add_126 rfl ?_
                  refine rk_iload_n dR_add_127 rfl ?_
                  refine rk_aload_n dR_add_128 rfl ?_
                  refine rk_getf fR_26 dR_add_129 k.m rfl ?_
                  refine rk_iload_n dR_add_132 rfl ?_
                  refine rk_iald dR_add_133 k.hi (vp_in_nI (show j < 14 by omega) (by omega)) ?_
                  rw [nI_clamp (show j < 2 ^ 31 by omega), eN]
                  refine rk_aload_n dR_add_134 rfl ?_
                  refine rk_getf fR_29 dR_add_135 k.m rfl ?_
                  refine rk_iload_n dR_add_138 rfl ?_
                  refine rk_iald dR_add_139 k.wi (vp_in_nI (show j < 14 by omega) (by omega)) ?_
                  rw [nI_clamp (show j < 2 ^ 31 by omega), eN]
                  refine rk_aload_n dR_add_140 rfl ?_
                  refine rk_getf fR_32 dR_add_141 k.m rfl ?_
                  refine rk_iload_n dR_add_144 rfl ?_
                  refine rk_iald dR_add_145 k.de (vp_in_nI (show j < 14 by omega) (by omega)) ?_
                  rw [nI_clamp (show j < 2 ^ 31 by omega), eN]
                  refine rk_dload_n dR_add_146 rfl ?_
                  refine rk_cvV (c_R_mk b A Y k 4 (some j) (some i) (s.N j).h (s.N j).w (s.N j).c sc hno (by omega) rfl rfl rfl rfl rfl rfl) cR_113 dR_add_147 rfl lR_make (Nat.le_of_ble_eq_true rfl) (Nat.le_of_ble_eq_true rfl) (Nat.le_of_ble_eq_true rfl) (Nat.le_of_ble_eq_true rfl) k.m ?_
                  refine rk_pop dR_add_150 rfl ?_
                  refine rk_aload_n dR_add_151 rfl ?_
                  refine rk_iconst (v := 0) dR_add_152 (by decide) ?_
                  refine rk_iconst (v := 0) dR_add_153 (by decide) ?_
                  refine rk_iconst (v := 0) dR_add_154 (by decide) ?_
                  refine rk_iconst (v := 0) dR_add_155 (by decide) ?_
                  refine rk_cvV (c_R_fin b A (Y.mkd 4 (some j) (some i) (s.N j).h (s.N j).w (s.N j).c sc) k 0 0 0 0 mkd_no hno rfl rfl) cR_117 dR_add_156 rfl lR_finish (Nat.le_of_ble_eq_true rfl) (Nat.le_of_ble_eq_true rfl) (Nat.le_of_ble_eq_true rfl) (Nat.le_of_ble_eq_true rfl) k.m ?_
                  exact rk_iret rfl dR_add_159 ⟨(Nat.le_of_ble_eq_true rfl), (Nat.le_of_ble_eq_true rfl)⟩ (rPo.ps kY hfa (mk3_0 hgg (by rw [htj, hti]; exact and2.mpr ⟨b2n q_85, b2n q_100⟩) (mt n14.mpr q_115)) (by rw [htj, hti]; rfl))
                · refine rk_aload_n dR_add_118 rfl ?_
                  refine rk_iconst (v := 3) dR_add_119 (by decide) ?_
                  refine rk_cvV (c_R_fail b A Y k 3) cR_98 dR_add_120 rfl lR_fail (Nat.le_of_ble_eq_true rfl) (Nat.le_of_ble_eq_true rfl) (Nat.le_of_ble_eq_true rfl) (Nat.le_of_ble_eq_true rfl) k.m ?_
                  exact rk_iret rfl dR_add_123 ⟨(Nat.le_of_ble_eq_true rfl), (Nat.le_of_ble_eq_true rfl)⟩ (rPo.fl (c := 3) kY (mk3_3 hgg (by rw [htj, hti]; exact and2.mpr ⟨b2n q_85, b2n q_100⟩) (n14.mp q_115)) (by decide))
              · refine rk_aload_n dR_add_103 rfl ?_
                refine rk_iconst (v := 2) dR_add_104 (by decide) ?_
                refine rk_cvV (c_R_fail b A Y k 2) cR_98 dR_add_105 rfl lR_fail (Nat.le_of_ble_eq_true rfl) (Nat.le_of_ble_eq_true rfl) (Nat.le_of_ble_eq_true rfl) (Nat.le_of_ble_eq_true rfl) k.m ?_
                exact rk_iret rfl dR_add_108 ⟨(Nat.le_of_ble_eq_true rfl), (Nat.le_of_ble_eq_true rfl)⟩ (rPo.fl (c := 2) kY (mk3_2 hgg (fun hh => by rw [htj, hti] at hh; simp_all [b2i])) (by decide))
          · refine rk_aload_n dR_add_67 rfl ?_
            refine rk_iconst (v := 1) dR_add_68 (by decide) ?_
            refine rk_cvV (c_R_fail b A Y k 1) cR_98 dR_add_69 rfl lR_fail (Nat.le_of_ble_eq_true rfl) (Nat.le_of_ble_eq_true rfl) (Nat.le_of_ble_eq_true rfl) (Nat.le_of_ble_eq_true rfl) k.m ?_
            exact rk_iret rfl dR_add_72 ⟨(Nat.le_of_ble_eq_true rfl), (Nat.le_of_ble_eq_true rfl)⟩ (rPo.fl (c := 1) kY (mk3_1 (fun hh => by rw [htj, hti] at hh; unfold shq at hh; simp only [Bool.and_eq_true, decide_eq_true_eq] at hh; simp_all [b2i])) (by decide))
      · refine rk_aload_n dR_add_37 rfl ?_
        refine rk_iconst (v := 1) dR_add_38 (by decide) ?_
        refine rk_cvV (c_R_fail b A Y k 1) cR_98 dR_add_39 rfl lR_fail (Nat.le_of_ble_eq_true rfl) (Nat.le_of_ble_eq_true rfl) (Nat.le_of_ble_eq_true rfl) (Nat.le_of_ble_eq_true rfl) k.m ?_
        exact rk_iret rfl dR_add_42 ⟨(Nat.le_of_ble_eq_true rfl), (Nat.le_of_ble_eq_true rfl)⟩ (rPo.fl (c := 1) kY (mk3_1 (fun hh => by simp only [Bool.and_eq_true, decide_eq_true_eq] at hh; simp_all [b2i, tN_I])) (by decide))
theorem c_R_dense (b : rk_H) (A : Nat → Nat) (X : rX) (s : aS) (k : rA A) (kX : rOK X s) (ok : aOK s) (p d off : Int32) (sc : UInt64) (hs : badS sc = !dsB sc) : rk_Con mR_dense (1, 21, 0, 0) [.ref (A 0), .int p, .int d, .int off, .double sc] (rv b A X) (rPo b A (some (.int 0)) (opDense s p d off sc)) := by
  have hn := ok.1.1
  have hbd := ok.1.2.1.bd
  refine rk_Con.of [some (.ref (A 0)), some (.int p), some (.int d), some (.int off), some (.double sc), none] rfl (Nat.le_of_ble_eq_true rfl) (by decide +kernel) ?_
  refine rk_aload_n dR_dense_0 rfl ?_
  refine rk_iconst (v := 0) dR_dense_1 (by decide) ?_
  refine rk_putf pR_85 dR_dense_2 k.m (Nat.le_of_ble_eq_true rfl) rfl rfl ?_
  rw [k.ufa]
  skip
  have kY : rOK (X.wfa 0) s := kX
  have hfa : (X.wfa 0).fa = 0 := rfl
  generalize X.wfa 0 = Y at kY hfa ⊢
  have nd : ∀ x, ouB x (nI Y.no) = !ndB s x := fun x => kY.nd hn
  have n14 := kY.n14 hn
  have hno : ¬ s.n = 14 → Y.no < 14 := fun q => by rw [kY.1.2.1]; omega
  have eN := kY.1.1
  have eW := kY.1.2.2.2
  have h8 : ∀ v : Int32, ouB (v - 1) 8 = !btB v 1 8 := fun v => ou_bt (by decide)
  have eb : ∀ v a c : Int32, btB v a c = (decide (a ≤ v) && decide (v ≤ c)) := fun _ _ _ => rfl
  refine rk_aload_n dR_dense_5 rfl ?_
  refine rk_iload_n dR_dense_6 rfl ?_
  refine rk_aload_n dR_dense_7 rfl ?_
  refine rk_getf fR_106 dR_dense_8 k.m rfl ?_
  refine rk_cvV (c_R_out b A Y p (nI Y.no)) cR_94 dR_dense_11 rfl lR_out (Nat.le_of_ble_eq_true rfl) (Nat.le_of_ble_eq_true rfl) (Nat.le_of_ble_eq_true rfl) (Nat.le_of_ble_eq_true rfl) k.m ?_
  rw [nd]
  refine rk_if_ne 38 dR_dense_14 (by decide) (fun q_14 => ?_) (fun q_14 => ?_)
  · refine rk_aload_n dR_dense_38 rfl ?_
    refine rk_iconst (v := 1) dR_dense_39 (by decide) ?_
    refine rk_cvV (c_R_fail b A Y k 1) cR_98 dR_dense_40 rfl lR_fail (Nat.le_of_ble_eq_true rfl) (Nat.le_of_ble_eq_true rfl) (Nat.le_of_ble_eq_true rfl) (Nat.le_of_ble_eq_true rfl) k.m ?_
    exact rk_iret rfl dR_dense_43 ⟨(Nat.le_of_ble_eq_true rfl), (Nat.le_of_ble_eq_true rfl)⟩ (rPo.fl (c := 1) kY (mk3_1 (fun hh => by clear eb; simp only [Bool.and_eq_true, decide_eq_true_eq] at hh; simp_all [b2i])) (by decide))
  · refine rk_aload_n dR_dense_17 rfl ?_
    refine rk_dload dR_dense_18 rfl ?_
    refine rk_cvV (c_R_badScale b A Y sc) cR_102 dR_dense_20 rfl lR_badScale (Nat.le_of_ble_eq_true rfl) (Nat.le_of_ble_eq_true rfl) (Nat.le_of_ble_eq_true rfl) (Nat.le_of_ble_eq_true rfl) k.m ?_
    rw [hs]
    refine rk_if_ne 38 dR_dense_23 (by decide) (fun q_23 => ?_) (fun q_23 => ?_)
    · refine rk_aload_n dR_dense_38 rfl ?_
      refine rk_iconst (v := 1) dR_dense_39 (by decide) ?_
      refine rk_cvV (c_R_fail b A Y k 1) cR_98 dR_dense_40 rfl lR_fail (Nat.le_of_ble_eq_true rfl) (Nat.le_of_ble_eq_true rfl) (Nat.le_of_ble_eq_true rfl) (Nat.le_of_ble_eq_true rfl) k.m ?_
      exact rk_iret rfl dR_dense_43 ⟨(Nat.le_of_ble_eq_true rfl), (Nat.le_of_ble_eq_true rfl)⟩ (rPo.fl (c := 1) kY (mk3_1 (fun hh => by clear eb; simp only [Bool.and_eq_true, decide_eq_true_eq] at hh; simp_all [b2i])) (by decide))
    · refine rk_aload_n dR_dense_26 rfl ?_
      refine rk_iload_n dR_dense_27 rfl ?_
      refine rk_iconst (v := 1) dR_dense_28 (by decide) ?_
      refine rk_isub dR_dense_29 ?_
      refine rk_bipush (v := 8) dR_dense_30 (by decide) ?_
      refine rk_cvV (c_R_out b A Y (d - 1) 8) cR_94 dR_dense_32 rfl lR_out (Nat.le_of_ble_eq_true rfl) (Nat.le_of_ble_eq_true rfl) (Nat.le_of_ble_eq_true rfl) (Nat.le_of_ble_eq_true rfl) k.m ?_
      rw [h8]
      refine rk_if_eq 44 dR_dense_35 (by decide) (fun q_35 => ?_) (fun q_35 => ?_)
      · obtain ⟨j, hj, rfl⟩ := ndB_of hn (b2n q_14)
        have htj : tN (nI j) = j := tN_I (by omega)
        have hsc := d_scl_iff.mp (dsB_iff.mp (b2n q_23))
        refine rk_iload_n dR_dense_44 rfl ?_
        refine rk_if_lt 65 dR_dense_45 (by decide) (fun q_45 => ?_) (fun q_45 => ?_)
        · refine rk_aload_n dR_dense_65 rfl ?_
          refine rk_iconst (v := 1) dR_dense_66 (by decide) ?_
          refine rk_cvV (c_R_fail b A Y k 1) cR_98 dR_dense_67 rfl lR_fail (Nat.le_of_ble_eq_true rfl) (Nat.le_of_ble_eq_true rfl) (Nat.le_of_ble_eq_true rfl) (Nat.le_of_ble_eq_true rfl) k.m ?_
          exact rk_iret rfl dR_dense_70 ⟨(Nat.le_of_ble_eq_true rfl), (Nat.le_of_ble_eq_true rfl)⟩ (rPo.fl (c := 1) kY (mk3_1 (fun hh => by rw [htj] at hh; simp only [Bool.and_eq_true, decide_eq_true_eq, eb] at hh; first | exact absurd hh.2.1 (Int32.not_le.mpr q_45) | exact q_62 hh.2.2)) (by decide))
        · refine rk_iload_n dR_dense_48 rfl ?_
          refine rk_sipush (v := 512) dR_dense_49 (by decide) ?_
          refine rk_iload_n dR_dense_52 rfl ?_
          refine rk_aload_n dR_dense_53 rfl ?_
          refine rk_iload_n dR_dense_54 rfl ?_
          refine rk_cvV (c_R_cells b A Y k j (by omega)) cR_137 dR_dense_55 rfl lR_cells (Nat.le_of_ble_eq_true rfl) (Nat.le_of_ble_eq_true rfl) (Nat.le_of_ble_eq_true rfl) (Nat.le_of_ble_eq_true rfl) k.m ?_
          rw [eN]
          refine rk_imul dR_dense_58 ?_
          refine rk_isub dR_dense_59 ?_
          refine rk_iload_n dR_dense_60 rfl ?_
          refine rk_isub dR_dense_61 ?_
          refine rk_icmp_le 71 dR_dense_62 (by decide) (fun q_62 => ?_) (fun q_62 => ?_)
          · have hgg : (ndB s (nI j) && btB d 1 8 && dsB sc && btB off 0 (512 - d * nI (s.N (tN (nI j))).ce - d)) = true := by rw [htj, b2n q_14, b2n q_23, b2n q_35]; exact btB_iff.mpr ⟨Int32.not_lt.mp q_45, q_62⟩
            refine rk_aload_n dR_dense_71 rfl ?_
            refine rk_aload_n dR_dense_72 rfl ?_
            refine rk_getf fR_35 dR_dense_73 k.m rfl ?_
            refine rk_iload_n dR_dense_76 rfl ?_
            refine rk_dald dR_dense_77 k.sc (vp_in_nI (show j < 14 by omega) (by omega)) ?_
            rw [nI_clamp (show j < 2 ^ 31 by omega), eN]
            refine rk_aload_n dR_dense_78 rfl ?_
            refine rk_getf fR_13 dR_dense_79 k.m rfl ?_
            rw [eW]
            refine rk_dmul dR_dense_82 (fp_rat1 (hbd j hj).2.1 ok.1.2.2.2 hsc).1 ?_
            refine rk_dload dR_dense_83 rfl ?_
            refine rk_ddiv dR_dense_85 (fp_rat1 (hbd j hj).2.1 ok.1.2.2.2 hsc).2 ?_
            refine rk_cvV (c_R_badRatio b A Y (FP.ddiv (FP.dmul (s.N j).sc s.ws) sc)) cR_134 dR_dense_86 rfl lR_badRatio (Nat.le_of_ble_eq_true rfl) (Nat.le_of_ble_eq_true rfl) (Nat.le_of_ble_eq_true rfl) (Nat.le_of_ble_eq_true rfl) k.m ?_
            refine rk_if_eq 98 dR_dense_89 (by decide) (fun q_89 => ?_) (fun q_89 => ?_)
            · refine rk_aload_n dR_dense_98 rfl ?_
              refine rk_getf fR_106 dR_dense_99 k.m rfl ?_
              refine rk_bipush (v := 14) dR_dense_102 (by decide) ?_
              refine rk_icmp_ne 113 dR_dense_104 (by decide) (fun q_104 => ?_) (fun q_104 => ?_)
              · have hno := hno (mt n14.mpr q_104)
                obtain ⟨d, ⟨d1, d2⟩, rfl⟩ := bt1K (m := 8) (by omega) (btB_iff.mp (b2n q_35))
                obtain ⟨f, hf, rfl⟩ := nI_of q_45
                refine rk_aload_n dR_dense_113 rfl ?_
                refine rk_iconst (v := 3) dR_dense_114 (by decide) ?_
                refine rk_iload_n dR_dense_115 rfl ?_
                refine rk_iconst (v := -1) dR_dense_116 (by decide) ?_
                refine rk_iconst (v := 1) dR_dense_117 (by decide) ?_
                refine rk_iconst (v := 1) dR_dense_118 (by decide) ?_
                refine rk_iload_n dR_dense_119 rfl ?_
                refine rk_dload dR_dense_120 rfl ?_
                refine rk_cvV (c_R_mk b A Y k 3 (some j) none 1 1 d sc hno (by omega) rfl rfl rfl rfl rfl rfl) cR_113 dR_dense_122 rfl lR_make (Nat.le_of_ble_eq_true rfl) (Nat.le_of_ble_eq_true rfl) (Nat.le_of_ble_eq_true rfl) (Nat.le_of_ble_eq_true rfl) k.m ?_
                refine rk_pop dR_dense_125 rfl ?_
                refine rk_aload_n dR_dense_126 rfl ?_
                refine rk_iconst (v := 0) dR_dense_127 (by decide) ?_
                refine rk_iload_n dR_dense_128 rfl ?_
                refine rk_iconst (v := 0) dR_dense_129 (by decide) ?_
                refine rk_iconst (v := 0) dR_dense_130 (by decide) ?_
                refine rk_cvV (c_R_fin b A (Y.mkd 3 (some j) none 1 1 d sc) k 0 f 0 0 mkd_no hno rfl rfl) cR_117 dR_dense_131 rfl lR_finish (Nat.le_of_ble_eq_true rfl) (Nat.le_of_ble_eq_true rfl) (Nat.le_of_ble_eq_true rfl) (Nat.le_of_ble_eq_true rfl) k.m ?_
                exact rk_iret rfl dR_dense_134 ⟨(Nat.le_of_ble_eq_true rfl), (Nat.le_of_ble_eq_true rfl)⟩ (rPo.ps kY hfa (mk3_0 hgg (by rw [htj]; exact b2n q_89) (mt n14.mpr q_104)) (by rw [htj, tN_I (show d < 2 ^ 31 by omega), tN_I hf]; rfl))
              · refine rk_aload_n dR_dense_107 rfl ?_
                refine rk_iconst (v := 3) dR_dense_108 (by decide) ?_
                refine rk_cvV (c_R_fail b A Y k 3) cR_98 dR_dense_109 rfl lR_fail (Nat.le_of_ble_eq_true rfl) (Nat.le_of_ble_eq_true rfl) (Nat.le_of_ble_eq_true rfl) (Nat.le_of_ble_eq_true rfl) k.m ?_
                exact rk_iret rfl dR_dense_112 ⟨(Nat.le_of_ble_eq_true rfl), (Nat.le_of_ble_eq_true rfl)⟩ (rPo.fl (c := 3) kY (mk3_3 hgg (by rw [htj]; exact b2n q_89) (n14.mp q_104)) (by decide))
            · refine rk_aload_n dR_dense_92 rfl ?_
              refine rk_iconst (v := 2) dR_dense_93 (by decide) ?_
              refine rk_cvV (c_R_fail b A Y k 2) cR_98 dR_dense_94 rfl lR_fail (Nat.le_of_ble_eq_true rfl) (Nat.le_of_ble_eq_true rfl) (Nat.le_of_ble_eq_true rfl) (Nat.le_of_ble_eq_true rfl) k.m ?_
              exact rk_iret rfl dR_dense_97 ⟨(Nat.le_of_ble_eq_true rfl), (Nat.le_of_ble_eq_true rfl)⟩ (rPo.fl (c := 2) kY (mk3_2 hgg (by rw [htj]; simp_all [b2i])) (by decide))
          · refine rk_aload_n dR_dense_65 rfl ?_
            refine rk_iconst (v := 1) dR_dense_66 (by decide) ?_
            refine rk_cvV (c_R_fail b A Y k 1) cR_98 dR_dense_67 rfl lR_fail (Nat.le_of_ble_eq_true rfl) (Nat.le_of_ble_eq_true rfl) (Nat.le_of_ble_eq_true rfl) (Nat.le_of_ble_eq_true rfl) k.m ?_
            exact rk_iret rfl dR_dense_70 ⟨(Nat.le_of_ble_eq_true rfl), (Nat.le_of_ble_eq_true rfl)⟩ (rPo.fl (c := 1) kY (mk3_1 (fun hh => by rw [htj] at hh; simp only [Bool.and_eq_true, decide_eq_true_eq, eb] at hh; first | exact absurd hh.2.1 (Int32.not_le.mpr q_45) | exact q_62 hh.2.2)) (by decide))
      · refine rk_aload_n dR_dense_38 rfl ?_
        refine rk_iconst (v := 1) dR_dense_39 (by decide) ?_
        refine rk_cvV (c_R_fail b A Y k 1) cR_98 dR_dense_40 rfl lR_fail (Nat.le_of_ble_eq_true rfl) (Nat.le_of_ble_eq_true rfl) (Nat.le_of_ble_eq_true rfl) (Nat.le_of_ble_eq_true rfl) k.m ?_
        exact rk_iret rfl dR_dense_43 ⟨(Nat.le_of_ble_eq_true rfl), (Nat.le_of_ble_eq_true rfl)⟩ (rPo.fl (c := 1) kY (mk3_1 (fun hh => by clear eb; simp only [Bool.and_eq_true, decide_eq_true_eq] at hh; simp_all [b2i])) (by decide))
