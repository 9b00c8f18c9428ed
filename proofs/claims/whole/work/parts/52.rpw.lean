/-! the reference: pool, windows -/
theorem sub_2 {a b : Nat} {v : Int32} : v - nI a - nI b = v - nI (a + b) := by
  rw [← nI_add]
  simp only [Int32.sub_eq_add_neg, Int32.neg_add]
  rw [Int32.add_assoc]
theorem c_R_pool (b : rk_H) (A : Nat → Nat) (X : rX) (s : aS) (k : rA A) (kX : rOK X s) (ok : aOK s) (p code avg : Int32) : rk_Con mR_pool (2, 33, 0, 0) [.ref (A 0), .int p, .int code, .int avg] (rv b A X) (rPo b A (some (.int 0)) (opPool s p code avg)) := by
  have hn := ok.1.1
  have hbd := ok.1.2.1.bd
  refine rk_Con.of [some (.ref (A 0)), some (.int p), some (.int code), some (.int avg)] rfl (Nat.le_of_ble_eq_true rfl) (by decide +kernel) ?_
  refine rk_aload_n dR_pool_0 rfl ?_
  refine rk_iconst (v := 0) dR_pool_1 (by decide) ?_
  refine rk_putf pR_85 dR_pool_2 k.m (Nat.le_of_ble_eq_true rfl) rfl rfl ?_
  rw [k.ufa]
  skip
  have kY : rOK (X.wfa 0) s := kX
  have hfa : (X.wfa 0).fa = 0 := rfl
  generalize X.wfa 0 = Y at kY hfa ⊢
  have nd : ∀ x, ouB x (nI Y.no) = !ndB s x := fun x => kY.nd hn
  have n14 := kY.n14 hn
  have hno : ¬ s.n = 14 → Y.no < 14 := fun q => by rw [kY.1.2.1]; omega
  have eN := kY.1.1
  have eW := kY.1.2.2.2
  have h12 : ∀ v : Int32, ouB v 12 = !btB v 0 11 := fun v => (ou_n (x := v) (n := 12) (by omega)).trans (by rw [show nI 12 - 1 = (11 : Int32) from by decide])
  have kw0 : kWs (if avg = 0 then 7 else 8) s.ws = 0 := by unfold kWs; rw [if_neg (by split <;> omega)]
  refine rk_aload_n dR_pool_5 rfl ?_
  refine rk_iload_n dR_pool_6 rfl ?_
  refine rk_aload_n dR_pool_7 rfl ?_
  refine rk_getf fR_106 dR_pool_8 k.m rfl ?_
  refine rk_cvV (c_R_out b A Y p (nI Y.no)) cR_94 dR_pool_11 rfl lR_out (Nat.le_of_ble_eq_true rfl) (Nat.le_of_ble_eq_true rfl) (Nat.le_of_ble_eq_true rfl) (Nat.le_of_ble_eq_true rfl) k.m ?_
  rw [nd]
  refine rk_if_ne 36 dR_pool_14 (by decide) (fun q_14 => ?_) (fun q_14 => ?_)
  · refine rk_aload_n dR_pool_36 rfl ?_
    refine rk_iconst (v := 1) dR_pool_37 (by decide) ?_
    refine rk_cvV (c_R_fail b A Y k 1) cR_98 dR_pool_38 rfl lR_fail (Nat.le_of_ble_eq_true rfl) (Nat.le_of_ble_eq_true rfl) (Nat.le_of_ble_eq_true rfl) (Nat.le_of_ble_eq_true rfl) k.m ?_
    exact rk_iret rfl dR_pool_41 ⟨(Nat.le_of_ble_eq_true rfl), (Nat.le_of_ble_eq_true rfl)⟩ (rPo.fl (c := 1) kY (mk2_1 (fun hh => by first | (rw [htj, htc] at hh; simp only [Bool.and_eq_true, decide_eq_true_eq] at hh; simp_all [b2i]) | (simp only [Bool.and_eq_true, decide_eq_true_eq] at hh; simp_all [b2i]))) (by decide))
  · refine rk_aload_n dR_pool_17 rfl ?_
    refine rk_iload_n dR_pool_18 rfl ?_
    refine rk_bipush (v := 12) dR_pool_19 (by decide) ?_
    refine rk_cvV (c_R_out b A Y code 12) cR_94 dR_pool_21 rfl lR_out (Nat.le_of_ble_eq_true rfl) (Nat.le_of_ble_eq_true rfl) (Nat.le_of_ble_eq_true rfl) (Nat.le_of_ble_eq_true rfl) k.m ?_
    rw [h12]
    refine rk_if_ne 36 dR_pool_24 (by decide) (fun q_24 => ?_) (fun q_24 => ?_)
    · refine rk_aload_n dR_pool_36 rfl ?_
      refine rk_iconst (v := 1) dR_pool_37 (by decide) ?_
      refine rk_cvV (c_R_fail b A Y k 1) cR_98 dR_pool_38 rfl lR_fail (Nat.le_of_ble_eq_true rfl) (Nat.le_of_ble_eq_true rfl) (Nat.le_of_ble_eq_true rfl) (Nat.le_of_ble_eq_true rfl) k.m ?_
      exact rk_iret rfl dR_pool_41 ⟨(Nat.le_of_ble_eq_true rfl), (Nat.le_of_ble_eq_true rfl)⟩ (rPo.fl (c := 1) kY (mk2_1 (fun hh => by first | (rw [htj, htc] at hh; simp only [Bool.and_eq_true, decide_eq_true_eq] at hh; simp_all [b2i]) | (simp only [Bool.and_eq_true, decide_eq_true_eq] at hh; simp_all [b2i]))) (by decide))
    · obtain ⟨j, hj, rfl⟩ := ndB_of hn (b2n q_14)
      have htj : tN (nI j) = j := tN_I (by omega)
      have hw1 := (ok.1.2.1 j hj).1.2.1
      have hb1 := (hbd j hj).1
      have bj : bdI (Y.N j) := by rw [eN]; exact hbd j hj
      obtain ⟨c, hc, rfl⟩ := btwK (m := 11) rfl (by omega) (btB_iff.mp (b2n q_24))
      have htc : tN (nI c) = c := tN_I (by omega)
      refine rk_aload_n dR_pool_27 rfl ?_
      refine rk_iload_n dR_pool_28 rfl ?_
      refine rk_iload_n dR_pool_29 rfl ?_
      refine rk_cvV (c_R_narrow b A Y k j c (by omega) (by omega) bj) cR_131 dR_pool_30 rfl lR_narrow (Nat.le_of_ble_eq_true rfl) (Nat.le_of_ble_eq_true rfl) (Nat.le_of_ble_eq_true rfl) (Nat.le_of_ble_eq_true rfl) k.m ?_
      rw [eN]
      refine rk_if_eq 42 dR_pool_33 (by decide) (fun q_33 => ?_) (fun q_33 => ?_)
      · have hgg : (ndB s (nI j) && btB (nI c) 0 11 && (z_fit (tN (nI c)) (s.N (tN (nI j))).h && z_fit (tN (nI c)) (s.N (tN (nI j))).w)) = true := by rw [htj, htc, b2n q_14, b2n q_24]; exact b2n q_33
        have hf := and2.mp (b2n q_33)
        refine rk_aload_n dR_pool_42 rfl ?_
        refine rk_getf fR_106 dR_pool_43 k.m rfl ?_
        refine rk_bipush (v := 14) dR_pool_46 (by decide) ?_
        refine rk_icmp_ne 57 dR_pool_48 (by decide) (fun q_48 => ?_) (fun q_48 => ?_)
        · have hno := hno (mt n14.mpr q_48)
          refine rk_aload_n dR_pool_57 rfl ?_
          refine rk_iload_n dR_pool_58 rfl ?_
          refine rk_if_eq 67 dR_pool_59 (by decide) (fun q_59 => ?_) (fun q_59 => ?_)
          · refine rk_bipush (v := 7) dR_pool_67 (by decide) ?_
            refine rk_iload_n dR_pool_69 rfl ?_
            refine rk_iconst (v := -1) dR_pool_70 (by decide) ?_
            refine rk_aload_n dR_pool_71 rfl ?_
            refine rk_aload_n dR_pool_72 rfl ?_
            refine rk_getf fR_26 dR_pool_73 k.m rfl ?_
            refine rk_iload_n dR_pool_76 rfl ?_
            refine rk_iald dR_pool_77 k.hi (vp_in_nI (show j < 14 by omega) (by omega)) ?_
            rw [nI_clamp (show j < 2 ^ 31 by omega), eN]
            refine rk_iload_n dR_pool_78 rfl ?_
            refine rk_cvV (c_R_places b A Y k c (s.N j).h (by omega) hw1.1 hb1.2.1 hf.1) cR_127 dR_pool_79 rfl lR_places (Nat.le_of_ble_eq_true rfl) (Nat.le_of_ble_eq_true rfl) (Nat.le_of_ble_eq_true rfl) (Nat.le_of_ble_eq_true rfl) k.m ?_
            refine rk_aload_n dR_pool_82 rfl ?_
            refine rk_aload_n dR_pool_83 rfl ?_
            refine rk_getf fR_29 dR_pool_84 k.m rfl ?_
            refine rk_iload_n dR_pool_87 rfl ?_
            refine rk_iald dR_pool_88 k.wi (vp_in_nI (show j < 14 by omega) (by omega)) ?_
            rw [nI_clamp (show j < 2 ^ 31 by omega), eN]
            refine rk_iload_n dR_pool_89 rfl ?_
            refine rk_cvV (c_R_places b A Y k c (s.N j).w (by omega) hw1.2.1 hb1.2.2.1 hf.2) cR_127 dR_pool_90 rfl lR_places (Nat.le_of_ble_eq_true rfl) (Nat.le_of_ble_eq_true rfl) (Nat.le_of_ble_eq_true rfl) (Nat.le_of_ble_eq_true rfl) k.m ?_
            refine rk_aload_n dR_pool_93 rfl ?_
            refine rk_getf fR_32 dR_pool_94 k.m rfl ?_
            refine rk_iload_n dR_pool_97 rfl ?_
            refine rk_iald dR_pool_98 k.de (vp_in_nI (show j < 14 by omega) (by omega)) ?_
            rw [nI_clamp (show j < 2 ^ 31 by omega), eN]
            refine rk_aload_n dR_pool_99 rfl ?_
            refine rk_getf fR_35 dR_pool_100 k.m rfl ?_
            refine rk_iload_n dR_pool_103 rfl ?_
            refine rk_dald dR_pool_104 k.sc (vp_in_nI (show j < 14 by omega) (by omega)) ?_
            rw [nI_clamp (show j < 2 ^ 31 by omega), eN]
            refine rk_cvV (c_R_mk b A Y k (if avg = 0 then 7 else 8) (some j) none (z_plc c (s.N j).h) (z_plc c (s.N j).w) (s.N j).c (s.N j).sc hno (by split <;> omega) (by first | (rw [if_pos q_59]; rfl) | (rw [if_neg q_59]; rfl)) rfl rfl rfl rfl rfl) cR_113 dR_pool_105 rfl lR_make (Nat.le_of_ble_eq_true rfl) (Nat.le_of_ble_eq_true rfl) (Nat.le_of_ble_eq_true rfl) (Nat.le_of_ble_eq_true rfl) k.m ?_
            refine rk_pop dR_pool_108 rfl ?_
            refine rk_aload_n dR_pool_109 rfl ?_
            refine rk_iload_n dR_pool_110 rfl ?_
            refine rk_iconst (v := 0) dR_pool_111 (by decide) ?_
            refine rk_iconst (v := 0) dR_pool_112 (by decide) ?_
            refine rk_iconst (v := 0) dR_pool_113 (by decide) ?_
            refine rk_cvV (c_R_fin b A (Y.mkd (if avg = 0 then 7 else 8) (some j) none (z_plc c (s.N j).h) (z_plc c (s.N j).w) (s.N j).c (s.N j).sc) k c 0 0 0 mkd_no hno rfl rfl) cR_117 dR_pool_114 rfl lR_finish (Nat.le_of_ble_eq_true rfl) (Nat.le_of_ble_eq_true rfl) (Nat.le_of_ble_eq_true rfl) (Nat.le_of_ble_eq_true rfl) k.m ?_
            exact rk_iret rfl dR_pool_117 ⟨(Nat.le_of_ble_eq_true rfl), (Nat.le_of_ble_eq_true rfl)⟩ (rPo.ps kY hfa (mk2_0 hgg (mt n14.mpr q_48)) (by rw [htj, htc, kw0]))
          · refine rk_bipush (v := 8) dR_pool_62 (by decide) ?_
            refine rk_goto 69 dR_pool_64 (by decide) ?_
            refine rk_iload_n dR_pool_69 rfl ?_
            refine rk_iconst (v := -1) dR_pool_70 (by decide) ?_
            refine rk_aload_n dR_pool_71 rfl ?_
            refine rk_aload_n dR_pool_72 rfl ?_
            refine rk_getf fR_26 dR_pool_73 k.m rfl ?_
            refine rk_iload_n dR_pool_76 rfl ?_
            refine rk_iald dR_pool_77 k.hi (vp_in_nI (show j < 14 by omega) (by omega)) ?_
            rw [nI_clamp (show j < 2 ^ 31 by omega), eN]
            refine rk_iload_n dR_pool_78 rfl ?_
            refine rk_cvV (c_R_places b A Y k c (s.N j).h (by omega) hw1.1 hb1.2.1 hf.1) cR_127 dR_pool_79 rfl lR_places (Nat.le_of_ble_eq_true rfl) (Nat.le_of_ble_eq_true rfl) (Nat.le_of_ble_eq_true rfl) (Nat.le_of_ble_eq_true rfl) k.m ?_
            refine rk_aload_n dR_pool_82 rfl ?_
            refine rk_aload_n dR_pool_83 rfl ?_
            refine rk_getf fR_29 dR_pool_84 k.m rfl ?_
            refine rk_iload_n dR_pool_87 rfl ?_
            refine rk_iald dR_pool_88 k.wi (vp_in_nI (show j < 14 by omega) (by omega)) ?_
            rw [nI_clamp (show j < 2 ^ 31 by omega), eN]
            refine rk_iload_n dR_pool_89 rfl ?_
            refine rk_cvV (c_R_places b A Y k c (s.N j).w (by omega) hw1.2.1 hb1.2.2.1 hf.2) cR_127 dR_pool_90 rfl lR_places (Nat.le_of_ble_eq_true rfl) (Nat.le_of_ble_eq_true rfl) (Nat.le_of_ble_eq_true rfl) (Nat.le_of_ble_eq_true rfl) k.m ?_
            refine rk_aload_n dR_pool_93 rfl ?_
            refine rk_getf fR_32 dR_pool_94 k.m rfl ?_
            refine rk_iload_n dR_pool_97 rfl ?_
            refine rk_iald dR_pool_98 k.de (vp_in_nI (show j < 14 by omega) (by omega)) ?_
            rw [nI_clamp (show j < 2 ^ 31 by omega), eN]
            refine rk_aload_n dR_pool_99 rfl ?_
            refine rk_getf fR_35 dR_pool_100 k.m rfl ?_
            refine rk_iload_n dR_pool_103 rfl ?_
            refine rk_dald dR_pool_104 k.sc (vp_in_nI (show j < 14 by omega) (by omega)) ?_
            rw [nI_clamp (show j < 2 ^ 31 by omega), eN]
            refine rk_cvV (c_R_mk b A Y k (if avg = 0 then 7 else 8) (some j) none (z_plc c (s.N j).h) (z_plc c (s.N j).w) (s.N j).c (s.N j).sc hno (by split <;> omega) (by first | (rw [if_pos q_59]; rfl) | (rw [if_neg q_59]; rfl)) rfl rfl rfl rfl rfl) cR_113 dR_pool_105 rfl lR_make (Nat.le_of_ble_eq_true rfl) (Nat.le_of_ble_eq_true rfl) (Nat.le_of_ble_eq_true rfl) (Nat.le_of_ble_eq_true rfl) k.m ?_
            refine rk_pop dR_pool_108 rfl ?_
            refine rk_aload_n dR_pool_109 rfl ?_
            refine rk_iload_n dR_pool_110 rfl ?_
            refine rk_iconst (v := 0) dR_pool_111 (by decide) ?_
            refine rk_iconst (v := 0) dR_pool_112 (by decide) ?_
            refine rk_iconst (v := 0) dR_pool_113 (by decide) ?_
            refine rk_cvV (c_R_fin b A (Y.mkd (if avg = 0 then 7 else 8) (some j) none (z_plc c (s.N j).h) (z_plc c (s.N j).w) (s.N j).c (s.N j).sc) k c 0 0 0 mkd_no hno rfl rfl) cR_117 dR_pool_114 rfl lR_finish (Nat.le_of_ble_eq_true rfl) (Nat.le_of_ble_eq_true rfl) (Nat.le_of_ble_eq_true rfl) (Nat.le_of_ble_eq_true rfl) k.m ?_
            exact rk_iret rfl dR_pool_117 ⟨(Nat.le_of_ble_eq_true rfl), (Nat.le_of_ble_eq_true rfl)⟩ (rPo.ps kY hfa (mk2_0 hgg (mt n14.mpr q_48)) (by rw [htj, htc, kw0]))
        · refine rk_aload_n dR_pool_51 rfl ?_
          refine rk_iconst (v := 2) dR_pool_52 (by decide) ?_
          refine rk_cvV (c_R_fail b A Y k 2) cR_98 dR_pool_53 rfl lR_fail (Nat.le_of_ble_eq_true rfl) (Nat.le_of_ble_eq_true rfl) (Nat.le_of_ble_eq_true rfl) (Nat.le_of_ble_eq_true rfl) k.m ?_
          exact rk_iret rfl dR_pool_56 ⟨(Nat.le_of_ble_eq_true rfl), (Nat.le_of_ble_eq_true rfl)⟩ (rPo.fl (c := 2) kY (mk2_2 hgg (n14.mp q_48)) (by decide))
      · refine rk_aload_n dR_pool_36 rfl ?_
        refine rk_iconst (v := 1) dR_pool_37 (by decide) ?_
        refine rk_cvV (c_R_fail b A Y k 1) cR_98 dR_pool_38 rfl lR_fail (Nat.le_of_ble_eq_true rfl) (Nat.le_of_ble_eq_true rfl) (Nat.le_of_ble_eq_true rfl) (Nat.le_of_ble_eq_true rfl) k.m ?_
        exact rk_iret rfl dR_pool_41 ⟨(Nat.le_of_ble_eq_true rfl), (Nat.le_of_ble_eq_true rfl)⟩ (rPo.fl (c := 1) kY (mk2_1 (fun hh => by first | (rw [htj, htc] at hh; simp only [Bool.and_eq_true, decide_eq_true_eq] at hh; simp_all [b2i]) | (simp only [Bool.and_eq_true, decide_eq_true_eq] at hh; simp_all [b2i]))) (by decide))
theorem c_R_windows (b : rk_H) (A : Nat → Nat) (X : rX) (s : aS) (k : rA A) (kX : rOK X s) (ok : aOK s) (p code dw off : Int32) (sc : UInt64) (hs : badS sc = !dsB sc) : rk_Con mR_windows (2, 33, 0, 0) [.ref (A 0), .int p, .int code, .int dw, .int off, .double sc] (rv b A X) (rPo b A (some (.int 0)) (opWindows s p code dw off sc)) := by
  have hn := ok.1.1
  have hbd := ok.1.2.1.bd
  refine rk_Con.of [some (.ref (A 0)), some (.int p), some (.int code), some (.int dw), some (.int off), some (.double sc), none, none, none, none] rfl (Nat.le_of_ble_eq_true rfl) (by decide +kernel) ?_
  refine rk_aload_n dR_windows_0 rfl ?_
  refine rk_iconst (v := 0) dR_windows_1 (by decide) ?_
  refine rk_putf pR_85 dR_windows_2 k.m (Nat.le_of_ble_eq_true rfl) rfl rfl ?_
  rw [k.ufa]
  skip
  have kY : rOK (X.wfa 0) s := kX
  have hfa : (X.wfa 0).fa = 0 := rfl
  generalize X.wfa 0 = Y at kY hfa ⊢
  have nd : ∀ x, ouB x (nI Y.no) = !ndB s x := fun x => kY.nd hn
  have n14 := kY.n14 hn
  have hno : ¬ s.n = 14 → Y.no < 14 := fun q => by rw [kY.1.2.1]; omega
  have eN := kY.1.1
  have eW := kY.1.2.2.2
  have eb : ∀ v a c : Int32, btB v a c = (decide (a ≤ v) && decide (v ≤ c)) := fun _ _ _ => rfl
  by_cases hd : dw = 0
  · refine rk_aload_n dR_windows_5 rfl ?_
    refine rk_iload_n dR_windows_6 rfl ?_
    refine rk_aload_n dR_windows_7 rfl ?_
    refine rk_getf fR_106 dR_windows_8 k.m rfl ?_
    refine rk_cvV (c_R_out b A Y p (nI Y.no)) cR_94 dR_windows_11 rfl lR_out (Nat.le_of_ble_eq_true rfl) (Nat.le_of_ble_eq_true rfl) (Nat.le_of_ble_eq_true rfl) (Nat.le_of_ble_eq_true rfl) k.m ?_
    rw [nd]
    refine rk_if_ne 55 dR_windows_14 (by decide) (fun q_14 => ?_) (fun q_14 => ?_)
    · refine rk_aload_n dR_windows_55 rfl ?_
      refine rk_iconst (v := 1) dR_windows_56 (by decide) ?_
      refine rk_cvV (c_R_fail b A Y k 1) cR_98 dR_windows_57 rfl lR_fail (Nat.le_of_ble_eq_true rfl) (Nat.le_of_ble_eq_true rfl) (Nat.le_of_ble_eq_true rfl) (Nat.le_of_ble_eq_true rfl) k.m ?_
      exact rk_iret rfl dR_windows_60 ⟨(Nat.le_of_ble_eq_true rfl), (Nat.le_of_ble_eq_true rfl)⟩ (rPo.fl (c := 1) kY (mk3_1 (fun hh => by rw [if_pos hd] at hh; simp only [Bool.and_eq_true, decide_eq_true_eq, eb] at hh; first | exact absurd hh.1.1.1.1 (by rw [b2n' q_14]; decide) | exact absurd hh.1.1.2 (by rw [b2n' q_23]; decide) | exact absurd hh.1.1.1.2.1 (Int32.not_le.mpr (Int32.lt_of_lt_of_le q_27 (by decide))) | exact absurd (Int32.le_trans q_42 hh.1.1.1.2.2) (by decide) | exact absurd hh.1.1.1.2.1 q_52)) (by decide))
    · refine rk_aload_n dR_windows_17 rfl ?_
      refine rk_dload dR_windows_18 rfl ?_
      refine rk_cvV (c_R_badScale b A Y sc) cR_102 dR_windows_20 rfl lR_badScale (Nat.le_of_ble_eq_true rfl) (Nat.le_of_ble_eq_true rfl) (Nat.le_of_ble_eq_true rfl) (Nat.le_of_ble_eq_true rfl) k.m ?_
      rw [hs]
      refine rk_if_ne 55 dR_windows_23 (by decide) (fun q_23 => ?_) (fun q_23 => ?_)
      · refine rk_aload_n dR_windows_55 rfl ?_
        refine rk_iconst (v := 1) dR_windows_56 (by decide) ?_
        refine rk_cvV (c_R_fail b A Y k 1) cR_98 dR_windows_57 rfl lR_fail (Nat.le_of_ble_eq_true rfl) (Nat.le_of_ble_eq_true rfl) (Nat.le_of_ble_eq_true rfl) (Nat.le_of_ble_eq_true rfl) k.m ?_
        exact rk_iret rfl dR_windows_60 ⟨(Nat.le_of_ble_eq_true rfl), (Nat.le_of_ble_eq_true rfl)⟩ (rPo.fl (c := 1) kY (mk3_1 (fun hh => by rw [if_pos hd] at hh; simp only [Bool.and_eq_true, decide_eq_true_eq, eb] at hh; first | exact absurd hh.1.1.1.1 (by rw [b2n' q_14]; decide) | exact absurd hh.1.1.2 (by rw [b2n' q_23]; decide) | exact absurd hh.1.1.1.2.1 (Int32.not_le.mpr (Int32.lt_of_lt_of_le q_27 (by decide))) | exact absurd (Int32.le_trans q_42 hh.1.1.1.2.2) (by decide) | exact absurd hh.1.1.1.2.1 q_52)) (by decide))
      · refine rk_iload_n dR_windows_26 rfl ?_
        refine rk_if_lt 55 dR_windows_27 (by decide) (fun q_27 => ?_) (fun q_27 => ?_)
        · refine rk_aload_n dR_windows_55 rfl ?_
          refine rk_iconst (v := 1) dR_windows_56 (by decide) ?_
          refine rk_cvV (c_R_fail b A Y k 1) cR_98 dR_windows_57 rfl lR_fail (Nat.le_of_ble_eq_true rfl) (Nat.le_of_ble_eq_true rfl) (Nat.le_of_ble_eq_true rfl) (Nat.le_of_ble_eq_true rfl) k.m ?_
          exact rk_iret rfl dR_windows_60 ⟨(Nat.le_of_ble_eq_true rfl), (Nat.le_of_ble_eq_true rfl)⟩ (rPo.fl (c := 1) kY (mk3_1 (fun hh => by rw [if_pos hd] at hh; simp only [Bool.and_eq_true, decide_eq_true_eq, eb] at hh; first | exact absurd hh.1.1.1.1 (by rw [b2n' q_14]; decide) | exact absurd hh.1.1.2 (by rw [b2n' q_23]; decide) | exact absurd hh.1.1.1.2.1 (Int32.not_le.mpr (Int32.lt_of_lt_of_le q_27 (by decide))) | exact absurd (Int32.le_trans q_42 hh.1.1.1.2.2) (by decide) | exact absurd hh.1.1.1.2.1 q_52)) (by decide))
        · refine rk_iload_n dR_windows_30 rfl ?_
          refine rk_iload_n dR_windows_31 rfl ?_
          refine rk_if_eq 40 dR_windows_32 (by decide) (fun q_32 => ?_) (fun q_32 => ?_)
          · refine rk_bipush (v := 108) dR_windows_40 (by decide) ?_
            refine rk_icmp_ge 55 dR_windows_42 (by decide) (fun q_42 => ?_) (fun q_42 => ?_)
            · refine rk_aload_n dR_windows_55 rfl ?_
              refine rk_iconst (v := 1) dR_windows_56 (by decide) ?_
              refine rk_cvV (c_R_fail b A Y k 1) cR_98 dR_windows_57 rfl lR_fail (Nat.le_of_ble_eq_true rfl) (Nat.le_of_ble_eq_true rfl) (Nat.le_of_ble_eq_true rfl) (Nat.le_of_ble_eq_true rfl) k.m ?_
              exact rk_iret rfl dR_windows_60 ⟨(Nat.le_of_ble_eq_true rfl), (Nat.le_of_ble_eq_true rfl)⟩ (rPo.fl (c := 1) kY (mk3_1 (fun hh => by rw [if_pos hd] at hh; simp only [Bool.and_eq_true, decide_eq_true_eq, eb] at hh; first | exact absurd hh.1.1.1.1 (by rw [b2n' q_14]; decide) | exact absurd hh.1.1.2 (by rw [b2n' q_23]; decide) | exact absurd hh.1.1.1.2.1 (Int32.not_le.mpr (Int32.lt_of_lt_of_le q_27 (by decide))) | exact absurd (Int32.le_trans q_42 hh.1.1.1.2.2) (by decide) | exact absurd hh.1.1.1.2.1 q_52)) (by decide))
            · refine rk_iload_n dR_windows_45 rfl ?_
              refine rk_if_ne 61 dR_windows_46 (by decide) (fun q_46 => ?_) (fun q_46 => ?_)
              · exact absurd hd q_46
              · refine rk_iload_n dR_windows_49 rfl ?_
                refine rk_bipush (v := 12) dR_windows_50 (by decide) ?_
                refine rk_icmp_ge 61 dR_windows_52 (by decide) (fun q_52 => ?_) (fun q_52 => ?_)
                · obtain ⟨j, hj, rfl⟩ := ndB_of hn (b2n q_14)
                  have htj : tN (nI j) = j := tN_I (by omega)
                  have hw1 := (ok.1.2.1 j hj).1.2.1
                  have hb1 := (hbd j hj).1
                  have bj : bdI (Y.N j) := by rw [eN]; exact hbd j hj
                  obtain ⟨c, hc0, rfl⟩ := nI_of q_27
                  have hc : 12 ≤ c ∧ c ≤ 107 := ⟨(nI_leI (a := 12) (by omega) (by omega)).mp q_52, by have := mt (nI_leI (a := 108) (b := c) (by omega) (by omega)).mpr q_42; omega⟩
                  have htc : tN (nI c) = c := tN_I hc0
                  have hco : wCo (nI c) = c % 12 := by unfold wCo; rw [htc]
                  have hch : wCh (s.N j) (nI c) dw = c / 12 := by unfold wCh; rw [if_pos hd, htc]
                  have hpc : wPc (s.N j) (nI c) dw = z_size (c % 12) * z_size (c % 12) * (s.N j).c := by unfold wPc; rw [if_pos hd, hco]
                  have hsc := d_scl_iff.mp (dsB_iff.mp (b2n q_23))
                  have hgw : (if dw = 0 then btB (nI c) 12 107 else btB (nI c) 0 11) = true := by rw [if_pos hd]; exact btB_iff.mpr ⟨q_52, nI_le (b := 107) hc.2 (by omega)⟩
                  refine rk_iload_n dR_windows_61 rfl ?_
                  refine rk_bipush (v := 12) dR_windows_62 (by decide) ?_
                  refine rk_irem dR_windows_64 (by decide) ?_
                  rw [show (12 : Int32) = nI 12 from rfl, pk_rem (by omega) (by omega) (by omega)]
                  refine rk_istore dR_windows_65 (Nat.le_of_ble_eq_true rfl) ?_
                  refine rk_iload_n dR_windows_67 rfl ?_
                  refine rk_if_eq 80 dR_windows_68 (by decide) (fun q_68 => ?_) (fun q_68 => ?_)
                  · refine rk_iload_n dR_windows_80 rfl ?_
                    refine rk_bipush (v := 12) dR_windows_81 (by decide) ?_
                    refine rk_idiv dR_windows_83 (by decide) ?_
                    rw [show (12 : Int32) = nI 12 from rfl, pk_div (by omega) (by omega) (by omega)]
                    refine rk_istore dR_windows_84 (Nat.le_of_ble_eq_true rfl) ?_
                    refine rk_lv [some (.ref (A 0)), some (.int (nI j)), some (.int (nI c)), some (.int dw), some (.int off), some (.double sc), none, some (.int (nI (c % 12))), some (.int (nI (c / 12))), none] ⟨rfl, rfl, rfl, rfl, rfl, rfl, rfl, rfl, trivial⟩ ?_
                    refine rk_iload_n dR_windows_86 rfl ?_
                    refine rk_if_eq 112 dR_windows_87 (by decide) (fun q_87 => ?_) (fun q_87 => ?_)
                    · refine rk_iload dR_windows_112 rfl ?_
                      refine rk_aload_n dR_windows_114 rfl ?_
                      refine rk_iload dR_windows_115 rfl ?_
                      refine rk_cvV (c_R_side b A Y (c % 12) (by omega)) cR_124 dR_windows_117 rfl lR_side (Nat.le_of_ble_eq_true rfl) (Nat.le_of_ble_eq_true rfl) (Nat.le_of_ble_eq_true rfl) (Nat.le_of_ble_eq_true rfl) k.m ?_
                      refine rk_imul dR_windows_120 ?_
                      refine rk_aload_n dR_windows_121 rfl ?_
                      refine rk_iload dR_windows_122 rfl ?_
                      refine rk_cvV (c_R_side b A Y (c % 12) (by omega)) cR_124 dR_windows_124 rfl lR_side (Nat.le_of_ble_eq_true rfl) (Nat.le_of_ble_eq_true rfl) (Nat.le_of_ble_eq_true rfl) (Nat.le_of_ble_eq_true rfl) k.m ?_
                      refine rk_imul dR_windows_127 ?_
                      refine rk_aload_n dR_windows_128 rfl ?_
                      refine rk_getf fR_32 dR_windows_129 k.m rfl ?_
                      refine rk_iload_n dR_windows_132 rfl ?_
                      refine rk_iald dR_windows_133 k.de (vp_in_nI (show j < 14 by omega) (by omega)) ?_
                      rw [nI_clamp (show j < 2 ^ 31 by omega), eN]
                      refine rk_imul dR_windows_134 ?_
                      refine rk_iload dR_windows_135 rfl ?_
                      refine rk_iadd dR_windows_137 ?_
                      rw [pk_mul, pk_mul, pk_mul, nI_add]
                      refine rk_istore dR_windows_138 (Nat.le_of_ble_eq_true rfl) ?_
                      refine rk_lv [some (.ref (A 0)), some (.int (nI j)), some (.int (nI c)), some (.int dw), some (.int off), some (.double sc), none, some (.int (nI (c % 12))), some (.int (nI (c / 12))), some (.int (nI (c / 12 * z_size (c % 12) * z_size (c % 12) * (s.N j).c + c / 12)))] ⟨rfl, rfl, rfl, rfl, rfl, rfl, rfl, rfl, rfl, trivial⟩ ?_
                      refine rk_aload_n dR_windows_140 rfl ?_
                      refine rk_iload_n dR_windows_141 rfl ?_
                      refine rk_iload dR_windows_142 rfl ?_
                      refine rk_cvV (c_R_narrow b A Y k j (c % 12) (by omega) (by omega) bj) cR_131 dR_windows_144 rfl lR_narrow (Nat.le_of_ble_eq_true rfl) (Nat.le_of_ble_eq_true rfl) (Nat.le_of_ble_eq_true rfl) (Nat.le_of_ble_eq_true rfl) k.m ?_
                      rw [eN]
                      refine rk_if_ne 166 dR_windows_147 (by decide) (fun q_147 => ?_) (fun q_147 => ?_)
                      · refine rk_aload_n dR_windows_166 rfl ?_
                        refine rk_iconst (v := 1) dR_windows_167 (by decide) ?_
                        refine rk_cvV (c_R_fail b A Y k 1) cR_98 dR_windows_168 rfl lR_fail (Nat.le_of_ble_eq_true rfl) (Nat.le_of_ble_eq_true rfl) (Nat.le_of_ble_eq_true rfl) (Nat.le_of_ble_eq_true rfl) k.m ?_
                        exact rk_iret rfl dR_windows_171 ⟨(Nat.le_of_ble_eq_true rfl), (Nat.le_of_ble_eq_true rfl)⟩ (rPo.fl (c := 1) kY (mk3_1 (fun hh => by rw [htj, hco, hch, hpc, pk_mul, sub_2, show c / 12 * (z_size (c % 12) * z_size (c % 12) * (s.N j).c) + c / 12 = c / 12 * z_size (c % 12) * z_size (c % 12) * (s.N j).c + c / 12 by rw [Nat.mul_assoc, Nat.mul_assoc, Nat.mul_assoc]] at hh; simp only [Bool.and_eq_true, decide_eq_true_eq, eb] at hh; first | exact absurd (and2.mpr hh.1.2) (by rw [b2n' q_147]; decide) | exact absurd hh.2.1 (Int32.not_le.mpr q_152) | exact q_163 hh.2.2)) (by decide))
                      · refine rk_iload dR_windows_150 rfl ?_
                        refine rk_if_lt 166 dR_windows_152 (by decide) (fun q_152 => ?_) (fun q_152 => ?_)
                        · refine rk_aload_n dR_windows_166 rfl ?_
                          refine rk_iconst (v := 1) dR_windows_167 (by decide) ?_
                          refine rk_cvV (c_R_fail b A Y k 1) cR_98 dR_windows_168 rfl lR_fail (Nat.le_of_ble_eq_true rfl) (Nat.le_of_ble_eq_true rfl) (Nat.le_of_ble_eq_true rfl) (Nat.le_of_ble_eq_true rfl) k.m ?_
                          exact rk_iret rfl dR_windows_171 ⟨(Nat.le_of_ble_eq_true rfl), (Nat.le_of_ble_eq_true rfl)⟩ (rPo.fl (c := 1) kY (mk3_1 (fun hh => by rw [htj, hco, hch, hpc, pk_mul, sub_2, show c / 12 * (z_size (c % 12) * z_size (c % 12) * (s.N j).c) + c / 12 = c / 12 * z_size (c % 12) * z_size (c % 12) * (s.N j).c + c / 12 by rw [Nat.mul_assoc, Nat.mul_assoc, Nat.mul_assoc]] at hh; simp only [Bool.and_eq_true, decide_eq_true_eq, eb] at hh; first | exact absurd (and2.mpr hh.1.2) (by rw [b2n' q_147]; decide) | exact absurd hh.2.1 (Int32.not_le.mpr q_152) | exact q_163 hh.2.2)) (by decide))
                        · refine rk_iload dR_windows_155 rfl ?_
                          refine rk_sipush (v := 512) dR_windows_157 (by decide) ?_
                          refine rk_iload dR_windows_160 rfl ?_
                          refine rk_isub dR_windows_162 ?_
                          refine rk_icmp_le 172 dR_windows_163 (by decide) (fun q_163 => ?_) (fun q_163 => ?_)
                          · have hf := and2.mp (b2n q_147)
                            have emn : c / 12 * (z_size (c % 12) * z_size (c % 12) * (s.N j).c) + c / 12 = c / 12 * z_size (c % 12) * z_size (c % 12) * (s.N j).c + c / 12 := by rw [Nat.mul_assoc, Nat.mul_assoc, Nat.mul_assoc]
                            have hgg : (ndB s (nI j) && (if dw = 0 then btB (nI c) 12 107 else btB (nI c) 0 11) && dsB sc && (z_fit (wCo (nI c)) (s.N (tN (nI j))).h && z_fit (wCo (nI c)) (s.N (tN (nI j))).w) && btB off 0 (512 - nI (wCh (s.N (tN (nI j))) (nI c) dw) * nI (wPc (s.N (tN (nI j))) (nI c) dw) - nI (wCh (s.N (tN (nI j))) (nI c) dw))) = true := by rw [htj, hco, hch, hpc, pk_mul, sub_2, emn, hgw, b2n q_14, b2n q_23, hf.1, hf.2]; exact btB_iff.mpr ⟨Int32.not_lt.mp q_152, q_163⟩
                            refine rk_aload_n dR_windows_172 rfl ?_
                            refine rk_aload_n dR_windows_173 rfl ?_
                            refine rk_getf fR_35 dR_windows_174 k.m rfl ?_
                            refine rk_iload_n dR_windows_177 rfl ?_
                            refine rk_dald dR_windows_178 k.sc (vp_in_nI (show j < 14 by omega) (by omega)) ?_
                            rw [nI_clamp (show j < 2 ^ 31 by omega), eN]
                            refine rk_aload_n dR_windows_179 rfl ?_
                            refine rk_getf fR_13 dR_windows_180 k.m rfl ?_
                            rw [eW]
                            refine rk_dmul dR_windows_183 (fp_rat1 (hbd j hj).2.1 ok.1.2.2.2 hsc).1 ?_
                            refine rk_dload dR_windows_184 rfl ?_
                            refine rk_ddiv dR_windows_186 (fp_rat1 (hbd j hj).2.1 ok.1.2.2.2 hsc).2 ?_
                            refine rk_cvV (c_R_badRatio b A Y (FP.ddiv (FP.dmul (s.N j).sc s.ws) sc)) cR_134 dR_windows_187 rfl lR_badRatio (Nat.le_of_ble_eq_true rfl) (Nat.le_of_ble_eq_true rfl) (Nat.le_of_ble_eq_true rfl) (Nat.le_of_ble_eq_true rfl) k.m ?_
                            refine rk_if_eq 199 dR_windows_190 (by decide) (fun q_190 => ?_) (fun q_190 => ?_)
                            · refine rk_aload_n dR_windows_199 rfl ?_
                              refine rk_getf fR_106 dR_windows_200 k.m rfl ?_
                              refine rk_bipush (v := 14) dR_windows_203 (by decide) ?_
                              refine rk_icmp_ne 214 dR_windows_205 (by decide) (fun q_205 => ?_) (fun q_205 => ?_)
                              · have hno := hno (mt n14.mpr q_205)
                                obtain ⟨f, hff, rfl⟩ := nI_of q_152
                                refine rk_aload_n dR_windows_214 rfl ?_
                                refine rk_iload_n dR_windows_215 rfl ?_
                                refine rk_if_eq 223 dR_windows_216 (by decide) (fun q_216 => ?_) (fun q_216 => ?_)
                                · refine rk_iconst (v := 1) dR_windows_223 (by decide) ?_
                                  refine rk_iload_n dR_windows_224 rfl ?_
                                  refine rk_iconst (v := -1) dR_windows_225 (by decide) ?_
                                  refine rk_aload_n dR_windows_226 rfl ?_
                                  refine rk_aload_n dR_windows_227 rfl ?_
                                  refine rk_getf fR_26 dR_windows_228 k.m rfl ?_
                                  refine rk_iload_n dR_windows_231 rfl ?_
                                  refine rk_iald dR_windows_232 k.hi (vp_in_nI (show j < 14 by omega) (by omega)) ?_
                                  rw [nI_clamp (show j < 2 ^ 31 by omega), eN]
                                  refine rk_iload dR_windows_233 rfl ?_
                                  refine rk_cvV (c_R_places b A Y k (c % 12) (s.N j).h (by omega) hw1.1 hb1.2.1 hf.1) cR_127 dR_windows_235 rfl lR_places (Nat.le_of_ble_eq_true rfl) (Nat.le_of_ble_eq_true rfl) (Nat.le_of_ble_eq_true rfl) (Nat.le_of_ble_eq_true rfl) k.m ?_
                                  refine rk_aload_n dR_windows_238 rfl ?_
                                  refine rk_aload_n dR_windows_239 rfl ?_
                                  refine rk_getf fR_29 dR_windows_240 k.m rfl ?_
                                  refine rk_iload_n dR_windows_243 rfl ?_
                                  refine rk_iald dR_windows_244 k.wi (vp_in_nI (show j < 14 by omega) (by omega)) ?_
                                  rw [nI_clamp (show j < 2 ^ 31 by omega), eN]
                                  refine rk_iload dR_windows_245 rfl ?_
                                  refine rk_cvV (c_R_places b A Y k (c % 12) (s.N j).w (by omega) hw1.2.1 hb1.2.2.1 hf.2) cR_127 dR_windows_247 rfl lR_places (Nat.le_of_ble_eq_true rfl) (Nat.le_of_ble_eq_true rfl) (Nat.le_of_ble_eq_true rfl) (Nat.le_of_ble_eq_true rfl) k.m ?_
                                  refine rk_iload dR_windows_250 rfl ?_
                                  refine rk_dload dR_windows_252 rfl ?_
                                  refine rk_cvV (c_R_mk b A Y k 1 (some j) none (z_plc (c % 12) (s.N j).h) (z_plc (c % 12) (s.N j).w) (c / 12) sc hno (by omega) rfl rfl rfl rfl rfl rfl) cR_113 dR_windows_254 rfl lR_make (Nat.le_of_ble_eq_true rfl) (Nat.le_of_ble_eq_true rfl) (Nat.le_of_ble_eq_true rfl) (Nat.le_of_ble_eq_true rfl) k.m ?_
                                  refine rk_pop dR_windows_257 rfl ?_
                                  refine rk_aload_n dR_windows_258 rfl ?_
                                  refine rk_iload dR_windows_259 rfl ?_
                                  refine rk_iload dR_windows_261 rfl ?_
                                  refine rk_iconst (v := 0) dR_windows_263 (by decide) ?_
                                  refine rk_iconst (v := 0) dR_windows_264 (by decide) ?_
                                  refine rk_cvV (c_R_fin b A (Y.mkd 1 (some j) none (z_plc (c % 12) (s.N j).h) (z_plc (c % 12) (s.N j).w) (c / 12) sc) k (c % 12) f 0 0 mkd_no hno rfl rfl) cR_117 dR_windows_265 rfl lR_finish (Nat.le_of_ble_eq_true rfl) (Nat.le_of_ble_eq_true rfl) (Nat.le_of_ble_eq_true rfl) (Nat.le_of_ble_eq_true rfl) k.m ?_
                                  exact rk_iret rfl dR_windows_268 ⟨(Nat.le_of_ble_eq_true rfl), (Nat.le_of_ble_eq_true rfl)⟩ (rPo.ps kY hfa (mk3_0 hgg (by rw [htj]; exact b2n q_190) (mt n14.mpr q_205)) (by rw [htj, hco, hch, if_pos hd, tN_I hff]; rfl))
                                · exact absurd hd q_216
                              · refine rk_aload_n dR_windows_208 rfl ?_
                                refine rk_iconst (v := 3) dR_windows_209 (by decide) ?_
                                refine rk_cvV (c_R_fail b A Y k 3) cR_98 dR_windows_210 rfl lR_fail (Nat.le_of_ble_eq_true rfl) (Nat.le_of_ble_eq_true rfl) (Nat.le_of_ble_eq_true rfl) (Nat.le_of_ble_eq_true rfl) k.m ?_
                                exact rk_iret rfl dR_windows_213 ⟨(Nat.le_of_ble_eq_true rfl), (Nat.le_of_ble_eq_true rfl)⟩ (rPo.fl (c := 3) kY (mk3_3 hgg (by rw [htj]; exact b2n q_190) (n14.mp q_205)) (by decide))
                            · refine rk_aload_n dR_windows_193 rfl ?_
                              refine rk_iconst (v := 2) dR_windows_194 (by decide) ?_
                              refine rk_cvV (c_R_fail b A Y k 2) cR_98 dR_windows_195 rfl lR_fail (Nat.le_of_ble_eq_true rfl) (Nat.le_of_ble_eq_true rfl) (Nat.le_of_ble_eq_true rfl) (Nat.le_of_ble_eq_true rfl) k.m ?_
                              exact rk_iret rfl dR_windows_198 ⟨(Nat.le_of_ble_eq_true rfl), (Nat.le_of_ble_eq_true rfl)⟩ (rPo.fl (c := 2) kY (mk3_2 hgg (by rw [htj, b2n' q_190]; decide)) (by decide))
                          · refine rk_aload_n dR_windows_166 rfl ?_
                            refine rk_iconst (v := 1) dR_windows_167 (by decide) ?_
                            refine rk_cvV (c_R_fail b A Y k 1) cR_98 dR_windows_168 rfl lR_fail (Nat.le_of_ble_eq_true rfl) (Nat.le_of_ble_eq_true rfl) (Nat.le_of_ble_eq_true rfl) (Nat.le_of_ble_eq_true rfl) k.m ?_
                            exact rk_iret rfl dR_windows_171 ⟨(Nat.le_of_ble_eq_true rfl), (Nat.le_of_ble_eq_true rfl)⟩ (rPo.fl (c := 1) kY (mk3_1 (fun hh => by rw [htj, hco, hch, hpc, pk_mul, sub_2, show c / 12 * (z_size (c % 12) * z_size (c % 12) * (s.N j).c) + c / 12 = c / 12 * z_size (c % 12) * z_size (c % 12) * (s.N j).c + c / 12 by rw [Nat.mul_assoc, Nat.mul_assoc, Nat.mul_assoc]] at hh; simp only [Bool.and_eq_true, decide_eq_true_eq, eb] at hh; first | exact absurd (and2.mpr hh.1.2) (by rw [b2n' q_147]; decide) | exact absurd hh.2.1 (Int32.not_le.mpr q_152) | exact q_163 hh.2.2)) (by decide))
                    · exact absurd hd q_87
                  · exact absurd hd q_68
                · refine rk_aload_n dR_windows_55 rfl ?_
                  refine rk_iconst (v := 1) dR_windows_56 (by decide) ?_
                  refine rk_cvV (c_R_fail b A Y k 1) cR_98 dR_windows_57 rfl lR_fail (Nat.le_of_ble_eq_true rfl) (Nat.le_of_ble_eq_true rfl) (Nat.le_of_ble_eq_true rfl) (Nat.le_of_ble_eq_true rfl) k.m ?_
                  exact rk_iret rfl dR_windows_60 ⟨(Nat.le_of_ble_eq_true rfl), (Nat.le_of_ble_eq_true rfl)⟩ (rPo.fl (c := 1) kY (mk3_1 (fun hh => by rw [if_pos hd] at hh; simp only [Bool.and_eq_true, decide_eq_true_eq, eb] at hh; first | exact absurd hh.1.1.1.1 (by rw [b2n' q_14]; decide) | exact absurd hh.1.1.2 (by rw [b2n' q_23]; decide) | exact absurd hh.1.1.1.2.1 (Int32.not_le.mpr (Int32.lt_of_lt_of_le q_27 (by decide))) | exact absurd (Int32.le_trans q_42 hh.1.1.1.2.2) (by decide) | exact absurd hh.1.1.1.2.1 q_52)) (by decide))
          · exact absurd hd q_32
  · refine rk_aload_n dR_windows_5 rfl ?_
    refine rk_iload_n dR_windows_6 rfl ?_
    refine rk_aload_n dR_windows_7 rfl ?_
    refine rk_getf fR_106 dR_windows_8 k.m rfl ?_
    refine rk_cvV (c_R_out b A Y p (nI Y.no)) cR_94 dR_windows_11 rfl lR_out (Nat.le_of_ble_eq_true rfl) (Nat.le_of_ble_eq_true rfl) (Nat.le_of_ble_eq_true rfl) (Nat.le_of_ble_eq_true rfl) k.m ?_
    rw [nd]
    refine rk_if_ne 55 dR_windows_14 (by decide) (fun q_14 => ?_) (fun q_14 => ?_)
    · refine rk_aload_n dR_windows_55 rfl ?_
      refine rk_iconst (v := 1) dR_windows_56 (by decide) ?_
      refine rk_cvV (c_R_fail b A Y k 1) cR_98 dR_windows_57 rfl lR_fail (Nat.le_of_ble_eq_true rfl) (Nat.le_of_ble_eq_true rfl) (Nat.le_of_ble_eq_true rfl) (Nat.le_of_ble_eq_true rfl) k.m ?_
      exact rk_iret rfl dR_windows_60 ⟨(Nat.le_of_ble_eq_true rfl), (Nat.le_of_ble_eq_true rfl)⟩ (rPo.fl (c := 1) kY (mk3_1 (fun hh => by rw [if_neg hd] at hh; simp only [Bool.and_eq_true, decide_eq_true_eq, eb] at hh; first | exact absurd hh.1.1.1.1 (by rw [b2n' q_14]; decide) | exact absurd hh.1.1.2 (by rw [b2n' q_23]; decide) | exact absurd hh.1.1.1.2.1 (Int32.not_le.mpr (Int32.lt_of_lt_of_le q_27 (by decide))) | exact absurd (Int32.le_trans q_42 hh.1.1.1.2.2) (by decide) | exact absurd hh.1.1.1.2.1 q_52)) (by decide))
    · refine rk_aload_n dR_windows_17 rfl ?_
      refine rk_dload dR_windows_18 rfl ?_
      refine rk_cvV (c_R_badScale b A Y sc) cR_102 dR_windows_20 rfl lR_badScale (Nat.le_of_ble_eq_true rfl) (Nat.le_of_ble_eq_true rfl) (Nat.le_of_ble_eq_true rfl) (Nat.le_of_ble_eq_true rfl) k.m ?_
      rw [hs]
      refine rk_if_ne 55 dR_windows_23 (by decide) (fun q_23 => ?_) (fun q_23 => ?_)
      · refine rk_aload_n dR_windows_55 rfl ?_
        refine rk_iconst (v := 1) dR_windows_56 (by decide) ?_
        refine rk_cvV (c_R_fail b A Y k 1) cR_98 dR_windows_57 rfl lR_fail (Nat.le_of_ble_eq_true rfl) (Nat.le_of_ble_eq_true rfl) (Nat.le_of_ble_eq_true rfl) (Nat.le_of_ble_eq_true rfl) k.m ?_
        exact rk_iret rfl dR_windows_60 ⟨(Nat.le_of_ble_eq_true rfl), (Nat.le_of_ble_eq_true rfl)⟩ (rPo.fl (c := 1) kY (mk3_1 (fun hh => by rw [if_neg hd] at hh; simp only [Bool.and_eq_true, decide_eq_true_eq, eb] at hh; first | exact absurd hh.1.1.1.1 (by rw [b2n' q_14]; decide) | exact absurd hh.1.1.2 (by rw [b2n' q_23]; decide) | exact absurd hh.1.1.1.2.1 (Int32.not_le.mpr (Int32.lt_of_lt_of_le q_27 (by decide))) | exact absurd (Int32.le_trans q_42 hh.1.1.1.2.2) (by decide) | exact absurd hh.1.1.1.2.1 q_52)) (by decide))
      · refine rk_iload_n dR_windows_26 rfl ?_
        refine rk_if_lt 55 dR_windows_27 (by decide) (fun q_27 => ?_) (fun q_27 => ?_)
        · refine rk_aload_n dR_windows_55 rfl ?_
          refine rk_iconst (v := 1) dR_windows_56 (by decide) ?_
          refine rk_cvV (c_R_fail b A Y k 1) cR_98 dR_windows_57 rfl lR_fail (Nat.le_of_ble_eq_true rfl) (Nat.le_of_ble_eq_true rfl) (Nat.le_of_ble_eq_true rfl) (Nat.le_of_ble_eq_true rfl) k.m ?_
          exact rk_iret rfl dR_windows_60 ⟨(Nat.le_of_ble_eq_true rfl), (Nat.le_of_ble_eq_true rfl)⟩ (rPo.fl (c := 1) kY (mk3_1 (fun hh => by rw [if_neg hd] at hh; simp only [Bool.and_eq_true, decide_eq_true_eq, eb] at hh; first | exact absurd hh.1.1.1.1 (by rw [b2n' q_14]; decide) | exact absurd hh.1.1.2 (by rw [b2n' q_23]; decide) | exact absurd hh.1.1.1.2.1 (Int32.not_le.mpr (Int32.lt_of_lt_of_le q_27 (by decide))) | exact absurd (Int32.le_trans q_42 hh.1.1.1.2.2) (by decide) | exact absurd hh.1.1.1.2.1 q_52)) (by decide))
        · refine rk_iload_n dR_windows_30 rfl ?_
          refine rk_iload_n dR_windows_31 rfl ?_
          refine rk_if_eq 40 dR_windows_32 (by decide) (fun q_32 => ?_) (fun q_32 => ?_)
          · exact absurd q_32 hd
          · refine rk_bipush (v := 12) dR_windows_35 (by decide) ?_
            refine rk_goto 42 dR_windows_37 (by decide) ?_
            refine rk_icmp_ge 55 dR_windows_42 (by decide) (fun q_42 => ?_) (fun q_42 => ?_)
            · refine rk_aload_n dR_windows_55 rfl ?_
              refine rk_iconst (v := 1) dR_windows_56 (by decide) ?_
              refine rk_cvV (c_R_fail b A Y k 1) cR_98 dR_windows_57 rfl lR_fail (Nat.le_of_ble_eq_true rfl) (Nat.le_of_ble_eq_true rfl) (Nat.le_of_ble_eq_true rfl) (Nat.le_of_ble_eq_true rfl) k.m ?_
              exact rk_iret rfl dR_windows_60 ⟨(Nat.le_of_ble_eq_true rfl), (Nat.le_of_ble_eq_true rfl)⟩ (rPo.fl (c := 1) kY (mk3_1 (fun hh => by rw [if_neg hd] at hh; simp only [Bool.and_eq_true, decide_eq_true_eq, eb] at hh; first | exact absurd hh.1.1.1.1 (by rw [b2n' q_14]; decide) | exact absurd hh.1.1.2 (by rw [b2n' q_23]; decide) | exact absurd hh.1.1.1.2.1 (Int32.not_le.mpr (Int32.lt_of_lt_of_le q_27 (by decide))) | exact absurd (Int32.le_trans q_42 hh.1.1.1.2.2) (by decide) | exact absurd hh.1.1.1.2.1 q_52)) (by decide))
            · refine rk_iload_n dR_windows_45 rfl ?_
              refine rk_if_ne 61 dR_windows_46 (by decide) (fun q_46 => ?_) (fun q_46 => ?_)
              · obtain ⟨j, hj, rfl⟩ := ndB_of hn (b2n q_14)
                have htj : tN (nI j) = j := tN_I (by omega)
                have hw1 := (ok.1.2.1 j hj).1.2.1
                have hb1 := (hbd j hj).1
                have bj : bdI (Y.N j) := by rw [eN]; exact hbd j hj
                obtain ⟨c, hc0, rfl⟩ := nI_of q_27
                have hc : c ≤ 11 := (by have := mt (nI_leI (a := 12) (b := c) (by omega) (by omega)).mpr q_42; omega)
                have htc : tN (nI c) = c := tN_I hc0
                have hco : wCo (nI c) = c % 12 := by unfold wCo; rw [htc]
                have hch : wCh (s.N j) (nI c) dw = (s.N j).c := by unfold wCh; rw [if_neg hd]
                have hpc : wPc (s.N j) (nI c) dw = z_size (c % 12) * z_size (c % 12) * 1 := by unfold wPc; rw [if_neg hd, hco]
                have hsc := d_scl_iff.mp (dsB_iff.mp (b2n q_23))
                have hgw : (if dw = 0 then btB (nI c) 12 107 else btB (nI c) 0 11) = true := by rw [if_neg hd]; exact btB_iff.mpr ⟨nI_pos' (by omega), nI_le (b := 11) hc (by omega)⟩
                refine rk_iload_n dR_windows_61 rfl ?_
                refine rk_bipush (v := 12) dR_windows_62 (by decide) ?_
                refine rk_irem dR_windows_64 (by decide) ?_
                rw [show (12 : Int32) = nI 12 from rfl, pk_rem (by omega) (by omega) (by omega)]
                refine rk_istore dR_windows_65 (Nat.le_of_ble_eq_true rfl) ?_
                refine rk_iload_n dR_windows_67 rfl ?_
                refine rk_if_eq 80 dR_windows_68 (by decide) (fun q_68 => ?_) (fun q_68 => ?_)
                · exact absurd q_68 hd
                · refine rk_aload_n dR_windows_71 rfl ?_
                  refine rk_getf fR_32 dR_windows_72 k.m rfl ?_
                  refine rk_iload_n dR_windows_75 rfl ?_
                  refine rk_iald dR_windows_76 k.de (vp_in_nI (show j < 14 by omega) (by omega)) ?_
                  rw [nI_clamp (show j < 2 ^ 31 by omega), eN]
                  refine rk_goto 84 dR_windows_77 (by decide) ?_
                  refine rk_istore dR_windows_84 (Nat.le_of_ble_eq_true rfl) ?_
                  refine rk_lv [some (.ref (A 0)), some (.int (nI j)), some (.int (nI c)), some (.int dw), some (.int off), some (.double sc), none, some (.int (nI (c % 12))), some (.int (nI ((s.N j).c))), none] ⟨rfl, rfl, rfl, rfl, rfl, rfl, rfl, rfl, trivial⟩ ?_
                  refine rk_iload_n dR_windows_86 rfl ?_
                  refine rk_if_eq 112 dR_windows_87 (by decide) (fun q_87 => ?_) (fun q_87 => ?_)
                  · exact absurd q_87 hd
                  · refine rk_iload dR_windows_90 rfl ?_
                    refine rk_aload_n dR_windows_92 rfl ?_
                    refine rk_iload dR_windows_93 rfl ?_
                    refine rk_cvV (c_R_side b A Y (c % 12) (by omega)) cR_124 dR_windows_95 rfl lR_side (Nat.le_of_ble_eq_true rfl) (Nat.le_of_ble_eq_true rfl) (Nat.le_of_ble_eq_true rfl) (Nat.le_of_ble_eq_true rfl) k.m ?_
                    refine rk_imul dR_windows_98 ?_
                    refine rk_aload_n dR_windows_99 rfl ?_
                    refine rk_iload dR_windows_100 rfl ?_
                    refine rk_cvV (c_R_side b A Y (c % 12) (by omega)) cR_124 dR_windows_102 rfl lR_side (Nat.le_of_ble_eq_true rfl) (Nat.le_of_ble_eq_true rfl) (Nat.le_of_ble_eq_true rfl) (Nat.le_of_ble_eq_true rfl) k.m ?_
                    refine rk_imul dR_windows_105 ?_
                    refine rk_iload dR_windows_106 rfl ?_
                    refine rk_iadd dR_windows_108 ?_
                    rw [pk_mul, pk_mul, nI_add]
                    refine rk_goto 138 dR_windows_109 (by decide) ?_
                    refine rk_istore dR_windows_138 (Nat.le_of_ble_eq_true rfl) ?_
                    refine rk_lv [some (.ref (A 0)), some (.int (nI j)), some (.int (nI c)), some (.int dw), some (.int off), some (.double sc), none, some (.int (nI (c % 12))), some (.int (nI ((s.N j).c))), some (.int (nI ((s.N j).c * z_size (c % 12) * z_size (c % 12) + (s.N j).c)))] ⟨rfl, rfl, rfl, rfl, rfl, rfl, rfl, rfl, rfl, trivial⟩ ?_
                    refine rk_aload_n dR_windows_140 rfl ?_
                    refine rk_iload_n dR_windows_141 rfl ?_
                    refine rk_iload dR_windows_142 rfl ?_
                    refine rk_cvV (c_R_narrow b A Y k j (c % 12) (by omega) (by omega) bj) cR_131 dR_windows_144 rfl lR_narrow (Nat.le_of_ble_eq_true rfl) (Nat.le_of_ble_eq_true rfl) (Nat.le_of_ble_eq_true rfl) (Nat.le_of_ble_eq_true rfl) k.m ?_
                    rw [eN]
                    refine rk_if_ne 166 dR_windows_147 (by decide) (fun q_147 => ?_) (fun q_147 => ?_)
                    · refine rk_aload_n dR_windows_166 rfl ?_
                      refine rk_iconst (v := 1) dR_windows_167 (by decide) ?_
                      refine rk_cvV (c_R_fail b A Y k 1) cR_98 dR_windows_168 rfl lR_fail (Nat.le_of_ble_eq_true rfl) (Nat.le_of_ble_eq_true rfl) (Nat.le_of_ble_eq_true rfl) (Nat.le_of_ble_eq_true rfl) k.m ?_
                      exact rk_iret rfl dR_windows_171 ⟨(Nat.le_of_ble_eq_true rfl), (Nat.le_of_ble_eq_true rfl)⟩ (rPo.fl (c := 1) kY (mk3_1 (fun hh => by rw [htj, hco, hch, hpc, pk_mul, sub_2, show (s.N j).c * (z_size (c % 12) * z_size (c % 12) * 1) + (s.N j).c = (s.N j).c * z_size (c % 12) * z_size (c % 12) + (s.N j).c by rw [Nat.mul_one, Nat.mul_assoc]] at hh; simp only [Bool.and_eq_true, decide_eq_true_eq, eb] at hh; first | exact absurd (and2.mpr hh.1.2) (by rw [b2n' q_147]; decide) | exact absurd hh.2.1 (Int32.not_le.mpr q_152) | exact q_163 hh.2.2)) (by decide))
                    · refine rk_iload dR_windows_150 rfl ?_
                      refine rk_if_lt 166 dR_windows_152 (by decide) (fun q_152 => ?_) (fun q_152 => ?_)
                      · refine rk_aload_n dR_windows_166 rfl ?_
                        refine rk_iconst (v := 1) dR_windows_167 (by decide) ?_
                        refine rk_cvV (c_R_fail b A Y k 1) cR_98 dR_windows_168 rfl lR_fail (Nat.le_of_ble_eq_true rfl) (Nat.le_of_ble_eq_true rfl) (Nat.le_of_ble_eq_true rfl) (Nat.le_of_ble_eq_true rfl) k.m ?_
                        exact rk_iret rfl dR_windows_171 ⟨(Nat.le_of_ble_eq_true rfl), (Nat.le_of_ble_eq_true rfl)⟩ (rPo.fl (c := 1) kY (mk3_1 (fun hh => by rw [htj, hco, hch, hpc, pk_mul, sub_2, show (s.N j).c * (z_size (c % 12) * z_size (c % 12) * 1) + (s.N j).c = (s.N j).c * z_size (c % 12) * z_size (c % 12) + (s.N j).c by rw [Nat.mul_one, Nat.mul_assoc]] at hh; simp only [Bool.and_eq_true, decide_eq_true_eq, eb] at hh; first | exact absurd (and2.mpr hh.1.2) (by rw [b2n' q_147]; decide) | exact absurd hh.2.1 (Int32.not_le.mpr q_152) | exact q_163 hh.2.2)) (by decide))
                      · refine rk_iload dR_windows_155 rfl ?_
                        refine rk_sipush (v := 512) dR_windows_157 (by decide) ?_
                        refine rk_iload dR_windows_160 rfl ?_
                        refine rk_isub dR_windows_162 ?_
                        refine rk_icmp_le 172 dR_windows_163 (by decide) (fun q_163 => ?_) (fun q_163 => ?_)
                        · have hf := and2.mp (b2n q_147)
                          have emn : (s.N j).c * (z_size (c % 12) * z_size (c % 12) * 1) + (s.N j).c = (s.N j).c * z_size (c % 12) * z_size (c % 12) + (s.N j).c := by rw [Nat.mul_one, Nat.mul_assoc]
                          have hgg : (ndB s (nI j) && (if dw = 0 then btB (nI c) 12 107 else btB (nI c) 0 11) && dsB sc && (z_fit (wCo (nI c)) (s.N (tN (nI j))).h && z_fit (wCo (nI c)) (s.N (tN (nI j))).w) && btB off 0 (512 - nI (wCh (s.N (tN (nI j))) (nI c) dw) * nI (wPc (s.N (tN (nI j))) (nI c) dw) - nI (wCh (s.N (tN (nI j))) (nI c) dw))) = true := by rw [htj, hco, hch, hpc, pk_mul, sub_2, emn, hgw, b2n q_14, b2n q_23, hf.1, hf.2]; exact btB_iff.mpr ⟨Int32.not_lt.mp q_152, q_163⟩
                          refine rk_aload_n dR_windows_172 rfl ?_
                          refine rk_aload_n dR_windows_173 rfl ?_
                          refine rk_getf fR_35 dR_windows_174 k.m rfl ?_
                          refine rk_iload_n dR_windows_177 rfl ?_
                          refine rk_dald dR_windows_178 k.sc (vp_in_nI (show j < 14 by omega) (by omega)) ?_
                          rw [nI_clamp (show j < 2 ^ 31 by omega), eN]
                          refine rk_aload_n dR_windows_179 rfl ?_
                          refine rk_getf fR_13 dR_windows_180 k.m rfl ?_
                          rw [eW]
                          refine rk_dmul dR_windows_183 (fp_rat1 (hbd j hj).2.1 ok.1.2.2.2 hsc).1 ?_
                          refine rk_dload dR_windows_184 rfl ?_
                          refine rk_ddiv dR_windows_186 (fp_rat1 (hbd j hj).2.1 ok.1.2.2.2 hsc).2 ?_
                          refine rk_cvV (c_R_badRatio b A Y (FP.ddiv (FP.dmul (s.N j).sc s.ws) sc)) cR_134 dR_windows_187 rfl lR_badRatio (Nat.le_of_ble_eq_true rfl) (Nat.le_of_ble_eq_true rfl) (Nat.le_of_ble_eq_true rfl) (Nat.le_of_ble_eq_true rfl) k.m ?_
                          refine rk_if_eq 199 dR_windows_190 (by decide) (fun q_190 => ?_) (fun q_190 => ?_)
                          · refine rk_aload_n dR_windows_199 rfl ?_
                            refine rk_getf fR_106 dR_windows_200 k.m rfl ?_
                            refine rk_bipush (v := 14) dR_windows_203 (by decide) ?_
                            refine rk_icmp_ne 214 dR_windows_205 (by decide) (fun q_205 => ?_) (fun q_205 => ?_)
                            · have hno := hno (mt n14.mpr q_205)
                              obtain ⟨f, hff, rfl⟩ := nI_of q_152
                              refine rk_aload_n dR_windows_214 rfl ?_
                              refine rk_iload_n dR_windows_215 rfl ?_
                              refine rk_if_eq 223 dR_windows_216 (by decide) (fun q_216 => ?_) (fun q_216 => ?_)
                              · exact absurd q_216 hd
                              · refine rk_iconst (v := 2) dR_windows_219 (by decide) ?_
                                refine rk_goto 224 dR_windows_220 (by decide) ?_
                                refine rk_iload_n dR_windows_224 rfl ?_
                                refine rk_iconst (v := -1) dR_windows_225 (by decide) ?_
                                refine rk_aload_n dR_windows_226 rfl ?_
                                refine rk_aload_n dR_windows_227 rfl ?_
                                refine rk_getf fR_26 dR_windows_228 k.m rfl ?_
                                refine rk_iload_n dR_windows_231 rfl ?_
                                refine rk_iald dR_windows_232 k.hi (vp_in_nI (show j < 14 by omega) (by omega)) ?_
                                rw [nI_clamp (show j < 2 ^ 31 by omega), eN]
                                refine rk_iload dR_windows_233 rfl ?_
                                refine rk_cvV (c_R_places b A Y k (c % 12) (s.N j).h (by omega) hw1.1 hb1.2.1 hf.1) cR_127 dR_windows_235 rfl lR_places (Nat.le_of_ble_eq_true rfl) (Nat.le_of_ble_eq_true rfl) (Nat.le_of_ble_eq_true rfl) (Nat.le_of_ble_eq_true rfl) k.m ?_
                                refine rk_aload_n dR_windows_238 rfl ?_
                                refine rk_aload_n dR_windows_239 rfl ?_
                                refine rk_getf fR_29 dR_windows_240 k.m rfl ?_
                                refine rk_iload_n dR_windows_243 rfl ?_
                                refine rk_iald dR_windows_244 k.wi (vp_in_nI (show j < 14 by omega) (by omega)) ?_
                                rw [nI_clamp (show j < 2 ^ 31 by omega), eN]
                                refine rk_iload dR_windows_245 rfl ?_
                                refine rk_cvV (c_R_places b A Y k (c % 12) (s.N j).w (by omega) hw1.2.1 hb1.2.2.1 hf.2) cR_127 dR_windows_247 rfl lR_places (Nat.le_of_ble_eq_true rfl) (Nat.le_of_ble_eq_true rfl) (Nat.le_of_ble_eq_true rfl) (Nat.le_of_ble_eq_true rfl) k.m ?_
                                refine rk_iload dR_windows_250 rfl ?_
                                refine rk_dload dR_windows_252 rfl ?_
                                refine rk_cvV (c_R_mk b A Y k 2 (some j) none (z_plc (c % 12) (s.N j).h) (z_plc (c % 12) (s.N j).w) ((s.N j).c) sc hno (by omega) rfl rfl rfl rfl rfl rfl) cR_113 dR_windows_254 rfl lR_make (Nat.le_of_ble_eq_true rfl) (Nat.le_of_ble_eq_true rfl) (Nat.le_of_ble_eq_true rfl) (Nat.le_of_ble_eq_true rfl) k.m ?_
                                refine rk_pop dR_windows_257 rfl ?_
                                refine rk_aload_n dR_windows_258 rfl ?_
                                refine rk_iload dR_windows_259 rfl ?_
                                refine rk_iload dR_windows_261 rfl ?_
                                refine rk_iconst (v := 0) dR_windows_263 (by decide) ?_
                                refine rk_iconst (v := 0) dR_windows_264 (by decide) ?_
                                refine rk_cvV (c_R_fin b A (Y.mkd 2 (some j) none (z_plc (c % 12) (s.N j).h) (z_plc (c % 12) (s.N j).w) ((s.N j).c) sc) k (c % 12) f 0 0 mkd_no hno rfl rfl) cR_117 dR_windows_265 rfl lR_finish (Nat.le_of_ble_eq_true rfl) (Nat.le_of_ble_eq_true rfl) (Nat.le_of_ble_eq_true rfl) (Nat.le_of_ble_eq_true rfl) k.m ?_
                                exact rk_iret rfl dR_windows_268 ⟨(Nat.le_of_ble_eq_true rfl), (Nat.le_of_ble_eq_true rfl)⟩ (rPo.ps kY hfa (mk3_0 hgg (by rw [htj]; exact b2n q_190) (mt n14.mpr q_205)) (by rw [htj, hco, hch, if_neg hd, tN_I hff]; rfl))
                            · refine rk_aload_n dR_windows_208 rfl ?_
                              refine rk_iconst (v := 3) dR_windows_209 (by decide) ?_
                              refine rk_cvV (c_R_fail b A Y k 3) cR_98 dR_windows_210 rfl lR_fail (Nat.le_of_ble_eq_true rfl) (Nat.le_of_ble_eq_true rfl) (Nat.le_of_ble_eq_true rfl) (Nat.le_of_ble_eq_true rfl) k.m ?_
                              exact rk_iret rfl dR_windows_213 ⟨(Nat.le_of_ble_eq_true rfl), (Nat.le_of_ble_eq_true rfl)⟩ (rPo.fl (c := 3) kY (mk3_3 hgg (by rw [htj]; exact b2n q_190) (n14.mp q_205)) (by decide))
                          · refine rk_aload_n dR_windows_193 rfl ?_
                            refine rk_iconst (v := 2) dR_windows_194 (by decide) ?_
                            refine rk_cvV (c_R_fail b A Y k 2) cR_98 dR_windows_195 rfl lR_fail (Nat.le_of_ble_eq_true rfl) (Nat.le_of_ble_eq_true rfl) (Nat.le_of_ble_eq_true rfl) (Nat.le_of_ble_eq_true rfl) k.m ?_
                            exact rk_iret rfl dR_windows_198 ⟨(Nat.le_of_ble_eq_true rfl), (Nat.le_of_ble_eq_true rfl)⟩ (rPo.fl (c := 2) kY (mk3_2 hgg (by rw [htj, b2n' q_190]; decide)) (by decide))
                        · refine rk_aload_n dR_windows_166 rfl ?_
                          refine rk_iconst (v := 1) dR_windows_167 (by decide) ?_
                          refine rk_cvV (c_R_fail b A Y k 1) cR_98 dR_windows_168 rfl lR_fail (Nat.le_of_ble_eq_true rfl) (Nat.le_of_ble_eq_true rfl) (Nat.le_of_ble_eq_true rfl) (Nat.le_of_ble_eq_true rfl) k.m ?_
                          exact rk_iret rfl dR_windows_171 ⟨(Nat.le_of_ble_eq_true rfl), (Nat.le_of_ble_eq_true rfl)⟩ (rPo.fl (c := 1) kY (mk3_1 (fun hh => by rw [htj, hco, hch, hpc, pk_mul, sub_2, show (s.N j).c * (z_size (c % 12) * z_size (c % 12) * 1) + (s.N j).c = (s.N j).c * z_size (c % 12) * z_size (c % 12) + (s.N j).c by rw [Nat.mul_one, Nat.mul_assoc]] at hh; simp only [Bool.and_eq_true, decide_eq_true_eq, eb] at hh; first | exact absurd (and2.mpr hh.1.2) (by rw [b2n' q_147]; decide) | exact absurd hh.2.1 (Int32.not_le.mpr q_152) | exact q_163 hh.2.2)) (by decide))
              · exact absurd q_46 hd
