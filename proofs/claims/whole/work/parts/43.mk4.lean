/-! TensorForge: dense, windows -/
theorem c_T_dense (C : cT) (s : aS) (p d off : Int32) (sc : UInt64) (h : rk_H) (k : cOK h C s) (ok : aOK s) : rk_Con mT_dense (9, 123, 8, 180) [.ref C.a, .int p, .int d, .int off, .double sc] h (cPost h C s.n (opDense s p d off sc) (exL [x_IA, x_AR, x_IS])) := by
  have e1 := k.1.1
  obtain ⟨X, hX, hG⟩ := k.1.2.2.1.eq
  have gI : gIs h C.gb C.A X := by
    have kg := k.1.2.2.1
    rw [hG]
    exact ⟨kg.gb, kg.gsf, kg.gst, kg.gsp, kg.gpl, kg.gla⟩
  have g1 := gI.1
  have hna := k.1.2.2.1.2.1.1
  have hn := ok.1.1
  have hroom := room_n hX hn
  refine rk_Con.of [some (.ref C.a), some (.int p), some (.int d), some (.int off), some (.double sc), none, none, none, none, none] rfl (Nat.le_of_ble_eq_true rfl) (by decide +kernel) ?_
  by_cases hi : ndB s p = true
  · obtain ⟨i, il, rfl⟩ := ndB_of hn hi
    obtain ⟨iq, id⟩ := k.1.2.2.1.2.1.2 i il
    have i14 : i < 14 := by omega
    have ib := ok.1.2.1.bd i il
    have ip := (ok.1.2.1 i il).1.2.1
    have ic := ib.ce
    have it : tN (nI i) = i := tN_I (by omega)
    have eo1 : ¬ (ndB s (nI i) && btB d 1 8 && dsB sc && btB off 0 (512 - d * nI (s.N i).ce - d)) = true → opDense s (nI i) d off sc = (1, none, s) := by
      intro hz
      unfold opDense
      rw [it]
      exact mk3_1 hz
    by_cases hd : btB d 1 8 = true
    · by_cases hs : dsB sc = true
      · by_cases ho : btB off 0 (512 - d * nI (s.N i).ce - d) = true
        · obtain ⟨d, ⟨d1, d2⟩, rfl⟩ := bt1K (m := 8) (by omega) (btB_iff.mp hd)
          obtain ⟨of, hof, rfl⟩ := nI_of (Int32.not_lt.mpr (btB_iff.mp ho).1)
          have hgg : (ndB s (nI i) && btB (nI d) 1 8 && dsB sc && btB (nI of) 0 (512 - (nI d) * nI (s.N i).ce - (nI d))) = true := by rw [hi, hd, hs, ho]; rfl
          have eop : opDense s (nI i) (nI d) (nI of) sc = mk3 s (ndB s (nI i) && btB (nI d) 1 8 && dsB sc && btB (nI of) 0 (512 - (nI d) * nI (s.N i).ce - (nI d))) (d_good (FP.ddiv (FP.dmul (s.N i).sc s.ws) sc)) (((3, some i, none), (1, 1, d), (sc, s.ws), (0, of), (0, 0)) : aN) := by
            unfold opDense
            rw [it, tN_I (show d < 2 ^ 31 by omega), tN_I hof]
          by_cases hgd : d_good (FP.ddiv (FP.dmul (s.N i).sc s.ws) sc) = true
          · by_cases h14 : s.n = 14
            · refine rk_aload_n dT_dense_0 rfl ?_
              refine rk_iload_n dT_dense_1 rfl ?_
              refine rk_cvI (c_T_requireNode C.a C.gb (tR_of C s.ws s.out s.comp) (gR_of C.A X) (nI i) h e1 g1) cT_66 dT_dense_2 rfl lT_requireNode (Nat.le_of_ble_eq_true rfl) (Nat.le_of_ble_eq_true rfl) (Nat.le_of_ble_eq_true rfl) (Nat.le_of_ble_eq_true rfl) (by first | exact e1 | exact g1 | exact hna | exact id | assumption) rfl ⟨(Nat.le_of_ble_eq_true rfl), (Nat.le_of_ble_eq_true rfl)⟩ (fun g_2 => absurd (show btw (nI i) 0 (nI X.n - 1) by rw [hX]; exact btB_iff.mp hi) g_2) (fun g_2 => ?_)
              refine rk_iload_n dT_dense_5 rfl ?_
              refine rk_iconst (v := 1) dT_dense_6 (by decide) ?_
              refine rk_bipush (v := 8) dT_dense_7 (by decide) ?_
              refine rk_csI (c_T_requireBetween _ _ _ h) cT_35 dT_dense_9 rfl lT_requireBetween (Nat.le_of_ble_eq_true rfl) (Nat.le_of_ble_eq_true rfl) (Nat.le_of_ble_eq_true rfl) (Nat.le_of_ble_eq_true rfl) rfl ⟨(Nat.le_of_ble_eq_true rfl), (Nat.le_of_ble_eq_true rfl)⟩ (fun g_9 => absurd (btB_iff.mp hd) g_9) (fun g_9 => ?_)
              refine rk_dload dT_dense_12 rfl ?_
              refine rk_csI (c_T_requireScale sc h) cT_47 dT_dense_14 rfl lT_requireScale (Nat.le_of_ble_eq_true rfl) (Nat.le_of_ble_eq_true rfl) (Nat.le_of_ble_eq_true rfl) (Nat.le_of_ble_eq_true rfl) rfl ⟨(Nat.le_of_ble_eq_true rfl), (Nat.le_of_ble_eq_true rfl)⟩ (fun g_14 => absurd (dsB_iff.mp hs) g_14) (fun g_14 => ?_)
              refine rk_aload_n dT_dense_17 rfl ?_
              refine rk_getf fT_12 dT_dense_18 (by first | exact e1 | exact g1 | exact hna | exact id | assumption) rfl ?_
              refine rk_getf fT_74 dT_dense_21 (by first | exact e1 | exact g1 | exact hna | exact id | assumption) rfl ?_
              refine rk_iload_n dT_dense_24 rfl ?_
              refine rk_aald rfl dT_dense_25 (by first | exact e1 | exact g1 | exact hna | exact id | assumption) (vp_in_nI i14 (by omega)) (v_nd (by omega) iq) ?_
              refine rk_astore dT_dense_26 (Nat.le_of_ble_eq_true rfl) ?_
              refine rk_iload_n dT_dense_28 rfl ?_
              refine rk_iload_n dT_dense_29 rfl ?_
              refine rk_aload dT_dense_30 rfl ?_
              refine rk_getf fT_118 dT_dense_32 (by first | exact e1 | exact g1 | exact hna | exact id | assumption) rfl ?_
              refine rk_csI (c_T_requireWeights _ _ _ h) cT_91 dT_dense_35 rfl lT_requireWeights (Nat.le_of_ble_eq_true rfl) (Nat.le_of_ble_eq_true rfl) (Nat.le_of_ble_eq_true rfl) (Nat.le_of_ble_eq_true rfl) rfl ⟨(Nat.le_of_ble_eq_true rfl), (Nat.le_of_ble_eq_true rfl)⟩ (fun g_35 => absurd (btB_iff.mp ho) g_35) (fun g_35 => ?_)
              refine rk_aload_n dT_dense_38 rfl ?_
              refine rk_aload dT_dense_39 rfl ?_
              refine rk_dload dT_dense_41 rfl ?_
              refine rk_cvV (c_T_wratio C s (C.ad i) (s.N i) (C.fe i) (ratA s.N i) (ratB s.N i) sc h e1 id (fp_rat1 ib.2.1 ok.1.2.2.2 (d_scl_iff.mp g_14)).1 (fp_rat1 ib.2.1 ok.1.2.2.2 (d_scl_iff.mp g_14)).2) cT_94 dT_dense_43 rfl lT_weightedRatio (Nat.le_of_ble_eq_true rfl) (Nat.le_of_ble_eq_true rfl) (Nat.le_of_ble_eq_true rfl) (Nat.le_of_ble_eq_true rfl) (by first | exact e1 | exact g1 | exact hna | exact id | assumption) ?_
              refine rk_dstore dT_dense_46 (Nat.le_of_ble_eq_true rfl) ?_
              refine rk_lv [some (.ref C.a), some (.int (nI i)), some (.int (nI d)), some (.int (nI of)), some (.double sc), none, some (.ref (C.ad i)), some (.double (FP.ddiv (FP.dmul (s.N i).sc s.ws) sc)), none, none] ⟨rfl, rfl, rfl, rfl, rfl, rfl, rfl, trivial⟩ ?_
              refine rk_dload dT_dense_48 rfl ?_
              refine rk_csI (c_T_requireGood _ h) cT_98 dT_dense_50 rfl lT_requireGood (Nat.le_of_ble_eq_true rfl) (Nat.le_of_ble_eq_true rfl) (Nat.le_of_ble_eq_true rfl) (Nat.le_of_ble_eq_true rfl) rfl ⟨(Nat.le_of_ble_eq_true rfl), (Nat.le_of_ble_eq_true rfl)⟩ (fun g_50 => absurd hgd g_50) (fun g_50 => ?_)
              refine rk_aload_n dT_dense_53 rfl ?_
              refine rk_cvI (c_T_requireRoom C.a (tR_of C s.ws s.out s.comp) (gR_of C.A X) h e1 g1) cT_54 dT_dense_54 rfl lT_requireRoom (Nat.le_of_ble_eq_true rfl) (Nat.le_of_ble_eq_true rfl) (Nat.le_of_ble_eq_true rfl) (Nat.le_of_ble_eq_true rfl) (by first | exact e1 | exact g1 | exact hna | exact id | assumption) rfl ⟨(Nat.le_of_ble_eq_true rfl), (Nat.le_of_ble_eq_true rfl)⟩ (fun g_54 => (by rw [eop, mk3_3 hgg hgd h14]; exact cPost.same k rfl rfl)) (fun g_54 => ?_)
              exact absurd h14 (hroom.mp g_54)
            · skip
              have P := fun (b q : Nat) (bn : h b = none) (hq : h q = none) (hbq : b ≠ q) => k.push ok.1.2.1.inn (by omega) X hX gI b q (((3, some i, none), (1, 1, d), (sc, s.ws), (0, of), (0, 0)) : aN) bn hq hbq (show 1 * 1 * d ≤ 128 by omega)
              have hra : ratA (updN s.N s.n (((3, some i, none), (1, 1, d), (sc, s.ws), (0, of), (0, 0)) : aN)) s.n = FP.ddiv (FP.dmul (s.N i).sc s.ws) sc := by
                unfold ratA
                rw [show updN s.N s.n (((3, some i, none), (1, 1, d), (sc, s.ws), (0, of), (0, 0)) : aN) s.n = (((3, some i, none), (1, 1, d), (sc, s.ws), (0, of), (0, 0)) : aN) from if_pos rfl]
                show FP.ddiv (FP.dmul ((updN s.N s.n (((3, some i, none), (1, 1, d), (sc, s.ws), (0, of), (0, 0)) : aN) i).sc) s.ws) sc = _
                rw [show updN s.N s.n (((3, some i, none), (1, 1, d), (sc, s.ws), (0, of), (0, 0)) : aN) i = s.N i from if_neg (by omega)]
              have hrb : ratB (updN s.N s.n (((3, some i, none), (1, 1, d), (sc, s.ws), (0, of), (0, 0)) : aN)) s.n = 0 := by
                unfold ratB
                rw [show updN s.N s.n (((3, some i, none), (1, 1, d), (sc, s.ws), (0, of), (0, 0)) : aN) s.n = (((3, some i, none), (1, 1, d), (sc, s.ws), (0, of), (0, 0)) : aN) from if_pos rfl]
                rfl
              rw [hra, hrb] at P
              refine rk_aload_n dT_dense_0 rfl ?_
              refine rk_iload_n dT_dense_1 rfl ?_
              refine rk_cvI (c_T_requireNode C.a C.gb (tR_of C s.ws s.out s.comp) (gR_of C.A X) (nI i) h e1 g1) cT_66 dT_dense_2 rfl lT_requireNode (Nat.le_of_ble_eq_true rfl) (Nat.le_of_ble_eq_true rfl) (Nat.le_of_ble_eq_true rfl) (Nat.le_of_ble_eq_true rfl) (by first | exact rk_up_k (rk_ne e1 bn) e1 | exact rk_up_k (rk_ne g1 bn) g1 | exact rk_up_k (rk_ne hna bn) hna | exact rk_up_k (rk_ne id bn) id | exact e1 | exact g1 | exact hna | exact id | assumption) rfl ⟨(Nat.le_of_ble_eq_true rfl), (Nat.le_of_ble_eq_true rfl)⟩ (fun g_2 => absurd (show btw (nI i) 0 (nI X.n - 1) by rw [hX]; exact btB_iff.mp hi) g_2) (fun g_2 => ?_)
              refine rk_iload_n dT_dense_5 rfl ?_
              refine rk_iconst (v := 1) dT_dense_6 (by decide) ?_
              refine rk_bipush (v := 8) dT_dense_7 (by decide) ?_
              refine rk_csI (c_T_requireBetween _ _ _ h) cT_35 dT_dense_9 rfl lT_requireBetween (Nat.le_of_ble_eq_true rfl) (Nat.le_of_ble_eq_true rfl) (Nat.le_of_ble_eq_true rfl) (Nat.le_of_ble_eq_true rfl) rfl ⟨(Nat.le_of_ble_eq_true rfl), (Nat.le_of_ble_eq_true rfl)⟩ (fun g_9 => absurd (btB_iff.mp hd) g_9) (fun g_9 => ?_)
              refine rk_dload dT_dense_12 rfl ?_
              refine rk_csI (c_T_requireScale sc h) cT_47 dT_dense_14 rfl lT_requireScale (Nat.le_of_ble_eq_true rfl) (Nat.le_of_ble_eq_true rfl) (Nat.le_of_ble_eq_true rfl) (Nat.le_of_ble_eq_true rfl) rfl ⟨(Nat.le_of_ble_eq_true rfl), (Nat.le_of_ble_eq_true rfl)⟩ (fun g_14 => absurd (dsB_iff.mp hs) g_14) (fun g_14 => ?_)
              refine rk_aload_n dT_dense_17 rfl ?_
              refine rk_getf fT_12 dT_dense_18 (by first | exact rk_up_k (rk_ne e1 bn) e1 | exact rk_up_k (rk_ne g1 bn) g1 | exact rk_up_k (rk_ne hna bn) hna | exact rk_up_k (rk_ne id bn) id | exact e1 | exact g1 | exact hna | exact id | assumption) rfl ?_
              refine rk_getf fT_74 dT_dense_21 (by first | exact rk_up_k (rk_ne e1 bn) e1 | exact rk_up_k (rk_ne g1 bn) g1 | exact rk_up_k (rk_ne hna bn) hna | exact rk_up_k (rk_ne id bn) id | exact e1 | exact g1 | exact hna | exact id | assumption) rfl ?_
              refine rk_iload_n dT_dense_24 rfl ?_
              refine rk_aald rfl dT_dense_25 (by first | exact rk_up_k (rk_ne e1 bn) e1 | exact rk_up_k (rk_ne g1 bn) g1 | exact rk_up_k (rk_ne hna bn) hna | exact rk_up_k (rk_ne id bn) id | exact e1 | exact g1 | exact hna | exact id | assumption) (vp_in_nI i14 (by omega)) (v_nd (by omega) iq) ?_
              refine rk_astore dT_dense_26 (Nat.le_of_ble_eq_true rfl) ?_
              refine rk_iload_n dT_dense_28 rfl ?_
              refine rk_iload_n dT_dense_29 rfl ?_
              refine rk_aload dT_dense_30 rfl ?_
              refine rk_getf fT_118 dT_dense_32 (by first | exact rk_up_k (rk_ne e1 bn) e1 | exact rk_up_k (rk_ne g1 bn) g1 | exact rk_up_k (rk_ne hna bn) hna | exact rk_up_k (rk_ne id bn) id | exact e1 | exact g1 | exact hna | exact id | assumption) rfl ?_
              refine rk_csI (c_T_requireWeights _ _ _ h) cT_91 dT_dense_35 rfl lT_requireWeights (Nat.le_of_ble_eq_true rfl) (Nat.le_of_ble_eq_true rfl) (Nat.le_of_ble_eq_true rfl) (Nat.le_of_ble_eq_true rfl) rfl ⟨(Nat.le_of_ble_eq_true rfl), (Nat.le_of_ble_eq_true rfl)⟩ (fun g_35 => absurd (btB_iff.mp ho) g_35) (fun g_35 => ?_)
              refine rk_aload_n dT_dense_38 rfl ?_
              refine rk_aload dT_dense_39 rfl ?_
              refine rk_dload dT_dense_41 rfl ?_
              refine rk_cvV (c_T_wratio C s (C.ad i) (s.N i) (C.fe i) (ratA s.N i) (ratB s.N i) sc h e1 id (fp_rat1 ib.2.1 ok.1.2.2.2 (d_scl_iff.mp g_14)).1 (fp_rat1 ib.2.1 ok.1.2.2.2 (d_scl_iff.mp g_14)).2) cT_94 dT_dense_43 rfl lT_weightedRatio (Nat.le_of_ble_eq_true rfl) (Nat.le_of_ble_eq_true rfl) (Nat.le_of_ble_eq_true rfl) (Nat.le_of_ble_eq_true rfl) (by first | exact rk_up_k (rk_ne e1 bn) e1 | exact rk_up_k (rk_ne g1 bn) g1 | exact rk_up_k (rk_ne hna bn) hna | exact rk_up_k (rk_ne id bn) id | exact e1 | exact g1 | exact hna | exact id | assumption) ?_
              refine rk_dstore dT_dense_46 (Nat.le_of_ble_eq_true rfl) ?_
              refine rk_lv [some (.ref C.a), some (.int (nI i)), some (.int (nI d)), some (.int (nI of)), some (.double sc), none, some (.ref (C.ad i)), some (.double (FP.ddiv (FP.dmul (s.N i).sc s.ws) sc)), none, none] ⟨rfl, rfl, rfl, rfl, rfl, rfl, rfl, trivial⟩ ?_
              refine rk_dload dT_dense_48 rfl ?_
              refine rk_csI (c_T_requireGood _ h) cT_98 dT_dense_50 rfl lT_requireGood (Nat.le_of_ble_eq_true rfl) (Nat.le_of_ble_eq_true rfl) (Nat.le_of_ble_eq_true rfl) (Nat.le_of_ble_eq_true rfl) rfl ⟨(Nat.le_of_ble_eq_true rfl), (Nat.le_of_ble_eq_true rfl)⟩ (fun g_50 => absurd hgd g_50) (fun g_50 => ?_)
              refine rk_aload_n dT_dense_53 rfl ?_
              refine rk_cvI (c_T_requireRoom C.a (tR_of C s.ws s.out s.comp) (gR_of C.A X) h e1 g1) cT_54 dT_dense_54 rfl lT_requireRoom (Nat.le_of_ble_eq_true rfl) (Nat.le_of_ble_eq_true rfl) (Nat.le_of_ble_eq_true rfl) (Nat.le_of_ble_eq_true rfl) (by first | exact rk_up_k (rk_ne e1 bn) e1 | exact rk_up_k (rk_ne g1 bn) g1 | exact rk_up_k (rk_ne hna bn) hna | exact rk_up_k (rk_ne id bn) id | exact e1 | exact g1 | exact hna | exact id | assumption) rfl ⟨(Nat.le_of_ble_eq_true rfl), (Nat.le_of_ble_eq_true rfl)⟩ (fun g_54 => absurd (hroom.mpr h14) g_54) (fun g_54 => ?_)
              refine rk_new (fs := [.int 0, .int 0, .int 0, .int 0, .int 0, .int 0, .int 0, .double 0, .null, .int 0, .int 0, .double 0, .int 0, .int 0, .double 0, .double 0]) kN nT_57.1 nT_57.2.1 nT_57.2.2 (by intro j hj; rcases (show j = 0 ∨ j = 1 ∨ j = 2 ∨ j = 3 ∨ j = 4 ∨ j = 5 ∨ j = 6 ∨ j = 7 ∨ j = 8 ∨ j = 9 ∨ j = 10 ∨ j = 11 ∨ j = 12 ∨ j = 13 ∨ j = 14 ∨ j = 15 by omega) with rfl | rfl | rfl | rfl | rfl | rfl | rfl | rfl | rfl | rfl | rfl | rfl | rfl | rfl | rfl | rfl <;> rfl) dT_dense_57 (Nat.le_of_ble_eq_true rfl) (Nat.le_of_ble_eq_true rfl) (fun b bn => ?_)
              refine rk_dup dT_dense_60 rfl ?_
              refine rk_iconst (v := 3) dT_dense_61 (by decide) ?_
              refine rk_iload_n dT_dense_62 rfl ?_
              refine rk_iconst (v := -1) dT_dense_63 (by decide) ?_
              refine rk_iconst (v := 1) dT_dense_64 (by decide) ?_
              refine rk_iconst (v := 1) dT_dense_65 (by decide) ?_
              refine rk_iload_n dT_dense_66 rfl ?_
              refine rk_dload dT_dense_67 rfl ?_
              refine rk_cnG (c_N_init b 3 (some i) none 1 1 d sc _ rk_up_s (show 1 * 1 * d ≤ 128 by omega) (by omega)) cT_59 dT_dense_69 rfl lN_init (Nat.le_of_ble_eq_true rfl) (Nat.le_of_ble_eq_true rfl) (Nat.le_of_ble_eq_true rfl) (Nat.le_of_ble_eq_true rfl) ?_
              rintro r_0 h_0 ⟨rfl, q, hq0, rfl⟩
              refine rk_nx0 ?_
              obtain ⟨hbq, hq⟩ := new_fr hq0
              rw [new_sw hbq]
              have hab : C.a ≠ b := rk_ne e1 bn
              have haq : C.a ≠ q := rk_ne e1 hq
              have hgb : C.gb ≠ b := rk_ne g1 bn
              have hgq : C.gb ≠ q := rk_ne g1 hq
              have hnb : C.A.na ≠ b := rk_ne hna bn
              have hnq : C.A.na ≠ q := rk_ne hna hq
              refine rk_astore dT_dense_72 (Nat.le_of_ble_eq_true rfl) ?_
              refine rk_aload dT_dense_74 rfl ?_
              refine rk_iload_n dT_dense_76 rfl ?_
              refine rk_aload_n dT_dense_77 rfl ?_
              refine rk_getf fT_23 dT_dense_78 (by first | (simp only [rk_up_s, rk_up_n hab, rk_up_n haq, rk_up_n hgb, rk_up_n hgq, rk_up_n hnb, rk_up_n hnq]; first | exact e1 | exact g1 | exact hna | rfl) | exact e1 | exact g1 | exact hna | assumption) rfl ?_
              refine rk_dload dT_dense_81 rfl ?_
              refine rk_cv0 (c_N_weigh b (nM (x0 3 (some i) none 1 1 d sc) q 0 0) (nI of) s.ws (FP.ddiv (FP.dmul (s.N i).sc s.ws) sc) _ rk_up_s) cT_114 dT_dense_83 rfl lN_weigh (Nat.le_of_ble_eq_true rfl) (Nat.le_of_ble_eq_true rfl) (Nat.le_of_ble_eq_true rfl) (Nat.le_of_ble_eq_true rfl) (by first | (simp only [rk_up_s, rk_up_n hab, rk_up_n haq, rk_up_n hgb, rk_up_n hgq, rk_up_n hnb, rk_up_n hnq]; first | exact e1 | exact g1 | exact hna | rfl) | exact e1 | exact g1 | exact hna | assumption) ?_
              rw [rk_up_up]
              refine rk_aload_n dT_dense_86 rfl ?_
              refine rk_aload dT_dense_87 rfl ?_
              refine rk_cvV (c_T_keep C s b X _ _ (by simp only [rk_up_s, rk_up_n hab, rk_up_n haq, rk_up_n hgb, rk_up_n hgq, rk_up_n hnb, rk_up_n hnq]; exact e1) (by simp only [rk_up_s, rk_up_n hab, rk_up_n haq, rk_up_n hgb, rk_up_n hgq, rk_up_n hnb, rk_up_n hnq]; exact g1) (by simp only [rk_up_s, rk_up_n hab, rk_up_n haq, rk_up_n hgb, rk_up_n hgq, rk_up_n hnb, rk_up_n hnq]; exact hna) rk_up_s (by omega)) cT_62 dT_dense_89 rfl lT_keep (Nat.le_of_ble_eq_true rfl) (Nat.le_of_ble_eq_true rfl) (Nat.le_of_ble_eq_true rfl) (Nat.le_of_ble_eq_true rfl) (by first | (simp only [rk_up_s, rk_up_n hab, rk_up_n haq, rk_up_n hgb, rk_up_n hgq, rk_up_n hnb, rk_up_n hnq]; first | exact e1 | exact g1 | exact hna | rfl) | exact e1 | exact g1 | exact hna | assumption) ?_
              exact rk_iret rfl dT_dense_92 ⟨(Nat.le_of_ble_eq_true rfl), (Nat.le_of_ble_eq_true rfl)⟩ (by rw [eop, mk3_0 hgg hgd h14]; exact ⟨⟨_, (P b q bn hq hbq).1, (P b q bn hq hbq).2⟩, by rw [hX]; rfl⟩)
          · refine rk_aload_n dT_dense_0 rfl ?_
            refine rk_iload_n dT_dense_1 rfl ?_
            refine rk_cvI (c_T_requireNode C.a C.gb (tR_of C s.ws s.out s.comp) (gR_of C.A X) (nI i) h e1 g1) cT_66 dT_dense_2 rfl lT_requireNode (Nat.le_of_ble_eq_true rfl) (Nat.le_of_ble_eq_true rfl) (Nat.le_of_ble_eq_true rfl) (Nat.le_of_ble_eq_true rfl) (by first | exact e1 | exact g1 | exact hna | exact id | assumption) rfl ⟨(Nat.le_of_ble_eq_true rfl), (Nat.le_of_ble_eq_true rfl)⟩ (fun g_2 => absurd (show btw (nI i) 0 (nI X.n - 1) by rw [hX]; exact btB_iff.mp hi) g_2) (fun g_2 => ?_)
            refine rk_iload_n dT_dense_5 rfl ?_
            refine rk_iconst (v := 1) dT_dense_6 (by decide) ?_
            refine rk_bipush (v := 8) dT_dense_7 (by decide) ?_
            refine rk_csI (c_T_requireBetween _ _ _ h) cT_35 dT_dense_9 rfl lT_requireBetween (Nat.le_of_ble_eq_true rfl) (Nat.le_of_ble_eq_true rfl) (Nat.le_of_ble_eq_true rfl) (Nat.le_of_ble_eq_true rfl) rfl ⟨(Nat.le_of_ble_eq_true rfl), (Nat.le_of_ble_eq_true rfl)⟩ (fun g_9 => absurd (btB_iff.mp hd) g_9) (fun g_9 => ?_)
            refine rk_dload dT_dense_12 rfl ?_
            refine rk_csI (c_T_requireScale sc h) cT_47 dT_dense_14 rfl lT_requireScale (Nat.le_of_ble_eq_true rfl) (Nat.le_of_ble_eq_true rfl) (Nat.le_of_ble_eq_true rfl) (Nat.le_of_ble_eq_true rfl) rfl ⟨(Nat.le_of_ble_eq_true rfl), (Nat.le_of_ble_eq_true rfl)⟩ (fun g_14 => absurd (dsB_iff.mp hs) g_14) (fun g_14 => ?_)
            refine rk_aload_n dT_dense_17 rfl ?_
            refine rk_getf fT_12 dT_dense_18 (by first | exact e1 | exact g1 | exact hna | exact id | assumption) rfl ?_
            refine rk_getf fT_74 dT_dense_21 (by first | exact e1 | exact g1 | exact hna | exact id | assumption) rfl ?_
            refine rk_iload_n dT_dense_24 rfl ?_
            refine rk_aald rfl dT_dense_25 (by first | exact e1 | exact g1 | exact hna | exact id | assumption) (vp_in_nI i14 (by omega)) (v_nd (by omega) iq) ?_
            refine rk_astore dT_dense_26 (Nat.le_of_ble_eq_true rfl) ?_
            refine rk_iload_n dT_dense_28 rfl ?_
            refine rk_iload_n dT_dense_29 rfl ?_
            refine rk_aload dT_dense_30 rfl ?_
            refine rk_getf fT_118 dT_dense_32 (by first | exact e1 | exact g1 | exact hna | exact id | assumption) rfl ?_
            refine rk_csI (c_T_requireWeights _ _ _ h) cT_91 dT_dense_35 rfl lT_requireWeights (Nat.le_of_ble_eq_true rfl) (Nat.le_of_ble_eq_true rfl) (Nat.le_of_ble_eq_true rfl) (Nat.le_of_ble_eq_true rfl) rfl ⟨(Nat.le_of_ble_eq_true rfl), (Nat.le_of_ble_eq_true rfl)⟩ (fun g_35 => absurd (btB_iff.mp ho) g_35) (fun g_35 => ?_)
            refine rk_aload_n dT_dense_38 rfl ?_
            refine rk_aload dT_dense_39 rfl ?_
            refine rk_dload dT_dense_41 rfl ?_
            refine rk_cvV (c_T_wratio C s (C.ad i) (s.N i) (C.fe i) (ratA s.N i) (ratB s.N i) sc h e1 id (fp_rat1 ib.2.1 ok.1.2.2.2 (d_scl_iff.mp g_14)).1 (fp_rat1 ib.2.1 ok.1.2.2.2 (d_scl_iff.mp g_14)).2) cT_94 dT_dense_43 rfl lT_weightedRatio (Nat.le_of_ble_eq_true rfl) (Nat.le_of_ble_eq_true rfl) (Nat.le_of_ble_eq_true rfl) (Nat.le_of_ble_eq_true rfl) (by first | exact e1 | exact g1 | exact hna | exact id | assumption) ?_
            refine rk_dstore dT_dense_46 (Nat.le_of_ble_eq_true rfl) ?_
            refine rk_lv [some (.ref C.a), some (.int (nI i)), some (.int (nI d)), some (.int (nI of)), some (.double sc), none, some (.ref (C.ad i)), some (.double (FP.ddiv (FP.dmul (s.N i).sc s.ws) sc)), none, none] ⟨rfl, rfl, rfl, rfl, rfl, rfl, rfl, trivial⟩ ?_
            refine rk_dload dT_dense_48 rfl ?_
            refine rk_csI (c_T_requireGood _ h) cT_98 dT_dense_50 rfl lT_requireGood (Nat.le_of_ble_eq_true rfl) (Nat.le_of_ble_eq_true rfl) (Nat.le_of_ble_eq_true rfl) (Nat.le_of_ble_eq_true rfl) rfl ⟨(Nat.le_of_ble_eq_true rfl), (Nat.le_of_ble_eq_true rfl)⟩ (fun g_50 => (by rw [eop, mk3_2 hgg hgd]; exact cPost.same k rfl rfl)) (fun g_50 => ?_)
            exact absurd g_50 hgd
        · have eo := eo1 (fun w => ho (and2.mp w).2)
          refine rk_aload_n dT_dense_0 rfl ?_
          refine rk_iload_n dT_dense_1 rfl ?_
          refine rk_cvI (c_T_requireNode C.a C.gb (tR_of C s.ws s.out s.comp) (gR_of C.A X) (nI i) h e1 g1) cT_66 dT_dense_2 rfl lT_requireNode (Nat.le_of_ble_eq_true rfl) (Nat.le_of_ble_eq_true rfl) (Nat.le_of_ble_eq_true rfl) (Nat.le_of_ble_eq_true rfl) (by first | exact e1 | exact g1 | exact hna | exact id | assumption) rfl ⟨(Nat.le_of_ble_eq_true rfl), (Nat.le_of_ble_eq_true rfl)⟩ (fun g_2 => absurd (show btw (nI i) 0 (nI X.n - 1) by rw [hX]; exact btB_iff.mp hi) g_2) (fun g_2 => ?_)
          refine rk_iload_n dT_dense_5 rfl ?_
          refine rk_iconst (v := 1) dT_dense_6 (by decide) ?_
          refine rk_bipush (v := 8) dT_dense_7 (by decide) ?_
          refine rk_csI (c_T_requireBetween _ _ _ h) cT_35 dT_dense_9 rfl lT_requireBetween (Nat.le_of_ble_eq_true rfl) (Nat.le_of_ble_eq_true rfl) (Nat.le_of_ble_eq_true rfl) (Nat.le_of_ble_eq_true rfl) rfl ⟨(Nat.le_of_ble_eq_true rfl), (Nat.le_of_ble_eq_true rfl)⟩ (fun g_9 => absurd (btB_iff.mp hd) g_9) (fun g_9 => ?_)
          refine rk_dload dT_dense_12 rfl ?_
          refine rk_csI (c_T_requireScale sc h) cT_47 dT_dense_14 rfl lT_requireScale (Nat.le_of_ble_eq_true rfl) (Nat.le_of_ble_eq_true rfl) (Nat.le_of_ble_eq_true rfl) (Nat.le_of_ble_eq_true rfl) rfl ⟨(Nat.le_of_ble_eq_true rfl), (Nat.le_of_ble_eq_true rfl)⟩ (fun g_14 => absurd (dsB_iff.mp hs) g_14) (fun g_14 => ?_)
          refine rk_aload_n dT_dense_17 rfl ?_
          refine rk_getf fT_12 dT_dense_18 (by first | exact e1 | exact g1 | exact hna | exact id | assumption) rfl ?_
          refine rk_getf fT_74 dT_dense_21 (by first | exact e1 | exact g1 | exact hna | exact id | assumption) rfl ?_
          refine rk_iload_n dT_dense_24 rfl ?_
          refine rk_aald rfl dT_dense_25 (by first | exact e1 | exact g1 | exact hna | exact id | assumption) (vp_in_nI i14 (by omega)) (v_nd (by omega) iq) ?_
          refine rk_astore dT_dense_26 (Nat.le_of_ble_eq_true rfl) ?_
          refine rk_iload_n dT_dense_28 rfl ?_
          refine rk_iload_n dT_dense_29 rfl ?_
          refine rk_aload dT_dense_30 rfl ?_
          refine rk_getf fT_118 dT_dense_32 (by first | exact e1 | exact g1 | exact hna | exact id | assumption) rfl ?_
          refine rk_csI (c_T_requireWeights _ _ _ h) cT_91 dT_dense_35 rfl lT_requireWeights (Nat.le_of_ble_eq_true rfl) (Nat.le_of_ble_eq_true rfl) (Nat.le_of_ble_eq_true rfl) (Nat.le_of_ble_eq_true rfl) rfl ⟨(Nat.le_of_ble_eq_true rfl), (Nat.le_of_ble_eq_true rfl)⟩ (fun g_35 => (by rw [eo]; exact cPost.same k rfl rfl)) (fun g_35 => ?_)
          exact absurd (btB_iff.mpr g_35) ho
      · have eo := eo1 (fun w => hs (and2.mp (and2.mp w).1).2)
        refine rk_aload_n dT_dense_0 rfl ?_
        refine rk_iload_n dT_dense_1 rfl ?_
        refine rk_cvI (c_T_requireNode C.a C.gb (tR_of C s.ws s.out s.comp) (gR_of C.A X) (nI i) h e1 g1) cT_66 dT_dense_2 rfl lT_requireNode (Nat.le_of_ble_eq_true rfl) (Nat.le_of_ble_eq_true rfl) (Nat.le_of_ble_eq_true rfl) (Nat.le_of_ble_eq_true rfl) (by first | exact e1 | exact g1 | exact hna | exact id | assumption) rfl ⟨(Nat.le_of_ble_eq_true rfl), (Nat.le_of_ble_eq_true rfl)⟩ (fun g_2 => absurd (show btw (nI i) 0 (nI X.n - 1) by rw [hX]; exact btB_iff.mp hi) g_2) (fun g_2 => ?_)
        refine rk_iload_n dT_dense_5 rfl ?_
        refine rk_iconst (v := 1) dT_dense_6 (by decide) ?_
        refine rk_bipush (v := 8) dT_dense_7 (by decide) ?_
        refine rk_csI (c_T_requireBetween _ _ _ h) cT_35 dT_dense_9 rfl lT_requireBetween (Nat.le_of_ble_eq_true rfl) (Nat.le_of_ble_eq_true rfl) (Nat.le_of_ble_eq_true rfl) (Nat.le_of_ble_eq_true rfl) rfl ⟨(Nat.le_of_ble_eq_true rfl), (Nat.le_of_ble_eq_true rfl)⟩ (fun g_9 => absurd (btB_iff.mp hd) g_9) (fun g_9 => ?_)
        refine rk_dload dT_dense_12 rfl ?_
        refine rk_csI (c_T_requireScale sc h) cT_47 dT_dense_14 rfl lT_requireScale (Nat.le_of_ble_eq_true rfl) (Nat.le_of_ble_eq_true rfl) (Nat.le_of_ble_eq_true rfl) (Nat.le_of_ble_eq_true rfl) rfl ⟨(Nat.le_of_ble_eq_true rfl), (Nat.le_of_ble_eq_true rfl)⟩ (fun g_14 => (by rw [eo]; exact cPost.same k rfl rfl)) (fun g_14 => ?_)
        exact absurd (dsB_iff.mpr g_14) hs
    · have eo := eo1 (fun w => hd (and2.mp (and2.mp (and2.mp w).1).1).2)
      refine rk_aload_n dT_dense_0 rfl ?_
      refine rk_iload_n dT_dense_1 rfl ?_
      refine rk_cvI (c_T_requireNode C.a C.gb (tR_of C s.ws s.out s.comp) (gR_of C.A X) (nI i) h e1 g1) cT_66 dT_dense_2 rfl lT_requireNode (Nat.le_of_ble_eq_true rfl) (Nat.le_of_ble_eq_true rfl) (Nat.le_of_ble_eq_true rfl) (Nat.le_of_ble_eq_true rfl) (by first | exact e1 | exact g1 | exact hna | exact id | assumption) rfl ⟨(Nat.le_of_ble_eq_true rfl), (Nat.le_of_ble_eq_true rfl)⟩ (fun g_2 => absurd (show btw (nI i) 0 (nI X.n - 1) by rw [hX]; exact btB_iff.mp hi) g_2) (fun g_2 => ?_)
      refine rk_iload_n dT_dense_5 rfl ?_
      refine rk_iconst (v := 1) dT_dense_6 (by decide) ?_
      refine rk_bipush (v := 8) dT_dense_7 (by decide) ?_
      refine rk_csI (c_T_requireBetween _ _ _ h) cT_35 dT_dense_9 rfl lT_requireBetween (Nat.le_of_ble_eq_true rfl) (Nat.le_of_ble_eq_true rfl) (Nat.le_of_ble_eq_true rfl) (Nat.le_of_ble_eq_true rfl) rfl ⟨(Nat.le_of_ble_eq_true rfl), (Nat.le_of_ble_eq_true rfl)⟩ (fun g_9 => (by rw [eo]; exact cPost.same k rfl rfl)) (fun g_9 => ?_)
      exact absurd (btB_iff.mpr g_9) hd
  · have eo : opDense s p d off sc = (1, none, s) := mk3_1 (fun w => hi (and2.mp (and2.mp (and2.mp w).1).1).1)
    refine rk_aload_n dT_dense_0 rfl ?_
    refine rk_iload_n dT_dense_1 rfl ?_
    refine rk_cvI (c_T_requireNode C.a C.gb (tR_of C s.ws s.out s.comp) (gR_of C.A X) p h e1 g1) cT_66 dT_dense_2 rfl lT_requireNode (Nat.le_of_ble_eq_true rfl) (Nat.le_of_ble_eq_true rfl) (Nat.le_of_ble_eq_true rfl) (Nat.le_of_ble_eq_true rfl) (by first | exact e1 | exact g1 | assumption) rfl ⟨(Nat.le_of_ble_eq_true rfl), (Nat.le_of_ble_eq_true rfl)⟩ (fun g_2 => (by rw [eo]; exact cPost.same k rfl rfl)) (fun g_2 => ?_)
    exact absurd (btB_iff.mpr (show btw p 0 (nI s.n - 1) by rw [← hX]; exact g_2)) hi
theorem c_T_windows (C : cT) (s : aS) (p code dw off : Int32) (sc : UInt64) (h : rk_H) (k : cOK h C s) (ok : aOK s) : rk_Con mT_windows (9, 123, 9, 186) [.ref C.a, .int p, .int code, .int dw, .int off, .double sc] h (cPost h C s.n (opWindows s p code dw off sc) (exL [x_IA, x_AR, x_IS])) := by
  have e1 := k.1.1
  obtain ⟨X, hX, hG⟩ := k.1.2.2.1.eq
  have gI : gIs h C.gb C.A X := by
    have kg := k.1.2.2.1
    rw [hG]
    exact ⟨kg.gb, kg.gsf, kg.gst, kg.gsp, kg.gpl, kg.gla⟩
  have g1 := gI.1
  have hna := k.1.2.2.1.2.1.1
  have hn := ok.1.1
  have hroom := room_n hX hn
  refine rk_Con.of [some (.ref C.a), some (.int p), some (.int code), some (.int dw), some (.int off), some (.double sc), none, none, none, none, none, none, none, none, none, none, none] rfl (Nat.le_of_ble_eq_true rfl) (by decide +kernel) ?_
  by_cases hi : ndB s p = true
  · obtain ⟨i, il, rfl⟩ := ndB_of hn hi
    obtain ⟨iq, id⟩ := k.1.2.2.1.2.1.2 i il
    have i14 : i < 14 := by omega
    have ib := ok.1.2.1.bd i il
    have ip := (ok.1.2.1 i il).1.2.1
    have ic := ib.ce
    have it : tN (nI i) = i := tN_I (by omega)
    have h4 := ib.1.2.1
    have w4 := ib.1.2.2.1
    by_cases hdw : dw = 0
    · by_cases hc : btB code 12 107 = true
      · obtain ⟨c, hcl, rfl⟩ := btwK (m := 107) rfl (by omega) ⟨Int32.le_trans (by decide) (btB_iff.mp hc).1, (btB_iff.mp hc).2⟩
        have hch : c / 12 ≤ 8 := by omega
        have wf1 := w_fits_n (co := c % 12) (l := (s.N i).h) (by omega) (by omega)
        have wf2 := w_fits_n (co := c % 12) (l := (s.N i).w) (by omega) (by omega)
        have eo1 : ¬ (ndB s (nI i) && btB (nI c) 12 107 && dsB sc && (z_fit (c % 12) (s.N i).h && z_fit (c % 12) (s.N i).w) && btB off 0 (512 - nI (c / 12) * nI (z_size (c % 12) * z_size (c % 12) * (s.N i).c) - nI (c / 12))) = true → opWindows s (nI i) (nI c) dw off sc = (1, none, s) := by
          intro hz
          unfold opWindows wPc wCh wCo
          rw [it, tN_I (show c < 2 ^ 31 by omega), if_pos hdw, if_pos hdw, if_pos hdw, if_pos hdw]
          exact mk3_1 hz
        by_cases hs : dsB sc = true
        · by_cases hf : (z_fit (c % 12) (s.N i).h && z_fit (c % 12) (s.N i).w) = true
          · obtain ⟨f1, f2⟩ := and2.mp hf
            have hfit : w_fits (nI (c % 12)) (nMi s.N C.fe i).h = true ∧ w_fits (nI (c % 12)) (nMi s.N C.fe i).w = true := ⟨wf1.trans f1, wf2.trans f2⟩
            have pl1 := z_plc_ok (co := c % 12) ip.1 f1
            have pl2 := z_plc_ok (co := c % 12) ip.2.1 f2
            have hm : z_plc (c % 12) (s.N i).h * z_plc (c % 12) (s.N i).w * (c / 12) ≤ 4 * 4 * 8 := Nat.mul_le_mul (Nat.mul_le_mul (by omega) (by omega)) hch
            by_cases ho : btB off 0 (512 - nI (c / 12) * nI (z_size (c % 12) * z_size (c % 12) * (s.N i).c) - nI (c / 12)) = true
            · obtain ⟨of, hof, rfl⟩ := nI_of (Int32.not_lt.mpr (btB_iff.mp ho).1)
              have hgg : (ndB s (nI i) && btB (nI c) 12 107 && dsB sc && (z_fit (c % 12) (s.N i).h && z_fit (c % 12) (s.N i).w) && btB (nI of) 0 (512 - nI (c / 12) * nI (z_size (c % 12) * z_size (c % 12) * (s.N i).c) - nI (c / 12))) = true := by rw [hi, hc, hs, hf, ho]; rfl
              have eop : opWindows s (nI i) (nI c) dw (nI of) sc = mk3 s (ndB s (nI i) && btB (nI c) 12 107 && dsB sc && (z_fit (c % 12) (s.N i).h && z_fit (c % 12) (s.N i).w) && btB (nI of) 0 (512 - nI (c / 12) * nI (z_size (c % 12) * z_size (c % 12) * (s.N i).c) - nI (c / 12))) (d_good (FP.ddiv (FP.dmul (s.N i).sc s.ws) sc)) (((1, some i, none), (z_plc (c % 12) (s.N i).h, z_plc (c % 12) (s.N i).w, (c / 12)), (sc, s.ws), (c % 12, of), (0, 0)) : aN) := by
                unfold opWindows wPc wCh wCo
                rw [it, tN_I (show c < 2 ^ 31 by omega), tN_I hof, if_pos hdw, if_pos hdw, if_pos hdw, if_pos hdw]
              by_cases hgd : d_good (FP.ddiv (FP.dmul (s.N i).sc s.ws) sc) = true
              · by_cases h14 : s.n = 14
                · refine rk_aload_n dT_windows_0 rfl ?_
                  refine rk_iload_n dT_windows_1 rfl ?_
                  refine rk_cvI (c_T_requireNode C.a C.gb (tR_of C s.ws s.out s.comp) (gR_of C.A X) (nI i) h e1 g1) cT_66 dT_windows_2 rfl lT_requireNode (Nat.le_of_ble_eq_true rfl) (Nat.le_of_ble_eq_true rfl) (Nat.le_of_ble_eq_true rfl) (Nat.le_of_ble_eq_true rfl) (by first | exact e1 | exact g1 | exact hna | exact id | assumption) rfl ⟨(Nat.le_of_ble_eq_true rfl), (Nat.le_of_ble_eq_true rfl)⟩ (fun g_2 => absurd (show btw (nI i) 0 (nI X.n - 1) by rw [hX]; exact btB_iff.mp hi) g_2) (fun g_2 => ?_)
                  refine rk_iload_n dT_windows_5 rfl ?_
                  refine rk_iload_n dT_windows_6 rfl ?_
                  refine rk_csI (c_T_requireWindowsCode _ _ h) cT_70 dT_windows_7 rfl lT_requireWindowsCode (Nat.le_of_ble_eq_true rfl) (Nat.le_of_ble_eq_true rfl) (Nat.le_of_ble_eq_true rfl) (Nat.le_of_ble_eq_true rfl) rfl ⟨(Nat.le_of_ble_eq_true rfl), (Nat.le_of_ble_eq_true rfl)⟩ (fun g_7 => absurd (show (if dw = 0 then btw (nI c) 12 107 else btw (nI c) 0 11) by rw [if_pos hdw]; exact btB_iff.mp hc) g_7) (fun g_7 => ?_)
                  refine rk_dload dT_windows_10 rfl ?_
                  refine rk_csI (c_T_requireScale sc h) cT_47 dT_windows_12 rfl lT_requireScale (Nat.le_of_ble_eq_true rfl) (Nat.le_of_ble_eq_true rfl) (Nat.le_of_ble_eq_true rfl) (Nat.le_of_ble_eq_true rfl) rfl ⟨(Nat.le_of_ble_eq_true rfl), (Nat.le_of_ble_eq_true rfl)⟩ (fun g_12 => absurd (dsB_iff.mp hs) g_12) (fun g_12 => ?_)
                  refine rk_aload_n dT_windows_15 rfl ?_
                  refine rk_getf fT_12 dT_windows_16 (by first | exact e1 | exact g1 | exact hna | exact id | assumption) rfl ?_
                  refine rk_getf fT_74 dT_windows_19 (by first | exact e1 | exact g1 | exact hna | exact id | assumption) rfl ?_
                  refine rk_iload_n dT_windows_22 rfl ?_
                  refine rk_aald rfl dT_windows_23 (by first | exact e1 | exact g1 | exact hna | exact id | assumption) (vp_in_nI i14 (by omega)) (v_nd (by omega) iq) ?_
                  refine rk_astore dT_windows_24 (Nat.le_of_ble_eq_true rfl) ?_
                  refine rk_iload_n dT_windows_26 rfl ?_
                  refine rk_bipush (v := 12) dT_windows_27 (by decide) ?_
                  refine rk_irem dT_windows_29 (by decide) ?_
                  rw [show (12 : Int32) = nI 12 from rfl, pk_rem (by omega) (by omega) (by omega)]
                  refine rk_istore dT_windows_30 (Nat.le_of_ble_eq_true rfl) ?_
                  refine rk_lv [some (.ref C.a), some (.int (nI i)), some (.int (nI c)), some (.int dw), some (.int (nI of)), some (.double sc), none, some (.ref (C.ad i)), some (.int (nI (c % 12))), none, none, none, none, none, none, none, none] ⟨rfl, rfl, rfl, rfl, rfl, rfl, rfl, rfl, trivial⟩ ?_
                  refine rk_aload dT_windows_32 rfl ?_
                  refine rk_iload dT_windows_34 rfl ?_
                  refine rk_csI (c_T_requireWindowFits (C.ad i) (nMi s.N C.fe i) _ h id) cT_78 dT_windows_36 rfl lT_requireWindowFits (Nat.le_of_ble_eq_true rfl) (Nat.le_of_ble_eq_true rfl) (Nat.le_of_ble_eq_true rfl) (Nat.le_of_ble_eq_true rfl) rfl ⟨(Nat.le_of_ble_eq_true rfl), (Nat.le_of_ble_eq_true rfl)⟩ (fun g_36 => absurd hfit g_36) (fun g_36 => ?_)
                  refine rk_iload dT_windows_39 rfl ?_
                  refine rk_csV (c_W_sizeOf (nI (c % 12)) _) cT_82 dT_windows_41 rfl lW_sizeOf (Nat.le_of_ble_eq_true rfl) (Nat.le_of_ble_eq_true rfl) (Nat.le_of_ble_eq_true rfl) (Nat.le_of_ble_eq_true rfl) ?_
                  rw [z_size_i (by omega)]
                  refine rk_istore dT_windows_44 (Nat.le_of_ble_eq_true rfl) ?_
                  refine rk_iload_n dT_windows_46 rfl ?_
                  refine rk_if_eq 58 dT_windows_47 (by decide) (fun q_47 => ?_) (fun q_47 => (by exact absurd hdw q_47))
                  refine rk_iload_n dT_windows_58 rfl ?_
                  refine rk_bipush (v := 12) dT_windows_59 (by decide) ?_
                  refine rk_idiv dT_windows_61 (by decide) ?_
                  rw [show (12 : Int32) = nI 12 from rfl, pk_div (by omega) (by omega) (by omega)]
                  refine rk_istore dT_windows_62 (Nat.le_of_ble_eq_true rfl) ?_
                  refine rk_iload dT_windows_64 rfl ?_
                  refine rk_iload dT_windows_66 rfl ?_
                  refine rk_imul dT_windows_68 ?_
                  refine rk_iload_n dT_windows_69 rfl ?_
                  refine rk_if_eq 77 dT_windows_70 (by decide) (fun q_70 => ?_) (fun q_70 => (by exact absurd hdw q_70))
                  refine rk_aload dT_windows_77 rfl ?_
                  refine rk_getf fT_88 dT_windows_79 (by first | exact e1 | exact g1 | exact hna | exact id | assumption) rfl ?_
                  refine rk_imul dT_windows_82 ?_
                  rw [pk_mul, pk_mul]
                  refine rk_istore dT_windows_83 (Nat.le_of_ble_eq_true rfl) ?_
                  refine rk_lv [some (.ref C.a), some (.int (nI i)), some (.int (nI c)), some (.int dw), some (.int (nI of)), some (.double sc), none, some (.ref (C.ad i)), some (.int (nI (c % 12))), none, some (.int (nI (c / 12))), some (.int (nI (z_size (c % 12) * z_size (c % 12) * (s.N i).c))), none, none, none, none, none] ⟨rfl, rfl, rfl, rfl, rfl, rfl, rfl, rfl, rfl, rfl, trivial⟩ ?_
                  refine rk_iload dT_windows_85 rfl ?_
                  refine rk_iload dT_windows_87 rfl ?_
                  refine rk_iload dT_windows_89 rfl ?_
                  refine rk_csI (c_T_requireWeights _ _ _ h) cT_91 dT_windows_91 rfl lT_requireWeights (Nat.le_of_ble_eq_true rfl) (Nat.le_of_ble_eq_true rfl) (Nat.le_of_ble_eq_true rfl) (Nat.le_of_ble_eq_true rfl) rfl ⟨(Nat.le_of_ble_eq_true rfl), (Nat.le_of_ble_eq_true rfl)⟩ (fun g_91 => absurd (btB_iff.mp ho) g_91) (fun g_91 => ?_)
                  refine rk_aload_n dT_windows_94 rfl ?_
                  refine rk_aload dT_windows_95 rfl ?_
                  refine rk_dload dT_windows_97 rfl ?_
                  refine rk_cvV (c_T_wratio C s (C.ad i) (s.N i) (C.fe i) (ratA s.N i) (ratB s.N i) sc h e1 id (fp_rat1 ib.2.1 ok.1.2.2.2 (d_scl_iff.mp g_12)).1 (fp_rat1 ib.2.1 ok.1.2.2.2 (d_scl_iff.mp g_12)).2) cT_94 dT_windows_99 rfl lT_weightedRatio (Nat.le_of_ble_eq_true rfl) (Nat.le_of_ble_eq_true rfl) (Nat.le_of_ble_eq_true rfl) (Nat.le_of_ble_eq_true rfl) (by first | exact e1 | exact g1 | exact hna | exact id | assumption) ?_
                  refine rk_dstore dT_windows_102 (Nat.le_of_ble_eq_true rfl) ?_
                  refine rk_lv [some (.ref C.a), some (.int (nI i)), some (.int (nI c)), some (.int dw), some (.int (nI of)), some (.double sc), none, some (.ref (C.ad i)), some (.int (nI (c % 12))), none, some (.int (nI (c / 12))), none, some (.double (FP.ddiv (FP.dmul (s.N i).sc s.ws) sc)), none, none, none, none] ⟨rfl, rfl, rfl, rfl, rfl, rfl, rfl, rfl, rfl, rfl, trivial⟩ ?_
                  refine rk_dload dT_windows_104 rfl ?_
                  refine rk_csI (c_T_requireGood _ h) cT_98 dT_windows_106 rfl lT_requireGood (Nat.le_of_ble_eq_true rfl) (Nat.le_of_ble_eq_true rfl) (Nat.le_of_ble_eq_true rfl) (Nat.le_of_ble_eq_true rfl) rfl ⟨(Nat.le_of_ble_eq_true rfl), (Nat.le_of_ble_eq_true rfl)⟩ (fun g_106 => absurd hgd g_106) (fun g_106 => ?_)
                  refine rk_aload_n dT_windows_109 rfl ?_
                  refine rk_cvI (c_T_requireRoom C.a (tR_of C s.ws s.out s.comp) (gR_of C.A X) h e1 g1) cT_54 dT_windows_110 rfl lT_requireRoom (Nat.le_of_ble_eq_true rfl) (Nat.le_of_ble_eq_true rfl) (Nat.le_of_ble_eq_true rfl) (Nat.le_of_ble_eq_true rfl) (by first | exact e1 | exact g1 | exact hna | exact id | assumption) rfl ⟨(Nat.le_of_ble_eq_true rfl), (Nat.le_of_ble_eq_true rfl)⟩ (fun g_110 => (by rw [eop, mk3_3 hgg hgd h14]; exact cPost.same k rfl rfl)) (fun g_110 => ?_)
                  exact absurd h14 (hroom.mp g_110)
                · skip
                  have P := fun (b q : Nat) (bn : h b = none) (hq : h q = none) (hbq : b ≠ q) => k.push ok.1.2.1.inn (by omega) X hX gI b q (((1, some i, none), (z_plc (c % 12) (s.N i).h, z_plc (c % 12) (s.N i).w, (c / 12)), (sc, s.ws), (c % 12, of), (0, 0)) : aN) bn hq hbq hm
                  have hra : ratA (updN s.N s.n (((1, some i, none), (z_plc (c % 12) (s.N i).h, z_plc (c % 12) (s.N i).w, (c / 12)), (sc, s.ws), (c % 12, of), (0, 0)) : aN)) s.n = FP.ddiv (FP.dmul (s.N i).sc s.ws) sc := by
                    unfold ratA
                    rw [show updN s.N s.n (((1, some i, none), (z_plc (c % 12) (s.N i).h, z_plc (c % 12) (s.N i).w, (c / 12)), (sc, s.ws), (c % 12, of), (0, 0)) : aN) s.n = (((1, some i, none), (z_plc (c % 12) (s.N i).h, z_plc (c % 12) (s.N i).w, (c / 12)), (sc, s.ws), (c % 12, of), (0, 0)) : aN) from if_pos rfl]
                    show FP.ddiv (FP.dmul ((updN s.N s.n (((1, some i, none), (z_plc (c % 12) (s.N i).h, z_plc (c % 12) (s.N i).w, (c / 12)), (sc, s.ws), (c % 12, of), (0, 0)) : aN) i).sc) s.ws) sc = _
                    rw [show updN s.N s.n (((1, some i, none), (z_plc (c % 12) (s.N i).h, z_plc (c % 12) (s.N i).w, (c / 12)), (sc, s.ws), (c % 12, of), (0, 0)) : aN) i = s.N i from if_neg (by omega)]
                  have hrb : ratB (updN s.N s.n (((1, some i, none), (z_plc (c % 12) (s.N i).h, z_plc (c % 12) (s.N i).w, (c / 12)), (sc, s.ws), (c % 12, of), (0, 0)) : aN)) s.n = 0 := by
                    unfold ratB
                    rw [show updN s.N s.n (((1, some i, none), (z_plc (c % 12) (s.N i).h, z_plc (c % 12) (s.N i).w, (c / 12)), (sc, s.ws), (c % 12, of), (0, 0)) : aN) s.n = (((1, some i, none), (z_plc (c % 12) (s.N i).h, z_plc (c % 12) (s.N i).w, (c / 12)), (sc, s.ws), (c % 12, of), (0, 0)) : aN) from if_pos rfl]
                    rfl
                  rw [hra, hrb] at P
                  refine rk_aload_n dT_windows_0 rfl ?_
                  refine rk_iload_n dT_windows_1 rfl ?_
                  refine rk_cvI (c_T_requireNode C.a C.gb (tR_of C s.ws s.out s.comp) (gR_of C.A X) (nI i) h e1 g1) cT_66 dT_windows_2 rfl lT_requireNode (Nat.le_of_ble_eq_true rfl) (Nat.le_of_ble_eq_true rfl) (Nat.le_of_ble_eq_true rfl) (Nat.le_of_ble_eq_true rfl) (by first | exact rk_up_k (rk_ne e1 bn) e1 | exact rk_up_k (rk_ne g1 bn) g1 | exact rk_up_k (rk_ne hna bn) hna | exact rk_up_k (rk_ne id bn) id | exact e1 | exact g1 | exact hna | exact id | assumption) rfl ⟨(Nat.le_of_ble_eq_true rfl), (Nat.le_of_ble_eq_true rfl)⟩ (fun g_2 => absurd (show btw (nI i) 0 (nI X.n - 1) by rw [hX]; exact btB_iff.mp hi) g_2) (fun g_2 => ?_)
                  refine rk_iload_n dT_windows_5 rfl ?_
                  refine rk_iload_n dT_windows_6 rfl ?_
                  refine rk_csI (c_T_requireWindowsCode _ _ h) cT_70 dT_windows_7 rfl lT_requireWindowsCode (Nat.le_of_ble_eq_true rfl) (Nat.le_of_ble_eq_true rfl) (Nat.le_of_ble_eq_true rfl) (Nat.le_of_ble_eq_true rfl) rfl ⟨(Nat.le_of_ble_eq_true rfl), (Nat.le_of_ble_eq_true rfl)⟩ (fun g_7 => absurd (show (if dw = 0 then btw (nI c) 12 107 else btw (nI c) 0 11) by rw [if_pos hdw]; exact btB_iff.mp hc) g_7) (fun g_7 => ?_)
                  refine rk_dload dT_windows_10 rfl ?_
                  refine rk_csI (c_T_requireScale sc h) cT_47 dT_windows_12 rfl lT_requireScale (Nat.le_of_ble_eq_true rfl) (Nat.le_of_ble_eq_true rfl) (Nat.le_of_ble_eq_true rfl) (Nat.le_of_ble_eq_true rfl) rfl ⟨(Nat.le_of_ble_eq_true rfl), (Nat.le_of_ble_eq_true rfl)⟩ (fun g_12 => absurd (dsB_iff.mp hs) g_12) (fun g_12 => ?_)
                  refine rk_aload_n dT_windows_15 rfl ?_
                  refine rk_getf fT_12 dT_windows_16 (by first | exact rk_up_k (rk_ne e1 bn) e1 | exact rk_up_k (rk_ne g1 bn) g1 | exact rk_up_k (rk_ne hna bn) hna | exact rk_up_k (rk_ne id bn) id | exact e1 | exact g1 | exact hna | exact id | assumption) rfl ?_
                  refine rk_getf fT_74 dT_windows_19 (by first | exact rk_up_k (rk_ne e1 bn) e1 | exact rk_up_k (rk_ne g1 bn) g1 | exact rk_up_k (rk_ne hna bn) hna | exact rk_up_k (rk_ne id bn) id | exact e1 | exact g1 | exact hna | exact id | assumption) rfl ?_
                  refine rk_iload_n dT_windows_22 rfl ?_
                  refine rk_aald rfl dT_windows_23 (by first | exact rk_up_k (rk_ne e1 bn) e1 | exact rk_up_k (rk_ne g1 bn) g1 | exact rk_up_k (rk_ne hna bn) hna | exact rk_up_k (rk_ne id bn) id | exact e1 | exact g1 | exact hna | exact id | assumption) (vp_in_nI i14 (by omega)) (v_nd (by omega) iq) ?_
                  refine rk_astore dT_windows_24 (Nat.le_of_ble_eq_true rfl) ?_
                  refine rk_iload_n dT_windows_26 rfl ?_
                  refine rk_bipush (v := 12) dT_windows_27 (by decide) ?_
                  refine rk_irem dT_windows_29 (by decide) ?_
                  rw [show (12 : Int32) = nI 12 from rfl, pk_rem (by omega) (by omega) (by omega)]
                  refine rk_istore dT_windows_30 (Nat.le_of_ble_eq_true rfl) ?_
                  refine rk_lv [some (.ref C.a), some (.int (nI i)), some (.int (nI c)), some (.int dw), some (.int (nI of)), some (.double sc), none, some (.ref (C.ad i)), some (.int (nI (c % 12))), none, none, none, none, none, none, none, none] ⟨rfl, rfl, rfl, rfl, rfl, rfl, rfl, rfl, trivial⟩ ?_
                  refine rk_aload dT_windows_32 rfl ?_
                  refine rk_iload dT_windows_34 rfl ?_
                  refine rk_csI (c_T_requireWindowFits (C.ad i) (nMi s.N C.fe i) _ h id) cT_78 dT_windows_36 rfl lT_requireWindowFits (Nat.le_of_ble_eq_true rfl) (Nat.le_of_ble_eq_true rfl) (Nat.le_of_ble_eq_true rfl) (Nat.le_of_ble_eq_true rfl) rfl ⟨(Nat.le_of_ble_eq_true rfl), (Nat.le_of_ble_eq_true rfl)⟩ (fun g_36 => absurd hfit g_36) (fun g_36 => ?_)
                  refine rk_iload dT_windows_39 rfl ?_
                  refine rk_csV (c_W_sizeOf (nI (c % 12)) _) cT_82 dT_windows_41 rfl lW_sizeOf (Nat.le_of_ble_eq_true rfl) (Nat.le_of_ble_eq_true rfl) (Nat.le_of_ble_eq_true rfl) (Nat.le_of_ble_eq_true rfl) ?_
                  rw [z_size_i (by omega)]
                  refine rk_istore dT_windows_44 (Nat.le_of_ble_eq_true rfl) ?_
                  refine rk_iload_n dT_windows_46 rfl ?_
                  refine rk_if_eq 58 dT_windows_47 (by decide) (fun q_47 => ?_) (fun q_47 => (by exact absurd hdw q_47))
                  refine rk_iload_n dT_windows_58 rfl ?_
                  refine rk_bipush (v := 12) dT_windows_59 (by decide) ?_
                  refine rk_idiv dT_windows_61 (by decide) ?_
                  rw [show (12 : Int32) = nI 12 from rfl, pk_div (by omega) (by omega) (by omega)]
                  refine rk_istore dT_windows_62 (Nat.le_of_ble_eq_true rfl) ?_
                  refine rk_iload dT_windows_64 rfl ?_
                  refine rk_iload dT_windows_66 rfl ?_
                  refine rk_imul dT_windows_68 ?_
                  refine rk_iload_n dT_windows_69 rfl ?_
                  refine rk_if_eq 77 dT_windows_70 (by decide) (fun q_70 => ?_) (fun q_70 => (by exact absurd hdw q_70))
                  refine rk_aload dT_windows_77 rfl ?_
                  refine rk_getf fT_88 dT_windows_79 (by first | exact rk_up_k (rk_ne e1 bn) e1 | exact rk_up_k (rk_ne g1 bn) g1 | exact rk_up_k (rk_ne hna bn) hna | exact rk_up_k (rk_ne id bn) id | exact e1 | exact g1 | exact hna | exact id | assumption) rfl ?_
                  refine rk_imul dT_windows_82 ?_
                  rw [pk_mul, pk_mul]
                  refine rk_istore dT_windows_83 (Nat.le_of_ble_eq_true rfl) ?_
                  refine rk_lv [some (.ref C.a), some (.int (nI i)), some (.int (nI c)), some (.int dw), some (.int (nI of)), some (.double sc), none, some (.ref (C.ad i)), some (.int (nI (c % 12))), none, some (.int (nI (c / 12))), some (.int (nI (z_size (c % 12) * z_size (c % 12) * (s.N i).c))), none, none, none, none, none] ⟨rfl, rfl, rfl, rfl, rfl, rfl, rfl, rfl, rfl, rfl, trivial⟩ ?_
                  refine rk_iload dT_windows_85 rfl ?_
                  refine rk_iload dT_windows_87 rfl ?_
                  refine rk_iload dT_windows_89 rfl ?_
                  refine rk_csI (c_T_requireWeights _ _ _ h) cT_91 dT_windows_91 rfl lT_requireWeights (Nat.le_of_ble_eq_true rfl) (Nat.le_of_ble_eq_true rfl) (Nat.le_of_ble_eq_true rfl) (Nat.le_of_ble_eq_true rfl) rfl ⟨(Nat.le_of_ble_eq_true rfl), (Nat.le_of_ble_eq_true rfl)⟩ (fun g_91 => absurd (btB_iff.mp ho) g_91) (fun g_91 => ?_)
                  refine rk_aload_n dT_windows_94 rfl ?_
                  refine rk_aload dT_windows_95 rfl ?_
                  refine rk_dload dT_windows_97 rfl ?_
                  refine rk_cvV (c_T_wratio C s (C.ad i) (s.N i) (C.fe i) (ratA s.N i) (ratB s.N i) sc h e1 id (fp_rat1 ib.2.1 ok.1.2.2.2 (d_scl_iff.mp g_12)).1 (fp_rat1 ib.2.1 ok.1.2.2.2 (d_scl_iff.mp g_12)).2) cT_94 dT_windows_99 rfl lT_weightedRatio (Nat.le_of_ble_eq_true rfl) (Nat.le_of_ble_eq_true rfl) (Nat.le_of_ble_eq_true rfl) (Nat.le_of_ble_eq_true rfl) (by first | exact rk_up_k (rk_ne e1 bn) e1 | exact rk_up_k (rk_ne g1 bn) g1 | exact rk_up_k (rk_ne hna bn) hna | exact rk_up_k (rk_ne id bn) id | exact e1 | exact g1 | exact hna | exact id | assumption) ?_
                  refine rk_dstore dT_windows_102 (Nat.le_of_ble_eq_true rfl) ?_
                  refine rk_lv [some (.ref C.a), some (.int (nI i)), some (.int (nI c)), some (.int dw), some (.int (nI of)), some (.double sc), none, some (.ref (C.ad i)), some (.int (nI (c % 12))), none, some (.int (nI (c / 12))), none, some (.double (FP.ddiv (FP.dmul (s.N i).sc s.ws) sc)), none, none, none, none] ⟨rfl, rfl, rfl, rfl, rfl, rfl, rfl, rfl, rfl, rfl, trivial⟩ ?_
                  refine rk_dload dT_windows_104 rfl ?_
                  refine rk_csI (c_T_requireGood _ h) cT_98 dT_windows_106 rfl lT_requireGood (Nat.le_of_ble_eq_true rfl) (Nat.le_of_ble_eq_true rfl) (Nat.le_of_ble_eq_true rfl) (Nat.le_of_ble_eq_true rfl) rfl ⟨(Nat.le_of_ble_eq_true rfl), (Nat.le_of_ble_eq_true rfl)⟩ (fun g_106 => absurd hgd g_106) (fun g_106 => ?_)
                  refine rk_aload_n dT_windows_109 rfl ?_
                  refine rk_cvI (c_T_requireRoom C.a (tR_of C s.ws s.out s.comp) (gR_of C.A X) h e1 g1) cT_54 dT_windows_110 rfl lT_requireRoom (Nat.le_of_ble_eq_true rfl) (Nat.le_of_ble_eq_true rfl) (Nat.le_of_ble_eq_true rfl) (Nat.le_of_ble_eq_true rfl) (by first | exact rk_up_k (rk_ne e1 bn) e1 | exact rk_up_k (rk_ne g1 bn) g1 | exact rk_up_k (rk_ne hna bn) hna | exact rk_up_k (rk_ne id bn) id | exact e1 | exact g1 | exact hna | exact id | assumption) rfl ⟨(Nat.le_of_ble_eq_true rfl), (Nat.le_of_ble_eq_true rfl)⟩ (fun g_110 => absurd (hroom.mpr h14) g_110) (fun g_110 => ?_)
                  refine rk_iload dT_windows_113 rfl ?_
                  refine rk_aload dT_windows_115 rfl ?_
                  refine rk_getf fT_101 dT_windows_117 (by first | exact rk_up_k (rk_ne e1 bn) e1 | exact rk_up_k (rk_ne g1 bn) g1 | exact rk_up_k (rk_ne hna bn) hna | exact rk_up_k (rk_ne id bn) id | exact e1 | exact g1 | exact hna | exact id | assumption) rfl ?_
                  refine rk_csV (c_W_placesOf (nI (c % 12)) (nI (s.N i).h) _) cT_104 dT_windows_120 rfl lW_placesOf (Nat.le_of_ble_eq_true rfl) (Nat.le_of_ble_eq_true rfl) (Nat.le_of_ble_eq_true rfl) (Nat.le_of_ble_eq_true rfl) ?_
                  rw [w_plc_n (by omega) (by omega) ip.1 f1]
                  refine rk_istore dT_windows_123 (Nat.le_of_ble_eq_true rfl) ?_
                  refine rk_iload dT_windows_125 rfl ?_
                  refine rk_aload dT_windows_127 rfl ?_
                  refine rk_getf fT_108 dT_windows_129 (by first | exact rk_up_k (rk_ne e1 bn) e1 | exact rk_up_k (rk_ne g1 bn) g1 | exact rk_up_k (rk_ne hna bn) hna | exact rk_up_k (rk_ne id bn) id | exact e1 | exact g1 | exact hna | exact id | assumption) rfl ?_
                  refine rk_csV (c_W_placesOf (nI (c % 12)) (nI (s.N i).w) _) cT_104 dT_windows_132 rfl lW_placesOf (Nat.le_of_ble_eq_true rfl) (Nat.le_of_ble_eq_true rfl) (Nat.le_of_ble_eq_true rfl) (Nat.le_of_ble_eq_true rfl) ?_
                  rw [w_plc_n (by omega) (by omega) ip.2.1 f2]
                  refine rk_istore dT_windows_135 (Nat.le_of_ble_eq_true rfl) ?_
                  refine rk_lv [some (.ref C.a), some (.int (nI i)), some (.int (nI c)), some (.int dw), some (.int (nI of)), some (.double sc), none, some (.ref (C.ad i)), some (.int (nI (c % 12))), none, some (.int (nI (c / 12))), none, some (.double (FP.ddiv (FP.dmul (s.N i).sc s.ws) sc)), none, some (.int (nI (z_plc (c % 12) (s.N i).h))), some (.int (nI (z_plc (c % 12) (s.N i).w))), none] ⟨rfl, rfl, rfl, rfl, rfl, rfl, rfl, rfl, rfl, rfl, rfl, rfl, trivial⟩ ?_
                  refine rk_new (fs := [.int 0, .int 0, .int 0, .int 0, .int 0, .int 0, .int 0, .double 0, .null, .int 0, .int 0, .double 0, .int 0, .int 0, .double 0, .double 0]) kN nT_57.1 nT_57.2.1 nT_57.2.2 (by intro j hj; rcases (show j = 0 ∨ j = 1 ∨ j = 2 ∨ j = 3 ∨ j = 4 ∨ j = 5 ∨ j = 6 ∨ j = 7 ∨ j = 8 ∨ j = 9 ∨ j = 10 ∨ j = 11 ∨ j = 12 ∨ j = 13 ∨ j = 14 ∨ j = 15 by omega) with rfl | rfl | rfl | rfl | rfl | rfl | rfl | rfl | rfl | rfl | rfl | rfl | rfl | rfl | rfl | rfl <;> rfl) dT_windows_137 (Nat.le_of_ble_eq_true rfl) (Nat.le_of_ble_eq_true rfl) (fun b bn => ?_)
                  refine rk_dup dT_windows_140 rfl ?_
                  refine rk_iload_n dT_windows_141 rfl ?_
                  refine rk_if_eq 149 dT_windows_142 (by decide) (fun q_142 => ?_) (fun q_142 => (by exact absurd hdw q_142))
                  refine rk_iconst (v := 1) dT_windows_149 (by decide) ?_
                  refine rk_iload_n dT_windows_150 rfl ?_
                  refine rk_iconst (v := -1) dT_windows_151 (by decide) ?_
                  refine rk_iload dT_windows_152 rfl ?_
                  refine rk_iload dT_windows_154 rfl ?_
                  refine rk_iload dT_windows_156 rfl ?_
                  refine rk_dload dT_windows_158 rfl ?_
                  refine rk_cnG (c_N_init b 1 (some i) none (z_plc (c % 12) (s.N i).h) (z_plc (c % 12) (s.N i).w) (c / 12) sc _ rk_up_s hm (by omega)) cT_59 dT_windows_160 rfl lN_init (Nat.le_of_ble_eq_true rfl) (Nat.le_of_ble_eq_true rfl) (Nat.le_of_ble_eq_true rfl) (Nat.le_of_ble_eq_true rfl) ?_
                  rintro r_0 h_0 ⟨rfl, q, hq0, rfl⟩
                  refine rk_nx0 ?_
                  obtain ⟨hbq, hq⟩ := new_fr hq0
                  rw [new_sw hbq]
                  have hab : C.a ≠ b := rk_ne e1 bn
                  have haq : C.a ≠ q := rk_ne e1 hq
                  have hgb : C.gb ≠ b := rk_ne g1 bn
                  have hgq : C.gb ≠ q := rk_ne g1 hq
                  have hnb : C.A.na ≠ b := rk_ne hna bn
                  have hnq : C.A.na ≠ q := rk_ne hna hq
                  refine rk_astore dT_windows_163 (Nat.le_of_ble_eq_true rfl) ?_
                  refine rk_aload dT_windows_165 rfl ?_
                  refine rk_iload dT_windows_167 rfl ?_
                  refine rk_putf pT_111 dT_windows_169 (by first | (simp only [rk_up_s, rk_up_n hab, rk_up_n haq, rk_up_n hgb, rk_up_n hgq, rk_up_n hnb, rk_up_n hnq]; first | exact e1 | exact g1 | exact hna | rfl) | exact e1 | exact g1 | exact hna | assumption) (Nat.le_of_ble_eq_true rfl) rfl rfl ?_
                  refine rk_aload dT_windows_172 rfl ?_
                  refine rk_iload dT_windows_174 rfl ?_
                  refine rk_aload_n dT_windows_176 rfl ?_
                  refine rk_getf fT_23 dT_windows_177 (by first | (simp only [rk_up_s, rk_up_n hab, rk_up_n haq, rk_up_n hgb, rk_up_n hgq, rk_up_n hnb, rk_up_n hnq]; first | exact e1 | exact g1 | exact hna | rfl) | exact e1 | exact g1 | exact hna | assumption) rfl ?_
                  refine rk_dload dT_windows_180 rfl ?_
                  refine rk_cv0 (c_N_weigh b (nM (((1, some i, none), (z_plc (c % 12) (s.N i).h, z_plc (c % 12) (s.N i).w, (c / 12)), (sc, 0), (c % 12, 0), (0, 0)) : aN) q 0 0) (nI of) s.ws (FP.ddiv (FP.dmul (s.N i).sc s.ws) sc) _ rk_up_s) cT_114 dT_windows_182 rfl lN_weigh (Nat.le_of_ble_eq_true rfl) (Nat.le_of_ble_eq_true rfl) (Nat.le_of_ble_eq_true rfl) (Nat.le_of_ble_eq_true rfl) (by first | (simp only [rk_up_s, rk_up_n hab, rk_up_n haq, rk_up_n hgb, rk_up_n hgq, rk_up_n hnb, rk_up_n hnq]; first | exact e1 | exact g1 | exact hna | rfl) | exact e1 | exact g1 | exact hna | assumption) ?_
                  rw [rk_up_up, rk_up_up]
                  refine rk_aload_n dT_windows_185 rfl ?_
                  refine rk_aload dT_windows_186 rfl ?_
                  refine rk_cvV (c_T_keep C s b X _ _ (by simp only [rk_up_s, rk_up_n hab, rk_up_n haq, rk_up_n hgb, rk_up_n hgq, rk_up_n hnb, rk_up_n hnq]; exact e1) (by simp only [rk_up_s, rk_up_n hab, rk_up_n haq, rk_up_n hgb, rk_up_n hgq, rk_up_n hnb, rk_up_n hnq]; exact g1) (by simp only [rk_up_s, rk_up_n hab, rk_up_n haq, rk_up_n hgb, rk_up_n hgq, rk_up_n hnb, rk_up_n hnq]; exact hna) rk_up_s (by omega)) cT_62 dT_windows_188 rfl lT_keep (Nat.le_of_ble_eq_true rfl) (Nat.le_of_ble_eq_true rfl) (Nat.le_of_ble_eq_true rfl) (Nat.le_of_ble_eq_true rfl) (by first | (simp only [rk_up_s, rk_up_n hab, rk_up_n haq, rk_up_n hgb, rk_up_n hgq, rk_up_n hnb, rk_up_n hnq]; first | exact e1 | exact g1 | exact hna | rfl) | exact e1 | exact g1 | exact hna | assumption) ?_
                  exact rk_iret rfl dT_windows_191 ⟨(Nat.le_of_ble_eq_true rfl), (Nat.le_of_ble_eq_true rfl)⟩ (by rw [eop, mk3_0 hgg hgd h14]; exact ⟨⟨_, (P b q bn hq hbq).1, (P b q bn hq hbq).2⟩, by rw [hX]; rfl⟩)
              · refine rk_aload_n dT_windows_0 rfl ?_
                refine rk_iload_n dT_windows_1 rfl ?_
                refine rk_cvI (c_T_requireNode C.a C.gb (tR_of C s.ws s.out s.comp) (gR_of C.A X) (nI i) h e1 g1) cT_66 dT_windows_2 rfl lT_requireNode (Nat.le_of_ble_eq_true rfl) (Nat.le_of_ble_eq_true rfl) (Nat.le_of_ble_eq_true rfl) (Nat.le_of_ble_eq_true rfl) (by first | exact e1 | exact g1 | exact hna | exact id | assumption) rfl ⟨(Nat.le_of_ble_eq_true rfl), (Nat.le_of_ble_eq_true rfl)⟩ (fun g_2 => absurd (show btw (nI i) 0 (nI X.n - 1) by rw [hX]; exact btB_iff.mp hi) g_2) (fun g_2 => ?_)
                refine rk_iload_n dT_windows_5 rfl ?_
                refine rk_iload_n dT_windows_6 rfl ?_
                refine rk_csI (c_T_requireWindowsCode _ _ h) cT_70 dT_windows_7 rfl lT_requireWindowsCode (Nat.le_of_ble_eq_true rfl) (Nat.le_of_ble_eq_true rfl) (Nat.le_of_ble_eq_true rfl) (Nat.le_of_ble_eq_true rfl) rfl ⟨(Nat.le_of_ble_eq_true rfl), (Nat.le_of_ble_eq_true rfl)⟩ (fun g_7 => absurd (show (if dw = 0 then btw (nI c) 12 107 else btw (nI c) 0 11) by rw [if_pos hdw]; exact btB_iff.mp hc) g_7) (fun g_7 => ?_)
                refine rk_dload dT_windows_10 rfl ?_
                refine rk_csI (c_T_requireScale sc h) cT_47 dT_windows_12 rfl lT_requireScale (Nat.le_of_ble_eq_true rfl) (Nat.le_of_ble_eq_true rfl) (Nat.le_of_ble_eq_true rfl) (Nat.le_of_ble_eq_true rfl) rfl ⟨(Nat.le_of_ble_eq_true rfl), (Nat.le_of_ble_eq_true rfl)⟩ (fun g_12 => absurd (dsB_iff.mp hs) g_12) (fun g_12 => ?_)
                refine rk_aload_n dT_windows_15 rfl ?_
                refine rk_getf fT_12 dT_windows_16 (by first | exact e1 | exact g1 | exact hna | exact id | assumption) rfl ?_
                refine rk_getf fT_74 dT_windows_19 (by first | exact e1 | exact g1 | exact hna | exact id | assumption) rfl ?_
                refine rk_iload_n dT_windows_22 rfl ?_
                refine rk_aald rfl dT_windows_23 (by first | exact e1 | exact g1 | exact hna | exact id | assumption) (vp_in_nI i14 (by omega)) (v_nd (by omega) iq) ?_
                refine rk_astore dT_windows_24 (Nat.le_of_ble_eq_true rfl) ?_
                refine rk_iload_n dT_windows_26 rfl ?_
                refine rk_bipush (v := 12) dT_windows_27 (by decide) ?_
                refine rk_irem dT_windows_29 (by decide) ?_
                rw [show (12 : Int32) = nI 12 from rfl, pk_rem (by omega) (by omega) (by omega)]
                refine rk_istore dT_windows_30 (Nat.le_of_ble_eq_true rfl) ?_
                refine rk_lv [some (.ref C.a), some (.int (nI i)), some (.int (nI c)), some (.int dw), some (.int (nI of)), some (.double sc), none, some (.ref (C.ad i)), some (.int (nI (c % 12))), none, none, none, none, none, none, none, none] ⟨rfl, rfl, rfl, rfl, rfl, rfl, rfl, rfl, trivial⟩ ?_
                refine rk_aload dT_windows_32 rfl ?_
                refine rk_iload dT_windows_34 rfl ?_
                refine rk_csI (c_T_requireWindowFits (C.ad i) (nMi s.N C.fe i) _ h id) cT_78 dT_windows_36 rfl lT_requireWindowFits (Nat.le_of_ble_eq_true rfl) (Nat.le_of_ble_eq_true rfl) (Nat.le_of_ble_eq_true rfl) (Nat.le_of_ble_eq_true rfl) rfl ⟨(Nat.le_of_ble_eq_true rfl), (Nat.le_of_ble_eq_true rfl)⟩ (fun g_36 => absurd hfit g_36) (fun g_36 => ?_)
                refine rk_iload dT_windows_39 rfl ?_
                refine rk_csV (c_W_sizeOf (nI (c % 12)) _) cT_82 dT_windows_41 rfl lW_sizeOf (Nat.le_of_ble_eq_true rfl) (Nat.le_of_ble_eq_true rfl) (Nat.le_of_ble_eq_true rfl) (Nat.le_of_ble_eq_true rfl) ?_
                rw [z_size_i (by omega)]
                refine rk_istore dT_windows_44 (Nat.le_of_ble_eq_true rfl) ?_
                refine rk_iload_n dT_windows_46 rfl ?_
                refine rk_if_eq 58 dT_windows_47 (by decide) (fun q_47 => ?_) (fun q_47 => (by exact absurd hdw q_47))
                refine rk_iload_n dT_windows_58 rfl ?_
                refine rk_bipush (v := 12) dT_windows_59 (by decide) ?_
                refine rk_idiv dT_windows_61 (by decide) ?_
                rw [show (12 : Int32) = nI 12 from rfl, pk_div (by omega) (by omega) (by omega)]
                refine rk_istore dT_windows_62 (Nat.le_of_ble_eq_true rfl) ?_
                refine rk_iload dT_windows_64 rfl ?_
                refine rk_iload dT_windows_66 rfl ?_
                refine rk_imul dT_windows_68 ?_
                refine rk_iload_n dT_windows_69 rfl ?_
                refine rk_if_eq 77 dT_windows_70 (by decide) (fun q_70 => ?_) (fun q_70 => (by exact absurd hdw q_70))
                refine rk_aload dT_windows_77 rfl ?_
                refine rk_getf fT_88 dT_windows_79 (by first | exact e1 | exact g1 | exact hna | exact id | assumption) rfl ?_
                refine rk_imul dT_windows_82 ?_
                rw [pk_mul, pk_mul]
                refine rk_istore dT_windows_83 (Nat.le_of_ble_eq_true rfl) ?_
                refine rk_lv [some (.ref C.a), some (.int (nI i)), some (.int (nI c)), some (.int dw), some (.int (nI of)), some (.double sc), none, some (.ref (C.ad i)), some (.int (nI (c % 12))), none, some (.int (nI (c / 12))), some (.int (nI (z_size (c % 12) * z_size (c % 12) * (s.N i).c))), none, none, none, none, none] ⟨rfl, rfl, rfl, rfl, rfl, rfl, rfl, rfl, rfl, rfl, trivial⟩ ?_
                refine rk_iload dT_windows_85 rfl ?_
                refine rk_iload dT_windows_87 rfl ?_
                refine rk_iload dT_windows_89 rfl ?_
                refine rk_csI (c_T_requireWeights _ _ _ h) cT_91 dT_windows_91 rfl lT_requireWeights (Nat.le_of_ble_eq_true rfl) (Nat.le_of_ble_eq_true rfl) (Nat.le_of_ble_eq_true rfl) (Nat.le_of_ble_eq_true rfl) rfl ⟨(Nat.le_of_ble_eq_true rfl), (Nat.le_of_ble_eq_true rfl)⟩ (fun g_91 => absurd (btB_iff.mp ho) g_91) (fun g_91 => ?_)
                refine rk_aload_n dT_windows_94 rfl ?_
                refine rk_aload dT_windows_95 rfl ?_
                refine rk_dload dT_windows_97 rfl ?_
                refine rk_cvV (c_T_wratio C s (C.ad i) (s.N i) (C.fe i) (ratA s.N i) (ratB s.N i) sc h e1 id (fp_rat1 ib.2.1 ok.1.2.2.2 (d_scl_iff.mp g_12)).1 (fp_rat1 ib.2.1 ok.1.2.2.2 (d_scl_iff.mp g_12)).2) cT_94 dT_windows_99 rfl lT_weightedRatio (Nat.le_of_ble_eq_true rfl) (Nat.le_of_ble_eq_true rfl) (Nat.le_of_ble_eq_true rfl) (Nat.le_of_ble_eq_true rfl) (by first | exact e1 | exact g1 | exact hna | exact id | assumption) ?_
                refine rk_dstore dT_windows_102 (Nat.le_of_ble_eq_true rfl) ?_
                refine rk_lv [some (.ref C.a), some (.int (nI i)), some (.int (nI c)), some (.int dw), some (.int (nI of)), some (.double sc), none, some (.ref (C.ad i)), some (.int (nI (c % 12))), none, some (.int (nI (c / 12))), none, some (.double (FP.ddiv (FP.dmul (s.N i).sc s.ws) sc)), none, none, none, none] ⟨rfl, rfl, rfl, rfl, rfl, rfl, rfl, rfl, rfl, rfl, trivial⟩ ?_
                refine rk_dload dT_windows_104 rfl ?_
                refine rk_csI (c_T_requireGood _ h) cT_98 dT_windows_106 rfl lT_requireGood (Nat.le_of_ble_eq_true rfl) (Nat.le_of_ble_eq_true rfl) (Nat.le_of_ble_eq_true rfl) (Nat.le_of_ble_eq_true rfl) rfl ⟨(Nat.le_of_ble_eq_true rfl), (Nat.le_of_ble_eq_true rfl)⟩ (fun g_106 => (by rw [eop, mk3_2 hgg hgd]; exact cPost.same k rfl rfl)) (fun g_106 => ?_)
                exact absurd g_106 hgd
            · have eo := eo1 (fun w => ho (and2.mp w).2)
              refine rk_aload_n dT_windows_0 rfl ?_
              refine rk_iload_n dT_windows_1 rfl ?_
              refine rk_cvI (c_T_requireNode C.a C.gb (tR_of C s.ws s.out s.comp) (gR_of C.A X) (nI i) h e1 g1) cT_66 dT_windows_2 rfl lT_requireNode (Nat.le_of_ble_eq_true rfl) (Nat.le_of_ble_eq_true rfl) (Nat.le_of_ble_eq_true rfl) (Nat.le_of_ble_eq_true rfl) (by first | exact e1 | exact g1 | exact hna | exact id | assumption) rfl ⟨(Nat.le_of_ble_eq_true rfl), (Nat.le_of_ble_eq_true rfl)⟩ (fun g_2 => absurd (show btw (nI i) 0 (nI X.n - 1) by rw [hX]; exact btB_iff.mp hi) g_2) (fun g_2 => ?_)
              refine rk_iload_n dT_windows_5 rfl ?_
              refine rk_iload_n dT_windows_6 rfl ?_
              refine rk_csI (c_T_requireWindowsCode _ _ h) cT_70 dT_windows_7 rfl lT_requireWindowsCode (Nat.le_of_ble_eq_true rfl) (Nat.le_of_ble_eq_true rfl) (Nat.le_of_ble_eq_true rfl) (Nat.le_of_ble_eq_true rfl) rfl ⟨(Nat.le_of_ble_eq_true rfl), (Nat.le_of_ble_eq_true rfl)⟩ (fun g_7 => absurd (show (if dw = 0 then btw (nI c) 12 107 else btw (nI c) 0 11) by rw [if_pos hdw]; exact btB_iff.mp hc) g_7) (fun g_7 => ?_)
              refine rk_dload dT_windows_10 rfl ?_
              refine rk_csI (c_T_requireScale sc h) cT_47 dT_windows_12 rfl lT_requireScale (Nat.le_of_ble_eq_true rfl) (Nat.le_of_ble_eq_true rfl) (Nat.le_of_ble_eq_true rfl) (Nat.le_of_ble_eq_true rfl) rfl ⟨(Nat.le_of_ble_eq_true rfl), (Nat.le_of_ble_eq_true rfl)⟩ (fun g_12 => absurd (dsB_iff.mp hs) g_12) (fun g_12 => ?_)
              refine rk_aload_n dT_windows_15 rfl ?_
              refine rk_getf fT_12 dT_windows_16 (by first | exact e1 | exact g1 | exact hna | exact id | assumption) rfl ?_
              refine rk_getf fT_74 dT_windows_19 (by first | exact e1 | exact g1 | exact hna | exact id | assumption) rfl ?_
              refine rk_iload_n dT_windows_22 rfl ?_
              refine rk_aald rfl dT_windows_23 (by first | exact e1 | exact g1 | exact hna | exact id | assumption) (vp_in_nI i14 (by omega)) (v_nd (by omega) iq) ?_
              refine rk_astore dT_windows_24 (Nat.le_of_ble_eq_true rfl) ?_
              refine rk_iload_n dT_windows_26 rfl ?_
              refine rk_bipush (v := 12) dT_windows_27 (by decide) ?_
              refine rk_irem dT_windows_29 (by decide) ?_
              rw [show (12 : Int32) = nI 12 from rfl, pk_rem (by omega) (by omega) (by omega)]
              refine rk_istore dT_windows_30 (Nat.le_of_ble_eq_true rfl) ?_
              refine rk_lv [some (.ref C.a), some (.int (nI i)), some (.int (nI c)), some (.int dw), some (.int off), some (.double sc), none, some (.ref (C.ad i)), some (.int (nI (c % 12))), none, none, none, none, none, none, none, none] ⟨rfl, rfl, rfl, rfl, rfl, rfl, rfl, rfl, trivial⟩ ?_
              refine rk_aload dT_windows_32 rfl ?_
              refine rk_iload dT_windows_34 rfl ?_
              refine rk_csI (c_T_requireWindowFits (C.ad i) (nMi s.N C.fe i) _ h id) cT_78 dT_windows_36 rfl lT_requireWindowFits (Nat.le_of_ble_eq_true rfl) (Nat.le_of_ble_eq_true rfl) (Nat.le_of_ble_eq_true rfl) (Nat.le_of_ble_eq_true rfl) rfl ⟨(Nat.le_of_ble_eq_true rfl), (Nat.le_of_ble_eq_true rfl)⟩ (fun g_36 => absurd hfit g_36) (fun g_36 => ?_)
              refine rk_iload dT_windows_39 rfl ?_
              refine rk_csV (c_W_sizeOf (nI (c % 12)) _) cT_82 dT_windows_41 rfl lW_sizeOf (Nat.le_of_ble_eq_true rfl) (Nat.le_of_ble_eq_true rfl) (Nat.le_of_ble_eq_true rfl) (Nat.le_of_ble_eq_true rfl) ?_
              rw [z_size_i (by omega)]
              refine rk_istore dT_windows_44 (Nat.le_of_ble_eq_true rfl) ?_
              refine rk_iload_n dT_windows_46 rfl ?_
              refine rk_if_eq 58 dT_windows_47 (by decide) (fun q_47 => ?_) (fun q_47 => (by exact absurd hdw q_47))
              refine rk_iload_n dT_windows_58 rfl ?_
              refine rk_bipush (v := 12) dT_windows_59 (by decide) ?_
              refine rk_idiv dT_windows_61 (by decide) ?_
              rw [show (12 : Int32) = nI 12 from rfl, pk_div (by omega) (by omega) (by omega)]
              refine rk_istore dT_windows_62 (Nat.le_of_ble_eq_true rfl) ?_
              refine rk_iload dT_windows_64 rfl ?_
              refine rk_iload dT_windows_66 rfl ?_
              refine rk_imul dT_windows_68 ?_
              refine rk_iload_n dT_windows_69 rfl ?_
              refine rk_if_eq 77 dT_windows_70 (by decide) (fun q_70 => ?_) (fun q_70 => (by exact absurd hdw q_70))
              refine rk_aload dT_windows_77 rfl ?_
              refine rk_getf fT_88 dT_windows_79 (by first | exact e1 | exact g1 | exact hna | exact id | assumption) rfl ?_
              refine rk_imul dT_windows_82 ?_
              rw [pk_mul, pk_mul]
              refine rk_istore dT_windows_83 (Nat.le_of_ble_eq_true rfl) ?_
              refine rk_lv [some (.ref C.a), some (.int (nI i)), some (.int (nI c)), some (.int dw), some (.int off), some (.double sc), none, some (.ref (C.ad i)), some (.int (nI (c % 12))), none, some (.int (nI (c / 12))), some (.int (nI (z_size (c % 12) * z_size (c % 12) * (s.N i).c))), none, none, none, none, none] ⟨rfl, rfl, rfl, rfl, rfl, rfl, rfl, rfl, rfl, rfl, trivial⟩ ?_
              refine rk_iload dT_windows_85 rfl ?_
              refine rk_iload dT_windows_87 rfl ?_
              refine rk_iload dT_windows_89 rfl ?_
              refine rk_csI (c_T_requireWeights _ _ _ h) cT_91 dT_windows_91 rfl lT_requireWeights (Nat.le_of_ble_eq_true rfl) (Nat.le_of_ble_eq_true rfl) (Nat.le_of_ble_eq_true rfl) (Nat.le_of_ble_eq_true rfl) rfl ⟨(Nat.le_of_ble_eq_true rfl), (Nat.le_of_ble_eq_true rfl)⟩ (fun g_91 => (by rw [eo]; exact cPost.same k rfl rfl)) (fun g_91 => ?_)
              exact absurd (btB_iff.mpr g_91) ho
          · have eo := eo1 (fun w => hf (and2.mp (and2.mp w).1).2)
            refine rk_aload_n dT_windows_0 rfl ?_
            refine rk_iload_n dT_windows_1 rfl ?_
            refine rk_cvI (c_T_requireNode C.a C.gb (tR_of C s.ws s.out s.comp) (gR_of C.A X) (nI i) h e1 g1) cT_66 dT_windows_2 rfl lT_requireNode (Nat.le_of_ble_eq_true rfl) (Nat.le_of_ble_eq_true rfl) (Nat.le_of_ble_eq_true rfl) (Nat.le_of_ble_eq_true rfl) (by first | exact e1 | exact g1 | exact hna | exact id | assumption) rfl ⟨(Nat.le_of_ble_eq_true rfl), (Nat.le_of_ble_eq_true rfl)⟩ (fun g_2 => absurd (show btw (nI i) 0 (nI X.n - 1) by rw [hX]; exact btB_iff.mp hi) g_2) (fun g_2 => ?_)
            refine rk_iload_n dT_windows_5 rfl ?_
            refine rk_iload_n dT_windows_6 rfl ?_
            refine rk_csI (c_T_requireWindowsCode _ _ h) cT_70 dT_windows_7 rfl lT_requireWindowsCode (Nat.le_of_ble_eq_true rfl) (Nat.le_of_ble_eq_true rfl) (Nat.le_of_ble_eq_true rfl) (Nat.le_of_ble_eq_true rfl) rfl ⟨(Nat.le_of_ble_eq_true rfl), (Nat.le_of_ble_eq_true rfl)⟩ (fun g_7 => absurd (show (if dw = 0 then btw (nI c) 12 107 else btw (nI c) 0 11) by rw [if_pos hdw]; exact btB_iff.mp hc) g_7) (fun g_7 => ?_)
            refine rk_dload dT_windows_10 rfl ?_
            refine rk_csI (c_T_requireScale sc h) cT_47 dT_windows_12 rfl lT_requireScale (Nat.le_of_ble_eq_true rfl) (Nat.le_of_ble_eq_true rfl) (Nat.le_of_ble_eq_true rfl) (Nat.le_of_ble_eq_true rfl) rfl ⟨(Nat.le_of_ble_eq_true rfl), (Nat.le_of_ble_eq_true rfl)⟩ (fun g_12 => absurd (dsB_iff.mp hs) g_12) (fun g_12 => ?_)
            refine rk_aload_n dT_windows_15 rfl ?_
            refine rk_getf fT_12 dT_windows_16 (by first | exact e1 | exact g1 | exact hna | exact id | assumption) rfl ?_
            refine rk_getf fT_74 dT_windows_19 (by first | exact e1 | exact g1 | exact hna | exact id | assumption) rfl ?_
            refine rk_iload_n dT_windows_22 rfl ?_
            refine rk_aald rfl dT_windows_23 (by first | exact e1 | exact g1 | exact hna | exact id | assumption) (vp_in_nI i14 (by omega)) (v_nd (by omega) iq) ?_
            refine rk_astore dT_windows_24 (Nat.le_of_ble_eq_true rfl) ?_
            refine rk_iload_n dT_windows_26 rfl ?_
            refine rk_bipush (v := 12) dT_windows_27 (by decide) ?_
            refine rk_irem dT_windows_29 (by decide) ?_
            rw [show (12 : Int32) = nI 12 from rfl, pk_rem (by omega) (by omega) (by omega)]
            refine rk_istore dT_windows_30 (Nat.le_of_ble_eq_true rfl) ?_
            refine rk_lv [some (.ref C.a), some (.int (nI i)), some (.int (nI c)), some (.int dw), some (.int off), some (.double sc), none, some (.ref (C.ad i)), some (.int (nI (c % 12))), none, none, none, none, none, none, none, none] ⟨rfl, rfl, rfl, rfl, rfl, rfl, rfl, rfl, trivial⟩ ?_
            refine rk_aload dT_windows_32 rfl ?_
            refine rk_iload dT_windows_34 rfl ?_
            refine rk_csI (c_T_requireWindowFits (C.ad i) (nMi s.N C.fe i) _ h id) cT_78 dT_windows_36 rfl lT_requireWindowFits (Nat.le_of_ble_eq_true rfl) (Nat.le_of_ble_eq_true rfl) (Nat.le_of_ble_eq_true rfl) (Nat.le_of_ble_eq_true rfl) rfl ⟨(Nat.le_of_ble_eq_true rfl), (Nat.le_of_ble_eq_true rfl)⟩ (fun g_36 => (by rw [eo]; exact cPost.same k rfl rfl)) (fun g_36 => ?_)
            exact absurd (by rw [← wf1, ← wf2]; exact and2.mpr g_36) hf
        · have eo := eo1 (fun w => hs (and2.mp (and2.mp (and2.mp w).1).1).2)
          refine rk_aload_n dT_windows_0 rfl ?_
          refine rk_iload_n dT_windows_1 rfl ?_
          refine rk_cvI (c_T_requireNode C.a C.gb (tR_of C s.ws s.out s.comp) (gR_of C.A X) (nI i) h e1 g1) cT_66 dT_windows_2 rfl lT_requireNode (Nat.le_of_ble_eq_true rfl) (Nat.le_of_ble_eq_true rfl) (Nat.le_of_ble_eq_true rfl) (Nat.le_of_ble_eq_true rfl) (by first | exact e1 | exact g1 | exact hna | exact id | assumption) rfl ⟨(Nat.le_of_ble_eq_true rfl), (Nat.le_of_ble_eq_true rfl)⟩ (fun g_2 => absurd (show btw (nI i) 0 (nI X.n - 1) by rw [hX]; exact btB_iff.mp hi) g_2) (fun g_2 => ?_)
          refine rk_iload_n dT_windows_5 rfl ?_
          refine rk_iload_n dT_windows_6 rfl ?_
          refine rk_csI (c_T_requireWindowsCode _ _ h) cT_70 dT_windows_7 rfl lT_requireWindowsCode (Nat.le_of_ble_eq_true rfl) (Nat.le_of_ble_eq_true rfl) (Nat.le_of_ble_eq_true rfl) (Nat.le_of_ble_eq_true rfl) rfl ⟨(Nat.le_of_ble_eq_true rfl), (Nat.le_of_ble_eq_true rfl)⟩ (fun g_7 => absurd (show (if dw = 0 then btw (nI c) 12 107 else btw (nI c) 0 11) by rw [if_pos hdw]; exact btB_iff.mp hc) g_7) (fun g_7 => ?_)
          refine rk_dload dT_windows_10 rfl ?_
          refine rk_csI (c_T_requireScale sc h) cT_47 dT_windows_12 rfl lT_requireScale (Nat.le_of_ble_eq_true rfl) (Nat.le_of_ble_eq_true rfl) (Nat.le_of_ble_eq_true rfl) (Nat.le_of_ble_eq_true rfl) rfl ⟨(Nat.le_of_ble_eq_true rfl), (Nat.le_of_ble_eq_true rfl)⟩ (fun g_12 => (by rw [eo]; exact cPost.same k rfl rfl)) (fun g_12 => ?_)
          exact absurd (dsB_iff.mpr g_12) hs
      · have eo : opWindows s (nI i) code dw off sc = (1, none, s) := by
          unfold opWindows
          rw [if_pos (c := dw = 0) (t := btB code 12 107) hdw]
          exact mk3_1 (fun w => hc (and2.mp (and2.mp (and2.mp (and2.mp w).1).1).1).2)
        refine rk_aload_n dT_windows_0 rfl ?_
        refine rk_iload_n dT_windows_1 rfl ?_
        refine rk_cvI (c_T_requireNode C.a C.gb (tR_of C s.ws s.out s.comp) (gR_of C.A X) (nI i) h e1 g1) cT_66 dT_windows_2 rfl lT_requireNode (Nat.le_of_ble_eq_true rfl) (Nat.le_of_ble_eq_true rfl) (Nat.le_of_ble_eq_true rfl) (Nat.le_of_ble_eq_true rfl) (by first | exact e1 | exact g1 | exact hna | exact id | assumption) rfl ⟨(Nat.le_of_ble_eq_true rfl), (Nat.le_of_ble_eq_true rfl)⟩ (fun g_2 => absurd (show btw (nI i) 0 (nI X.n - 1) by rw [hX]; exact btB_iff.mp hi) g_2) (fun g_2 => ?_)
        refine rk_iload_n dT_windows_5 rfl ?_
        refine rk_iload_n dT_windows_6 rfl ?_
        refine rk_csI (c_T_requireWindowsCode _ _ h) cT_70 dT_windows_7 rfl lT_requireWindowsCode (Nat.le_of_ble_eq_true rfl) (Nat.le_of_ble_eq_true rfl) (Nat.le_of_ble_eq_true rfl) (Nat.le_of_ble_eq_true rfl) rfl ⟨(Nat.le_of_ble_eq_true rfl), (Nat.le_of_ble_eq_true rfl)⟩ (fun g_7 => (by rw [eo]; exact cPost.same k rfl rfl)) (fun g_7 => ?_)
        exact absurd (btB_iff.mpr (by rw [if_pos hdw] at g_7; exact g_7)) hc
    · by_cases hc : btB code 0 11 = true
      · obtain ⟨c, hcl, rfl⟩ := btwK (m := 11) rfl (by omega) (btB_iff.mp hc)
        have hch : (s.N i).c ≤ 8 := ib.1.2.2.2.1
        have wf1 := w_fits_n (co := c % 12) (l := (s.N i).h) (by omega) (by omega)
        have wf2 := w_fits_n (co := c % 12) (l := (s.N i).w) (by omega) (by omega)
        have eo1 : ¬ (ndB s (nI i) && btB (nI c) 0 11 && dsB sc && (z_fit (c % 12) (s.N i).h && z_fit (c % 12) (s.N i).w) && btB off 0 (512 - nI (s.N i).c * nI (z_size (c % 12) * z_size (c % 12) * 1) - nI (s.N i).c)) = true → opWindows s (nI i) (nI c) dw off sc = (1, none, s) := by
          intro hz
          unfold opWindows wPc wCh wCo
          rw [it, tN_I (show c < 2 ^ 31 by omega), if_neg hdw, if_neg hdw, if_neg hdw, if_neg hdw]
          exact mk3_1 hz
        by_cases hs : dsB sc = true
        · by_cases hf : (z_fit (c % 12) (s.N i).h && z_fit (c % 12) (s.N i).w) = true
          · obtain ⟨f1, f2⟩ := and2.mp hf
            have hfit : w_fits (nI (c % 12)) (nMi s.N C.fe i).h = true ∧ w_fits (nI (c % 12)) (nMi s.N C.fe i).w = true := ⟨wf1.trans f1, wf2.trans f2⟩
            have pl1 := z_plc_ok (co := c % 12) ip.1 f1
            have pl2 := z_plc_ok (co := c % 12) ip.2.1 f2
            have hm : z_plc (c % 12) (s.N i).h * z_plc (c % 12) (s.N i).w * (s.N i).c ≤ 4 * 4 * 8 := Nat.mul_le_mul (Nat.mul_le_mul (by omega) (by omega)) hch
            by_cases ho : btB off 0 (512 - nI (s.N i).c * nI (z_size (c % 12) * z_size (c % 12) * 1) - nI (s.N i).c) = true
            · obtain ⟨of, hof, rfl⟩ := nI_of (Int32.not_lt.mpr (btB_iff.mp ho).1)
              have hgg : (ndB s (nI i) && btB (nI c) 0 11 && dsB sc && (z_fit (c % 12) (s.N i).h && z_fit (c % 12) (s.N i).w) && btB (nI of) 0 (512 - nI (s.N i).c * nI (z_size (c % 12) * z_size (c % 12) * 1) - nI (s.N i).c)) = true := by rw [hi, hc, hs, hf, ho]; rfl
              have eop : opWindows s (nI i) (nI c) dw (nI of) sc = mk3 s (ndB s (nI i) && btB (nI c) 0 11 && dsB sc && (z_fit (c % 12) (s.N i).h && z_fit (c % 12) (s.N i).w) && btB (nI of) 0 (512 - nI (s.N i).c * nI (z_size (c % 12) * z_size (c % 12) * 1) - nI (s.N i).c)) (d_good (FP.ddiv (FP.dmul (s.N i).sc s.ws) sc)) (((2, some i, none), (z_plc (c % 12) (s.N i).h, z_plc (c % 12) (s.N i).w, (s.N i).c), (sc, s.ws), (c % 12, of), (0, 0)) : aN) := by
                unfold opWindows wPc wCh wCo
                rw [it, tN_I (show c < 2 ^ 31 by omega), tN_I hof, if_neg hdw, if_neg hdw, if_neg hdw, if_neg hdw]
              by_cases hgd : d_good (FP.ddiv (FP.dmul (s.N i).sc s.ws) sc) = true
              · by_cases h14 : s.n = 14
                · refine rk_aload_n dT_windows_0 rfl ?_
                  refine rk_iload_n dT_windows_1 rfl ?_
                  refine rk_cvI (c_T_requireNode C.a C.gb (tR_of C s.ws s.out s.comp) (gR_of C.A X) (nI i) h e1 g1) cT_66 dT_windows_2 rfl lT_requireNode (Nat.le_of_ble_eq_true rfl) (Nat.le_of_ble_eq_true rfl) (Nat.le_of_ble_eq_true rfl) (Nat.le_of_ble_eq_true rfl) (by first | exact e1 | exact g1 | exact hna | exact id | assumption) rfl ⟨(Nat.le_of_ble_eq_true rfl), (Nat.le_of_ble_eq_true rfl)⟩ (fun g_2 => absurd (show btw (nI i) 0 (nI X.n - 1) by rw [hX]; exact btB_iff.mp hi) g_2) (fun g_2 => ?_)
                  refine rk_iload_n dT_windows_5 rfl ?_
                  refine rk_iload_n dT_windows_6 rfl ?_
                  refine rk_csI (c_T_requireWindowsCode _ _ h) cT_70 dT_windows_7 rfl lT_requireWindowsCode (Nat.le_of_ble_eq_true rfl) (Nat.le_of_ble_eq_true rfl) (Nat.le_of_ble_eq_true rfl) (Nat.le_of_ble_eq_true rfl) rfl ⟨(Nat.le_of_ble_eq_true rfl), (Nat.le_of_ble_eq_true rfl)⟩ (fun g_7 => absurd (show (if dw = 0 then btw (nI c) 12 107 else btw (nI c) 0 11) by rw [if_neg hdw]; exact btB_iff.mp hc) g_7) (fun g_7 => ?_)
                  refine rk_dload dT_windows_10 rfl ?_
                  refine rk_csI (c_T_requireScale sc h) cT_47 dT_windows_12 rfl lT_requireScale (Nat.le_of_ble_eq_true rfl) (Nat.le_of_ble_eq_true rfl) (Nat.le_of_ble_eq_true rfl) (Nat.le_of_ble_eq_true rfl) rfl ⟨(Nat.le_of_ble_eq_true rfl), (Nat.le_of_ble_eq_true rfl)⟩ (fun g_12 => absurd (dsB_iff.mp hs) g_12) (fun g_12 => ?_)
                  refine rk_aload_n dT_windows_15 rfl ?_
                  refine rk_getf fT_12 dT_windows_16 (by first | exact e1 | exact g1 | exact hna | exact id | assumption) rfl ?_
                  refine rk_getf fT_74 dT_windows_19 (by first | exact e1 | exact g1 | exact hna | exact id | assumption) rfl ?_
                  refine rk_iload_n dT_windows_22 rfl ?_
                  refine rk_aald rfl dT_windows_23 (by first | exact e1 | exact g1 | exact hna | exact id | assumption) (vp_in_nI i14 (by omega)) (v_nd (by omega) iq) ?_
                  refine rk_astore dT_windows_24 (Nat.le_of_ble_eq_true rfl) ?_
                  refine rk_iload_n dT_windows_26 rfl ?_
                  refine rk_bipush (v := 12) dT_windows_27 (by decide) ?_
                  refine rk_irem dT_windows_29 (by decide) ?_
                  rw [show (12 : Int32) = nI 12 from rfl, pk_rem (by omega) (by omega) (by omega)]
                  refine rk_istore dT_windows_30 (Nat.le_of_ble_eq_true rfl) ?_
                  refine rk_lv [some (.ref C.a), some (.int (nI i)), some (.int (nI c)), some (.int dw), some (.int (nI of)), some (.double sc), none, some (.ref (C.ad i)), some (.int (nI (c % 12))), none, none, none, none, none, none, none, none] ⟨rfl, rfl, rfl, rfl, rfl, rfl, rfl, rfl, trivial⟩ ?_
                  refine rk_aload dT_windows_32 rfl ?_
                  refine rk_iload dT_windows_34 rfl ?_
                  refine rk_csI (c_T_requireWindowFits (C.ad i) (nMi s.N C.fe i) _ h id) cT_78 dT_windows_36 rfl lT_requireWindowFits (Nat.le_of_ble_eq_true rfl) (Nat.le_of_ble_eq_true rfl) (Nat.le_of_ble_eq_true rfl) (Nat.le_of_ble_eq_true rfl) rfl ⟨(Nat.le_of_ble_eq_true rfl), (Nat.le_of_ble_eq_true rfl)⟩ (fun g_36 => absurd hfit g_36) (fun g_36 => ?_)
                  refine rk_iload dT_windows_39 rfl ?_
                  refine rk_csV (c_W_sizeOf (nI (c % 12)) _) cT_82 dT_windows_41 rfl lW_sizeOf (Nat.le_of_ble_eq_true rfl) (Nat.le_of_ble_eq_true rfl) (Nat.le_of_ble_eq_true rfl) (Nat.le_of_ble_eq_true rfl) ?_
                  rw [z_size_i (by omega)]
                  refine rk_istore dT_windows_44 (Nat.le_of_ble_eq_true rfl) ?_
                  refine rk_iload_n dT_windows_46 rfl ?_
                  refine rk_if_eq 58 dT_windows_47 (by decide) (fun q_47 => (by exact absurd q_47 hdw)) (fun q_47 => ?_)
                  refine rk_aload dT_windows_50 rfl ?_
                  refine rk_getf fT_88 dT_windows_52 (by first | exact e1 | exact g1 | exact hna | exact id | assumption) rfl ?_
                  refine rk_goto 62 dT_windows_55 (by decide) ?_
                  refine rk_istore dT_windows_62 (Nat.le_of_ble_eq_true rfl) ?_
                  refine rk_iload dT_windows_64 rfl ?_
                  refine rk_iload dT_windows_66 rfl ?_
                  refine rk_imul dT_windows_68 ?_
                  refine rk_iload_n dT_windows_69 rfl ?_
                  refine rk_if_eq 77 dT_windows_70 (by decide) (fun q_70 => (by exact absurd q_70 hdw)) (fun q_70 => ?_)
                  refine rk_iconst (v := 1) dT_windows_73 (by decide) ?_
                  refine rk_goto 82 dT_windows_74 (by decide) ?_
                  refine rk_imul dT_windows_82 ?_
                  rw [pk_mul, show (1 : Int32) = nI 1 from rfl, pk_mul]
                  refine rk_istore dT_windows_83 (Nat.le_of_ble_eq_true rfl) ?_
                  refine rk_lv [some (.ref C.a), some (.int (nI i)), some (.int (nI c)), some (.int dw), some (.int (nI of)), some (.double sc), none, some (.ref (C.ad i)), some (.int (nI (c % 12))), none, some (.int (nI (s.N i).c)), some (.int (nI (z_size (c % 12) * z_size (c % 12) * 1))), none, none, none, none, none] ⟨rfl, rfl, rfl, rfl, rfl, rfl, rfl, rfl, rfl, rfl, trivial⟩ ?_
                  refine rk_iload dT_windows_85 rfl ?_
                  refine rk_iload dT_windows_87 rfl ?_
                  refine rk_iload dT_windows_89 rfl ?_
                  refine rk_csI (c_T_requireWeights _ _ _ h) cT_91 dT_windows_91 rfl lT_requireWeights (Nat.le_of_ble_eq_true rfl) (Nat.le_of_ble_eq_true rfl) (Nat.le_of_ble_eq_true rfl) (Nat.le_of_ble_eq_true rfl) rfl ⟨(Nat.le_of_ble_eq_true rfl), (Nat.le_of_ble_eq_true rfl)⟩ (fun g_91 => absurd (btB_iff.mp ho) g_91) (fun g_91 => ?_)
                  refine rk_aload_n dT_windows_94 rfl ?_
                  refine rk_aload dT_windows_95 rfl ?_
                  refine rk_dload dT_windows_97 rfl ?_
                  refine rk_cvV (c_T_wratio C s (C.ad i) (s.N i) (C.fe i) (ratA s.N i) (ratB s.N i) sc h e1 id (fp_rat1 ib.2.1 ok.1.2.2.2 (d_scl_iff.mp g_12)).1 (fp_rat1 ib.2.1 ok.1.2.2.2 (d_scl_iff.mp g_12)).2) cT_94 dT_windows_99 rfl lT_weightedRatio (Nat.le_of_ble_eq_true rfl) (Nat.le_of_ble_eq_true rfl) (Nat.le_of_ble_eq_true rfl) (Nat.le_of_ble_eq_true rfl) (by first | exact e1 | exact g1 | exact hna | exact id | assumption) ?_
                  refine rk_dstore dT_windows_102 (Nat.le_of_ble_eq_true rfl) ?_
                  refine rk_lv [some (.ref C.a), some (.int (nI i)), some (.int (nI c)), some (.int dw), some (.int (nI of)), some (.double sc), none, some (.ref (C.ad i)), some (.int (nI (c % 12))), none, some (.int (nI (s.N i).c)), none, some (.double (FP.ddiv (FP.dmul (s.N i).sc s.ws) sc)), none, none, none, none] ⟨rfl, rfl, rfl, rfl, rfl, rfl, rfl, rfl, rfl, rfl, trivial⟩ ?_
                  refine rk_dload dT_windows_104 rfl ?_
                  refine rk_csI (c_T_requireGood _ h) cT_98 dT_windows_106 rfl lT_requireGood (Nat.le_of_ble_eq_true rfl) (Nat.le_of_ble_eq_true rfl) (Nat.le_of_ble_eq_true rfl) (Nat.le_of_ble_eq_true rfl) rfl ⟨(Nat.le_of_ble_eq_true rfl), (Nat.le_of_ble_eq_true rfl)⟩ (fun g_106 => absurd hgd g_106) (fun g_106 => ?_)
                  refine rk_aload_n dT_windows_109 rfl ?_
                  refine rk_cvI (c_T_requireRoom C.a (tR_of C s.ws s.out s.comp) (gR_of C.A X) h e1 g1) cT_54 dT_windows_110 rfl lT_requireRoom (Nat.le_of_ble_eq_true rfl) (Nat.le_of_ble_eq_true rfl) (Nat.le_of_ble_eq_true rfl) (Nat.le_of_ble_eq_true rfl) (by first | exact e1 | exact g1 | exact hna | exact id | assumption) rfl ⟨(Nat.le_of_ble_eq_true rfl), (Nat.le_of_ble_eq_true rfl)⟩ (fun g_110 => (by rw [eop, mk3_3 hgg hgd h14]; exact cPost.same k rfl rfl)) (fun g_110 => ?_)
                  exact absurd h14 (hroom.mp g_110)
                · skip
                  have P := fun (b q : Nat) (bn : h b = none) (hq : h q = none) (hbq : b ≠ q) => k.push ok.1.2.1.inn (by omega) X hX gI b q (((2, some i, none), (z_plc (c % 12) (s.N i).h, z_plc (c % 12) (s.N i).w, (s.N i).c), (sc, s.ws), (c % 12, of), (0, 0)) : aN) bn hq hbq hm
                  have hra : ratA (updN s.N s.n (((2, some i, none), (z_plc (c % 12) (s.N i).h, z_plc (c % 12) (s.N i).w, (s.N i).c), (sc, s.ws), (c % 12, of), (0, 0)) : aN)) s.n = FP.ddiv (FP.dmul (s.N i).sc s.ws) sc := by
                    unfold ratA
                    rw [show updN s.N s.n (((2, some i, none), (z_plc (c % 12) (s.N i).h, z_plc (c % 12) (s.N i).w, (s.N i).c), (sc, s.ws), (c % 12, of), (0, 0)) : aN) s.n = (((2, some i, none), (z_plc (c % 12) (s.N i).h, z_plc (c % 12) (s.N i).w, (s.N i).c), (sc, s.ws), (c % 12, of), (0, 0)) : aN) from if_pos rfl]
                    show FP.ddiv (FP.dmul ((updN s.N s.n (((2, some i, none), (z_plc (c % 12) (s.N i).h, z_plc (c % 12) (s.N i).w, (s.N i).c), (sc, s.ws), (c % 12, of), (0, 0)) : aN) i).sc) s.ws) sc = _
                    rw [show updN s.N s.n (((2, some i, none), (z_plc (c % 12) (s.N i).h, z_plc (c % 12) (s.N i).w, (s.N i).c), (sc, s.ws), (c % 12, of), (0, 0)) : aN) i = s.N i from if_neg (by omega)]
                  have hrb : ratB (updN s.N s.n (((2, some i, none), (z_plc (c % 12) (s.N i).h, z_plc (c % 12) (s.N i).w, (s.N i).c), (sc, s.ws), (c % 12, of), (0, 0)) : aN)) s.n = 0 := by
                    unfold ratB
                    rw [show updN s.N s.n (((2, some i, none), (z_plc (c % 12) (s.N i).h, z_plc (c % 12) (s.N i).w, (s.N i).c), (sc, s.ws), (c % 12, of), (0, 0)) : aN) s.n = (((2, some i, none), (z_plc (c % 12) (s.N i).h, z_plc (c % 12) (s.N i).w, (s.N i).c), (sc, s.ws), (c % 12, of), (0, 0)) : aN) from if_pos rfl]
                    rfl
                  rw [hra, hrb] at P
                  refine rk_aload_n dT_windows_0 rfl ?_
                  refine rk_iload_n dT_windows_1 rfl ?_
                  refine rk_cvI (c_T_requireNode C.a C.gb (tR_of C s.ws s.out s.comp) (gR_of C.A X) (nI i) h e1 g1) cT_66 dT_windows_2 rfl lT_requireNode (Nat.le_of_ble_eq_true rfl) (Nat.le_of_ble_eq_true rfl) (Nat.le_of_ble_eq_true rfl) (Nat.le_of_ble_eq_true rfl) (by first | exact rk_up_k (rk_ne e1 bn) e1 | exact rk_up_k (rk_ne g1 bn) g1 | exact rk_up_k (rk_ne hna bn) hna | exact rk_up_k (rk_ne id bn) id | exact e1 | exact g1 | exact hna | exact id | assumption) rfl ⟨(Nat.le_of_ble_eq_true rfl), (Nat.le_of_ble_eq_true rfl)⟩ (fun g_2 => absurd (show btw (nI i) 0 (nI X.n - 1) by rw [hX]; exact btB_iff.mp hi) g_2) (fun g_2 => ?_)
                  refine rk_iload_n dT_windows_5 rfl ?_
                  refine rk_iload_n dT_windows_6 rfl ?_
                  refine rk_csI (c_T_requireWindowsCode _ _ h) cT_70 dT_windows_7 rfl lT_requireWindowsCode (Nat.le_of_ble_eq_true rfl) (Nat.le_of_ble_eq_true rfl) (Nat.le_of_ble_eq_true rfl) (Nat.le_of_ble_eq_true rfl) rfl ⟨(Nat.le_of_ble_eq_true rfl), (Nat.le_of_ble_eq_true rfl)⟩ (fun g_7 => absurd (show (if dw = 0 then btw (nI c) 12 107 else btw (nI c) 0 11) by rw [if_neg hdw]; exact btB_iff.mp hc) g_7) (fun g_7 => ?_)
                  refine rk_dload dT_windows_10 rfl ?_
                  refine rk_csI (c_T_requireScale sc h) cT_47 dT_windows_12 rfl lT_requireScale (Nat.le_of_ble_eq_true rfl) (Nat.le_of_ble_eq_true rfl) (Nat.le_of_ble_eq_true rfl) (Nat.le_of_ble_eq_true rfl) rfl ⟨(Nat.le_of_ble_eq_true rfl), (Nat.le_of_ble_eq_true rfl)⟩ (fun g_12 => absurd (dsB_iff.mp hs) g_12) (fun g_12 => ?_)
                  refine rk_aload_n dT_windows_15 rfl ?_
                  refine rk_getf fT_12 dT_windows_16 (by first | exact rk_up_k (rk_ne e1 bn) e1 | exact rk_up_k (rk_ne g1 bn) g1 | exact rk_up_k (rk_ne hna bn) hna | exact rk_up_k (rk_ne id bn) id | exact e1 | exact g1 | exact hna | exact id | assumption) rfl ?_
                  refine rk_getf fT_74 dT_windows_19 (by first | exact rk_up_k (rk_ne e1 bn) e1 | exact rk_up_k (rk_ne g1 bn) g1 | exact rk_up_k (rk_ne hna bn) hna | exact rk_up_k (rk_ne id bn) id | exact e1 | exact g1 | exact hna | exact id | assumption) rfl ?_
                  refine rk_iload_n dT_windows_22 rfl ?_
                  refine rk_aald rfl dT_windows_23 (by first | exact rk_up_k (rk_ne e1 bn) e1 | exact rk_up_k (rk_ne g1 bn) g1 | exact rk_up_k (rk_ne hna bn) hna | exact rk_up_k (rk_ne id bn) id | exact e1 | exact g1 | exact hna | exact id | assumption) (vp_in_nI i14 (by omega)) (v_nd (by omega) iq) ?_
                  refine rk_astore dT_windows_24 (Nat.le_of_ble_eq_true rfl) ?_
                  refine rk_iload_n dT_windows_26 rfl ?_
                  refine rk_bipush (v := 12) dT_windows_27 (by decide) ?_
                  refine rk_irem dT_windows_29 (by decide) ?_
                  rw [show (12 : Int32) = nI 12 from rfl, pk_rem (by omega) (by omega) (by omega)]
                  refine rk_istore dT_windows_30 (Nat.le_of_ble_eq_true rfl) ?_
                  refine rk_lv [some (.ref C.a), some (.int (nI i)), some (.int (nI c)), some (.int dw), some (.int (nI of)), some (.double sc), none, some (.ref (C.ad i)), some (.int (nI (c % 12))), none, none, none, none, none, none, none, none] ⟨rfl, rfl, rfl, rfl, rfl, rfl, rfl, rfl, trivial⟩ ?_
                  refine rk_aload dT_windows_32 rfl ?_
                  refine rk_iload dT_windows_34 rfl ?_
                  refine rk_csI (c_T_requireWindowFits (C.ad i) (nMi s.N C.fe i) _ h id) cT_78 dT_windows_36 rfl lT_requireWindowFits (Nat.le_of_ble_eq_true rfl) (Nat.le_of_ble_eq_true rfl) (Nat.le_of_ble_eq_true rfl) (Nat.le_of_ble_eq_true rfl) rfl ⟨(Nat.le_of_ble_eq_true rfl), (Nat.le_of_ble_eq_true rfl)⟩ (fun g_36 => absurd hfit g_36) (fun g_36 => ?_)
                  refine rk_iload dT_windows_39 rfl ?_
                  refine rk_csV (c_W_sizeOf (nI (c % 12)) _) cT_82 dT_windows_41 rfl lW_sizeOf (Nat.le_of_ble_eq_true rfl) (Nat.le_of_ble_eq_true rfl) (Nat.le_of_ble_eq_true rfl) (Nat.le_of_ble_eq_true rfl) ?_
                  rw [z_size_i (by omega)]
                  refine rk_istore dT_windows_44 (Nat.le_of_ble_eq_true rfl) ?_
                  refine rk_iload_n dT_windows_46 rfl ?_
                  refine rk_if_eq 58 dT_windows_47 (by decide) (fun q_47 => (by exact absurd q_47 hdw)) (fun q_47 => ?_)
                  refine rk_aload dT_windows_50 rfl ?_
                  refine rk_getf fT_88 dT_windows_52 (by first | exact rk_up_k (rk_ne e1 bn) e1 | exact rk_up_k (rk_ne g1 bn) g1 | exact rk_up_k (rk_ne hna bn) hna | exact rk_up_k (rk_ne id bn) id | exact e1 | exact g1 | exact hna | exact id | assumption) rfl ?_
                  refine rk_goto 62 dT_windows_55 (by decide) ?_
                  refine rk_istore dT_windows_62 (Nat.le_of_ble_eq_true rfl) ?_
                  refine rk_iload dT_windows_64 rfl ?_
                  refine rk_iload dT_windows_66 rfl ?_
                  refine rk_imul dT_windows_68 ?_
                  refine rk_iload_n dT_windows_69 rfl ?_
                  refine rk_if_eq 77 dT_windows_70 (by decide) (fun q_70 => (by exact absurd q_70 hdw)) (fun q_70 => ?_)
                  refine rk_iconst (v := 1) dT_windows_73 (by decide) ?_
                  refine rk_goto 82 dT_windows_74 (by decide) ?_
                  refine rk_imul dT_windows_82 ?_
                  rw [pk_mul, show (1 : Int32) = nI 1 from rfl, pk_mul]
                  refine rk_istore dT_windows_83 (Nat.le_of_ble_eq_true rfl) ?_
                  refine rk_lv [some (.ref C.a), some (.int (nI i)), some (.int (nI c)), some (.int dw), some (.int (nI of)), some (.double sc), none, some (.ref (C.ad i)), some (.int (nI (c % 12))), none, some (.int (nI (s.N i).c)), some (.int (nI (z_size (c % 12) * z_size (c % 12) * 1))), none, none, none, none, none] ⟨rfl, rfl, rfl, rfl, rfl, rfl, rfl, rfl, rfl, rfl, trivial⟩ ?_
                  refine rk_iload dT_windows_85 rfl ?_
                  refine rk_iload dT_windows_87 rfl ?_
                  refine rk_iload dT_windows_89 rfl ?_
                  refine rk_csI (c_T_requireWeights _ _ _ h) cT_91 dT_windows_91 rfl lT_requireWeights (Nat.le_of_ble_eq_true rfl) (Nat.le_of_ble_eq_true rfl) (Nat.le_of_ble_eq_true rfl) (Nat.le_of_ble_eq_true rfl) rfl ⟨(Nat.le_of_ble_eq_true rfl), (Nat.le_of_ble_eq_true rfl)⟩ (fun g_91 => absurd (btB_iff.mp ho) g_91) (fun g_91 => ?_)
                  refine rk_aload_n dT_windows_94 rfl ?_
                  refine rk_aload dT_windows_95 rfl ?_
                  refine rk_dload dT_windows_97 rfl ?_
                  refine rk_cvV (c_T_wratio C s (C.ad i) (s.N i) (C.fe i) (ratA s.N i) (ratB s.N i) sc h e1 id (fp_rat1 ib.2.1 ok.1.2.2.2 (d_scl_iff.mp g_12)).1 (fp_rat1 ib.2.1 ok.1.2.2.2 (d_scl_iff.mp g_12)).2) cT_94 dT_windows_99 rfl lT_weightedRatio (Nat.le_of_ble_eq_true rfl) (Nat.le_of_ble_eq_true rfl) (Nat.le_of_ble_eq_true rfl) (Nat.le_of_ble_eq_true rfl) (by first | exact rk_up_k (rk_ne e1 bn) e1 | exact rk_up_k (rk_ne g1 bn) g1 | exact rk_up_k (rk_ne hna bn) hna | exact rk_up_k (rk_ne id bn) id | exact e1 | exact g1 | exact hna | exact id | assumption) ?_
                  refine rk_dstore dT_windows_102 (Nat.le_of_ble_eq_true rfl) ?_
                  refine rk_lv [some (.ref C.a), some (.int (nI i)), some (.int (nI c)), some (.int dw), some (.int (nI of)), some (.double sc), none, some (.ref (C.ad i)), some (.int (nI (c % 12))), none, some (.int (nI (s.N i).c)), none, some (.double (FP.ddiv (FP.dmul (s.N i).sc s.ws) sc)), none, none, none, none] ⟨rfl, rfl, rfl, rfl, rfl, rfl, rfl, rfl, rfl, rfl, trivial⟩ ?_
                  refine rk_dload dT_windows_104 rfl ?_
                  refine rk_csI (c_T_requireGood _ h) cT_98 dT_windows_106 rfl lT_requireGood (Nat.le_of_ble_eq_true rfl) (Nat.le_of_ble_eq_true rfl) (Nat.le_of_ble_eq_true rfl) (Nat.le_of_ble_eq_true rfl) rfl ⟨(Nat.le_of_ble_eq_true rfl), (Nat.le_of_ble_eq_true rfl)⟩ (fun g_106 => absurd hgd g_106) (fun g_106 => ?_)
                  refine rk_aload_n dT_windows_109 rfl ?_
                  refine rk_cvI (c_T_requireRoom C.a (tR_of C s.ws s.out s.comp) (gR_of C.A X) h e1 g1) cT_54 dT_windows_110 rfl lT_requireRoom (Nat.le_of_ble_eq_true rfl) (Nat.le_of_ble_eq_true rfl) (Nat.le_of_ble_eq_true rfl) (Nat.le_of_ble_eq_true rfl) (by first | exact rk_up_k (rk_ne e1 bn) e1 | exact rk_up_k (rk_ne g1 bn) g1 | exact rk_up_k (rk_ne hna bn) hna | exact rk_up_k (rk_ne id bn) id | exact e1 | exact g1 | exact hna | exact id | assumption) rfl ⟨(Nat.le_of_ble_eq_true rfl), (Nat.le_of_ble_eq_true rfl)⟩ (fun g_110 => absurd (hroom.mpr h14) g_110) (fun g_110 => ?_)
                  refine rk_iload dT_windows_113 rfl ?_
                  refine rk_aload dT_windows_115 rfl ?_
                  refine rk_getf fT_101 dT_windows_117 (by first | exact rk_up_k (rk_ne e1 bn) e1 | exact rk_up_k (rk_ne g1 bn) g1 | exact rk_up_k (rk_ne hna bn) hna | exact rk_up_k (rk_ne id bn) id | exact e1 | exact g1 | exact hna | exact id | assumption) rfl ?_
                  refine rk_csV (c_W_placesOf (nI (c % 12)) (nI (s.N i).h) _) cT_104 dT_windows_120 rfl lW_placesOf (Nat.le_of_ble_eq_true rfl) (Nat.le_of_ble_eq_true rfl) (Nat.le_of_ble_eq_true rfl) (Nat.le_of_ble_eq_true rfl) ?_
                  rw [w_plc_n (by omega) (by omega) ip.1 f1]
                  refine rk_istore dT_windows_123 (Nat.le_of_ble_eq_true rfl) ?_
                  refine rk_iload dT_windows_125 rfl ?_
                  refine rk_aload dT_windows_127 rfl ?_
                  refine rk_getf fT_108 dT_windows_129 (by first | exact rk_up_k (rk_ne e1 bn) e1 | exact rk_up_k (rk_ne g1 bn) g1 | exact rk_up_k (rk_ne hna bn) hna | exact rk_up_k (rk_ne id bn) id | exact e1 | exact g1 | exact hna | exact id | assumption) rfl ?_
                  refine rk_csV (c_W_placesOf (nI (c % 12)) (nI (s.N i).w) _) cT_104 dT_windows_132 rfl lW_placesOf (Nat.le_of_ble_eq_true rfl) (Nat.le_of_ble_eq_true rfl) (Nat.le_of_ble_eq_true rfl) (Nat.le_of_ble_eq_true rfl) ?_
                  rw [w_plc_n (by omega) (by omega) ip.2.1 f2]
                  refine rk_istore dT_windows_135 (Nat.le_of_ble_eq_true rfl) ?_
                  refine rk_lv [some (.ref C.a), some (.int (nI i)), some (.int (nI c)), some (.int dw), some (.int (nI of)), some (.double sc), none, some (.ref (C.ad i)), some (.int (nI (c % 12))), none, some (.int (nI (s.N i).c)), none, some (.double (FP.ddiv (FP.dmul (s.N i).sc s.ws) sc)), none, some (.int (nI (z_plc (c % 12) (s.N i).h))), some (.int (nI (z_plc (c % 12) (s.N i).w))), none] ⟨rfl, rfl, rfl, rfl, rfl, rfl, rfl, rfl, rfl, rfl, rfl, rfl, trivial⟩ ?_
                  refine rk_new (fs := [.int 0, .int 0, .int 0, .int 0, .int 0, .int 0, .int 0, .double 0, .null, .int 0, .int 0, .double 0, .int 0, .int 0, .double 0, .double 0]) kN nT_57.1 nT_57.2.1 nT_57.2.2 (by intro j hj; rcases (show j = 0 ∨ j = 1 ∨ j = 2 ∨ j = 3 ∨ j = 4 ∨ j = 5 ∨ j = 6 ∨ j = 7 ∨ j = 8 ∨ j = 9 ∨ j = 10 ∨ j = 11 ∨ j = 12 ∨ j = 13 ∨ j = 14 ∨ j = 15 by omega) with rfl | rfl | rfl | rfl | rfl | rfl | rfl | rfl | rfl | rfl | rfl | rfl | rfl | rfl | rfl | rfl <;> rfl) dT_windows_137 (Nat.le_of_ble_eq_true rfl) (Nat.le_of_ble_eq_true rfl) (fun b bn => ?_)
                  refine rk_dup dT_windows_140 rfl ?_
                  refine rk_iload_n dT_windows_141 rfl ?_
                  refine rk_if_eq 149 dT_windows_142 (by decide) (fun q_142 => (by exact absurd q_142 hdw)) (fun q_142 => ?_)
                  refine rk_iconst (v := 2) dT_windows_145 (by decide) ?_
                  refine rk_goto 150 dT_windows_146 (by decide) ?_
                  refine rk_iload_n dT_windows_150 rfl ?_
                  refine rk_iconst (v := -1) dT_windows_151 (by decide) ?_
                  refine rk_iload dT_windows_152 rfl ?_
                  refine rk_iload dT_windows_154 rfl ?_
                  refine rk_iload dT_windows_156 rfl ?_
                  refine rk_dload dT_windows_158 rfl ?_
                  refine rk_cnG (c_N_init b 2 (some i) none (z_plc (c % 12) (s.N i).h) (z_plc (c % 12) (s.N i).w) (s.N i).c sc _ rk_up_s hm (by omega)) cT_59 dT_windows_160 rfl lN_init (Nat.le_of_ble_eq_true rfl) (Nat.le_of_ble_eq_true rfl) (Nat.le_of_ble_eq_true rfl) (Nat.le_of_ble_eq_true rfl) ?_
                  rintro r_0 h_0 ⟨rfl, q, hq0, rfl⟩
                  refine rk_nx0 ?_
                  obtain ⟨hbq, hq⟩ := new_fr hq0
                  rw [new_sw hbq]
                  have hab : C.a ≠ b := rk_ne e1 bn
                  have haq : C.a ≠ q := rk_ne e1 hq
                  have hgb : C.gb ≠ b := rk_ne g1 bn
                  have hgq : C.gb ≠ q := rk_ne g1 hq
                  have hnb : C.A.na ≠ b := rk_ne hna bn
                  have hnq : C.A.na ≠ q := rk_ne hna hq
                  refine rk_astore dT_windows_163 (Nat.le_of_ble_eq_true rfl) ?_
                  refine rk_aload dT_windows_165 rfl ?_
                  refine rk_iload dT_windows_167 rfl ?_
                  refine rk_putf pT_111 dT_windows_169 (by first | (simp only [rk_up_s, rk_up_n hab, rk_up_n haq, rk_up_n hgb, rk_up_n hgq, rk_up_n hnb, rk_up_n hnq]; first | exact e1 | exact g1 | exact hna | rfl) | exact e1 | exact g1 | exact hna | assumption) (Nat.le_of_ble_eq_true rfl) rfl rfl ?_
                  refine rk_aload dT_windows_172 rfl ?_
                  refine rk_iload dT_windows_174 rfl ?_
                  refine rk_aload_n dT_windows_176 rfl ?_
                  refine rk_getf fT_23 dT_windows_177 (by first | (simp only [rk_up_s, rk_up_n hab, rk_up_n haq, rk_up_n hgb, rk_up_n hgq, rk_up_n hnb, rk_up_n hnq]; first | exact e1 | exact g1 | exact hna | rfl) | exact e1 | exact g1 | exact hna | assumption) rfl ?_
                  refine rk_dload dT_windows_180 rfl ?_
                  refine rk_cv0 (c_N_weigh b (nM (((2, some i, none), (z_plc (c % 12) (s.N i).h, z_plc (c % 12) (s.N i).w, (s.N i).c), (sc, 0), (c % 12, 0), (0, 0)) : aN) q 0 0) (nI of) s.ws (FP.ddiv (FP.dmul (s.N i).sc s.ws) sc) _ rk_up_s) cT_114 dT_windows_182 rfl lN_weigh (Nat.le_of_ble_eq_true rfl) (Nat.le_of_ble_eq_true rfl) (Nat.le_of_ble_eq_true rfl) (Nat.le_of_ble_eq_true rfl) (by first | (simp only [rk_up_s, rk_up_n hab, rk_up_n haq, rk_up_n hgb, rk_up_n hgq, rk_up_n hnb, rk_up_n hnq]; first | exact e1 | exact g1 | exact hna | rfl) | exact e1 | exact g1 | exact hna | assumption) ?_
                  rw [rk_up_up, rk_up_up]
                  refine rk_aload_n dT_windows_185 rfl ?_
                  refine rk_aload dT_windows_186 rfl ?_
                  refine rk_cvV (c_T_keep C s b X _ _ (by simp only [rk_up_s, rk_up_n hab, rk_up_n haq, rk_up_n hgb, rk_up_n hgq, rk_up_n hnb, rk_up_n hnq]; exact e1) (by simp only [rk_up_s, rk_up_n hab, rk_up_n haq, rk_up_n hgb, rk_up_n hgq, rk_up_n hnb, rk_up_n hnq]; exact g1) (by simp only [rk_up_s, rk_up_n hab, rk_up_n haq, rk_up_n hgb, rk_up_n hgq, rk_up_n hnb, rk_up_n hnq]; exact hna) rk_up_s (by omega)) cT_62 dT_windows_188 rfl lT_keep (Nat.le_of_ble_eq_true rfl) (Nat.le_of_ble_eq_true rfl) (Nat.le_of_ble_eq_true rfl) (Nat.le_of_ble_eq_true rfl) (by first | (simp only [rk_up_s, rk_up_n hab, rk_up_n haq, rk_up_n hgb, rk_up_n hgq, rk_up_n hnb, rk_up_n hnq]; first | exact e1 | exact g1 | exact hna | rfl) | exact e1 | exact g1 | exact hna | assumption) ?_
                  exact rk_iret rfl dT_windows_191 ⟨(Nat.le_of_ble_eq_true rfl), (Nat.le_of_ble_eq_true rfl)⟩ (by rw [eop, mk3_0 hgg hgd h14]; exact ⟨⟨_, (P b q bn hq hbq).1, (P b q bn hq hbq).2⟩, by rw [hX]; rfl⟩)
              · refine rk_aload_n dT_windows_0 rfl ?_
                refine rk_iload_n dT_windows_1 rfl ?_
                refine rk_cvI (c_T_requireNode C.a C.gb (tR_of C s.ws s.out s.comp) (gR_of C.A X) (nI i) h e1 g1) cT_66 dT_windows_2 rfl lT_requireNode (Nat.le_of_ble_eq_true rfl) (Nat.le_of_ble_eq_true rfl) (Nat.le_of_ble_eq_true rfl) (Nat.le_of_ble_eq_true rfl) (by first | exact e1 | exact g1 | exact hna | exact id | assumption) rfl ⟨(Nat.le_of_ble_eq_true rfl), (Nat.le_of_ble_eq_true rfl)⟩ (fun g_2 => absurd (show btw (nI i) 0 (nI X.n - 1) by rw [hX]; exact btB_iff.mp hi) g_2) (fun g_2 => ?_)
                refine rk_iload_n dT_windows_5 rfl ?_
                refine rk_iload_n dT_windows_6 rfl ?_
                refine rk_csI (c_T_requireWindowsCode _ _ h) cT_70 dT_windows_7 rfl lT_requireWindowsCode (Nat.le_of_ble_eq_true rfl) (Nat.le_of_ble_eq_true rfl) (Nat.le_of_ble_eq_true rfl) (Nat.le_of_ble_eq_true rfl) rfl ⟨(Nat.le_of_ble_eq_true rfl), (Nat.le_of_ble_eq_true rfl)⟩ (fun g_7 => absurd (show (if dw = 0 then btw (nI c) 12 107 else btw (nI c) 0 11) by rw [if_neg hdw]; exact btB_iff.mp hc) g_7) (fun g_7 => ?_)
                refine rk_dload dT_windows_10 rfl ?_
                refine rk_csI (c_T_requireScale sc h) cT_47 dT_windows_12 rfl lT_requireScale (Nat.le_of_ble_eq_true rfl) (Nat.le_of_ble_eq_true rfl) (Nat.le_of_ble_eq_true rfl) (Nat.le_of_ble_eq_true rfl) rfl ⟨(Nat.le_of_ble_eq_true rfl), (Nat.le_of_ble_eq_true rfl)⟩ (fun g_12 => absurd (dsB_iff.mp hs) g_12) (fun g_12 => ?_)
                refine rk_aload_n dT_windows_15 rfl ?_
                refine rk_getf fT_12 dT_windows_16 (by first | exact e1 | exact g1 | exact hna | exact id | assumption) rfl ?_
                refine rk_getf fT_74 dT_windows_19 (by first | exact e1 | exact g1 | exact hna | exact id | assumption) rfl ?_
                refine rk_iload_n dT_windows_22 rfl ?_
                refine rk_aald rfl dT_windows_23 (by first | exact e1 | exact g1 | exact hna | exact id | assumption) (vp_in_nI i14 (by omega)) (v_nd (by omega) iq) ?_
                refine rk_astore dT_windows_24 (Nat.le_of_ble_eq_true rfl) ?_
                refine rk_iload_n dT_windows_26 rfl ?_
                refine rk_bipush (v := 12) dT_windows_27 (by decide) ?_
                refine rk_irem dT_windows_29 (by decide) ?_
                rw [show (12 : Int32) = nI 12 from rfl, pk_rem (by omega) (by omega) (by omega)]
                refine rk_istore dT_windows_30 (Nat.le_of_ble_eq_true rfl) ?_
                refine rk_lv [some (.ref C.a), some (.int (nI i)), some (.int (nI c)), some (.int dw), some (.int (nI of)), some (.double sc), none, some (.ref (C.ad i)), some (.int (nI (c % 12))), none, none, none, none, none, none, none, none] ⟨rfl, rfl, rfl, rfl, rfl, rfl, rfl, rfl, trivial⟩ ?_
                refine rk_aload dT_windows_32 rfl ?_
                refine rk_iload dT_windows_34 rfl ?_
                refine rk_csI (c_T_requireWindowFits (C.ad i) (nMi s.N C.fe i) _ h id) cT_78 dT_windows_36 rfl lT_requireWindowFits (Nat.le_of_ble_eq_true rfl) (Nat.le_of_ble_eq_true rfl) (Nat.le_of_ble_eq_true rfl) (Nat.le_of_ble_eq_true rfl) rfl ⟨(Nat.le_of_ble_eq_true rfl), (Nat.le_of_ble_eq_true rfl)⟩ (fun g_36 => absurd hfit g_36) (fun g_36 => ?_)
                refine rk_iload dT_windows_39 rfl ?_
                refine rk_csV (c_W_sizeOf (nI (c % 12)) _) cT_82 dT_windows_41 rfl lW_sizeOf (Nat.le_of_ble_eq_true rfl) (Nat.le_of_ble_eq_true rfl) (Nat.le_of_ble_eq_true rfl) (Nat.le_of_ble_eq_true rfl) ?_
                rw [z_size_i (by omega)]
                refine rk_istore dT_windows_44 (Nat.le_of_ble_eq_true rfl) ?_
                refine rk_iload_n dT_windows_46 rfl ?_
                refine rk_if_eq 58 dT_windows_47 (by decide) (fun q_47 => (by exact absurd q_47 hdw)) (fun q_47 => ?_)
                refine rk_aload dT_windows_50 rfl ?_
                refine rk_getf fT_88 dT_windows_52 (by first | exact e1 | exact g1 | exact hna | exact id | assumption) rfl ?_
                refine rk_goto 62 dT_windows_55 (by decide) ?_
                refine rk_istore dT_windows_62 (Nat.le_of_ble_eq_true rfl) ?_
                refine rk_iload dT_windows_64 rfl ?_
                refine rk_iload dT_windows_66 rfl ?_
                refine rk_imul dT_windows_68 ?_
                refine rk_iload_n dT_windows_69 rfl ?_
                refine rk_if_eq 77 dT_windows_70 (by decide) (fun q_70 => (by exact absurd q_70 hdw)) (fun q_70 => ?_)
                refine rk_iconst (v := 1) dT_windows_73 (by decide) ?_
                refine rk_goto 82 dT_windows_74 (by decide) ?_
                refine rk_imul dT_windows_82 ?_
                rw [pk_mul, show (1 : Int32) = nI 1 from rfl, pk_mul]
                refine rk_istore dT_windows_83 (Nat.le_of_ble_eq_true rfl) ?_
                refine rk_lv [some (.ref C.a), some (.int (nI i)), some (.int (nI c)), some (.int dw), some (.int (nI of)), some (.double sc), none, some (.ref (C.ad i)), some (.int (nI (c % 12))), none, some (.int (nI (s.N i).c)), some (.int (nI (z_size (c % 12) * z_size (c % 12) * 1))), none, none, none, none, none] ⟨rfl, rfl, rfl, rfl, rfl, rfl, rfl, rfl, rfl, rfl, trivial⟩ ?_
                refine rk_iload dT_windows_85 rfl ?_
                refine rk_iload dT_windows_87 rfl ?_
                refine rk_iload dT_windows_89 rfl ?_
                refine rk_csI (c_T_requireWeights _ _ _ h) cT_91 dT_windows_91 rfl lT_requireWeights (Nat.le_of_ble_eq_true rfl) (Nat.le_of_ble_eq_true rfl) (Nat.le_of_ble_eq_true rfl) (Nat.le_of_ble_eq_true rfl) rfl ⟨(Nat.le_of_ble_eq_true rfl), (Nat.le_of_ble_eq_true rfl)⟩ (fun g_91 => absurd (btB_iff.mp ho) g_91) (fun g_91 => ?_)
                refine rk_aload_n dT_windows_94 rfl ?_
                refine rk_aload dT_windows_95 rfl ?_
                refine rk_dload dT_windows_97 rfl ?_
                refine rk_cvV (c_T_wratio C s (C.ad i) (s.N i) (C.fe i) (ratA s.N i) (ratB s.N i) sc h e1 id (fp_rat1 ib.2.1 ok.1.2.2.2 (d_scl_iff.mp g_12)).1 (fp_rat1 ib.2.1 ok.1.2.2.2 (d_scl_iff.mp g_12)).2) cT_94 dT_windows_99 rfl lT_weightedRatio (Nat.le_of_ble_eq_true rfl) (Nat.le_of_ble_eq_true rfl) (Nat.le_of_ble_eq_true rfl) (Nat.le_of_ble_eq_true rfl) (by first | exact e1 | exact g1 | exact hna | exact id | assumption) ?_
                refine rk_dstore dT_windows_102 (Nat.le_of_ble_eq_true rfl) ?_
                refine rk_lv [some (.ref C.a), some (.int (nI i)), some (.int (nI c)), some (.int dw), some (.int (nI of)), some (.double sc), none, some (.ref (C.ad i)), some (.int (nI (c % 12))), none, some (.int (nI (s.N i).c)), none, some (.double (FP.ddiv (FP.dmul (s.N i).sc s.ws) sc)), none, none, none, none] ⟨rfl, rfl, rfl, rfl, rfl, rfl, rfl, rfl, rfl, rfl, trivial⟩ ?_
                refine rk_dload dT_windows_104 rfl ?_
                refine rk_csI (c_T_requireGood _ h) cT_98 dT_windows_106 rfl lT_requireGood (Nat.le_of_ble_eq_true rfl) (Nat.le_of_ble_eq_true rfl) (Nat.le_of_ble_eq_true rfl) (Nat.le_of_ble_eq_true rfl) rfl ⟨(Nat.le_of_ble_eq_true rfl), (Nat.le_of_ble_eq_true rfl)⟩ (fun g_106 => (by rw [eop, mk3_2 hgg hgd]; exact cPost.same k rfl rfl)) (fun g_106 => ?_)
                exact absurd g_106 hgd
            · have eo := eo1 (fun w => ho (and2.mp w).2)
              refine rk_aload_n dT_windows_0 rfl ?_
              refine rk_iload_n dT_windows_1 rfl ?_
              refine rk_cvI (c_T_requireNode C.a C.gb (tR_of C s.ws s.out s.comp) (gR_of C.A X) (nI i) h e1 g1) cT_66 dT_windows_2 rfl lT_requireNode (Nat.le_of_ble_eq_true rfl) (Nat.le_of_ble_eq_true rfl) (Nat.le_of_ble_eq_true rfl) (Nat.le_of_ble_eq_true rfl) (by first | exact e1 | exact g1 | exact hna | exact id | assumption) rfl ⟨(Nat.le_of_ble_eq_true rfl), (Nat.le_of_ble_eq_true rfl)⟩ (fun g_2 => absurd (show btw (nI i) 0 (nI X.n - 1) by rw [hX]; exact btB_iff.mp hi) g_2) (fun g_2 => ?_)
              refine rk_iload_n dT_windows_5 rfl ?_
              refine rk_iload_n dT_windows_6 rfl ?_
              refine rk_csI (c_T_requireWindowsCode _ _ h) cT_70 dT_windows_7 rfl lT_requireWindowsCode (Nat.le_of_ble_eq_true rfl) (Nat.le_of_ble_eq_true rfl) (Nat.le_of_ble_eq_true rfl) (Nat.le_of_ble_eq_true rfl) rfl ⟨(Nat.le_of_ble_eq_true rfl), (Nat.le_of_ble_eq_true rfl)⟩ (fun g_7 => absurd (show (if dw = 0 then btw (nI c) 12 107 else btw (nI c) 0 11) by rw [if_neg hdw]; exact btB_iff.mp hc) g_7) (fun g_7 => ?_)
              refine rk_dload dT_windows_10 rfl ?_
              refine rk_csI (c_T_requireScale sc h) cT_47 dT_windows_12 rfl lT_requireScale (Nat.le_of_ble_eq_true rfl) (Nat.le_of_ble_eq_true rfl) (Nat.le_of_ble_eq_true rfl) (Nat.le_of_ble_eq_true rfl) rfl ⟨(Nat.le_of_ble_eq_true rfl), (Nat.le_of_ble_eq_true rfl)⟩ (fun g_12 => absurd (dsB_iff.mp hs) g_12) (fun g_12 => ?_)
              refine rk_aload_n dT_windows_15 rfl ?_
              refine rk_getf fT_12 dT_windows_16 (by first | exact e1 | exact g1 | exact hna | exact id | assumption) rfl ?_
              refine rk_getf fT_74 dT_windows_19 (by first | exact e1 | exact g1 | exact hna | exact id | assumption) rfl ?_
              refine rk_iload_n dT_windows_22 rfl ?_
              refine rk_aald rfl dT_windows_23 (by first | exact e1 | exact g1 | exact hna | exact id | assumption) (vp_in_nI i14 (by omega)) (v_nd (by omega) iq) ?_
              refine rk_astore dT_windows_24 (Nat.le_of_ble_eq_true rfl) ?_
              refine rk_iload_n dT_windows_26 rfl ?_
              refine rk_bipush (v := 12) dT_windows_27 (by decide) ?_
              refine rk_irem dT_windows_29 (by decide) ?_
              rw [show (12 : Int32) = nI 12 from rfl, pk_rem (by omega) (by omega) (by omega)]
              refine rk_istore dT_windows_30 (Nat.le_of_ble_eq_true rfl) ?_
              refine rk_lv [some (.ref C.a), some (.int (nI i)), some (.int (nI c)), some (.int dw), some (.int off), some (.double sc), none, some (.ref (C.ad i)), some (.int (nI (c % 12))), none, none, none, none, none, none, none, none] ⟨rfl, rfl, rfl, rfl, rfl, rfl, rfl, rfl, trivial⟩ ?_
              refine rk_aload dT_windows_32 rfl ?_
              refine rk_iload dT_windows_34 rfl ?_
              refine rk_csI (c_T_requireWindowFits (C.ad i) (nMi s.N C.fe i) _ h id) cT_78 dT_windows_36 rfl lT_requireWindowFits (Nat.le_of_ble_eq_true rfl) (Nat.le_of_ble_eq_true rfl) (Nat.le_of_ble_eq_true rfl) (Nat.le_of_ble_eq_true rfl) rfl ⟨(Nat.le_of_ble_eq_true rfl), (Nat.le_of_ble_eq_true rfl)⟩ (fun g_36 => absurd hfit g_36) (fun g_36 => ?_)
              refine rk_iload dT_windows_39 rfl ?_
              refine rk_csV (c_W_sizeOf (nI (c % 12)) _) cT_82 dT_windows_41 rfl lW_sizeOf (Nat.le_of_ble_eq_true rfl) (Nat.le_of_ble_eq_true rfl) (Nat.le_of_ble_eq_true rfl) (Nat.le_of_ble_eq_true rfl) ?_
              rw [z_size_i (by omega)]
              refine rk_istore dT_windows_44 (Nat.le_of_ble_eq_true rfl) ?_
              refine rk_iload_n dT_windows_46 rfl ?_
              refine rk_if_eq 58 dT_windows_47 (by decide) (fun q_47 => (by exact absurd q_47 hdw)) (fun q_47 => ?_)
              refine rk_aload dT_windows_50 rfl ?_
              refine rk_getf fT_88 dT_windows_52 (by first | exact e1 | exact g1 | exact hna | exact id | assumption) rfl ?_
              refine rk_goto 62 dT_windows_55 (by decide) ?_
              refine rk_istore dT_windows_62 (Nat.le_of_ble_eq_true rfl) ?_
              refine rk_iload dT_windows_64 rfl ?_
              refine rk_iload dT_windows_66 rfl ?_
              refine rk_imul dT_windows_68 ?_
              refine rk_iload_n dT_windows_69 rfl ?_
              refine rk_if_eq 77 dT_windows_70 (by decide) (fun q_70 => (by exact absurd q_70 hdw)) (fun q_70 => ?_)
              refine rk_iconst (v := 1) dT_windows_73 (by decide) ?_
              refine rk_goto 82 dT_windows_74 (by decide) ?_
              refine rk_imul dT_windows_82 ?_
              rw [pk_mul, show (1 : Int32) = nI 1 from rfl, pk_mul]
              refine rk_istore dT_windows_83 (Nat.le_of_ble_eq_true rfl) ?_
              refine rk_lv [some (.ref C.a), some (.int (nI i)), some (.int (nI c)), some (.int dw), some (.int off), some (.double sc), none, some (.ref (C.ad i)), some (.int (nI (c % 12))), none, some (.int (nI (s.N i).c)), some (.int (nI (z_size (c % 12) * z_size (c % 12) * 1))), none, none, none, none, none] ⟨rfl, rfl, rfl, rfl, rfl, rfl, rfl, rfl, rfl, rfl, trivial⟩ ?_
              refine rk_iload dT_windows_85 rfl ?_
              refine rk_iload dT_windows_87 rfl ?_
              refine rk_iload dT_windows_89 rfl ?_
              refine rk_csI (c_T_requireWeights _ _ _ h) cT_91 dT_windows_91 rfl lT_requireWeights (Nat.le_of_ble_eq_true rfl) (Nat.le_of_ble_eq_true rfl) (Nat.le_of_ble_eq_true rfl) (Nat.le_of_ble_eq_true rfl) rfl ⟨(Nat.le_of_ble_eq_true rfl), (Nat.le_of_ble_eq_true rfl)⟩ (fun g_91 => (by rw [eo]; exact cPost.same k rfl rfl)) (fun g_91 => ?_)
              exact absurd (btB_iff.mpr g_91) ho
          · have eo := eo1 (fun w => hf (and2.mp (and2.mp w).1).2)
            refine rk_aload_n dT_windows_0 rfl ?_
            refine rk_iload_n dT_windows_1 rfl ?_
            refine rk_cvI (c_T_requireNode C.a C.gb (tR_of C s.ws s.out s.comp) (gR_of C.A X) (nI i) h e1 g1) cT_66 dT_windows_2 rfl lT_requireNode (Nat.le_of_ble_eq_true rfl) (Nat.le_of_ble_eq_true rfl) (Nat.le_of_ble_eq_true rfl) (Nat.le_of_ble_eq_true rfl) (by first | exact e1 | exact g1 | exact hna | exact id | assumption) rfl ⟨(Nat.le_of_ble_eq_true rfl), (Nat.le_of_ble_eq_true rfl)⟩ (fun g_2 => absurd (show btw (nI i) 0 (nI X.n - 1) by rw [hX]; exact btB_iff.mp hi) g_2) (fun g_2 => ?_)
            refine rk_iload_n dT_windows_5 rfl ?_
            refine rk_iload_n dT_windows_6 rfl ?_
            refine rk_csI (c_T_requireWindowsCode _ _ h) cT_70 dT_windows_7 rfl lT_requireWindowsCode (Nat.le_of_ble_eq_true rfl) (Nat.le_of_ble_eq_true rfl) (Nat.le_of_ble_eq_true rfl) (Nat.le_of_ble_eq_true rfl) rfl ⟨(Nat.le_of_ble_eq_true rfl), (Nat.le_of_ble_eq_true rfl)⟩ (fun g_7 => absurd (show (if dw = 0 then btw (nI c) 12 107 else btw (nI c) 0 11) by rw [if_neg hdw]; exact btB_iff.mp hc) g_7) (fun g_7 => ?_)
            refine rk_dload dT_windows_10 rfl ?_
            refine rk_csI (c_T_requireScale sc h) cT_47 dT_windows_12 rfl lT_requireScale (Nat.le_of_ble_eq_true rfl) (Nat.le_of_ble_eq_true rfl) (Nat.le_of_ble_eq_true rfl) (Nat.le_of_ble_eq_true rfl) rfl ⟨(Nat.le_of_ble_eq_true rfl), (Nat.le_of_ble_eq_true rfl)⟩ (fun g_12 => absurd (dsB_iff.mp hs) g_12) (fun g_12 => ?_)
            refine rk_aload_n dT_windows_15 rfl ?_
            refine rk_getf fT_12 dT_windows_16 (by first | exact e1 | exact g1 | exact hna | exact id | assumption) rfl ?_
            refine rk_getf fT_74 dT_windows_19 (by first | exact e1 | exact g1 | exact hna | exact id | assumption) rfl ?_
            refine rk_iload_n dT_windows_22 rfl ?_
            refine rk_aald rfl dT_windows_23 (by first | exact e1 | exact g1 | exact hna | exact id | assumption) (vp_in_nI i14 (by omega)) (v_nd (by omega) iq) ?_
            refine rk_astore dT_windows_24 (Nat.le_of_ble_eq_true rfl) ?_
            refine rk_iload_n dT_windows_26 rfl ?_
            refine rk_bipush (v := 12) dT_windows_27 (by decide) ?_
            refine rk_irem dT_windows_29 (by decide) ?_
            rw [show (12 : Int32) = nI 12 from rfl, pk_rem (by omega) (by omega) (by omega)]
            refine rk_istore dT_windows_30 (Nat.le_of_ble_eq_true rfl) ?_
            refine rk_lv [some (.ref C.a), some (.int (nI i)), some (.int (nI c)), some (.int dw), some (.int off), some (.double sc), none, some (.ref (C.ad i)), some (.int (nI (c % 12))), none, none, none, none, none, none, none, none] ⟨rfl, rfl, rfl, rfl, rfl, rfl, rfl, rfl, trivial⟩ ?_
            refine rk_aload dT_windows_32 rfl ?_
            refine rk_iload dT_windows_34 rfl ?_
            refine rk_csI (c_T_requireWindowFits (C.ad i) (nMi s.N C.fe i) _ h id) cT_78 dT_windows_36 rfl lT_requireWindowFits (Nat.le_of_ble_eq_true rfl) (Nat.le_of_ble_eq_true rfl) (Nat.le_of_ble_eq_true rfl) (Nat.le_of_ble_eq_true rfl) rfl ⟨(Nat.le_of_ble_eq_true rfl), (Nat.le_of_ble_eq_true rfl)⟩ (fun g_36 => (by rw [eo]; exact cPost.same k rfl rfl)) (fun g_36 => ?_)
            exact absurd (by rw [← wf1, ← wf2]; exact and2.mpr g_36) hf
        · have eo := eo1 (fun w => hs (and2.mp (and2.mp (and2.mp w).1).1).2)
          refine rk_aload_n dT_windows_0 rfl ?_
          refine rk_iload_n dT_windows_1 rfl ?_
          refine rk_cvI (c_T_requireNode C.a C.gb (tR_of C s.ws s.out s.comp) (gR_of C.A X) (nI i) h e1 g1) cT_66 dT_windows_2 rfl lT_requireNode (Nat.le_of_ble_eq_true rfl) (Nat.le_of_ble_eq_true rfl) (Nat.le_of_ble_eq_true rfl) (Nat.le_of_ble_eq_true rfl) (by first | exact e1 | exact g1 | exact hna | exact id | assumption) rfl ⟨(Nat.le_of_ble_eq_true rfl), (Nat.le_of_ble_eq_true rfl)⟩ (fun g_2 => absurd (show btw (nI i) 0 (nI X.n - 1) by rw [hX]; exact btB_iff.mp hi) g_2) (fun g_2 => ?_)
          refine rk_iload_n dT_windows_5 rfl ?_
          refine rk_iload_n dT_windows_6 rfl ?_
          refine rk_csI (c_T_requireWindowsCode _ _ h) cT_70 dT_windows_7 rfl lT_requireWindowsCode (Nat.le_of_ble_eq_true rfl) (Nat.le_of_ble_eq_true rfl) (Nat.le_of_ble_eq_true rfl) (Nat.le_of_ble_eq_true rfl) rfl ⟨(Nat.le_of_ble_eq_true rfl), (Nat.le_of_ble_eq_true rfl)⟩ (fun g_7 => absurd (show (if dw = 0 then btw (nI c) 12 107 else btw (nI c) 0 11) by rw [if_neg hdw]; exact btB_iff.mp hc) g_7) (fun g_7 => ?_)
          refine rk_dload dT_windows_10 rfl ?_
          refine rk_csI (c_T_requireScale sc h) cT_47 dT_windows_12 rfl lT_requireScale (Nat.le_of_ble_eq_true rfl) (Nat.le_of_ble_eq_true rfl) (Nat.le_of_ble_eq_true rfl) (Nat.le_of_ble_eq_true rfl) rfl ⟨(Nat.le_of_ble_eq_true rfl), (Nat.le_of_ble_eq_true rfl)⟩ (fun g_12 => (by rw [eo]; exact cPost.same k rfl rfl)) (fun g_12 => ?_)
          exact absurd (dsB_iff.mpr g_12) hs
      · have eo : opWindows s (nI i) code dw off sc = (1, none, s) := by
          unfold opWindows
          rw [if_neg (c := dw = 0) (t := btB code 12 107) hdw]
          exact mk3_1 (fun w => hc (and2.mp (and2.mp (and2.mp (and2.mp w).1).1).1).2)
        refine rk_aload_n dT_windows_0 rfl ?_
        refine rk_iload_n dT_windows_1 rfl ?_
        refine rk_cvI (c_T_requireNode C.a C.gb (tR_of C s.ws s.out s.comp) (gR_of C.A X) (nI i) h e1 g1) cT_66 dT_windows_2 rfl lT_requireNode (Nat.le_of_ble_eq_true rfl) (Nat.le_of_ble_eq_true rfl) (Nat.le_of_ble_eq_true rfl) (Nat.le_of_ble_eq_true rfl) (by first | exact e1 | exact g1 | exact hna | exact id | assumption) rfl ⟨(Nat.le_of_ble_eq_true rfl), (Nat.le_of_ble_eq_true rfl)⟩ (fun g_2 => absurd (show btw (nI i) 0 (nI X.n - 1) by rw [hX]; exact btB_iff.mp hi) g_2) (fun g_2 => ?_)
        refine rk_iload_n dT_windows_5 rfl ?_
        refine rk_iload_n dT_windows_6 rfl ?_
        refine rk_csI (c_T_requireWindowsCode _ _ h) cT_70 dT_windows_7 rfl lT_requireWindowsCode (Nat.le_of_ble_eq_true rfl) (Nat.le_of_ble_eq_true rfl) (Nat.le_of_ble_eq_true rfl) (Nat.le_of_ble_eq_true rfl) rfl ⟨(Nat.le_of_ble_eq_true rfl), (Nat.le_of_ble_eq_true rfl)⟩ (fun g_7 => (by rw [eo]; exact cPost.same k rfl rfl)) (fun g_7 => ?_)
        exact absurd (btB_iff.mpr (by rw [if_neg hdw] at g_7; exact g_7)) hc
  · have eo : opWindows s p code dw off sc = (1, none, s) := mk3_1 (fun w => hi (and2.mp (and2.mp (and2.mp (and2.mp w).1).1).1).1)
    refine rk_aload_n dT_windows_0 rfl ?_
    refine rk_iload_n dT_windows_1 rfl ?_
    refine rk_cvI (c_T_requireNode C.a C.gb (tR_of C s.ws s.out s.comp) (gR_of C.A X) p h e1 g1) cT_66 dT_windows_2 rfl lT_requireNode (Nat.le_of_ble_eq_true rfl) (Nat.le_of_ble_eq_true rfl) (Nat.le_of_ble_eq_true rfl) (Nat.le_of_ble_eq_true rfl) (by first | exact e1 | exact g1 | assumption) rfl ⟨(Nat.le_of_ble_eq_true rfl), (Nat.le_of_ble_eq_true rfl)⟩ (fun g_2 => (by rw [eo]; exact cPost.same k rfl rfl)) (fun g_2 => ?_)
    exact absurd (btB_iff.mpr (show btw p 0 (nI s.n - 1) by rw [← hX]; exact g_2)) hi
