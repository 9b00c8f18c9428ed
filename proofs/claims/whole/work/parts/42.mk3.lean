/-! TensorForge: concat, pool, rescale, add -/
theorem deq0 {x y : UInt64} (hx : x.toNat ≤ dTop) (hy : y.toNat ≤ dTop) : Op.cmpValue (FP.dcmp x y) .l = 0 ↔ x = y := by
  have := d_eq_iff hx hy
  unfold d_eq at this
  rw [decide_eq_decide] at this
  exact this
theorem c_T_concat (C : cT) (s : aS) (p q0 : Int32) (h : rk_H) (k : cOK h C s) (ok : aOK s) : rk_Con mT_concat (9, 121, 7, 174) [.ref C.a, .int p, .int q0] h (cPost h C s.n (opConcat s p q0) (exL [x_IA, x_IS])) := by
  have e1 := k.1.1
  obtain ⟨X, hX, hG⟩ := k.1.2.2.1.eq
  have gI : gIs h C.gb C.A X := by
    have kg := k.1.2.2.1
    rw [hG]
    exact ⟨kg.gb, kg.gsf, kg.gst, kg.gsp, kg.gpl, kg.gla⟩
  have g1 := gI.1
  have hna := k.1.2.2.1.2.1.1
  have hn := ok.1.1
  have hroom := room_n hX hn
  refine rk_Con.of [some (.ref C.a), some (.int p), some (.int q0), none, none, none] rfl (Nat.le_of_ble_eq_true rfl) (by decide +kernel) ?_
  by_cases hi : ndB s p = true
  · obtain ⟨i, il, rfl⟩ := ndB_of hn hi
    obtain ⟨iq, id⟩ := k.1.2.2.1.2.1.2 i il
    have i14 : i < 14 := by omega
    have ib := ok.1.2.1.bd i il
    have ip := (ok.1.2.1 i il).1.2.1
    have ic := ib.ce
    have it : tN (nI i) = i := tN_I (by omega)
    by_cases hj : ndB s q0 = true
    · obtain ⟨j, jl, rfl⟩ := ndB_of hn hj
      obtain ⟨jq, jd⟩ := k.1.2.2.1.2.1.2 j jl
      have j14 : j < 14 := by omega
      have jb := ok.1.2.1.bd j jl
      have jp := (ok.1.2.1 j jl).1.2.1
      have jc := jb.ce
      have jt : tN (nI j) = j := tN_I (by omega)
      have jh : nI (s.N i).h = nI (s.N j).h ↔ (s.N i).h = (s.N j).h := nI_eq (by have := ib.1.2.1; omega) (by have := jb.1.2.1; omega)
      have jw : nI (s.N i).w = nI (s.N j).w ↔ (s.N i).w = (s.N j).w := nI_eq (by have := ib.1.2.2.1; omega) (by have := jb.1.2.2.1; omega)
      have js := deq0 ib.2.1 jb.2.1
      have c8i := ib.1.2.2.2.1
      have c8j := jb.1.2.2.2.1
      have eop : opConcat s (nI i) (nI j) = mk2 s (ndB s (nI i) && ndB s (nI j) && (decide ((s.N i).h = (s.N j).h) && decide ((s.N i).w = (s.N j).w) && decide ((s.N i).sc = (s.N j).sc)) && decide ((s.N i).c + (s.N j).c ≤ 8)) (x0 5 (some i) (some j) (s.N i).h (s.N i).w ((s.N i).c + (s.N j).c) (s.N i).sc) := by
        unfold opConcat
        rw [it, jt]
      by_cases hsame : (s.N i).h = (s.N j).h ∧ (s.N i).w = (s.N j).w ∧ (s.N i).sc = (s.N j).sc
      · by_cases hc : (s.N i).c + (s.N j).c ≤ 8
        · have hgg : (ndB s (nI i) && ndB s (nI j) && (decide ((s.N i).h = (s.N j).h) && decide ((s.N i).w = (s.N j).w) && decide ((s.N i).sc = (s.N j).sc)) && decide ((s.N i).c + (s.N j).c ≤ 8)) = true := by
            rw [hi, hj, decide_eq_true hsame.1, decide_eq_true hsame.2.1, decide_eq_true hsame.2.2, decide_eq_true hc]; rfl
          have hbt : btw (nI ((s.N i).c + (s.N j).c)) 1 8 := ⟨nI_le (a := 1) (by omega) (by omega), nI_le (b := 8) hc (by omega)⟩
          have hm : (s.N i).h * (s.N i).w * ((s.N i).c + (s.N j).c) ≤ 4 * 4 * 8 := Nat.mul_le_mul (Nat.mul_le_mul ib.1.2.1 ib.1.2.2.1) hc
          by_cases h14 : s.n = 14
          · refine rk_aload_n dT_concat_0 rfl ?_
            refine rk_iload_n dT_concat_1 rfl ?_
            refine rk_cvI (c_T_requireNode C.a C.gb (tR_of C s.ws s.out s.comp) (gR_of C.A X) (nI i) h e1 g1) cT_66 dT_concat_2 rfl lT_requireNode (Nat.le_of_ble_eq_true rfl) (Nat.le_of_ble_eq_true rfl) (Nat.le_of_ble_eq_true rfl) (Nat.le_of_ble_eq_true rfl) (by first | exact e1 | exact g1 | exact hna | exact id | exact jd | assumption) rfl ⟨(Nat.le_of_ble_eq_true rfl), (Nat.le_of_ble_eq_true rfl)⟩ (fun g_2 => absurd (show btw (nI i) 0 (nI X.n - 1) by rw [hX]; exact btB_iff.mp hi) g_2) (fun g_2 => ?_)
            refine rk_aload_n dT_concat_5 rfl ?_
            refine rk_iload_n dT_concat_6 rfl ?_
            refine rk_cvI (c_T_requireNode C.a C.gb (tR_of C s.ws s.out s.comp) (gR_of C.A X) (nI j) h e1 g1) cT_66 dT_concat_7 rfl lT_requireNode (Nat.le_of_ble_eq_true rfl) (Nat.le_of_ble_eq_true rfl) (Nat.le_of_ble_eq_true rfl) (Nat.le_of_ble_eq_true rfl) (by first | exact e1 | exact g1 | exact hna | exact id | exact jd | assumption) rfl ⟨(Nat.le_of_ble_eq_true rfl), (Nat.le_of_ble_eq_true rfl)⟩ (fun g_7 => absurd (show btw (nI j) 0 (nI X.n - 1) by rw [hX]; exact btB_iff.mp hj) g_7) (fun g_7 => ?_)
            refine rk_aload_n dT_concat_10 rfl ?_
            refine rk_getf fT_12 dT_concat_11 (by first | exact e1 | exact g1 | exact hna | exact id | exact jd | assumption) rfl ?_
            refine rk_getf fT_74 dT_concat_14 (by first | exact e1 | exact g1 | exact hna | exact id | exact jd | assumption) rfl ?_
            refine rk_iload_n dT_concat_17 rfl ?_
            refine rk_aald rfl dT_concat_18 (by first | exact e1 | exact g1 | exact hna | exact id | exact jd | assumption) (vp_in_nI i14 (by omega)) (v_nd (by omega) iq) ?_
            refine rk_astore_n dT_concat_19 (Nat.le_of_ble_eq_true rfl) ?_
            refine rk_aload_n dT_concat_20 rfl ?_
            refine rk_getf fT_12 dT_concat_21 (by first | exact e1 | exact g1 | exact hna | exact id | exact jd | assumption) rfl ?_
            refine rk_getf fT_74 dT_concat_24 (by first | exact e1 | exact g1 | exact hna | exact id | exact jd | assumption) rfl ?_
            refine rk_iload_n dT_concat_27 rfl ?_
            refine rk_aald rfl dT_concat_28 (by first | exact e1 | exact g1 | exact hna | exact id | exact jd | assumption) (vp_in_nI j14 (by omega)) (v_nd (by omega) jq) ?_
            refine rk_astore dT_concat_29 (Nat.le_of_ble_eq_true rfl) ?_
            refine rk_aload_n dT_concat_31 rfl ?_
            refine rk_getf fT_101 dT_concat_32 (by first | exact e1 | exact g1 | exact hna | exact id | exact jd | assumption) rfl ?_
            refine rk_aload dT_concat_35 rfl ?_
            refine rk_getf fT_101 dT_concat_37 (by first | exact e1 | exact g1 | exact hna | exact id | exact jd | assumption) rfl ?_
            refine rk_icmp_ne 72 dT_concat_40 (by decide) (fun q_40 => (by exact absurd (jh.mpr hsame.1) q_40)) (fun q_40 => ?_)
            refine rk_aload_n dT_concat_43 rfl ?_
            refine rk_getf fT_108 dT_concat_44 (by first | exact e1 | exact g1 | exact hna | exact id | exact jd | assumption) rfl ?_
            refine rk_aload dT_concat_47 rfl ?_
            refine rk_getf fT_108 dT_concat_49 (by first | exact e1 | exact g1 | exact hna | exact id | exact jd | assumption) rfl ?_
            refine rk_icmp_ne 72 dT_concat_52 (by decide) (fun q_52 => (by exact absurd (jw.mpr hsame.2.1) q_52)) (fun q_52 => ?_)
            refine rk_aload_n dT_concat_55 rfl ?_
            refine rk_getf fT_129 dT_concat_56 (by first | exact e1 | exact g1 | exact hna | exact id | exact jd | assumption) rfl ?_
            refine rk_aload dT_concat_59 rfl ?_
            refine rk_getf fT_129 dT_concat_61 (by first | exact e1 | exact g1 | exact hna | exact id | exact jd | assumption) rfl ?_
            refine rk_dcmp dT_concat_64 ?_
            refine rk_if_ne 72 dT_concat_65 (by decide) (fun q_65 => (by exact absurd (js.mpr hsame.2.2) q_65)) (fun q_65 => ?_)
            refine rk_iconst (v := 1) dT_concat_68 (by decide) ?_
            refine rk_goto 73 dT_concat_69 (by decide) ?_
            refine rk_csI (c_T_require _ h) cT_125 dT_concat_73 rfl lT_require (Nat.le_of_ble_eq_true rfl) (Nat.le_of_ble_eq_true rfl) (Nat.le_of_ble_eq_true rfl) (Nat.le_of_ble_eq_true rfl) rfl ⟨(Nat.le_of_ble_eq_true rfl), (Nat.le_of_ble_eq_true rfl)⟩ (fun g_73 => absurd (by decide) g_73) (fun g_73 => ?_)
            refine rk_aload_n dT_concat_76 rfl ?_
            refine rk_getf fT_88 dT_concat_77 (by first | exact e1 | exact g1 | exact hna | exact id | exact jd | assumption) rfl ?_
            refine rk_aload dT_concat_80 rfl ?_
            refine rk_getf fT_88 dT_concat_82 (by first | exact e1 | exact g1 | exact hna | exact id | exact jd | assumption) rfl ?_
            refine rk_iadd dT_concat_85 ?_
            rw [nI_add]
            refine rk_istore dT_concat_86 (Nat.le_of_ble_eq_true rfl) ?_
            refine rk_iload dT_concat_88 rfl ?_
            refine rk_iconst (v := 1) dT_concat_90 (by decide) ?_
            refine rk_bipush (v := 8) dT_concat_91 (by decide) ?_
            refine rk_csI (c_T_requireBetween _ _ _ h) cT_35 dT_concat_93 rfl lT_requireBetween (Nat.le_of_ble_eq_true rfl) (Nat.le_of_ble_eq_true rfl) (Nat.le_of_ble_eq_true rfl) (Nat.le_of_ble_eq_true rfl) rfl ⟨(Nat.le_of_ble_eq_true rfl), (Nat.le_of_ble_eq_true rfl)⟩ (fun g_93 => absurd hbt g_93) (fun g_93 => ?_)
            refine rk_aload_n dT_concat_96 rfl ?_
            refine rk_cvI (c_T_requireRoom C.a (tR_of C s.ws s.out s.comp) (gR_of C.A X) h e1 g1) cT_54 dT_concat_97 rfl lT_requireRoom (Nat.le_of_ble_eq_true rfl) (Nat.le_of_ble_eq_true rfl) (Nat.le_of_ble_eq_true rfl) (Nat.le_of_ble_eq_true rfl) (by first | exact e1 | exact g1 | exact hna | exact id | exact jd | assumption) rfl ⟨(Nat.le_of_ble_eq_true rfl), (Nat.le_of_ble_eq_true rfl)⟩ (fun g_97 => (by rw [eop, mk2_2 hgg h14]; exact cPost.same k rfl rfl)) (fun g_97 => ?_)
            exact absurd h14 (hroom.mp g_97)
          · skip
            have P := fun (b q : Nat) (bn : h b = none) (hq : h q = none) (hbq : b ≠ q) => k.push ok.1.2.1.inn (by omega) X hX gI b q (x0 5 (some i) (some j) (s.N i).h (s.N i).w ((s.N i).c + (s.N j).c) (s.N i).sc) bn hq hbq hm
            have hra : ratA (updN s.N s.n (x0 5 (some i) (some j) (s.N i).h (s.N i).w ((s.N i).c + (s.N j).c) (s.N i).sc)) s.n = 0 := by
              unfold ratA
              rw [show updN s.N s.n (x0 5 (some i) (some j) (s.N i).h (s.N i).w ((s.N i).c + (s.N j).c) (s.N i).sc) s.n = (x0 5 (some i) (some j) (s.N i).h (s.N i).w ((s.N i).c + (s.N j).c) (s.N i).sc) from if_pos rfl]
              rfl
            have hrb : ratB (updN s.N s.n (x0 5 (some i) (some j) (s.N i).h (s.N i).w ((s.N i).c + (s.N j).c) (s.N i).sc)) s.n = 0 := by
              unfold ratB
              rw [show updN s.N s.n (x0 5 (some i) (some j) (s.N i).h (s.N i).w ((s.N i).c + (s.N j).c) (s.N i).sc) s.n = (x0 5 (some i) (some j) (s.N i).h (s.N i).w ((s.N i).c + (s.N j).c) (s.N i).sc) from if_pos rfl]
              rfl
            rw [hra, hrb] at P
            refine rk_aload_n dT_concat_0 rfl ?_
            refine rk_iload_n dT_concat_1 rfl ?_
            refine rk_cvI (c_T_requireNode C.a C.gb (tR_of C s.ws s.out s.comp) (gR_of C.A X) (nI i) h e1 g1) cT_66 dT_concat_2 rfl lT_requireNode (Nat.le_of_ble_eq_true rfl) (Nat.le_of_ble_eq_true rfl) (Nat.le_of_ble_eq_true rfl) (Nat.le_of_ble_eq_true rfl) (by first | exact rk_up_k (rk_ne e1 bn) e1 | exact rk_up_k (rk_ne g1 bn) g1 | exact rk_up_k (rk_ne hna bn) hna | exact rk_up_k (rk_ne id bn) id | exact rk_up_k (rk_ne jd bn) jd | exact e1 | exact g1 | exact hna | exact id | exact jd | assumption) rfl ⟨(Nat.le_of_ble_eq_true rfl), (Nat.le_of_ble_eq_true rfl)⟩ (fun g_2 => absurd (show btw (nI i) 0 (nI X.n - 1) by rw [hX]; exact btB_iff.mp hi) g_2) (fun g_2 => ?_)
            refine rk_aload_n dT_concat_5 rfl ?_
            refine rk_iload_n dT_concat_6 rfl ?_
            refine rk_cvI (c_T_requireNode C.a C.gb (tR_of C s.ws s.out s.comp) (gR_of C.A X) (nI j) h e1 g1) cT_66 dT_concat_7 rfl lT_requireNode (Nat.le_of_ble_eq_true rfl) (Nat.le_of_ble_eq_true rfl) (Nat.le_of_ble_eq_true rfl) (Nat.le_of_ble_eq_true rfl) (by first | exact rk_up_k (rk_ne e1 bn) e1 | exact rk_up_k (rk_ne g1 bn) g1 | exact rk_up_k (rk_ne hna bn) hna | exact rk_up_k (rk_ne id bn) id | exact rk_up_k (rk_ne jd bn) jd | exact e1 | exact g1 | exact hna | exact id | exact jd | assumption) rfl ⟨(Nat.le_of_ble_eq_true rfl), (Nat.le_of_ble_eq_true rfl)⟩ (fun g_7 => absurd (show btw (nI j) 0 (nI X.n - 1) by rw [hX]; exact btB_iff.mp hj) g_7) (fun g_7 => ?_)
            refine rk_aload_n dT_concat_10 rfl ?_
            refine rk_getf fT_12 dT_concat_11 (by first | exact rk_up_k (rk_ne e1 bn) e1 | exact rk_up_k (rk_ne g1 bn) g1 | exact rk_up_k (rk_ne hna bn) hna | exact rk_up_k (rk_ne id bn) id | exact rk_up_k (rk_ne jd bn) jd | exact e1 | exact g1 | exact hna | exact id | exact jd | assumption) rfl ?_
            refine rk_getf fT_74 dT_concat_14 (by first | exact rk_up_k (rk_ne e1 bn) e1 | exact rk_up_k (rk_ne g1 bn) g1 | exact rk_up_k (rk_ne hna bn) hna | exact rk_up_k (rk_ne id bn) id | exact rk_up_k (rk_ne jd bn) jd | exact e1 | exact g1 | exact hna | exact id | exact jd | assumption) rfl ?_
            refine rk_iload_n dT_concat_17 rfl ?_
            refine rk_aald rfl dT_concat_18 (by first | exact rk_up_k (rk_ne e1 bn) e1 | exact rk_up_k (rk_ne g1 bn) g1 | exact rk_up_k (rk_ne hna bn) hna | exact rk_up_k (rk_ne id bn) id | exact rk_up_k (rk_ne jd bn) jd | exact e1 | exact g1 | exact hna | exact id | exact jd | assumption) (vp_in_nI i14 (by omega)) (v_nd (by omega) iq) ?_
            refine rk_astore_n dT_concat_19 (Nat.le_of_ble_eq_true rfl) ?_
            refine rk_aload_n dT_concat_20 rfl ?_
            refine rk_getf fT_12 dT_concat_21 (by first | exact rk_up_k (rk_ne e1 bn) e1 | exact rk_up_k (rk_ne g1 bn) g1 | exact rk_up_k (rk_ne hna bn) hna | exact rk_up_k (rk_ne id bn) id | exact rk_up_k (rk_ne jd bn) jd | exact e1 | exact g1 | exact hna | exact id | exact jd | assumption) rfl ?_
            refine rk_getf fT_74 dT_concat_24 (by first | exact rk_up_k (rk_ne e1 bn) e1 | exact rk_up_k (rk_ne g1 bn) g1 | exact rk_up_k (rk_ne hna bn) hna | exact rk_up_k (rk_ne id bn) id | exact rk_up_k (rk_ne jd bn) jd | exact e1 | exact g1 | exact hna | exact id | exact jd | assumption) rfl ?_
            refine rk_iload_n dT_concat_27 rfl ?_
            refine rk_aald rfl dT_concat_28 (by first | exact rk_up_k (rk_ne e1 bn) e1 | exact rk_up_k (rk_ne g1 bn) g1 | exact rk_up_k (rk_ne hna bn) hna | exact rk_up_k (rk_ne id bn) id | exact rk_up_k (rk_ne jd bn) jd | exact e1 | exact g1 | exact hna | exact id | exact jd | assumption) (vp_in_nI j14 (by omega)) (v_nd (by omega) jq) ?_
            refine rk_astore dT_concat_29 (Nat.le_of_ble_eq_true rfl) ?_
            refine rk_aload_n dT_concat_31 rfl ?_
            refine rk_getf fT_101 dT_concat_32 (by first | exact rk_up_k (rk_ne e1 bn) e1 | exact rk_up_k (rk_ne g1 bn) g1 | exact rk_up_k (rk_ne hna bn) hna | exact rk_up_k (rk_ne id bn) id | exact rk_up_k (rk_ne jd bn) jd | exact e1 | exact g1 | exact hna | exact id | exact jd | assumption) rfl ?_
            refine rk_aload dT_concat_35 rfl ?_
            refine rk_getf fT_101 dT_concat_37 (by first | exact rk_up_k (rk_ne e1 bn) e1 | exact rk_up_k (rk_ne g1 bn) g1 | exact rk_up_k (rk_ne hna bn) hna | exact rk_up_k (rk_ne id bn) id | exact rk_up_k (rk_ne jd bn) jd | exact e1 | exact g1 | exact hna | exact id | exact jd | assumption) rfl ?_
            refine rk_icmp_ne 72 dT_concat_40 (by decide) (fun q_40 => (by exact absurd (jh.mpr hsame.1) q_40)) (fun q_40 => ?_)
            refine rk_aload_n dT_concat_43 rfl ?_
            refine rk_getf fT_108 dT_concat_44 (by first | exact rk_up_k (rk_ne e1 bn) e1 | exact rk_up_k (rk_ne g1 bn) g1 | exact rk_up_k (rk_ne hna bn) hna | exact rk_up_k (rk_ne id bn) id | exact rk_up_k (rk_ne jd bn) jd | exact e1 | exact g1 | exact hna | exact id | exact jd | assumption) rfl ?_
            refine rk_aload dT_concat_47 rfl ?_
            refine rk_getf fT_108 dT_concat_49 (by first | exact rk_up_k (rk_ne e1 bn) e1 | exact rk_up_k (rk_ne g1 bn) g1 | exact rk_up_k (rk_ne hna bn) hna | exact rk_up_k (rk_ne id bn) id | exact rk_up_k (rk_ne jd bn) jd | exact e1 | exact g1 | exact hna | exact id | exact jd | assumption) rfl ?_
            refine rk_icmp_ne 72 dT_concat_52 (by decide) (fun q_52 => (by exact absurd (jw.mpr hsame.2.1) q_52)) (fun q_52 => ?_)
            refine rk_aload_n dT_concat_55 rfl ?_
            refine rk_getf fT_129 dT_concat_56 (by first | exact rk_up_k (rk_ne e1 bn) e1 | exact rk_up_k (rk_ne g1 bn) g1 | exact rk_up_k (rk_ne hna bn) hna | exact rk_up_k (rk_ne id bn) id | exact rk_up_k (rk_ne jd bn) jd | exact e1 | exact g1 | exact hna | exact id | exact jd | assumption) rfl ?_
            refine rk_aload dT_concat_59 rfl ?_
            refine rk_getf fT_129 dT_concat_61 (by first | exact rk_up_k (rk_ne e1 bn) e1 | exact rk_up_k (rk_ne g1 bn) g1 | exact rk_up_k (rk_ne hna bn) hna | exact rk_up_k (rk_ne id bn) id | exact rk_up_k (rk_ne jd bn) jd | exact e1 | exact g1 | exact hna | exact id | exact jd | assumption) rfl ?_
            refine rk_dcmp dT_concat_64 ?_
            refine rk_if_ne 72 dT_concat_65 (by decide) (fun q_65 => (by exact absurd (js.mpr hsame.2.2) q_65)) (fun q_65 => ?_)
            refine rk_iconst (v := 1) dT_concat_68 (by decide) ?_
            refine rk_goto 73 dT_concat_69 (by decide) ?_
            refine rk_csI (c_T_require _ h) cT_125 dT_concat_73 rfl lT_require (Nat.le_of_ble_eq_true rfl) (Nat.le_of_ble_eq_true rfl) (Nat.le_of_ble_eq_true rfl) (Nat.le_of_ble_eq_true rfl) rfl ⟨(Nat.le_of_ble_eq_true rfl), (Nat.le_of_ble_eq_true rfl)⟩ (fun g_73 => absurd (by decide) g_73) (fun g_73 => ?_)
            refine rk_aload_n dT_concat_76 rfl ?_
            refine rk_getf fT_88 dT_concat_77 (by first | exact rk_up_k (rk_ne e1 bn) e1 | exact rk_up_k (rk_ne g1 bn) g1 | exact rk_up_k (rk_ne hna bn) hna | exact rk_up_k (rk_ne id bn) id | exact rk_up_k (rk_ne jd bn) jd | exact e1 | exact g1 | exact hna | exact id | exact jd | assumption) rfl ?_
            refine rk_aload dT_concat_80 rfl ?_
            refine rk_getf fT_88 dT_concat_82 (by first | exact rk_up_k (rk_ne e1 bn) e1 | exact rk_up_k (rk_ne g1 bn) g1 | exact rk_up_k (rk_ne hna bn) hna | exact rk_up_k (rk_ne id bn) id | exact rk_up_k (rk_ne jd bn) jd | exact e1 | exact g1 | exact hna | exact id | exact jd | assumption) rfl ?_
            refine rk_iadd dT_concat_85 ?_
            rw [nI_add]
            refine rk_istore dT_concat_86 (Nat.le_of_ble_eq_true rfl) ?_
            refine rk_iload dT_concat_88 rfl ?_
            refine rk_iconst (v := 1) dT_concat_90 (by decide) ?_
            refine rk_bipush (v := 8) dT_concat_91 (by decide) ?_
            refine rk_csI (c_T_requireBetween _ _ _ h) cT_35 dT_concat_93 rfl lT_requireBetween (Nat.le_of_ble_eq_true rfl) (Nat.le_of_ble_eq_true rfl) (Nat.le_of_ble_eq_true rfl) (Nat.le_of_ble_eq_true rfl) rfl ⟨(Nat.le_of_ble_eq_true rfl), (Nat.le_of_ble_eq_true rfl)⟩ (fun g_93 => absurd hbt g_93) (fun g_93 => ?_)
            refine rk_aload_n dT_concat_96 rfl ?_
            refine rk_cvI (c_T_requireRoom C.a (tR_of C s.ws s.out s.comp) (gR_of C.A X) h e1 g1) cT_54 dT_concat_97 rfl lT_requireRoom (Nat.le_of_ble_eq_true rfl) (Nat.le_of_ble_eq_true rfl) (Nat.le_of_ble_eq_true rfl) (Nat.le_of_ble_eq_true rfl) (by first | exact rk_up_k (rk_ne e1 bn) e1 | exact rk_up_k (rk_ne g1 bn) g1 | exact rk_up_k (rk_ne hna bn) hna | exact rk_up_k (rk_ne id bn) id | exact rk_up_k (rk_ne jd bn) jd | exact e1 | exact g1 | exact hna | exact id | exact jd | assumption) rfl ⟨(Nat.le_of_ble_eq_true rfl), (Nat.le_of_ble_eq_true rfl)⟩ (fun g_97 => absurd (hroom.mpr h14) g_97) (fun g_97 => ?_)
            refine rk_aload_n dT_concat_100 rfl ?_
            refine rk_new (fs := [.int 0, .int 0, .int 0, .int 0, .int 0, .int 0, .int 0, .double 0, .null, .int 0, .int 0, .double 0, .int 0, .int 0, .double 0, .double 0]) kN nT_57.1 nT_57.2.1 nT_57.2.2 (by intro j hj; rcases (show j = 0 ∨ j = 1 ∨ j = 2 ∨ j = 3 ∨ j = 4 ∨ j = 5 ∨ j = 6 ∨ j = 7 ∨ j = 8 ∨ j = 9 ∨ j = 10 ∨ j = 11 ∨ j = 12 ∨ j = 13 ∨ j = 14 ∨ j = 15 by omega) with rfl | rfl | rfl | rfl | rfl | rfl | rfl | rfl | rfl | rfl | rfl | rfl | rfl | rfl | rfl | rfl <;> rfl) dT_concat_101 (Nat.le_of_ble_eq_true rfl) (Nat.le_of_ble_eq_true rfl) (fun b bn => ?_)
            refine rk_dup dT_concat_104 rfl ?_
            refine rk_iconst (v := 5) dT_concat_105 (by decide) ?_
            refine rk_iload_n dT_concat_106 rfl ?_
            refine rk_iload_n dT_concat_107 rfl ?_
            refine rk_aload_n dT_concat_108 rfl ?_
            refine rk_getf fT_101 dT_concat_109 (by first | exact rk_up_k (rk_ne e1 bn) e1 | exact rk_up_k (rk_ne g1 bn) g1 | exact rk_up_k (rk_ne hna bn) hna | exact rk_up_k (rk_ne id bn) id | exact rk_up_k (rk_ne jd bn) jd | exact e1 | exact g1 | exact hna | exact id | exact jd | assumption) rfl ?_
            refine rk_aload_n dT_concat_112 rfl ?_
            refine rk_getf fT_108 dT_concat_113 (by first | exact rk_up_k (rk_ne e1 bn) e1 | exact rk_up_k (rk_ne g1 bn) g1 | exact rk_up_k (rk_ne hna bn) hna | exact rk_up_k (rk_ne id bn) id | exact rk_up_k (rk_ne jd bn) jd | exact e1 | exact g1 | exact hna | exact id | exact jd | assumption) rfl ?_
            refine rk_iload dT_concat_116 rfl ?_
            refine rk_aload_n dT_concat_118 rfl ?_
            refine rk_getf fT_129 dT_concat_119 (by first | exact rk_up_k (rk_ne e1 bn) e1 | exact rk_up_k (rk_ne g1 bn) g1 | exact rk_up_k (rk_ne hna bn) hna | exact rk_up_k (rk_ne id bn) id | exact rk_up_k (rk_ne jd bn) jd | exact e1 | exact g1 | exact hna | exact id | exact jd | assumption) rfl ?_
            refine rk_cnG (c_N_init b 5 (some i) (some j) (s.N i).h (s.N i).w ((s.N i).c + (s.N j).c) (s.N i).sc _ rk_up_s hm (by omega)) cT_59 dT_concat_122 rfl lN_init (Nat.le_of_ble_eq_true rfl) (Nat.le_of_ble_eq_true rfl) (Nat.le_of_ble_eq_true rfl) (Nat.le_of_ble_eq_true rfl) ?_
            rintro r_0 h_0 ⟨rfl, q, hq0, rfl⟩
            refine rk_nx0 ?_
            obtain ⟨hbq, hq⟩ := new_fr hq0
            rw [new_sw hbq]
            have hab : C.a ≠ b := rk_ne e1 bn
            have haq : C.a ≠ q := rk_ne e1 hq
            have hgb : C.gb ≠ b := rk_ne g1 bn
            have hgq : C.gb ≠ q := rk_ne g1 hq
            have hnb : C.A.na ≠ b := rk_ne hna bn
            have hnq : C.A.na ≠ q := rk_ne hna hq
            refine rk_cvV (c_T_keep C s b X _ _ (by simp only [rk_up_s, rk_up_n hab, rk_up_n haq, rk_up_n hgb, rk_up_n hgq, rk_up_n hnb, rk_up_n hnq]; exact e1) (by simp only [rk_up_s, rk_up_n hab, rk_up_n haq, rk_up_n hgb, rk_up_n hgq, rk_up_n hnb, rk_up_n hnq]; exact g1) (by simp only [rk_up_s, rk_up_n hab, rk_up_n haq, rk_up_n hgb, rk_up_n hgq, rk_up_n hnb, rk_up_n hnq]; exact hna) rk_up_s (by omega)) cT_62 dT_concat_125 rfl lT_keep (Nat.le_of_ble_eq_true rfl) (Nat.le_of_ble_eq_true rfl) (Nat.le_of_ble_eq_true rfl) (Nat.le_of_ble_eq_true rfl) (by first | (simp only [rk_up_s, rk_up_n hab, rk_up_n haq, rk_up_n hgb, rk_up_n hgq, rk_up_n hnb, rk_up_n hnq]; first | exact e1 | exact g1 | exact hna | rfl) | exact e1 | exact g1 | exact hna | assumption) ?_
            exact rk_iret rfl dT_concat_128 ⟨(Nat.le_of_ble_eq_true rfl), (Nat.le_of_ble_eq_true rfl)⟩ (by rw [eop, mk2_0 hgg h14]; exact ⟨⟨_, (P b q bn hq hbq).1, (P b q bn hq hbq).2⟩, by rw [hX]; rfl⟩)
        · have eo : opConcat s (nI i) (nI j) = (1, none, s) := by
            rw [eop]
            exact mk2_1 (fun w => hc (of_decide_eq_true (and2.mp w).2))
          refine rk_aload_n dT_concat_0 rfl ?_
          refine rk_iload_n dT_concat_1 rfl ?_
          refine rk_cvI (c_T_requireNode C.a C.gb (tR_of C s.ws s.out s.comp) (gR_of C.A X) (nI i) h e1 g1) cT_66 dT_concat_2 rfl lT_requireNode (Nat.le_of_ble_eq_true rfl) (Nat.le_of_ble_eq_true rfl) (Nat.le_of_ble_eq_true rfl) (Nat.le_of_ble_eq_true rfl) (by first | exact e1 | exact g1 | exact hna | exact id | exact jd | assumption) rfl ⟨(Nat.le_of_ble_eq_true rfl), (Nat.le_of_ble_eq_true rfl)⟩ (fun g_2 => absurd (show btw (nI i) 0 (nI X.n - 1) by rw [hX]; exact btB_iff.mp hi) g_2) (fun g_2 => ?_)
          refine rk_aload_n dT_concat_5 rfl ?_
          refine rk_iload_n dT_concat_6 rfl ?_
          refine rk_cvI (c_T_requireNode C.a C.gb (tR_of C s.ws s.out s.comp) (gR_of C.A X) (nI j) h e1 g1) cT_66 dT_concat_7 rfl lT_requireNode (Nat.le_of_ble_eq_true rfl) (Nat.le_of_ble_eq_true rfl) (Nat.le_of_ble_eq_true rfl) (Nat.le_of_ble_eq_true rfl) (by first | exact e1 | exact g1 | exact hna | exact id | exact jd | assumption) rfl ⟨(Nat.le_of_ble_eq_true rfl), (Nat.le_of_ble_eq_true rfl)⟩ (fun g_7 => absurd (show btw (nI j) 0 (nI X.n - 1) by rw [hX]; exact btB_iff.mp hj) g_7) (fun g_7 => ?_)
          refine rk_aload_n dT_concat_10 rfl ?_
          refine rk_getf fT_12 dT_concat_11 (by first | exact e1 | exact g1 | exact hna | exact id | exact jd | assumption) rfl ?_
          refine rk_getf fT_74 dT_concat_14 (by first | exact e1 | exact g1 | exact hna | exact id | exact jd | assumption) rfl ?_
          refine rk_iload_n dT_concat_17 rfl ?_
          refine rk_aald rfl dT_concat_18 (by first | exact e1 | exact g1 | exact hna | exact id | exact jd | assumption) (vp_in_nI i14 (by omega)) (v_nd (by omega) iq) ?_
          refine rk_astore_n dT_concat_19 (Nat.le_of_ble_eq_true rfl) ?_
          refine rk_aload_n dT_concat_20 rfl ?_
          refine rk_getf fT_12 dT_concat_21 (by first | exact e1 | exact g1 | exact hna | exact id | exact jd | assumption) rfl ?_
          refine rk_getf fT_74 dT_concat_24 (by first | exact e1 | exact g1 | exact hna | exact id | exact jd | assumption) rfl ?_
          refine rk_iload_n dT_concat_27 rfl ?_
          refine rk_aald rfl dT_concat_28 (by first | exact e1 | exact g1 | exact hna | exact id | exact jd | assumption) (vp_in_nI j14 (by omega)) (v_nd (by omega) jq) ?_
          refine rk_astore dT_concat_29 (Nat.le_of_ble_eq_true rfl) ?_
          refine rk_aload_n dT_concat_31 rfl ?_
          refine rk_getf fT_101 dT_concat_32 (by first | exact e1 | exact g1 | exact hna | exact id | exact jd | assumption) rfl ?_
          refine rk_aload dT_concat_35 rfl ?_
          refine rk_getf fT_101 dT_concat_37 (by first | exact e1 | exact g1 | exact hna | exact id | exact jd | assumption) rfl ?_
          refine rk_icmp_ne 72 dT_concat_40 (by decide) (fun q_40 => (by exact absurd (jh.mpr hsame.1) q_40)) (fun q_40 => ?_)
          refine rk_aload_n dT_concat_43 rfl ?_
          refine rk_getf fT_108 dT_concat_44 (by first | exact e1 | exact g1 | exact hna | exact id | exact jd | assumption) rfl ?_
          refine rk_aload dT_concat_47 rfl ?_
          refine rk_getf fT_108 dT_concat_49 (by first | exact e1 | exact g1 | exact hna | exact id | exact jd | assumption) rfl ?_
          refine rk_icmp_ne 72 dT_concat_52 (by decide) (fun q_52 => (by exact absurd (jw.mpr hsame.2.1) q_52)) (fun q_52 => ?_)
          refine rk_aload_n dT_concat_55 rfl ?_
          refine rk_getf fT_129 dT_concat_56 (by first | exact e1 | exact g1 | exact hna | exact id | exact jd | assumption) rfl ?_
          refine rk_aload dT_concat_59 rfl ?_
          refine rk_getf fT_129 dT_concat_61 (by first | exact e1 | exact g1 | exact hna | exact id | exact jd | assumption) rfl ?_
          refine rk_dcmp dT_concat_64 ?_
          refine rk_if_ne 72 dT_concat_65 (by decide) (fun q_65 => (by exact absurd (js.mpr hsame.2.2) q_65)) (fun q_65 => ?_)
          refine rk_iconst (v := 1) dT_concat_68 (by decide) ?_
          refine rk_goto 73 dT_concat_69 (by decide) ?_
          refine rk_csI (c_T_require _ h) cT_125 dT_concat_73 rfl lT_require (Nat.le_of_ble_eq_true rfl) (Nat.le_of_ble_eq_true rfl) (Nat.le_of_ble_eq_true rfl) (Nat.le_of_ble_eq_true rfl) rfl ⟨(Nat.le_of_ble_eq_true rfl), (Nat.le_of_ble_eq_true rfl)⟩ (fun g_73 => absurd (by decide) g_73) (fun g_73 => ?_)
          refine rk_aload_n dT_concat_76 rfl ?_
          refine rk_getf fT_88 dT_concat_77 (by first | exact e1 | exact g1 | exact hna | exact id | exact jd | assumption) rfl ?_
          refine rk_aload dT_concat_80 rfl ?_
          refine rk_getf fT_88 dT_concat_82 (by first | exact e1 | exact g1 | exact hna | exact id | exact jd | assumption) rfl ?_
          refine rk_iadd dT_concat_85 ?_
          rw [nI_add]
          refine rk_istore dT_concat_86 (Nat.le_of_ble_eq_true rfl) ?_
          refine rk_iload dT_concat_88 rfl ?_
          refine rk_iconst (v := 1) dT_concat_90 (by decide) ?_
          refine rk_bipush (v := 8) dT_concat_91 (by decide) ?_
          refine rk_csI (c_T_requireBetween _ _ _ h) cT_35 dT_concat_93 rfl lT_requireBetween (Nat.le_of_ble_eq_true rfl) (Nat.le_of_ble_eq_true rfl) (Nat.le_of_ble_eq_true rfl) (Nat.le_of_ble_eq_true rfl) rfl ⟨(Nat.le_of_ble_eq_true rfl), (Nat.le_of_ble_eq_true rfl)⟩ (fun g_93 => (by rw [eo]; exact cPost.same k rfl rfl)) (fun g_93 => ?_)
          exact absurd ((nI_leI (b := 8) (by omega) (by omega)).mp g_93.2) hc
      · have eo : opConcat s (nI i) (nI j) = (1, none, s) := by
          rw [eop]
          exact mk2_1 (fun w => hsame ⟨of_decide_eq_true (and2.mp (and2.mp (and2.mp (and2.mp w).1).2).1).1, of_decide_eq_true (and2.mp (and2.mp (and2.mp (and2.mp w).1).2).1).2, of_decide_eq_true (and2.mp (and2.mp (and2.mp w).1).2).2⟩)
        refine rk_aload_n dT_concat_0 rfl ?_
        refine rk_iload_n dT_concat_1 rfl ?_
        refine rk_cvI (c_T_requireNode C.a C.gb (tR_of C s.ws s.out s.comp) (gR_of C.A X) (nI i) h e1 g1) cT_66 dT_concat_2 rfl lT_requireNode (Nat.le_of_ble_eq_true rfl) (Nat.le_of_ble_eq_true rfl) (Nat.le_of_ble_eq_true rfl) (Nat.le_of_ble_eq_true rfl) (by first | exact e1 | exact g1 | exact hna | exact id | exact jd | assumption) rfl ⟨(Nat.le_of_ble_eq_true rfl), (Nat.le_of_ble_eq_true rfl)⟩ (fun g_2 => absurd (show btw (nI i) 0 (nI X.n - 1) by rw [hX]; exact btB_iff.mp hi) g_2) (fun g_2 => ?_)
        refine rk_aload_n dT_concat_5 rfl ?_
        refine rk_iload_n dT_concat_6 rfl ?_
        refine rk_cvI (c_T_requireNode C.a C.gb (tR_of C s.ws s.out s.comp) (gR_of C.A X) (nI j) h e1 g1) cT_66 dT_concat_7 rfl lT_requireNode (Nat.le_of_ble_eq_true rfl) (Nat.le_of_ble_eq_true rfl) (Nat.le_of_ble_eq_true rfl) (Nat.le_of_ble_eq_true rfl) (by first | exact e1 | exact g1 | exact hna | exact id | exact jd | assumption) rfl ⟨(Nat.le_of_ble_eq_true rfl), (Nat.le_of_ble_eq_true rfl)⟩ (fun g_7 => absurd (show btw (nI j) 0 (nI X.n - 1) by rw [hX]; exact btB_iff.mp hj) g_7) (fun g_7 => ?_)
        refine rk_aload_n dT_concat_10 rfl ?_
        refine rk_getf fT_12 dT_concat_11 (by first | exact e1 | exact g1 | exact hna | exact id | exact jd | assumption) rfl ?_
        refine rk_getf fT_74 dT_concat_14 (by first | exact e1 | exact g1 | exact hna | exact id | exact jd | assumption) rfl ?_
        refine rk_iload_n dT_concat_17 rfl ?_
        refine rk_aald rfl dT_concat_18 (by first | exact e1 | exact g1 | exact hna | exact id | exact jd | assumption) (vp_in_nI i14 (by omega)) (v_nd (by omega) iq) ?_
        refine rk_astore_n dT_concat_19 (Nat.le_of_ble_eq_true rfl) ?_
        refine rk_aload_n dT_concat_20 rfl ?_
        refine rk_getf fT_12 dT_concat_21 (by first | exact e1 | exact g1 | exact hna | exact id | exact jd | assumption) rfl ?_
        refine rk_getf fT_74 dT_concat_24 (by first | exact e1 | exact g1 | exact hna | exact id | exact jd | assumption) rfl ?_
        refine rk_iload_n dT_concat_27 rfl ?_
        refine rk_aald rfl dT_concat_28 (by first | exact e1 | exact g1 | exact hna | exact id | exact jd | assumption) (vp_in_nI j14 (by omega)) (v_nd (by omega) jq) ?_
        refine rk_astore dT_concat_29 (Nat.le_of_ble_eq_true rfl) ?_
        refine rk_aload_n dT_concat_31 rfl ?_
        refine rk_getf fT_101 dT_concat_32 (by first | exact e1 | exact g1 | exact hna | exact id | exact jd | assumption) rfl ?_
        refine rk_aload dT_concat_35 rfl ?_
        refine rk_getf fT_101 dT_concat_37 (by first | exact e1 | exact g1 | exact hna | exact id | exact jd | assumption) rfl ?_
        refine rk_icmp_ne 72 dT_concat_40 (by decide) (fun q_40 => ?_) (fun q_40 => ?_)
        · refine rk_iconst (v := 0) dT_concat_72 (by decide) ?_
          refine rk_csI (c_T_require _ h) cT_125 dT_concat_73 rfl lT_require (Nat.le_of_ble_eq_true rfl) (Nat.le_of_ble_eq_true rfl) (Nat.le_of_ble_eq_true rfl) (Nat.le_of_ble_eq_true rfl) rfl ⟨(Nat.le_of_ble_eq_true rfl), (Nat.le_of_ble_eq_true rfl)⟩ (fun g_73 => (by rw [eo]; exact cPost.same k rfl rfl)) (fun g_73 => ?_)
          exact absurd rfl g_73
        · refine rk_aload_n dT_concat_43 rfl ?_
          refine rk_getf fT_108 dT_concat_44 (by first | exact e1 | exact g1 | exact hna | exact id | exact jd | assumption) rfl ?_
          refine rk_aload dT_concat_47 rfl ?_
          refine rk_getf fT_108 dT_concat_49 (by first | exact e1 | exact g1 | exact hna | exact id | exact jd | assumption) rfl ?_
          refine rk_icmp_ne 72 dT_concat_52 (by decide) (fun q_52 => ?_) (fun q_52 => ?_)
          · refine rk_iconst (v := 0) dT_concat_72 (by decide) ?_
            refine rk_csI (c_T_require _ h) cT_125 dT_concat_73 rfl lT_require (Nat.le_of_ble_eq_true rfl) (Nat.le_of_ble_eq_true rfl) (Nat.le_of_ble_eq_true rfl) (Nat.le_of_ble_eq_true rfl) rfl ⟨(Nat.le_of_ble_eq_true rfl), (Nat.le_of_ble_eq_true rfl)⟩ (fun g_73 => (by rw [eo]; exact cPost.same k rfl rfl)) (fun g_73 => ?_)
            exact absurd rfl g_73
          · refine rk_aload_n dT_concat_55 rfl ?_
            refine rk_getf fT_129 dT_concat_56 (by first | exact e1 | exact g1 | exact hna | exact id | exact jd | assumption) rfl ?_
            refine rk_aload dT_concat_59 rfl ?_
            refine rk_getf fT_129 dT_concat_61 (by first | exact e1 | exact g1 | exact hna | exact id | exact jd | assumption) rfl ?_
            refine rk_dcmp dT_concat_64 ?_
            refine rk_if_ne 72 dT_concat_65 (by decide) (fun q_65 => ?_) (fun q_65 => ?_)
            · refine rk_iconst (v := 0) dT_concat_72 (by decide) ?_
              refine rk_csI (c_T_require _ h) cT_125 dT_concat_73 rfl lT_require (Nat.le_of_ble_eq_true rfl) (Nat.le_of_ble_eq_true rfl) (Nat.le_of_ble_eq_true rfl) (Nat.le_of_ble_eq_true rfl) rfl ⟨(Nat.le_of_ble_eq_true rfl), (Nat.le_of_ble_eq_true rfl)⟩ (fun g_73 => (by rw [eo]; exact cPost.same k rfl rfl)) (fun g_73 => ?_)
              exact absurd rfl g_73
            · exact absurd ⟨jh.mp q_40, jw.mp q_52, js.mp q_65⟩ hsame
    · have eo : opConcat s (nI i) q0 = (1, none, s) := mk2_1 (fun w => hj (and2.mp (and2.mp (and2.mp w).1).1).2)
      refine rk_aload_n dT_concat_0 rfl ?_
      refine rk_iload_n dT_concat_1 rfl ?_
      refine rk_cvI (c_T_requireNode C.a C.gb (tR_of C s.ws s.out s.comp) (gR_of C.A X) (nI i) h e1 g1) cT_66 dT_concat_2 rfl lT_requireNode (Nat.le_of_ble_eq_true rfl) (Nat.le_of_ble_eq_true rfl) (Nat.le_of_ble_eq_true rfl) (Nat.le_of_ble_eq_true rfl) (by first | exact e1 | exact g1 | assumption) rfl ⟨(Nat.le_of_ble_eq_true rfl), (Nat.le_of_ble_eq_true rfl)⟩ (fun g_2 => absurd (show btw (nI i) 0 (nI X.n - 1) by rw [hX]; exact btB_iff.mp hi) g_2) (fun g_2 => ?_)
      refine rk_aload_n dT_concat_5 rfl ?_
      refine rk_iload_n dT_concat_6 rfl ?_
      refine rk_cvI (c_T_requireNode C.a C.gb (tR_of C s.ws s.out s.comp) (gR_of C.A X) q0 h e1 g1) cT_66 dT_concat_7 rfl lT_requireNode (Nat.le_of_ble_eq_true rfl) (Nat.le_of_ble_eq_true rfl) (Nat.le_of_ble_eq_true rfl) (Nat.le_of_ble_eq_true rfl) (by first | exact e1 | exact g1 | assumption) rfl ⟨(Nat.le_of_ble_eq_true rfl), (Nat.le_of_ble_eq_true rfl)⟩ (fun g_7 => (by rw [eo]; exact cPost.same k rfl rfl)) (fun g_7 => ?_)
      exact absurd (btB_iff.mpr (show btw q0 0 (nI s.n - 1) by rw [← hX]; exact g_7)) hj
  · have eo : opConcat s p q0 = (1, none, s) := mk2_1 (fun w => hi (and2.mp (and2.mp (and2.mp w).1).1).1)
    refine rk_aload_n dT_concat_0 rfl ?_
    refine rk_iload_n dT_concat_1 rfl ?_
    refine rk_cvI (c_T_requireNode C.a C.gb (tR_of C s.ws s.out s.comp) (gR_of C.A X) p h e1 g1) cT_66 dT_concat_2 rfl lT_requireNode (Nat.le_of_ble_eq_true rfl) (Nat.le_of_ble_eq_true rfl) (Nat.le_of_ble_eq_true rfl) (Nat.le_of_ble_eq_true rfl) (by first | exact e1 | exact g1 | assumption) rfl ⟨(Nat.le_of_ble_eq_true rfl), (Nat.le_of_ble_eq_true rfl)⟩ (fun g_2 => (by rw [eo]; exact cPost.same k rfl rfl)) (fun g_2 => ?_)
    exact absurd (btB_iff.mpr (show btw p 0 (nI s.n - 1) by rw [← hX]; exact g_2)) hi
theorem c_T_pool (C : cT) (s : aS) (p code avg : Int32) (h : rk_H) (k : cOK h C s) (ok : aOK s) : rk_Con mT_pool (9, 121, 6, 168) [.ref C.a, .int p, .int code, .int avg] h (cPost h C s.n (opPool s p code avg) (exL [x_IA, x_IS])) := by
  have e1 := k.1.1
  obtain ⟨X, hX, hG⟩ := k.1.2.2.1.eq
  have gI : gIs h C.gb C.A X := by
    have kg := k.1.2.2.1
    rw [hG]
    exact ⟨kg.gb, kg.gsf, kg.gst, kg.gsp, kg.gpl, kg.gla⟩
  have g1 := gI.1
  have hna := k.1.2.2.1.2.1.1
  have hn := ok.1.1
  have hroom := room_n hX hn
  refine rk_Con.of [some (.ref C.a), some (.int p), some (.int code), some (.int avg), none, none, none, none] rfl (Nat.le_of_ble_eq_true rfl) (by decide +kernel) ?_
  by_cases hi : ndB s p = true
  · obtain ⟨i, il, rfl⟩ := ndB_of hn hi
    obtain ⟨iq, id⟩ := k.1.2.2.1.2.1.2 i il
    have i14 : i < 14 := by omega
    have ib := ok.1.2.1.bd i il
    have ip := (ok.1.2.1 i il).1.2.1
    have ic := ib.ce
    have it : tN (nI i) = i := tN_I (by omega)
    have h4 := ib.1.2.1
    have w4 := ib.1.2.2.1
    by_cases hc : btw code 0 11
    · obtain ⟨co, hco, rfl⟩ := btwK (m := 11) rfl (by omega) hc
      have wf1 := w_fits_n (co := co) (l := (s.N i).h) (by omega) (by omega)
      have wf2 := w_fits_n (co := co) (l := (s.N i).w) (by omega) (by omega)
      by_cases hf : (z_fit co (s.N i).h && z_fit co (s.N i).w) = true
      · obtain ⟨f1, f2⟩ := and2.mp hf
        have hgg : (ndB s (nI i) && btB (nI co) 0 11 && (z_fit co (s.N i).h && z_fit co (s.N i).w)) = true := by rw [hi, btB_iff.mpr hc, hf]; rfl
        have hfit : w_fits (nI co) (nMi s.N C.fe i).h = true ∧ w_fits (nI co) (nMi s.N C.fe i).w = true := ⟨wf1.trans f1, wf2.trans f2⟩
        have pl1 := z_plc_ok (co := co) ip.1 f1
        have pl2 := z_plc_ok (co := co) ip.2.1 f2
        have hm : z_plc co (s.N i).h * z_plc co (s.N i).w * (s.N i).c ≤ 4 * 4 * 8 := Nat.mul_le_mul (Nat.mul_le_mul (by omega) (by omega)) ib.1.2.2.2.1
        have eo2 : s.n = 14 → opPool s (nI i) (nI co) avg = (2, none, s) := by
          intro h14
          unfold opPool
          rw [it, tN_I (show co < 2 ^ 31 by omega)]
          exact mk2_2 hgg h14
        by_cases h14 : s.n = 14
        · refine rk_aload_n dT_pool_0 rfl ?_
          refine rk_iload_n dT_pool_1 rfl ?_
          refine rk_cvI (c_T_requireNode C.a C.gb (tR_of C s.ws s.out s.comp) (gR_of C.A X) (nI i) h e1 g1) cT_66 dT_pool_2 rfl lT_requireNode (Nat.le_of_ble_eq_true rfl) (Nat.le_of_ble_eq_true rfl) (Nat.le_of_ble_eq_true rfl) (Nat.le_of_ble_eq_true rfl) (by first | exact e1 | exact g1 | exact hna | exact id | assumption) rfl ⟨(Nat.le_of_ble_eq_true rfl), (Nat.le_of_ble_eq_true rfl)⟩ (fun g_2 => absurd (show btw (nI i) 0 (nI X.n - 1) by rw [hX]; exact btB_iff.mp hi) g_2) (fun g_2 => ?_)
          refine rk_iload_n dT_pool_5 rfl ?_
          refine rk_iconst (v := 0) dT_pool_6 (by decide) ?_
          refine rk_bipush (v := 11) dT_pool_7 (by decide) ?_
          refine rk_csI (c_T_requireBetween _ _ _ h) cT_35 dT_pool_9 rfl lT_requireBetween (Nat.le_of_ble_eq_true rfl) (Nat.le_of_ble_eq_true rfl) (Nat.le_of_ble_eq_true rfl) (Nat.le_of_ble_eq_true rfl) rfl ⟨(Nat.le_of_ble_eq_true rfl), (Nat.le_of_ble_eq_true rfl)⟩ (fun g_9 => absurd hc g_9) (fun g_9 => ?_)
          refine rk_aload_n dT_pool_12 rfl ?_
          refine rk_getf fT_12 dT_pool_13 (by first | exact e1 | exact g1 | exact hna | exact id | assumption) rfl ?_
          refine rk_getf fT_74 dT_pool_16 (by first | exact e1 | exact g1 | exact hna | exact id | assumption) rfl ?_
          refine rk_iload_n dT_pool_19 rfl ?_
          refine rk_aald rfl dT_pool_20 (by first | exact e1 | exact g1 | exact hna | exact id | assumption) (vp_in_nI i14 (by omega)) (v_nd (by omega) iq) ?_
          refine rk_astore dT_pool_21 (Nat.le_of_ble_eq_true rfl) ?_
          refine rk_aload dT_pool_23 rfl ?_
          refine rk_iload_n dT_pool_25 rfl ?_
          refine rk_csI (c_T_requireWindowFits (C.ad i) (nMi s.N C.fe i) _ h id) cT_78 dT_pool_26 rfl lT_requireWindowFits (Nat.le_of_ble_eq_true rfl) (Nat.le_of_ble_eq_true rfl) (Nat.le_of_ble_eq_true rfl) (Nat.le_of_ble_eq_true rfl) rfl ⟨(Nat.le_of_ble_eq_true rfl), (Nat.le_of_ble_eq_true rfl)⟩ (fun g_26 => absurd hfit g_26) (fun g_26 => ?_)
          refine rk_aload_n dT_pool_29 rfl ?_
          refine rk_cvI (c_T_requireRoom C.a (tR_of C s.ws s.out s.comp) (gR_of C.A X) h e1 g1) cT_54 dT_pool_30 rfl lT_requireRoom (Nat.le_of_ble_eq_true rfl) (Nat.le_of_ble_eq_true rfl) (Nat.le_of_ble_eq_true rfl) (Nat.le_of_ble_eq_true rfl) (by first | exact e1 | exact g1 | exact hna | exact id | assumption) rfl ⟨(Nat.le_of_ble_eq_true rfl), (Nat.le_of_ble_eq_true rfl)⟩ (fun g_30 => (by rw [eo2 h14]; exact cPost.same k rfl rfl)) (fun g_30 => ?_)
          exact absurd h14 (hroom.mp g_30)
        · by_cases hav : avg = 0
          · have eop : opPool s (nI i) (nI co) avg = mk2 s (ndB s (nI i) && btB (nI co) 0 11 && (z_fit co (s.N i).h && z_fit co (s.N i).w)) (((7, some i, none), (z_plc co (s.N i).h, z_plc co (s.N i).w, (s.N i).c), ((s.N i).sc, 0), (co, 0), (0, 0)) : aN) := by
              unfold opPool
              rw [it, tN_I (show co < 2 ^ 31 by omega), if_pos hav]
            have P := fun (b q : Nat) (bn : h b = none) (hq : h q = none) (hbq : b ≠ q) => k.push ok.1.2.1.inn (by omega) X hX gI b q (((7, some i, none), (z_plc co (s.N i).h, z_plc co (s.N i).w, (s.N i).c), ((s.N i).sc, 0), (co, 0), (0, 0)) : aN) bn hq hbq hm
            have hra : ratA (updN s.N s.n (((7, some i, none), (z_plc co (s.N i).h, z_plc co (s.N i).w, (s.N i).c), ((s.N i).sc, 0), (co, 0), (0, 0)) : aN)) s.n = 0 := by
              unfold ratA
              rw [show updN s.N s.n (((7, some i, none), (z_plc co (s.N i).h, z_plc co (s.N i).w, (s.N i).c), ((s.N i).sc, 0), (co, 0), (0, 0)) : aN) s.n = (((7, some i, none), (z_plc co (s.N i).h, z_plc co (s.N i).w, (s.N i).c), ((s.N i).sc, 0), (co, 0), (0, 0)) : aN) from if_pos rfl]
              rfl
            have hrb : ratB (updN s.N s.n (((7, some i, none), (z_plc co (s.N i).h, z_plc co (s.N i).w, (s.N i).c), ((s.N i).sc, 0), (co, 0), (0, 0)) : aN)) s.n = 0 := by
              unfold ratB
              rw [show updN s.N s.n (((7, some i, none), (z_plc co (s.N i).h, z_plc co (s.N i).w, (s.N i).c), ((s.N i).sc, 0), (co, 0), (0, 0)) : aN) s.n = (((7, some i, none), (z_plc co (s.N i).h, z_plc co (s.N i).w, (s.N i).c), ((s.N i).sc, 0), (co, 0), (0, 0)) : aN) from if_pos rfl]
              rfl
            rw [hra, hrb] at P
            refine rk_aload_n dT_pool_0 rfl ?_
            refine rk_iload_n dT_pool_1 rfl ?_
            refine rk_cvI (c_T_requireNode C.a C.gb (tR_of C s.ws s.out s.comp) (gR_of C.A X) (nI i) h e1 g1) cT_66 dT_pool_2 rfl lT_requireNode (Nat.le_of_ble_eq_true rfl) (Nat.le_of_ble_eq_true rfl) (Nat.le_of_ble_eq_true rfl) (Nat.le_of_ble_eq_true rfl) (by first | exact rk_up_k (rk_ne e1 bn) e1 | exact rk_up_k (rk_ne g1 bn) g1 | exact rk_up_k (rk_ne hna bn) hna | exact rk_up_k (rk_ne id bn) id | exact e1 | exact g1 | exact hna | exact id | assumption) rfl ⟨(Nat.le_of_ble_eq_true rfl), (Nat.le_of_ble_eq_true rfl)⟩ (fun g_2 => absurd (show btw (nI i) 0 (nI X.n - 1) by rw [hX]; exact btB_iff.mp hi) g_2) (fun g_2 => ?_)
            refine rk_iload_n dT_pool_5 rfl ?_
            refine rk_iconst (v := 0) dT_pool_6 (by decide) ?_
            refine rk_bipush (v := 11) dT_pool_7 (by decide) ?_
            refine rk_csI (c_T_requireBetween _ _ _ h) cT_35 dT_pool_9 rfl lT_requireBetween (Nat.le_of_ble_eq_true rfl) (Nat.le_of_ble_eq_true rfl) (Nat.le_of_ble_eq_true rfl) (Nat.le_of_ble_eq_true rfl) rfl ⟨(Nat.le_of_ble_eq_true rfl), (Nat.le_of_ble_eq_true rfl)⟩ (fun g_9 => absurd hc g_9) (fun g_9 => ?_)
            refine rk_aload_n dT_pool_12 rfl ?_
            refine rk_getf fT_12 dT_pool_13 (by first | exact rk_up_k (rk_ne e1 bn) e1 | exact rk_up_k (rk_ne g1 bn) g1 | exact rk_up_k (rk_ne hna bn) hna | exact rk_up_k (rk_ne id bn) id | exact e1 | exact g1 | exact hna | exact id | assumption) rfl ?_
            refine rk_getf fT_74 dT_pool_16 (by first | exact rk_up_k (rk_ne e1 bn) e1 | exact rk_up_k (rk_ne g1 bn) g1 | exact rk_up_k (rk_ne hna bn) hna | exact rk_up_k (rk_ne id bn) id | exact e1 | exact g1 | exact hna | exact id | assumption) rfl ?_
            refine rk_iload_n dT_pool_19 rfl ?_
            refine rk_aald rfl dT_pool_20 (by first | exact rk_up_k (rk_ne e1 bn) e1 | exact rk_up_k (rk_ne g1 bn) g1 | exact rk_up_k (rk_ne hna bn) hna | exact rk_up_k (rk_ne id bn) id | exact e1 | exact g1 | exact hna | exact id | assumption) (vp_in_nI i14 (by omega)) (v_nd (by omega) iq) ?_
            refine rk_astore dT_pool_21 (Nat.le_of_ble_eq_true rfl) ?_
            refine rk_aload dT_pool_23 rfl ?_
            refine rk_iload_n dT_pool_25 rfl ?_
            refine rk_csI (c_T_requireWindowFits (C.ad i) (nMi s.N C.fe i) _ h id) cT_78 dT_pool_26 rfl lT_requireWindowFits (Nat.le_of_ble_eq_true rfl) (Nat.le_of_ble_eq_true rfl) (Nat.le_of_ble_eq_true rfl) (Nat.le_of_ble_eq_true rfl) rfl ⟨(Nat.le_of_ble_eq_true rfl), (Nat.le_of_ble_eq_true rfl)⟩ (fun g_26 => absurd hfit g_26) (fun g_26 => ?_)
            refine rk_aload_n dT_pool_29 rfl ?_
            refine rk_cvI (c_T_requireRoom C.a (tR_of C s.ws s.out s.comp) (gR_of C.A X) h e1 g1) cT_54 dT_pool_30 rfl lT_requireRoom (Nat.le_of_ble_eq_true rfl) (Nat.le_of_ble_eq_true rfl) (Nat.le_of_ble_eq_true rfl) (Nat.le_of_ble_eq_true rfl) (by first | exact rk_up_k (rk_ne e1 bn) e1 | exact rk_up_k (rk_ne g1 bn) g1 | exact rk_up_k (rk_ne hna bn) hna | exact rk_up_k (rk_ne id bn) id | exact e1 | exact g1 | exact hna | exact id | assumption) rfl ⟨(Nat.le_of_ble_eq_true rfl), (Nat.le_of_ble_eq_true rfl)⟩ (fun g_30 => absurd (hroom.mpr h14) g_30) (fun g_30 => ?_)
            refine rk_lv [some (.ref C.a), some (.int (nI i)), some (.int (nI co)), some (.int avg), some (.ref (C.ad i)), none, none, none] ⟨rfl, rfl, rfl, rfl, rfl, trivial⟩ ?_
            refine rk_iload_n dT_pool_33 rfl ?_
            refine rk_aload dT_pool_34 rfl ?_
            refine rk_getf fT_101 dT_pool_36 (by first | exact rk_up_k (rk_ne e1 bn) e1 | exact rk_up_k (rk_ne g1 bn) g1 | exact rk_up_k (rk_ne hna bn) hna | exact rk_up_k (rk_ne id bn) id | exact e1 | exact g1 | exact hna | exact id | assumption) rfl ?_
            refine rk_csV (c_W_placesOf (nI co) (nI (s.N i).h) _) cT_104 dT_pool_39 rfl lW_placesOf (Nat.le_of_ble_eq_true rfl) (Nat.le_of_ble_eq_true rfl) (Nat.le_of_ble_eq_true rfl) (Nat.le_of_ble_eq_true rfl) ?_
            rw [w_plc_n (by omega) (by omega) ip.1 f1]
            refine rk_istore dT_pool_42 (Nat.le_of_ble_eq_true rfl) ?_
            refine rk_iload_n dT_pool_44 rfl ?_
            refine rk_aload dT_pool_45 rfl ?_
            refine rk_getf fT_108 dT_pool_47 (by first | exact rk_up_k (rk_ne e1 bn) e1 | exact rk_up_k (rk_ne g1 bn) g1 | exact rk_up_k (rk_ne hna bn) hna | exact rk_up_k (rk_ne id bn) id | exact e1 | exact g1 | exact hna | exact id | assumption) rfl ?_
            refine rk_csV (c_W_placesOf (nI co) (nI (s.N i).w) _) cT_104 dT_pool_50 rfl lW_placesOf (Nat.le_of_ble_eq_true rfl) (Nat.le_of_ble_eq_true rfl) (Nat.le_of_ble_eq_true rfl) (Nat.le_of_ble_eq_true rfl) ?_
            rw [w_plc_n (by omega) (by omega) ip.2.1 f2]
            refine rk_istore dT_pool_53 (Nat.le_of_ble_eq_true rfl) ?_
            refine rk_lv [some (.ref C.a), some (.int (nI i)), some (.int (nI co)), some (.int avg), some (.ref (C.ad i)), some (.int (nI (z_plc co (s.N i).h))), some (.int (nI (z_plc co (s.N i).w))), none] ⟨rfl, rfl, rfl, rfl, rfl, rfl, rfl, trivial⟩ ?_
            refine rk_new (fs := [.int 0, .int 0, .int 0, .int 0, .int 0, .int 0, .int 0, .double 0, .null, .int 0, .int 0, .double 0, .int 0, .int 0, .double 0, .double 0]) kN nT_57.1 nT_57.2.1 nT_57.2.2 (by intro j hj; rcases (show j = 0 ∨ j = 1 ∨ j = 2 ∨ j = 3 ∨ j = 4 ∨ j = 5 ∨ j = 6 ∨ j = 7 ∨ j = 8 ∨ j = 9 ∨ j = 10 ∨ j = 11 ∨ j = 12 ∨ j = 13 ∨ j = 14 ∨ j = 15 by omega) with rfl | rfl | rfl | rfl | rfl | rfl | rfl | rfl | rfl | rfl | rfl | rfl | rfl | rfl | rfl | rfl <;> rfl) dT_pool_55 (Nat.le_of_ble_eq_true rfl) (Nat.le_of_ble_eq_true rfl) (fun b bn => ?_)
            refine rk_dup dT_pool_58 rfl ?_
            refine rk_iload_n dT_pool_59 rfl ?_
            refine rk_if_eq 68 dT_pool_60 (by decide) (fun q_60 => ?_) (fun q_60 => (by exact absurd hav q_60))
            refine rk_bipush (v := 7) dT_pool_68 (by decide) ?_
            refine rk_iload_n dT_pool_70 rfl ?_
            refine rk_iconst (v := -1) dT_pool_71 (by decide) ?_
            refine rk_iload dT_pool_72 rfl ?_
            refine rk_iload dT_pool_74 rfl ?_
            refine rk_aload dT_pool_76 rfl ?_
            refine rk_getf fT_88 dT_pool_78 (by first | exact rk_up_k (rk_ne e1 bn) e1 | exact rk_up_k (rk_ne g1 bn) g1 | exact rk_up_k (rk_ne hna bn) hna | exact rk_up_k (rk_ne id bn) id | exact e1 | exact g1 | exact hna | exact id | assumption) rfl ?_
            refine rk_aload dT_pool_81 rfl ?_
            refine rk_getf fT_129 dT_pool_83 (by first | exact rk_up_k (rk_ne e1 bn) e1 | exact rk_up_k (rk_ne g1 bn) g1 | exact rk_up_k (rk_ne hna bn) hna | exact rk_up_k (rk_ne id bn) id | exact e1 | exact g1 | exact hna | exact id | assumption) rfl ?_
            refine rk_cnG (c_N_init b 7 (some i) none (z_plc co (s.N i).h) (z_plc co (s.N i).w) (s.N i).c (s.N i).sc _ rk_up_s hm (by omega)) cT_59 dT_pool_86 rfl lN_init (Nat.le_of_ble_eq_true rfl) (Nat.le_of_ble_eq_true rfl) (Nat.le_of_ble_eq_true rfl) (Nat.le_of_ble_eq_true rfl) ?_
            rintro r_0 h_0 ⟨rfl, q, hq0, rfl⟩
            refine rk_nx0 ?_
            obtain ⟨hbq, hq⟩ := new_fr hq0
            rw [new_sw hbq]
            have hab : C.a ≠ b := rk_ne e1 bn
            have haq : C.a ≠ q := rk_ne e1 hq
            have hgb : C.gb ≠ b := rk_ne g1 bn
            have hgq : C.gb ≠ q := rk_ne g1 hq
            have hnb : C.A.na ≠ b := rk_ne hna bn
            have hnq : C.A.na ≠ q := rk_ne hna hq
            refine rk_astore dT_pool_89 (Nat.le_of_ble_eq_true rfl) ?_
            refine rk_aload dT_pool_91 rfl ?_
            refine rk_iload_n dT_pool_93 rfl ?_
            refine rk_putf pT_111 dT_pool_94 (by first | (simp only [rk_up_s, rk_up_n hab, rk_up_n haq, rk_up_n hgb, rk_up_n hgq, rk_up_n hnb, rk_up_n hnq]; first | exact e1 | exact g1 | exact hna | rfl) | exact e1 | exact g1 | exact hna | assumption) (Nat.le_of_ble_eq_true rfl) rfl rfl ?_
            rw [rk_up_up]
            refine rk_aload_n dT_pool_97 rfl ?_
            refine rk_aload dT_pool_98 rfl ?_
            refine rk_cvV (c_T_keep C s b X _ _ (by simp only [rk_up_s, rk_up_n hab, rk_up_n haq, rk_up_n hgb, rk_up_n hgq, rk_up_n hnb, rk_up_n hnq]; exact e1) (by simp only [rk_up_s, rk_up_n hab, rk_up_n haq, rk_up_n hgb, rk_up_n hgq, rk_up_n hnb, rk_up_n hnq]; exact g1) (by simp only [rk_up_s, rk_up_n hab, rk_up_n haq, rk_up_n hgb, rk_up_n hgq, rk_up_n hnb, rk_up_n hnq]; exact hna) rk_up_s (by omega)) cT_62 dT_pool_100 rfl lT_keep (Nat.le_of_ble_eq_true rfl) (Nat.le_of_ble_eq_true rfl) (Nat.le_of_ble_eq_true rfl) (Nat.le_of_ble_eq_true rfl) (by first | (simp only [rk_up_s, rk_up_n hab, rk_up_n haq, rk_up_n hgb, rk_up_n hgq, rk_up_n hnb, rk_up_n hnq]; first | exact e1 | exact g1 | exact hna | rfl) | exact e1 | exact g1 | exact hna | assumption) ?_
            exact rk_iret rfl dT_pool_103 ⟨(Nat.le_of_ble_eq_true rfl), (Nat.le_of_ble_eq_true rfl)⟩ (by rw [eop, mk2_0 hgg h14]; exact ⟨⟨_, (P b q bn hq hbq).1, (P b q bn hq hbq).2⟩, by rw [hX]; rfl⟩)
          · have eop : opPool s (nI i) (nI co) avg = mk2 s (ndB s (nI i) && btB (nI co) 0 11 && (z_fit co (s.N i).h && z_fit co (s.N i).w)) (((8, some i, none), (z_plc co (s.N i).h, z_plc co (s.N i).w, (s.N i).c), ((s.N i).sc, 0), (co, 0), (0, 0)) : aN) := by
              unfold opPool
              rw [it, tN_I (show co < 2 ^ 31 by omega), if_neg hav]
            have P := fun (b q : Nat) (bn : h b = none) (hq : h q = none) (hbq : b ≠ q) => k.push ok.1.2.1.inn (by omega) X hX gI b q (((8, some i, none), (z_plc co (s.N i).h, z_plc co (s.N i).w, (s.N i).c), ((s.N i).sc, 0), (co, 0), (0, 0)) : aN) bn hq hbq hm
            have hra : ratA (updN s.N s.n (((8, some i, none), (z_plc co (s.N i).h, z_plc co (s.N i).w, (s.N i).c), ((s.N i).sc, 0), (co, 0), (0, 0)) : aN)) s.n = 0 := by
              unfold ratA
              rw [show updN s.N s.n (((8, some i, none), (z_plc co (s.N i).h, z_plc co (s.N i).w, (s.N i).c), ((s.N i).sc, 0), (co, 0), (0, 0)) : aN) s.n = (((8, some i, none), (z_plc co (s.N i).h, z_plc co (s.N i).w, (s.N i).c), ((s.N i).sc, 0), (co, 0), (0, 0)) : aN) from if_pos rfl]
              rfl
            have hrb : ratB (updN s.N s.n (((8, some i, none), (z_plc co (s.N i).h, z_plc co (s.N i).w, (s.N i).c), ((s.N i).sc, 0), (co, 0), (0, 0)) : aN)) s.n = 0 := by
              unfold ratB
              rw [show updN s.N s.n (((8, some i, none), (z_plc co (s.N i).h, z_plc co (s.N i).w, (s.N i).c), ((s.N i).sc, 0), (co, 0), (0, 0)) : aN) s.n = (((8, some i, none), (z_plc co (s.N i).h, z_plc co (s.N i).w, (s.N i).c), ((s.N i).sc, 0), (co, 0), (0, 0)) : aN) from if_pos rfl]
              rfl
            rw [hra, hrb] at P
            refine rk_aload_n dT_pool_0 rfl ?_
            refine rk_iload_n dT_pool_1 rfl ?_
            refine rk_cvI (c_T_requireNode C.a C.gb (tR_of C s.ws s.out s.comp) (gR_of C.A X) (nI i) h e1 g1) cT_66 dT_pool_2 rfl lT_requireNode (Nat.le_of_ble_eq_true rfl) (Nat.le_of_ble_eq_true rfl) (Nat.le_of_ble_eq_true rfl) (Nat.le_of_ble_eq_true rfl) (by first | exact rk_up_k (rk_ne e1 bn) e1 | exact rk_up_k (rk_ne g1 bn) g1 | exact rk_up_k (rk_ne hna bn) hna | exact rk_up_k (rk_ne id bn) id | exact e1 | exact g1 | exact hna | exact id | assumption) rfl ⟨(Nat.le_of_ble_eq_true rfl), (Nat.le_of_ble_eq_true rfl)⟩ (fun g_2 => absurd (show btw (nI i) 0 (nI X.n - 1) by rw [hX]; exact btB_iff.mp hi) g_2) (fun g_2 => ?_)
            refine rk_iload_n dT_pool_5 rfl ?_
            refine rk_iconst (v := 0) dT_pool_6 (by decide) ?_
            refine rk_bipush (v := 11) dT_pool_7 (by decide) ?_
            refine rk_csI (c_T_requireBetween _ _ _ h) cT_35 dT_pool_9 rfl lT_requireBetween (Nat.le_of_ble_eq_true rfl) (Nat.le_of_ble_eq_true rfl) (Nat.le_of_ble_eq_true rfl) (Nat.le_of_ble_eq_true rfl) rfl ⟨(Nat.le_of_ble_eq_true rfl), (Nat.le_of_ble_eq_true rfl)⟩ (fun g_9 => absurd hc g_9) (fun g_9 => ?_)
            refine rk_aload_n dT_pool_12 rfl ?_
            refine rk_getf fT_12 dT_pool_13 (by first | exact rk_up_k (rk_ne e1 bn) e1 | exact rk_up_k (rk_ne g1 bn) g1 | exact rk_up_k (rk_ne hna bn) hna | exact rk_up_k (rk_ne id bn) id | exact e1 | exact g1 | exact hna | exact id | assumption) rfl ?_
            refine rk_getf fT_74 dT_pool_16 (by first | exact rk_up_k (rk_ne e1 bn) e1 | exact rk_up_k (rk_ne g1 bn) g1 | exact rk_up_k (rk_ne hna bn) hna | exact rk_up_k (rk_ne id bn) id | exact e1 | exact g1 | exact hna | exact id | assumption) rfl ?_
            refine rk_iload_n dT_pool_19 rfl ?_
            refine rk_aald rfl dT_pool_20 (by first | exact rk_up_k (rk_ne e1 bn) e1 | exact rk_up_k (rk_ne g1 bn) g1 | exact rk_up_k (rk_ne hna bn) hna | exact rk_up_k (rk_ne id bn) id | exact e1 | exact g1 | exact hna | exact id | assumption) (vp_in_nI i14 (by omega)) (v_nd (by omega) iq) ?_
            refine rk_astore dT_pool_21 (Nat.le_of_ble_eq_true rfl) ?_
            refine rk_aload dT_pool_23 rfl ?_
            refine rk_iload_n dT_pool_25 rfl ?_
            refine rk_csI (c_T_requireWindowFits (C.ad i) (nMi s.N C.fe i) _ h id) cT_78 dT_pool_26 rfl lT_requireWindowFits (Nat.le_of_ble_eq_true rfl) (Nat.le_of_ble_eq_true rfl) (Nat.le_of_ble_eq_true rfl) (Nat.le_of_ble_eq_true rfl) rfl ⟨(Nat.le_of_ble_eq_true rfl), (Nat.le_of_ble_eq_true rfl)⟩ (fun g_26 => absurd hfit g_26) (fun g_26 => ?_)
            refine rk_aload_n dT_pool_29 rfl ?_
            refine rk_cvI (c_T_requireRoom C.a (tR_of C s.ws s.out s.comp) (gR_of C.A X) h e1 g1) cT_54 dT_pool_30 rfl lT_requireRoom (Nat.le_of_ble_eq_true rfl) (Nat.le_of_ble_eq_true rfl) (Nat.le_of_ble_eq_true rfl) (Nat.le_of_ble_eq_true rfl) (by first | exact rk_up_k (rk_ne e1 bn) e1 | exact rk_up_k (rk_ne g1 bn) g1 | exact rk_up_k (rk_ne hna bn) hna | exact rk_up_k (rk_ne id bn) id | exact e1 | exact g1 | exact hna | exact id | assumption) rfl ⟨(Nat.le_of_ble_eq_true rfl), (Nat.le_of_ble_eq_true rfl)⟩ (fun g_30 => absurd (hroom.mpr h14) g_30) (fun g_30 => ?_)
            refine rk_lv [some (.ref C.a), some (.int (nI i)), some (.int (nI co)), some (.int avg), some (.ref (C.ad i)), none, none, none] ⟨rfl, rfl, rfl, rfl, rfl, trivial⟩ ?_
            refine rk_iload_n dT_pool_33 rfl ?_
            refine rk_aload dT_pool_34 rfl ?_
            refine rk_getf fT_101 dT_pool_36 (by first | exact rk_up_k (rk_ne e1 bn) e1 | exact rk_up_k (rk_ne g1 bn) g1 | exact rk_up_k (rk_ne hna bn) hna | exact rk_up_k (rk_ne id bn) id | exact e1 | exact g1 | exact hna | exact id | assumption) rfl ?_
            refine rk_csV (c_W_placesOf (nI co) (nI (s.N i).h) _) cT_104 dT_pool_39 rfl lW_placesOf (Nat.le_of_ble_eq_true rfl) (Nat.le_of_ble_eq_true rfl) (Nat.le_of_ble_eq_true rfl) (Nat.le_of_ble_eq_true rfl) ?_
            rw [w_plc_n (by omega) (by omega) ip.1 f1]
            refine rk_istore dT_pool_42 (Nat.le_of_ble_eq_true rfl) ?_
            refine rk_iload_n dT_pool_44 rfl ?_
            refine rk_aload dT_pool_45 rfl ?_
            refine rk_getf fT_108 dT_pool_47 (by first | exact rk_up_k (rk_ne e1 bn) e1 | exact rk_up_k (rk_ne g1 bn) g1 | exact rk_up_k (rk_ne hna bn) hna | exact rk_up_k (rk_ne id bn) id | exact e1 | exact g1 | exact hna | exact id | assumption) rfl ?_
            refine rk_csV (c_W_placesOf (nI co) (nI (s.N i).w) _) cT_104 dT_pool_50 rfl lW_placesOf (Nat.le_of_ble_eq_true rfl) (Nat.le_of_ble_eq_true rfl) (Nat.le_of_ble_eq_true rfl) (Nat.le_of_ble_eq_true rfl) ?_
            rw [w_plc_n (by omega) (by omega) ip.2.1 f2]
            refine rk_istore dT_pool_53 (Nat.le_of_ble_eq_true rfl) ?_
            refine rk_lv [some (.ref C.a), some (.int (nI i)), some (.int (nI co)), some (.int avg), some (.ref (C.ad i)), some (.int (nI (z_plc co (s.N i).h))), some (.int (nI (z_plc co (s.N i).w))), none] ⟨rfl, rfl, rfl, rfl, rfl, rfl, rfl, trivial⟩ ?_
            refine rk_new (fs := [.int 0, .int 0, .int 0, .int 0, .int 0, .int 0, .int 0, .double 0, .null, .int 0, .int 0, .double 0, .int 0, .int 0, .double 0, .double 0]) kN nT_57.1 nT_57.2.1 nT_57.2.2 (by intro j hj; rcases (show j = 0 ∨ j = 1 ∨ j = 2 ∨ j = 3 ∨ j = 4 ∨ j = 5 ∨ j = 6 ∨ j = 7 ∨ j = 8 ∨ j = 9 ∨ j = 10 ∨ j = 11 ∨ j = 12 ∨ j = 13 ∨ j = 14 ∨ j = 15 by omega) with rfl | rfl | rfl | rfl | rfl | rfl | rfl | rfl | rfl | rfl | rfl | rfl | rfl | rfl | rfl | rfl <;> rfl) dT_pool_55 (Nat.le_of_ble_eq_true rfl) (Nat.le_of_ble_eq_true rfl) (fun b bn => ?_)
            refine rk_dup dT_pool_58 rfl ?_
            refine rk_iload_n dT_pool_59 rfl ?_
            refine rk_if_eq 68 dT_pool_60 (by decide) (fun q_60 => (by exact absurd q_60 hav)) (fun q_60 => ?_)
            refine rk_bipush (v := 8) dT_pool_63 (by decide) ?_
            refine rk_goto 70 dT_pool_65 (by decide) ?_
            refine rk_iload_n dT_pool_70 rfl ?_
            refine rk_iconst (v := -1) dT_pool_71 (by decide) ?_
            refine rk_iload dT_pool_72 rfl ?_
            refine rk_iload dT_pool_74 rfl ?_
            refine rk_aload dT_pool_76 rfl ?_
            refine rk_getf fT_88 dT_pool_78 (by first | exact rk_up_k (rk_ne e1 bn) e1 | exact rk_up_k (rk_ne g1 bn) g1 | exact rk_up_k (rk_ne hna bn) hna | exact rk_up_k (rk_ne id bn) id | exact e1 | exact g1 | exact hna | exact id | assumption) rfl ?_
            refine rk_aload dT_pool_81 rfl ?_
            refine rk_getf fT_129 dT_pool_83 (by first | exact rk_up_k (rk_ne e1 bn) e1 | exact rk_up_k (rk_ne g1 bn) g1 | exact rk_up_k (rk_ne hna bn) hna | exact rk_up_k (rk_ne id bn) id | exact e1 | exact g1 | exact hna | exact id | assumption) rfl ?_
            refine rk_cnG (c_N_init b 8 (some i) none (z_plc co (s.N i).h) (z_plc co (s.N i).w) (s.N i).c (s.N i).sc _ rk_up_s hm (by omega)) cT_59 dT_pool_86 rfl lN_init (Nat.le_of_ble_eq_true rfl) (Nat.le_of_ble_eq_true rfl) (Nat.le_of_ble_eq_true rfl) (Nat.le_of_ble_eq_true rfl) ?_
            rintro r_0 h_0 ⟨rfl, q, hq0, rfl⟩
            refine rk_nx0 ?_
            obtain ⟨hbq, hq⟩ := new_fr hq0
            rw [new_sw hbq]
            have hab : C.a ≠ b := rk_ne e1 bn
            have haq : C.a ≠ q := rk_ne e1 hq
            have hgb : C.gb ≠ b := rk_ne g1 bn
            have hgq : C.gb ≠ q := rk_ne g1 hq
            have hnb : C.A.na ≠ b := rk_ne hna bn
            have hnq : C.A.na ≠ q := rk_ne hna hq
            refine rk_astore dT_pool_89 (Nat.le_of_ble_eq_true rfl) ?_
            refine rk_aload dT_pool_91 rfl ?_
            refine rk_iload_n dT_pool_93 rfl ?_
            refine rk_putf pT_111 dT_pool_94 (by first | (simp only [rk_up_s, rk_up_n hab, rk_up_n haq, rk_up_n hgb, rk_up_n hgq, rk_up_n hnb, rk_up_n hnq]; first | exact e1 | exact g1 | exact hna | rfl) | exact e1 | exact g1 | exact hna | assumption) (Nat.le_of_ble_eq_true rfl) rfl rfl ?_
            rw [rk_up_up]
            refine rk_aload_n dT_pool_97 rfl ?_
            refine rk_aload dT_pool_98 rfl ?_
            refine rk_cvV (c_T_keep C s b X _ _ (by simp only [rk_up_s, rk_up_n hab, rk_up_n haq, rk_up_n hgb, rk_up_n hgq, rk_up_n hnb, rk_up_n hnq]; exact e1) (by simp only [rk_up_s, rk_up_n hab, rk_up_n haq, rk_up_n hgb, rk_up_n hgq, rk_up_n hnb, rk_up_n hnq]; exact g1) (by simp only [rk_up_s, rk_up_n hab, rk_up_n haq, rk_up_n hgb, rk_up_n hgq, rk_up_n hnb, rk_up_n hnq]; exact hna) rk_up_s (by omega)) cT_62 dT_pool_100 rfl lT_keep (Nat.le_of_ble_eq_true rfl) (Nat.le_of_ble_eq_true rfl) (Nat.le_of_ble_eq_true rfl) (Nat.le_of_ble_eq_true rfl) (by first | (simp only [rk_up_s, rk_up_n hab, rk_up_n haq, rk_up_n hgb, rk_up_n hgq, rk_up_n hnb, rk_up_n hnq]; first | exact e1 | exact g1 | exact hna | rfl) | exact e1 | exact g1 | exact hna | assumption) ?_
            exact rk_iret rfl dT_pool_103 ⟨(Nat.le_of_ble_eq_true rfl), (Nat.le_of_ble_eq_true rfl)⟩ (by rw [eop, mk2_0 hgg h14]; exact ⟨⟨_, (P b q bn hq hbq).1, (P b q bn hq hbq).2⟩, by rw [hX]; rfl⟩)
      · have eo : opPool s (nI i) (nI co) avg = (1, none, s) := by
          unfold opPool
          rw [it, tN_I (show co < 2 ^ 31 by omega)]
          exact mk2_1 (fun w => hf (and2.mp w).2)
        refine rk_aload_n dT_pool_0 rfl ?_
        refine rk_iload_n dT_pool_1 rfl ?_
        refine rk_cvI (c_T_requireNode C.a C.gb (tR_of C s.ws s.out s.comp) (gR_of C.A X) (nI i) h e1 g1) cT_66 dT_pool_2 rfl lT_requireNode (Nat.le_of_ble_eq_true rfl) (Nat.le_of_ble_eq_true rfl) (Nat.le_of_ble_eq_true rfl) (Nat.le_of_ble_eq_true rfl) (by first | exact e1 | exact g1 | exact hna | exact id | assumption) rfl ⟨(Nat.le_of_ble_eq_true rfl), (Nat.le_of_ble_eq_true rfl)⟩ (fun g_2 => absurd (show btw (nI i) 0 (nI X.n - 1) by rw [hX]; exact btB_iff.mp hi) g_2) (fun g_2 => ?_)
        refine rk_iload_n dT_pool_5 rfl ?_
        refine rk_iconst (v := 0) dT_pool_6 (by decide) ?_
        refine rk_bipush (v := 11) dT_pool_7 (by decide) ?_
        refine rk_csI (c_T_requireBetween _ _ _ h) cT_35 dT_pool_9 rfl lT_requireBetween (Nat.le_of_ble_eq_true rfl) (Nat.le_of_ble_eq_true rfl) (Nat.le_of_ble_eq_true rfl) (Nat.le_of_ble_eq_true rfl) rfl ⟨(Nat.le_of_ble_eq_true rfl), (Nat.le_of_ble_eq_true rfl)⟩ (fun g_9 => absurd hc g_9) (fun g_9 => ?_)
        refine rk_aload_n dT_pool_12 rfl ?_
        refine rk_getf fT_12 dT_pool_13 (by first | exact e1 | exact g1 | exact hna | exact id | assumption) rfl ?_
        refine rk_getf fT_74 dT_pool_16 (by first | exact e1 | exact g1 | exact hna | exact id | assumption) rfl ?_
        refine rk_iload_n dT_pool_19 rfl ?_
        refine rk_aald rfl dT_pool_20 (by first | exact e1 | exact g1 | exact hna | exact id | assumption) (vp_in_nI i14 (by omega)) (v_nd (by omega) iq) ?_
        refine rk_astore dT_pool_21 (Nat.le_of_ble_eq_true rfl) ?_
        refine rk_aload dT_pool_23 rfl ?_
        refine rk_iload_n dT_pool_25 rfl ?_
        refine rk_csI (c_T_requireWindowFits (C.ad i) (nMi s.N C.fe i) _ h id) cT_78 dT_pool_26 rfl lT_requireWindowFits (Nat.le_of_ble_eq_true rfl) (Nat.le_of_ble_eq_true rfl) (Nat.le_of_ble_eq_true rfl) (Nat.le_of_ble_eq_true rfl) rfl ⟨(Nat.le_of_ble_eq_true rfl), (Nat.le_of_ble_eq_true rfl)⟩ (fun g_26 => (by rw [eo]; exact cPost.same k rfl rfl)) (fun g_26 => ?_)
        exact absurd (by rw [← wf1, ← wf2]; exact and2.mpr g_26) hf
    · have eo : opPool s (nI i) code avg = (1, none, s) := mk2_1 (fun w => hc (btB_iff.mp (and2.mp (and2.mp w).1).2))
      refine rk_aload_n dT_pool_0 rfl ?_
      refine rk_iload_n dT_pool_1 rfl ?_
      refine rk_cvI (c_T_requireNode C.a C.gb (tR_of C s.ws s.out s.comp) (gR_of C.A X) (nI i) h e1 g1) cT_66 dT_pool_2 rfl lT_requireNode (Nat.le_of_ble_eq_true rfl) (Nat.le_of_ble_eq_true rfl) (Nat.le_of_ble_eq_true rfl) (Nat.le_of_ble_eq_true rfl) (by first | exact e1 | exact g1 | exact hna | exact id | assumption) rfl ⟨(Nat.le_of_ble_eq_true rfl), (Nat.le_of_ble_eq_true rfl)⟩ (fun g_2 => absurd (show btw (nI i) 0 (nI X.n - 1) by rw [hX]; exact btB_iff.mp hi) g_2) (fun g_2 => ?_)
      refine rk_iload_n dT_pool_5 rfl ?_
      refine rk_iconst (v := 0) dT_pool_6 (by decide) ?_
      refine rk_bipush (v := 11) dT_pool_7 (by decide) ?_
      refine rk_csI (c_T_requireBetween _ _ _ h) cT_35 dT_pool_9 rfl lT_requireBetween (Nat.le_of_ble_eq_true rfl) (Nat.le_of_ble_eq_true rfl) (Nat.le_of_ble_eq_true rfl) (Nat.le_of_ble_eq_true rfl) rfl ⟨(Nat.le_of_ble_eq_true rfl), (Nat.le_of_ble_eq_true rfl)⟩ (fun g_9 => (by rw [eo]; exact cPost.same k rfl rfl)) (fun g_9 => ?_)
      exact absurd g_9 hc
  · have eo : opPool s p code avg = (1, none, s) := mk2_1 (fun w => hi (and2.mp (and2.mp w).1).1)
    refine rk_aload_n dT_pool_0 rfl ?_
    refine rk_iload_n dT_pool_1 rfl ?_
    refine rk_cvI (c_T_requireNode C.a C.gb (tR_of C s.ws s.out s.comp) (gR_of C.A X) p h e1 g1) cT_66 dT_pool_2 rfl lT_requireNode (Nat.le_of_ble_eq_true rfl) (Nat.le_of_ble_eq_true rfl) (Nat.le_of_ble_eq_true rfl) (Nat.le_of_ble_eq_true rfl) (by first | exact e1 | exact g1 | assumption) rfl ⟨(Nat.le_of_ble_eq_true rfl), (Nat.le_of_ble_eq_true rfl)⟩ (fun g_2 => (by rw [eo]; exact cPost.same k rfl rfl)) (fun g_2 => ?_)
    exact absurd (btB_iff.mpr (show btw p 0 (nI s.n - 1) by rw [← hX]; exact g_2)) hi
theorem c_T_rescale (C : cT) (s : aS) (p : Int32) (sc : UInt64) (h : rk_H) (k : cOK h C s) (ok : aOK s) : rk_Con mT_rescale (9, 121, 6, 168) [.ref C.a, .int p, .double sc] h (cPost h C s.n (opRescale s p sc) (exL [x_IA, x_AR, x_IS])) := by
  have e1 := k.1.1
  obtain ⟨X, hX, hG⟩ := k.1.2.2.1.eq
  have gI : gIs h C.gb C.A X := by
    have kg := k.1.2.2.1
    rw [hG]
    exact ⟨kg.gb, kg.gsf, kg.gst, kg.gsp, kg.gpl, kg.gla⟩
  have g1 := gI.1
  have hna := k.1.2.2.1.2.1.1
  have hn := ok.1.1
  have hroom := room_n hX hn
  refine rk_Con.of [some (.ref C.a), some (.int p), some (.double sc), none, none, none, none, none] rfl (Nat.le_of_ble_eq_true rfl) (by decide +kernel) ?_
  by_cases hi : ndB s p = true
  · obtain ⟨i, il, rfl⟩ := ndB_of hn hi
    obtain ⟨iq, id⟩ := k.1.2.2.1.2.1.2 i il
    have i14 : i < 14 := by omega
    have ib := ok.1.2.1.bd i il
    have ip := (ok.1.2.1 i il).1.2.1
    have ic := ib.ce
    have it : tN (nI i) = i := tN_I (by omega)
    have eop : opRescale s (nI i) sc = mk3 s (ndB s (nI i) && dsB sc) (d_good (FP.ddiv (s.N i).sc sc)) (x0 10 (some i) none (s.N i).h (s.N i).w (s.N i).c sc) := by
      unfold opRescale
      rw [it]
    by_cases hs : dsB sc = true
    · have hgg : (ndB s (nI i) && dsB sc) = true := by rw [hi, hs]; rfl
      by_cases hgd : d_good (FP.ddiv (s.N i).sc sc) = true
      · by_cases h14 : s.n = 14
        · refine rk_aload_n dT_rescale_0 rfl ?_
          refine rk_iload_n dT_rescale_1 rfl ?_
          refine rk_cvI (c_T_requireNode C.a C.gb (tR_of C s.ws s.out s.comp) (gR_of C.A X) (nI i) h e1 g1) cT_66 dT_rescale_2 rfl lT_requireNode (Nat.le_of_ble_eq_true rfl) (Nat.le_of_ble_eq_true rfl) (Nat.le_of_ble_eq_true rfl) (Nat.le_of_ble_eq_true rfl) (by first | exact e1 | exact g1 | exact hna | exact id | assumption) rfl ⟨(Nat.le_of_ble_eq_true rfl), (Nat.le_of_ble_eq_true rfl)⟩ (fun g_2 => absurd (show btw (nI i) 0 (nI X.n - 1) by rw [hX]; exact btB_iff.mp hi) g_2) (fun g_2 => ?_)
          refine rk_dload_n dT_rescale_5 rfl ?_
          refine rk_csI (c_T_requireScale sc h) cT_47 dT_rescale_6 rfl lT_requireScale (Nat.le_of_ble_eq_true rfl) (Nat.le_of_ble_eq_true rfl) (Nat.le_of_ble_eq_true rfl) (Nat.le_of_ble_eq_true rfl) rfl ⟨(Nat.le_of_ble_eq_true rfl), (Nat.le_of_ble_eq_true rfl)⟩ (fun g_6 => absurd (dsB_iff.mp hs) g_6) (fun g_6 => ?_)
          refine rk_aload_n dT_rescale_9 rfl ?_
          refine rk_getf fT_12 dT_rescale_10 (by first | exact e1 | exact g1 | exact hna | exact id | assumption) rfl ?_
          refine rk_getf fT_74 dT_rescale_13 (by first | exact e1 | exact g1 | exact hna | exact id | assumption) rfl ?_
          refine rk_iload_n dT_rescale_16 rfl ?_
          refine rk_aald rfl dT_rescale_17 (by first | exact e1 | exact g1 | exact hna | exact id | assumption) (vp_in_nI i14 (by omega)) (v_nd (by omega) iq) ?_
          refine rk_astore dT_rescale_18 (Nat.le_of_ble_eq_true rfl) ?_
          refine rk_aload dT_rescale_20 rfl ?_
          refine rk_getf fT_129 dT_rescale_22 (by first | exact e1 | exact g1 | exact hna | exact id | assumption) rfl ?_
          refine rk_dload_n dT_rescale_25 rfl ?_
          refine rk_ddiv dT_rescale_26 (fp_rat2 ib.2.1 (d_scl_iff.mp g_6)) ?_
          refine rk_dstore dT_rescale_27 (Nat.le_of_ble_eq_true rfl) ?_
          refine rk_dload dT_rescale_29 rfl ?_
          refine rk_csI (c_T_requireGood _ h) cT_98 dT_rescale_31 rfl lT_requireGood (Nat.le_of_ble_eq_true rfl) (Nat.le_of_ble_eq_true rfl) (Nat.le_of_ble_eq_true rfl) (Nat.le_of_ble_eq_true rfl) rfl ⟨(Nat.le_of_ble_eq_true rfl), (Nat.le_of_ble_eq_true rfl)⟩ (fun g_31 => absurd hgd g_31) (fun g_31 => ?_)
          refine rk_aload_n dT_rescale_34 rfl ?_
          refine rk_cvI (c_T_requireRoom C.a (tR_of C s.ws s.out s.comp) (gR_of C.A X) h e1 g1) cT_54 dT_rescale_35 rfl lT_requireRoom (Nat.le_of_ble_eq_true rfl) (Nat.le_of_ble_eq_true rfl) (Nat.le_of_ble_eq_true rfl) (Nat.le_of_ble_eq_true rfl) (by first | exact e1 | exact g1 | exact hna | exact id | assumption) rfl ⟨(Nat.le_of_ble_eq_true rfl), (Nat.le_of_ble_eq_true rfl)⟩ (fun g_35 => (by rw [eop, mk3_3 hgg hgd h14]; exact cPost.same k rfl rfl)) (fun g_35 => ?_)
          exact absurd h14 (hroom.mp g_35)
        · skip
          have P := fun (b q : Nat) (bn : h b = none) (hq : h q = none) (hbq : b ≠ q) => k.push ok.1.2.1.inn (by omega) X hX gI b q (x0 10 (some i) none (s.N i).h (s.N i).w (s.N i).c sc) bn hq hbq ic
          have hra : ratA (updN s.N s.n (x0 10 (some i) none (s.N i).h (s.N i).w (s.N i).c sc)) s.n = FP.ddiv (s.N i).sc sc := by
            unfold ratA
            rw [show updN s.N s.n (x0 10 (some i) none (s.N i).h (s.N i).w (s.N i).c sc) s.n = (x0 10 (some i) none (s.N i).h (s.N i).w (s.N i).c sc) from if_pos rfl]
            show FP.ddiv ((updN s.N s.n (x0 10 (some i) none (s.N i).h (s.N i).w (s.N i).c sc) i).sc) sc = _
            rw [show updN s.N s.n (x0 10 (some i) none (s.N i).h (s.N i).w (s.N i).c sc) i = s.N i from if_neg (by omega)]
          have hrb : ratB (updN s.N s.n (x0 10 (some i) none (s.N i).h (s.N i).w (s.N i).c sc)) s.n = 0 := by
            unfold ratB
            rw [show updN s.N s.n (x0 10 (some i) none (s.N i).h (s.N i).w (s.N i).c sc) s.n = (x0 10 (some i) none (s.N i).h (s.N i).w (s.N i).c sc) from if_pos rfl]
            rfl
          rw [hra, hrb] at P
          refine rk_aload_n dT_rescale_0 rfl ?_
          refine rk_iload_n dT_rescale_1 rfl ?_
          refine rk_cvI (c_T_requireNode C.a C.gb (tR_of C s.ws s.out s.comp) (gR_of C.A X) (nI i) h e1 g1) cT_66 dT_rescale_2 rfl lT_requireNode (Nat.le_of_ble_eq_true rfl) (Nat.le_of_ble_eq_true rfl) (Nat.le_of_ble_eq_true rfl) (Nat.le_of_ble_eq_true rfl) (by first | exact rk_up_k (rk_ne e1 bn) e1 | exact rk_up_k (rk_ne g1 bn) g1 | exact rk_up_k (rk_ne hna bn) hna | exact rk_up_k (rk_ne id bn) id | exact e1 | exact g1 | exact hna | exact id | assumption) rfl ⟨(Nat.le_of_ble_eq_true rfl), (Nat.le_of_ble_eq_true rfl)⟩ (fun g_2 => absurd (show btw (nI i) 0 (nI X.n - 1) by rw [hX]; exact btB_iff.mp hi) g_2) (fun g_2 => ?_)
          refine rk_dload_n dT_rescale_5 rfl ?_
          refine rk_csI (c_T_requireScale sc h) cT_47 dT_rescale_6 rfl lT_requireScale (Nat.le_of_ble_eq_true rfl) (Nat.le_of_ble_eq_true rfl) (Nat.le_of_ble_eq_true rfl) (Nat.le_of_ble_eq_true rfl) rfl ⟨(Nat.le_of_ble_eq_true rfl), (Nat.le_of_ble_eq_true rfl)⟩ (fun g_6 => absurd (dsB_iff.mp hs) g_6) (fun g_6 => ?_)
          refine rk_aload_n dT_rescale_9 rfl ?_
          refine rk_getf fT_12 dT_rescale_10 (by first | exact rk_up_k (rk_ne e1 bn) e1 | exact rk_up_k (rk_ne g1 bn) g1 | exact rk_up_k (rk_ne hna bn) hna | exact rk_up_k (rk_ne id bn) id | exact e1 | exact g1 | exact hna | exact id | assumption) rfl ?_
          refine rk_getf fT_74 dT_rescale_13 (by first | exact rk_up_k (rk_ne e1 bn) e1 | exact rk_up_k (rk_ne g1 bn) g1 | exact rk_up_k (rk_ne hna bn) hna | exact rk_up_k (rk_ne id bn) id | exact e1 | exact g1 | exact hna | exact id | assumption) rfl ?_
          refine rk_iload_n dT_rescale_16 rfl ?_
          refine rk_aald rfl dT_rescale_17 (by first | exact rk_up_k (rk_ne e1 bn) e1 | exact rk_up_k (rk_ne g1 bn) g1 | exact rk_up_k (rk_ne hna bn) hna | exact rk_up_k (rk_ne id bn) id | exact e1 | exact g1 | exact hna | exact id | assumption) (vp_in_nI i14 (by omega)) (v_nd (by omega) iq) ?_
          refine rk_astore dT_rescale_18 (Nat.le_of_ble_eq_true rfl) ?_
          refine rk_aload dT_rescale_20 rfl ?_
          refine rk_getf fT_129 dT_rescale_22 (by first | exact rk_up_k (rk_ne e1 bn) e1 | exact rk_up_k (rk_ne g1 bn) g1 | exact rk_up_k (rk_ne hna bn) hna | exact rk_up_k (rk_ne id bn) id | exact e1 | exact g1 | exact hna | exact id | assumption) rfl ?_
          refine rk_dload_n dT_rescale_25 rfl ?_
          refine rk_ddiv dT_rescale_26 (fp_rat2 ib.2.1 (d_scl_iff.mp g_6)) ?_
          refine rk_dstore dT_rescale_27 (Nat.le_of_ble_eq_true rfl) ?_
          refine rk_dload dT_rescale_29 rfl ?_
          refine rk_csI (c_T_requireGood _ h) cT_98 dT_rescale_31 rfl lT_requireGood (Nat.le_of_ble_eq_true rfl) (Nat.le_of_ble_eq_true rfl) (Nat.le_of_ble_eq_true rfl) (Nat.le_of_ble_eq_true rfl) rfl ⟨(Nat.le_of_ble_eq_true rfl), (Nat.le_of_ble_eq_true rfl)⟩ (fun g_31 => absurd hgd g_31) (fun g_31 => ?_)
          refine rk_aload_n dT_rescale_34 rfl ?_
          refine rk_cvI (c_T_requireRoom C.a (tR_of C s.ws s.out s.comp) (gR_of C.A X) h e1 g1) cT_54 dT_rescale_35 rfl lT_requireRoom (Nat.le_of_ble_eq_true rfl) (Nat.le_of_ble_eq_true rfl) (Nat.le_of_ble_eq_true rfl) (Nat.le_of_ble_eq_true rfl) (by first | exact rk_up_k (rk_ne e1 bn) e1 | exact rk_up_k (rk_ne g1 bn) g1 | exact rk_up_k (rk_ne hna bn) hna | exact rk_up_k (rk_ne id bn) id | exact e1 | exact g1 | exact hna | exact id | assumption) rfl ⟨(Nat.le_of_ble_eq_true rfl), (Nat.le_of_ble_eq_true rfl)⟩ (fun g_35 => absurd (hroom.mpr h14) g_35) (fun g_35 => ?_)
          refine rk_new (fs := [.int 0, .int 0, .int 0, .int 0, .int 0, .int 0, .int 0, .double 0, .null, .int 0, .int 0, .double 0, .int 0, .int 0, .double 0, .double 0]) kN nT_57.1 nT_57.2.1 nT_57.2.2 (by intro j hj; rcases (show j = 0 ∨ j = 1 ∨ j = 2 ∨ j = 3 ∨ j = 4 ∨ j = 5 ∨ j = 6 ∨ j = 7 ∨ j = 8 ∨ j = 9 ∨ j = 10 ∨ j = 11 ∨ j = 12 ∨ j = 13 ∨ j = 14 ∨ j = 15 by omega) with rfl | rfl | rfl | rfl | rfl | rfl | rfl | rfl | rfl | rfl | rfl | rfl | rfl | rfl | rfl | rfl <;> rfl) dT_rescale_38 (Nat.le_of_ble_eq_true rfl) (Nat.le_of_ble_eq_true rfl) (fun b bn => ?_)
          refine rk_dup dT_rescale_41 rfl ?_
          refine rk_bipush (v := 10) dT_rescale_42 (by decide) ?_
          refine rk_iload_n dT_rescale_44 rfl ?_
          refine rk_iconst (v := -1) dT_rescale_45 (by decide) ?_
          refine rk_aload dT_rescale_46 rfl ?_
          refine rk_getf fT_101 dT_rescale_48 (by first | exact rk_up_k (rk_ne e1 bn) e1 | exact rk_up_k (rk_ne g1 bn) g1 | exact rk_up_k (rk_ne hna bn) hna | exact rk_up_k (rk_ne id bn) id | exact e1 | exact g1 | exact hna | exact id | assumption) rfl ?_
          refine rk_aload dT_rescale_51 rfl ?_
          refine rk_getf fT_108 dT_rescale_53 (by first | exact rk_up_k (rk_ne e1 bn) e1 | exact rk_up_k (rk_ne g1 bn) g1 | exact rk_up_k (rk_ne hna bn) hna | exact rk_up_k (rk_ne id bn) id | exact e1 | exact g1 | exact hna | exact id | assumption) rfl ?_
          refine rk_aload dT_rescale_56 rfl ?_
          refine rk_getf fT_88 dT_rescale_58 (by first | exact rk_up_k (rk_ne e1 bn) e1 | exact rk_up_k (rk_ne g1 bn) g1 | exact rk_up_k (rk_ne hna bn) hna | exact rk_up_k (rk_ne id bn) id | exact e1 | exact g1 | exact hna | exact id | assumption) rfl ?_
          refine rk_dload_n dT_rescale_61 rfl ?_
          refine rk_cnG (c_N_init b 10 (some i) none (s.N i).h (s.N i).w (s.N i).c sc _ rk_up_s ic (by omega)) cT_59 dT_rescale_62 rfl lN_init (Nat.le_of_ble_eq_true rfl) (Nat.le_of_ble_eq_true rfl) (Nat.le_of_ble_eq_true rfl) (Nat.le_of_ble_eq_true rfl) ?_
          rintro r_0 h_0 ⟨rfl, q, hq0, rfl⟩
          refine rk_nx0 ?_
          obtain ⟨hbq, hq⟩ := new_fr hq0
          rw [new_sw hbq]
          have hab : C.a ≠ b := rk_ne e1 bn
          have haq : C.a ≠ q := rk_ne e1 hq
          have hgb : C.gb ≠ b := rk_ne g1 bn
          have hgq : C.gb ≠ q := rk_ne g1 hq
          have hnb : C.A.na ≠ b := rk_ne hna bn
          have hnq : C.A.na ≠ q := rk_ne hna hq
          refine rk_astore dT_rescale_65 (Nat.le_of_ble_eq_true rfl) ?_
          refine rk_aload dT_rescale_67 rfl ?_
          refine rk_dload dT_rescale_69 rfl ?_
          refine rk_putf pT_132 dT_rescale_71 (by first | (simp only [rk_up_s, rk_up_n hab, rk_up_n haq, rk_up_n hgb, rk_up_n hgq, rk_up_n hnb, rk_up_n hnq]; first | exact e1 | exact g1 | exact hna | rfl) | exact e1 | exact g1 | exact hna | assumption) (Nat.le_of_ble_eq_true rfl) rfl rfl ?_
          rw [rk_up_up]
          refine rk_aload_n dT_rescale_74 rfl ?_
          refine rk_aload dT_rescale_75 rfl ?_
          refine rk_cvV (c_T_keep C s b X _ _ (by simp only [rk_up_s, rk_up_n hab, rk_up_n haq, rk_up_n hgb, rk_up_n hgq, rk_up_n hnb, rk_up_n hnq]; exact e1) (by simp only [rk_up_s, rk_up_n hab, rk_up_n haq, rk_up_n hgb, rk_up_n hgq, rk_up_n hnb, rk_up_n hnq]; exact g1) (by simp only [rk_up_s, rk_up_n hab, rk_up_n haq, rk_up_n hgb, rk_up_n hgq, rk_up_n hnb, rk_up_n hnq]; exact hna) rk_up_s (by omega)) cT_62 dT_rescale_77 rfl lT_keep (Nat.le_of_ble_eq_true rfl) (Nat.le_of_ble_eq_true rfl) (Nat.le_of_ble_eq_true rfl) (Nat.le_of_ble_eq_true rfl) (by first | (simp only [rk_up_s, rk_up_n hab, rk_up_n haq, rk_up_n hgb, rk_up_n hgq, rk_up_n hnb, rk_up_n hnq]; first | exact e1 | exact g1 | exact hna | rfl) | exact e1 | exact g1 | exact hna | assumption) ?_
          exact rk_iret rfl dT_rescale_80 ⟨(Nat.le_of_ble_eq_true rfl), (Nat.le_of_ble_eq_true rfl)⟩ (by rw [eop, mk3_0 hgg hgd h14]; exact ⟨⟨_, (P b q bn hq hbq).1, (P b q bn hq hbq).2⟩, by rw [hX]; rfl⟩)
      · refine rk_aload_n dT_rescale_0 rfl ?_
        refine rk_iload_n dT_rescale_1 rfl ?_
        refine rk_cvI (c_T_requireNode C.a C.gb (tR_of C s.ws s.out s.comp) (gR_of C.A X) (nI i) h e1 g1) cT_66 dT_rescale_2 rfl lT_requireNode (Nat.le_of_ble_eq_true rfl) (Nat.le_of_ble_eq_true rfl) (Nat.le_of_ble_eq_true rfl) (Nat.le_of_ble_eq_true rfl) (by first | exact e1 | exact g1 | exact hna | exact id | assumption) rfl ⟨(Nat.le_of_ble_eq_true rfl), (Nat.le_of_ble_eq_true rfl)⟩ (fun g_2 => absurd (show btw (nI i) 0 (nI X.n - 1) by rw [hX]; exact btB_iff.mp hi) g_2) (fun g_2 => ?_)
        refine rk_dload_n dT_rescale_5 rfl ?_
        refine rk_csI (c_T_requireScale sc h) cT_47 dT_rescale_6 rfl lT_requireScale (Nat.le_of_ble_eq_true rfl) (Nat.le_of_ble_eq_true rfl) (Nat.le_of_ble_eq_true rfl) (Nat.le_of_ble_eq_true rfl) rfl ⟨(Nat.le_of_ble_eq_true rfl), (Nat.le_of_ble_eq_true rfl)⟩ (fun g_6 => absurd (dsB_iff.mp hs) g_6) (fun g_6 => ?_)
        refine rk_aload_n dT_rescale_9 rfl ?_
        refine rk_getf fT_12 dT_rescale_10 (by first | exact e1 | exact g1 | exact hna | exact id | assumption) rfl ?_
        refine rk_getf fT_74 dT_rescale_13 (by first | exact e1 | exact g1 | exact hna | exact id | assumption) rfl ?_
        refine rk_iload_n dT_rescale_16 rfl ?_
        refine rk_aald rfl dT_rescale_17 (by first | exact e1 | exact g1 | exact hna | exact id | assumption) (vp_in_nI i14 (by omega)) (v_nd (by omega) iq) ?_
        refine rk_astore dT_rescale_18 (Nat.le_of_ble_eq_true rfl) ?_
        refine rk_aload dT_rescale_20 rfl ?_
        refine rk_getf fT_129 dT_rescale_22 (by first | exact e1 | exact g1 | exact hna | exact id | assumption) rfl ?_
        refine rk_dload_n dT_rescale_25 rfl ?_
        refine rk_ddiv dT_rescale_26 (fp_rat2 ib.2.1 (d_scl_iff.mp g_6)) ?_
        refine rk_dstore dT_rescale_27 (Nat.le_of_ble_eq_true rfl) ?_
        refine rk_dload dT_rescale_29 rfl ?_
        refine rk_csI (c_T_requireGood _ h) cT_98 dT_rescale_31 rfl lT_requireGood (Nat.le_of_ble_eq_true rfl) (Nat.le_of_ble_eq_true rfl) (Nat.le_of_ble_eq_true rfl) (Nat.le_of_ble_eq_true rfl) rfl ⟨(Nat.le_of_ble_eq_true rfl), (Nat.le_of_ble_eq_true rfl)⟩ (fun g_31 => (by rw [eop, mk3_2 hgg hgd]; exact cPost.same k rfl rfl)) (fun g_31 => ?_)
        exact absurd g_31 hgd
    · have eo : opRescale s (nI i) sc = (1, none, s) := mk3_1 (fun w => hs (and2.mp w).2)
      refine rk_aload_n dT_rescale_0 rfl ?_
      refine rk_iload_n dT_rescale_1 rfl ?_
      refine rk_cvI (c_T_requireNode C.a C.gb (tR_of C s.ws s.out s.comp) (gR_of C.A X) (nI i) h e1 g1) cT_66 dT_rescale_2 rfl lT_requireNode (Nat.le_of_ble_eq_true rfl) (Nat.le_of_ble_eq_true rfl) (Nat.le_of_ble_eq_true rfl) (Nat.le_of_ble_eq_true rfl) (by first | exact e1 | exact g1 | exact hna | exact id | assumption) rfl ⟨(Nat.le_of_ble_eq_true rfl), (Nat.le_of_ble_eq_true rfl)⟩ (fun g_2 => absurd (show btw (nI i) 0 (nI X.n - 1) by rw [hX]; exact btB_iff.mp hi) g_2) (fun g_2 => ?_)
      refine rk_dload_n dT_rescale_5 rfl ?_
      refine rk_csI (c_T_requireScale sc h) cT_47 dT_rescale_6 rfl lT_requireScale (Nat.le_of_ble_eq_true rfl) (Nat.le_of_ble_eq_true rfl) (Nat.le_of_ble_eq_true rfl) (Nat.le_of_ble_eq_true rfl) rfl ⟨(Nat.le_of_ble_eq_true rfl), (Nat.le_of_ble_eq_true rfl)⟩ (fun g_6 => (by rw [eo]; exact cPost.same k rfl rfl)) (fun g_6 => ?_)
      exact absurd (dsB_iff.mpr g_6) hs
  · have eo : opRescale s p sc = (1, none, s) := mk3_1 (fun w => hi (and2.mp w).1)
    refine rk_aload_n dT_rescale_0 rfl ?_
    refine rk_iload_n dT_rescale_1 rfl ?_
    refine rk_cvI (c_T_requireNode C.a C.gb (tR_of C s.ws s.out s.comp) (gR_of C.A X) p h e1 g1) cT_66 dT_rescale_2 rfl lT_requireNode (Nat.le_of_ble_eq_true rfl) (Nat.le_of_ble_eq_true rfl) (Nat.le_of_ble_eq_true rfl) (Nat.le_of_ble_eq_true rfl) (by first | exact e1 | exact g1 | assumption) rfl ⟨(Nat.le_of_ble_eq_true rfl), (Nat.le_of_ble_eq_true rfl)⟩ (fun g_2 => (by rw [eo]; exact cPost.same k rfl rfl)) (fun g_2 => ?_)
    exact absurd (btB_iff.mpr (show btw p 0 (nI s.n - 1) by rw [← hX]; exact g_2)) hi
theorem c_T_add (C : cT) (s : aS) (p q0 : Int32) (sc : UInt64) (h : rk_H) (k : cOK h C s) (ok : aOK s) : rk_Con mT_add (9, 121, 9, 186) [.ref C.a, .int p, .int q0, .double sc] h (cPost h C s.n (opAdd s p q0 sc) (exL [x_IA, x_AR, x_IS])) := by
  have e1 := k.1.1
  obtain ⟨X, hX, hG⟩ := k.1.2.2.1.eq
  have gI : gIs h C.gb C.A X := by
    have kg := k.1.2.2.1
    rw [hG]
    exact ⟨kg.gb, kg.gsf, kg.gst, kg.gsp, kg.gpl, kg.gla⟩
  have g1 := gI.1
  have hna := k.1.2.2.1.2.1.1
  have hn := ok.1.1
  have hroom := room_n hX hn
  refine rk_Con.of [some (.ref C.a), some (.int p), some (.int q0), some (.double sc), none, none, none, none, none, none, none, none] rfl (Nat.le_of_ble_eq_true rfl) (by decide +kernel) ?_
  by_cases hi : ndB s p = true
  · obtain ⟨i, il, rfl⟩ := ndB_of hn hi
    obtain ⟨iq, id⟩ := k.1.2.2.1.2.1.2 i il
    have i14 : i < 14 := by omega
    have ib := ok.1.2.1.bd i il
    have ip := (ok.1.2.1 i il).1.2.1
    have ic := ib.ce
    have it : tN (nI i) = i := tN_I (by omega)
    by_cases hj : ndB s q0 = true
    · obtain ⟨j, jl, rfl⟩ := ndB_of hn hj
      obtain ⟨jq, jd⟩ := k.1.2.2.1.2.1.2 j jl
      have j14 : j < 14 := by omega
      have jb := ok.1.2.1.bd j jl
      have jp := (ok.1.2.1 j jl).1.2.1
      have jc := jb.ce
      have jt : tN (nI j) = j := tN_I (by omega)
      have eop : opAdd s (nI i) (nI j) sc = mk3 s (ndB s (nI i) && ndB s (nI j) && dsB sc && shq (s.N j) (s.N i)) (d_good (FP.ddiv (s.N i).sc sc) && d_good (FP.ddiv (s.N j).sc sc)) (x0 4 (some i) (some j) (s.N i).h (s.N i).w (s.N i).c sc) := by
        unfold opAdd
        rw [it, jt]
      by_cases hs : dsB sc = true
      · by_cases hsh : shq (s.N j) (s.N i) = true
        · have hgg : (ndB s (nI i) && ndB s (nI j) && dsB sc && shq (s.N j) (s.N i)) = true := by rw [hi, hj, hs, hsh]; rfl
          by_cases hgd : (d_good (FP.ddiv (s.N i).sc sc) && d_good (FP.ddiv (s.N j).sc sc)) = true
          · obtain ⟨hg1, hg2⟩ := and2.mp hgd
            by_cases h14 : s.n = 14
            · refine rk_aload_n dT_add_0 rfl ?_
              refine rk_iload_n dT_add_1 rfl ?_
              refine rk_cvI (c_T_requireNode C.a C.gb (tR_of C s.ws s.out s.comp) (gR_of C.A X) (nI i) h e1 g1) cT_66 dT_add_2 rfl lT_requireNode (Nat.le_of_ble_eq_true rfl) (Nat.le_of_ble_eq_true rfl) (Nat.le_of_ble_eq_true rfl) (Nat.le_of_ble_eq_true rfl) (by first | exact e1 | exact g1 | exact hna | exact id | exact jd | assumption) rfl ⟨(Nat.le_of_ble_eq_true rfl), (Nat.le_of_ble_eq_true rfl)⟩ (fun g_2 => absurd (show btw (nI i) 0 (nI X.n - 1) by rw [hX]; exact btB_iff.mp hi) g_2) (fun g_2 => ?_)
              refine rk_aload_n dT_add_5 rfl ?_
              refine rk_iload_n dT_add_6 rfl ?_
              refine rk_cvI (c_T_requireNode C.a C.gb (tR_of C s.ws s.out s.comp) (gR_of C.A X) (nI j) h e1 g1) cT_66 dT_add_7 rfl lT_requireNode (Nat.le_of_ble_eq_true rfl) (Nat.le_of_ble_eq_true rfl) (Nat.le_of_ble_eq_true rfl) (Nat.le_of_ble_eq_true rfl) (by first | exact e1 | exact g1 | exact hna | exact id | exact jd | assumption) rfl ⟨(Nat.le_of_ble_eq_true rfl), (Nat.le_of_ble_eq_true rfl)⟩ (fun g_7 => absurd (show btw (nI j) 0 (nI X.n - 1) by rw [hX]; exact btB_iff.mp hj) g_7) (fun g_7 => ?_)
              refine rk_dload_n dT_add_10 rfl ?_
              refine rk_csI (c_T_requireScale sc h) cT_47 dT_add_11 rfl lT_requireScale (Nat.le_of_ble_eq_true rfl) (Nat.le_of_ble_eq_true rfl) (Nat.le_of_ble_eq_true rfl) (Nat.le_of_ble_eq_true rfl) rfl ⟨(Nat.le_of_ble_eq_true rfl), (Nat.le_of_ble_eq_true rfl)⟩ (fun g_11 => absurd (dsB_iff.mp hs) g_11) (fun g_11 => ?_)
              refine rk_aload_n dT_add_14 rfl ?_
              refine rk_getf fT_12 dT_add_15 (by first | exact e1 | exact g1 | exact hna | exact id | exact jd | assumption) rfl ?_
              refine rk_getf fT_74 dT_add_18 (by first | exact e1 | exact g1 | exact hna | exact id | exact jd | assumption) rfl ?_
              refine rk_iload_n dT_add_21 rfl ?_
              refine rk_aald rfl dT_add_22 (by first | exact e1 | exact g1 | exact hna | exact id | exact jd | assumption) (vp_in_nI i14 (by omega)) (v_nd (by omega) iq) ?_
              refine rk_astore dT_add_23 (Nat.le_of_ble_eq_true rfl) ?_
              refine rk_aload_n dT_add_25 rfl ?_
              refine rk_getf fT_12 dT_add_26 (by first | exact e1 | exact g1 | exact hna | exact id | exact jd | assumption) rfl ?_
              refine rk_getf fT_74 dT_add_29 (by first | exact e1 | exact g1 | exact hna | exact id | exact jd | assumption) rfl ?_
              refine rk_iload_n dT_add_32 rfl ?_
              refine rk_aald rfl dT_add_33 (by first | exact e1 | exact g1 | exact hna | exact id | exact jd | assumption) (vp_in_nI j14 (by omega)) (v_nd (by omega) jq) ?_
              refine rk_astore dT_add_34 (Nat.le_of_ble_eq_true rfl) ?_
              refine rk_lv [some (.ref C.a), some (.int (nI i)), some (.int (nI j)), some (.double sc), none, some (.ref (C.ad i)), some (.ref (C.ad j)), none, none, none, none, none] ⟨rfl, rfl, rfl, rfl, rfl, rfl, trivial⟩ ?_
              refine rk_aload dT_add_36 rfl ?_
              refine rk_aload dT_add_38 rfl ?_
              refine rk_getf fT_101 dT_add_40 (by first | exact e1 | exact g1 | exact hna | exact id | exact jd | assumption) rfl ?_
              refine rk_aload dT_add_43 rfl ?_
              refine rk_getf fT_108 dT_add_45 (by first | exact e1 | exact g1 | exact hna | exact id | exact jd | assumption) rfl ?_
              refine rk_aload dT_add_48 rfl ?_
              refine rk_getf fT_88 dT_add_50 (by first | exact e1 | exact g1 | exact hna | exact id | exact jd | assumption) rfl ?_
              refine rk_cvV (c_N_hasShape (C.ad j) (nMi s.N C.fe j) _ _ _ h jd) cT_121 dT_add_53 rfl lN_hasShape (Nat.le_of_ble_eq_true rfl) (Nat.le_of_ble_eq_true rfl) (Nat.le_of_ble_eq_true rfl) (Nat.le_of_ble_eq_true rfl) (by first | exact e1 | exact g1 | exact hna | exact id | exact jd | assumption) ?_
              rw [show (decide ((nMi s.N C.fe j).h = nI (s.N i).h) && decide ((nMi s.N C.fe j).w = nI (s.N i).w) && decide ((nMi s.N C.fe j).c = nI (s.N i).c)) = shq (s.N j) (s.N i) from shq_n jb ib]
              refine rk_csI (c_T_require _ h) cT_125 dT_add_56 rfl lT_require (Nat.le_of_ble_eq_true rfl) (Nat.le_of_ble_eq_true rfl) (Nat.le_of_ble_eq_true rfl) (Nat.le_of_ble_eq_true rfl) rfl ⟨(Nat.le_of_ble_eq_true rfl), (Nat.le_of_ble_eq_true rfl)⟩ (fun g_56 => absurd (show ¬ b2i (shq (s.N j) (s.N i)) = 0 by rw [hsh]; decide) g_56) (fun g_56 => ?_)
              refine rk_aload dT_add_59 rfl ?_
              refine rk_getf fT_129 dT_add_61 (by first | exact e1 | exact g1 | exact hna | exact id | exact jd | assumption) rfl ?_
              refine rk_dload_n dT_add_64 rfl ?_
              refine rk_ddiv dT_add_65 (fp_rat2 ib.2.1 (d_scl_iff.mp g_11)) ?_
              refine rk_dstore dT_add_66 (Nat.le_of_ble_eq_true rfl) ?_
              refine rk_aload dT_add_68 rfl ?_
              refine rk_getf fT_129 dT_add_70 (by first | exact e1 | exact g1 | exact hna | exact id | exact jd | assumption) rfl ?_
              refine rk_dload_n dT_add_73 rfl ?_
              refine rk_ddiv dT_add_74 (fp_rat2 jb.2.1 (d_scl_iff.mp g_11)) ?_
              refine rk_dstore dT_add_75 (Nat.le_of_ble_eq_true rfl) ?_
              refine rk_lv [some (.ref C.a), some (.int (nI i)), some (.int (nI j)), some (.double sc), none, some (.ref (C.ad i)), some (.ref (C.ad j)), some (.double (FP.ddiv (s.N i).sc sc)), none, some (.double (FP.ddiv (s.N j).sc sc)), none, none] ⟨rfl, rfl, rfl, rfl, rfl, rfl, rfl, rfl, trivial⟩ ?_
              refine rk_dload dT_add_77 rfl ?_
              refine rk_csI (c_T_requireGood _ h) cT_98 dT_add_79 rfl lT_requireGood (Nat.le_of_ble_eq_true rfl) (Nat.le_of_ble_eq_true rfl) (Nat.le_of_ble_eq_true rfl) (Nat.le_of_ble_eq_true rfl) rfl ⟨(Nat.le_of_ble_eq_true rfl), (Nat.le_of_ble_eq_true rfl)⟩ (fun g_79 => absurd hg1 g_79) (fun g_79 => ?_)
              refine rk_dload dT_add_82 rfl ?_
              refine rk_csI (c_T_requireGood _ h) cT_98 dT_add_84 rfl lT_requireGood (Nat.le_of_ble_eq_true rfl) (Nat.le_of_ble_eq_true rfl) (Nat.le_of_ble_eq_true rfl) (Nat.le_of_ble_eq_true rfl) rfl ⟨(Nat.le_of_ble_eq_true rfl), (Nat.le_of_ble_eq_true rfl)⟩ (fun g_84 => absurd hg2 g_84) (fun g_84 => ?_)
              refine rk_aload_n dT_add_87 rfl ?_
              refine rk_cvI (c_T_requireRoom C.a (tR_of C s.ws s.out s.comp) (gR_of C.A X) h e1 g1) cT_54 dT_add_88 rfl lT_requireRoom (Nat.le_of_ble_eq_true rfl) (Nat.le_of_ble_eq_true rfl) (Nat.le_of_ble_eq_true rfl) (Nat.le_of_ble_eq_true rfl) (by first | exact e1 | exact g1 | exact hna | exact id | exact jd | assumption) rfl ⟨(Nat.le_of_ble_eq_true rfl), (Nat.le_of_ble_eq_true rfl)⟩ (fun g_88 => (by rw [eop, mk3_3 hgg hgd h14]; exact cPost.same k rfl rfl)) (fun g_88 => ?_)
              exact absurd h14 (hroom.mp g_88)
            · skip
              have P := fun (b q : Nat) (bn : h b = none) (hq : h q = none) (hbq : b ≠ q) => k.push ok.1.2.1.inn (by omega) X hX gI b q (x0 4 (some i) (some j) (s.N i).h (s.N i).w (s.N i).c sc) bn hq hbq ic
              have hra : ratA (updN s.N s.n (x0 4 (some i) (some j) (s.N i).h (s.N i).w (s.N i).c sc)) s.n = FP.ddiv (s.N i).sc sc := by
                unfold ratA
                rw [show updN s.N s.n (x0 4 (some i) (some j) (s.N i).h (s.N i).w (s.N i).c sc) s.n = (x0 4 (some i) (some j) (s.N i).h (s.N i).w (s.N i).c sc) from if_pos rfl]
                show FP.ddiv ((updN s.N s.n (x0 4 (some i) (some j) (s.N i).h (s.N i).w (s.N i).c sc) i).sc) sc = _
                rw [show updN s.N s.n (x0 4 (some i) (some j) (s.N i).h (s.N i).w (s.N i).c sc) i = s.N i from if_neg (by omega)]
              have hrb : ratB (updN s.N s.n (x0 4 (some i) (some j) (s.N i).h (s.N i).w (s.N i).c sc)) s.n = FP.ddiv (s.N j).sc sc := by
                unfold ratB
                rw [show updN s.N s.n (x0 4 (some i) (some j) (s.N i).h (s.N i).w (s.N i).c sc) s.n = (x0 4 (some i) (some j) (s.N i).h (s.N i).w (s.N i).c sc) from if_pos rfl]
                show FP.ddiv ((updN s.N s.n (x0 4 (some i) (some j) (s.N i).h (s.N i).w (s.N i).c sc) j).sc) sc = _
                rw [show updN s.N s.n (x0 4 (some i) (some j) (s.N i).h (s.N i).w (s.N i).c sc) j = s.N j from if_neg (by omega)]
              rw [hra, hrb] at P
              refine rk_aload_n dT_add_0 rfl ?_
              refine rk_iload_n dT_add_1 rfl ?_
              refine rk_cvI (c_T_requireNode C.a C.gb (tR_of C s.ws s.out s.comp) (gR_of C.A X) (nI i) h e1 g1) cT_66 dT_add_2 rfl lT_requireNode (Nat.le_of_ble_eq_true rfl) (Nat.le_of_ble_eq_true rfl) (Nat.le_of_ble_eq_true rfl) (Nat.le_of_ble_eq_true rfl) (by first | exact rk_up_k (rk_ne e1 bn) e1 | exact rk_up_k (rk_ne g1 bn) g1 | exact rk_up_k (rk_ne hna bn) hna | exact rk_up_k (rk_ne id bn) id | exact rk_up_k (rk_ne jd bn) jd | exact e1 | exact g1 | exact hna | exact id | exact jd | assumption) rfl ⟨(Nat.le_of_ble_eq_true rfl), (Nat.le_of_ble_eq_true rfl)⟩ (fun g_2 => absurd (show btw (nI i) 0 (nI X.n - 1) by rw [hX]; exact btB_iff.mp hi) g_2) (fun g_2 => ?_)
              refine rk_aload_n dT_add_5 rfl ?_
              refine rk_iload_n dT_add_6 rfl ?_
              refine rk_cvI (c_T_requireNode C.a C.gb (tR_of C s.ws s.out s.comp) (gR_of C.A X) (nI j) h e1 g1) cT_66 dT_add_7 rfl lT_requireNode (Nat.le_of_ble_eq_true rfl) (Nat.le_of_ble_eq_true rfl) (Nat.le_of_ble_eq_true rfl) (Nat.le_of_ble_eq_true rfl) (by first | exact rk_up_k (rk_ne e1 bn) e1 | exact rk_up_k (rk_ne g1 bn) g1 | exact rk_up_k (rk_ne hna bn) hna | exact rk_up_k (rk_ne id bn) id | exact rk_up_k (rk_ne jd bn) jd | exact e1 | exact g1 | exact hna | exact id | exact jd | assumption) rfl ⟨(Nat.le_of_ble_eq_true rfl), (Nat.le_of_ble_eq_true rfl)⟩ (fun g_7 => absurd (show btw (nI j) 0 (nI X.n - 1) by rw [hX]; exact btB_iff.mp hj) g_7) (fun g_7 => ?_)
              refine rk_dload_n dT_add_10 rfl ?_
              refine rk_csI (c_T_requireScale sc h) cT_47 dT_add_11 rfl lT_requireScale (Nat.le_of_ble_eq_true rfl) (Nat.le_of_ble_eq_true rfl) (Nat.le_of_ble_eq_true rfl) (Nat.le_of_ble_eq_true rfl) rfl ⟨(Nat.le_of_ble_eq_true rfl), (Nat.le_of_ble_eq_true rfl)⟩ (fun g_11 => absurd (dsB_iff.mp hs) g_11) (fun g_11 => ?_)
              refine rk_aload_n dT_add_14 rfl ?_
              refine rk_getf fT_12 dT_add_15 (by first | exact rk_up_k (rk_ne e1 bn) e1 | exact rk_up_k (rk_ne g1 bn) g1 | exact rk_up_k (rk_ne hna bn) hna | exact rk_up_k (rk_ne id bn) id | exact rk_up_k (rk_ne jd bn) jd | exact e1 | exact g1 | exact hna | exact id | exact jd | assumption) rfl ?_
              refine rk_getf fT_74 dT_add_18 (by first | exact rk_up_k (rk_ne e1 bn) e1 | exact rk_up_k (rk_ne g1 bn) g1 | exact rk_up_k (rk_ne hna bn) hna | exact rk_up_k (rk_ne id bn) id | exact rk_up_k (rk_ne jd bn) jd | exact e1 | exact g1 | exact hna | exact id | exact jd | assumption) rfl ?_
              refine rk_iload_n dT_add_21 rfl ?_
              refine rk_aald rfl dT_add_22 (by first | exact rk_up_k (rk_ne e1 bn) e1 | exact rk_up_k (rk_ne g1 bn) g1 | exact rk_up_k (rk_ne hna bn) hna | exact rk_up_k (rk_ne id bn) id | exact rk_up_k (rk_ne jd bn) jd | exact e1 | exact g1 | exact hna | exact id | exact jd | assumption) (vp_in_nI i14 (by omega)) (v_nd (by omega) iq) ?_
              refine rk_astore dT_add_23 (Nat.le_of_ble_eq_true rfl) ?_
              refine rk_aload_n dT_add_25 rfl ?_
              refine rk_getf fT_12 dT_add_26 (by first | exact rk_up_k (rk_ne e1 bn) e1 | exact rk_up_k (rk_ne g1 bn) g1 | exact rk_up_k (rk_ne hna bn) hna | exact rk_up_k (rk_ne id bn) id | exact rk_up_k (rk_ne jd bn) jd | exact e1 | exact g1 | exact hna | exact id | exact jd | assumption) rfl ?_
              refine rk_getf fT_74 dT_add_29 (by first | exact rk_up_k (rk_ne e1 bn) e1 | exact rk_up_k (rk_ne g1 bn) g1 | exact rk_up_k (rk_ne hna bn) hna | exact rk_up_k (rk_ne id bn) id | exact rk_up_k (rk_ne jd bn) jd | exact e1 | exact g1 | exact hna | exact id | exact jd | assumption) rfl ?_
              refine rk_iload_n dT_add_32 rfl ?_
              refine rk_aald rfl dT_add_33 (by first | exact rk_up_k (rk_ne e1 bn) e1 | exact rk_up_k (rk_ne g1 bn) g1 | exact rk_up_k (rk_ne hna bn) hna | exact rk_up_k (rk_ne id bn) id | exact rk_up_k (rk_ne jd bn) jd | exact e1 | exact g1 | exact hna | exact id | exact jd | assumption) (vp_in_nI j14 (by omega)) (v_nd (by omega) jq) ?_
              refine rk_astore dT_add_34 (Nat.le_of_ble_eq_true rfl) ?_
              refine rk_lv [some (.ref C.a), some (.int (nI i)), some (.int (nI j)), some (.double sc), none, some (.ref (C.ad i)), some (.ref (C.ad j)), none, none, none, none, none] ⟨rfl, rfl, rfl, rfl, rfl, rfl, trivial⟩ ?_
              refine rk_aload dT_add_36 rfl ?_
              refine rk_aload dT_add_38 rfl ?_
              refine rk_getf fT_101 dT_add_40 (by first | exact rk_up_k (rk_ne e1 bn) e1 | exact rk_up_k (rk_ne g1 bn) g1 | exact rk_up_k (rk_ne hna bn) hna | exact rk_up_k (rk_ne id bn) id | exact rk_up_k (rk_ne jd bn) jd | exact e1 | exact g1 | exact hna | exact id | exact jd | assumption) rfl ?_
              refine rk_aload dT_add_43 rfl ?_
              refine rk_getf fT_108 dT_add_45 (by first | exact rk_up_k (rk_ne e1 bn) e1 | exact rk_up_k (rk_ne g1 bn) g1 | exact rk_up_k (rk_ne hna bn) hna | exact rk_up_k (rk_ne id bn) id | exact rk_up_k (rk_ne jd bn) jd | exact e1 | exact g1 | exact hna | exact id | exact jd | assumption) rfl ?_
              refine rk_aload dT_add_48 rfl ?_
              refine rk_getf fT_88 dT_add_50 (by first | exact rk_up_k (rk_ne e1 bn) e1 | exact rk_up_k (rk_ne g1 bn) g1 | exact rk_up_k (rk_ne hna bn) hna | exact rk_up_k (rk_ne id bn) id | exact rk_up_k (rk_ne jd bn) jd | exact e1 | exact g1 | exact hna | exact id | exact jd | assumption) rfl ?_
              refine rk_cvV (c_N_hasShape (C.ad j) (nMi s.N C.fe j) _ _ _ h jd) cT_121 dT_add_53 rfl lN_hasShape (Nat.le_of_ble_eq_true rfl) (Nat.le_of_ble_eq_true rfl) (Nat.le_of_ble_eq_true rfl) (Nat.le_of_ble_eq_true rfl) (by first | exact rk_up_k (rk_ne e1 bn) e1 | exact rk_up_k (rk_ne g1 bn) g1 | exact rk_up_k (rk_ne hna bn) hna | exact rk_up_k (rk_ne id bn) id | exact rk_up_k (rk_ne jd bn) jd | exact e1 | exact g1 | exact hna | exact id | exact jd | assumption) ?_
              rw [show (decide ((nMi s.N C.fe j).h = nI (s.N i).h) && decide ((nMi s.N C.fe j).w = nI (s.N i).w) && decide ((nMi s.N C.fe j).c = nI (s.N i).c)) = shq (s.N j) (s.N i) from shq_n jb ib]
              refine rk_csI (c_T_require _ h) cT_125 dT_add_56 rfl lT_require (Nat.le_of_ble_eq_true rfl) (Nat.le_of_ble_eq_true rfl) (Nat.le_of_ble_eq_true rfl) (Nat.le_of_ble_eq_true rfl) rfl ⟨(Nat.le_of_ble_eq_true rfl), (Nat.le_of_ble_eq_true rfl)⟩ (fun g_56 => absurd (show ¬ b2i (shq (s.N j) (s.N i)) = 0 by rw [hsh]; decide) g_56) (fun g_56 => ?_)
              refine rk_aload dT_add_59 rfl ?_
              refine rk_getf fT_129 dT_add_61 (by first | exact rk_up_k (rk_ne e1 bn) e1 | exact rk_up_k (rk_ne g1 bn) g1 | exact rk_up_k (rk_ne hna bn) hna | exact rk_up_k (rk_ne id bn) id | exact rk_up_k (rk_ne jd bn) jd | exact e1 | exact g1 | exact hna | exact id | exact jd | assumption) rfl ?_
              refine rk_dload_n dT_add_64 rfl ?_
              refine rk_ddiv dT_add_65 (fp_rat2 ib.2.1 (d_scl_iff.mp g_11)) ?_
              refine rk_dstore dT_add_66 (Nat.le_of_ble_eq_true rfl) ?_
              refine rk_aload dT_add_68 rfl ?_
              refine rk_getf fT_129 dT_add_70 (by first | exact rk_up_k (rk_ne e1 bn) e1 | exact rk_up_k (rk_ne g1 bn) g1 | exact rk_up_k (rk_ne hna bn) hna | exact rk_up_k (rk_ne id bn) id | exact rk_up_k (rk_ne jd bn) jd | exact e1 | exact g1 | exact hna | exact id | exact jd | assumption) rfl ?_
              refine rk_dload_n dT_add_73 rfl ?_
              refine rk_ddiv dT_add_74 (fp_rat2 jb.2.1 (d_scl_iff.mp g_11)) ?_
              refine rk_dstore dT_add_75 (Nat.le_of_ble_eq_true rfl) ?_
              refine rk_lv [some (.ref C.a), some (.int (nI i)), some (.int (nI j)), some (.double sc), none, some (.ref (C.ad i)), some (.ref (C.ad j)), some (.double (FP.ddiv (s.N i).sc sc)), none, some (.double (FP.ddiv (s.N j).sc sc)), none, none] ⟨rfl, rfl, rfl, rfl, rfl, rfl, rfl, rfl, trivial⟩ ?_
              refine rk_dload dT_add_77 rfl ?_
              refine rk_csI (c_T_requireGood _ h) cT_98 dT_add_79 rfl lT_requireGood (Nat.le_of_ble_eq_true rfl) (Nat.le_of_ble_eq_true rfl) (Nat.le_of_ble_eq_true rfl) (Nat.le_of_ble_eq_true rfl) rfl ⟨(Nat.le_of_ble_eq_true rfl), (Nat.le_of_ble_eq_true rfl)⟩ (fun g_79 => absurd hg1 g_79) (fun g_79 => ?_)
              refine rk_dload dT_add_82 rfl ?_
              refine rk_csI (c_T_requireGood _ h) cT_98 dT_add_84 rfl lT_requireGood (Nat.le_of_ble_eq_true rfl) (Nat.le_of_ble_eq_true rfl) (Nat.le_of_ble_eq_true rfl) (Nat.le_of_ble_eq_true rfl) rfl ⟨(Nat.le_of_ble_eq_true rfl), (Nat.le_of_ble_eq_true rfl)⟩ (fun g_84 => absurd hg2 g_84) (fun g_84 => ?_)
              refine rk_aload_n dT_add_87 rfl ?_
              refine rk_cvI (c_T_requireRoom C.a (tR_of C s.ws s.out s.comp) (gR_of C.A X) h e1 g1) cT_54 dT_add_88 rfl lT_requireRoom (Nat.le_of_ble_eq_true rfl) (Nat.le_of_ble_eq_true rfl) (Nat.le_of_ble_eq_true rfl) (Nat.le_of_ble_eq_true rfl) (by first | exact rk_up_k (rk_ne e1 bn) e1 | exact rk_up_k (rk_ne g1 bn) g1 | exact rk_up_k (rk_ne hna bn) hna | exact rk_up_k (rk_ne id bn) id | exact rk_up_k (rk_ne jd bn) jd | exact e1 | exact g1 | exact hna | exact id | exact jd | assumption) rfl ⟨(Nat.le_of_ble_eq_true rfl), (Nat.le_of_ble_eq_true rfl)⟩ (fun g_88 => absurd (hroom.mpr h14) g_88) (fun g_88 => ?_)
              refine rk_new (fs := [.int 0, .int 0, .int 0, .int 0, .int 0, .int 0, .int 0, .double 0, .null, .int 0, .int 0, .double 0, .int 0, .int 0, .double 0, .double 0]) kN nT_57.1 nT_57.2.1 nT_57.2.2 (by intro j hj; rcases (show j = 0 ∨ j = 1 ∨ j = 2 ∨ j = 3 ∨ j = 4 ∨ j = 5 ∨ j = 6 ∨ j = 7 ∨ j = 8 ∨ j = 9 ∨ j = 10 ∨ j = 11 ∨ j = 12 ∨ j = 13 ∨ j = 14 ∨ j = 15 by omega) with rfl | rfl | rfl | rfl | rfl | rfl | rfl | rfl | rfl | rfl | rfl | rfl | rfl | rfl | rfl | rfl <;> rfl) dT_add_91 (Nat.le_of_ble_eq_true rfl) (Nat.le_of_ble_eq_true rfl) (fun b bn => ?_)
              refine rk_dup dT_add_94 rfl ?_
              refine rk_iconst (v := 4) dT_add_95 (by decide) ?_
              refine rk_iload_n dT_add_96 rfl ?_
              refine rk_iload_n dT_add_97 rfl ?_
              refine rk_aload dT_add_98 rfl ?_
              refine rk_getf fT_101 dT_add_100 (by first | exact rk_up_k (rk_ne e1 bn) e1 | exact rk_up_k (rk_ne g1 bn) g1 | exact rk_up_k (rk_ne hna bn) hna | exact rk_up_k (rk_ne id bn) id | exact rk_up_k (rk_ne jd bn) jd | exact e1 | exact g1 | exact hna | exact id | exact jd | assumption) rfl ?_
              refine rk_aload dT_add_103 rfl ?_
              refine rk_getf fT_108 dT_add_105 (by first | exact rk_up_k (rk_ne e1 bn) e1 | exact rk_up_k (rk_ne g1 bn) g1 | exact rk_up_k (rk_ne hna bn) hna | exact rk_up_k (rk_ne id bn) id | exact rk_up_k (rk_ne jd bn) jd | exact e1 | exact g1 | exact hna | exact id | exact jd | assumption) rfl ?_
              refine rk_aload dT_add_108 rfl ?_
              refine rk_getf fT_88 dT_add_110 (by first | exact rk_up_k (rk_ne e1 bn) e1 | exact rk_up_k (rk_ne g1 bn) g1 | exact rk_up_k (rk_ne hna bn) hna | exact rk_up_k (rk_ne id bn) id | exact rk_up_k (rk_ne jd bn) jd | exact e1 | exact g1 | exact hna | exact id | exact jd | assumption) rfl ?_
              refine rk_dload_n dT_add_113 rfl ?_
              refine rk_cnG (c_N_init b 4 (some i) (some j) (s.N i).h (s.N i).w (s.N i).c sc _ rk_up_s ic (by omega)) cT_59 dT_add_114 rfl lN_init (Nat.le_of_ble_eq_true rfl) (Nat.le_of_ble_eq_true rfl) (Nat.le_of_ble_eq_true rfl) (Nat.le_of_ble_eq_true rfl) ?_
              rintro r_0 h_0 ⟨rfl, q, hq0, rfl⟩
              refine rk_nx0 ?_
              obtain ⟨hbq, hq⟩ := new_fr hq0
              rw [new_sw hbq]
              have hab : C.a ≠ b := rk_ne e1 bn
              have haq : C.a ≠ q := rk_ne e1 hq
              have hgb : C.gb ≠ b := rk_ne g1 bn
              have hgq : C.gb ≠ q := rk_ne g1 hq
              have hnb : C.A.na ≠ b := rk_ne hna bn
              have hnq : C.A.na ≠ q := rk_ne hna hq
              refine rk_astore dT_add_117 (Nat.le_of_ble_eq_true rfl) ?_
              refine rk_aload dT_add_119 rfl ?_
              refine rk_dload dT_add_121 rfl ?_
              refine rk_putf pT_132 dT_add_123 (by first | (simp only [rk_up_s, rk_up_n hab, rk_up_n haq, rk_up_n hgb, rk_up_n hgq, rk_up_n hnb, rk_up_n hnq]; first | exact e1 | exact g1 | exact hna | rfl) | exact e1 | exact g1 | exact hna | assumption) (Nat.le_of_ble_eq_true rfl) rfl rfl ?_
              refine rk_aload dT_add_126 rfl ?_
              refine rk_dload dT_add_128 rfl ?_
              refine rk_putf pT_135 dT_add_130 (by first | (simp only [rk_up_s, rk_up_n hab, rk_up_n haq, rk_up_n hgb, rk_up_n hgq, rk_up_n hnb, rk_up_n hnq]; first | exact e1 | exact g1 | exact hna | rfl) | exact e1 | exact g1 | exact hna | assumption) (Nat.le_of_ble_eq_true rfl) rfl rfl ?_
              rw [rk_up_up, rk_up_up]
              refine rk_aload_n dT_add_133 rfl ?_
              refine rk_aload dT_add_134 rfl ?_
              refine rk_cvV (c_T_keep C s b X _ _ (by simp only [rk_up_s, rk_up_n hab, rk_up_n haq, rk_up_n hgb, rk_up_n hgq, rk_up_n hnb, rk_up_n hnq]; exact e1) (by simp only [rk_up_s, rk_up_n hab, rk_up_n haq, rk_up_n hgb, rk_up_n hgq, rk_up_n hnb, rk_up_n hnq]; exact g1) (by simp only [rk_up_s, rk_up_n hab, rk_up_n haq, rk_up_n hgb, rk_up_n hgq, rk_up_n hnb, rk_up_n hnq]; exact hna) rk_up_s (by omega)) cT_62 dT_add_136 rfl lT_keep (Nat.le_of_ble_eq_true rfl) (Nat.le_of_ble_eq_true rfl) (Nat.le_of_ble_eq_true rfl) (Nat.le_of_ble_eq_true rfl) (by first | (simp only [rk_up_s, rk_up_n hab, rk_up_n haq, rk_up_n hgb, rk_up_n hgq, rk_up_n hnb, rk_up_n hnq]; first | exact e1 | exact g1 | exact hna | rfl) | exact e1 | exact g1 | exact hna | assumption) ?_
              exact rk_iret rfl dT_add_139 ⟨(Nat.le_of_ble_eq_true rfl), (Nat.le_of_ble_eq_true rfl)⟩ (by rw [eop, mk3_0 hgg hgd h14]; exact ⟨⟨_, (P b q bn hq hbq).1, (P b q bn hq hbq).2⟩, by rw [hX]; rfl⟩)
          · have eo : opAdd s (nI i) (nI j) sc = (2, none, s) := by rw [eop]; exact mk3_2 hgg hgd
            refine rk_aload_n dT_add_0 rfl ?_
            refine rk_iload_n dT_add_1 rfl ?_
            refine rk_cvI (c_T_requireNode C.a C.gb (tR_of C s.ws s.out s.comp) (gR_of C.A X) (nI i) h e1 g1) cT_66 dT_add_2 rfl lT_requireNode (Nat.le_of_ble_eq_true rfl) (Nat.le_of_ble_eq_true rfl) (Nat.le_of_ble_eq_true rfl) (Nat.le_of_ble_eq_true rfl) (by first | exact e1 | exact g1 | exact hna | exact id | exact jd | assumption) rfl ⟨(Nat.le_of_ble_eq_true rfl), (Nat.le_of_ble_eq_true rfl)⟩ (fun g_2 => absurd (show btw (nI i) 0 (nI X.n - 1) by rw [hX]; exact btB_iff.mp hi) g_2) (fun g_2 => ?_)
            refine rk_aload_n dT_add_5 rfl ?_
            refine rk_iload_n dT_add_6 rfl ?_
            refine rk_cvI (c_T_requireNode C.a C.gb (tR_of C s.ws s.out s.comp) (gR_of C.A X) (nI j) h e1 g1) cT_66 dT_add_7 rfl lT_requireNode (Nat.le_of_ble_eq_true rfl) (Nat.le_of_ble_eq_true rfl) (Nat.le_of_ble_eq_true rfl) (Nat.le_of_ble_eq_true rfl) (by first | exact e1 | exact g1 | exact hna | exact id | exact jd | assumption) rfl ⟨(Nat.le_of_ble_eq_true rfl), (Nat.le_of_ble_eq_true rfl)⟩ (fun g_7 => absurd (show btw (nI j) 0 (nI X.n - 1) by rw [hX]; exact btB_iff.mp hj) g_7) (fun g_7 => ?_)
            refine rk_dload_n dT_add_10 rfl ?_
            refine rk_csI (c_T_requireScale sc h) cT_47 dT_add_11 rfl lT_requireScale (Nat.le_of_ble_eq_true rfl) (Nat.le_of_ble_eq_true rfl) (Nat.le_of_ble_eq_true rfl) (Nat.le_of_ble_eq_true rfl) rfl ⟨(Nat.le_of_ble_eq_true rfl), (Nat.le_of_ble_eq_true rfl)⟩ (fun g_11 => absurd (dsB_iff.mp hs) g_11) (fun g_11 => ?_)
            refine rk_aload_n dT_add_14 rfl ?_
            refine rk_getf fT_12 dT_add_15 (by first | exact e1 | exact g1 | exact hna | exact id | exact jd | assumption) rfl ?_
            refine rk_getf fT_74 dT_add_18 (by first | exact e1 | exact g1 | exact hna | exact id | exact jd | assumption) rfl ?_
            refine rk_iload_n dT_add_21 rfl ?_
            refine rk_aald rfl dT_add_22 (by first | exact e1 | exact g1 | exact hna | exact id | exact jd | assumption) (vp_in_nI i14 (by omega)) (v_nd (by omega) iq) ?_
            refine rk_astore dT_add_23 (Nat.le_of_ble_eq_true rfl) ?_
            refine rk_aload_n dT_add_25 rfl ?_
            refine rk_getf fT_12 dT_add_26 (by first | exact e1 | exact g1 | exact hna | exact id | exact jd | assumption) rfl ?_
            refine rk_getf fT_74 dT_add_29 (by first | exact e1 | exact g1 | exact hna | exact id | exact jd | assumption) rfl ?_
            refine rk_iload_n dT_add_32 rfl ?_
            refine rk_aald rfl dT_add_33 (by first | exact e1 | exact g1 | exact hna | exact id | exact jd | assumption) (vp_in_nI j14 (by omega)) (v_nd (by omega) jq) ?_
            refine rk_astore dT_add_34 (Nat.le_of_ble_eq_true rfl) ?_
            refine rk_lv [some (.ref C.a), some (.int (nI i)), some (.int (nI j)), some (.double sc), none, some (.ref (C.ad i)), some (.ref (C.ad j)), none, none, none, none, none] ⟨rfl, rfl, rfl, rfl, rfl, rfl, trivial⟩ ?_
            refine rk_aload dT_add_36 rfl ?_
            refine rk_aload dT_add_38 rfl ?_
            refine rk_getf fT_101 dT_add_40 (by first | exact e1 | exact g1 | exact hna | exact id | exact jd | assumption) rfl ?_
            refine rk_aload dT_add_43 rfl ?_
            refine rk_getf fT_108 dT_add_45 (by first | exact e1 | exact g1 | exact hna | exact id | exact jd | assumption) rfl ?_
            refine rk_aload dT_add_48 rfl ?_
            refine rk_getf fT_88 dT_add_50 (by first | exact e1 | exact g1 | exact hna | exact id | exact jd | assumption) rfl ?_
            refine rk_cvV (c_N_hasShape (C.ad j) (nMi s.N C.fe j) _ _ _ h jd) cT_121 dT_add_53 rfl lN_hasShape (Nat.le_of_ble_eq_true rfl) (Nat.le_of_ble_eq_true rfl) (Nat.le_of_ble_eq_true rfl) (Nat.le_of_ble_eq_true rfl) (by first | exact e1 | exact g1 | exact hna | exact id | exact jd | assumption) ?_
            rw [show (decide ((nMi s.N C.fe j).h = nI (s.N i).h) && decide ((nMi s.N C.fe j).w = nI (s.N i).w) && decide ((nMi s.N C.fe j).c = nI (s.N i).c)) = shq (s.N j) (s.N i) from shq_n jb ib]
            refine rk_csI (c_T_require _ h) cT_125 dT_add_56 rfl lT_require (Nat.le_of_ble_eq_true rfl) (Nat.le_of_ble_eq_true rfl) (Nat.le_of_ble_eq_true rfl) (Nat.le_of_ble_eq_true rfl) rfl ⟨(Nat.le_of_ble_eq_true rfl), (Nat.le_of_ble_eq_true rfl)⟩ (fun g_56 => absurd (show ¬ b2i (shq (s.N j) (s.N i)) = 0 by rw [hsh]; decide) g_56) (fun g_56 => ?_)
            refine rk_aload dT_add_59 rfl ?_
            refine rk_getf fT_129 dT_add_61 (by first | exact e1 | exact g1 | exact hna | exact id | exact jd | assumption) rfl ?_
            refine rk_dload_n dT_add_64 rfl ?_
            refine rk_ddiv dT_add_65 (fp_rat2 ib.2.1 (d_scl_iff.mp g_11)) ?_
            refine rk_dstore dT_add_66 (Nat.le_of_ble_eq_true rfl) ?_
            refine rk_aload dT_add_68 rfl ?_
            refine rk_getf fT_129 dT_add_70 (by first | exact e1 | exact g1 | exact hna | exact id | exact jd | assumption) rfl ?_
            refine rk_dload_n dT_add_73 rfl ?_
            refine rk_ddiv dT_add_74 (fp_rat2 jb.2.1 (d_scl_iff.mp g_11)) ?_
            refine rk_dstore dT_add_75 (Nat.le_of_ble_eq_true rfl) ?_
            refine rk_lv [some (.ref C.a), some (.int (nI i)), some (.int (nI j)), some (.double sc), none, some (.ref (C.ad i)), some (.ref (C.ad j)), some (.double (FP.ddiv (s.N i).sc sc)), none, some (.double (FP.ddiv (s.N j).sc sc)), none, none] ⟨rfl, rfl, rfl, rfl, rfl, rfl, rfl, rfl, trivial⟩ ?_
            refine rk_dload dT_add_77 rfl ?_
            refine rk_csI (c_T_requireGood _ h) cT_98 dT_add_79 rfl lT_requireGood (Nat.le_of_ble_eq_true rfl) (Nat.le_of_ble_eq_true rfl) (Nat.le_of_ble_eq_true rfl) (Nat.le_of_ble_eq_true rfl) rfl ⟨(Nat.le_of_ble_eq_true rfl), (Nat.le_of_ble_eq_true rfl)⟩ (fun g_79 => (by rw [eo]; exact cPost.same k rfl rfl)) (fun g_79 => ?_)
            refine rk_dload dT_add_82 rfl ?_
            refine rk_csI (c_T_requireGood _ h) cT_98 dT_add_84 rfl lT_requireGood (Nat.le_of_ble_eq_true rfl) (Nat.le_of_ble_eq_true rfl) (Nat.le_of_ble_eq_true rfl) (Nat.le_of_ble_eq_true rfl) rfl ⟨(Nat.le_of_ble_eq_true rfl), (Nat.le_of_ble_eq_true rfl)⟩ (fun g_84 => (by rw [eo]; exact cPost.same k rfl rfl)) (fun g_84 => ?_)
            exact absurd (and2.mpr ⟨g_79, g_84⟩) hgd
        · have eo : opAdd s (nI i) (nI j) sc = (1, none, s) := by rw [eop]; exact mk3_1 (fun w => hsh (and2.mp w).2)
          refine rk_aload_n dT_add_0 rfl ?_
          refine rk_iload_n dT_add_1 rfl ?_
          refine rk_cvI (c_T_requireNode C.a C.gb (tR_of C s.ws s.out s.comp) (gR_of C.A X) (nI i) h e1 g1) cT_66 dT_add_2 rfl lT_requireNode (Nat.le_of_ble_eq_true rfl) (Nat.le_of_ble_eq_true rfl) (Nat.le_of_ble_eq_true rfl) (Nat.le_of_ble_eq_true rfl) (by first | exact e1 | exact g1 | exact hna | exact id | exact jd | assumption) rfl ⟨(Nat.le_of_ble_eq_true rfl), (Nat.le_of_ble_eq_true rfl)⟩ (fun g_2 => absurd (show btw (nI i) 0 (nI X.n - 1) by rw [hX]; exact btB_iff.mp hi) g_2) (fun g_2 => ?_)
          refine rk_aload_n dT_add_5 rfl ?_
          refine rk_iload_n dT_add_6 rfl ?_
          refine rk_cvI (c_T_requireNode C.a C.gb (tR_of C s.ws s.out s.comp) (gR_of C.A X) (nI j) h e1 g1) cT_66 dT_add_7 rfl lT_requireNode (Nat.le_of_ble_eq_true rfl) (Nat.le_of_ble_eq_true rfl) (Nat.le_of_ble_eq_true rfl) (Nat.le_of_ble_eq_true rfl) (by first | exact e1 | exact g1 | exact hna | exact id | exact jd | assumption) rfl ⟨(Nat.le_of_ble_eq_true rfl), (Nat.le_of_ble_eq_true rfl)⟩ (fun g_7 => absurd (show btw (nI j) 0 (nI X.n - 1) by rw [hX]; exact btB_iff.mp hj) g_7) (fun g_7 => ?_)
          refine rk_dload_n dT_add_10 rfl ?_
          refine rk_csI (c_T_requireScale sc h) cT_47 dT_add_11 rfl lT_requireScale (Nat.le_of_ble_eq_true rfl) (Nat.le_of_ble_eq_true rfl) (Nat.le_of_ble_eq_true rfl) (Nat.le_of_ble_eq_true rfl) rfl ⟨(Nat.le_of_ble_eq_true rfl), (Nat.le_of_ble_eq_true rfl)⟩ (fun g_11 => absurd (dsB_iff.mp hs) g_11) (fun g_11 => ?_)
          refine rk_aload_n dT_add_14 rfl ?_
          refine rk_getf fT_12 dT_add_15 (by first | exact e1 | exact g1 | exact hna | exact id | exact jd | assumption) rfl ?_
          refine rk_getf fT_74 dT_add_18 (by first | exact e1 | exact g1 | exact hna | exact id | exact jd | assumption) rfl ?_
          refine rk_iload_n dT_add_21 rfl ?_
          refine rk_aald rfl dT_add_22 (by first | exact e1 | exact g1 | exact hna | exact id | exact jd | assumption) (vp_in_nI i14 (by omega)) (v_nd (by omega) iq) ?_
          refine rk_astore dT_add_23 (Nat.le_of_ble_eq_true rfl) ?_
          refine rk_aload_n dT_add_25 rfl ?_
          refine rk_getf fT_12 dT_add_26 (by first | exact e1 | exact g1 | exact hna | exact id | exact jd | assumption) rfl ?_
          refine rk_getf fT_74 dT_add_29 (by first | exact e1 | exact g1 | exact hna | exact id | exact jd | assumption) rfl ?_
          refine rk_iload_n dT_add_32 rfl ?_
          refine rk_aald rfl dT_add_33 (by first | exact e1 | exact g1 | exact hna | exact id | exact jd | assumption) (vp_in_nI j14 (by omega)) (v_nd (by omega) jq) ?_
          refine rk_astore dT_add_34 (Nat.le_of_ble_eq_true rfl) ?_
          refine rk_lv [some (.ref C.a), some (.int (nI i)), some (.int (nI j)), some (.double sc), none, some (.ref (C.ad i)), some (.ref (C.ad j)), none, none, none, none, none] ⟨rfl, rfl, rfl, rfl, rfl, rfl, trivial⟩ ?_
          refine rk_aload dT_add_36 rfl ?_
          refine rk_aload dT_add_38 rfl ?_
          refine rk_getf fT_101 dT_add_40 (by first | exact e1 | exact g1 | exact hna | exact id | exact jd | assumption) rfl ?_
          refine rk_aload dT_add_43 rfl ?_
          refine rk_getf fT_108 dT_add_45 (by first | exact e1 | exact g1 | exact hna | exact id | exact jd | assumption) rfl ?_
          refine rk_aload dT_add_48 rfl ?_
          refine rk_getf fT_88 dT_add_50 (by first | exact e1 | exact g1 | exact hna | exact id | exact jd | assumption) rfl ?_
          refine rk_cvV (c_N_hasShape (C.ad j) (nMi s.N C.fe j) _ _ _ h jd) cT_121 dT_add_53 rfl lN_hasShape (Nat.le_of_ble_eq_true rfl) (Nat.le_of_ble_eq_true rfl) (Nat.le_of_ble_eq_true rfl) (Nat.le_of_ble_eq_true rfl) (by first | exact e1 | exact g1 | exact hna | exact id | exact jd | assumption) ?_
          rw [show (decide ((nMi s.N C.fe j).h = nI (s.N i).h) && decide ((nMi s.N C.fe j).w = nI (s.N i).w) && decide ((nMi s.N C.fe j).c = nI (s.N i).c)) = shq (s.N j) (s.N i) from shq_n jb ib]
          refine rk_csI (c_T_require _ h) cT_125 dT_add_56 rfl lT_require (Nat.le_of_ble_eq_true rfl) (Nat.le_of_ble_eq_true rfl) (Nat.le_of_ble_eq_true rfl) (Nat.le_of_ble_eq_true rfl) rfl ⟨(Nat.le_of_ble_eq_true rfl), (Nat.le_of_ble_eq_true rfl)⟩ (fun g_56 => (by rw [eo]; exact cPost.same k rfl rfl)) (fun g_56 => ?_)
          exact absurd (b2i_1 g_56) hsh
      · have eo : opAdd s (nI i) (nI j) sc = (1, none, s) := by rw [eop]; exact mk3_1 (fun w => hs (and2.mp (and2.mp w).1).2)
        refine rk_aload_n dT_add_0 rfl ?_
        refine rk_iload_n dT_add_1 rfl ?_
        refine rk_cvI (c_T_requireNode C.a C.gb (tR_of C s.ws s.out s.comp) (gR_of C.A X) (nI i) h e1 g1) cT_66 dT_add_2 rfl lT_requireNode (Nat.le_of_ble_eq_true rfl) (Nat.le_of_ble_eq_true rfl) (Nat.le_of_ble_eq_true rfl) (Nat.le_of_ble_eq_true rfl) (by first | exact e1 | exact g1 | exact hna | exact id | exact jd | assumption) rfl ⟨(Nat.le_of_ble_eq_true rfl), (Nat.le_of_ble_eq_true rfl)⟩ (fun g_2 => absurd (show btw (nI i) 0 (nI X.n - 1) by rw [hX]; exact btB_iff.mp hi) g_2) (fun g_2 => ?_)
        refine rk_aload_n dT_add_5 rfl ?_
        refine rk_iload_n dT_add_6 rfl ?_
        refine rk_cvI (c_T_requireNode C.a C.gb (tR_of C s.ws s.out s.comp) (gR_of C.A X) (nI j) h e1 g1) cT_66 dT_add_7 rfl lT_requireNode (Nat.le_of_ble_eq_true rfl) (Nat.le_of_ble_eq_true rfl) (Nat.le_of_ble_eq_true rfl) (Nat.le_of_ble_eq_true rfl) (by first | exact e1 | exact g1 | exact hna | exact id | exact jd | assumption) rfl ⟨(Nat.le_of_ble_eq_true rfl), (Nat.le_of_ble_eq_true rfl)⟩ (fun g_7 => absurd (show btw (nI j) 0 (nI X.n - 1) by rw [hX]; exact btB_iff.mp hj) g_7) (fun g_7 => ?_)
        refine rk_dload_n dT_add_10 rfl ?_
        refine rk_csI (c_T_requireScale sc h) cT_47 dT_add_11 rfl lT_requireScale (Nat.le_of_ble_eq_true rfl) (Nat.le_of_ble_eq_true rfl) (Nat.le_of_ble_eq_true rfl) (Nat.le_of_ble_eq_true rfl) rfl ⟨(Nat.le_of_ble_eq_true rfl), (Nat.le_of_ble_eq_true rfl)⟩ (fun g_11 => (by rw [eo]; exact cPost.same k rfl rfl)) (fun g_11 => ?_)
        exact absurd (dsB_iff.mpr g_11) hs
    · have eo : opAdd s (nI i) q0 sc = (1, none, s) := mk3_1 (fun w => hj (and2.mp (and2.mp (and2.mp w).1).1).2)
      refine rk_aload_n dT_add_0 rfl ?_
      refine rk_iload_n dT_add_1 rfl ?_
      refine rk_cvI (c_T_requireNode C.a C.gb (tR_of C s.ws s.out s.comp) (gR_of C.A X) (nI i) h e1 g1) cT_66 dT_add_2 rfl lT_requireNode (Nat.le_of_ble_eq_true rfl) (Nat.le_of_ble_eq_true rfl) (Nat.le_of_ble_eq_true rfl) (Nat.le_of_ble_eq_true rfl) (by first | exact e1 | exact g1 | assumption) rfl ⟨(Nat.le_of_ble_eq_true rfl), (Nat.le_of_ble_eq_true rfl)⟩ (fun g_2 => absurd (show btw (nI i) 0 (nI X.n - 1) by rw [hX]; exact btB_iff.mp hi) g_2) (fun g_2 => ?_)
      refine rk_aload_n dT_add_5 rfl ?_
      refine rk_iload_n dT_add_6 rfl ?_
      refine rk_cvI (c_T_requireNode C.a C.gb (tR_of C s.ws s.out s.comp) (gR_of C.A X) q0 h e1 g1) cT_66 dT_add_7 rfl lT_requireNode (Nat.le_of_ble_eq_true rfl) (Nat.le_of_ble_eq_true rfl) (Nat.le_of_ble_eq_true rfl) (Nat.le_of_ble_eq_true rfl) (by first | exact e1 | exact g1 | assumption) rfl ⟨(Nat.le_of_ble_eq_true rfl), (Nat.le_of_ble_eq_true rfl)⟩ (fun g_7 => (by rw [eo]; exact cPost.same k rfl rfl)) (fun g_7 => ?_)
      exact absurd (btB_iff.mpr (show btw q0 0 (nI s.n - 1) by rw [← hX]; exact g_7)) hj
  · have eo : opAdd s p q0 sc = (1, none, s) := mk3_1 (fun w => hi (and2.mp (and2.mp (and2.mp w).1).1).1)
    refine rk_aload_n dT_add_0 rfl ?_
    refine rk_iload_n dT_add_1 rfl ?_
    refine rk_cvI (c_T_requireNode C.a C.gb (tR_of C s.ws s.out s.comp) (gR_of C.A X) p h e1 g1) cT_66 dT_add_2 rfl lT_requireNode (Nat.le_of_ble_eq_true rfl) (Nat.le_of_ble_eq_true rfl) (Nat.le_of_ble_eq_true rfl) (Nat.le_of_ble_eq_true rfl) (by first | exact e1 | exact g1 | assumption) rfl ⟨(Nat.le_of_ble_eq_true rfl), (Nat.le_of_ble_eq_true rfl)⟩ (fun g_2 => (by rw [eo]; exact cPost.same k rfl rfl)) (fun g_2 => ?_)
    exact absurd (btB_iff.mpr (show btw p 0 (nI s.n - 1) by rw [← hX]; exact g_2)) hi
