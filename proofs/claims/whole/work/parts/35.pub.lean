/-! TensorForge: calls that make no node -/
def gR_of (A : gA) (X : gX) : gR := ((A.na, A.sf, A.st, A.sp, A.pl, A.la), (nI X.n, X.sn, X.pk))
def tR_of (C : cT) (w : UInt64) (o : Option Nat) (c : Bool) : tR := ((C.gb, C.mb), w, oI o, b2i c)
theorem tN_I {j : Nat} (h : j < 2 ^ 31) : tN (nI j) = j := nI_clamp h
theorem c_T_weights (C : cT) (s : aS) (off : Int32) (x : Int64) (h : rk_H) (k : cOK h C s) (ok : aOK s) : rk_Con mT_weights (8, 108, 1, 6) [.ref C.a, .int off, .long x] h (cPost h C s.n (opWeights s off x) (exL [x_IA])) := by
  have e1 := k.1.1
  have e2 := k.1.2.1.1.1
  have e3 := k.1.2.1.1.2
  refine rk_Con.of [some (.ref C.a), some (.int off), some (.long x), none] rfl (Nat.le_of_ble_eq_true rfl) (by decide +kernel) ?_
  by_cases hg : btw off 0 511
  · obtain ⟨j, hj, rfl⟩ := btwK (m := 511) rfl (by omega) hg
    refine rk_iload_n dT_weights_0 rfl ?_
    refine rk_iconst (v := 0) dT_weights_1 (by decide) ?_
    refine rk_sipush (v := 511) dT_weights_2 (by decide) ?_
    refine rk_csI (c_T_requireBetween _ _ _ h) cT_35 dT_weights_5 rfl lT_requireBetween (Nat.le_of_ble_eq_true rfl) (Nat.le_of_ble_eq_true rfl) (Nat.le_of_ble_eq_true rfl) (Nat.le_of_ble_eq_true rfl) rfl ⟨(Nat.le_of_ble_eq_true rfl), (Nat.le_of_ble_eq_true rfl)⟩ (fun g_5 => absurd hg g_5) (fun g_5 => ?_)
    refine rk_lload_n dT_weights_8 rfl ?_
    refine rk_aload_n dT_weights_9 rfl ?_
    refine rk_getf fT_19 dT_weights_10 (by first | exact e1 | exact e2 | exact e3 | assumption) rfl ?_
    refine rk_getf fT_39 dT_weights_13 (by first | exact e1 | exact e2 | exact e3 | assumption) rfl ?_
    refine rk_iload_n dT_weights_16 rfl ?_
    refine rk_csV (c_T_spread x C.M.wc 512 j s.wt h e3 (by omega) (by omega)) cT_43 dT_weights_17 rfl lT_spread (Nat.le_of_ble_eq_true rfl) (Nat.le_of_ble_eq_true rfl) (Nat.le_of_ble_eq_true rfl) (Nat.le_of_ble_eq_true rfl) ?_
    exact rk_iret rfl dT_weights_20 ⟨(Nat.le_of_ble_eq_true rfl), (Nat.le_of_ble_eq_true rfl)⟩ (by unfold opWeights; rw [if_pos (btB_iff.mpr hg), tN_I (show j < 2 ^ 31 by omega)]; exact ⟨⟨C, k.wc _ ok.1.2.1.bd, frm.up own.wc⟩, rfl⟩)
  · refine rk_iload_n dT_weights_0 rfl ?_
    refine rk_iconst (v := 0) dT_weights_1 (by decide) ?_
    refine rk_sipush (v := 511) dT_weights_2 (by decide) ?_
    refine rk_csI (c_T_requireBetween _ _ _ h) cT_35 dT_weights_5 rfl lT_requireBetween (Nat.le_of_ble_eq_true rfl) (Nat.le_of_ble_eq_true rfl) (Nat.le_of_ble_eq_true rfl) (Nat.le_of_ble_eq_true rfl) rfl ⟨(Nat.le_of_ble_eq_true rfl), (Nat.le_of_ble_eq_true rfl)⟩ (fun g_5 => (by unfold opWeights; rw [if_neg (fun z => hg (btB_iff.mp z))]; exact cPost.same k rfl rfl)) (fun g_5 => ?_)
    exact absurd g_5 hg
theorem c_T_weightScale (C : cT) (s : aS) (r : UInt64) (h : rk_H) (k : cOK h C s) : rk_Con mT_weightScale (8, 107, 1, 6) [.ref C.a, .double r] h (cPost h C s.n (opWeightScale s r) (exL [x_IA])) := by
  have e1 := k.1.1
  refine rk_Con.of [some (.ref C.a), some (.double r), none] rfl (Nat.le_of_ble_eq_true rfl) (by decide +kernel) ?_
  refine rk_dload_n dT_weightScale_0 rfl ?_
  refine rk_csI (c_T_requireScale _ h) cT_47 dT_weightScale_1 rfl lT_requireScale (Nat.le_of_ble_eq_true rfl) (Nat.le_of_ble_eq_true rfl) (Nat.le_of_ble_eq_true rfl) (Nat.le_of_ble_eq_true rfl) rfl ⟨(Nat.le_of_ble_eq_true rfl), (Nat.le_of_ble_eq_true rfl)⟩ (fun g_1 => (by unfold opWeightScale; rw [if_neg (fun z => g_1 (dsB_iff.mp z))]; exact cPost.same k rfl rfl)) (fun g_1 => ?_)
  refine rk_aload_n dT_weightScale_4 rfl ?_
  refine rk_dload_n dT_weightScale_5 rfl ?_
  refine rk_putf pT_23 dT_weightScale_6 (by first | exact e1 | assumption) (Nat.le_of_ble_eq_true rfl) rfl rfl ?_
  exact rk_ret rfl dT_weightScale_9 ⟨(Nat.le_of_ble_eq_true rfl), (Nat.le_of_ble_eq_true rfl)⟩ (by unfold opWeightScale; rw [if_pos (dsB_iff.mpr g_1)]; exact ⟨⟨C, k.ta r s.out s.comp (fun z => ⟨z, rfl⟩), frm.up own.a⟩, rfl⟩)
theorem c_T_output (C : cT) (s : aS) (x : Int32) (h : rk_H) (k : cOK h C s) (ok : aOK s) : rk_Con mT_output (9, 121, 1, 6) [.ref C.a, .int x] h (cPost h C s.n (opOutput s x) (exL [x_IA])) := by
  have e1 := k.1.1
  obtain ⟨X, hX, g1, -⟩ := k.1.2.2.1.1.1
  refine rk_Con.of [some (.ref C.a), some (.int x)] rfl (Nat.le_of_ble_eq_true rfl) (by decide +kernel) ?_
  by_cases hg : ndB s x = true
  · obtain ⟨j, hj, rfl⟩ := ndB_of ok.1.1 hg
    obtain ⟨hq, hnd⟩ := k.1.2.2.1.2.1.2 j hj
    have hna := k.1.2.2.1.2.1.1
    have hjn : j < 14 := by have := ok.1.1; omega
    have hga : C.gb ≠ C.a := rk_neq g1 e1 (by intro q; cases q)
    have hnaa : C.A.na ≠ C.a := rk_neq hna e1 (by intro q; cases q)
    have hnda : C.ad j ≠ C.a := rk_neq hnd e1 (by intro q; cases q)
    refine rk_aload_n dT_output_0 rfl ?_
    refine rk_iload_n dT_output_1 rfl ?_
    refine rk_cvI (c_T_requireNode C.a C.gb (tR_of C s.ws s.out s.comp) (gR_of C.A X) (nI j) h e1 g1) cT_66 dT_output_2 rfl lT_requireNode (Nat.le_of_ble_eq_true rfl) (Nat.le_of_ble_eq_true rfl) (Nat.le_of_ble_eq_true rfl) (Nat.le_of_ble_eq_true rfl) (by first | exact e1 | exact g1 | exact hna | exact hnd | assumption | (simp only [rk_up_s, rk_up_n hga, rk_up_n hnaa, rk_up_n hnda]; first | exact e1 | exact g1 | exact hna | exact hnd | rfl)) rfl ⟨(Nat.le_of_ble_eq_true rfl), (Nat.le_of_ble_eq_true rfl)⟩ (fun g_2 => absurd (show btw (nI j) 0 (nI X.n - 1) by rw [hX]; exact btB_iff.mp hg) g_2) (fun g_2 => ?_)
    refine rk_aload_n dT_output_5 rfl ?_
    refine rk_iload_n dT_output_6 rfl ?_
    refine rk_putf pT_27 dT_output_7 (by first | exact e1 | exact g1 | exact hna | exact hnd | assumption | (simp only [rk_up_s, rk_up_n hga, rk_up_n hnaa, rk_up_n hnda]; first | exact e1 | exact g1 | exact hna | exact hnd | rfl)) (Nat.le_of_ble_eq_true rfl) rfl rfl ?_
    refine rk_aload_n dT_output_10 rfl ?_
    refine rk_iconst (v := 0) dT_output_11 (by decide) ?_
    refine rk_putf pT_31 dT_output_12 (by first | exact e1 | exact g1 | exact hna | exact hnd | assumption | (simp only [rk_up_s, rk_up_n hga, rk_up_n hnaa, rk_up_n hnda]; first | exact e1 | exact g1 | exact hna | exact hnd | rfl)) (Nat.le_of_ble_eq_true rfl) rfl rfl ?_
    refine rk_aload_n dT_output_15 rfl ?_
    refine rk_getf fT_12 dT_output_16 (by first | exact e1 | exact g1 | exact hna | exact hnd | assumption | (simp only [rk_up_s, rk_up_n hga, rk_up_n hnaa, rk_up_n hnda]; first | exact e1 | exact g1 | exact hna | exact hnd | rfl)) rfl ?_
    refine rk_getf fT_74 dT_output_19 (by first | exact e1 | exact g1 | exact hna | exact hnd | assumption | (simp only [rk_up_s, rk_up_n hga, rk_up_n hnaa, rk_up_n hnda]; first | exact e1 | exact g1 | exact hna | exact hnd | rfl)) rfl ?_
    refine rk_iload_n dT_output_22 rfl ?_
    refine rk_aald rfl dT_output_23 (by first | exact e1 | exact g1 | exact hna | exact hnd | assumption | (simp only [rk_up_s, rk_up_n hga, rk_up_n hnaa, rk_up_n hnda]; first | exact e1 | exact g1 | exact hna | exact hnd | rfl)) (vp_in_nI hjn (by omega)) (v_nd (by omega) hq) ?_
    refine rk_getf fT_118 dT_output_24 (by first | exact e1 | exact g1 | exact hna | exact hnd | assumption | (simp only [rk_up_s, rk_up_n hga, rk_up_n hnaa, rk_up_n hnda]; first | exact e1 | exact g1 | exact hna | exact hnd | rfl)) rfl ?_
    exact rk_iret rfl dT_output_27 ⟨(Nat.le_of_ble_eq_true rfl), (Nat.le_of_ble_eq_true rfl)⟩ (by unfold opOutput; rw [if_pos hg, tN_I (show j < 2 ^ 31 by omega)]; exact ⟨⟨C, by rw [rk_up_up]; exact k.ta s.ws (some j) false (fun z => by cases z), by rw [rk_up_up]; exact frm.up own.a⟩, rfl⟩)
  · refine rk_aload_n dT_output_0 rfl ?_
    refine rk_iload_n dT_output_1 rfl ?_
    refine rk_cvI (c_T_requireNode C.a C.gb (tR_of C s.ws s.out s.comp) (gR_of C.A X) x h e1 g1) cT_66 dT_output_2 rfl lT_requireNode (Nat.le_of_ble_eq_true rfl) (Nat.le_of_ble_eq_true rfl) (Nat.le_of_ble_eq_true rfl) (Nat.le_of_ble_eq_true rfl) (by first | exact e1 | exact g1 | assumption) rfl ⟨(Nat.le_of_ble_eq_true rfl), (Nat.le_of_ble_eq_true rfl)⟩ (fun g_2 => (by unfold opOutput; rw [if_neg hg]; exact cPost.same k rfl rfl)) (fun g_2 => ?_)
    exact absurd (btB_iff.mpr (show btw x 0 (nI s.n - 1) by rw [← hX]; exact g_2)) hg
theorem c_T_compile (C : cT) (s : aS) (h : rk_H) (k : cOK h C s) (ok : aOK s) : rk_Con mT_compile (6, 87, 1, 6) [.ref C.a] h (cPost h C s.n (opCompile s) (exL [x_IS])) := by
  have e1 := k.1.1
  obtain ⟨X, hX, hG⟩ := k.1.2.2.1.eq
  have g1 : h C.gb = some (oB 0 (gls C.A X)) := by rw [hG]; exact k.1.2.2.1.gb
  refine rk_Con.of [some (.ref C.a)] rfl (Nat.le_of_ble_eq_true rfl) (by decide +kernel) ?_
  cases ho : s.out with
  | none =>
    rw [ho] at e1
    refine rk_aload_n dT_compile_0 rfl ?_
    refine rk_getf fT_27 dT_compile_1 (by first | exact e1 | assumption) rfl ?_
    refine rk_iconst (v := -1) dT_compile_4 (by decide) ?_
    refine rk_icmp_ne 18 dT_compile_5 (by decide) (fun q_5 => ?_) (fun q_5 => ?_)
    · exact absurd rfl q_5
    · exact rk_throw tmT_compile_8 rfl dT_compile_8 dT_compile_11 dT_compile_12 dT_compile_14 dT_compile_17 (Nat.le_of_ble_eq_true rfl) (Nat.le_of_ble_eq_true rfl) (Nat.le_of_ble_eq_true rfl) (Nat.le_of_ble_eq_true rfl) (by unfold opCompile; rw [ho]; exact cPost.same k rfl rfl)
  | some o =>
    have hon := ok.2.1 o ho
    have hn14 := ok.1.1
    rw [ho] at e1
    have cp := c_G_plan C.gb C.A s.n s.N C.na C.ad C.fe o X h k.1.2.2.1 hX ok.1.2.1.inn ok.1.2.1.bd hon
    rw [← hG] at cp
    have e1' : ∀ Y : gX, gv h C.gb C.A Y C.a = some (oB 5 (tls C s.ws (some o) s.comp)) := fun Y => k.1.2.2.1.other e1 (by intro l q; cases q) (by intro l q; cases q)
    have hga : C.gb ≠ C.a := rk_neq g1 e1 (by intro q; cases q)
    refine rk_aload_n dT_compile_0 rfl ?_
    refine rk_getf fT_27 dT_compile_1 (by first | exact e1 | exact g1 | exact e1' _ | exact k.1.2.2.1.gb | assumption | (simp only [rk_up_s, rk_up_n hga]; first | exact e1 | exact g1 | exact e1' _ | exact k.1.2.2.1.gb | rfl)) rfl ?_
    refine rk_iconst (v := -1) dT_compile_4 (by decide) ?_
    refine rk_icmp_ne 18 dT_compile_5 (by decide) (fun q_5 => ?_) (fun q_5 => ?_)
    · refine rk_aload_n dT_compile_18 rfl ?_
      refine rk_getf fT_12 dT_compile_19 (by first | exact e1 | exact g1 | exact e1' _ | exact k.1.2.2.1.gb | assumption | (simp only [rk_up_s, rk_up_n hga]; first | exact e1 | exact g1 | exact e1' _ | exact k.1.2.2.1.gb | rfl)) rfl ?_
      refine rk_aload_n dT_compile_22 rfl ?_
      refine rk_getf fT_27 dT_compile_23 (by first | exact e1 | exact g1 | exact e1' _ | exact k.1.2.2.1.gb | assumption | (simp only [rk_up_s, rk_up_n hga]; first | exact e1 | exact g1 | exact e1' _ | exact k.1.2.2.1.gb | rfl)) rfl ?_
      refine rk_cvG (cp) cT_151 dT_compile_26 rfl lG_plan (Nat.le_of_ble_eq_true rfl) (Nat.le_of_ble_eq_true rfl) (Nat.le_of_ble_eq_true rfl) (Nat.le_of_ble_eq_true rfl) (by first | exact e1 | exact g1 | exact e1' _ | exact k.1.2.2.1.gb | assumption | (simp only [rk_up_s, rk_up_n hga]; first | exact e1 | exact g1 | exact e1' _ | exact k.1.2.2.1.gb | rfl)) ?_
      rintro r_26 h_26 ⟨rfl, Y, rfl, hY⟩
      refine rk_nx0 ?_
      refine rk_aload_n dT_compile_29 rfl ?_
      refine rk_iconst (v := 1) dT_compile_30 (by decide) ?_
      refine rk_putf pT_31 dT_compile_31 (by first | exact e1 | exact g1 | exact e1' _ | exact k.1.2.2.1.gb | assumption | (simp only [rk_up_s, rk_up_n hga]; first | exact e1 | exact g1 | exact e1' _ | exact k.1.2.2.1.gb | rfl)) (Nat.le_of_ble_eq_true rfl) rfl rfl ?_
      refine rk_aload_n dT_compile_34 rfl ?_
      refine rk_getf fT_12 dT_compile_35 (by first | exact e1 | exact g1 | exact e1' _ | exact k.1.2.2.1.gb | assumption | (simp only [rk_up_s, rk_up_n hga]; first | exact e1 | exact g1 | exact e1' _ | exact k.1.2.2.1.gb | rfl)) rfl ?_
      refine rk_getf fT_154 dT_compile_38 (by first | exact e1 | exact g1 | exact e1' _ | exact k.1.2.2.1.gb | assumption | (simp only [rk_up_s, rk_up_n hga]; first | exact e1 | exact g1 | exact e1' _ | exact k.1.2.2.1.gb | rfl)) rfl ?_
      exact rk_iret rfl dT_compile_41 ⟨(Nat.le_of_ble_eq_true rfl), (Nat.le_of_ble_eq_true rfl)⟩ (by unfold opCompile; rw [ho]; refine ⟨⟨C, ?_, frm.gv.up2 own.a⟩, by rw [hY.2.2.2.1]; rfl⟩; have e := k.pl o Y ho hY; rw [ho] at e; exact e)
    · exact absurd (show nI o < 0 by rw [show nI o = -1 from q_5]; decide) (nI_pos (by omega))
theorem c_T_feed (C : cT) (s : aS) (x fr : Int32) (v : Int64) (h : rk_H) (k : cOK h C s) (ok : aOK s) : rk_Con mT_feed (9, 121, 3, 18) [.ref C.a, .int x, .int fr, .long v] h (cPost h C s.n (opFeed s x fr v) (exL [x_IA])) := by
  have e1 := k.1.1
  obtain ⟨X, hX, g1, -⟩ := k.1.2.2.1.1.1
  refine rk_Con.of [some (.ref C.a), some (.int x), some (.int fr), some (.long v), none, none] rfl (Nat.le_of_ble_eq_true rfl) (by decide +kernel) ?_
  by_cases hg : ndB s x = true
  · obtain ⟨j, hj, rfl⟩ := ndB_of ok.1.1 hg
    obtain ⟨hq, hnd⟩ := k.1.2.2.1.2.1.2 j hj
    have hna := k.1.2.2.1.2.1.1
    have hjn : j < 14 := by have := ok.1.1; omega
    have hbd := (ok.1.2.1 j hj).1.1
    have hce := hbd.ce
    have hk0 : nI (s.N j).kd = 0 ↔ (s.N j).kd = 0 := nI_eq (b := 0) (by have := hbd.1.1; omega) (by omega)
    have etn : tN (nI j) = j := tN_I (by omega)
    by_cases hk : (s.N j).kd = 0
    · have hfe := k.1.2.2.2 j hj hk
      by_cases hf : btw fr 0 (nI (s.N j).ce - 1)
      · obtain ⟨t, ht, rfl⟩ : ∃ t, t < (s.N j).ce ∧ fr = nI t := by
          have hp := (ok.1.2.1 j hj).1.2.1
          have hc1 : (s.N j).ce ≠ 0 := by
            unfold aN.ce
            exact Nat.ne_of_gt (Nat.mul_pos (Nat.mul_pos hp.1 hp.2.1) hp.2.2)
          obtain ⟨t, h1, h2⟩ := btwK (m := (s.N j).ce - 1) (by rw [show (1 : Int32) = nI 1 from rfl, pk_sub (by omega)]) (by omega) hf
          exact ⟨t, by omega, h2⟩
        refine rk_aload_n dT_feed_0 rfl ?_
        refine rk_iload_n dT_feed_1 rfl ?_
        refine rk_cvI (c_T_requireNode C.a C.gb (tR_of C s.ws s.out s.comp) (gR_of C.A X) (nI j) h e1 g1) cT_66 dT_feed_2 rfl lT_requireNode (Nat.le_of_ble_eq_true rfl) (Nat.le_of_ble_eq_true rfl) (Nat.le_of_ble_eq_true rfl) (Nat.le_of_ble_eq_true rfl) (by first | exact e1 | exact g1 | exact hna | exact hnd | exact hfe | assumption) rfl ⟨(Nat.le_of_ble_eq_true rfl), (Nat.le_of_ble_eq_true rfl)⟩ (fun g_2 => absurd (show btw (nI j) 0 (nI X.n - 1) by rw [hX]; exact btB_iff.mp hg) g_2) (fun g_2 => ?_)
        refine rk_aload_n dT_feed_5 rfl ?_
        refine rk_getf fT_12 dT_feed_6 (by first | exact e1 | exact g1 | exact hna | exact hnd | exact hfe | assumption) rfl ?_
        refine rk_getf fT_74 dT_feed_9 (by first | exact e1 | exact g1 | exact hna | exact hnd | exact hfe | assumption) rfl ?_
        refine rk_iload_n dT_feed_12 rfl ?_
        refine rk_aald rfl dT_feed_13 (by first | exact e1 | exact g1 | exact hna | exact hnd | exact hfe | assumption) (vp_in_nI hjn (by omega)) (v_nd (by omega) hq) ?_
        refine rk_astore dT_feed_14 (Nat.le_of_ble_eq_true rfl) ?_
        refine rk_aload dT_feed_16 rfl ?_
        refine rk_getf fT_157 dT_feed_18 (by first | exact e1 | exact g1 | exact hna | exact hnd | exact hfe | assumption) rfl ?_
        refine rk_if_ne 28 dT_feed_21 (by decide) (fun q_21 => ?_) (fun q_21 => ?_)
        · exact absurd (hk0.mpr hk) q_21
        · refine rk_iconst (v := 1) dT_feed_24 (by decide) ?_
          refine rk_goto 29 dT_feed_25 (by decide) ?_
          refine rk_csI (c_T_require _ h) cT_125 dT_feed_29 rfl lT_require (Nat.le_of_ble_eq_true rfl) (Nat.le_of_ble_eq_true rfl) (Nat.le_of_ble_eq_true rfl) (Nat.le_of_ble_eq_true rfl) rfl ⟨(Nat.le_of_ble_eq_true rfl), (Nat.le_of_ble_eq_true rfl)⟩ (fun g_29 => absurd (by decide) g_29) (fun g_29 => ?_)
          refine rk_iload_n dT_feed_32 rfl ?_
          refine rk_iconst (v := 0) dT_feed_33 (by decide) ?_
          refine rk_aload dT_feed_34 rfl ?_
          refine rk_getf fT_118 dT_feed_36 (by first | exact e1 | exact g1 | exact hna | exact hnd | exact hfe | assumption) rfl ?_
          refine rk_iconst (v := 1) dT_feed_39 (by decide) ?_
          refine rk_isub dT_feed_40 ?_
          refine rk_csI (c_T_requireBetween _ _ _ h) cT_35 dT_feed_41 rfl lT_requireBetween (Nat.le_of_ble_eq_true rfl) (Nat.le_of_ble_eq_true rfl) (Nat.le_of_ble_eq_true rfl) (Nat.le_of_ble_eq_true rfl) rfl ⟨(Nat.le_of_ble_eq_true rfl), (Nat.le_of_ble_eq_true rfl)⟩ (fun g_41 => absurd hf g_41) (fun g_41 => ?_)
          refine rk_lload_n dT_feed_44 rfl ?_
          refine rk_aload dT_feed_45 rfl ?_
          refine rk_getf fT_160 dT_feed_47 (by first | exact e1 | exact g1 | exact hna | exact hnd | exact hfe | assumption) rfl ?_
          refine rk_iload_n dT_feed_50 rfl ?_
          refine rk_csV (c_T_spread v (C.fe j) (s.N j).ce t (s.fd j) h hfe (by omega) ht) cT_43 dT_feed_51 rfl lT_spread (Nat.le_of_ble_eq_true rfl) (Nat.le_of_ble_eq_true rfl) (Nat.le_of_ble_eq_true rfl) (Nat.le_of_ble_eq_true rfl) ?_
          exact rk_iret rfl dT_feed_54 ⟨(Nat.le_of_ble_eq_true rfl), (Nat.le_of_ble_eq_true rfl)⟩ (by unfold opFeed; rw [etn, tN_I (show t < 2 ^ 31 by omega), if_pos (by rw [hg, decide_eq_true hk, btB_iff.mpr hf]; rfl)]; exact ⟨⟨C, k.fd j _ hj hk ok.1.2.1.bd, frm.up (own.fe hj)⟩, rfl⟩)
      · have eo : opFeed s (nI j) fr v = (1, none, s) := by
          unfold opFeed
          rw [etn, if_neg (fun z => by rw [Bool.and_eq_true] at z; exact hf (btB_iff.mp z.2))]
        refine rk_aload_n dT_feed_0 rfl ?_
        refine rk_iload_n dT_feed_1 rfl ?_
        refine rk_cvI (c_T_requireNode C.a C.gb (tR_of C s.ws s.out s.comp) (gR_of C.A X) (nI j) h e1 g1) cT_66 dT_feed_2 rfl lT_requireNode (Nat.le_of_ble_eq_true rfl) (Nat.le_of_ble_eq_true rfl) (Nat.le_of_ble_eq_true rfl) (Nat.le_of_ble_eq_true rfl) (by first | exact e1 | exact g1 | exact hna | exact hnd | exact hfe | assumption) rfl ⟨(Nat.le_of_ble_eq_true rfl), (Nat.le_of_ble_eq_true rfl)⟩ (fun g_2 => absurd (show btw (nI j) 0 (nI X.n - 1) by rw [hX]; exact btB_iff.mp hg) g_2) (fun g_2 => ?_)
        refine rk_aload_n dT_feed_5 rfl ?_
        refine rk_getf fT_12 dT_feed_6 (by first | exact e1 | exact g1 | exact hna | exact hnd | exact hfe | assumption) rfl ?_
        refine rk_getf fT_74 dT_feed_9 (by first | exact e1 | exact g1 | exact hna | exact hnd | exact hfe | assumption) rfl ?_
        refine rk_iload_n dT_feed_12 rfl ?_
        refine rk_aald rfl dT_feed_13 (by first | exact e1 | exact g1 | exact hna | exact hnd | exact hfe | assumption) (vp_in_nI hjn (by omega)) (v_nd (by omega) hq) ?_
        refine rk_astore dT_feed_14 (Nat.le_of_ble_eq_true rfl) ?_
        refine rk_aload dT_feed_16 rfl ?_
        refine rk_getf fT_157 dT_feed_18 (by first | exact e1 | exact g1 | exact hna | exact hnd | exact hfe | assumption) rfl ?_
        refine rk_if_ne 28 dT_feed_21 (by decide) (fun q_21 => ?_) (fun q_21 => ?_)
        · exact absurd (hk0.mpr hk) q_21
        · refine rk_iconst (v := 1) dT_feed_24 (by decide) ?_
          refine rk_goto 29 dT_feed_25 (by decide) ?_
          refine rk_csI (c_T_require _ h) cT_125 dT_feed_29 rfl lT_require (Nat.le_of_ble_eq_true rfl) (Nat.le_of_ble_eq_true rfl) (Nat.le_of_ble_eq_true rfl) (Nat.le_of_ble_eq_true rfl) rfl ⟨(Nat.le_of_ble_eq_true rfl), (Nat.le_of_ble_eq_true rfl)⟩ (fun g_29 => absurd (by decide) g_29) (fun g_29 => ?_)
          refine rk_iload_n dT_feed_32 rfl ?_
          refine rk_iconst (v := 0) dT_feed_33 (by decide) ?_
          refine rk_aload dT_feed_34 rfl ?_
          refine rk_getf fT_118 dT_feed_36 (by first | exact e1 | exact g1 | exact hna | exact hnd | exact hfe | assumption) rfl ?_
          refine rk_iconst (v := 1) dT_feed_39 (by decide) ?_
          refine rk_isub dT_feed_40 ?_
          refine rk_csI (c_T_requireBetween _ _ _ h) cT_35 dT_feed_41 rfl lT_requireBetween (Nat.le_of_ble_eq_true rfl) (Nat.le_of_ble_eq_true rfl) (Nat.le_of_ble_eq_true rfl) (Nat.le_of_ble_eq_true rfl) rfl ⟨(Nat.le_of_ble_eq_true rfl), (Nat.le_of_ble_eq_true rfl)⟩ (fun g_41 => (by rw [eo]; exact cPost.same k rfl rfl)) (fun g_41 => ?_)
          exact absurd g_41 hf
    · have eo : opFeed s (nI j) fr v = (1, none, s) := by
        unfold opFeed
        rw [etn, if_neg (fun z => by rw [Bool.and_eq_true, Bool.and_eq_true] at z; exact hk (of_decide_eq_true z.1.2))]
      refine rk_aload_n dT_feed_0 rfl ?_
      refine rk_iload_n dT_feed_1 rfl ?_
      refine rk_cvI (c_T_requireNode C.a C.gb (tR_of C s.ws s.out s.comp) (gR_of C.A X) (nI j) h e1 g1) cT_66 dT_feed_2 rfl lT_requireNode (Nat.le_of_ble_eq_true rfl) (Nat.le_of_ble_eq_true rfl) (Nat.le_of_ble_eq_true rfl) (Nat.le_of_ble_eq_true rfl) (by first | exact e1 | exact g1 | exact hna | exact hnd | assumption) rfl ⟨(Nat.le_of_ble_eq_true rfl), (Nat.le_of_ble_eq_true rfl)⟩ (fun g_2 => absurd (show btw (nI j) 0 (nI X.n - 1) by rw [hX]; exact btB_iff.mp hg) g_2) (fun g_2 => ?_)
      refine rk_aload_n dT_feed_5 rfl ?_
      refine rk_getf fT_12 dT_feed_6 (by first | exact e1 | exact g1 | exact hna | exact hnd | assumption) rfl ?_
      refine rk_getf fT_74 dT_feed_9 (by first | exact e1 | exact g1 | exact hna | exact hnd | assumption) rfl ?_
      refine rk_iload_n dT_feed_12 rfl ?_
      refine rk_aald rfl dT_feed_13 (by first | exact e1 | exact g1 | exact hna | exact hnd | assumption) (vp_in_nI hjn (by omega)) (v_nd (by omega) hq) ?_
      refine rk_astore dT_feed_14 (Nat.le_of_ble_eq_true rfl) ?_
      refine rk_aload dT_feed_16 rfl ?_
      refine rk_getf fT_157 dT_feed_18 (by first | exact e1 | exact g1 | exact hna | exact hnd | assumption) rfl ?_
      refine rk_if_ne 28 dT_feed_21 (by decide) (fun q_21 => ?_) (fun q_21 => ?_)
      · refine rk_iconst (v := 0) dT_feed_28 (by decide) ?_
        refine rk_csI (c_T_require _ h) cT_125 dT_feed_29 rfl lT_require (Nat.le_of_ble_eq_true rfl) (Nat.le_of_ble_eq_true rfl) (Nat.le_of_ble_eq_true rfl) (Nat.le_of_ble_eq_true rfl) rfl ⟨(Nat.le_of_ble_eq_true rfl), (Nat.le_of_ble_eq_true rfl)⟩ (fun g_29 => (by rw [eo]; exact cPost.same k rfl rfl)) (fun g_29 => ?_)
        exact absurd rfl g_29
      · exact absurd (hk0.mp q_21) hk
  · have eo : opFeed s x fr v = (1, none, s) := by
      unfold opFeed
      rw [if_neg (fun z => by rw [Bool.and_eq_true, Bool.and_eq_true] at z; exact hg z.1.1)]
    refine rk_aload_n dT_feed_0 rfl ?_
    refine rk_iload_n dT_feed_1 rfl ?_
    refine rk_cvI (c_T_requireNode C.a C.gb (tR_of C s.ws s.out s.comp) (gR_of C.A X) x h e1 g1) cT_66 dT_feed_2 rfl lT_requireNode (Nat.le_of_ble_eq_true rfl) (Nat.le_of_ble_eq_true rfl) (Nat.le_of_ble_eq_true rfl) (Nat.le_of_ble_eq_true rfl) (by first | exact e1 | exact g1 | assumption) rfl ⟨(Nat.le_of_ble_eq_true rfl), (Nat.le_of_ble_eq_true rfl)⟩ (fun g_2 => (by rw [eo]; exact cPost.same k rfl rfl)) (fun g_2 => ?_)
    exact absurd (btB_iff.mpr (show btw x 0 (nI s.n - 1) by rw [← hX]; exact g_2)) hg
