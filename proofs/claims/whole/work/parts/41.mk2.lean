/-! TensorForge: calls that make a node -/
theorem bt1K {x : Int32} {m : Nat} (hm : m < 2 ^ 31) (h : btw x 1 (nI m)) : ∃ j : Nat, (1 ≤ j ∧ j ≤ m) ∧ x = nI j := by
  have h0 : ¬ x < 0 := Int32.not_lt.mpr (Int32.le_trans (by decide) h.1)
  obtain ⟨j, hj, e⟩ := nI_of2 (nI_toInt hm) h0 h.2
  refine ⟨j, ⟨?_, hj⟩, e⟩
  have := h.1
  rw [e] at this
  exact (nI_leI (a := 1) (by omega) (by omega)).mp this
theorem mk2_1 {s : aS} {g : Bool} {x : aN} (h : ¬ g = true) : mk2 s g x = (1, none, s) := if_neg h
theorem mk2_2 {s : aS} {g : Bool} {x : aN} (h : g = true) (hn : s.n = 14) : mk2 s g x = (2, none, s) := (if_pos h).trans (if_pos hn)
theorem mk2_0 {s : aS} {g : Bool} {x : aN} (h : g = true) (hn : ¬ s.n = 14) : mk2 s g x = (0, some (.int (nI s.n)), s.push x) := (if_pos h).trans (if_neg hn)
theorem mk3_1 {s : aS} {g r : Bool} {x : aN} (h : ¬ g = true) : mk3 s g r x = (1, none, s) := if_neg h
theorem mk3_2 {s : aS} {g r : Bool} {x : aN} (h : g = true) (hr : ¬ r = true) : mk3 s g r x = (2, none, s) := (if_pos h).trans (if_neg hr)
theorem mk3_3 {s : aS} {g r : Bool} {x : aN} (h : g = true) (hr : r = true) (hn : s.n = 14) : mk3 s g r x = (3, none, s) := ((if_pos h).trans (if_pos hr)).trans (if_pos hn)
theorem mk3_0 {s : aS} {g r : Bool} {x : aN} (h : g = true) (hr : r = true) (hn : ¬ s.n = 14) : mk3 s g r x = (0, some (.int (nI s.n)), s.push x) := ((if_pos h).trans (if_pos hr)).trans (if_neg hn)
theorem ndB_I {s : aS} {j : Nat} (hn : s.n ≤ 14) (hj : j < s.n) : ndB s (nI j) = true := btB_iff.mpr (nodeK' hn hj)
theorem room_n {n m : Nat} (e : n = m) (hm : m ≤ 14) : nI n < 14 ↔ ¬ m = 14 := by
  subst e
  rw [show (14 : Int32) = nI 14 from rfl, nI_ltI (by omega) (by omega)]
  omega
theorem and2 {a b : Bool} : (a && b) = true ↔ a = true ∧ b = true := Bool.and_eq_true a b ▸ Iff.rfl
theorem c_T_input (C : cT) (s : aS) (x y z : Int32) (sc : UInt64) (h : rk_H) (k : cOK h C s) (ok : aOK s) : rk_Con mT_input (9, 122, 7, 180) [.ref C.a, .int x, .int y, .int z, .double sc] h (cPost h C s.n (opInput s x y z sc) (exL [x_IA, x_IS])) := by
  have e1 := k.1.1
  obtain ⟨X, hX, hG⟩ := k.1.2.2.1.eq
  have gI : gIs h C.gb C.A X := by
    have kg := k.1.2.2.1
    rw [hG]
    exact ⟨kg.gb, kg.gsf, kg.gst, kg.gsp, kg.gpl, kg.gla⟩
  have g1 := gI.1
  have hna := k.1.2.2.1.2.1.1
  have hn := ok.1.1
  have hroom := room_n hX hn
  refine rk_Con.of [some (.ref C.a), some (.int x), some (.int y), some (.int z), some (.double sc), none] rfl (Nat.le_of_ble_eq_true rfl) (by decide +kernel) ?_
  by_cases hg : (btB x 1 4 && btB y 1 4 && btB z 1 8 && dsB sc) = true
  · obtain ⟨hg', hs⟩ := and2.mp hg
    obtain ⟨hg', hz⟩ := and2.mp hg'
    obtain ⟨hx, hy⟩ := and2.mp hg'
    obtain ⟨x, ⟨x1, x2⟩, rfl⟩ := bt1K (m := 4) (by omega) (btB_iff.mp hx)
    obtain ⟨y, ⟨y1, y2⟩, rfl⟩ := bt1K (m := 4) (by omega) (btB_iff.mp hy)
    obtain ⟨z, ⟨z1, z2⟩, rfl⟩ := bt1K (m := 8) (by omega) (btB_iff.mp hz)
    have hce : x * y * z ≤ 4 * 4 * 8 := Nat.mul_le_mul (Nat.mul_le_mul x2 y2) z2
    have eop : opInput s (nI x) (nI y) (nI z) sc = mk2 s (btB (nI x) 1 4 && btB (nI y) 1 4 && btB (nI z) 1 8 && dsB sc) (x0 0 none none x y z sc) := by
      unfold opInput
      rw [tN_I (show x < 2 ^ 31 by omega), tN_I (show y < 2 ^ 31 by omega), tN_I (show z < 2 ^ 31 by omega)]
    by_cases h14 : s.n = 14
    · refine rk_iload_n dT_input_0 rfl ?_
      refine rk_iload_n dT_input_1 rfl ?_
      refine rk_iload_n dT_input_2 rfl ?_
      refine rk_csI (c_T_requireShape _ _ _ h) cT_51 dT_input_3 rfl lT_requireShape (Nat.le_of_ble_eq_true rfl) (Nat.le_of_ble_eq_true rfl) (Nat.le_of_ble_eq_true rfl) (Nat.le_of_ble_eq_true rfl) rfl ⟨(Nat.le_of_ble_eq_true rfl), (Nat.le_of_ble_eq_true rfl)⟩ (fun g_3 => absurd ⟨btB_iff.mp hx, btB_iff.mp hy, btB_iff.mp hz⟩ g_3) (fun g_3 => ?_)
      refine rk_dload dT_input_6 rfl ?_
      refine rk_csI (c_T_requireScale sc h) cT_47 dT_input_8 rfl lT_requireScale (Nat.le_of_ble_eq_true rfl) (Nat.le_of_ble_eq_true rfl) (Nat.le_of_ble_eq_true rfl) (Nat.le_of_ble_eq_true rfl) rfl ⟨(Nat.le_of_ble_eq_true rfl), (Nat.le_of_ble_eq_true rfl)⟩ (fun g_8 => absurd (dsB_iff.mp hs) g_8) (fun g_8 => ?_)
      refine rk_aload_n dT_input_11 rfl ?_
      refine rk_cvI (c_T_requireRoom C.a (tR_of C s.ws s.out s.comp) (gR_of C.A X) h e1 g1) cT_54 dT_input_12 rfl lT_requireRoom (Nat.le_of_ble_eq_true rfl) (Nat.le_of_ble_eq_true rfl) (Nat.le_of_ble_eq_true rfl) (Nat.le_of_ble_eq_true rfl) (by first | exact e1 | exact g1 | assumption) rfl ⟨(Nat.le_of_ble_eq_true rfl), (Nat.le_of_ble_eq_true rfl)⟩ (fun g_12 => (by rw [eop, mk2_2 hg h14]; exact cPost.same k rfl rfl)) (fun g_12 => ?_)
      exact absurd h14 (hroom.mp g_12)
    · skip
      have P := fun (b q : Nat) (bn : h b = none) (hq : h q = none) (hbq : b ≠ q) => k.push ok.1.2.1.inn (by omega) X hX gI b q (x0 0 none none x y z sc) bn hq hbq (show x * y * z ≤ 128 by omega)
      have hra : ratA (updN s.N s.n (x0 0 none none x y z sc)) s.n = 0 := by
        unfold ratA
        rw [show updN s.N s.n (x0 0 none none x y z sc) s.n = (x0 0 none none x y z sc) from if_pos rfl]
        rfl
      have hrb : ratB (updN s.N s.n (x0 0 none none x y z sc)) s.n = 0 := by
        unfold ratB
        rw [show updN s.N s.n (x0 0 none none x y z sc) s.n = (x0 0 none none x y z sc) from if_pos rfl]
        rfl
      rw [hra, hrb] at P
      refine rk_iload_n dT_input_0 rfl ?_
      refine rk_iload_n dT_input_1 rfl ?_
      refine rk_iload_n dT_input_2 rfl ?_
      refine rk_csI (c_T_requireShape _ _ _ h) cT_51 dT_input_3 rfl lT_requireShape (Nat.le_of_ble_eq_true rfl) (Nat.le_of_ble_eq_true rfl) (Nat.le_of_ble_eq_true rfl) (Nat.le_of_ble_eq_true rfl) rfl ⟨(Nat.le_of_ble_eq_true rfl), (Nat.le_of_ble_eq_true rfl)⟩ (fun g_3 => absurd ⟨btB_iff.mp hx, btB_iff.mp hy, btB_iff.mp hz⟩ g_3) (fun g_3 => ?_)
      refine rk_dload dT_input_6 rfl ?_
      refine rk_csI (c_T_requireScale sc h) cT_47 dT_input_8 rfl lT_requireScale (Nat.le_of_ble_eq_true rfl) (Nat.le_of_ble_eq_true rfl) (Nat.le_of_ble_eq_true rfl) (Nat.le_of_ble_eq_true rfl) rfl ⟨(Nat.le_of_ble_eq_true rfl), (Nat.le_of_ble_eq_true rfl)⟩ (fun g_8 => absurd (dsB_iff.mp hs) g_8) (fun g_8 => ?_)
      refine rk_aload_n dT_input_11 rfl ?_
      refine rk_cvI (c_T_requireRoom C.a (tR_of C s.ws s.out s.comp) (gR_of C.A X) h e1 g1) cT_54 dT_input_12 rfl lT_requireRoom (Nat.le_of_ble_eq_true rfl) (Nat.le_of_ble_eq_true rfl) (Nat.le_of_ble_eq_true rfl) (Nat.le_of_ble_eq_true rfl) (by first | exact rk_up_k (rk_ne e1 bn) e1 | exact rk_up_k (rk_ne g1 bn) g1 | exact e1 | exact g1 | assumption) rfl ⟨(Nat.le_of_ble_eq_true rfl), (Nat.le_of_ble_eq_true rfl)⟩ (fun g_12 => absurd (hroom.mpr h14) g_12) (fun g_12 => ?_)
      refine rk_aload_n dT_input_15 rfl ?_
      refine rk_new (fs := [.int 0, .int 0, .int 0, .int 0, .int 0, .int 0, .int 0, .double 0, .null, .int 0, .int 0, .double 0, .int 0, .int 0, .double 0, .double 0]) kN nT_57.1 nT_57.2.1 nT_57.2.2 (by intro j hj; rcases (show j = 0 ∨ j = 1 ∨ j = 2 ∨ j = 3 ∨ j = 4 ∨ j = 5 ∨ j = 6 ∨ j = 7 ∨ j = 8 ∨ j = 9 ∨ j = 10 ∨ j = 11 ∨ j = 12 ∨ j = 13 ∨ j = 14 ∨ j = 15 by omega) with rfl | rfl | rfl | rfl | rfl | rfl | rfl | rfl | rfl | rfl | rfl | rfl | rfl | rfl | rfl | rfl <;> rfl) dT_input_16 (Nat.le_of_ble_eq_true rfl) (Nat.le_of_ble_eq_true rfl) (fun b bn => ?_)
      refine rk_dup dT_input_19 rfl ?_
      refine rk_iconst (v := 0) dT_input_20 (by decide) ?_
      refine rk_iconst (v := -1) dT_input_21 (by decide) ?_
      refine rk_iconst (v := -1) dT_input_22 (by decide) ?_
      refine rk_iload_n dT_input_23 rfl ?_
      refine rk_iload_n dT_input_24 rfl ?_
      refine rk_iload_n dT_input_25 rfl ?_
      refine rk_dload dT_input_26 rfl ?_
      refine rk_cnG (c_N_init b 0 none none x y z sc _ rk_up_s (by omega) (by omega)) cT_59 dT_input_28 rfl lN_init (Nat.le_of_ble_eq_true rfl) (Nat.le_of_ble_eq_true rfl) (Nat.le_of_ble_eq_true rfl) (Nat.le_of_ble_eq_true rfl) ?_
      rintro r_0 h_0 ⟨rfl, q, hq0, rfl⟩
      refine rk_nx0 ?_
      obtain ⟨hbq, hq⟩ := new_fr hq0
      rw [new_sw hbq]
      have hab : C.a ≠ b := rk_ne e1 bn
      have haq : C.a ≠ q := rk_ne e1 hq
      have hgb : C.gb ≠ b := rk_ne g1 bn
      have hgq : C.gb ≠ q := rk_ne g1 hq
      have hnb : C.A.na ≠ b := rk_ne hna bn
      have hnq : C.A.na ≠ q := rk_ne hna hq
      refine rk_cvV (c_T_keep C s b X _ _ (by simp only [rk_up_s, rk_up_n hab, rk_up_n haq, rk_up_n hgb, rk_up_n hgq, rk_up_n hnb, rk_up_n hnq]; exact e1) (by simp only [rk_up_s, rk_up_n hab, rk_up_n haq, rk_up_n hgb, rk_up_n hgq, rk_up_n hnb, rk_up_n hnq]; exact g1) (by simp only [rk_up_s, rk_up_n hab, rk_up_n haq, rk_up_n hgb, rk_up_n hgq, rk_up_n hnb, rk_up_n hnq]; exact hna) rk_up_s (by omega)) cT_62 dT_input_31 rfl lT_keep (Nat.le_of_ble_eq_true rfl) (Nat.le_of_ble_eq_true rfl) (Nat.le_of_ble_eq_true rfl) (Nat.le_of_ble_eq_true rfl) (by first | (simp only [rk_up_s, rk_up_n hab, rk_up_n haq, rk_up_n hgb, rk_up_n hgq, rk_up_n hnb, rk_up_n hnq]; first | exact e1 | exact g1 | exact hna | rfl) | exact e1 | exact g1 | exact hna | assumption) ?_
      exact rk_iret rfl dT_input_34 ⟨(Nat.le_of_ble_eq_true rfl), (Nat.le_of_ble_eq_true rfl)⟩ (by rw [eop, mk2_0 hg h14]; exact ⟨⟨_, (P b q bn hq hbq).1, (P b q bn hq hbq).2⟩, by rw [hX]; rfl⟩)
  · have eo : opInput s x y z sc = (1, none, s) := mk2_1 hg
    refine rk_iload_n dT_input_0 rfl ?_
    refine rk_iload_n dT_input_1 rfl ?_
    refine rk_iload_n dT_input_2 rfl ?_
    refine rk_csI (c_T_requireShape _ _ _ h) cT_51 dT_input_3 rfl lT_requireShape (Nat.le_of_ble_eq_true rfl) (Nat.le_of_ble_eq_true rfl) (Nat.le_of_ble_eq_true rfl) (Nat.le_of_ble_eq_true rfl) rfl ⟨(Nat.le_of_ble_eq_true rfl), (Nat.le_of_ble_eq_true rfl)⟩ (fun g_3 => (by rw [eo]; exact cPost.same k rfl rfl)) (fun g_3 => ?_)
    refine rk_dload dT_input_6 rfl ?_
    refine rk_csI (c_T_requireScale sc h) cT_47 dT_input_8 rfl lT_requireScale (Nat.le_of_ble_eq_true rfl) (Nat.le_of_ble_eq_true rfl) (Nat.le_of_ble_eq_true rfl) (Nat.le_of_ble_eq_true rfl) rfl ⟨(Nat.le_of_ble_eq_true rfl), (Nat.le_of_ble_eq_true rfl)⟩ (fun g_8 => (by rw [eo]; exact cPost.same k rfl rfl)) (fun g_8 => ?_)
    exact absurd (by rw [btB_iff.mpr g_3.1, btB_iff.mpr g_3.2.1, btB_iff.mpr g_3.2.2, dsB_iff.mpr g_8]; rfl) hg
theorem c_T_reshape (C : cT) (s : aS) (p x y z : Int32) (h : rk_H) (k : cOK h C s) (ok : aOK s) : rk_Con mT_reshape (9, 122, 8, 186) [.ref C.a, .int p, .int x, .int y, .int z] h (cPost h C s.n (opReshape s p x y z) (exL [x_IA, x_IS])) := by
  have e1 := k.1.1
  obtain ⟨X, hX, hG⟩ := k.1.2.2.1.eq
  have gI : gIs h C.gb C.A X := by
    have kg := k.1.2.2.1
    rw [hG]
    exact ⟨kg.gb, kg.gsf, kg.gst, kg.gsp, kg.gpl, kg.gla⟩
  have g1 := gI.1
  have hna := k.1.2.2.1.2.1.1
  have hn := ok.1.1
  have hroom := room_n hX hn
  refine rk_Con.of [some (.ref C.a), some (.int p), some (.int x), some (.int y), some (.int z), none] rfl (Nat.le_of_ble_eq_true rfl) (by decide +kernel) ?_
  by_cases hi : ndB s p = true
  · obtain ⟨i, il, rfl⟩ := ndB_of hn hi
    obtain ⟨iq, id⟩ := k.1.2.2.1.2.1.2 i il
    have i14 : i < 14 := by omega
    have ib := ok.1.2.1.bd i il
    have ip := (ok.1.2.1 i il).1.2.1
    have ic := ib.ce
    have it : tN (nI i) = i := tN_I (by omega)
    by_cases hg : (btB x 1 4 && btB y 1 4 && btB z 1 8) = true
    · obtain ⟨hg', hz⟩ := and2.mp hg
      obtain ⟨hx, hy⟩ := and2.mp hg'
      have hsh : btw x 1 4 ∧ btw y 1 4 ∧ btw z 1 8 := ⟨btB_iff.mp hx, btB_iff.mp hy, btB_iff.mp hz⟩
      obtain ⟨x, ⟨x1, x2⟩, rfl⟩ := bt1K (m := 4) (by omega) hsh.1
      obtain ⟨y, ⟨y1, y2⟩, rfl⟩ := bt1K (m := 4) (by omega) hsh.2.1
      obtain ⟨z, ⟨z1, z2⟩, rfl⟩ := bt1K (m := 8) (by omega) hsh.2.2
      have hce : x * y * z ≤ 4 * 4 * 8 := Nat.mul_le_mul (Nat.mul_le_mul x2 y2) z2
      have eop : opReshape s (nI i) (nI x) (nI y) (nI z) = mk2 s (ndB s (nI i) && (btB (nI x) 1 4 && btB (nI y) 1 4 && btB (nI z) 1 8) && decide (nI x * nI y * nI z = nI (s.N i).ce)) (x0 6 (some i) none x y z (s.N i).sc) := by
        unfold opReshape
        rw [it, tN_I (show x < 2 ^ 31 by omega), tN_I (show y < 2 ^ 31 by omega), tN_I (show z < 2 ^ 31 by omega)]
      by_cases hc : nI x * nI y * nI z = nI (s.N i).ce
      · have hgg : (ndB s (nI i) && (btB (nI x) 1 4 && btB (nI y) 1 4 && btB (nI z) 1 8) && decide (nI x * nI y * nI z = nI (s.N i).ce)) = true := by rw [hi, hg, decide_eq_true hc]; rfl
        by_cases h14 : s.n = 14
        · refine rk_aload_n dT_reshape_0 rfl ?_
          refine rk_iload_n dT_reshape_1 rfl ?_
          refine rk_cvI (c_T_requireNode C.a C.gb (tR_of C s.ws s.out s.comp) (gR_of C.A X) (nI i) h e1 g1) cT_66 dT_reshape_2 rfl lT_requireNode (Nat.le_of_ble_eq_true rfl) (Nat.le_of_ble_eq_true rfl) (Nat.le_of_ble_eq_true rfl) (Nat.le_of_ble_eq_true rfl) (by first | exact e1 | exact g1 | exact hna | exact id | assumption) rfl ⟨(Nat.le_of_ble_eq_true rfl), (Nat.le_of_ble_eq_true rfl)⟩ (fun g_2 => absurd (show btw (nI i) 0 (nI X.n - 1) by rw [hX]; exact btB_iff.mp hi) g_2) (fun g_2 => ?_)
          refine rk_iload_n dT_reshape_5 rfl ?_
          refine rk_iload_n dT_reshape_6 rfl ?_
          refine rk_iload dT_reshape_7 rfl ?_
          refine rk_csI (c_T_requireShape _ _ _ h) cT_51 dT_reshape_9 rfl lT_requireShape (Nat.le_of_ble_eq_true rfl) (Nat.le_of_ble_eq_true rfl) (Nat.le_of_ble_eq_true rfl) (Nat.le_of_ble_eq_true rfl) rfl ⟨(Nat.le_of_ble_eq_true rfl), (Nat.le_of_ble_eq_true rfl)⟩ (fun g_9 => absurd hsh g_9) (fun g_9 => ?_)
          refine rk_aload_n dT_reshape_12 rfl ?_
          refine rk_getf fT_12 dT_reshape_13 (by first | exact e1 | exact g1 | exact hna | exact id | assumption) rfl ?_
          refine rk_getf fT_74 dT_reshape_16 (by first | exact e1 | exact g1 | exact hna | exact id | assumption) rfl ?_
          refine rk_iload_n dT_reshape_19 rfl ?_
          refine rk_aald rfl dT_reshape_20 (by first | exact e1 | exact g1 | exact hna | exact id | assumption) (vp_in_nI i14 (by omega)) (v_nd (by omega) iq) ?_
          refine rk_astore dT_reshape_21 (Nat.le_of_ble_eq_true rfl) ?_
          refine rk_iload_n dT_reshape_23 rfl ?_
          refine rk_iload_n dT_reshape_24 rfl ?_
          refine rk_imul dT_reshape_25 ?_
          refine rk_iload dT_reshape_26 rfl ?_
          refine rk_imul dT_reshape_28 ?_
          refine rk_aload dT_reshape_29 rfl ?_
          refine rk_getf fT_118 dT_reshape_31 (by first | exact e1 | exact g1 | exact hna | exact id | assumption) rfl ?_
          refine rk_icmp_ne 41 dT_reshape_34 (by decide) (fun q_34 => ?_) (fun q_34 => ?_)
          · exact absurd hc q_34
          · refine rk_iconst (v := 1) dT_reshape_37 (by decide) ?_
            refine rk_goto 42 dT_reshape_38 (by decide) ?_
            refine rk_csI (c_T_require _ h) cT_125 dT_reshape_42 rfl lT_require (Nat.le_of_ble_eq_true rfl) (Nat.le_of_ble_eq_true rfl) (Nat.le_of_ble_eq_true rfl) (Nat.le_of_ble_eq_true rfl) rfl ⟨(Nat.le_of_ble_eq_true rfl), (Nat.le_of_ble_eq_true rfl)⟩ (fun g_42 => absurd (by decide) g_42) (fun g_42 => ?_)
            refine rk_aload_n dT_reshape_45 rfl ?_
            refine rk_cvI (c_T_requireRoom C.a (tR_of C s.ws s.out s.comp) (gR_of C.A X) h e1 g1) cT_54 dT_reshape_46 rfl lT_requireRoom (Nat.le_of_ble_eq_true rfl) (Nat.le_of_ble_eq_true rfl) (Nat.le_of_ble_eq_true rfl) (Nat.le_of_ble_eq_true rfl) (by first | exact e1 | exact g1 | exact hna | exact id | assumption) rfl ⟨(Nat.le_of_ble_eq_true rfl), (Nat.le_of_ble_eq_true rfl)⟩ (fun g_46 => (by rw [eop, mk2_2 hgg h14]; exact cPost.same k rfl rfl)) (fun g_46 => ?_)
            exact absurd h14 (hroom.mp g_46)
        · skip
          have P := fun (b q : Nat) (bn : h b = none) (hq : h q = none) (hbq : b ≠ q) => k.push ok.1.2.1.inn (by omega) X hX gI b q (x0 6 (some i) none x y z (s.N i).sc) bn hq hbq (show x * y * z ≤ 128 by omega)
          have hra : ratA (updN s.N s.n (x0 6 (some i) none x y z (s.N i).sc)) s.n = 0 := by
            unfold ratA
            rw [show updN s.N s.n (x0 6 (some i) none x y z (s.N i).sc) s.n = (x0 6 (some i) none x y z (s.N i).sc) from if_pos rfl]
            rfl
          have hrb : ratB (updN s.N s.n (x0 6 (some i) none x y z (s.N i).sc)) s.n = 0 := by
            unfold ratB
            rw [show updN s.N s.n (x0 6 (some i) none x y z (s.N i).sc) s.n = (x0 6 (some i) none x y z (s.N i).sc) from if_pos rfl]
            rfl
          rw [hra, hrb] at P
          refine rk_aload_n dT_reshape_0 rfl ?_
          refine rk_iload_n dT_reshape_1 rfl ?_
          refine rk_cvI (c_T_requireNode C.a C.gb (tR_of C s.ws s.out s.comp) (gR_of C.A X) (nI i) h e1 g1) cT_66 dT_reshape_2 rfl lT_requireNode (Nat.le_of_ble_eq_true rfl) (Nat.le_of_ble_eq_true rfl) (Nat.le_of_ble_eq_true rfl) (Nat.le_of_ble_eq_true rfl) (by first | exact rk_up_k (rk_ne e1 bn) e1 | exact rk_up_k (rk_ne g1 bn) g1 | exact rk_up_k (rk_ne hna bn) hna | exact rk_up_k (rk_ne id bn) id | exact e1 | exact g1 | exact hna | exact id | assumption) rfl ⟨(Nat.le_of_ble_eq_true rfl), (Nat.le_of_ble_eq_true rfl)⟩ (fun g_2 => absurd (show btw (nI i) 0 (nI X.n - 1) by rw [hX]; exact btB_iff.mp hi) g_2) (fun g_2 => ?_)
          refine rk_iload_n dT_reshape_5 rfl ?_
          refine rk_iload_n dT_reshape_6 rfl ?_
          refine rk_iload dT_reshape_7 rfl ?_
          refine rk_csI (c_T_requireShape _ _ _ h) cT_51 dT_reshape_9 rfl lT_requireShape (Nat.le_of_ble_eq_true rfl) (Nat.le_of_ble_eq_true rfl) (Nat.le_of_ble_eq_true rfl) (Nat.le_of_ble_eq_true rfl) rfl ⟨(Nat.le_of_ble_eq_true rfl), (Nat.le_of_ble_eq_true rfl)⟩ (fun g_9 => absurd hsh g_9) (fun g_9 => ?_)
          refine rk_aload_n dT_reshape_12 rfl ?_
          refine rk_getf fT_12 dT_reshape_13 (by first | exact rk_up_k (rk_ne e1 bn) e1 | exact rk_up_k (rk_ne g1 bn) g1 | exact rk_up_k (rk_ne hna bn) hna | exact rk_up_k (rk_ne id bn) id | exact e1 | exact g1 | exact hna | exact id | assumption) rfl ?_
          refine rk_getf fT_74 dT_reshape_16 (by first | exact rk_up_k (rk_ne e1 bn) e1 | exact rk_up_k (rk_ne g1 bn) g1 | exact rk_up_k (rk_ne hna bn) hna | exact rk_up_k (rk_ne id bn) id | exact e1 | exact g1 | exact hna | exact id | assumption) rfl ?_
          refine rk_iload_n dT_reshape_19 rfl ?_
          refine rk_aald rfl dT_reshape_20 (by first | exact rk_up_k (rk_ne e1 bn) e1 | exact rk_up_k (rk_ne g1 bn) g1 | exact rk_up_k (rk_ne hna bn) hna | exact rk_up_k (rk_ne id bn) id | exact e1 | exact g1 | exact hna | exact id | assumption) (vp_in_nI i14 (by omega)) (v_nd (by omega) iq) ?_
          refine rk_astore dT_reshape_21 (Nat.le_of_ble_eq_true rfl) ?_
          refine rk_iload_n dT_reshape_23 rfl ?_
          refine rk_iload_n dT_reshape_24 rfl ?_
          refine rk_imul dT_reshape_25 ?_
          refine rk_iload dT_reshape_26 rfl ?_
          refine rk_imul dT_reshape_28 ?_
          refine rk_aload dT_reshape_29 rfl ?_
          refine rk_getf fT_118 dT_reshape_31 (by first | exact rk_up_k (rk_ne e1 bn) e1 | exact rk_up_k (rk_ne g1 bn) g1 | exact rk_up_k (rk_ne hna bn) hna | exact rk_up_k (rk_ne id bn) id | exact e1 | exact g1 | exact hna | exact id | assumption) rfl ?_
          refine rk_icmp_ne 41 dT_reshape_34 (by decide) (fun q_34 => (by exact absurd hc q_34)) (fun q_34 => ?_)
          refine rk_iconst (v := 1) dT_reshape_37 (by decide) ?_
          refine rk_goto 42 dT_reshape_38 (by decide) ?_
          refine rk_csI (c_T_require _ h) cT_125 dT_reshape_42 rfl lT_require (Nat.le_of_ble_eq_true rfl) (Nat.le_of_ble_eq_true rfl) (Nat.le_of_ble_eq_true rfl) (Nat.le_of_ble_eq_true rfl) rfl ⟨(Nat.le_of_ble_eq_true rfl), (Nat.le_of_ble_eq_true rfl)⟩ (fun g_42 => absurd (by decide) g_42) (fun g_42 => ?_)
          refine rk_aload_n dT_reshape_45 rfl ?_
          refine rk_cvI (c_T_requireRoom C.a (tR_of C s.ws s.out s.comp) (gR_of C.A X) h e1 g1) cT_54 dT_reshape_46 rfl lT_requireRoom (Nat.le_of_ble_eq_true rfl) (Nat.le_of_ble_eq_true rfl) (Nat.le_of_ble_eq_true rfl) (Nat.le_of_ble_eq_true rfl) (by first | exact rk_up_k (rk_ne e1 bn) e1 | exact rk_up_k (rk_ne g1 bn) g1 | exact rk_up_k (rk_ne hna bn) hna | exact rk_up_k (rk_ne id bn) id | exact e1 | exact g1 | exact hna | exact id | assumption) rfl ⟨(Nat.le_of_ble_eq_true rfl), (Nat.le_of_ble_eq_true rfl)⟩ (fun g_46 => absurd (hroom.mpr h14) g_46) (fun g_46 => ?_)
          refine rk_aload_n dT_reshape_49 rfl ?_
          refine rk_new (fs := [.int 0, .int 0, .int 0, .int 0, .int 0, .int 0, .int 0, .double 0, .null, .int 0, .int 0, .double 0, .int 0, .int 0, .double 0, .double 0]) kN nT_57.1 nT_57.2.1 nT_57.2.2 (by intro j hj; rcases (show j = 0 ∨ j = 1 ∨ j = 2 ∨ j = 3 ∨ j = 4 ∨ j = 5 ∨ j = 6 ∨ j = 7 ∨ j = 8 ∨ j = 9 ∨ j = 10 ∨ j = 11 ∨ j = 12 ∨ j = 13 ∨ j = 14 ∨ j = 15 by omega) with rfl | rfl | rfl | rfl | rfl | rfl | rfl | rfl | rfl | rfl | rfl | rfl | rfl | rfl | rfl | rfl <;> rfl) dT_reshape_50 (Nat.le_of_ble_eq_true rfl) (Nat.le_of_ble_eq_true rfl) (fun b bn => ?_)
          refine rk_dup dT_reshape_53 rfl ?_
          refine rk_bipush (v := 6) dT_reshape_54 (by decide) ?_
          refine rk_iload_n dT_reshape_56 rfl ?_
          refine rk_iconst (v := -1) dT_reshape_57 (by decide) ?_
          refine rk_iload_n dT_reshape_58 rfl ?_
          refine rk_iload_n dT_reshape_59 rfl ?_
          refine rk_iload dT_reshape_60 rfl ?_
          refine rk_aload dT_reshape_62 rfl ?_
          refine rk_getf fT_129 dT_reshape_64 (by first | exact rk_up_k (rk_ne e1 bn) e1 | exact rk_up_k (rk_ne g1 bn) g1 | exact rk_up_k (rk_ne hna bn) hna | exact rk_up_k (rk_ne id bn) id | exact e1 | exact g1 | exact hna | exact id | assumption) rfl ?_
          refine rk_cnG (c_N_init b 6 (some i) none x y z (s.N i).sc _ rk_up_s (by omega) (by omega)) cT_59 dT_reshape_67 rfl lN_init (Nat.le_of_ble_eq_true rfl) (Nat.le_of_ble_eq_true rfl) (Nat.le_of_ble_eq_true rfl) (Nat.le_of_ble_eq_true rfl) ?_
          rintro r_0 h_0 ⟨rfl, q, hq0, rfl⟩
          refine rk_nx0 ?_
          obtain ⟨hbq, hq⟩ := new_fr hq0
          rw [new_sw hbq]
          have hab : C.a ≠ b := rk_ne e1 bn
          have haq : C.a ≠ q := rk_ne e1 hq
          have hgb : C.gb ≠ b := rk_ne g1 bn
          have hgq : C.gb ≠ q := rk_ne g1 hq
          have hnb : C.A.na ≠ b := rk_ne hna bn
          have hnq : C.A.na ≠ q := rk_ne hna hq
          refine rk_cvV (c_T_keep C s b X _ _ (by simp only [rk_up_s, rk_up_n hab, rk_up_n haq, rk_up_n hgb, rk_up_n hgq, rk_up_n hnb, rk_up_n hnq]; exact e1) (by simp only [rk_up_s, rk_up_n hab, rk_up_n haq, rk_up_n hgb, rk_up_n hgq, rk_up_n hnb, rk_up_n hnq]; exact g1) (by simp only [rk_up_s, rk_up_n hab, rk_up_n haq, rk_up_n hgb, rk_up_n hgq, rk_up_n hnb, rk_up_n hnq]; exact hna) rk_up_s (by omega)) cT_62 dT_reshape_70 rfl lT_keep (Nat.le_of_ble_eq_true rfl) (Nat.le_of_ble_eq_true rfl) (Nat.le_of_ble_eq_true rfl) (Nat.le_of_ble_eq_true rfl) (by first | (simp only [rk_up_s, rk_up_n hab, rk_up_n haq, rk_up_n hgb, rk_up_n hgq, rk_up_n hnb, rk_up_n hnq]; first | exact e1 | exact g1 | exact hna | rfl) | exact e1 | exact g1 | exact hna | assumption) ?_
          exact rk_iret rfl dT_reshape_73 ⟨(Nat.le_of_ble_eq_true rfl), (Nat.le_of_ble_eq_true rfl)⟩ (by rw [eop, mk2_0 hgg h14]; exact ⟨⟨_, (P b q bn hq hbq).1, (P b q bn hq hbq).2⟩, by rw [hX]; rfl⟩)
      · have eo : opReshape s (nI i) (nI x) (nI y) (nI z) = (1, none, s) := by
          rw [eop]
          exact mk2_1 (fun w => hc (of_decide_eq_true (and2.mp w).2))
        refine rk_aload_n dT_reshape_0 rfl ?_
        refine rk_iload_n dT_reshape_1 rfl ?_
        refine rk_cvI (c_T_requireNode C.a C.gb (tR_of C s.ws s.out s.comp) (gR_of C.A X) (nI i) h e1 g1) cT_66 dT_reshape_2 rfl lT_requireNode (Nat.le_of_ble_eq_true rfl) (Nat.le_of_ble_eq_true rfl) (Nat.le_of_ble_eq_true rfl) (Nat.le_of_ble_eq_true rfl) (by first | exact e1 | exact g1 | exact hna | exact id | assumption) rfl ⟨(Nat.le_of_ble_eq_true rfl), (Nat.le_of_ble_eq_true rfl)⟩ (fun g_2 => absurd (show btw (nI i) 0 (nI X.n - 1) by rw [hX]; exact btB_iff.mp hi) g_2) (fun g_2 => ?_)
        refine rk_iload_n dT_reshape_5 rfl ?_
        refine rk_iload_n dT_reshape_6 rfl ?_
        refine rk_iload dT_reshape_7 rfl ?_
        refine rk_csI (c_T_requireShape _ _ _ h) cT_51 dT_reshape_9 rfl lT_requireShape (Nat.le_of_ble_eq_true rfl) (Nat.le_of_ble_eq_true rfl) (Nat.le_of_ble_eq_true rfl) (Nat.le_of_ble_eq_true rfl) rfl ⟨(Nat.le_of_ble_eq_true rfl), (Nat.le_of_ble_eq_true rfl)⟩ (fun g_9 => absurd hsh g_9) (fun g_9 => ?_)
        refine rk_aload_n dT_reshape_12 rfl ?_
        refine rk_getf fT_12 dT_reshape_13 (by first | exact e1 | exact g1 | exact hna | exact id | assumption) rfl ?_
        refine rk_getf fT_74 dT_reshape_16 (by first | exact e1 | exact g1 | exact hna | exact id | assumption) rfl ?_
        refine rk_iload_n dT_reshape_19 rfl ?_
        refine rk_aald rfl dT_reshape_20 (by first | exact e1 | exact g1 | exact hna | exact id | assumption) (vp_in_nI i14 (by omega)) (v_nd (by omega) iq) ?_
        refine rk_astore dT_reshape_21 (Nat.le_of_ble_eq_true rfl) ?_
        refine rk_iload_n dT_reshape_23 rfl ?_
        refine rk_iload_n dT_reshape_24 rfl ?_
        refine rk_imul dT_reshape_25 ?_
        refine rk_iload dT_reshape_26 rfl ?_
        refine rk_imul dT_reshape_28 ?_
        refine rk_aload dT_reshape_29 rfl ?_
        refine rk_getf fT_118 dT_reshape_31 (by first | exact e1 | exact g1 | exact hna | exact id | assumption) rfl ?_
        refine rk_icmp_ne 41 dT_reshape_34 (by decide) (fun q_34 => ?_) (fun q_34 => ?_)
        · refine rk_iconst (v := 0) dT_reshape_41 (by decide) ?_
          refine rk_csI (c_T_require _ h) cT_125 dT_reshape_42 rfl lT_require (Nat.le_of_ble_eq_true rfl) (Nat.le_of_ble_eq_true rfl) (Nat.le_of_ble_eq_true rfl) (Nat.le_of_ble_eq_true rfl) rfl ⟨(Nat.le_of_ble_eq_true rfl), (Nat.le_of_ble_eq_true rfl)⟩ (fun g_42 => (by rw [eo]; exact cPost.same k rfl rfl)) (fun g_42 => ?_)
          exact absurd rfl g_42
        · exact absurd q_34 hc
    · have eo : opReshape s (nI i) x y z = (1, none, s) := mk2_1 (fun w => hg (and2.mp (and2.mp w).1).2)
      refine rk_aload_n dT_reshape_0 rfl ?_
      refine rk_iload_n dT_reshape_1 rfl ?_
      refine rk_cvI (c_T_requireNode C.a C.gb (tR_of C s.ws s.out s.comp) (gR_of C.A X) (nI i) h e1 g1) cT_66 dT_reshape_2 rfl lT_requireNode (Nat.le_of_ble_eq_true rfl) (Nat.le_of_ble_eq_true rfl) (Nat.le_of_ble_eq_true rfl) (Nat.le_of_ble_eq_true rfl) (by first | exact e1 | exact g1 | exact hna | exact id | assumption) rfl ⟨(Nat.le_of_ble_eq_true rfl), (Nat.le_of_ble_eq_true rfl)⟩ (fun g_2 => absurd (show btw (nI i) 0 (nI X.n - 1) by rw [hX]; exact btB_iff.mp hi) g_2) (fun g_2 => ?_)
      refine rk_iload_n dT_reshape_5 rfl ?_
      refine rk_iload_n dT_reshape_6 rfl ?_
      refine rk_iload dT_reshape_7 rfl ?_
      refine rk_csI (c_T_requireShape _ _ _ h) cT_51 dT_reshape_9 rfl lT_requireShape (Nat.le_of_ble_eq_true rfl) (Nat.le_of_ble_eq_true rfl) (Nat.le_of_ble_eq_true rfl) (Nat.le_of_ble_eq_true rfl) rfl ⟨(Nat.le_of_ble_eq_true rfl), (Nat.le_of_ble_eq_true rfl)⟩ (fun g_9 => (by rw [eo]; exact cPost.same k rfl rfl)) (fun g_9 => ?_)
      exact absurd (by rw [btB_iff.mpr g_9.1, btB_iff.mpr g_9.2.1, btB_iff.mpr g_9.2.2]; rfl) hg
  · have eo : opReshape s p x y z = (1, none, s) := mk2_1 (fun w => hi (and2.mp (and2.mp w).1).1)
    refine rk_aload_n dT_reshape_0 rfl ?_
    refine rk_iload_n dT_reshape_1 rfl ?_
    refine rk_cvI (c_T_requireNode C.a C.gb (tR_of C s.ws s.out s.comp) (gR_of C.A X) p h e1 g1) cT_66 dT_reshape_2 rfl lT_requireNode (Nat.le_of_ble_eq_true rfl) (Nat.le_of_ble_eq_true rfl) (Nat.le_of_ble_eq_true rfl) (Nat.le_of_ble_eq_true rfl) (by first | exact e1 | exact g1 | assumption) rfl ⟨(Nat.le_of_ble_eq_true rfl), (Nat.le_of_ble_eq_true rfl)⟩ (fun g_2 => (by rw [eo]; exact cPost.same k rfl rfl)) (fun g_2 => ?_)
    exact absurd (btB_iff.mpr (show btw p 0 (nI s.n - 1) by rw [← hX]; exact g_2)) hi
theorem c_T_clamp (C : cT) (s : aS) (p lo hi : Int32) (h : rk_H) (k : cOK h C s) (ok : aOK s) : rk_Con mT_clamp (9, 121, 6, 168) [.ref C.a, .int p, .int lo, .int hi] h (cPost h C s.n (opClamp s p lo hi) (exL [x_IA, x_IS])) := by
  have e1 := k.1.1
  obtain ⟨X, hX, hG⟩ := k.1.2.2.1.eq
  have gI : gIs h C.gb C.A X := by
    have kg := k.1.2.2.1
    rw [hG]
    exact ⟨kg.gb, kg.gsf, kg.gst, kg.gsp, kg.gpl, kg.gla⟩
  have g1 := gI.1
  have hna := k.1.2.2.1.2.1.1
  have hn := ok.1.1
  have hroom := room_n hX hn
  refine rk_Con.of [some (.ref C.a), some (.int p), some (.int lo), some (.int hi), none, none] rfl (Nat.le_of_ble_eq_true rfl) (by decide +kernel) ?_
  by_cases hi_i : ndB s p = true
  · obtain ⟨i, il, rfl⟩ := ndB_of hn hi_i
    obtain ⟨iq, id⟩ := k.1.2.2.1.2.1.2 i il
    have i14 : i < 14 := by omega
    have ib := ok.1.2.1.bd i il
    have ip := (ok.1.2.1 i il).1.2.1
    have ic := ib.ce
    have it : tN (nI i) = i := tN_I (by omega)
    have eop : opClamp s (nI i) lo hi = mk2 s (ndB s (nI i) && btB hi (-128) 127 && btB lo (-128) hi) (((9, some i, none), ((s.N i).h, (s.N i).w, (s.N i).c), ((s.N i).sc, 0), (0, 0), (lo, hi)) : aN) := by
      unfold opClamp
      rw [it]
    by_cases hg : (btB hi (-128) 127 && btB lo (-128) hi) = true
    · obtain ⟨hg1, hg2⟩ := and2.mp hg
      have hgg : (ndB s (nI i) && btB hi (-128) 127 && btB lo (-128) hi) = true := by rw [hi_i, hg1, hg2]; rfl
      by_cases h14 : s.n = 14
      · refine rk_aload_n dT_clamp_0 rfl ?_
        refine rk_iload_n dT_clamp_1 rfl ?_
        refine rk_cvI (c_T_requireNode C.a C.gb (tR_of C s.ws s.out s.comp) (gR_of C.A X) (nI i) h e1 g1) cT_66 dT_clamp_2 rfl lT_requireNode (Nat.le_of_ble_eq_true rfl) (Nat.le_of_ble_eq_true rfl) (Nat.le_of_ble_eq_true rfl) (Nat.le_of_ble_eq_true rfl) (by first | exact e1 | exact g1 | exact hna | exact id | assumption) rfl ⟨(Nat.le_of_ble_eq_true rfl), (Nat.le_of_ble_eq_true rfl)⟩ (fun g_2 => absurd (show btw (nI i) 0 (nI X.n - 1) by rw [hX]; exact btB_iff.mp hi_i) g_2) (fun g_2 => ?_)
        refine rk_iload_n dT_clamp_5 rfl ?_
        refine rk_bipush (v := -128) dT_clamp_6 (by decide) ?_
        refine rk_bipush (v := 127) dT_clamp_8 (by decide) ?_
        refine rk_csI (c_T_requireBetween _ _ _ h) cT_35 dT_clamp_10 rfl lT_requireBetween (Nat.le_of_ble_eq_true rfl) (Nat.le_of_ble_eq_true rfl) (Nat.le_of_ble_eq_true rfl) (Nat.le_of_ble_eq_true rfl) rfl ⟨(Nat.le_of_ble_eq_true rfl), (Nat.le_of_ble_eq_true rfl)⟩ (fun g_10 => absurd (btB_iff.mp hg1) g_10) (fun g_10 => ?_)
        refine rk_iload_n dT_clamp_13 rfl ?_
        refine rk_bipush (v := -128) dT_clamp_14 (by decide) ?_
        refine rk_iload_n dT_clamp_16 rfl ?_
        refine rk_csI (c_T_requireBetween _ _ _ h) cT_35 dT_clamp_17 rfl lT_requireBetween (Nat.le_of_ble_eq_true rfl) (Nat.le_of_ble_eq_true rfl) (Nat.le_of_ble_eq_true rfl) (Nat.le_of_ble_eq_true rfl) rfl ⟨(Nat.le_of_ble_eq_true rfl), (Nat.le_of_ble_eq_true rfl)⟩ (fun g_17 => absurd (btB_iff.mp hg2) g_17) (fun g_17 => ?_)
        refine rk_aload_n dT_clamp_20 rfl ?_
        refine rk_cvI (c_T_requireRoom C.a (tR_of C s.ws s.out s.comp) (gR_of C.A X) h e1 g1) cT_54 dT_clamp_21 rfl lT_requireRoom (Nat.le_of_ble_eq_true rfl) (Nat.le_of_ble_eq_true rfl) (Nat.le_of_ble_eq_true rfl) (Nat.le_of_ble_eq_true rfl) (by first | exact e1 | exact g1 | exact hna | exact id | assumption) rfl ⟨(Nat.le_of_ble_eq_true rfl), (Nat.le_of_ble_eq_true rfl)⟩ (fun g_21 => (by rw [eop, mk2_2 hgg h14]; exact cPost.same k rfl rfl)) (fun g_21 => ?_)
        exact absurd h14 (hroom.mp g_21)
      · skip
        have P := fun (b q : Nat) (bn : h b = none) (hq : h q = none) (hbq : b ≠ q) => k.push ok.1.2.1.inn (by omega) X hX gI b q (((9, some i, none), ((s.N i).h, (s.N i).w, (s.N i).c), ((s.N i).sc, 0), (0, 0), (lo, hi)) : aN) bn hq hbq ic
        have hra : ratA (updN s.N s.n (((9, some i, none), ((s.N i).h, (s.N i).w, (s.N i).c), ((s.N i).sc, 0), (0, 0), (lo, hi)) : aN)) s.n = 0 := by
          unfold ratA
          rw [show updN s.N s.n (((9, some i, none), ((s.N i).h, (s.N i).w, (s.N i).c), ((s.N i).sc, 0), (0, 0), (lo, hi)) : aN) s.n = (((9, some i, none), ((s.N i).h, (s.N i).w, (s.N i).c), ((s.N i).sc, 0), (0, 0), (lo, hi)) : aN) from if_pos rfl]
          rfl
        have hrb : ratB (updN s.N s.n (((9, some i, none), ((s.N i).h, (s.N i).w, (s.N i).c), ((s.N i).sc, 0), (0, 0), (lo, hi)) : aN)) s.n = 0 := by
          unfold ratB
          rw [show updN s.N s.n (((9, some i, none), ((s.N i).h, (s.N i).w, (s.N i).c), ((s.N i).sc, 0), (0, 0), (lo, hi)) : aN) s.n = (((9, some i, none), ((s.N i).h, (s.N i).w, (s.N i).c), ((s.N i).sc, 0), (0, 0), (lo, hi)) : aN) from if_pos rfl]
          rfl
        rw [hra, hrb] at P
        refine rk_aload_n dT_clamp_0 rfl ?_
        refine rk_iload_n dT_clamp_1 rfl ?_
        refine rk_cvI (c_T_requireNode C.a C.gb (tR_of C s.ws s.out s.comp) (gR_of C.A X) (nI i) h e1 g1) cT_66 dT_clamp_2 rfl lT_requireNode (Nat.le_of_ble_eq_true rfl) (Nat.le_of_ble_eq_true rfl) (Nat.le_of_ble_eq_true rfl) (Nat.le_of_ble_eq_true rfl) (by first | exact rk_up_k (rk_ne e1 bn) e1 | exact rk_up_k (rk_ne g1 bn) g1 | exact rk_up_k (rk_ne hna bn) hna | exact rk_up_k (rk_ne id bn) id | exact e1 | exact g1 | exact hna | exact id | assumption) rfl ⟨(Nat.le_of_ble_eq_true rfl), (Nat.le_of_ble_eq_true rfl)⟩ (fun g_2 => absurd (show btw (nI i) 0 (nI X.n - 1) by rw [hX]; exact btB_iff.mp hi_i) g_2) (fun g_2 => ?_)
        refine rk_iload_n dT_clamp_5 rfl ?_
        refine rk_bipush (v := -128) dT_clamp_6 (by decide) ?_
        refine rk_bipush (v := 127) dT_clamp_8 (by decide) ?_
        refine rk_csI (c_T_requireBetween _ _ _ h) cT_35 dT_clamp_10 rfl lT_requireBetween (Nat.le_of_ble_eq_true rfl) (Nat.le_of_ble_eq_true rfl) (Nat.le_of_ble_eq_true rfl) (Nat.le_of_ble_eq_true rfl) rfl ⟨(Nat.le_of_ble_eq_true rfl), (Nat.le_of_ble_eq_true rfl)⟩ (fun g_10 => absurd (btB_iff.mp hg1) g_10) (fun g_10 => ?_)
        refine rk_iload_n dT_clamp_13 rfl ?_
        refine rk_bipush (v := -128) dT_clamp_14 (by decide) ?_
        refine rk_iload_n dT_clamp_16 rfl ?_
        refine rk_csI (c_T_requireBetween _ _ _ h) cT_35 dT_clamp_17 rfl lT_requireBetween (Nat.le_of_ble_eq_true rfl) (Nat.le_of_ble_eq_true rfl) (Nat.le_of_ble_eq_true rfl) (Nat.le_of_ble_eq_true rfl) rfl ⟨(Nat.le_of_ble_eq_true rfl), (Nat.le_of_ble_eq_true rfl)⟩ (fun g_17 => absurd (btB_iff.mp hg2) g_17) (fun g_17 => ?_)
        refine rk_aload_n dT_clamp_20 rfl ?_
        refine rk_cvI (c_T_requireRoom C.a (tR_of C s.ws s.out s.comp) (gR_of C.A X) h e1 g1) cT_54 dT_clamp_21 rfl lT_requireRoom (Nat.le_of_ble_eq_true rfl) (Nat.le_of_ble_eq_true rfl) (Nat.le_of_ble_eq_true rfl) (Nat.le_of_ble_eq_true rfl) (by first | exact rk_up_k (rk_ne e1 bn) e1 | exact rk_up_k (rk_ne g1 bn) g1 | exact rk_up_k (rk_ne hna bn) hna | exact rk_up_k (rk_ne id bn) id | exact e1 | exact g1 | exact hna | exact id | assumption) rfl ⟨(Nat.le_of_ble_eq_true rfl), (Nat.le_of_ble_eq_true rfl)⟩ (fun g_21 => absurd (hroom.mpr h14) g_21) (fun g_21 => ?_)
        refine rk_aload_n dT_clamp_24 rfl ?_
        refine rk_getf fT_12 dT_clamp_25 (by first | exact rk_up_k (rk_ne e1 bn) e1 | exact rk_up_k (rk_ne g1 bn) g1 | exact rk_up_k (rk_ne hna bn) hna | exact rk_up_k (rk_ne id bn) id | exact e1 | exact g1 | exact hna | exact id | assumption) rfl ?_
        refine rk_getf fT_74 dT_clamp_28 (by first | exact rk_up_k (rk_ne e1 bn) e1 | exact rk_up_k (rk_ne g1 bn) g1 | exact rk_up_k (rk_ne hna bn) hna | exact rk_up_k (rk_ne id bn) id | exact e1 | exact g1 | exact hna | exact id | assumption) rfl ?_
        refine rk_iload_n dT_clamp_31 rfl ?_
        refine rk_aald rfl dT_clamp_32 (by first | exact rk_up_k (rk_ne e1 bn) e1 | exact rk_up_k (rk_ne g1 bn) g1 | exact rk_up_k (rk_ne hna bn) hna | exact rk_up_k (rk_ne id bn) id | exact e1 | exact g1 | exact hna | exact id | assumption) (vp_in_nI i14 (by omega)) (v_nd (by omega) iq) ?_
        refine rk_astore dT_clamp_33 (Nat.le_of_ble_eq_true rfl) ?_
        refine rk_new (fs := [.int 0, .int 0, .int 0, .int 0, .int 0, .int 0, .int 0, .double 0, .null, .int 0, .int 0, .double 0, .int 0, .int 0, .double 0, .double 0]) kN nT_57.1 nT_57.2.1 nT_57.2.2 (by intro j hj; rcases (show j = 0 ∨ j = 1 ∨ j = 2 ∨ j = 3 ∨ j = 4 ∨ j = 5 ∨ j = 6 ∨ j = 7 ∨ j = 8 ∨ j = 9 ∨ j = 10 ∨ j = 11 ∨ j = 12 ∨ j = 13 ∨ j = 14 ∨ j = 15 by omega) with rfl | rfl | rfl | rfl | rfl | rfl | rfl | rfl | rfl | rfl | rfl | rfl | rfl | rfl | rfl | rfl <;> rfl) dT_clamp_35 (Nat.le_of_ble_eq_true rfl) (Nat.le_of_ble_eq_true rfl) (fun b bn => ?_)
        refine rk_dup dT_clamp_38 rfl ?_
        refine rk_bipush (v := 9) dT_clamp_39 (by decide) ?_
        refine rk_iload_n dT_clamp_41 rfl ?_
        refine rk_iconst (v := -1) dT_clamp_42 (by decide) ?_
        refine rk_aload dT_clamp_43 rfl ?_
        refine rk_getf fT_101 dT_clamp_45 (by first | exact rk_up_k (rk_ne e1 bn) e1 | exact rk_up_k (rk_ne g1 bn) g1 | exact rk_up_k (rk_ne hna bn) hna | exact rk_up_k (rk_ne id bn) id | exact e1 | exact g1 | exact hna | exact id | assumption) rfl ?_
        refine rk_aload dT_clamp_48 rfl ?_
        refine rk_getf fT_108 dT_clamp_50 (by first | exact rk_up_k (rk_ne e1 bn) e1 | exact rk_up_k (rk_ne g1 bn) g1 | exact rk_up_k (rk_ne hna bn) hna | exact rk_up_k (rk_ne id bn) id | exact e1 | exact g1 | exact hna | exact id | assumption) rfl ?_
        refine rk_aload dT_clamp_53 rfl ?_
        refine rk_getf fT_88 dT_clamp_55 (by first | exact rk_up_k (rk_ne e1 bn) e1 | exact rk_up_k (rk_ne g1 bn) g1 | exact rk_up_k (rk_ne hna bn) hna | exact rk_up_k (rk_ne id bn) id | exact e1 | exact g1 | exact hna | exact id | assumption) rfl ?_
        refine rk_aload dT_clamp_58 rfl ?_
        refine rk_getf fT_129 dT_clamp_60 (by first | exact rk_up_k (rk_ne e1 bn) e1 | exact rk_up_k (rk_ne g1 bn) g1 | exact rk_up_k (rk_ne hna bn) hna | exact rk_up_k (rk_ne id bn) id | exact e1 | exact g1 | exact hna | exact id | assumption) rfl ?_
        refine rk_cnG (c_N_init b 9 (some i) none (s.N i).h (s.N i).w (s.N i).c (s.N i).sc _ rk_up_s ic (by omega)) cT_59 dT_clamp_63 rfl lN_init (Nat.le_of_ble_eq_true rfl) (Nat.le_of_ble_eq_true rfl) (Nat.le_of_ble_eq_true rfl) (Nat.le_of_ble_eq_true rfl) ?_
        rintro r_0 h_0 ⟨rfl, q, hq0, rfl⟩
        refine rk_nx0 ?_
        obtain ⟨hbq, hq⟩ := new_fr hq0
        rw [new_sw hbq]
        have hab : C.a ≠ b := rk_ne e1 bn
        have haq : C.a ≠ q := rk_ne e1 hq
        have hgb : C.gb ≠ b := rk_ne g1 bn
        have hgq : C.gb ≠ q := rk_ne g1 hq
        have hnb : C.A.na ≠ b := rk_ne hna bn
        have hnq : C.A.na ≠ q := rk_ne hna hq
        refine rk_astore dT_clamp_66 (Nat.le_of_ble_eq_true rfl) ?_
        refine rk_aload dT_clamp_68 rfl ?_
        refine rk_iload_n dT_clamp_70 rfl ?_
        refine rk_putf pT_138 dT_clamp_71 (by first | (simp only [rk_up_s, rk_up_n hab, rk_up_n haq, rk_up_n hgb, rk_up_n hgq, rk_up_n hnb, rk_up_n hnq]; first | exact e1 | exact g1 | exact hna | rfl) | exact e1 | exact g1 | exact hna | assumption) (Nat.le_of_ble_eq_true rfl) rfl rfl ?_
        refine rk_aload dT_clamp_74 rfl ?_
        refine rk_iload_n dT_clamp_76 rfl ?_
        refine rk_putf pT_141 dT_clamp_77 (by first | (simp only [rk_up_s, rk_up_n hab, rk_up_n haq, rk_up_n hgb, rk_up_n hgq, rk_up_n hnb, rk_up_n hnq]; first | exact e1 | exact g1 | exact hna | rfl) | exact e1 | exact g1 | exact hna | assumption) (Nat.le_of_ble_eq_true rfl) rfl rfl ?_
        rw [rk_up_up, rk_up_up]
        refine rk_aload_n dT_clamp_80 rfl ?_
        refine rk_aload dT_clamp_81 rfl ?_
        refine rk_cvV (c_T_keep C s b X _ _ (by simp only [rk_up_s, rk_up_n hab, rk_up_n haq, rk_up_n hgb, rk_up_n hgq, rk_up_n hnb, rk_up_n hnq]; exact e1) (by simp only [rk_up_s, rk_up_n hab, rk_up_n haq, rk_up_n hgb, rk_up_n hgq, rk_up_n hnb, rk_up_n hnq]; exact g1) (by simp only [rk_up_s, rk_up_n hab, rk_up_n haq, rk_up_n hgb, rk_up_n hgq, rk_up_n hnb, rk_up_n hnq]; exact hna) rk_up_s (by omega)) cT_62 dT_clamp_83 rfl lT_keep (Nat.le_of_ble_eq_true rfl) (Nat.le_of_ble_eq_true rfl) (Nat.le_of_ble_eq_true rfl) (Nat.le_of_ble_eq_true rfl) (by first | (simp only [rk_up_s, rk_up_n hab, rk_up_n haq, rk_up_n hgb, rk_up_n hgq, rk_up_n hnb, rk_up_n hnq]; first | exact e1 | exact g1 | exact hna | rfl) | exact e1 | exact g1 | exact hna | assumption) ?_
        exact rk_iret rfl dT_clamp_86 ⟨(Nat.le_of_ble_eq_true rfl), (Nat.le_of_ble_eq_true rfl)⟩ (by rw [eop, mk2_0 hgg h14]; exact ⟨⟨_, (P b q bn hq hbq).1, (P b q bn hq hbq).2⟩, by rw [hX]; rfl⟩)
    · have eo : opClamp s (nI i) lo hi = (1, none, s) := mk2_1 (fun w => hg (by rw [(and2.mp (and2.mp w).1).2, (and2.mp w).2]; rfl))
      refine rk_aload_n dT_clamp_0 rfl ?_
      refine rk_iload_n dT_clamp_1 rfl ?_
      refine rk_cvI (c_T_requireNode C.a C.gb (tR_of C s.ws s.out s.comp) (gR_of C.A X) (nI i) h e1 g1) cT_66 dT_clamp_2 rfl lT_requireNode (Nat.le_of_ble_eq_true rfl) (Nat.le_of_ble_eq_true rfl) (Nat.le_of_ble_eq_true rfl) (Nat.le_of_ble_eq_true rfl) (by first | exact e1 | exact g1 | exact hna | exact id | assumption) rfl ⟨(Nat.le_of_ble_eq_true rfl), (Nat.le_of_ble_eq_true rfl)⟩ (fun g_2 => absurd (show btw (nI i) 0 (nI X.n - 1) by rw [hX]; exact btB_iff.mp hi_i) g_2) (fun g_2 => ?_)
      refine rk_iload_n dT_clamp_5 rfl ?_
      refine rk_bipush (v := -128) dT_clamp_6 (by decide) ?_
      refine rk_bipush (v := 127) dT_clamp_8 (by decide) ?_
      refine rk_csI (c_T_requireBetween _ _ _ h) cT_35 dT_clamp_10 rfl lT_requireBetween (Nat.le_of_ble_eq_true rfl) (Nat.le_of_ble_eq_true rfl) (Nat.le_of_ble_eq_true rfl) (Nat.le_of_ble_eq_true rfl) rfl ⟨(Nat.le_of_ble_eq_true rfl), (Nat.le_of_ble_eq_true rfl)⟩ (fun g_10 => (by rw [eo]; exact cPost.same k rfl rfl)) (fun g_10 => ?_)
      refine rk_iload_n dT_clamp_13 rfl ?_
      refine rk_bipush (v := -128) dT_clamp_14 (by decide) ?_
      refine rk_iload_n dT_clamp_16 rfl ?_
      refine rk_csI (c_T_requireBetween _ _ _ h) cT_35 dT_clamp_17 rfl lT_requireBetween (Nat.le_of_ble_eq_true rfl) (Nat.le_of_ble_eq_true rfl) (Nat.le_of_ble_eq_true rfl) (Nat.le_of_ble_eq_true rfl) rfl ⟨(Nat.le_of_ble_eq_true rfl), (Nat.le_of_ble_eq_true rfl)⟩ (fun g_17 => (by rw [eo]; exact cPost.same k rfl rfl)) (fun g_17 => ?_)
      exact absurd (by rw [btB_iff.mpr g_10, btB_iff.mpr g_17]; rfl) hg
  · have eo : opClamp s p lo hi = (1, none, s) := mk2_1 (fun w => hi_i (and2.mp (and2.mp w).1).1)
    refine rk_aload_n dT_clamp_0 rfl ?_
    refine rk_iload_n dT_clamp_1 rfl ?_
    refine rk_cvI (c_T_requireNode C.a C.gb (tR_of C s.ws s.out s.comp) (gR_of C.A X) p h e1 g1) cT_66 dT_clamp_2 rfl lT_requireNode (Nat.le_of_ble_eq_true rfl) (Nat.le_of_ble_eq_true rfl) (Nat.le_of_ble_eq_true rfl) (Nat.le_of_ble_eq_true rfl) (by first | exact e1 | exact g1 | assumption) rfl ⟨(Nat.le_of_ble_eq_true rfl), (Nat.le_of_ble_eq_true rfl)⟩ (fun g_2 => (by rw [eo]; exact cPost.same k rfl rfl)) (fun g_2 => ?_)
    exact absurd (btB_iff.mpr (show btw p 0 (nI s.n - 1) by rw [← hX]; exact g_2)) hi_i
