/-! TensorForge: arena, result, about, peak -/
theorem idxK {i : Int32} {n : Nat} (hn : n < 2 ^ 31) (h0 : 0 ≤ i) (h : i < nI n) : ∃ j : Nat, j < n ∧ i = nI j := by
  rcases pk_ix i hn with h1 | h1 | h1
  · exact absurd h1 (Int32.not_lt.mpr h0)
  · exact absurd h (Int32.not_lt.mpr h1)
  · exact h1
theorem c_T_arena (C : cT) (s : aS) (i : Int32) (h : rk_H) (k : cOK h C s) : rk_Con mT_arena (7, 94, 1, 6) [.ref C.a, .int i] h (cPost h C s.n (opArena s i) (exL [x_NS])) := by
  have e1 := k.1.1
  have e2 := k.1.2.1.1.1
  have e3 := k.2.1.1
  obtain ⟨⟨r1, r2, r3⟩, -⟩ := k.2.1.2
  refine rk_Con.of [some (.ref C.a), some (.int i)] rfl (Nat.le_of_ble_eq_true rfl) (by decide +kernel) ?_
  by_cases hg : 0 ≤ i ∧ i < nI s.arN
  · obtain ⟨j, hj, rfl⟩ := idxK (by omega) hg.1 hg.2
    refine rk_iload_n dT_arena_0 rfl ?_
    refine rk_if_lt 19 dT_arena_1 (by decide) (fun q_1 => ?_) (fun q_1 => ?_)
    · exact absurd q_1 (Int32.not_lt.mpr hg.1)
    · refine rk_iload_n dT_arena_4 rfl ?_
      refine rk_aload_n dT_arena_5 rfl ?_
      refine rk_getf fT_19 dT_arena_6 (by first | exact e1 | exact e2 | exact e3 | assumption) rfl ?_
      refine rk_getf fT_178 dT_arena_9 (by first | exact e1 | exact e2 | exact e3 | assumption) rfl ?_
      rw [r1]
      refine rk_icmp_ge 19 dT_arena_12 (by decide) (fun q_12 => ?_) (fun q_12 => ?_)
      · exact absurd hg.2 (Int32.not_lt.mpr q_12)
      · refine rk_iconst (v := 1) dT_arena_15 (by decide) ?_
        refine rk_goto 20 dT_arena_16 (by decide) ?_
        refine rk_csI (c_T_requirePresent _ h) cT_181 dT_arena_20 rfl lT_requirePresent (Nat.le_of_ble_eq_true rfl) (Nat.le_of_ble_eq_true rfl) (Nat.le_of_ble_eq_true rfl) (Nat.le_of_ble_eq_true rfl) rfl ⟨(Nat.le_of_ble_eq_true rfl), (Nat.le_of_ble_eq_true rfl)⟩ (fun g_20 => absurd (by decide) g_20) (fun g_20 => ?_)
        refine rk_aload_n dT_arena_23 rfl ?_
        refine rk_getf fT_19 dT_arena_24 (by first | exact e1 | exact e2 | exact e3 | assumption) rfl ?_
        refine rk_getf fT_184 dT_arena_27 (by first | exact e1 | exact e2 | exact e3 | assumption) rfl ?_
        refine rk_iload_n dT_arena_30 rfl ?_
        refine rk_iald dT_arena_31 (by first | exact e1 | exact e2 | exact e3 | assumption) (vp_in_nI (show j < 1792 by omega) (by omega)) ?_
        rw [nI_clamp (show j < 2 ^ 31 by omega), r3 j hj]
        exact rk_iret rfl dT_arena_32 ⟨(Nat.le_of_ble_eq_true rfl), (Nat.le_of_ble_eq_true rfl)⟩ (by unfold opArena; rw [if_pos (by rw [decide_eq_true hg.1, decide_eq_true hg.2]; rfl), tN_I (show j < 2 ^ 31 by omega)]; exact cPost.same k rfl rfl)
  · have eo : opArena s i = (1, none, s) := by
      unfold opArena
      rw [if_neg (fun z => by rw [Bool.and_eq_true, decide_eq_true_eq, decide_eq_true_eq] at z; exact hg z)]
    refine rk_iload_n dT_arena_0 rfl ?_
    refine rk_if_lt 19 dT_arena_1 (by decide) (fun q_1 => ?_) (fun q_1 => ?_)
    · refine rk_iconst (v := 0) dT_arena_19 (by decide) ?_
      refine rk_csI (c_T_requirePresent _ h) cT_181 dT_arena_20 rfl lT_requirePresent (Nat.le_of_ble_eq_true rfl) (Nat.le_of_ble_eq_true rfl) (Nat.le_of_ble_eq_true rfl) (Nat.le_of_ble_eq_true rfl) rfl ⟨(Nat.le_of_ble_eq_true rfl), (Nat.le_of_ble_eq_true rfl)⟩ (fun g_20 => (by rw [eo]; exact cPost.same k rfl rfl)) (fun g_20 => ?_)
      exact absurd rfl g_20
    · refine rk_iload_n dT_arena_4 rfl ?_
      refine rk_aload_n dT_arena_5 rfl ?_
      refine rk_getf fT_19 dT_arena_6 (by first | exact e1 | exact e2 | exact e3 | assumption) rfl ?_
      refine rk_getf fT_178 dT_arena_9 (by first | exact e1 | exact e2 | exact e3 | assumption) rfl ?_
      rw [r1]
      refine rk_icmp_ge 19 dT_arena_12 (by decide) (fun q_12 => ?_) (fun q_12 => ?_)
      · refine rk_iconst (v := 0) dT_arena_19 (by decide) ?_
        refine rk_csI (c_T_requirePresent _ h) cT_181 dT_arena_20 rfl lT_requirePresent (Nat.le_of_ble_eq_true rfl) (Nat.le_of_ble_eq_true rfl) (Nat.le_of_ble_eq_true rfl) (Nat.le_of_ble_eq_true rfl) rfl ⟨(Nat.le_of_ble_eq_true rfl), (Nat.le_of_ble_eq_true rfl)⟩ (fun g_20 => (by rw [eo]; exact cPost.same k rfl rfl)) (fun g_20 => ?_)
        exact absurd rfl g_20
      · exact absurd ⟨Int32.not_lt.mp q_1, Int32.not_le.mp q_12⟩ hg
theorem c_T_result (C : cT) (s : aS) (i : Int32) (h : rk_H) (k : cOK h C s) : rk_Con mT_result (7, 94, 1, 6) [.ref C.a, .int i] h (cPost h C s.n (opResult s i) (exL [x_NS])) := by
  have e1 := k.1.1
  have e2 := k.1.2.1.1.1
  have e3 := k.2.1.1
  obtain ⟨-, ⟨r1, r2, r2'⟩, rp, r3, r4, r5⟩ := k.2.1.2
  refine rk_Con.of [some (.ref C.a), some (.int i)] rfl (Nat.le_of_ble_eq_true rfl) (by decide +kernel) ?_
  by_cases hg : 0 ≤ i ∧ i < nI s.shN
  · obtain ⟨j, hj, rfl⟩ := idxK (by omega) hg.1 hg.2
    refine rk_iload_n dT_result_0 rfl ?_
    refine rk_if_lt 19 dT_result_1 (by decide) (fun q_1 => ?_) (fun q_1 => ?_)
    · exact absurd q_1 (Int32.not_lt.mpr hg.1)
    · refine rk_iload_n dT_result_4 rfl ?_
      refine rk_aload_n dT_result_5 rfl ?_
      refine rk_getf fT_19 dT_result_6 (by first | exact e1 | exact e2 | exact e3 | assumption) rfl ?_
      refine rk_getf fT_186 dT_result_9 (by first | exact e1 | exact e2 | exact e3 | assumption) rfl ?_
      rw [r1]
      refine rk_icmp_ge 19 dT_result_12 (by decide) (fun q_12 => ?_) (fun q_12 => ?_)
      · exact absurd hg.2 (Int32.not_lt.mpr q_12)
      · refine rk_iconst (v := 1) dT_result_15 (by decide) ?_
        refine rk_goto 20 dT_result_16 (by decide) ?_
        refine rk_csI (c_T_requirePresent _ h) cT_181 dT_result_20 rfl lT_requirePresent (Nat.le_of_ble_eq_true rfl) (Nat.le_of_ble_eq_true rfl) (Nat.le_of_ble_eq_true rfl) (Nat.le_of_ble_eq_true rfl) rfl ⟨(Nat.le_of_ble_eq_true rfl), (Nat.le_of_ble_eq_true rfl)⟩ (fun g_20 => absurd (by decide) g_20) (fun g_20 => ?_)
        refine rk_aload_n dT_result_23 rfl ?_
        refine rk_getf fT_19 dT_result_24 (by first | exact e1 | exact e2 | exact e3 | assumption) rfl ?_
        refine rk_getf fT_184 dT_result_27 (by first | exact e1 | exact e2 | exact e3 | assumption) rfl ?_
        refine rk_aload_n dT_result_30 rfl ?_
        refine rk_getf fT_19 dT_result_31 (by first | exact e1 | exact e2 | exact e3 | assumption) rfl ?_
        refine rk_getf fT_189 dT_result_34 (by first | exact e1 | exact e2 | exact e3 | assumption) rfl ?_
        refine rk_iload_n dT_result_37 rfl ?_
        refine rk_iadd dT_result_38 ?_
        rw [r3, nI_add]
        refine rk_iald dT_result_39 (by first | exact e1 | exact e2 | exact e3 | assumption) (vp_in_nI (show rp + j < 1792 by omega) (by omega)) ?_
        rw [nI_clamp (show rp + j < 2 ^ 31 by omega), r5 j hj]
        refine rk_i2d dT_result_40 ?_
        refine rk_aload_n dT_result_41 rfl ?_
        refine rk_getf fT_19 dT_result_42 (by first | exact e1 | exact e2 | exact e3 | assumption) rfl ?_
        refine rk_getf fT_192 dT_result_45 (by first | exact e1 | exact e2 | exact e3 | assumption) rfl ?_
        rw [r2]
        refine rk_dmul dT_result_48 (fp_res _ r2') ?_
        exact rk_dret rfl dT_result_49 ⟨(Nat.le_of_ble_eq_true rfl), (Nat.le_of_ble_eq_true rfl)⟩ (by unfold opResult; rw [if_pos (by rw [decide_eq_true hg.1, decide_eq_true hg.2]; rfl), tN_I (show j < 2 ^ 31 by omega)]; exact cPost.same k rfl rfl)
  · have eo : opResult s i = (1, none, s) := by
      unfold opResult
      rw [if_neg (fun z => by rw [Bool.and_eq_true, decide_eq_true_eq, decide_eq_true_eq] at z; exact hg z)]
    refine rk_iload_n dT_result_0 rfl ?_
    refine rk_if_lt 19 dT_result_1 (by decide) (fun q_1 => ?_) (fun q_1 => ?_)
    · refine rk_iconst (v := 0) dT_result_19 (by decide) ?_
      refine rk_csI (c_T_requirePresent _ h) cT_181 dT_result_20 rfl lT_requirePresent (Nat.le_of_ble_eq_true rfl) (Nat.le_of_ble_eq_true rfl) (Nat.le_of_ble_eq_true rfl) (Nat.le_of_ble_eq_true rfl) rfl ⟨(Nat.le_of_ble_eq_true rfl), (Nat.le_of_ble_eq_true rfl)⟩ (fun g_20 => (by rw [eo]; exact cPost.same k rfl rfl)) (fun g_20 => ?_)
      exact absurd rfl g_20
    · refine rk_iload_n dT_result_4 rfl ?_
      refine rk_aload_n dT_result_5 rfl ?_
      refine rk_getf fT_19 dT_result_6 (by first | exact e1 | exact e2 | exact e3 | assumption) rfl ?_
      refine rk_getf fT_186 dT_result_9 (by first | exact e1 | exact e2 | exact e3 | assumption) rfl ?_
      rw [r1]
      refine rk_icmp_ge 19 dT_result_12 (by decide) (fun q_12 => ?_) (fun q_12 => ?_)
      · refine rk_iconst (v := 0) dT_result_19 (by decide) ?_
        refine rk_csI (c_T_requirePresent _ h) cT_181 dT_result_20 rfl lT_requirePresent (Nat.le_of_ble_eq_true rfl) (Nat.le_of_ble_eq_true rfl) (Nat.le_of_ble_eq_true rfl) (Nat.le_of_ble_eq_true rfl) rfl ⟨(Nat.le_of_ble_eq_true rfl), (Nat.le_of_ble_eq_true rfl)⟩ (fun g_20 => (by rw [eo]; exact cPost.same k rfl rfl)) (fun g_20 => ?_)
        exact absurd rfl g_20
      · exact absurd ⟨Int32.not_lt.mp q_1, Int32.not_le.mp q_12⟩ hg
theorem c_T_peak (C : cT) (s : aS) (h : rk_H) (k : cOK h C s) : rk_Con mT_peak (7, 94, 1, 6) [.ref C.a] h (cPost h C s.n (opPeak s) (exL [x_IS])) := by
  have e1 := k.1.1
  refine rk_Con.of [some (.ref C.a)] rfl (Nat.le_of_ble_eq_true rfl) (by decide +kernel) ?_
  by_cases hc : s.comp = true
  · obtain ⟨o, X, ho, hg, hp⟩ := k.2.2.2 hc
    have e4 := hg.1
    refine rk_aload_n dT_peak_0 rfl ?_
    refine rk_cvI (c_T_requireCompiled C.a (tR_of C s.ws s.out s.comp) h e1) cT_163 dT_peak_1 rfl lT_requireCompiled (Nat.le_of_ble_eq_true rfl) (Nat.le_of_ble_eq_true rfl) (Nat.le_of_ble_eq_true rfl) (Nat.le_of_ble_eq_true rfl) (by first | exact e1 | exact e4 | assumption) rfl ⟨(Nat.le_of_ble_eq_true rfl), (Nat.le_of_ble_eq_true rfl)⟩ (fun g_1 => absurd (show ¬ b2i s.comp = 0 by rw [hc]; decide) g_1) (fun g_1 => ?_)
    refine rk_aload_n dT_peak_4 rfl ?_
    refine rk_getf fT_12 dT_peak_5 (by first | exact e1 | exact e4 | assumption) rfl ?_
    refine rk_getf fT_166 dT_peak_8 (by first | exact e1 | exact e4 | assumption) rfl ?_
    exact rk_iret rfl dT_peak_11 ⟨(Nat.le_of_ble_eq_true rfl), (Nat.le_of_ble_eq_true rfl)⟩ (by unfold opPeak; rw [ho]; dsimp only; rw [if_pos hc, hp.2.2.2.2]; exact cPost.same k rfl rfl)
  · have hcf : s.comp = false := by cases hz : s.comp with | true => exact absurd hz hc | false => rfl
    have eo : opPeak s = (1, none, s) := by
      unfold opPeak
      cases s.out with
      | none => rfl
      | some o => dsimp only; rw [if_neg hc]
    refine rk_aload_n dT_peak_0 rfl ?_
    refine rk_cvI (c_T_requireCompiled C.a (tR_of C s.ws s.out s.comp) h e1) cT_163 dT_peak_1 rfl lT_requireCompiled (Nat.le_of_ble_eq_true rfl) (Nat.le_of_ble_eq_true rfl) (Nat.le_of_ble_eq_true rfl) (Nat.le_of_ble_eq_true rfl) (by first | exact e1 | assumption) rfl ⟨(Nat.le_of_ble_eq_true rfl), (Nat.le_of_ble_eq_true rfl)⟩ (fun g_1 => (by rw [eo]; exact cPost.same k rfl rfl)) (fun g_1 => ?_)
    exact absurd (show b2i s.comp = 0 by rw [hcf]; rfl) g_1
theorem c_T_aboutMade (a : Nat) (x : aN) (fe : Nat) (ra ro : UInt64) (w : Int32) (h : rk_H) (ha : h a = some (oB 2 (nL x fe ra ro))) (h0 : 0 ≤ w) (h4 : w < 4) : rk_Con mT_aboutMade (0, 0, 0, 0) [.ref a, .int w] h (rk_Rv (.int (abMade x w)) h) := by
  refine rk_Con.of [some (.ref a), some (.int w)] rfl (Nat.le_of_ble_eq_true rfl) (by decide +kernel) ?_
  obtain ⟨j, hj, rfl⟩ := idxK (n := 4) (by omega) h0 h4
  have hc : j = 0 ∨ j = 1 ∨ j = 2 ∨ j = 3 := by omega
  rcases hc with rfl | rfl | rfl | rfl
  · refine rk_iload_n dT_aboutMade_0 rfl ?_
    refine rk_tableOut 43 dT_aboutMade_1 (Or.inl (by decide)) (by decide) ?_
    refine rk_aload_n dT_aboutMade_43 rfl ?_
    refine rk_getf fT_157 dT_aboutMade_44 (by first | exact ha | assumption) rfl ?_
    exact rk_iret rfl dT_aboutMade_47 ⟨(Nat.le_of_ble_eq_true rfl), (Nat.le_of_ble_eq_true rfl)⟩ (⟨rfl, rfl⟩)
  · refine rk_iload_n dT_aboutMade_0 rfl ?_
    refine rk_tableIn (off := 27) 28 dT_aboutMade_1 (by decide) (by decide) (by decide) (by decide) ?_
    refine rk_aload_n dT_aboutMade_28 rfl ?_
    refine rk_getf fT_101 dT_aboutMade_29 (by first | exact ha | assumption) rfl ?_
    exact rk_iret rfl dT_aboutMade_32 ⟨(Nat.le_of_ble_eq_true rfl), (Nat.le_of_ble_eq_true rfl)⟩ (⟨rfl, rfl⟩)
  · refine rk_iload_n dT_aboutMade_0 rfl ?_
    refine rk_tableIn (off := 32) 33 dT_aboutMade_1 (by decide) (by decide) (by decide) (by decide) ?_
    refine rk_aload_n dT_aboutMade_33 rfl ?_
    refine rk_getf fT_108 dT_aboutMade_34 (by first | exact ha | assumption) rfl ?_
    exact rk_iret rfl dT_aboutMade_37 ⟨(Nat.le_of_ble_eq_true rfl), (Nat.le_of_ble_eq_true rfl)⟩ (⟨rfl, rfl⟩)
  · refine rk_iload_n dT_aboutMade_0 rfl ?_
    refine rk_tableIn (off := 37) 38 dT_aboutMade_1 (by decide) (by decide) (by decide) (by decide) ?_
    refine rk_aload_n dT_aboutMade_38 rfl ?_
    refine rk_getf fT_88 dT_aboutMade_39 (by first | exact ha | assumption) rfl ?_
    exact rk_iret rfl dT_aboutMade_42 ⟨(Nat.le_of_ble_eq_true rfl), (Nat.le_of_ble_eq_true rfl)⟩ (⟨rfl, rfl⟩)
theorem c_T_aboutPlanned (C : cT) (s : aS) (i : Nat) (w : Int32) (h : rk_H) (k : cOK h C s) (ok : aOK s) (hi : i < s.n) (h4 : ¬ w < 4) (h7 : w ≤ 7) : rk_Con mT_aboutPlanned (7, 94, 2, 12) [.ref C.a, .int (nI i), .int w] h (cPost h C s.n (abOut s i w) (exL [x_IA, x_IS, x_NS])) := by
  have e1 := k.1.1
  have hn := ok.1.1
  refine rk_Con.of [some (.ref C.a), some (.int (nI i)), some (.int w), none] rfl (Nat.le_of_ble_eq_true rfl) (by decide +kernel) ?_
  by_cases hc : s.comp = true
  · obtain ⟨o, X, ho, hg, hp⟩ := k.2.2.2 hc
    rw [show abOut s i w = abPlan s o i w by unfold abOut; rw [ho]; dsimp only; rw [if_pos hc]]
    have hSl := stS_le ok.1.2.1.inn
    have hsi := hSl i hi
    have hsn : stS s.N i < 14 := by omega
    have e4 := hg.1
    have e5 := hg.2.1
    have e6 := hg.2.2.1
    have e7 := hg.2.2.2.1
    have e8 := hg.2.2.2.2.1
    have v1 := hp.1.2.1 i hi
    have v2 := hp.1.2.2 (stS s.N i) (by omega)
    have hR2 := nI2 (v := 2) (pR_le s.N s.n o (stS s.N i)) (by omega)
    have hon := ok.2.1 o ho
    obtain ⟨hK, hpk⟩ := pl_rnK ok.1.2.1 hn hon
    have v3 : pR s.N s.n o (stS s.N i) = 2 → X.sp (stS s.N i) = nI (pT s.N s.n o (stS s.N i)) := hp.2.1 (stS s.N i) (by omega)
    have v4 : pR s.N s.n o (stS s.N i) = 2 → X.pl (stS s.N i) = nI (plN (pP s.N s.n o).1 (stS s.N i)) := by
      intro h2
      obtain ⟨⟨t, ht, -⟩, -⟩ := hK (stS s.N i) (by omega) h2
      rw [hp.2.2.1 (stS s.N i) (by omega)]
      unfold plN
      rw [ht]
      rfl
    unfold abPlan
    by_cases hr2 : pR s.N s.n o (stS s.N i) = 2
    · refine rk_aload_n dT_aboutPlanned_0 rfl ?_
      refine rk_cvI (c_T_requireCompiled C.a (tR_of C s.ws s.out s.comp) h e1) cT_163 dT_aboutPlanned_1 rfl lT_requireCompiled (Nat.le_of_ble_eq_true rfl) (Nat.le_of_ble_eq_true rfl) (Nat.le_of_ble_eq_true rfl) (Nat.le_of_ble_eq_true rfl) (by first | exact e1 | exact e4 | exact e5 | exact e6 | exact e7 | exact e8 | assumption) rfl ⟨(Nat.le_of_ble_eq_true rfl), (Nat.le_of_ble_eq_true rfl)⟩ (fun g_1 => absurd (show ¬ b2i s.comp = 0 by rw [hc]; decide) g_1) (fun g_1 => ?_)
      refine rk_aload_n dT_aboutPlanned_4 rfl ?_
      refine rk_getf fT_12 dT_aboutPlanned_5 (by first | exact e1 | exact e4 | exact e5 | exact e6 | exact e7 | exact e8 | assumption) rfl ?_
      refine rk_getf fT_202 dT_aboutPlanned_8 (by first | exact e1 | exact e4 | exact e5 | exact e6 | exact e7 | exact e8 | assumption) rfl ?_
      refine rk_iload_n dT_aboutPlanned_11 rfl ?_
      refine rk_iald dT_aboutPlanned_12 (by first | exact e1 | exact e4 | exact e5 | exact e6 | exact e7 | exact e8 | assumption) (vp_in_nI (show i < 14 by omega) (by omega)) ?_
      rw [nI_clamp (show i < 2 ^ 31 by omega), v1]
      refine rk_istore_n dT_aboutPlanned_13 (Nat.le_of_ble_eq_true rfl) ?_
      refine rk_iload_n dT_aboutPlanned_14 rfl ?_
      refine rk_iconst (v := 4) dT_aboutPlanned_15 (by decide) ?_
      refine rk_icmp_ne 21 dT_aboutPlanned_16 (by decide) (fun q_16 => ?_) (fun q_16 => ?_)
      · refine rk_iload_n dT_aboutPlanned_21 rfl ?_
        refine rk_iconst (v := 5) dT_aboutPlanned_22 (by decide) ?_
        refine rk_icmp_ne 36 dT_aboutPlanned_23 (by decide) (fun q_23 => ?_) (fun q_23 => ?_)
        · refine rk_aload_n dT_aboutPlanned_36 rfl ?_
          refine rk_getf fT_12 dT_aboutPlanned_37 (by first | exact e1 | exact e4 | exact e5 | exact e6 | exact e7 | exact e8 | assumption) rfl ?_
          refine rk_getf fT_205 dT_aboutPlanned_40 (by first | exact e1 | exact e4 | exact e5 | exact e6 | exact e7 | exact e8 | assumption) rfl ?_
          refine rk_iload_n dT_aboutPlanned_43 rfl ?_
          refine rk_iald dT_aboutPlanned_44 (by first | exact e1 | exact e4 | exact e5 | exact e6 | exact e7 | exact e8 | assumption) (vp_in_nI hsn (by omega)) ?_
          rw [nI_clamp (show stS s.N i < 2 ^ 31 by omega), v2]
          refine rk_iconst (v := 2) dT_aboutPlanned_45 (by decide) ?_
          refine rk_icmp_ne 53 dT_aboutPlanned_46 (by decide) (fun q_46 => ?_) (fun q_46 => ?_)
          · exact absurd (hR2.mpr hr2) q_46
          · refine rk_iconst (v := 1) dT_aboutPlanned_49 (by decide) ?_
            refine rk_goto 54 dT_aboutPlanned_50 (by decide) ?_
            refine rk_csI (c_T_requirePresent _ h) cT_181 dT_aboutPlanned_54 rfl lT_requirePresent (Nat.le_of_ble_eq_true rfl) (Nat.le_of_ble_eq_true rfl) (Nat.le_of_ble_eq_true rfl) (Nat.le_of_ble_eq_true rfl) rfl ⟨(Nat.le_of_ble_eq_true rfl), (Nat.le_of_ble_eq_true rfl)⟩ (fun g_54 => absurd (by decide) g_54) (fun g_54 => ?_)
            refine rk_iload_n dT_aboutPlanned_57 rfl ?_
            refine rk_bipush (v := 6) dT_aboutPlanned_58 (by decide) ?_
            refine rk_icmp_ne 75 dT_aboutPlanned_60 (by decide) (fun q_60 => ?_) (fun q_60 => ?_)
            · refine rk_aload_n dT_aboutPlanned_75 rfl ?_
              refine rk_getf fT_12 dT_aboutPlanned_76 (by first | exact e1 | exact e4 | exact e5 | exact e6 | exact e7 | exact e8 | assumption) rfl ?_
              refine rk_getf fT_211 dT_aboutPlanned_79 (by first | exact e1 | exact e4 | exact e5 | exact e6 | exact e7 | exact e8 | assumption) rfl ?_
              refine rk_iload_n dT_aboutPlanned_82 rfl ?_
              refine rk_iald dT_aboutPlanned_83 (by first | exact e1 | exact e4 | exact e5 | exact e6 | exact e7 | exact e8 | assumption) (vp_in_nI hsn (by omega)) ?_
              first
                | rw [nI_clamp (show stS s.N i < 2 ^ 31 by omega), v4 hr2]
                | skip
              exact rk_iret rfl dT_aboutPlanned_84 ⟨(Nat.le_of_ble_eq_true rfl), (Nat.le_of_ble_eq_true rfl)⟩ (by rw [if_neg q_16, if_neg q_23, if_pos hr2]; first | (rw [if_neg q_60]; exact cPost.same k rfl rfl) | (rw [if_pos q_60]; exact cPost.same k rfl rfl))
            · refine rk_aload_n dT_aboutPlanned_63 rfl ?_
              refine rk_getf fT_12 dT_aboutPlanned_64 (by first | exact e1 | exact e4 | exact e5 | exact e6 | exact e7 | exact e8 | assumption) rfl ?_
              refine rk_getf fT_208 dT_aboutPlanned_67 (by first | exact e1 | exact e4 | exact e5 | exact e6 | exact e7 | exact e8 | assumption) rfl ?_
              refine rk_iload_n dT_aboutPlanned_70 rfl ?_
              refine rk_iald dT_aboutPlanned_71 (by first | exact e1 | exact e4 | exact e5 | exact e6 | exact e7 | exact e8 | assumption) (vp_in_nI hsn (by omega)) ?_
              rw [nI_clamp (show stS s.N i < 2 ^ 31 by omega), v3 hr2]
              refine rk_goto 84 dT_aboutPlanned_72 (by decide) ?_
              first
                | rw [nI_clamp (show stS s.N i < 2 ^ 31 by omega), v4 hr2]
                | skip
              exact rk_iret rfl dT_aboutPlanned_84 ⟨(Nat.le_of_ble_eq_true rfl), (Nat.le_of_ble_eq_true rfl)⟩ (by rw [if_neg q_16, if_neg q_23, if_pos hr2]; first | (rw [if_neg q_60]; exact cPost.same k rfl rfl) | (rw [if_pos q_60]; exact cPost.same k rfl rfl))
        · refine rk_aload_n dT_aboutPlanned_26 rfl ?_
          refine rk_getf fT_12 dT_aboutPlanned_27 (by first | exact e1 | exact e4 | exact e5 | exact e6 | exact e7 | exact e8 | assumption) rfl ?_
          refine rk_getf fT_205 dT_aboutPlanned_30 (by first | exact e1 | exact e4 | exact e5 | exact e6 | exact e7 | exact e8 | assumption) rfl ?_
          refine rk_iload_n dT_aboutPlanned_33 rfl ?_
          refine rk_iald dT_aboutPlanned_34 (by first | exact e1 | exact e4 | exact e5 | exact e6 | exact e7 | exact e8 | assumption) (vp_in_nI hsn (by omega)) ?_
          rw [nI_clamp (show stS s.N i < 2 ^ 31 by omega), v2]
          exact rk_iret rfl dT_aboutPlanned_35 ⟨(Nat.le_of_ble_eq_true rfl), (Nat.le_of_ble_eq_true rfl)⟩ (by rw [if_neg q_16, if_pos q_23]; exact cPost.same k rfl rfl)
      · refine rk_iload_n dT_aboutPlanned_19 rfl ?_
        exact rk_iret rfl dT_aboutPlanned_20 ⟨(Nat.le_of_ble_eq_true rfl), (Nat.le_of_ble_eq_true rfl)⟩ (by rw [if_pos q_16]; exact cPost.same k rfl rfl)
    · refine rk_aload_n dT_aboutPlanned_0 rfl ?_
      refine rk_cvI (c_T_requireCompiled C.a (tR_of C s.ws s.out s.comp) h e1) cT_163 dT_aboutPlanned_1 rfl lT_requireCompiled (Nat.le_of_ble_eq_true rfl) (Nat.le_of_ble_eq_true rfl) (Nat.le_of_ble_eq_true rfl) (Nat.le_of_ble_eq_true rfl) (by first | exact e1 | exact e4 | exact e5 | exact e6 | exact e7 | exact e8 | assumption) rfl ⟨(Nat.le_of_ble_eq_true rfl), (Nat.le_of_ble_eq_true rfl)⟩ (fun g_1 => absurd (show ¬ b2i s.comp = 0 by rw [hc]; decide) g_1) (fun g_1 => ?_)
      refine rk_aload_n dT_aboutPlanned_4 rfl ?_
      refine rk_getf fT_12 dT_aboutPlanned_5 (by first | exact e1 | exact e4 | exact e5 | exact e6 | exact e7 | exact e8 | assumption) rfl ?_
      refine rk_getf fT_202 dT_aboutPlanned_8 (by first | exact e1 | exact e4 | exact e5 | exact e6 | exact e7 | exact e8 | assumption) rfl ?_
      refine rk_iload_n dT_aboutPlanned_11 rfl ?_
      refine rk_iald dT_aboutPlanned_12 (by first | exact e1 | exact e4 | exact e5 | exact e6 | exact e7 | exact e8 | assumption) (vp_in_nI (show i < 14 by omega) (by omega)) ?_
      rw [nI_clamp (show i < 2 ^ 31 by omega), v1]
      refine rk_istore_n dT_aboutPlanned_13 (Nat.le_of_ble_eq_true rfl) ?_
      refine rk_iload_n dT_aboutPlanned_14 rfl ?_
      refine rk_iconst (v := 4) dT_aboutPlanned_15 (by decide) ?_
      refine rk_icmp_ne 21 dT_aboutPlanned_16 (by decide) (fun q_16 => ?_) (fun q_16 => ?_)
      · refine rk_iload_n dT_aboutPlanned_21 rfl ?_
        refine rk_iconst (v := 5) dT_aboutPlanned_22 (by decide) ?_
        refine rk_icmp_ne 36 dT_aboutPlanned_23 (by decide) (fun q_23 => ?_) (fun q_23 => ?_)
        · refine rk_aload_n dT_aboutPlanned_36 rfl ?_
          refine rk_getf fT_12 dT_aboutPlanned_37 (by first | exact e1 | exact e4 | exact e5 | exact e6 | exact e7 | exact e8 | assumption) rfl ?_
          refine rk_getf fT_205 dT_aboutPlanned_40 (by first | exact e1 | exact e4 | exact e5 | exact e6 | exact e7 | exact e8 | assumption) rfl ?_
          refine rk_iload_n dT_aboutPlanned_43 rfl ?_
          refine rk_iald dT_aboutPlanned_44 (by first | exact e1 | exact e4 | exact e5 | exact e6 | exact e7 | exact e8 | assumption) (vp_in_nI hsn (by omega)) ?_
          rw [nI_clamp (show stS s.N i < 2 ^ 31 by omega), v2]
          refine rk_iconst (v := 2) dT_aboutPlanned_45 (by decide) ?_
          refine rk_icmp_ne 53 dT_aboutPlanned_46 (by decide) (fun q_46 => ?_) (fun q_46 => ?_)
          · refine rk_iconst (v := 0) dT_aboutPlanned_53 (by decide) ?_
            refine rk_csI (c_T_requirePresent _ h) cT_181 dT_aboutPlanned_54 rfl lT_requirePresent (Nat.le_of_ble_eq_true rfl) (Nat.le_of_ble_eq_true rfl) (Nat.le_of_ble_eq_true rfl) (Nat.le_of_ble_eq_true rfl) rfl ⟨(Nat.le_of_ble_eq_true rfl), (Nat.le_of_ble_eq_true rfl)⟩ (fun g_54 => (by rw [if_neg q_16, if_neg q_23, if_neg hr2]; exact cPost.same k rfl rfl)) (fun g_54 => ?_)
            exact absurd rfl g_54
          · exact absurd (hR2.mp q_46) hr2
        · refine rk_aload_n dT_aboutPlanned_26 rfl ?_
          refine rk_getf fT_12 dT_aboutPlanned_27 (by first | exact e1 | exact e4 | exact e5 | exact e6 | exact e7 | exact e8 | assumption) rfl ?_
          refine rk_getf fT_205 dT_aboutPlanned_30 (by first | exact e1 | exact e4 | exact e5 | exact e6 | exact e7 | exact e8 | assumption) rfl ?_
          refine rk_iload_n dT_aboutPlanned_33 rfl ?_
          refine rk_iald dT_aboutPlanned_34 (by first | exact e1 | exact e4 | exact e5 | exact e6 | exact e7 | exact e8 | assumption) (vp_in_nI hsn (by omega)) ?_
          rw [nI_clamp (show stS s.N i < 2 ^ 31 by omega), v2]
          exact rk_iret rfl dT_aboutPlanned_35 ⟨(Nat.le_of_ble_eq_true rfl), (Nat.le_of_ble_eq_true rfl)⟩ (by rw [if_neg q_16, if_pos q_23]; exact cPost.same k rfl rfl)
      · refine rk_iload_n dT_aboutPlanned_19 rfl ?_
        exact rk_iret rfl dT_aboutPlanned_20 ⟨(Nat.le_of_ble_eq_true rfl), (Nat.le_of_ble_eq_true rfl)⟩ (by rw [if_pos q_16]; exact cPost.same k rfl rfl)
  · have hcf : s.comp = false := by cases hz : s.comp with | true => exact absurd hz hc | false => rfl
    rw [show abOut s i w = (2, none, s) by unfold abOut; cases s.out with | none => rfl | some o => exact if_neg hc]
    refine rk_aload_n dT_aboutPlanned_0 rfl ?_
    refine rk_cvI (c_T_requireCompiled C.a (tR_of C s.ws s.out s.comp) h e1) cT_163 dT_aboutPlanned_1 rfl lT_requireCompiled (Nat.le_of_ble_eq_true rfl) (Nat.le_of_ble_eq_true rfl) (Nat.le_of_ble_eq_true rfl) (Nat.le_of_ble_eq_true rfl) (by first | exact e1 | assumption) rfl ⟨(Nat.le_of_ble_eq_true rfl), (Nat.le_of_ble_eq_true rfl)⟩ (fun g_1 => cPost.same k rfl rfl) (fun g_1 => ?_)
    exact absurd (show b2i s.comp = 0 by rw [hcf]; rfl) g_1
theorem c_T_about (C : cT) (s : aS) (x w : Int32) (h : rk_H) (k : cOK h C s) (ok : aOK s) : rk_Con mT_about (9, 121, 4, 24) [.ref C.a, .int x, .int w] h (cPost h C s.n (opAbout s x w) (exL [x_IA, x_IS, x_NS])) := by
  have e1 := k.1.1
  obtain ⟨X, hX, g1, -⟩ := k.1.2.2.1.1.1
  refine rk_Con.of [some (.ref C.a), some (.int x), some (.int w)] rfl (Nat.le_of_ble_eq_true rfl) (by decide +kernel) ?_
  by_cases hg : ndB s x = true
  · obtain ⟨j, hj, rfl⟩ := ndB_of ok.1.1 hg
    obtain ⟨hq, hnd⟩ := k.1.2.2.1.2.1.2 j hj
    have hna := k.1.2.2.1.2.1.1
    have hjn : j < 14 := by have := ok.1.1; omega
    have etn : tN (nI j) = j := tN_I (by omega)
    by_cases hw : btw w 0 7
    · have eo : opAbout s (nI j) w = (if w < 4 then (0, some (.int (abMade (s.N j) w)), s) else abOut s j w) := by
        unfold opAbout
        rw [etn, if_pos (by rw [hg, btB_iff.mpr hw]; rfl)]
      rw [eo]
      by_cases h4 : w < 4
      · rw [if_pos h4]
        refine rk_aload_n dT_about_0 rfl ?_
        refine rk_iload_n dT_about_1 rfl ?_
        refine rk_cvI (c_T_requireNode C.a C.gb (tR_of C s.ws s.out s.comp) (gR_of C.A X) (nI j) h e1 g1) cT_66 dT_about_2 rfl lT_requireNode (Nat.le_of_ble_eq_true rfl) (Nat.le_of_ble_eq_true rfl) (Nat.le_of_ble_eq_true rfl) (Nat.le_of_ble_eq_true rfl) (by first | exact e1 | exact g1 | exact hna | exact hnd | assumption) rfl ⟨(Nat.le_of_ble_eq_true rfl), (Nat.le_of_ble_eq_true rfl)⟩ (fun g_2 => absurd (show btw (nI j) 0 (nI X.n - 1) by rw [hX]; exact btB_iff.mp hg) g_2) (fun g_2 => ?_)
        refine rk_iload_n dT_about_5 rfl ?_
        refine rk_iconst (v := 0) dT_about_6 (by decide) ?_
        refine rk_bipush (v := 7) dT_about_7 (by decide) ?_
        refine rk_csI (c_T_requireBetween _ _ _ h) cT_35 dT_about_9 rfl lT_requireBetween (Nat.le_of_ble_eq_true rfl) (Nat.le_of_ble_eq_true rfl) (Nat.le_of_ble_eq_true rfl) (Nat.le_of_ble_eq_true rfl) rfl ⟨(Nat.le_of_ble_eq_true rfl), (Nat.le_of_ble_eq_true rfl)⟩ (fun g_9 => absurd hw g_9) (fun g_9 => ?_)
        refine rk_iload_n dT_about_12 rfl ?_
        refine rk_iconst (v := 4) dT_about_13 (by decide) ?_
        refine rk_icmp_ge 33 dT_about_14 (by decide) (fun q_14 => ?_) (fun q_14 => ?_)
        · exact absurd h4 (Int32.not_lt.mpr q_14)
        · refine rk_aload_n dT_about_17 rfl ?_
          refine rk_getf fT_12 dT_about_18 (by first | exact e1 | exact g1 | exact hna | exact hnd | assumption) rfl ?_
          refine rk_getf fT_74 dT_about_21 (by first | exact e1 | exact g1 | exact hna | exact hnd | assumption) rfl ?_
          refine rk_iload_n dT_about_24 rfl ?_
          refine rk_aald rfl dT_about_25 (by first | exact e1 | exact g1 | exact hna | exact hnd | assumption) (vp_in_nI hjn (by omega)) (v_nd (by omega) hq) ?_
          refine rk_iload_n dT_about_26 rfl ?_
          refine rk_csV (c_T_aboutMade (C.ad j) (s.N j) _ _ _ w h hnd hw.1 h4) cT_195 dT_about_27 rfl lT_aboutMade (Nat.le_of_ble_eq_true rfl) (Nat.le_of_ble_eq_true rfl) (Nat.le_of_ble_eq_true rfl) (Nat.le_of_ble_eq_true rfl) ?_
          refine rk_goto 39 dT_about_30 (by decide) ?_
          exact rk_iret rfl dT_about_39 ⟨(Nat.le_of_ble_eq_true rfl), (Nat.le_of_ble_eq_true rfl)⟩ (cPost.same k rfl rfl)
      · rw [if_neg h4]
        have ca := c_T_aboutPlanned C s j w h k ok hj h4 hw.2
        refine rk_aload_n dT_about_0 rfl ?_
        refine rk_iload_n dT_about_1 rfl ?_
        refine rk_cvI (c_T_requireNode C.a C.gb (tR_of C s.ws s.out s.comp) (gR_of C.A X) (nI j) h e1 g1) cT_66 dT_about_2 rfl lT_requireNode (Nat.le_of_ble_eq_true rfl) (Nat.le_of_ble_eq_true rfl) (Nat.le_of_ble_eq_true rfl) (Nat.le_of_ble_eq_true rfl) (by first | exact e1 | exact g1 | assumption) rfl ⟨(Nat.le_of_ble_eq_true rfl), (Nat.le_of_ble_eq_true rfl)⟩ (fun g_2 => absurd (show btw (nI j) 0 (nI X.n - 1) by rw [hX]; exact btB_iff.mp hg) g_2) (fun g_2 => ?_)
        refine rk_iload_n dT_about_5 rfl ?_
        refine rk_iconst (v := 0) dT_about_6 (by decide) ?_
        refine rk_bipush (v := 7) dT_about_7 (by decide) ?_
        refine rk_csI (c_T_requireBetween _ _ _ h) cT_35 dT_about_9 rfl lT_requireBetween (Nat.le_of_ble_eq_true rfl) (Nat.le_of_ble_eq_true rfl) (Nat.le_of_ble_eq_true rfl) (Nat.le_of_ble_eq_true rfl) rfl ⟨(Nat.le_of_ble_eq_true rfl), (Nat.le_of_ble_eq_true rfl)⟩ (fun g_9 => absurd hw g_9) (fun g_9 => ?_)
        refine rk_iload_n dT_about_12 rfl ?_
        refine rk_iconst (v := 4) dT_about_13 (by decide) ?_
        refine rk_icmp_ge 33 dT_about_14 (by decide) (fun q_14 => ?_) (fun q_14 => ?_)
        · refine rk_aload_n dT_about_33 rfl ?_
          refine rk_iload_n dT_about_34 rfl ?_
          refine rk_iload_n dT_about_35 rfl ?_
          refine rk_cvG ca cT_199 dT_about_36 rfl lT_aboutPlanned (Nat.le_of_ble_eq_true rfl) (Nat.le_of_ble_eq_true rfl) (Nat.le_of_ble_eq_true rfl) (Nat.le_of_ble_eq_true rfl) e1 ?_
          rintro r h' hp
          by_cases h0 : (abOut s j w).1 = 0
          · obtain ⟨v, hv⟩ := abOut_int h0
            have hr := hp.2
            rw [if_pos h0, hv] at hr
            subst hr
            exact rk_nxv (rk_iret rfl dT_about_39 ⟨(Nat.le_of_ble_eq_true rfl), (Nat.le_of_ble_eq_true rfl)⟩ hp)
          · have hr := hp.2
            rw [if_neg h0] at hr
            subst hr
            exact rk_nxT rfl hp ⟨(Nat.le_of_ble_eq_true rfl), (Nat.le_of_ble_eq_true rfl)⟩
        · exact absurd (Int32.not_le.mp q_14) h4
    · have eo : opAbout s (nI j) w = (1, none, s) := by
        unfold opAbout
        rw [if_neg (fun z => by rw [Bool.and_eq_true] at z; exact hw (btB_iff.mp z.2))]
      refine rk_aload_n dT_about_0 rfl ?_
      refine rk_iload_n dT_about_1 rfl ?_
      refine rk_cvI (c_T_requireNode C.a C.gb (tR_of C s.ws s.out s.comp) (gR_of C.A X) (nI j) h e1 g1) cT_66 dT_about_2 rfl lT_requireNode (Nat.le_of_ble_eq_true rfl) (Nat.le_of_ble_eq_true rfl) (Nat.le_of_ble_eq_true rfl) (Nat.le_of_ble_eq_true rfl) (by first | exact e1 | exact g1 | assumption) rfl ⟨(Nat.le_of_ble_eq_true rfl), (Nat.le_of_ble_eq_true rfl)⟩ (fun g_2 => absurd (show btw (nI j) 0 (nI X.n - 1) by rw [hX]; exact btB_iff.mp hg) g_2) (fun g_2 => ?_)
      refine rk_iload_n dT_about_5 rfl ?_
      refine rk_iconst (v := 0) dT_about_6 (by decide) ?_
      refine rk_bipush (v := 7) dT_about_7 (by decide) ?_
      refine rk_csI (c_T_requireBetween _ _ _ h) cT_35 dT_about_9 rfl lT_requireBetween (Nat.le_of_ble_eq_true rfl) (Nat.le_of_ble_eq_true rfl) (Nat.le_of_ble_eq_true rfl) (Nat.le_of_ble_eq_true rfl) rfl ⟨(Nat.le_of_ble_eq_true rfl), (Nat.le_of_ble_eq_true rfl)⟩ (fun g_9 => (by rw [eo]; exact cPost.same k rfl rfl)) (fun g_9 => ?_)
      exact absurd g_9 hw
  · have eo : opAbout s x w = (1, none, s) := by
      unfold opAbout
      rw [if_neg (fun z => by rw [Bool.and_eq_true] at z; exact hg z.1)]
    refine rk_aload_n dT_about_0 rfl ?_
    refine rk_iload_n dT_about_1 rfl ?_
    refine rk_cvI (c_T_requireNode C.a C.gb (tR_of C s.ws s.out s.comp) (gR_of C.A X) x h e1 g1) cT_66 dT_about_2 rfl lT_requireNode (Nat.le_of_ble_eq_true rfl) (Nat.le_of_ble_eq_true rfl) (Nat.le_of_ble_eq_true rfl) (Nat.le_of_ble_eq_true rfl) (by first | exact e1 | exact g1 | assumption) rfl ⟨(Nat.le_of_ble_eq_true rfl), (Nat.le_of_ble_eq_true rfl)⟩ (fun g_2 => (by rw [eo]; exact cPost.same k rfl rfl)) (fun g_2 => ?_)
    exact absurd (btB_iff.mpr (show btw x 0 (nI s.n - 1) by rw [← hX]; exact g_2)) hg
