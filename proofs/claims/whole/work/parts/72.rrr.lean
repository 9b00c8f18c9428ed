/-! the reference: run, whole -/
theorem rOK.run {Y : rX} {s : aS} {f g u : Nat → Int32} {an sz : Int32} {ss : UInt64} {p c : Nat} {G sh : Nat → Int32} (k : rOK Y s) (h1 : an = nI p) (h2 : p ≤ 1792) (h3 : ∀ j, j < p → g j = G j) (h4 : sz = nI c) (h5 : c ≤ 128) (h6 : ss.toNat ≤ dTop) (h7 : ∀ j, j < c → u j = sh j) : rOK (Y.rf f g an sz ss u) (s.wrun p G c sh ss) := by
  obtain ⟨k1, k2, c1, d1, -, -⟩ := k
  exact ⟨k1, k2, c1, d1, ⟨h1, h2, h3⟩, h4, h5, rfl, h6, h7⟩
theorem c_R_run (b : rk_H) (A : Nat → Nat) (X : rX) (s : aS) (k : rA A) (kX : rOK X s) (ok : aOK s) (a : Int32) : rk_Con mR_run (5, 94, 0, 0) [.ref (A 0), .int a] (rv b A X) (rPo b A (some (.int 0)) (opRun s a)) := by
  have hn := ok.1.1
  have hwf := ok.1.2.1
  refine rk_Con.of [some (.ref (A 0)), some (.int a), none, none, none] rfl (Nat.le_of_ble_eq_true rfl) (by decide +kernel) ?_
  refine rk_aload_n dR_run_0 rfl ?_
  refine rk_iconst (v := 0) dR_run_1 (by decide) ?_
  refine rk_putf pR_85 dR_run_2 k.m (Nat.le_of_ble_eq_true rfl) rfl rfl ?_
  rw [k.ufa]
  skip
  have kY : rOK (X.wfa 0) s := kX
  have hfa : (X.wfa 0).fa = 0 := rfl
  generalize X.wfa 0 = Y at kY hfa ⊢
  obtain ⟨⟨a1, a2, a3, a4⟩, ⟨b1, b2⟩, c1, d1, -, -⟩ := id kY
  by_cases ha : a < 0
  · have e : opRun s a = (1, none, s) := by unfold opRun; cases s.out with | none => exact if_pos ha | some o => exact if_pos ha
    refine rk_iload_n dR_run_5 rfl ?_
    refine rk_if_ge 15 dR_run_6 (by decide) (fun q_6 => ?_) (fun q_6 => ?_)
    · exact absurd ha (Int32.not_lt.mpr q_6)
    · refine rk_aload_n dR_run_9 rfl ?_
      refine rk_iconst (v := 1) dR_run_10 (by decide) ?_
      refine rk_cvV (c_R_fail b A Y k 1) cR_98 dR_run_11 rfl lR_fail (Nat.le_of_ble_eq_true rfl) (Nat.le_of_ble_eq_true rfl) (Nat.le_of_ble_eq_true rfl) (Nat.le_of_ble_eq_true rfl) k.m ?_
      exact rk_iret rfl dR_run_14 ⟨(Nat.le_of_ble_eq_true rfl), (Nat.le_of_ble_eq_true rfl)⟩ (rPo.fl (c := 1) kY e (by decide))
  · by_cases hc : s.comp = true
    · obtain ⟨o, ho, ⟨p1, p2⟩, p3, p4, p5, p6⟩ := d1 hc
      have hol := ok.2.1 o ho
      have hrn := pl_rnK hwf hn hol
      have e3 : a < nI (pP s.N s.n o).2 → opRun s a = (3, none, s) := fun h => by unfold opRun; rw [ho]; exact (if_neg ha).trans ((if_neg (by rw [hc]; decide)).trans (if_pos h))
      by_cases hp : a < nI (pP s.N s.n o).2
      · refine rk_iload_n dR_run_5 rfl ?_
        refine rk_if_ge 15 dR_run_6 (by decide) (fun q_6 => ?_) (fun q_6 => ?_)
        · refine rk_aload_n dR_run_15 rfl ?_
          refine rk_getf fR_109 dR_run_16 k.m rfl ?_
          rw [b2, hc]
          refine rk_if_ne 28 dR_run_19 (by decide) (fun q_19 => ?_) (fun q_19 => ?_)
          · refine rk_iload_n dR_run_28 rfl ?_
            refine rk_aload_n dR_run_29 rfl ?_
            refine rk_getf fR_158 dR_run_30 k.m rfl ?_
            rw [p6]
            refine rk_icmp_ge 42 dR_run_33 (by decide) (fun q_33 => ?_) (fun q_33 => ?_)
            · exact absurd hp (Int32.not_lt.mpr q_33)
            · refine rk_aload_n dR_run_36 rfl ?_
              refine rk_iconst (v := 3) dR_run_37 (by decide) ?_
              refine rk_cvV (c_R_fail b A Y k 3) cR_98 dR_run_38 rfl lR_fail (Nat.le_of_ble_eq_true rfl) (Nat.le_of_ble_eq_true rfl) (Nat.le_of_ble_eq_true rfl) (Nat.le_of_ble_eq_true rfl) k.m ?_
              exact rk_iret rfl dR_run_41 ⟨(Nat.le_of_ble_eq_true rfl), (Nat.le_of_ble_eq_true rfl)⟩ (rPo.fl (c := 3) kY (e3 hp) (by decide))
          · exact absurd q_19 (by decide)
        · exact absurd (Int32.not_lt.mp ha) q_6
      · have hno : Y.no ≤ 14 := by rw [a2]; exact hn
        have hSo : stS s.N o ≤ o := stS_le (wfN.inn hwf) o hol
        have hbo := wfN.bd hwf o hol
        have hbs := wfN.bd hwf (stS s.N o) (by omega)
        have hces := stS_ce hwf hol
        have hsh := stS_sh hwf o hol
        have hgo : rk_Run mR_run (5, 94, 0, 0) (rPo b A (some (.int 0)) (opRun s a)) 44 [some (.ref (A 0)), some (.int a), some (.int (nI 0)), none, none] [] (rv b A (Y.rn Y.ce Y.ar)) (0, 0) := by
          refine c_R_zeros b A Y k _ a (pP s.N s.n o).2 hrn.2 p6 (fun g0 hg0 => ?_)
          refine c_R_nodes b A Y k _ a o g0 hno (by rw [a2]; exact hol) (by rw [a1, a2]; exact hwf) (by rw [a1, a2]; exact p1) (by rw [a1, a2]; exact p2) (by rw [a3]; exact ok.2.2.2.1) (fun m z hm => ?_) (by rw [a1, a2]; exact p4) ?_
          · have h1 := c1 (m + z / 128) (z % 128) (Nat.mod_lt _ (by decide))
            rw [show 128 * (m + z / 128) + z % 128 = 128 * m + z by omega] at h1
            rw [h1]
            exact ok.2.2.2.2 _ _
          · rw [a1, a2, a3]
            obtain ⟨m1, m2⟩ := run_out (wt := s.wt) (fd := fdY Y) (fd' := s.fd) hwf hn hol (fun m z _ hz => c1 m z hz) Y.ce g0 hg0
            refine c_R_show b A Y k _ a o (stS s.N o) _ _ (by omega) (by omega) (b1.trans ho) (p1 o hol) (by rw [a1]; exact hces) (by rw [a1]; exact hbs.ce) (fun u hu => ?_)
            rw [a1] at hu ⊢
            have er : opRun s a = (0, some (.int (itr (fun i q => q + arF s o (plN (pP s.N s.n o).1 (pO s.N o) + i)) (s.N (pO s.N o)).ce 0 0)), s.wrun (pP s.N s.n o).2 (arF s o) (s.N (pO s.N o)).ce (fun j => arF s o (plN (pP s.N s.n o).1 (pO s.N o) + j)) (s.N (pO s.N o)).sc) := by unfold opRun; rw [ho]; exact (if_neg ha).trans ((if_neg (by rw [hc]; decide)).trans (if_neg hp))
            have es : itr (fun i q => q + (itr (rnR s.N s.wt (fdY Y) (pR s.N s.n o) (pP s.N s.n o).1) s.n 0 (Y.ce, g0)).1 (128 * stS s.N o + i)) (s.N (stS s.N o)).ce 0 0 = itr (fun i q => q + arF s o (plN (pP s.N s.n o).1 (pO s.N o) + i)) (s.N (pO s.N o)).ce 0 0 := itr_congr (fun i _ hi q => congrArg (fun v => q + v) (m2 i (by have h9 : i < 0 + (s.N (pO s.N o)).ce := hi; omega)))
            rw [es]
            have esc : (s.N (pO s.N o)).sc = (s.N o).sc := hsh.2.symm
            rw [esc] at er
            exact rPo.go er (rf_fa.trans hfa) (kY.run p6 hrn.2 (fun j hj => m1 j hj) (by rw [← hces]; rfl) hbs.ce hbo.2.1 (fun j hj => (hu j hj).trans (m2 j hj)))
        rw [rn_self] at hgo
        refine rk_iload_n dR_run_5 rfl ?_
        refine rk_if_ge 15 dR_run_6 (by decide) (fun q_6 => ?_) (fun q_6 => ?_)
        · refine rk_aload_n dR_run_15 rfl ?_
          refine rk_getf fR_109 dR_run_16 k.m rfl ?_
          rw [b2, hc]
          refine rk_if_ne 28 dR_run_19 (by decide) (fun q_19 => ?_) (fun q_19 => ?_)
          · refine rk_iload_n dR_run_28 rfl ?_
            refine rk_aload_n dR_run_29 rfl ?_
            refine rk_getf fR_158 dR_run_30 k.m rfl ?_
            rw [p6]
            refine rk_icmp_ge 42 dR_run_33 (by decide) (fun q_33 => ?_) (fun q_33 => ?_)
            · refine rk_iconst (v := 0) dR_run_42 (by decide) ?_
              refine rk_istore_n dR_run_43 (Nat.le_of_ble_eq_true rfl) ?_
              exact hgo
            · exact absurd (Int32.not_lt.mp hp) q_33
          · exact absurd q_19 (by decide)
        · exact absurd (Int32.not_lt.mp ha) q_6
    · have hc : s.comp = false := Bool.eq_false_iff.mpr hc
      have e : opRun s a = (2, none, s) := by unfold opRun; cases s.out with | none => exact if_neg ha | some o => exact (if_neg ha).trans (if_pos hc)
      refine rk_iload_n dR_run_5 rfl ?_
      refine rk_if_ge 15 dR_run_6 (by decide) (fun q_6 => ?_) (fun q_6 => ?_)
      · refine rk_aload_n dR_run_15 rfl ?_
        refine rk_getf fR_109 dR_run_16 k.m rfl ?_
        rw [b2, hc]
        refine rk_if_ne 28 dR_run_19 (by decide) (fun q_19 => ?_) (fun q_19 => ?_)
        · exact absurd rfl q_19
        · refine rk_aload_n dR_run_22 rfl ?_
          refine rk_iconst (v := 2) dR_run_23 (by decide) ?_
          refine rk_cvV (c_R_fail b A Y k 2) cR_98 dR_run_24 rfl lR_fail (Nat.le_of_ble_eq_true rfl) (Nat.le_of_ble_eq_true rfl) (Nat.le_of_ble_eq_true rfl) (Nat.le_of_ble_eq_true rfl) k.m ?_
          exact rk_iret rfl dR_run_27 ⟨(Nat.le_of_ble_eq_true rfl), (Nat.le_of_ble_eq_true rfl)⟩ (rPo.fl (c := 2) kY e (by decide))
      · exact absurd (Int32.not_lt.mp ha) q_6
