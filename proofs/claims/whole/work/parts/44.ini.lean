/-! constructors -/
theorem c_W_init (b : Nat) (h : rk_H) : rk_Con mW_init (1, 18, 0, 0) [.ref b] h (rk_R0 h) := by
  refine rk_Con.of [some (.ref b)] rfl (Nat.le_of_ble_eq_true rfl) (by decide +kernel) ?_
  refine rk_aload_n dW_init_0 rfl ?_
  refine rk_objI jW_1 w_obj.1 w_obj.2 dW_init_1 (Nat.le_of_ble_eq_true rfl) (Nat.le_of_ble_eq_true rfl) ?_
  exact rk_ret rfl dW_init_4 ⟨(Nat.le_of_ble_eq_true rfl), (Nat.le_of_ble_eq_true rfl)⟩ (⟨rfl, rfl⟩)
theorem c_S_init (b : Nat) (h : rk_H) : rk_Con mS_init (1, 18, 0, 0) [.ref b] h (rk_R0 h) := by
  refine rk_Con.of [some (.ref b)] rfl (Nat.le_of_ble_eq_true rfl) (by decide +kernel) ?_
  refine rk_aload_n dS_init_0 rfl ?_
  refine rk_objI jS_1 w_obj.1 w_obj.2 dS_init_1 (Nat.le_of_ble_eq_true rfl) (Nat.le_of_ble_eq_true rfl) ?_
  exact rk_ret rfl dS_init_4 ⟨(Nat.le_of_ble_eq_true rfl), (Nat.le_of_ble_eq_true rfl)⟩ (⟨rfl, rfl⟩)
def gX0 : gX := ((0, 0, 0), ((fun _ => 0), (fun _ => 0), (fun _ => 0), (fun _ => 0), (fun _ => 0)))
def gN (h : rk_H) (b : Nat) : rk_P := fun r h' => r = .inl none ∧ ∃ A : gA,
  ((A.sf ≠ A.st ∧ A.sf ≠ A.sp ∧ A.sf ≠ A.pl ∧ A.sf ≠ A.la) ∧ (A.st ≠ A.sp ∧ A.st ≠ A.pl ∧ A.st ≠ A.la) ∧ (A.sp ≠ A.pl ∧ A.sp ≠ A.la) ∧ A.pl ≠ A.la) ∧
  (h A.na = none ∧ h A.sf = none ∧ h A.st = none ∧ h A.sp = none ∧ h A.pl = none ∧ h A.la = none) ∧
  (h' A.na = some (qA 14 (fun _ => none)) ∧ gIs h' b A gX0) ∧ ∀ (z : Nat) (e : rk_E), h z = some e → z ≠ b → h' z = some e
theorem c_G_init (b : Nat) (h : rk_H) (l : List Value) (hb : h b = some (oB 0 [.null, .null, .null, .null, .null, .int 0, .int 0, .int 0, .null])) : rk_Con mG_init (1, 18, 6, 84) [.ref b] h (gN h b) := by
  refine rk_Con.of [some (.ref b)] rfl (Nat.le_of_ble_eq_true rfl) (by decide +kernel) ?_
  refine rk_aload_n dG_init_0 rfl ?_
  refine rk_objI jG_3 w_obj.1 w_obj.2 dG_init_1 (Nat.le_of_ble_eq_true rfl) (Nat.le_of_ble_eq_true rfl) ?_
  refine rk_aload_n dG_init_4 rfl ?_
  refine rk_bipush (v := 14) dG_init_5 (by decide) ?_
  refine rk_newq (N := 14) nG_9a (by decide) (by decide) dG_init_7 (Nat.le_of_ble_eq_true rfl) (Nat.le_of_ble_eq_true rfl) (fun na nan => ?_)
  refine rk_putF pG_11 rfl dG_init_10 (by first | exact hb | exact rk_up_k (rk_ne hb nan) hb | exact rk_up_k (rk_ne rk_up_s sfn) rk_up_s | exact rk_up_k (rk_ne rk_up_s stn) rk_up_s | exact rk_up_k (rk_ne rk_up_s spn) rk_up_s | exact rk_up_k (rk_ne rk_up_s pln) rk_up_s | exact rk_up_k (rk_ne rk_up_s lan) rk_up_s | assumption) (Nat.le_of_ble_eq_true rfl) rfl rfl ?_
  refine rk_aload_n dG_init_13 rfl ?_
  refine rk_bipush (v := 14) dG_init_14 (by decide) ?_
  refine rk_newi (N := 14) rfl w_arr_int (by decide) (by decide) dG_init_16 (Nat.le_of_ble_eq_true rfl) (Nat.le_of_ble_eq_true rfl) (fun sf sfn => ?_)
  refine rk_putF pG_17 rfl dG_init_18 (by first | exact hb | exact rk_up_k (rk_ne hb nan) hb | exact rk_up_k (rk_ne rk_up_s sfn) rk_up_s | exact rk_up_k (rk_ne rk_up_s stn) rk_up_s | exact rk_up_k (rk_ne rk_up_s spn) rk_up_s | exact rk_up_k (rk_ne rk_up_s pln) rk_up_s | exact rk_up_k (rk_ne rk_up_s lan) rk_up_s | assumption) (Nat.le_of_ble_eq_true rfl) rfl rfl ?_
  refine rk_aload_n dG_init_21 rfl ?_
  refine rk_bipush (v := 14) dG_init_22 (by decide) ?_
  refine rk_newi (N := 14) rfl w_arr_int (by decide) (by decide) dG_init_24 (Nat.le_of_ble_eq_true rfl) (Nat.le_of_ble_eq_true rfl) (fun st stn => ?_)
  refine rk_putF pG_21 rfl dG_init_26 (by first | exact hb | exact rk_up_k (rk_ne hb nan) hb | exact rk_up_k (rk_ne rk_up_s sfn) rk_up_s | exact rk_up_k (rk_ne rk_up_s stn) rk_up_s | exact rk_up_k (rk_ne rk_up_s spn) rk_up_s | exact rk_up_k (rk_ne rk_up_s pln) rk_up_s | exact rk_up_k (rk_ne rk_up_s lan) rk_up_s | assumption) (Nat.le_of_ble_eq_true rfl) rfl rfl ?_
  refine rk_aload_n dG_init_29 rfl ?_
  refine rk_bipush (v := 14) dG_init_30 (by decide) ?_
  refine rk_newi (N := 14) rfl w_arr_int (by decide) (by decide) dG_init_32 (Nat.le_of_ble_eq_true rfl) (Nat.le_of_ble_eq_true rfl) (fun sp spn => ?_)
  refine rk_putF pG_24 rfl dG_init_34 (by first | exact hb | exact rk_up_k (rk_ne hb nan) hb | exact rk_up_k (rk_ne rk_up_s sfn) rk_up_s | exact rk_up_k (rk_ne rk_up_s stn) rk_up_s | exact rk_up_k (rk_ne rk_up_s spn) rk_up_s | exact rk_up_k (rk_ne rk_up_s pln) rk_up_s | exact rk_up_k (rk_ne rk_up_s lan) rk_up_s | assumption) (Nat.le_of_ble_eq_true rfl) rfl rfl ?_
  refine rk_aload_n dG_init_37 rfl ?_
  refine rk_bipush (v := 14) dG_init_38 (by decide) ?_
  refine rk_newi (N := 14) rfl w_arr_int (by decide) (by decide) dG_init_40 (Nat.le_of_ble_eq_true rfl) (Nat.le_of_ble_eq_true rfl) (fun pl pln => ?_)
  refine rk_putF pG_27 rfl dG_init_42 (by first | exact hb | exact rk_up_k (rk_ne hb nan) hb | exact rk_up_k (rk_ne rk_up_s sfn) rk_up_s | exact rk_up_k (rk_ne rk_up_s stn) rk_up_s | exact rk_up_k (rk_ne rk_up_s spn) rk_up_s | exact rk_up_k (rk_ne rk_up_s pln) rk_up_s | exact rk_up_k (rk_ne rk_up_s lan) rk_up_s | assumption) (Nat.le_of_ble_eq_true rfl) rfl rfl ?_
  refine rk_aload_n dG_init_45 rfl ?_
  refine rk_bipush (v := 14) dG_init_46 (by decide) ?_
  refine rk_newi (N := 14) rfl w_arr_int (by decide) (by decide) dG_init_48 (Nat.le_of_ble_eq_true rfl) (Nat.le_of_ble_eq_true rfl) (fun la lan => ?_)
  refine rk_putF pG_30 rfl dG_init_50 (by first | exact hb | exact rk_up_k (rk_ne hb nan) hb | exact rk_up_k (rk_ne rk_up_s sfn) rk_up_s | exact rk_up_k (rk_ne rk_up_s stn) rk_up_s | exact rk_up_k (rk_ne rk_up_s spn) rk_up_s | exact rk_up_k (rk_ne rk_up_s pln) rk_up_s | exact rk_up_k (rk_ne rk_up_s lan) rk_up_s | assumption) (Nat.le_of_ble_eq_true rfl) rfl rfl ?_
  have nb := rk_ne hb nan
  obtain ⟨sfb, t1⟩ := new_fr sfn
  obtain ⟨sfa, hsf⟩ := new_fr t1
  obtain ⟨stb, t1⟩ := new_fr stn
  obtain ⟨stsf, t1⟩ := new_fr t1
  obtain ⟨-, t1⟩ := new_fr t1
  obtain ⟨sta, hst⟩ := new_fr t1
  obtain ⟨spb, t1⟩ := new_fr spn
  obtain ⟨spst, t1⟩ := new_fr t1
  obtain ⟨-, t1⟩ := new_fr t1
  obtain ⟨spsf, t1⟩ := new_fr t1
  obtain ⟨-, t1⟩ := new_fr t1
  obtain ⟨spa, hsp⟩ := new_fr t1
  obtain ⟨plb, t1⟩ := new_fr pln
  obtain ⟨plsp, t1⟩ := new_fr t1
  obtain ⟨-, t1⟩ := new_fr t1
  obtain ⟨plst, t1⟩ := new_fr t1
  obtain ⟨-, t1⟩ := new_fr t1
  obtain ⟨plsf, t1⟩ := new_fr t1
  obtain ⟨-, t1⟩ := new_fr t1
  obtain ⟨pla, hpl⟩ := new_fr t1
  obtain ⟨lab, t1⟩ := new_fr lan
  obtain ⟨lapl, t1⟩ := new_fr t1
  obtain ⟨-, t1⟩ := new_fr t1
  obtain ⟨lasp, t1⟩ := new_fr t1
  obtain ⟨-, t1⟩ := new_fr t1
  obtain ⟨last, t1⟩ := new_fr t1
  obtain ⟨-, t1⟩ := new_fr t1
  obtain ⟨lasf, t1⟩ := new_fr t1
  obtain ⟨-, t1⟩ := new_fr t1
  obtain ⟨laa, hla⟩ := new_fr t1
  exact rk_ret rfl dG_init_53 ⟨(Nat.le_of_ble_eq_true rfl), (Nat.le_of_ble_eq_true rfl)⟩ ⟨rfl, (na, sf, st, sp, pl, la), ⟨⟨stsf, spsf, plsf, lasf⟩, ⟨spst, plst, last⟩, ⟨plsp, lasp⟩, lapl⟩, ⟨nan, hsf, hst, hsp, hpl, hla⟩, ⟨rk_up_k nb.symm (rk_up_k laa (rk_up_k nb.symm (rk_up_k pla (rk_up_k nb.symm (rk_up_k spa (rk_up_k nb.symm (rk_up_k sta (rk_up_k nb.symm (rk_up_k sfa (rk_up_k nb.symm rk_up_s)))))))))), rk_up_s, rk_up_k sfb.symm (rk_up_k lasf (rk_up_k sfb.symm (rk_up_k plsf (rk_up_k sfb.symm (rk_up_k spsf (rk_up_k sfb.symm (rk_up_k stsf (rk_up_k sfb.symm rk_up_s)))))))), rk_up_k stb.symm (rk_up_k last (rk_up_k stb.symm (rk_up_k plst (rk_up_k stb.symm (rk_up_k spst (rk_up_k stb.symm rk_up_s)))))), rk_up_k spb.symm (rk_up_k lasp (rk_up_k spb.symm (rk_up_k plsp (rk_up_k spb.symm rk_up_s)))), rk_up_k plb.symm (rk_up_k lapl (rk_up_k plb.symm rk_up_s)), rk_up_k lab.symm rk_up_s⟩, fun z e hz hzb => rk_up_k hzb (rk_up_k (rk_ne hz hla) (rk_up_k hzb (rk_up_k (rk_ne hz hpl) (rk_up_k hzb (rk_up_k (rk_ne hz hsp) (rk_up_k hzb (rk_up_k (rk_ne hz hst) (rk_up_k hzb (rk_up_k (rk_ne hz hsf) (rk_up_k hzb (rk_up_k (rk_ne hz nan) hz)))))))))))⟩
def wR0 : wR := ((0, 0, 0), (0, 0, 0, 0), (0, 0, 0, 0, 0))
def mN (h : rk_H) (b : Nat) : rk_P := fun r h' => r = .inl none ∧ ∃ M : mR, (M.2.1 = (0, 0, 0, 0) ∧ M.s1 ≠ M.s2) ∧ (h M.wc = none ∧ h M.ce = none ∧ h M.wi = none ∧ h M.s1 = none ∧ h M.s2 = none) ∧
  (h' b = some (oB 1 M.ls) ∧ h' M.wc = some (iA 512 (fun _ => 0)) ∧ h' M.ce = some (iA 1792 (fun _ => 0)) ∧ h' M.wi = some (oB 4 wR0.ls) ∧ h' M.s1 = some (oB 3 (sL 0 0)) ∧ h' M.s2 = some (oB 3 (sL 0 0))) ∧ ∀ (z : Nat) (e : rk_E), h z = some e → z ≠ b → h' z = some e
theorem c_M_init (b : Nat) (h : rk_H) (hb : h b = some (oB 1 [.null, .null, .int 0, .int 0, .int 0, .double 0, .null, .null, .null])) : rk_Con mM_init (2, 32, 5, 2320) [.ref b] h (mN h b) := by
  refine rk_Con.of [some (.ref b)] rfl (Nat.le_of_ble_eq_true rfl) (by decide +kernel) ?_
  refine rk_aload_n dM_init_0 rfl ?_
  refine rk_objI jM_3 w_obj.1 w_obj.2 dM_init_1 (Nat.le_of_ble_eq_true rfl) (Nat.le_of_ble_eq_true rfl) ?_
  refine rk_aload_n dM_init_4 rfl ?_
  refine rk_sipush (v := 512) dM_init_5 (by decide) ?_
  refine rk_newi (N := 512) rfl w_arr_int (by decide) (by decide) dM_init_8 (Nat.le_of_ble_eq_true rfl) (Nat.le_of_ble_eq_true rfl) (fun wc wcn => ?_)
  refine rk_putF pM_9 rfl dM_init_10 (by first | exact hb | exact rk_up_k (rk_ne hb wcn) hb | exact rk_up_k (rk_ne rk_up_s cen) rk_up_s | exact rk_up_k (rk_ne rk_up_s win) rk_up_s | exact rk_up_k (rk_ne rk_up_s s1n) rk_up_s | exact rk_up_k (rk_ne rk_up_s s2n) rk_up_s | assumption) (Nat.le_of_ble_eq_true rfl) rfl rfl ?_
  refine rk_aload_n dM_init_13 rfl ?_
  refine rk_sipush (v := 1792) dM_init_14 (by decide) ?_
  refine rk_newi (N := 1792) rfl w_arr_int (by decide) (by decide) dM_init_17 (Nat.le_of_ble_eq_true rfl) (Nat.le_of_ble_eq_true rfl) (fun ce cen => ?_)
  refine rk_putF pM_15 rfl dM_init_19 (by first | exact hb | exact rk_up_k (rk_ne hb wcn) hb | exact rk_up_k (rk_ne rk_up_s cen) rk_up_s | exact rk_up_k (rk_ne rk_up_s win) rk_up_s | exact rk_up_k (rk_ne rk_up_s s1n) rk_up_s | exact rk_up_k (rk_ne rk_up_s s2n) rk_up_s | assumption) (Nat.le_of_ble_eq_true rfl) rfl rfl ?_
  refine rk_aload_n dM_init_22 rfl ?_
  refine rk_new (fs := [.int 0, .int 0, .int 0, .int 0, .int 0, .int 0, .int 0, .int 0, .int 0, .int 0, .int 0, .int 0]) kW nM_18.1 nM_18.2.1 nM_18.2.2 (by intro j hj; rcases (show j = 0 ∨ j = 1 ∨ j = 2 ∨ j = 3 ∨ j = 4 ∨ j = 5 ∨ j = 6 ∨ j = 7 ∨ j = 8 ∨ j = 9 ∨ j = 10 ∨ j = 11 by omega) with rfl | rfl | rfl | rfl | rfl | rfl | rfl | rfl | rfl | rfl | rfl | rfl <;> rfl) dM_init_23 (Nat.le_of_ble_eq_true rfl) (Nat.le_of_ble_eq_true rfl) (fun wi win => ?_)
  refine rk_dup dM_init_26 rfl ?_
  refine rk_cn0 (c_W_init _ _) cM_20 dM_init_27 rfl lW_init (Nat.le_of_ble_eq_true rfl) (Nat.le_of_ble_eq_true rfl) (Nat.le_of_ble_eq_true rfl) (Nat.le_of_ble_eq_true rfl) ?_
  refine rk_putF pM_21 rfl dM_init_30 (by first | exact hb | exact rk_up_k (rk_ne hb wcn) hb | exact rk_up_k (rk_ne rk_up_s cen) rk_up_s | exact rk_up_k (rk_ne rk_up_s win) rk_up_s | exact rk_up_k (rk_ne rk_up_s s1n) rk_up_s | exact rk_up_k (rk_ne rk_up_s s2n) rk_up_s | assumption) (Nat.le_of_ble_eq_true rfl) rfl rfl ?_
  refine rk_aload_n dM_init_33 rfl ?_
  refine rk_new (fs := [.long 0, .int 0]) kS nM_25.1 nM_25.2.1 nM_25.2.2 (by intro j hj; rcases (show j = 0 ∨ j = 1 by omega) with rfl | rfl <;> rfl) dM_init_34 (Nat.le_of_ble_eq_true rfl) (Nat.le_of_ble_eq_true rfl) (fun s1 s1n => ?_)
  refine rk_dup dM_init_37 rfl ?_
  refine rk_cn0 (c_S_init _ _) cM_27 dM_init_38 rfl lS_init (Nat.le_of_ble_eq_true rfl) (Nat.le_of_ble_eq_true rfl) (Nat.le_of_ble_eq_true rfl) (Nat.le_of_ble_eq_true rfl) ?_
  refine rk_putF pM_28 rfl dM_init_41 (by first | exact hb | exact rk_up_k (rk_ne hb wcn) hb | exact rk_up_k (rk_ne rk_up_s cen) rk_up_s | exact rk_up_k (rk_ne rk_up_s win) rk_up_s | exact rk_up_k (rk_ne rk_up_s s1n) rk_up_s | exact rk_up_k (rk_ne rk_up_s s2n) rk_up_s | assumption) (Nat.le_of_ble_eq_true rfl) rfl rfl ?_
  refine rk_aload_n dM_init_44 rfl ?_
  refine rk_new (fs := [.long 0, .int 0]) kS nM_25.1 nM_25.2.1 nM_25.2.2 (by intro j hj; rcases (show j = 0 ∨ j = 1 by omega) with rfl | rfl <;> rfl) dM_init_45 (Nat.le_of_ble_eq_true rfl) (Nat.le_of_ble_eq_true rfl) (fun s2 s2n => ?_)
  refine rk_dup dM_init_48 rfl ?_
  refine rk_cn0 (c_S_init _ _) cM_27 dM_init_49 rfl lS_init (Nat.le_of_ble_eq_true rfl) (Nat.le_of_ble_eq_true rfl) (Nat.le_of_ble_eq_true rfl) (Nat.le_of_ble_eq_true rfl) ?_
  refine rk_putF pM_32 rfl dM_init_52 (by first | exact hb | exact rk_up_k (rk_ne hb wcn) hb | exact rk_up_k (rk_ne rk_up_s cen) rk_up_s | exact rk_up_k (rk_ne rk_up_s win) rk_up_s | exact rk_up_k (rk_ne rk_up_s s1n) rk_up_s | exact rk_up_k (rk_ne rk_up_s s2n) rk_up_s | assumption) (Nat.le_of_ble_eq_true rfl) rfl rfl ?_
  have nb := rk_ne hb wcn
  obtain ⟨ceb, t1⟩ := new_fr cen
  obtain ⟨cewc, hce⟩ := new_fr t1
  obtain ⟨wib, t1⟩ := new_fr win
  obtain ⟨wice, t1⟩ := new_fr t1
  obtain ⟨-, t1⟩ := new_fr t1
  obtain ⟨wiwc, hwi⟩ := new_fr t1
  obtain ⟨s1b, t1⟩ := new_fr s1n
  obtain ⟨s1wi, t1⟩ := new_fr t1
  obtain ⟨-, t1⟩ := new_fr t1
  obtain ⟨s1ce, t1⟩ := new_fr t1
  obtain ⟨-, t1⟩ := new_fr t1
  obtain ⟨s1wc, hs1⟩ := new_fr t1
  obtain ⟨s2b, t1⟩ := new_fr s2n
  obtain ⟨s2s1, t1⟩ := new_fr t1
  obtain ⟨-, t1⟩ := new_fr t1
  obtain ⟨s2wi, t1⟩ := new_fr t1
  obtain ⟨-, t1⟩ := new_fr t1
  obtain ⟨s2ce, t1⟩ := new_fr t1
  obtain ⟨-, t1⟩ := new_fr t1
  obtain ⟨s2wc, hs2⟩ := new_fr t1
  exact rk_ret rfl dM_init_55 ⟨(Nat.le_of_ble_eq_true rfl), (Nat.le_of_ble_eq_true rfl)⟩ ⟨rfl, ((wc, ce), (0, 0, 0, 0), (wi, s1, s2)), ⟨rfl, s2s1⟩, ⟨wcn, hce, hwi, hs1, hs2⟩, ⟨rk_up_s, rk_up_k nb.symm (rk_up_k s2wc (rk_up_k nb.symm (rk_up_k s1wc (rk_up_k nb.symm (rk_up_k wiwc (rk_up_k nb.symm (rk_up_k cewc (rk_up_k nb.symm rk_up_s)))))))), rk_up_k ceb.symm (rk_up_k s2ce (rk_up_k ceb.symm (rk_up_k s1ce (rk_up_k ceb.symm (rk_up_k wice (rk_up_k ceb.symm rk_up_s)))))), rk_up_k wib.symm (rk_up_k s2wi (rk_up_k wib.symm (rk_up_k s1wi (rk_up_k wib.symm rk_up_s)))), rk_up_k s1b.symm (rk_up_k s2s1 (rk_up_k s1b.symm rk_up_s)), rk_up_k s2b.symm rk_up_s⟩, fun z e hz hzb => rk_up_k hzb (rk_up_k (rk_ne hz hs2) (rk_up_k hzb (rk_up_k (rk_ne hz hs1) (rk_up_k hzb (rk_up_k (rk_ne hz hwi) (rk_up_k hzb (rk_up_k (rk_ne hz hce) (rk_up_k hzb (rk_up_k (rk_ne hz wcn) hz)))))))))⟩
def aN0 : aN := ((0, some 0, some 0), (0, 0, 0), (0, 0), (0, 0), (0, 0))
def s0 : aS := ((0, fun _ => aN0), ((fun _ => 0), FP.dconst1), (none, false), (fun _ _ => 0), ((0, fun _ => 0), (0, (fun _ => 0), 0)))
def cN (h : rk_H) (a : Nat) : rk_P := fun r h' => r = .inl none ∧ ∃ C : cT, C.a = a ∧ cOK h' C s0 ∧ (∀ (z : Nat) (e : rk_E), h z = some e → z ≠ a → h' z = some e) ∧ ∀ z : Nat, own C 0 z → z = a ∨ h z = none
theorem c_T_init (a : Nat) (h : rk_H) (ha : h a = some (oB 5 [.null, .null, .double 0, .int 0, .int 0])) : rk_Con mT_init (3, 46, 13, 2422) [.ref a] h (cN h a) := by
  refine rk_Con.of [some (.ref a)] rfl (Nat.le_of_ble_eq_true rfl) (by decide +kernel) ?_
  refine rk_aload_n dT_init_0 rfl ?_
  refine rk_objI jT_3 w_obj.1 w_obj.2 dT_init_1 (Nat.le_of_ble_eq_true rfl) (Nat.le_of_ble_eq_true rfl) ?_
  refine rk_aload_n dT_init_4 rfl ?_
  refine rk_new (fs := [.null, .null, .null, .null, .null, .int 0, .int 0, .int 0, .null]) kG nT_9.1 nT_9.2.1 nT_9.2.2 (by intro j hj; rcases (show j = 0 ∨ j = 1 ∨ j = 2 ∨ j = 3 ∨ j = 4 ∨ j = 5 ∨ j = 6 ∨ j = 7 ∨ j = 8 by omega) with rfl | rfl | rfl | rfl | rfl | rfl | rfl | rfl | rfl <;> rfl) dT_init_5 (Nat.le_of_ble_eq_true rfl) (Nat.le_of_ble_eq_true rfl) (fun gb gbn => ?_)
  refine rk_dup dT_init_8 rfl ?_
  refine rk_cnG (c_G_init gb _ [] rk_up_s) cT_11 dT_init_9 rfl lG_init (Nat.le_of_ble_eq_true rfl) (Nat.le_of_ble_eq_true rfl) (Nat.le_of_ble_eq_true rfl) (Nat.le_of_ble_eq_true rfl) ?_
  rintro r_9 h1 ⟨rfl, A, hA, fA, ⟨gA1, gA2⟩, pA⟩
  refine rk_nx0 ?_
  have hag : a ≠ gb := rk_ne ha gbn
  have a1 := pA a _ (rk_up_k hag ha) hag
  refine rk_putF pT_12 rfl dT_init_12 (by first | exact a1 | exact rk_up_k (rk_ne rk_up_s mbn) rk_up_s | assumption) (Nat.le_of_ble_eq_true rfl) rfl rfl ?_
  refine rk_aload_n dT_init_15 rfl ?_
  refine rk_new (fs := [.null, .null, .int 0, .int 0, .int 0, .double 0, .null, .null, .null]) kM nT_16.1 nT_16.2.1 nT_16.2.2 (by intro j hj; rcases (show j = 0 ∨ j = 1 ∨ j = 2 ∨ j = 3 ∨ j = 4 ∨ j = 5 ∨ j = 6 ∨ j = 7 ∨ j = 8 by omega) with rfl | rfl | rfl | rfl | rfl | rfl | rfl | rfl | rfl <;> rfl) dT_init_16 (Nat.le_of_ble_eq_true rfl) (Nat.le_of_ble_eq_true rfl) (fun mb mbn => ?_)
  refine rk_dup dT_init_19 rfl ?_
  refine rk_cnG (c_M_init mb _ rk_up_s) cT_18 dT_init_20 rfl lM_init (Nat.le_of_ble_eq_true rfl) (Nat.le_of_ble_eq_true rfl) (Nat.le_of_ble_eq_true rfl) (Nat.le_of_ble_eq_true rfl) ?_
  rintro r_20 h2 ⟨rfl, M, ⟨hM, hM12⟩, fM, gM, pM⟩
  refine rk_nx0 ?_
  obtain ⟨ham, mb1⟩ := new_fr mbn
  have a2 := pM a _ (rk_up_k ham rk_up_s) ham
  refine rk_putF pT_19 rfl dT_init_23 (by first | exact a2 | assumption | (simp only [rk_up_s]; first | exact a2 | rfl)) (Nat.le_of_ble_eq_true rfl) rfl rfl ?_
  refine rk_aload_n dT_init_26 rfl ?_
  refine rk_dconst1 dT_init_27 ?_
  refine rk_putf pT_23 dT_init_28 (by first | exact a2 | assumption | (simp only [rk_up_s]; first | exact a2 | rfl)) (Nat.le_of_ble_eq_true rfl) rfl rfl ?_
  refine rk_aload_n dT_init_31 rfl ?_
  refine rk_iconst (v := -1) dT_init_32 (by decide) ?_
  refine rk_putf pT_27 dT_init_33 (by first | exact a2 | assumption | (simp only [rk_up_s]; first | exact a2 | rfl)) (Nat.le_of_ble_eq_true rfl) rfl rfl ?_
  refine rk_aload_n dT_init_36 rfl ?_
  refine rk_iconst (v := 0) dT_init_37 (by decide) ?_
  refine rk_putf pT_31 dT_init_38 (by first | exact a2 | assumption | (simp only [rk_up_s]; first | exact a2 | rfl)) (Nat.le_of_ble_eq_true rfl) rfl rfl ?_
  skip
  simp only [rk_up_up]
  have back : ∀ z, h1 z = none → h z = none := by
    intro z hz
    cases hq : h z with
    | none => rfl
    | some e =>
      have hzg : z ≠ gb := rk_ne hq gbn
      have := pA z e (rk_up_k hzg hq) hzg
      rw [hz] at this
      cases this
  have fwd : ∀ z e, h1 z = some e → z ≠ a → ∀ l, rk_up h2 a l z = some e := by
    intro z e hz hza l
    have hzm : z ≠ mb := rk_ne hz mb1
    exact rk_up_k hza (pM z e (rk_up_k hzm (rk_up_k hza hz)) hzm)
  have fA' : h A.na = none ∧ h A.sf = none ∧ h A.st = none ∧ h A.sp = none ∧ h A.pl = none ∧ h A.la = none := ⟨(new_fr fA.1).2, (new_fr fA.2.1).2, (new_fr fA.2.2.1).2, (new_fr fA.2.2.2.1).2, (new_fr fA.2.2.2.2.1).2, (new_fr fA.2.2.2.2.2).2⟩
  have mm : ∀ z, rk_up (rk_up h1 a (oB 5 [.ref gb, .null, .double 0, .int 0, .int 0])) mb (oB 1 [.null, .null, .int 0, .int 0, .int 0, .double 0, .null, .null, .null]) z = none → z ≠ a ∧ h1 z = none := by
    intro z hz
    obtain ⟨-, hz⟩ := new_fr hz
    obtain ⟨h3, hz⟩ := new_fr hz
    exact ⟨h3.symm, hz⟩
  obtain ⟨wc1, wc2⟩ := mm _ fM.1
  obtain ⟨ce1, ce2⟩ := mm _ fM.2.1
  obtain ⟨wi1, wi2⟩ := mm _ fM.2.2.1
  obtain ⟨s11, s12⟩ := mm _ fM.2.2.2.1
  obtain ⟨s21, s22⟩ := mm _ fM.2.2.2.2
  have na1 : A.na ≠ a := Ne.symm (rk_ne ha fA'.1)
  have sf1 : A.sf ≠ a := Ne.symm (rk_ne ha fA'.2.1)
  have st1 : A.st ≠ a := Ne.symm (rk_ne ha fA'.2.2.1)
  have sp1 : A.sp ≠ a := Ne.symm (rk_ne ha fA'.2.2.2.1)
  have pl1 : A.pl ≠ a := Ne.symm (rk_ne ha fA'.2.2.2.2.1)
  have la1 : A.la ≠ a := Ne.symm (rk_ne ha fA'.2.2.2.2.2)
  refine rk_ret rfl dT_init_41 ⟨(Nat.le_of_ble_eq_true rfl), (Nat.le_of_ble_eq_true rfl)⟩ ⟨rfl, ((a, gb, mb), A, M, ((fun _ => none), (fun _ => 0), (fun _ => 0)), fun _ => 0), rfl, ⟨⟨rk_up_s, ⟨⟨rk_up_k ham.symm gM.1, rk_up_k wc1 gM.2.1⟩, ⟨⟨wR0, rk_up_k wi1 gM.2.2.2.1⟩, ⟨0, 0, rk_up_k s11 gM.2.2.2.2.1⟩, ⟨0, 0, rk_up_k s21 gM.2.2.2.2.2⟩, _, rk_up_k ce1 gM.2.2.1⟩, hM12⟩, ⟨⟨⟨gX0, rfl, fwd _ _ gA2.1 hag.symm _, fwd _ _ gA2.2.1 sf1 _, fwd _ _ gA2.2.2.1 st1 _, fwd _ _ gA2.2.2.2.1 sp1 _, fwd _ _ gA2.2.2.2.2.1 pl1 _, fwd _ _ gA2.2.2.2.2.2 la1 _⟩, Nat.zero_le _⟩, ⟨fwd _ _ gA1 na1 _, fun i hi => absurd hi (Nat.not_lt_zero _)⟩, hA⟩, fun i hi => absurd hi (Nat.not_lt_zero _)⟩, ⟨rk_up_k ce1 gM.2.2.1, ?_⟩, ⟨fun i j hi => absurd hi (Nat.not_lt_zero _), fun i hi => absurd hi (Nat.not_lt_zero _)⟩, fun hc => by cases hc⟩, ?_, ?_⟩
  · obtain ⟨⟨mw, mc⟩, mn, mi⟩ := M
    replace hM : mn = (0, 0, 0, 0) := hM
    subst hM
    exact ⟨⟨rfl, by show 0 ≤ 1792; omega, fun j hj => absurd hj (Nat.not_lt_zero _)⟩, ⟨rfl, rfl, by show (0 : UInt64).toNat ≤ dTop; decide⟩, 0, rfl, by show 0 + 0 ≤ 1792; omega, fun j hj => absurd hj (Nat.not_lt_zero _)⟩
  · intro z e hz hza
    have hzg : z ≠ gb := rk_ne hz gbn
    exact fwd z e (pA z e (rk_up_k hzg hz) hzg) hza _
  · intro z hz
    rcases hz with (hz | hz | hz) | (hz | hz | hz | hz | hz | hz) | (hz | hz | hz | hz | hz) | ⟨i, hi, -⟩
    · exact Or.inl hz
    · right; rw [hz]; exact gbn
    · right; rw [hz]; exact back _ mb1
    · right; rw [hz]; exact fA'.1
    · right; rw [hz]; exact fA'.2.1
    · right; rw [hz]; exact fA'.2.2.1
    · right; rw [hz]; exact fA'.2.2.2.1
    · right; rw [hz]; exact fA'.2.2.2.2.1
    · right; rw [hz]; exact fA'.2.2.2.2.2
    · right; rw [hz]; exact back _ wc2
    · right; rw [hz]; exact back _ ce2
    · right; rw [hz]; exact back _ wi2
    · right; rw [hz]; exact back _ s12
    · right; rw [hz]; exact back _ s22
    · exact absurd hi (Nat.not_lt_zero _)
