/-! Machine: its loops -/
abbrev mR : Type := (Nat × Nat) × (Int32 × Int32 × Int32 × UInt64) × (Nat × Nat × Nat)
def mR.wc (m : mR) : Nat := m.1.1
def mR.ce (m : mR) : Nat := m.1.2
def mR.ar (m : mR) : Int32 := m.2.1.1
def mR.rp (m : mR) : Int32 := m.2.1.2.1
def mR.rc (m : mR) : Int32 := m.2.1.2.2.1
def mR.rs (m : mR) : UInt64 := m.2.1.2.2.2
def mR.wi (m : mR) : Nat := m.2.2.1
def mR.s1 (m : mR) : Nat := m.2.2.2.1
def mR.s2 (m : mR) : Nat := m.2.2.2.2
def mR.ls (m : mR) : List Value := [.ref m.wc, .ref m.ce, .int m.ar, .int m.rp, .int m.rc, .double m.rs, .ref m.wi, .ref m.s1, .ref m.s2]
def s_clp (lo hi v : Int32) : Int32 := i_max lo (i_min hi v)
def g_hold (lo hi : Int32) (fr : Nat) : Nat → (Nat → Int32) → Int32 := fun i f => s_clp lo hi (f (fr + i))
theorem c_M_hold (a b : Nat) (M : mR) (n : nR) (K fr to : Nat) (f : Nat → Int32) (h : rk_H) (ha : h a = some (oB 1 M.ls)) (hb : h b = some (oB 2 n.ls)) (hc : h M.ce = some (iA 1792 f)) (hac : a ≠ M.ce) (hbc : b ≠ M.ce) (hK : n.ce = nI K) (h1 : fr + K ≤ 1792) (h2 : to + K ≤ 1792) :
    rk_Con mM_hold (1, 21, 0, 0) [.ref a, .ref b, .int (nI fr), .int (nI to)] h (rk_R0 (rk_up h M.ce (iA 1792 (itf (g_hold n.lo n.hi fr) to K f)))) := by
  have loop : ∀ (k i : Nat), i + k = K → rk_Run mM_hold (1, 21, 0, 0) (rk_R0 (rk_up h M.ce (iA 1792 (itf (g_hold n.lo n.hi fr) to K f)))) 3 [some (.ref a), some (.ref b), some (.int (nI fr)), some (.int (nI to)), some (.int (nI i))] [] (rk_up h M.ce (iA 1792 (itf (g_hold n.lo n.hi fr) to i f))) (0, 0) := by
    intro k
    induction k with
    | zero =>
      intro i hi
      have hi : i = K := by omega
      subst hi
      refine rk_iload dM_hold_3 rfl ?_
      refine rk_aload_n dM_hold_5 rfl ?_
      refine rk_getf fM_71 dM_hold_6 (by first | exact ha | exact hb | exact hc | assumption | (simp only [rk_up_s, rk_up_n hac, rk_up_n hbc]; first | exact ha | exact hb | exact hc | rfl)) rfl ?_
      refine rk_icmp_ge 50 dM_hold_9 (by decide) (fun q_9 => ?_) (fun q_9 => ?_)
      · exact rk_ret rfl dM_hold_50 ⟨(Nat.le_of_ble_eq_true rfl), (Nat.le_of_ble_eq_true rfl)⟩ (⟨rfl, rfl⟩)
      · exact absurd (by rw [hK]; exact nI_le (Nat.le_refl _) (by omega)) q_9
    | succ k ih =>
      intro i hi
      refine rk_iload dM_hold_3 rfl ?_
      refine rk_aload_n dM_hold_5 rfl ?_
      refine rk_getf fM_71 dM_hold_6 (by first | exact ha | exact hb | exact hc | assumption | (simp only [rk_up_s, rk_up_n hac, rk_up_n hbc]; first | exact ha | exact hb | exact hc | rfl)) rfl ?_
      refine rk_icmp_ge 50 dM_hold_9 (by decide) (fun q_9 => ?_) (fun q_9 => ?_)
      · exact absurd (by rw [hK] at q_9; exact q_9) (nI_ge (by omega) (by omega))
      · refine rk_aload_n dM_hold_12 rfl ?_
        refine rk_getf fM_15 dM_hold_13 (by first | exact ha | exact hb | exact hc | assumption | (simp only [rk_up_s, rk_up_n hac, rk_up_n hbc]; first | exact ha | exact hb | exact hc | rfl)) rfl ?_
        refine rk_iload_n dM_hold_16 rfl ?_
        refine rk_iload dM_hold_17 rfl ?_
        refine rk_iadd dM_hold_19 ?_
        rw [nI_add]
        refine rk_aload_n dM_hold_20 rfl ?_
        refine rk_getf fM_232 dM_hold_21 (by first | exact ha | exact hb | exact hc | assumption | (simp only [rk_up_s, rk_up_n hac, rk_up_n hbc]; first | exact ha | exact hb | exact hc | rfl)) rfl ?_
        refine rk_aload_n dM_hold_24 rfl ?_
        refine rk_getf fM_235 dM_hold_25 (by first | exact ha | exact hb | exact hc | assumption | (simp only [rk_up_s, rk_up_n hac, rk_up_n hbc]; first | exact ha | exact hb | exact hc | rfl)) rfl ?_
        refine rk_aload_n dM_hold_28 rfl ?_
        refine rk_getf fM_15 dM_hold_29 (by first | exact ha | exact hb | exact hc | assumption | (simp only [rk_up_s, rk_up_n hac, rk_up_n hbc]; first | exact ha | exact hb | exact hc | rfl)) rfl ?_
        refine rk_iload_n dM_hold_32 rfl ?_
        refine rk_iload dM_hold_33 rfl ?_
        refine rk_iadd dM_hold_35 ?_
        rw [nI_add fr i]
        refine rk_iald dM_hold_36 (by first | exact ha | exact hb | exact hc | assumption | (simp only [rk_up_s, rk_up_n hac, rk_up_n hbc]; first | exact ha | exact hb | exact hc | rfl)) (vp_in_nI (show fr + i < 1792 by omega) (by omega)) ?_
        rw [nI_clamp (show fr + i < 2 ^ 31 by omega)]
        refine rk_jmin jM_238 dM_hold_37 ⟨(Nat.le_of_ble_eq_true rfl), (Nat.le_of_ble_eq_true rfl)⟩ (Nat.le_of_ble_eq_true rfl) (Nat.le_of_ble_eq_true rfl) ?_
        refine rk_jmax jM_220 dM_hold_40 ⟨(Nat.le_of_ble_eq_true rfl), (Nat.le_of_ble_eq_true rfl)⟩ (Nat.le_of_ble_eq_true rfl) (Nat.le_of_ble_eq_true rfl) ?_
        refine rk_iast dM_hold_43 (by first | exact ha | exact hb | exact hc | assumption | (simp only [rk_up_s, rk_up_n hac, rk_up_n hbc]; first | exact ha | exact hb | exact hc | rfl)) (vp_in_nI (show to + i < 1792 by omega) (by omega)) ?_
        refine rk_iinc dM_hold_44 rfl (inc1 i) (Nat.le_of_ble_eq_true rfl) ?_
        refine rk_goto 3 dM_hold_47 (by decide) ?_
        rw [rk_up_up, nI_clamp (show to + i < 2 ^ 31 by omega)]
        refine rk_lv [some (.ref a), some (.ref b), some (.int (nI fr)), some (.int (nI to)), some (.int (nI (i + 1)))] ⟨rfl, rfl, rfl, rfl, rfl, trivial⟩ ?_
        have e := ih (i + 1) (by omega)
        rw [itf_s] at e
        exact e
  refine rk_Con.of [some (.ref a), some (.ref b), some (.int (nI fr)), some (.int (nI to)), none] rfl (Nat.le_of_ble_eq_true rfl) (by decide +kernel) ?_
  refine rk_iconst (v := 0) dM_hold_0 (by decide) ?_
  refine rk_istore dM_hold_1 (Nat.le_of_ble_eq_true rfl) ?_
  refine rk_lv [some (.ref a), some (.ref b), some (.int (nI fr)), some (.int (nI to)), some (.int (nI 0))] ⟨rfl, rfl, rfl, rfl, rfl, trivial⟩ ?_
  have e := loop K 0 (by omega)
  rw [itf_0, rk_up_id hc] at e
  exact e
