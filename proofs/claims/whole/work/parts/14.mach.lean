/-! Machine: its loops -/
abbrev mR : Type := (Nat × Nat) × (Int32 × Int32 × Int32 × UInt64) × (Nat × Nat × Nat)
def mR.wc (m : mR) : Nat := m.1.1
def mR.ce (m : mR) : Nat := m.1.2
def mR.ar (m : mR) : Int32 := m.2.1.1
def mR.rp (m : mR) : Int32 := m.2.1.2.1
def mR.rc (m : mR) : Int32 := m.2.1.2.2.1
def mR.rs (m : mR) : UInt64 := m.2.1.2.2.2
def mR.wi (m : mR) : Nat := m.2.2.1
def mR.s1 (m : mR) : Nat := m.2.2.2.1
def mR.s2 (m : mR) : Nat := m.2.2.2.2
def mR.ls (m : mR) : List Value := [.ref m.wc, .ref m.ce, .int m.ar, .int m.rp, .int m.rc, .double m.rs, .ref m.wi, .ref m.s1, .ref m.s2]
def s_clp (lo hi v : Int32) : Int32 := i_max lo (i_min hi v)
def g_hold (lo hi : Int32) (fr : Nat) : Nat → (Nat → Int32) → Int32 := fun i f => s_clp lo hi (f (fr + i))
theorem c_M_hold (a b : Nat) (M : mR) (n : nR) (K fr to : Nat) (f : Nat → Int32) (h : rk_H) (ha : h a = some (oB 1 M.ls)) (hb : h b = some (oB 2 n.ls)) (hc : h M.ce = some (iA 1792 f)) (hac : a ≠ M.ce) (hbc : b ≠ M.ce) (hK : n.ce = nI K) (h1 : fr + K ≤ 1792) (h2 : to + K ≤ 1792) :
    rk_Con mM_hold (1, 21, 0, 0) [.ref a, .ref b, .int (nI fr), .int (nI to)] h (rk_R0 (rk_up h M.ce (iA 1792 (itf (g_hold n.lo n.hi fr) to K f)))) := by
  have loop : ∀ (k i : Nat), i + k = K → rk_Run mM_hold (1, 21, 0, 0) (rk_R0 (rk_up h M.ce (iA 1792 (itf (g_hold n.lo n.hi fr) to K f)))) 3 [some (.ref a), some (.ref b), some (.int (nI fr)), some (.int (nI to)), some (.int (nI i))] [] (rk_up h M.ce (iA 1792 (itf (g_hold n.lo n.hi fr) to i f))) (0, 0) := by
    intro k
    induction k with
    | zero =>
      intro i hi
      have hi : i = K := by omega
      subst hi
      refine rk_iload dM_hold_3 rfl ?_
      refine rk_aload_n dM_hold_5 rfl ?_
      refine rk_getf fM_71 dM_hold_6 (by first | exact ha | exact hb | exact hc | assumption | (simp only [rk_up_s, rk_up_n hac, rk_up_n hbc]; first | exact ha | exact hb | exact hc | rfl)) rfl ?_
      refine rk_icmp_ge 50 dM_hold_9 (by decide) (fun q_9 => ?_) (fun q_9 => ?_)
      · exact rk_ret rfl dM_hold_50 ⟨(Nat.le_of_ble_eq_true rfl), (Nat.le_of_ble_eq_true rfl)⟩ (⟨rfl, rfl⟩)
      · exact absurd (by rw [hK]; exact nI_le (Nat.le_refl _) (by omega)) q_9
    | succ k ih =>
      intro i hi
      refine rk_iload dM_hold_3 rfl ?_
      refine rk_aload_n dM_hold_5 rfl ?_
      refine rk_getf fM_71 dM_hold_6 (by first | exact ha | exact hb | exact hc | assumption | (simp only [rk_up_s, rk_up_n hac, rk_up_n hbc]; first | exact ha | exact hb | exact hc | rfl)) rfl ?_
      refine rk_icmp_ge 50 dM_hold_9 (by decide) (fun q_9 => ?_) (fun q_9 => ?_)
      · exact absurd (by rw [hK] at q_9; exact q_9) (nI_ge (by omega) (by omega))
      · refine rk_aload_n dM_hold_12 rfl ?_
        refine rk_getf fM_15 dM_hold_13 (by first | exact ha | exact hb | exact hc | assumption | (simp only [rk_up_s, rk_up_n hac, rk_up_n hbc]; first | exact ha | exact hb | exact hc | rfl)) rfl ?_
        refine rk_iload_n dM_hold_16 rfl ?_
        refine rk_iload dM_hold_17 rfl ?_
        refine rk_iadd dM_hold_19 ?_
        rw [nI_add]
        refine rk_aload_n dM_hold_20 rfl ?_
        refine rk_getf fM_232 dM_hold_21 (by first | exact ha | exact hb | exact hc | assumption | (simp only [rk_up_s, rk_up_n hac, rk_up_n hbc]; first | exact ha | exact hb | exact hc | rfl)) rfl ?_
        refine rk_aload_n dM_hold_24 rfl ?_
        refine rk_getf fM_235 dM_hold_25 (by first | exact ha | exact hb | exact hc | assumption | (simp only [rk_up_s, rk_up_n hac, rk_up_n hbc]; first | exact ha | exact hb | exact hc | rfl)) rfl ?_
        refine rk_aload_n dM_hold_28 rfl ?_
        refine rk_getf fM_15 dM_hold_29 (by first | exact ha | exact hb | exact hc | assumption | (simp only [rk_up_s, rk_up_n hac, rk_up_n hbc]; first | exact ha | exact hb | exact hc | rfl)) rfl ?_
        refine rk_iload_n dM_hold_32 rfl ?_
        refine rk_iload dM_hold_33 rfl ?_
        refine rk_iadd dM_hold_35 ?_
        rw [nI_add fr i]
        refine rk_iald dM_hold_36 (by first | exact ha | exact hb | exact hc | assumption | (simp only [rk_up_s, rk_up_n hac, rk_up_n hbc]; first | exact ha | exact hb | exact hc | rfl)) (vp_in_nI (show fr + i < 1792 by omega) (by omega)) ?_
        rw [nI_clamp (show fr + i < 2 ^ 31 by omega)]
        refine rk_jmin jM_238 dM_hold_37 ⟨(Nat.le_of_ble_eq_true rfl), (Nat.le_of_ble_eq_true rfl)⟩ (Nat.le_of_ble_eq_true rfl) (Nat.le_of_ble_eq_true rfl) ?_
        refine rk_jmax jM_220 dM_hold_40 ⟨(Nat.le_of_ble_eq_true rfl), (Nat.le_of_ble_eq_true rfl)⟩ (Nat.le_of_ble_eq_true rfl) (Nat.le_of_ble_eq_true rfl) ?_
        refine rk_iast dM_hold_43 (by first | exact ha | exact hb | exact hc | assumption | (simp only [rk_up_s, rk_up_n hac, rk_up_n hbc]; first | exact ha | exact hb | exact hc | rfl)) (vp_in_nI (show to + i < 1792 by omega) (by omega)) ?_
        refine rk_iinc dM_hold_44 rfl (inc1 i) (Nat.le_of_ble_eq_true rfl) ?_
        refine rk_goto 3 dM_hold_47 (by decide) ?_
        rw [rk_up_up, nI_clamp (show to + i < 2 ^ 31 by omega)]
        refine rk_lv [some (.ref a), some (.ref b), some (.int (nI fr)), some (.int (nI to)), some (.int (nI (i + 1)))] ⟨rfl, rfl, rfl, rfl, rfl, trivial⟩ ?_
        have e := ih (i + 1) (by omega)
        rw [itf_s] at e
        exact e
  refine rk_Con.of [some (.ref a), some (.ref b), some (.int (nI fr)), some (.int (nI to)), none] rfl (Nat.le_of_ble_eq_true rfl) (by decide +kernel) ?_
  refine rk_iconst (v := 0) dM_hold_0 (by decide) ?_
  refine rk_istore dM_hold_1 (Nat.le_of_ble_eq_true rfl) ?_
  refine rk_lv [some (.ref a), some (.ref b), some (.int (nI fr)), some (.int (nI to)), some (.int (nI 0))] ⟨rfl, rfl, rfl, rfl, rfl, trivial⟩ ?_
  have e := loop K 0 (by omega)
  rw [itf_0, rk_up_id hc] at e
  exact e
theorem c_M_bias (a b : Nat) (M : mR) (x : aN) (fe : Nat) (ra ro : UInt64) (p ch : Nat) (wt : Nat → Int32) (h : rk_H) (ha : h a = some (oB 1 M.ls)) (hb : h b = some (oB 2 (nL x fe ra ro))) (hv : h M.wc = some (iA 512 wt)) (hi : x.off + x.c * p + ch < 512) :
    rk_Con mM_bias (0, 0, 0, 0) [.ref a, .ref b, .int (nI p), .int (nI ch)] h (rk_Rv (.int (16 * wt (x.off + x.c * p + ch))) h) := by
  refine rk_Con.of [some (.ref a), some (.ref b), some (.int (nI p)), some (.int (nI ch))] rfl (Nat.le_of_ble_eq_true rfl) (by decide +kernel) ?_
  refine rk_bipush (v := 16) dM_bias_0 (by decide) ?_
  refine rk_aload_n dM_bias_2 rfl ?_
  refine rk_getf fM_9 dM_bias_3 (by first | exact ha | exact hb | exact hv | assumption) rfl ?_
  refine rk_aload_n dM_bias_6 rfl ?_
  refine rk_getf fM_217 dM_bias_7 (by first | exact ha | exact hb | exact hv | assumption) rfl ?_
  refine rk_aload_n dM_bias_10 rfl ?_
  refine rk_getf fM_164 dM_bias_11 (by first | exact ha | exact hb | exact hv | assumption) rfl ?_
  refine rk_iload_n dM_bias_14 rfl ?_
  refine rk_imul dM_bias_15 ?_
  refine rk_iadd dM_bias_16 ?_
  refine rk_iload_n dM_bias_17 rfl ?_
  refine rk_iadd dM_bias_18 ?_
  rw [pk_mul, nI_add, nI_add]
  refine rk_iald dM_bias_19 (by first | exact ha | exact hb | exact hv | assumption) (vp_in_nI hi (by omega)) ?_
  rw [nI_clamp (Nat.lt_trans hi (by omega))]
  refine rk_imul dM_bias_20 ?_
  exact rk_iret rfl dM_bias_21 ⟨(Nat.le_of_ble_eq_true rfl), (Nat.le_of_ble_eq_true rfl)⟩ (⟨rfl, rfl⟩)
theorem c_M_sumOfResult (a : Nat) (M : mR) (K p : Nat) (f : Nat → Int32) (h : rk_H) (ha : h a = some (oB 1 M.ls)) (hc : h M.ce = some (iA 1792 f)) (hK : M.rc = nI K) (hp : M.rp = nI p) (h1 : p + K ≤ 1792) :
    rk_Con mM_sumOfResult (0, 0, 0, 0) [.ref a] h (rk_Rv (.int (itr (fun i s => s + f (p + i)) K 0 0)) h) := by
  have loop : ∀ (k i : Nat) (s : Int32), i + k = K → rk_Run mM_sumOfResult (0, 0, 0, 0) (rk_Rv (.int (itr (fun i s => s + f (p + i)) k i s)) h) 4 [some (.ref a), some (.int s), some (.int (nI i))] [] h (0, 0) := by
    intro k
    induction k with
    | zero =>
      intro i s hi
      have hi : i = K := by omega
      subst hi
      refine rk_iload_n dM_sumOfResult_4 rfl ?_
      refine rk_aload_n dM_sumOfResult_5 rfl ?_
      refine rk_getf fM_75 dM_sumOfResult_6 (by first | exact ha | exact hc | assumption) rfl ?_
      refine rk_icmp_ge 32 dM_sumOfResult_9 (by decide) (fun q_9 => ?_) (fun q_9 => ?_)
      · refine rk_iload_n dM_sumOfResult_32 rfl ?_
        exact rk_iret rfl dM_sumOfResult_33 ⟨(Nat.le_of_ble_eq_true rfl), (Nat.le_of_ble_eq_true rfl)⟩ (⟨rfl, rfl⟩)
      · exact absurd (by rw [hK]; exact nI_le (Nat.le_refl _) (by omega)) q_9
    | succ k ih =>
      intro i s hi
      refine rk_iload_n dM_sumOfResult_4 rfl ?_
      refine rk_aload_n dM_sumOfResult_5 rfl ?_
      refine rk_getf fM_75 dM_sumOfResult_6 (by first | exact ha | exact hc | assumption) rfl ?_
      refine rk_icmp_ge 32 dM_sumOfResult_9 (by decide) (fun q_9 => ?_) (fun q_9 => ?_)
      · exact absurd (by rw [hK] at q_9; exact q_9) (nI_ge (by omega) (by omega))
      · refine rk_iload_n dM_sumOfResult_12 rfl ?_
        refine rk_aload_n dM_sumOfResult_13 rfl ?_
        refine rk_getf fM_15 dM_sumOfResult_14 (by first | exact ha | exact hc | assumption) rfl ?_
        refine rk_aload_n dM_sumOfResult_17 rfl ?_
        refine rk_getf fM_64 dM_sumOfResult_18 (by first | exact ha | exact hc | assumption) rfl ?_
        refine rk_iload_n dM_sumOfResult_21 rfl ?_
        refine rk_iadd dM_sumOfResult_22 ?_
        rw [hp, nI_add]
        refine rk_iald dM_sumOfResult_23 (by first | exact ha | exact hc | assumption) (vp_in_nI (show p + i < 1792 by omega) (by omega)) ?_
        rw [nI_clamp (show p + i < 2 ^ 31 by omega)]
        refine rk_iadd dM_sumOfResult_24 ?_
        refine rk_istore_n dM_sumOfResult_25 (Nat.le_of_ble_eq_true rfl) ?_
        refine rk_iinc dM_sumOfResult_26 rfl (inc1 i) (Nat.le_of_ble_eq_true rfl) ?_
        refine rk_goto 4 dM_sumOfResult_29 (by decide) ?_
        exact ih (i + 1) _ (by omega)
  refine rk_Con.of [some (.ref a), none, none] rfl (Nat.le_of_ble_eq_true rfl) (by decide +kernel) ?_
  refine rk_iconst (v := 0) dM_sumOfResult_0 (by decide) ?_
  refine rk_istore_n dM_sumOfResult_1 (Nat.le_of_ble_eq_true rfl) ?_
  refine rk_iconst (v := 0) dM_sumOfResult_2 (by decide) ?_
  refine rk_istore_n dM_sumOfResult_3 (Nat.le_of_ble_eq_true rfl) ?_
  exact loop K 0 0 (by omega)
/-- over the cells under the window, row by row -/
def itw {α : Type} (g : wP) (y x : Nat) (s : Nat → Nat → α → α) (a : α) : α := itr (fun r a => itr (s r) (w_c1 g x - w_c0 g x) (w_c0 g x) a) (w_r1 g y - w_r0 g y) (w_r0 g y) a
/-- a window that lies well -/
def w_ok (g : wP) (y x : Nat) : Prop := w_r0 g y ≤ w_r1 g y ∧ w_c0 g x ≤ w_c1 g x ∧ g.oh ≤ 4 ∧ g.ow ≤ 4 ∧ g.k ≤ 3
theorem w_r1_le {g : wP} {y : Nat} : w_r1 g y ≤ g.oh := Nat.min_le_right _ _
theorem w_c1_le {g : wP} {x : Nat} : w_c1 g x ≤ g.ow := Nat.min_le_right _ _
theorem w_r1_k {g : wP} {y r : Nat} (h0 : w_r0 g y ≤ r) (h : r < w_r1 g y) : r + g.rb - y * g.sp < g.k ∧ y * g.sp ≤ r + g.rb := by
  have h1 : r < y * g.sp + g.k - g.rb := Nat.lt_of_lt_of_le h (Nat.min_le_left _ _)
  have h2 : y * g.sp - g.rb ≤ r := h0
  omega
theorem w_c1_k {g : wP} {y r : Nat} (h0 : w_c0 g y ≤ r) (h : r < w_c1 g y) : r + g.cb - y * g.sp < g.k ∧ y * g.sp ≤ r + g.cb := by
  have h1 : r < y * g.sp + g.k - g.cb := Nat.lt_of_lt_of_le h (Nat.min_le_left _ _)
  have h2 : y * g.sp - g.cb ≤ r := h0
  omega
theorem c_M_greatest (a b : Nat) (M : mR) (o : aN) (fe : Nat) (ra ro : UInt64) (g : wP) (y x fr ch : Nat) (f : Nat → Int32) (h : rk_H) (ha : h a = some (oB 1 M.ls)) (hb : h b = some (oB 2 (nL o fe ra ro))) (hw : h M.wi = some (oB 4 (wL g y x))) (hc : h M.ce = some (iA 1792 f)) (hg : w_ok g y x) (hoh : g.oh = o.h) (how : g.ow = o.w) (hch : ch < o.c) (h1 : fr + o.ce ≤ 1792) :
    rk_Con mM_greatest (1, 18, 0, 0) [.ref a, .ref b, .int (nI (fr + ch))] h (rk_Rv (.int (itw g y x (fun r c s => i_max s (f (fr + ((r * o.w + c) * o.c + ch)))) (-128))) h) := by
  obtain ⟨g1, g2, g3, g4, g5⟩ := hg
  have r1l := w_r1_le (g := g) (y := y)
  have c1l := w_c1_le (g := g) (x := x)
  have loop : ∀ (k i : Nat) (s : Int32), i + k = w_r1 g y → rk_Run mM_greatest (1, 18, 0, 0) (rk_Rv (.int (itr (fun r s => itr (fun c s => i_max s (f (fr + ((r * o.w + c) * o.c + ch)))) (w_c1 g x - w_c0 g x) (w_c0 g x) s) k i s)) h) 12 [some (.ref a), some (.ref b), some (.int (nI (fr + ch))), some (.int s), some (.int (nI i)), none] [] h (0, 0) := by
    intro k
    induction k with
    | zero =>
      intro i s hi
      have hi : i = w_r1 g y := by omega
      subst hi
      refine rk_iload dM_greatest_12 rfl ?_
      refine rk_aload_n dM_greatest_14 rfl ?_
      refine rk_getf fM_21 dM_greatest_15 (by first | exact ha | exact hb | exact hw | exact hc | assumption) rfl ?_
      refine rk_getf fM_202 dM_greatest_18 (by first | exact ha | exact hb | exact hw | exact hc | assumption) rfl ?_
      refine rk_icmp_ge 84 dM_greatest_21 (by decide) (fun q_21 => ?_) (fun q_21 => ?_)
      · refine rk_iload_n dM_greatest_84 rfl ?_
        exact rk_iret rfl dM_greatest_85 ⟨(Nat.le_of_ble_eq_true rfl), (Nat.le_of_ble_eq_true rfl)⟩ (⟨rfl, rfl⟩)
      · exact absurd (nI_le (Nat.le_refl _) (by omega)) q_21
    | succ k ih =>
      intro i s hi
      have inn : ∀ (k2 j : Nat) (s : Int32), j + k2 = w_c1 g x → rk_Run mM_greatest (1, 18, 0, 0) (rk_Rv (.int (itr (fun r s => itr (fun c s => i_max s (f (fr + ((r * o.w + c) * o.c + ch)))) (w_c1 g x - w_c0 g x) (w_c0 g x) s) k (i + 1) (itr (fun c s => i_max s (f (fr + ((i * o.w + c) * o.c + ch)))) k2 j s))) h) 33 [some (.ref a), some (.ref b), some (.int (nI (fr + ch))), some (.int s), some (.int (nI i)), some (.int (nI j))] [] h (0, 0) := by
        intro k2
        induction k2 with
        | zero =>
          intro j s hj
          have hj : j = w_c1 g x := by omega
          subst hj
          refine rk_iload dM_greatest_33 rfl ?_
          refine rk_aload_n dM_greatest_35 rfl ?_
          refine rk_getf fM_21 dM_greatest_36 (by first | exact ha | exact hb | exact hw | exact hc | assumption) rfl ?_
          refine rk_getf fM_208 dM_greatest_39 (by first | exact ha | exact hb | exact hw | exact hc | assumption) rfl ?_
          refine rk_icmp_ge 78 dM_greatest_42 (by decide) (fun q_42 => ?_) (fun q_42 => ?_)
          · refine rk_iinc dM_greatest_78 rfl (inc1 i) (Nat.le_of_ble_eq_true rfl) ?_
            refine rk_goto 12 dM_greatest_81 (by decide) ?_
            refine rk_lv [some (.ref a), some (.ref b), some (.int (nI (fr + ch))), some (.int s), some (.int (nI (i + 1))), none] ⟨rfl, rfl, rfl, rfl, rfl, trivial⟩ ?_
            exact ih (i + 1) _ (by omega)
          · exact absurd (nI_le (Nat.le_refl _) (by omega)) q_42
        | succ k2 ih2 =>
          intro j s hj
          have hx : (i * o.w + j) * o.c + ch < o.ce := ix3 (show i < o.h by omega) (show j < o.w by omega) hch
          refine rk_iload dM_greatest_33 rfl ?_
          refine rk_aload_n dM_greatest_35 rfl ?_
          refine rk_getf fM_21 dM_greatest_36 (by first | exact ha | exact hb | exact hw | exact hc | assumption) rfl ?_
          refine rk_getf fM_208 dM_greatest_39 (by first | exact ha | exact hb | exact hw | exact hc | assumption) rfl ?_
          refine rk_icmp_ge 78 dM_greatest_42 (by decide) (fun q_42 => ?_) (fun q_42 => ?_)
          · exact absurd q_42 (nI_ge (by omega) (by omega))
          · refine rk_iload_n dM_greatest_45 rfl ?_
            refine rk_aload_n dM_greatest_46 rfl ?_
            refine rk_getf fM_15 dM_greatest_47 (by first | exact ha | exact hb | exact hw | exact hc | assumption) rfl ?_
            refine rk_iload_n dM_greatest_50 rfl ?_
            refine rk_iload dM_greatest_51 rfl ?_
            refine rk_aload_n dM_greatest_53 rfl ?_
            refine rk_getf fM_157 dM_greatest_54 (by first | exact ha | exact hb | exact hw | exact hc | assumption) rfl ?_
            refine rk_imul dM_greatest_57 ?_
            refine rk_iload dM_greatest_58 rfl ?_
            refine rk_iadd dM_greatest_60 ?_
            refine rk_aload_n dM_greatest_61 rfl ?_
            refine rk_getf fM_164 dM_greatest_62 (by first | exact ha | exact hb | exact hw | exact hc | assumption) rfl ?_
            refine rk_imul dM_greatest_65 ?_
            refine rk_iadd dM_greatest_66 ?_
            rw [pk_mul, nI_add, pk_mul, nI_add, show fr + ch + (i * o.w + j) * o.c = fr + ((i * o.w + j) * o.c + ch) by omega]
            refine rk_iald dM_greatest_67 (by first | exact ha | exact hb | exact hw | exact hc | assumption) (vp_in_nI (show fr + ((i * o.w + j) * o.c + ch) < 1792 by omega) (by omega)) ?_
            rw [nI_clamp (show fr + ((i * o.w + j) * o.c + ch) < 2 ^ 31 by omega)]
            refine rk_jmax jM_220 dM_greatest_68 ⟨(Nat.le_of_ble_eq_true rfl), (Nat.le_of_ble_eq_true rfl)⟩ (Nat.le_of_ble_eq_true rfl) (Nat.le_of_ble_eq_true rfl) ?_
            refine rk_istore_n dM_greatest_71 (Nat.le_of_ble_eq_true rfl) ?_
            refine rk_iinc dM_greatest_72 rfl (inc1 j) (Nat.le_of_ble_eq_true rfl) ?_
            refine rk_goto 33 dM_greatest_75 (by decide) ?_
            exact ih2 (j + 1) _ (by omega)
      refine rk_iload dM_greatest_12 rfl ?_
      refine rk_aload_n dM_greatest_14 rfl ?_
      refine rk_getf fM_21 dM_greatest_15 (by first | exact ha | exact hb | exact hw | exact hc | assumption) rfl ?_
      refine rk_getf fM_202 dM_greatest_18 (by first | exact ha | exact hb | exact hw | exact hc | assumption) rfl ?_
      refine rk_icmp_ge 84 dM_greatest_21 (by decide) (fun q_21 => ?_) (fun q_21 => ?_)
      · exact absurd q_21 (nI_ge (by omega) (by omega))
      · refine rk_aload_n dM_greatest_24 rfl ?_
        refine rk_getf fM_21 dM_greatest_25 (by first | exact ha | exact hb | exact hw | exact hc | assumption) rfl ?_
        refine rk_getf fM_205 dM_greatest_28 (by first | exact ha | exact hb | exact hw | exact hc | assumption) rfl ?_
        refine rk_istore dM_greatest_31 (Nat.le_of_ble_eq_true rfl) ?_
        exact inn (w_c1 g x - w_c0 g x) (w_c0 g x) s (by omega)
  refine rk_Con.of [some (.ref a), some (.ref b), some (.int (nI (fr + ch))), none, none, none] rfl (Nat.le_of_ble_eq_true rfl) (by decide +kernel) ?_
  refine rk_bipush (v := -128) dM_greatest_0 (by decide) ?_
  refine rk_istore_n dM_greatest_2 (Nat.le_of_ble_eq_true rfl) ?_
  refine rk_aload_n dM_greatest_3 rfl ?_
  refine rk_getf fM_21 dM_greatest_4 (by first | exact ha | exact hb | exact hw | exact hc | assumption) rfl ?_
  refine rk_getf fM_199 dM_greatest_7 (by first | exact ha | exact hb | exact hw | exact hc | assumption) rfl ?_
  refine rk_istore dM_greatest_10 (Nat.le_of_ble_eq_true rfl) ?_
  exact loop (w_r1 g y - w_r0 g y) (w_r0 g y) (-128) (by omega)
def s_avg (s n : Int32) : Int32 := if n = 0 then 0 else if 0 ≤ s then (2 * (if 0 ≤ s then s else 0 - s) + n) / (2 * n) else -((2 * (if 0 ≤ s then s else 0 - s) + n) / (2 * n))
theorem c_M_average (a b : Nat) (M : mR) (o : aN) (fe : Nat) (ra ro : UInt64) (g : wP) (y x fr ch : Nat) (f : Nat → Int32) (h : rk_H) (ha : h a = some (oB 1 M.ls)) (hb : h b = some (oB 2 (nL o fe ra ro))) (hw : h M.wi = some (oB 4 (wL g y x))) (hc : h M.ce = some (iA 1792 f)) (hg : w_ok g y x) (hoh : g.oh = o.h) (how : g.ow = o.w) (hch : ch < o.c) (h1 : fr + o.ce ≤ 1792) :
    rk_Con mM_average (1, 19, 0, 0) [.ref a, .ref b, .int (nI (fr + ch))] h (rk_Rv (.int (s_avg (itw g y x (fun r c q => (q.1 + f (fr + ((r * o.w + c) * o.c + ch)), q.2 + 1)) ((0, 0) : Int32 × Nat)).1 (nI (itw g y x (fun r c q => (q.1 + f (fr + ((r * o.w + c) * o.c + ch)), q.2 + 1)) ((0, 0) : Int32 × Nat)).2))) h) := by
  obtain ⟨g1, g2, g3, g4, g5⟩ := hg
  have r1l := w_r1_le (g := g) (y := y)
  have c1l := w_c1_le (g := g) (x := x)
  have loop : ∀ (k i : Nat) (s : Int32) (m : Nat), i + k = w_r1 g y → m ≤ 4 * i → rk_Run mM_average (1, 19, 0, 0) (rk_Rv (.int (s_avg (itr (fun r q => itr (fun c (q : Int32 × Nat) => (q.1 + f (fr + ((r * o.w + c) * o.c + ch)), q.2 + 1)) (w_c1 g x - w_c0 g x) (w_c0 g x) q) k i (s, m)).1 (nI (itr (fun r q => itr (fun c (q : Int32 × Nat) => (q.1 + f (fr + ((r * o.w + c) * o.c + ch)), q.2 + 1)) (w_c1 g x - w_c0 g x) (w_c0 g x) q) k i (s, m)).2))) h) 14 [some (.ref a), some (.ref b), some (.int (nI (fr + ch))), some (.int s), some (.int (nI m)), some (.int (nI i)), none] [] h (0, 0) := by
    intro k
    induction k with
    | zero =>
      intro i s m hi hm
      have hi : i = w_r1 g y := by omega
      subst hi
      refine rk_iload dM_average_14 rfl ?_
      refine rk_aload_n dM_average_16 rfl ?_
      refine rk_getf fM_21 dM_average_17 (by first | exact ha | exact hb | exact hw | exact hc | assumption) rfl ?_
      refine rk_getf fM_202 dM_average_20 (by first | exact ha | exact hb | exact hw | exact hc | assumption) rfl ?_
      refine rk_icmp_ge 87 dM_average_23 (by decide) (fun q_23 => ?_) (fun q_23 => ?_)
      · refine rk_iload dM_average_87 rfl ?_
        refine rk_if_ne 94 dM_average_89 (by decide) (fun q_89 => ?_) (fun q_89 => ?_)
        · refine rk_iconst (v := 2) dM_average_94 (by decide) ?_
          refine rk_iload_n dM_average_95 rfl ?_
          refine rk_jabs jM_226 dM_average_96 ⟨(Nat.le_of_ble_eq_true rfl), (Nat.le_of_ble_eq_true rfl)⟩ (Nat.le_of_ble_eq_true rfl) (Nat.le_of_ble_eq_true rfl) ?_
          refine rk_imul dM_average_99 ?_
          refine rk_iload dM_average_100 rfl ?_
          refine rk_iadd dM_average_102 ?_
          refine rk_iconst (v := 2) dM_average_103 (by decide) ?_
          refine rk_iload dM_average_104 rfl ?_
          refine rk_imul dM_average_106 ?_
          refine rk_idiv dM_average_107 (by rw [show (2 : Int32) = nI 2 from rfl, pk_mul]; exact nI_ne0 (by have hm0 : m ≠ 0 := fun z => q_89 (by rw [z]; rfl) ; omega) (by omega)) ?_
          refine rk_istore dM_average_108 (Nat.le_of_ble_eq_true rfl) ?_
          refine rk_iload_n dM_average_110 rfl ?_
          refine rk_if_ge 120 dM_average_111 (by decide) (fun q_111 => ?_) (fun q_111 => ?_)
          · refine rk_iload dM_average_120 rfl ?_
            exact rk_iret rfl dM_average_122 ⟨(Nat.le_of_ble_eq_true rfl), (Nat.le_of_ble_eq_true rfl)⟩ (by simp only [rk_Rv, itr, s_avg, q_89, q_111, ↓reduceIte, and_self])
          · refine rk_iload dM_average_114 rfl ?_
            refine rk_ineg dM_average_116 ?_
            refine rk_goto 122 dM_average_117 (by decide) ?_
            exact rk_iret rfl dM_average_122 ⟨(Nat.le_of_ble_eq_true rfl), (Nat.le_of_ble_eq_true rfl)⟩ (by simp only [rk_Rv, itr, s_avg, q_89, q_111, ↓reduceIte, and_self])
        · refine rk_iconst (v := 0) dM_average_92 (by decide) ?_
          exact rk_iret rfl dM_average_93 ⟨(Nat.le_of_ble_eq_true rfl), (Nat.le_of_ble_eq_true rfl)⟩ (by simp only [rk_Rv, itr, s_avg, q_89, ↓reduceIte, and_self])
      · exact absurd (nI_le (Nat.le_refl _) (by omega)) q_23
    | succ k ih =>
      intro i s m hi hm
      have inn : ∀ (k2 j : Nat) (s : Int32) (m : Nat), j + k2 = w_c1 g x → m ≤ 4 * i + j → rk_Run mM_average (1, 19, 0, 0) (rk_Rv (.int (s_avg (itr (fun r q => itr (fun c (q : Int32 × Nat) => (q.1 + f (fr + ((r * o.w + c) * o.c + ch)), q.2 + 1)) (w_c1 g x - w_c0 g x) (w_c0 g x) q) k (i + 1) (itr (fun c (q : Int32 × Nat) => (q.1 + f (fr + ((i * o.w + c) * o.c + ch)), q.2 + 1)) k2 j (s, m))).1 (nI (itr (fun r q => itr (fun c (q : Int32 × Nat) => (q.1 + f (fr + ((r * o.w + c) * o.c + ch)), q.2 + 1)) (w_c1 g x - w_c0 g x) (w_c0 g x) q) k (i + 1) (itr (fun c (q : Int32 × Nat) => (q.1 + f (fr + ((i * o.w + c) * o.c + ch)), q.2 + 1)) k2 j (s, m))).2))) h) 35 [some (.ref a), some (.ref b), some (.int (nI (fr + ch))), some (.int s), some (.int (nI m)), some (.int (nI i)), some (.int (nI j))] [] h (0, 0) := by
        intro k2
        induction k2 with
        | zero =>
          intro j s m hj hm
          have hj : j = w_c1 g x := by omega
          subst hj
          refine rk_iload dM_average_35 rfl ?_
          refine rk_aload_n dM_average_37 rfl ?_
          refine rk_getf fM_21 dM_average_38 (by first | exact ha | exact hb | exact hw | exact hc | assumption) rfl ?_
          refine rk_getf fM_208 dM_average_41 (by first | exact ha | exact hb | exact hw | exact hc | assumption) rfl ?_
          refine rk_icmp_ge 81 dM_average_44 (by decide) (fun q_44 => ?_) (fun q_44 => ?_)
          · refine rk_iinc dM_average_81 rfl (inc1 i) (Nat.le_of_ble_eq_true rfl) ?_
            refine rk_goto 14 dM_average_84 (by decide) ?_
            refine rk_lv [some (.ref a), some (.ref b), some (.int (nI (fr + ch))), some (.int s), some (.int (nI m)), some (.int (nI (i + 1))), none] ⟨rfl, rfl, rfl, rfl, rfl, rfl, trivial⟩ ?_
            exact ih (i + 1) s m (by omega) (by omega)
          · exact absurd (nI_le (Nat.le_refl _) (by omega)) q_44
        | succ k2 ih2 =>
          intro j s m hj hm
          have hx : (i * o.w + j) * o.c + ch < o.ce := ix3 (show i < o.h by omega) (show j < o.w by omega) hch
          refine rk_iload dM_average_35 rfl ?_
          refine rk_aload_n dM_average_37 rfl ?_
          refine rk_getf fM_21 dM_average_38 (by first | exact ha | exact hb | exact hw | exact hc | assumption) rfl ?_
          refine rk_getf fM_208 dM_average_41 (by first | exact ha | exact hb | exact hw | exact hc | assumption) rfl ?_
          refine rk_icmp_ge 81 dM_average_44 (by decide) (fun q_44 => ?_) (fun q_44 => ?_)
          · exact absurd q_44 (nI_ge (by omega) (by omega))
          · refine rk_iload_n dM_average_47 rfl ?_
            refine rk_aload_n dM_average_48 rfl ?_
            refine rk_getf fM_15 dM_average_49 (by first | exact ha | exact hb | exact hw | exact hc | assumption) rfl ?_
            refine rk_iload_n dM_average_52 rfl ?_
            refine rk_iload dM_average_53 rfl ?_
            refine rk_aload_n dM_average_55 rfl ?_
            refine rk_getf fM_157 dM_average_56 (by first | exact ha | exact hb | exact hw | exact hc | assumption) rfl ?_
            refine rk_imul dM_average_59 ?_
            refine rk_iload dM_average_60 rfl ?_
            refine rk_iadd dM_average_62 ?_
            refine rk_aload_n dM_average_63 rfl ?_
            refine rk_getf fM_164 dM_average_64 (by first | exact ha | exact hb | exact hw | exact hc | assumption) rfl ?_
            refine rk_imul dM_average_67 ?_
            refine rk_iadd dM_average_68 ?_
            rw [pk_mul, nI_add, pk_mul, nI_add, show fr + ch + (i * o.w + j) * o.c = fr + ((i * o.w + j) * o.c + ch) by omega]
            refine rk_iald dM_average_69 (by first | exact ha | exact hb | exact hw | exact hc | assumption) (vp_in_nI (show fr + ((i * o.w + j) * o.c + ch) < 1792 by omega) (by omega)) ?_
            rw [nI_clamp (show fr + ((i * o.w + j) * o.c + ch) < 2 ^ 31 by omega)]
            refine rk_iadd dM_average_70 ?_
            refine rk_istore_n dM_average_71 (Nat.le_of_ble_eq_true rfl) ?_
            refine rk_iinc dM_average_72 rfl (inc1 m) (Nat.le_of_ble_eq_true rfl) ?_
            refine rk_iinc dM_average_75 rfl (inc1 j) (Nat.le_of_ble_eq_true rfl) ?_
            refine rk_goto 35 dM_average_78 (by decide) ?_
            exact ih2 (j + 1) _ (m + 1) (by omega) (by omega)
      refine rk_iload dM_average_14 rfl ?_
      refine rk_aload_n dM_average_16 rfl ?_
      refine rk_getf fM_21 dM_average_17 (by first | exact ha | exact hb | exact hw | exact hc | assumption) rfl ?_
      refine rk_getf fM_202 dM_average_20 (by first | exact ha | exact hb | exact hw | exact hc | assumption) rfl ?_
      refine rk_icmp_ge 87 dM_average_23 (by decide) (fun q_23 => ?_) (fun q_23 => ?_)
      · exact absurd q_23 (nI_ge (by omega) (by omega))
      · refine rk_aload_n dM_average_26 rfl ?_
        refine rk_getf fM_21 dM_average_27 (by first | exact ha | exact hb | exact hw | exact hc | assumption) rfl ?_
        refine rk_getf fM_205 dM_average_30 (by first | exact ha | exact hb | exact hw | exact hc | assumption) rfl ?_
        refine rk_istore dM_average_33 (Nat.le_of_ble_eq_true rfl) ?_
        exact inn (w_c1 g x - w_c0 g x) (w_c0 g x) s m (by omega) (by omega)
  refine rk_Con.of [some (.ref a), some (.ref b), some (.int (nI (fr + ch))), none, none, none, none] rfl (Nat.le_of_ble_eq_true rfl) (by decide +kernel) ?_
  refine rk_iconst (v := 0) dM_average_0 (by decide) ?_
  refine rk_istore_n dM_average_1 (Nat.le_of_ble_eq_true rfl) ?_
  refine rk_iconst (v := 0) dM_average_2 (by decide) ?_
  refine rk_istore dM_average_3 (Nat.le_of_ble_eq_true rfl) ?_
  refine rk_aload_n dM_average_5 rfl ?_
  refine rk_getf fM_21 dM_average_6 (by first | exact ha | exact hb | exact hw | exact hc | assumption) rfl ?_
  refine rk_getf fM_199 dM_average_9 (by first | exact ha | exact hb | exact hw | exact hc | assumption) rfl ?_
  refine rk_istore dM_average_12 (Nat.le_of_ble_eq_true rfl) ?_
  exact loop (w_r1 g y - w_r0 g y) (w_r0 g y) 0 0 (by omega) (by omega)
/-- the place of a weight in its node's weights -/
def w_tap (g : wP) (y x ch r c : Nat) : Nat := (ch * g.k + (r + g.rb - y * g.sp)) * g.k + (c + g.cb - x * g.sp)
theorem c_M_sumOne (a b b2 : Nat) (M : mR) (n o : aN) (fe fe2 : Nat) (ra ro ra2 ro2 : UInt64) (g : wP) (y x fr ch : Nat) (f wt : Nat → Int32) (h : rk_H) (ha : h a = some (oB 1 M.ls)) (hb : h b = some (oB 2 (nL n fe ra ro))) (hb2 : h b2 = some (oB 2 (nL o fe2 ra2 ro2))) (hw : h M.wi = some (oB 4 (wL g y x))) (hc : h M.ce = some (iA 1792 f)) (hv : h M.wc = some (iA 512 wt)) (hg : w_ok g y x) (hoh : g.oh = o.h) (how : g.ow = o.w) (hch : ch < o.c) (h1 : fr + o.ce ≤ 1792) (h2 : n.off + o.c * g.k * g.k ≤ 512) :
    rk_Con mM_sumOneChannel (0, 0, 0, 0) [.ref a, .ref b, .ref b2, .int (nI fr), .int (nI ch)] h (rk_Rv (.int (itw g y x (fun r c s => s + f (fr + ((r * o.w + c) * o.c + ch)) * wt (n.off + w_tap g y x ch r c)) 0)) h) := by
  obtain ⟨g1, g2, g3, g4, g5⟩ := hg
  have r1l := w_r1_le (g := g) (y := y)
  have c1l := w_c1_le (g := g) (x := x)
  have loop : ∀ (k i : Nat) (s : Int32), i + k = w_r1 g y → w_r0 g y ≤ i → rk_Run mM_sumOneChannel (0, 0, 0, 0) (rk_Rv (.int (itr (fun r s => itr (fun c s => s + f (fr + ((r * o.w + c) * o.c + ch)) * wt (n.off + w_tap g y x ch r c)) (w_c1 g x - w_c0 g x) (w_c0 g x) s) k i s)) h) 21 [some (.ref a), some (.ref b), some (.ref b2), some (.int (nI fr)), some (.int (nI ch)), some (.int (nI g.k)), some (.int s), some (.int (nI i)), none, none, none] [] h (0, 0) := by
    intro k
    induction k with
    | zero =>
      intro i s hi hl
      have hi : i = w_r1 g y := by omega
      subst hi
      refine rk_iload dM_sumOneChannel_21 rfl ?_
      refine rk_aload_n dM_sumOneChannel_23 rfl ?_
      refine rk_getf fM_21 dM_sumOneChannel_24 (by first | exact ha | exact hb | exact hb2 | exact hw | exact hc | exact hv | assumption) rfl ?_
      refine rk_getf fM_202 dM_sumOneChannel_27 (by first | exact ha | exact hb | exact hb2 | exact hw | exact hc | exact hv | assumption) rfl ?_
      refine rk_icmp_ge 145 dM_sumOneChannel_30 (by decide) (fun q_30 => ?_) (fun q_30 => ?_)
      · refine rk_iload dM_sumOneChannel_145 rfl ?_
        exact rk_iret rfl dM_sumOneChannel_147 ⟨(Nat.le_of_ble_eq_true rfl), (Nat.le_of_ble_eq_true rfl)⟩ (⟨rfl, rfl⟩)
      · exact absurd (nI_le (Nat.le_refl _) (by omega)) q_30
    | succ k ih =>
      intro i s hi hl
      have hr := w_r1_k hl (show i < w_r1 g y by omega)
      have inn : ∀ (k2 j : Nat) (s : Int32), j + k2 = w_c1 g x → w_c0 g x ≤ j → rk_Run mM_sumOneChannel (0, 0, 0, 0) (rk_Rv (.int (itr (fun r s => itr (fun c s => s + f (fr + ((r * o.w + c) * o.c + ch)) * wt (n.off + w_tap g y x ch r c)) (w_c1 g x - w_c0 g x) (w_c0 g x) s) k (i + 1) (itr (fun c s => s + f (fr + ((i * o.w + c) * o.c + ch)) * wt (n.off + w_tap g y x ch i c)) k2 j s))) h) 42 [some (.ref a), some (.ref b), some (.ref b2), some (.int (nI fr)), some (.int (nI ch)), some (.int (nI g.k)), some (.int s), some (.int (nI i)), some (.int (nI j)), none, none] [] h (0, 0) := by
        intro k2
        induction k2 with
        | zero =>
          intro j s hj hl2
          have hj : j = w_c1 g x := by omega
          subst hj
          refine rk_iload dM_sumOneChannel_42 rfl ?_
          refine rk_aload_n dM_sumOneChannel_44 rfl ?_
          refine rk_getf fM_21 dM_sumOneChannel_45 (by first | exact ha | exact hb | exact hb2 | exact hw | exact hc | exact hv | assumption) rfl ?_
          refine rk_getf fM_208 dM_sumOneChannel_48 (by first | exact ha | exact hb | exact hb2 | exact hw | exact hc | exact hv | assumption) rfl ?_
          refine rk_icmp_ge 139 dM_sumOneChannel_51 (by decide) (fun q_51 => ?_) (fun q_51 => ?_)
          · refine rk_iinc dM_sumOneChannel_139 rfl (inc1 i) (Nat.le_of_ble_eq_true rfl) ?_
            refine rk_goto 21 dM_sumOneChannel_142 (by decide) ?_
            refine rk_lv [some (.ref a), some (.ref b), some (.ref b2), some (.int (nI fr)), some (.int (nI ch)), some (.int (nI g.k)), some (.int s), some (.int (nI (i + 1))), none, none, none] ⟨rfl, rfl, rfl, rfl, rfl, rfl, rfl, rfl, trivial⟩ ?_
            exact ih (i + 1) _ (by omega) (by omega)
          · exact absurd (nI_le (Nat.le_refl _) (by omega)) q_51
        | succ k2 ih2 =>
          intro j s hj hl2
          have hcc := w_c1_k hl2 (show j < w_c1 g x by omega)
          have hx : (i * o.w + j) * o.c + ch < o.ce := ix3 (show i < o.h by omega) (show j < o.w by omega) hch
          have hy : w_tap g y x ch i j < o.c * g.k * g.k := ix3 hch hr.1 hcc.1
          have et : (ch * g.k + i + g.rb - y * g.sp) * g.k + j + g.cb - x * g.sp = w_tap g y x ch i j := by
            rw [show ch * g.k + i + g.rb - y * g.sp = ch * g.k + (i + g.rb - y * g.sp) by omega]
            unfold w_tap
            omega
          refine rk_iload dM_sumOneChannel_42 rfl ?_
          refine rk_aload_n dM_sumOneChannel_44 rfl ?_
          refine rk_getf fM_21 dM_sumOneChannel_45 (by first | exact ha | exact hb | exact hb2 | exact hw | exact hc | exact hv | assumption) rfl ?_
          refine rk_getf fM_208 dM_sumOneChannel_48 (by first | exact ha | exact hb | exact hb2 | exact hw | exact hc | exact hv | assumption) rfl ?_
          refine rk_icmp_ge 139 dM_sumOneChannel_51 (by decide) (fun q_51 => ?_) (fun q_51 => ?_)
          · exact absurd q_51 (nI_ge (by omega) (by omega))
          · refine rk_iload_n dM_sumOneChannel_54 rfl ?_
            refine rk_iload dM_sumOneChannel_55 rfl ?_
            refine rk_aload_n dM_sumOneChannel_57 rfl ?_
            refine rk_getf fM_157 dM_sumOneChannel_58 (by first | exact ha | exact hb | exact hb2 | exact hw | exact hc | exact hv | assumption) rfl ?_
            refine rk_imul dM_sumOneChannel_61 ?_
            refine rk_iload dM_sumOneChannel_62 rfl ?_
            refine rk_iadd dM_sumOneChannel_64 ?_
            refine rk_aload_n dM_sumOneChannel_65 rfl ?_
            refine rk_getf fM_164 dM_sumOneChannel_66 (by first | exact ha | exact hb | exact hb2 | exact hw | exact hc | exact hv | assumption) rfl ?_
            refine rk_imul dM_sumOneChannel_69 ?_
            refine rk_iadd dM_sumOneChannel_70 ?_
            refine rk_iload dM_sumOneChannel_71 rfl ?_
            refine rk_iadd dM_sumOneChannel_73 ?_
            rw [pk_mul, nI_add, pk_mul, nI_add, nI_add, show fr + (i * o.w + j) * o.c + ch = fr + ((i * o.w + j) * o.c + ch) by omega]
            refine rk_istore dM_sumOneChannel_74 (Nat.le_of_ble_eq_true rfl) ?_
            refine rk_iload dM_sumOneChannel_76 rfl ?_
            refine rk_iload dM_sumOneChannel_78 rfl ?_
            refine rk_imul dM_sumOneChannel_80 ?_
            refine rk_iload dM_sumOneChannel_81 rfl ?_
            refine rk_iadd dM_sumOneChannel_83 ?_
            refine rk_aload_n dM_sumOneChannel_84 rfl ?_
            refine rk_getf fM_21 dM_sumOneChannel_85 (by first | exact ha | exact hb | exact hb2 | exact hw | exact hc | exact hv | assumption) rfl ?_
            refine rk_getf fM_211 dM_sumOneChannel_88 (by first | exact ha | exact hb | exact hb2 | exact hw | exact hc | exact hv | assumption) rfl ?_
            refine rk_isub dM_sumOneChannel_91 ?_
            refine rk_iload dM_sumOneChannel_92 rfl ?_
            refine rk_imul dM_sumOneChannel_94 ?_
            refine rk_iload dM_sumOneChannel_95 rfl ?_
            refine rk_iadd dM_sumOneChannel_97 ?_
            refine rk_aload_n dM_sumOneChannel_98 rfl ?_
            refine rk_getf fM_21 dM_sumOneChannel_99 (by first | exact ha | exact hb | exact hb2 | exact hw | exact hc | exact hv | assumption) rfl ?_
            refine rk_getf fM_214 dM_sumOneChannel_102 (by first | exact ha | exact hb | exact hb2 | exact hw | exact hc | exact hv | assumption) rfl ?_
            refine rk_isub dM_sumOneChannel_105 ?_
            rw [pk_mul, nI_add, nI_s3 (show y * g.sp ≤ ch * g.k + i + g.rb by omega), pk_mul, nI_add, nI_s3 (by omega), et]
            refine rk_istore dM_sumOneChannel_106 (Nat.le_of_ble_eq_true rfl) ?_
            refine rk_iload dM_sumOneChannel_108 rfl ?_
            refine rk_aload_n dM_sumOneChannel_110 rfl ?_
            refine rk_getf fM_15 dM_sumOneChannel_111 (by first | exact ha | exact hb | exact hb2 | exact hw | exact hc | exact hv | assumption) rfl ?_
            refine rk_iload dM_sumOneChannel_114 rfl ?_
            refine rk_iald dM_sumOneChannel_116 (by first | exact ha | exact hb | exact hb2 | exact hw | exact hc | exact hv | assumption) (vp_in_nI (show fr + ((i * o.w + j) * o.c + ch) < 1792 by omega) (by omega)) ?_
            rw [nI_clamp (show fr + ((i * o.w + j) * o.c + ch) < 2 ^ 31 by omega)]
            refine rk_aload_n dM_sumOneChannel_117 rfl ?_
            refine rk_getf fM_9 dM_sumOneChannel_118 (by first | exact ha | exact hb | exact hb2 | exact hw | exact hc | exact hv | assumption) rfl ?_
            refine rk_aload_n dM_sumOneChannel_121 rfl ?_
            refine rk_getf fM_217 dM_sumOneChannel_122 (by first | exact ha | exact hb | exact hb2 | exact hw | exact hc | exact hv | assumption) rfl ?_
            refine rk_iload dM_sumOneChannel_125 rfl ?_
            refine rk_iadd dM_sumOneChannel_127 ?_
            rw [nI_add]
            refine rk_iald dM_sumOneChannel_128 (by first | exact ha | exact hb | exact hb2 | exact hw | exact hc | exact hv | assumption) (vp_in_nI (show n.off + w_tap g y x ch i j < 512 by omega) (by omega)) ?_
            rw [nI_clamp (show n.off + w_tap g y x ch i j < 2 ^ 31 by omega)]
            refine rk_imul dM_sumOneChannel_129 ?_
            refine rk_iadd dM_sumOneChannel_130 ?_
            refine rk_istore dM_sumOneChannel_131 (Nat.le_of_ble_eq_true rfl) ?_
            refine rk_iinc dM_sumOneChannel_133 rfl (inc1 j) (Nat.le_of_ble_eq_true rfl) ?_
            refine rk_goto 42 dM_sumOneChannel_136 (by decide) ?_
            refine rk_lv [some (.ref a), some (.ref b), some (.ref b2), some (.int (nI fr)), some (.int (nI ch)), some (.int (nI g.k)), some (.int (s + f (fr + ((i * o.w + j) * o.c + ch)) * wt (n.off + w_tap g y x ch i j))), some (.int (nI i)), some (.int (nI (j + 1))), none, none] ⟨rfl, rfl, rfl, rfl, rfl, rfl, rfl, rfl, rfl, trivial⟩ ?_
            exact ih2 (j + 1) _ (by omega) (by omega)
      refine rk_iload dM_sumOneChannel_21 rfl ?_
      refine rk_aload_n dM_sumOneChannel_23 rfl ?_
      refine rk_getf fM_21 dM_sumOneChannel_24 (by first | exact ha | exact hb | exact hb2 | exact hw | exact hc | exact hv | assumption) rfl ?_
      refine rk_getf fM_202 dM_sumOneChannel_27 (by first | exact ha | exact hb | exact hb2 | exact hw | exact hc | exact hv | assumption) rfl ?_
      refine rk_icmp_ge 145 dM_sumOneChannel_30 (by decide) (fun q_30 => ?_) (fun q_30 => ?_)
      · exact absurd q_30 (nI_ge (by omega) (by omega))
      · refine rk_aload_n dM_sumOneChannel_33 rfl ?_
        refine rk_getf fM_21 dM_sumOneChannel_34 (by first | exact ha | exact hb | exact hb2 | exact hw | exact hc | exact hv | assumption) rfl ?_
        refine rk_getf fM_205 dM_sumOneChannel_37 (by first | exact ha | exact hb | exact hb2 | exact hw | exact hc | exact hv | assumption) rfl ?_
        refine rk_istore dM_sumOneChannel_40 (Nat.le_of_ble_eq_true rfl) ?_
        exact inn (w_c1 g x - w_c0 g x) (w_c0 g x) s (by omega) (by omega)
  refine rk_Con.of [some (.ref a), some (.ref b), some (.ref b2), some (.int (nI fr)), some (.int (nI ch)), none, none, none, none, none, none] rfl (Nat.le_of_ble_eq_true rfl) (by decide +kernel) ?_
  refine rk_aload_n dM_sumOneChannel_0 rfl ?_
  refine rk_getf fM_21 dM_sumOneChannel_1 (by first | exact ha | exact hb | exact hb2 | exact hw | exact hc | exact hv | assumption) rfl ?_
  refine rk_getf fM_171 dM_sumOneChannel_4 (by first | exact ha | exact hb | exact hb2 | exact hw | exact hc | exact hv | assumption) rfl ?_
  refine rk_istore dM_sumOneChannel_7 (Nat.le_of_ble_eq_true rfl) ?_
  refine rk_iconst (v := 0) dM_sumOneChannel_9 (by decide) ?_
  refine rk_istore dM_sumOneChannel_10 (Nat.le_of_ble_eq_true rfl) ?_
  refine rk_aload_n dM_sumOneChannel_12 rfl ?_
  refine rk_getf fM_21 dM_sumOneChannel_13 (by first | exact ha | exact hb | exact hb2 | exact hw | exact hc | exact hv | assumption) rfl ?_
  refine rk_getf fM_199 dM_sumOneChannel_16 (by first | exact ha | exact hb | exact hb2 | exact hw | exact hc | exact hv | assumption) rfl ?_
  refine rk_istore dM_sumOneChannel_19 (Nat.le_of_ble_eq_true rfl) ?_
  exact loop (w_r1 g y - w_r0 g y) (w_r0 g y) 0 (by omega) (by omega)
