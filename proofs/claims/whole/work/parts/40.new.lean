/-! Node's constructor; Graph.append; TensorForge.keep -/
def nD : List Value := [.int 0, .int 0, .int 0, .int 0, .int 0, .int 0, .int 0, .double 0, .null, .int 0, .int 0, .double 0, .int 0, .int 0, .double 0, .double 0]
def x0 (kd : Nat) (one two : Option Nat) (x y z : Nat) (sc : UInt64) : aN := ((kd, one, two), (x, y, z), (sc, 0), (0, 0), (0, 0))
def fK (kd ce : Nat) : Nat := if kd = 0 then ce else 0
theorem c_N_init (b kd : Nat) (one two : Option Nat) (x y z : Nat) (sc : UInt64) (h : rk_H) (hb : h b = some (oB 2 nD)) (hce : x * y * z ≤ 128) (hk : kd ≤ 10) :
    rk_Con mN_init (1, 18, 1, 128) [.ref b, .int (nI kd), .int (oI one), .int (oI two), .int (nI x), .int (nI y), .int (nI z), .double sc] h (fun r h' => r = .inl none ∧ ∃ q : Nat, h q = none ∧ h' = rk_up (rk_up h q (iA (fK kd (x * y * z)) (fun _ => 0))) b (oB 2 (nL (x0 kd one two x y z sc) q 0 0))) := by
  have e0 : nI kd = 0 ↔ kd = 0 := nI_eq (b := 0) (by omega) (by omega)
  refine rk_Con.of [some (.ref b), some (.int (nI kd)), some (.int (oI one)), some (.int (oI two)), some (.int (nI x)), some (.int (nI y)), some (.int (nI z)), some (.double sc), none] rfl (Nat.le_of_ble_eq_true rfl) (by decide +kernel) ?_
  by_cases hk0 : kd = 0
  · refine rk_aload_n dN_init_0 rfl ?_
    refine rk_objI jN_3 w_obj.1 w_obj.2 dN_init_1 (Nat.le_of_ble_eq_true rfl) (Nat.le_of_ble_eq_true rfl) ?_
    refine rk_aload_n dN_init_4 rfl ?_
    refine rk_iload_n dN_init_5 rfl ?_
    refine rk_putF pN_9 rfl dN_init_6 (by first | exact hb | assumption | (simp only [rk_up_s]; first | exact hb | rfl)) (Nat.le_of_ble_eq_true rfl) rfl rfl ?_
    refine rk_aload_n dN_init_9 rfl ?_
    refine rk_iload_n dN_init_10 rfl ?_
    refine rk_putF pN_15 rfl dN_init_11 (by first | exact hb | assumption | (simp only [rk_up_s]; first | exact hb | rfl)) (Nat.le_of_ble_eq_true rfl) rfl rfl ?_
    refine rk_aload_n dN_init_14 rfl ?_
    refine rk_iload_n dN_init_15 rfl ?_
    refine rk_putF pN_18 rfl dN_init_16 (by first | exact hb | assumption | (simp only [rk_up_s]; first | exact hb | rfl)) (Nat.le_of_ble_eq_true rfl) rfl rfl ?_
    refine rk_aload_n dN_init_19 rfl ?_
    refine rk_iload dN_init_20 rfl ?_
    refine rk_putF pN_21 rfl dN_init_22 (by first | exact hb | assumption | (simp only [rk_up_s]; first | exact hb | rfl)) (Nat.le_of_ble_eq_true rfl) rfl rfl ?_
    refine rk_aload_n dN_init_25 rfl ?_
    refine rk_iload dN_init_26 rfl ?_
    refine rk_putF pN_24 rfl dN_init_28 (by first | exact hb | assumption | (simp only [rk_up_s]; first | exact hb | rfl)) (Nat.le_of_ble_eq_true rfl) rfl rfl ?_
    refine rk_aload_n dN_init_31 rfl ?_
    refine rk_iload dN_init_32 rfl ?_
    refine rk_putF pN_27 rfl dN_init_34 (by first | exact hb | assumption | (simp only [rk_up_s]; first | exact hb | rfl)) (Nat.le_of_ble_eq_true rfl) rfl rfl ?_
    refine rk_aload_n dN_init_37 rfl ?_
    refine rk_dload dN_init_38 rfl ?_
    refine rk_putF pN_30 rfl dN_init_40 (by first | exact hb | assumption | (simp only [rk_up_s]; first | exact hb | rfl)) (Nat.le_of_ble_eq_true rfl) rfl rfl ?_
    refine rk_aload_n dN_init_43 rfl ?_
    refine rk_iload dN_init_44 rfl ?_
    refine rk_iload dN_init_46 rfl ?_
    refine rk_imul dN_init_48 ?_
    refine rk_iload dN_init_49 rfl ?_
    refine rk_imul dN_init_51 ?_
    rw [pk_mul, pk_mul]
    refine rk_putF pN_34 rfl dN_init_52 (by first | exact hb | assumption | (simp only [rk_up_s]; first | exact hb | rfl)) (Nat.le_of_ble_eq_true rfl) rfl rfl ?_
    refine rk_aload_n dN_init_55 rfl ?_
    refine rk_iload_n dN_init_56 rfl ?_
    refine rk_if_ne 67 dN_init_57 (by decide) (fun q_57 => ?_) (fun q_57 => ?_)
    · exact absurd (e0.mpr hk0) q_57
    · refine rk_aload_n dN_init_60 rfl ?_
      refine rk_getf fN_34 dN_init_61 (by first | exact hb | assumption | (simp only [rk_up_s]; first | exact hb | rfl)) rfl ?_
      refine rk_goto 68 dN_init_64 (by decide) ?_
      refine rk_newi (N := x * y * z) rfl w_arr_int (by rfl) (by omega) dN_init_68 (Nat.le_of_ble_eq_true rfl) (show 0 + x * y * z ≤ 128 by omega) (fun a_68 a_68n => ?_)
      have hbq : b ≠ a_68 := rk_ne rk_up_s a_68n
      refine rk_wide (1, 128) (Nat.le_refl _) (show 0 + x * y * z ≤ 128 by omega) ?_
      refine rk_putF pN_37 rfl dN_init_70 (rk_up_k hbq rk_up_s) (Nat.le_of_ble_eq_true rfl) rfl rfl ?_
      exact rk_ret rfl dN_init_73 ⟨(Nat.le_of_ble_eq_true rfl), (Nat.le_of_ble_eq_true rfl)⟩ (⟨rfl, a_68, by simp only [rk_up_up] at a_68n; rw [rk_up_n hbq.symm] at a_68n; exact a_68n, by rw [show fK kd (x * y * z) = x * y * z from if_pos hk0]; simp only [rk_up_up]; rw [rk_up_sw hbq, rk_up_up]; rfl⟩)
  · refine rk_aload_n dN_init_0 rfl ?_
    refine rk_objI jN_3 w_obj.1 w_obj.2 dN_init_1 (Nat.le_of_ble_eq_true rfl) (Nat.le_of_ble_eq_true rfl) ?_
    refine rk_aload_n dN_init_4 rfl ?_
    refine rk_iload_n dN_init_5 rfl ?_
    refine rk_putF pN_9 rfl dN_init_6 (by first | exact hb | assumption | (simp only [rk_up_s]; first | exact hb | rfl)) (Nat.le_of_ble_eq_true rfl) rfl rfl ?_
    refine rk_aload_n dN_init_9 rfl ?_
    refine rk_iload_n dN_init_10 rfl ?_
    refine rk_putF pN_15 rfl dN_init_11 (by first | exact hb | assumption | (simp only [rk_up_s]; first | exact hb | rfl)) (Nat.le_of_ble_eq_true rfl) rfl rfl ?_
    refine rk_aload_n dN_init_14 rfl ?_
    refine rk_iload_n dN_init_15 rfl ?_
    refine rk_putF pN_18 rfl dN_init_16 (by first | exact hb | assumption | (simp only [rk_up_s]; first | exact hb | rfl)) (Nat.le_of_ble_eq_true rfl) rfl rfl ?_
    refine rk_aload_n dN_init_19 rfl ?_
    refine rk_iload dN_init_20 rfl ?_
    refine rk_putF pN_21 rfl dN_init_22 (by first | exact hb | assumption | (simp only [rk_up_s]; first | exact hb | rfl)) (Nat.le_of_ble_eq_true rfl) rfl rfl ?_
    refine rk_aload_n dN_init_25 rfl ?_
    refine rk_iload dN_init_26 rfl ?_
    refine rk_putF pN_24 rfl dN_init_28 (by first | exact hb | assumption | (simp only [rk_up_s]; first | exact hb | rfl)) (Nat.le_of_ble_eq_true rfl) rfl rfl ?_
    refine rk_aload_n dN_init_31 rfl ?_
    refine rk_iload dN_init_32 rfl ?_
    refine rk_putF pN_27 rfl dN_init_34 (by first | exact hb | assumption | (simp only [rk_up_s]; first | exact hb | rfl)) (Nat.le_of_ble_eq_true rfl) rfl rfl ?_
    refine rk_aload_n dN_init_37 rfl ?_
    refine rk_dload dN_init_38 rfl ?_
    refine rk_putF pN_30 rfl dN_init_40 (by first | exact hb | assumption | (simp only [rk_up_s]; first | exact hb | rfl)) (Nat.le_of_ble_eq_true rfl) rfl rfl ?_
    refine rk_aload_n dN_init_43 rfl ?_
    refine rk_iload dN_init_44 rfl ?_
    refine rk_iload dN_init_46 rfl ?_
    refine rk_imul dN_init_48 ?_
    refine rk_iload dN_init_49 rfl ?_
    refine rk_imul dN_init_51 ?_
    rw [pk_mul, pk_mul]
    refine rk_putF pN_34 rfl dN_init_52 (by first | exact hb | assumption | (simp only [rk_up_s]; first | exact hb | rfl)) (Nat.le_of_ble_eq_true rfl) rfl rfl ?_
    refine rk_aload_n dN_init_55 rfl ?_
    refine rk_iload_n dN_init_56 rfl ?_
    refine rk_if_ne 67 dN_init_57 (by decide) (fun q_57 => ?_) (fun q_57 => ?_)
    · refine rk_iconst (v := 0) dN_init_67 (by decide) ?_
      refine rk_newi (N := 0) rfl w_arr_int (by rfl) (by omega) dN_init_68 (Nat.le_of_ble_eq_true rfl) (Nat.le_of_ble_eq_true rfl) (fun a_68 a_68n => ?_)
      have hbq : b ≠ a_68 := rk_ne rk_up_s a_68n
      refine rk_wide (1, 128) (Nat.le_refl _) (show 0 + 0 ≤ 128 by omega) ?_
      refine rk_putF pN_37 rfl dN_init_70 (rk_up_k hbq rk_up_s) (Nat.le_of_ble_eq_true rfl) rfl rfl ?_
      exact rk_ret rfl dN_init_73 ⟨(Nat.le_of_ble_eq_true rfl), (Nat.le_of_ble_eq_true rfl)⟩ (⟨rfl, a_68, by simp only [rk_up_up] at a_68n; rw [rk_up_n hbq.symm] at a_68n; exact a_68n, by rw [show fK kd (x * y * z) = 0 from if_neg hk0]; simp only [rk_up_up]; rw [rk_up_sw hbq, rk_up_up]; rfl⟩)
    · exact absurd (e0.mp q_57) hk0
def gX.wn (X : gX) (n : Nat) : gX := ((n, X.sn, X.pk), X.2)
theorem c_G_append (gb v : Nat) (A : gA) (X : gX) (na : Nat → Option Nat) (l : List Value) (h : rk_H) (hg : h gb = some (oB 0 (gls A X))) (hna : h A.na = some (qA 14 na)) (hv : h v = some (oB 2 l)) (hn : X.n < 14) :
    rk_Con mG_append (0, 0, 0, 0) [.ref gb, .ref v] h (rk_Rv (.int (nI X.n)) (rk_up (rk_up h A.na (qA 14 (va_up na X.n (some v)))) gb (oB 0 (gls A (X.wn (X.n + 1)))))) := by
  have hga : gb ≠ A.na := rk_neq hg hna (by intro q; cases q)
  have hva : v ≠ A.na := rk_neq hv hna (by intro q; cases q)
  refine rk_Con.of [some (.ref gb), some (.ref v), none] rfl (Nat.le_of_ble_eq_true rfl) (by decide +kernel) ?_
  refine rk_aload_n dG_append_0 rfl ?_
  refine rk_getf fG_33 dG_append_1 (by first | exact hg | exact hna | exact hv | assumption | (simp only [rk_up_s, rk_up_n hga, rk_up_n hva]; first | exact hg | exact hna | exact hv | rfl)) rfl ?_
  refine rk_istore_n dG_append_4 (Nat.le_of_ble_eq_true rfl) ?_
  refine rk_aload_n dG_append_5 rfl ?_
  refine rk_getf fG_11 dG_append_6 (by first | exact hg | exact hna | exact hv | assumption | (simp only [rk_up_s, rk_up_n hga, rk_up_n hva]; first | exact hg | exact hna | exact hv | rfl)) rfl ?_
  refine rk_iload_n dG_append_9 rfl ?_
  refine rk_aload_n dG_append_10 rfl ?_
  refine rk_aast (ci := 2) rfl rfl dG_append_11 (by first | exact hg | exact hna | exact hv | assumption | (simp only [rk_up_s, rk_up_n hga, rk_up_n hva]; first | exact hg | exact hna | exact hv | rfl)) (by first | exact hg | exact hna | exact hv | assumption | (simp only [rk_up_s, rk_up_n hga, rk_up_n hva]; first | exact hg | exact hna | exact hv | rfl)) (vp_in_nI hn (by omega)) ?_
  refine rk_aload_n dG_append_12 rfl ?_
  refine rk_dup dG_append_13 rfl ?_
  refine rk_getf fG_33 dG_append_14 (by first | exact hg | exact hna | exact hv | assumption | (simp only [rk_up_s, rk_up_n hga, rk_up_n hva]; first | exact hg | exact hna | exact hv | rfl)) rfl ?_
  refine rk_iconst (v := 1) dG_append_17 (by decide) ?_
  refine rk_iadd dG_append_18 ?_
  rw [show nI X.n + 1 = nI (X.n + 1) from nI_1 _]
  refine rk_putf pG_33 dG_append_19 (by first | exact hg | exact hna | exact hv | assumption | (simp only [rk_up_s, rk_up_n hga, rk_up_n hva]; first | exact hg | exact hna | exact hv | rfl)) (Nat.le_of_ble_eq_true rfl) rfl rfl ?_
  refine rk_iload_n dG_append_22 rfl ?_
  exact rk_iret rfl dG_append_23 ⟨(Nat.le_of_ble_eq_true rfl), (Nat.le_of_ble_eq_true rfl)⟩ (⟨rfl, by rw [nI_clamp (show X.n < 2 ^ 31 by omega)]; rfl⟩)
theorem c_T_keep (C : cT) (s : aS) (v : Nat) (X : gX) (l : List Value) (h : rk_H) (ha : h C.a = some (oB 5 (tls C s.ws s.out s.comp))) (hg : h C.gb = some (oB 0 (gls C.A X))) (hna : h C.A.na = some (qA 14 C.na)) (hv : h v = some (oB 2 l)) (hn : X.n < 14) :
    rk_Con mT_keep (1, 14, 0, 0) [.ref C.a, .ref v] h (rk_Rv (.int (nI X.n)) (rk_up (rk_up (rk_up h C.a (oB 5 (tls C s.ws s.out false))) C.A.na (qA 14 (va_up C.na X.n (some v)))) C.gb (oB 0 (gls C.A (X.wn (X.n + 1)))))) := by
  have h1 : C.gb ≠ C.a := rk_neq hg ha (by intro q; cases q)
  have h2 : C.A.na ≠ C.a := rk_neq hna ha (by intro q; cases q)
  have h3 : v ≠ C.a := rk_neq hv ha (by intro q; cases q)
  refine rk_Con.of [some (.ref C.a), some (.ref v)] rfl (Nat.le_of_ble_eq_true rfl) (by decide +kernel) ?_
  refine rk_aload_n dT_keep_0 rfl ?_
  refine rk_iconst (v := 0) dT_keep_1 (by decide) ?_
  refine rk_putf pT_31 dT_keep_2 (by first | exact ha | exact hg | exact hna | exact hv | assumption | (simp only [rk_up_s, rk_up_n h1, rk_up_n h2, rk_up_n h3]; first | exact ha | exact hg | exact hna | exact hv | rfl)) (Nat.le_of_ble_eq_true rfl) rfl rfl ?_
  refine rk_aload_n dT_keep_5 rfl ?_
  refine rk_getf fT_12 dT_keep_6 (by first | exact ha | exact hg | exact hna | exact hv | assumption | (simp only [rk_up_s, rk_up_n h1, rk_up_n h2, rk_up_n h3]; first | exact ha | exact hg | exact hna | exact hv | rfl)) rfl ?_
  refine rk_aload_n dT_keep_9 rfl ?_
  refine rk_cvV (c_G_append C.gb v C.A X C.na l _ (rk_up_k h1 hg) (rk_up_k h2 hna) (rk_up_k h3 hv) hn) cT_214 dT_keep_10 rfl lG_append (Nat.le_of_ble_eq_true rfl) (Nat.le_of_ble_eq_true rfl) (Nat.le_of_ble_eq_true rfl) (Nat.le_of_ble_eq_true rfl) (by first | exact ha | exact hg | exact hna | exact hv | assumption | (simp only [rk_up_s, rk_up_n h1, rk_up_n h2, rk_up_n h3]; first | exact ha | exact hg | exact hna | exact hv | rfl)) ?_
  exact rk_iret rfl dT_keep_13 ⟨(Nat.le_of_ble_eq_true rfl), (Nat.le_of_ble_eq_true rfl)⟩ (⟨rfl, rfl⟩)
theorem c_T_wratio (C : cT) (s : aS) (b : Nat) (x : aN) (fe : Nat) (ra ro sc : UInt64) (h : rk_H) (ha : h C.a = some (oB 5 (tls C s.ws s.out s.comp))) (hb : h b = some (oB 2 (nL x fe ra ro))) (n1 : vf_n64 (FP.dmul x.sc s.ws)) (n2 : vf_n64 (FP.ddiv (FP.dmul x.sc s.ws) sc)) :
    rk_Con mT_weightedRatio (0, 0, 0, 0) [.ref C.a, .ref b, .double sc] h (rk_Rv (.double (FP.ddiv (FP.dmul x.sc s.ws) sc)) h) := by
  refine rk_Con.of [some (.ref C.a), some (.ref b), some (.double sc), none] rfl (Nat.le_of_ble_eq_true rfl) (by decide +kernel) ?_
  refine rk_aload_n dT_weightedRatio_0 rfl ?_
  refine rk_getf fT_129 dT_weightedRatio_1 (by first | exact ha | exact hb | assumption) rfl ?_
  refine rk_aload_n dT_weightedRatio_4 rfl ?_
  refine rk_getf fT_23 dT_weightedRatio_5 (by first | exact ha | exact hb | assumption) rfl ?_
  refine rk_dmul dT_weightedRatio_8 n1 ?_
  refine rk_dload_n dT_weightedRatio_9 rfl ?_
  refine rk_ddiv dT_weightedRatio_10 n2 ?_
  exact rk_dret rfl dT_weightedRatio_11 ⟨(Nat.le_of_ble_eq_true rfl), (Nat.le_of_ble_eq_true rfl)⟩ (⟨rfl, rfl⟩)
/-! a node more -/
def cT.push (C : cT) (n b q : Nat) : cT := (C.1, C.2.1, C.M, (va_up C.na n (some b), va_up C.ad n b, va_up C.fe n q), C.F)
theorem ratA_congr {N N' : Nat → aN} {i : Nat} (h : ∀ j, j ≤ i → N' j = N j) (h1 : ∀ a, (N i).one = some a → a < i) : ratA N' i = ratA N i := by
  have e : scO N' (N i).one = scO N (N i).one := by
    cases ho : (N i).one with
    | none => rfl
    | some a => show (N' a).sc = (N a).sc; rw [h a (Nat.le_of_lt (h1 a ho))]
  unfold ratA
  rw [h i (Nat.le_refl _), e]
theorem ratB_congr {N N' : Nat → aN} {i : Nat} (h : ∀ j, j ≤ i → N' j = N j) (h1 : ∀ a, (N i).two = some a → a < i) : ratB N' i = ratB N i := by
  have e : scO N' (N i).two = scO N (N i).two := by
    cases ho : (N i).two with
    | none => rfl
    | some a => show (N' a).sc = (N a).sc; rw [h a (Nat.le_of_lt (h1 a ho))]
  unfold ratB
  rw [h i (Nat.le_refl _), e]
theorem cOK.push {h : rk_H} {C : cT} {s : aS} (k : cOK h C s) (hin : inOK s.N s.n) (hn : s.n < 14) (X : gX) (hX : X.n = s.n) (hg : gIs h C.gb C.A X) (b q : Nat) (x : aN) (hb : h b = none) (hq : h q = none) (hbq : b ≠ q) (hce : x.ce ≤ 128) :
    cOK (rk_up (rk_up (rk_up (rk_up (rk_up h q (iA (fK x.kd x.ce) (fun _ => 0))) b (oB 2 (nL x q (ratA (updN s.N s.n x) s.n) (ratB (updN s.N s.n x) s.n)))) C.a (oB 5 (tls C s.ws s.out false))) C.A.na (qA 14 (va_up C.na X.n (some b)))) C.gb (oB 0 (gls C.A (X.wn (X.n + 1))))) (C.push s.n b q) (s.push x) ∧
    frm h C s.n (rk_up (rk_up (rk_up (rk_up (rk_up h q (iA (fK x.kd x.ce) (fun _ => 0))) b (oB 2 (nL x q (ratA (updN s.N s.n x) s.n) (ratB (updN s.N s.n x) s.n)))) C.a (oB 5 (tls C s.ws s.out false))) C.A.na (qA 14 (va_up C.na X.n (some b)))) C.gb (oB 0 (gls C.A (X.wn (X.n + 1))))) (C.push s.n b q) (s.n + 1) := by
  have kc := k
  obtain ⟨⟨k1, ⟨⟨m1, m2⟩, ⟨⟨w0, m3⟩, ⟨x1, x2, m4⟩, ⟨x3, x4, m5⟩, f0, m6⟩, m7⟩, ⟨⟨-, gn⟩, ⟨g7, g8⟩, g9⟩, k4⟩, ⟨k5, k6⟩, k7, k8⟩ := k
  obtain ⟨g1, g2, g3, g4, g5, g6⟩ := hg
  have hba : b ≠ C.a := Ne.symm (rk_ne k1 hb)
  have hbn : b ≠ C.A.na := Ne.symm (rk_ne g7 hb)
  have hbg : b ≠ C.gb := Ne.symm (rk_ne g1 hb)
  have hqa : q ≠ C.a := Ne.symm (rk_ne k1 hq)
  have hqn : q ≠ C.A.na := Ne.symm (rk_ne g7 hq)
  have hqg : q ≠ C.gb := Ne.symm (rk_ne g1 hq)
  have hag : C.a ≠ C.gb := rk_neq k1 g1 (by intro q; cases q)
  have han : C.a ≠ C.A.na := rk_neq k1 g7 (by intro q; cases q)
  have hng : C.A.na ≠ C.gb := rk_neq g7 g1 (by intro q; cases q)
  rw [hX]
  have up : ∀ (z : Nat) (e : rk_E), h z = some e → (∀ l, e ≠ oB 5 l) → (∀ l, e ≠ oB 0 l) → (∀ f, e ≠ qA 14 f) → rk_up (rk_up (rk_up (rk_up (rk_up h q (iA (fK x.kd x.ce) (fun _ => 0))) b (oB 2 (nL x q (ratA (updN s.N s.n x) s.n) (ratB (updN s.N s.n x) s.n)))) C.a (oB 5 (tls C s.ws s.out false))) C.A.na (qA 14 (va_up C.na s.n (some b)))) C.gb (oB 0 (gls C.A (X.wn (s.n + 1)))) z = some e := by
    intro z e hz n5 n0 nq
    exact rk_up_k (rk_neq hz g1 (n0 _)) (rk_up_k (rk_neq hz g7 (nq _)) (rk_up_k (rk_neq hz k1 (n5 _)) (rk_up_k (rk_ne hz hb) (rk_up_k (rk_ne hz hq) hz))))
  have u5 : ∀ {n : Nat} {f : Nat → Int32} (l : List Value), iA n f ≠ oB 5 l := by intro n f l q; cases q
  have u0 : ∀ {n : Nat} {f : Nat → Int32} (l : List Value), iA n f ≠ oB 0 l := by intro n f l q; cases q
  have uq : ∀ {n : Nat} {f : Nat → Int32} (g : Nat → Option Nat), iA n f ≠ qA 14 g := by intro n f l q; cases q
  have v5 : ∀ {c : Nat} {l' : List Value} (hc : c ≠ 5) (l : List Value), oB c l' ≠ oB 5 l := by intro c l' hc l q; cases q; exact hc rfl
  have v0 : ∀ {c : Nat} {l' : List Value} (hc : c ≠ 0) (l : List Value), oB c l' ≠ oB 0 l := by intro c l' hc l q; cases q; exact hc rfl
  have vq : ∀ {c : Nat} {l' : List Value} (g : Nat → Option Nat), oB c l' ≠ qA 14 g := by intro c l' l q; cases q
  have updl : ∀ j, j < s.n → updN s.N s.n x j = s.N j := fun j hj => if_neg (by omega)
  have updn : updN s.N s.n x s.n = x := if_pos rfl
  have adl : ∀ j, j < s.n → (C.push s.n b q).ad j = C.ad j := fun j hj => if_neg (by omega)
  have adn : (C.push s.n b q).ad s.n = b := if_pos rfl
  have fel : ∀ j, j < s.n → (C.push s.n b q).fe j = C.fe j := fun j hj => if_neg (by omega)
  have fen : (C.push s.n b q).fe s.n = q := if_pos rfl
  have nal : ∀ j, j < s.n → (C.push s.n b q).na j = C.na j := fun j hj => if_neg (by omega)
  have nan : (C.push s.n b q).na s.n = some b := if_pos rfl
  have nll : ∀ j, j < s.n → nLi (updN s.N s.n x) (C.push s.n b q).fe j = nLi s.N C.fe j := by
    intro j hj
    unfold nLi
    rw [updl j hj, fel j hj, ratA_congr (fun z hz => updl z (by omega)) (hin j hj).1, ratB_congr (fun z hz => updl z (by omega)) (hin j hj).2]
  refine ⟨⟨⟨?_, ⟨⟨up _ _ m1 (v5 (by decide)) (v0 (by decide)) vq, up _ _ m2 u5 u0 uq⟩, ⟨⟨w0, up _ _ m3 (v5 (by decide)) (v0 (by decide)) vq⟩, ⟨x1, x2, up _ _ m4 (v5 (by decide)) (v0 (by decide)) vq⟩, ⟨x3, x4, up _ _ m5 (v5 (by decide)) (v0 (by decide)) vq⟩, f0, up _ _ m6 u5 u0 uq⟩, m7⟩, ⟨⟨⟨X.wn (s.n + 1), rfl, rk_up_s, up _ _ g2 u5 u0 uq, up _ _ g3 u5 u0 uq, up _ _ g4 u5 u0 uq, up _ _ g5 u5 u0 uq, up _ _ g6 u5 u0 uq⟩, hn⟩, ⟨rk_up_k hng rk_up_s, ?_⟩, g9⟩, ?_⟩, ⟨up _ _ k5 u5 u0 uq, k6⟩, ⟨?_, ?_⟩, fun hc => by cases hc⟩, rfl, ?_, ?_⟩
  · exact rk_up_k hag (rk_up_k han rk_up_s)
  · intro i hi
    by_cases hin2 : i = s.n
    · subst hin2
      refine ⟨by rw [nan, adn], ?_⟩
      rw [adn]
      refine rk_up_k hbg (rk_up_k hbn (rk_up_k hba ?_))
      rw [rk_up_s]
      show some (oB 2 (nL x q _ _)) = some (oB 2 (nL (updN s.N s.n x s.n) ((C.push s.n b q).fe s.n) _ _))
      rw [updn, fen]
      rfl
    · have hi2 : i < s.n := by have : i < s.n + 1 := hi; omega
      refine ⟨by rw [nal i hi2, adl i hi2]; exact (g8 i hi2).1, ?_⟩
      rw [adl i hi2]
      show _ = some (oB 2 (nLi (updN s.N s.n x) (C.push s.n b q).fe i))
      rw [nll i hi2]
      exact up _ _ (g8 i hi2).2 (v5 (by decide)) (v0 (by decide)) vq
  · intro i hi hk
    by_cases hin2 : i = s.n
    · subst hin2
      have hk : x.kd = 0 := by rw [← updn]; exact hk
      rw [fen]
      show _ = some (iA (updN s.N s.n x s.n).ce (if s.n = s.n then fun _ => 0 else s.fd s.n))
      rw [updn, if_pos rfl]
      refine rk_up_k hqg (rk_up_k hqn (rk_up_k hqa (rk_up_k hbq.symm ?_)))
      rw [rk_up_s, show fK x.kd x.ce = x.ce from if_pos hk]
    · have hi2 : i < s.n := by have : i < s.n + 1 := hi; omega
      have hk : (s.N i).kd = 0 := by rw [← updl i hi2]; exact hk
      rw [fel i hi2]
      show _ = some (iA (updN s.N s.n x i).ce (if i = s.n then fun _ => 0 else s.fd i))
      rw [updl i hi2, if_neg hin2]
      exact up _ _ (k4 i hi2 hk) u5 u0 uq
  · intro i j hi hj hki hkj hij
    have old : ∀ j, j < s.n → (s.N j).kd = 0 → C.fe j ≠ q := fun j hj hk => rk_ne (k4 j hj hk) hq
    by_cases hi2 : i = s.n
    · subst hi2
      have hj2 : j < s.n := by have : j < s.n + 1 := hj; omega
      rw [fen, fel j hj2]
      exact Ne.symm (old j hj2 (by rw [← updl j hj2]; exact hkj))
    · have hi2 : i < s.n := by have : i < s.n + 1 := hi; omega
      rw [fel i hi2]
      by_cases hj2 : j = s.n
      · subst hj2
        rw [fen]
        exact old i hi2 (by rw [← updl i hi2]; exact hki)
      · have hj2 : j < s.n := by have : j < s.n + 1 := hj; omega
        rw [fel j hj2]
        exact k7.1 i j hi2 hj2 (by rw [← updl i hi2]; exact hki) (by rw [← updl j hj2]; exact hkj) hij
  · intro i hi hk
    by_cases hi2 : i = s.n
    · subst hi2
      rw [fen]
      exact ⟨Ne.symm (rk_ne g2 hq), Ne.symm (rk_ne g3 hq), Ne.symm (rk_ne g4 hq), Ne.symm (rk_ne g5 hq), Ne.symm (rk_ne g6 hq)⟩
    · have hi2 : i < s.n := by have : i < s.n + 1 := hi; omega
      rw [fel i hi2]
      exact k7.2 i hi2 (by rw [← updl i hi2]; exact hk)
  · intro z e hz ho
    exact rk_up_k (fun e => ho (by rw [e]; exact own.gb)) (rk_up_k (fun e => ho (by rw [e]; exact own.na)) (rk_up_k (fun e => ho (by rw [e]; exact own.a)) (rk_up_k (rk_ne hz hb) (rk_up_k (rk_ne hz hq) hz))))
  · intro z hz
    rcases hz with hz | hz | hz | ⟨i, hi, hz⟩
    · exact Or.inl (Or.inl hz)
    · exact Or.inl (Or.inr (Or.inl hz))
    · exact Or.inl (Or.inr (Or.inr (Or.inl hz)))
    · by_cases hi2 : i = s.n
      · subst hi2
        rw [adn, fen] at hz
        rcases hz with rfl | rfl
        · exact Or.inr hb
        · exact Or.inr hq
      · have hi2 : i < s.n := by omega
        rw [adl i hi2, fel i hi2] at hz
        exact Or.inl (Or.inr (Or.inr (Or.inr ⟨i, hi2, hz⟩)))
theorem new_sw {h : rk_H} {b q : Nat} {e0 e1 e2 : rk_E} (hbq : b ≠ q) : rk_up (rk_up (rk_up h b e0) q e1) b e2 = rk_up (rk_up h q e1) b e2 := by rw [rk_up_sw hbq, rk_up_up]
theorem new_fr {h : rk_H} {b q : Nat} {e0 : rk_E} (hq : rk_up h b e0 q = none) : b ≠ q ∧ h q = none := by
  have h1 : b ≠ q := rk_ne rk_up_s hq
  rw [rk_up_n h1.symm] at hq
  exact ⟨h1, hq⟩
/-- codes of the calls that make a node -/
def mk2 (s : aS) (g : Bool) (x : aN) : oR := if g = true then (if s.n = 14 then (2, none, s) else (0, some (.int (nI s.n)), s.push x)) else (1, none, s)
def mk3 (s : aS) (g r : Bool) (x : aN) : oR := if g = true then (if r = true then (if s.n = 14 then (3, none, s) else (0, some (.int (nI s.n)), s.push x)) else (2, none, s)) else (1, none, s)
def opInput (s : aS) (x y z : Int32) (sc : UInt64) : oR := mk2 s (btB x 1 4 && btB y 1 4 && btB z 1 8 && dsB sc) (x0 0 none none (tN x) (tN y) (tN z) sc)
def opReshape (s : aS) (p x y z : Int32) : oR := mk2 s (ndB s p && (btB x 1 4 && btB y 1 4 && btB z 1 8) && decide (x * y * z = nI (s.N (tN p)).ce)) (x0 6 (some (tN p)) none (tN x) (tN y) (tN z) (s.N (tN p)).sc)
def opClamp (s : aS) (p lo hi : Int32) : oR := mk2 s (ndB s p && btB hi (-128) 127 && btB lo (-128) hi) ((9, some (tN p), none), ((s.N (tN p)).h, (s.N (tN p)).w, (s.N (tN p)).c), ((s.N (tN p)).sc, 0), (0, 0), (lo, hi))
def opConcat (s : aS) (p q : Int32) : oR := mk2 s (ndB s p && ndB s q && (decide ((s.N (tN p)).h = (s.N (tN q)).h) && decide ((s.N (tN p)).w = (s.N (tN q)).w) && decide ((s.N (tN p)).sc = (s.N (tN q)).sc)) && decide ((s.N (tN p)).c + (s.N (tN q)).c ≤ 8)) (x0 5 (some (tN p)) (some (tN q)) (s.N (tN p)).h (s.N (tN p)).w ((s.N (tN p)).c + (s.N (tN q)).c) (s.N (tN p)).sc)
def opPool (s : aS) (p code avg : Int32) : oR := mk2 s (ndB s p && btB code 0 11 && (z_fit (tN code) (s.N (tN p)).h && z_fit (tN code) (s.N (tN p)).w)) ((if avg = 0 then 7 else 8, some (tN p), none), (z_plc (tN code) (s.N (tN p)).h, z_plc (tN code) (s.N (tN p)).w, (s.N (tN p)).c), ((s.N (tN p)).sc, 0), (tN code, 0), (0, 0))
def opRescale (s : aS) (p : Int32) (sc : UInt64) : oR := mk3 s (ndB s p && dsB sc) (d_good (FP.ddiv (s.N (tN p)).sc sc)) (x0 10 (some (tN p)) none (s.N (tN p)).h (s.N (tN p)).w (s.N (tN p)).c sc)
def opAdd (s : aS) (p q : Int32) (sc : UInt64) : oR := mk3 s (ndB s p && ndB s q && dsB sc && shq (s.N (tN q)) (s.N (tN p))) (d_good (FP.ddiv (s.N (tN p)).sc sc) && d_good (FP.ddiv (s.N (tN q)).sc sc)) (x0 4 (some (tN p)) (some (tN q)) (s.N (tN p)).h (s.N (tN p)).w (s.N (tN p)).c sc)
def opDense (s : aS) (p d off : Int32) (sc : UInt64) : oR := mk3 s (ndB s p && btB d 1 8 && dsB sc && btB off 0 (512 - d * nI (s.N (tN p)).ce - d)) (d_good (FP.ddiv (FP.dmul (s.N (tN p)).sc s.ws) sc)) ((3, some (tN p), none), (1, 1, tN d), (sc, s.ws), (0, tN off), (0, 0))
/-- the window's code, channels, weights for each channel -/
def wCo (code : Int32) : Nat := tN code % 12
def wCh (x : aN) (code dw : Int32) : Nat := if dw = 0 then tN code / 12 else x.c
def wPc (x : aN) (code dw : Int32) : Nat := z_size (wCo code) * z_size (wCo code) * (if dw = 0 then x.c else 1)
def opWindows (s : aS) (p code dw off : Int32) (sc : UInt64) : oR := mk3 s (ndB s p && (if dw = 0 then btB code 12 107 else btB code 0 11) && dsB sc && (z_fit (wCo code) (s.N (tN p)).h && z_fit (wCo code) (s.N (tN p)).w) && btB off 0 (512 - nI (wCh (s.N (tN p)) code dw) * nI (wPc (s.N (tN p)) code dw) - nI (wCh (s.N (tN p)) code dw)))
  (d_good (FP.ddiv (FP.dmul (s.N (tN p)).sc s.ws) sc)) ((if dw = 0 then 1 else 2, some (tN p), none), (z_plc (wCo code) (s.N (tN p)).h, z_plc (wCo code) (s.N (tN p)).w, wCh (s.N (tN p)) code dw), (sc, s.ws), (wCo code, tN off), (0, 0))
theorem w_fits_n {co l : Nat} (hc : co < 2 ^ 31) (hl : l < 2 ^ 31) : w_fits (nI co) (nI l) = z_fit co l := by
  unfold w_fits w_same z_fit
  rw [z_size_i hc, show (decide (6 ≤ nI co)) = decide (6 ≤ co) by rw [decide_eq_decide]; exact nI_leI (a := 6) (by omega) hc, show decide (nI (z_size co) ≤ nI l) = decide (z_size co ≤ l) by rw [decide_eq_decide]; exact nI_leI (by unfold z_size; omega) hl]
theorem z_step_or (co : Nat) : z_step co = 1 ∨ z_step co = 2 := by unfold z_step; omega
theorem w_plc_n {co l : Nat} (hc : co < 2 ^ 31) (hl : l < 100) (h1 : 1 ≤ l) (hf : z_fit co l = true) : w_plc (nI co) (nI l) = nI (z_plc co l) := by
  have hw : w_way (nI co) (nI l) = nI (z_way co l) := by
    unfold w_way z_way w_same
    rw [show (decide (6 ≤ nI co)) = decide (6 ≤ co) by rw [decide_eq_decide]; exact nI_leI (a := 6) (by omega) hc]
    by_cases h6 : 6 ≤ co
    · rw [if_pos (decide_eq_true h6), if_pos h6, show (1 : Int32) = nI 1 from rfl, pk_sub h1]
    · rw [if_neg (by rw [decide_eq_false h6]; decide), if_neg h6, z_size_i hc]
      unfold z_fit at hf
      rw [decide_eq_false h6, Bool.false_or, decide_eq_true_eq] at hf
      rw [pk_sub hf]
  have hwl : z_way co l < 100 := by unfold z_way; split <;> omega
  unfold w_plc z_plc
  rw [hw, z_step_i hc, show (1 : Int32) = nI 1 from rfl]
  rcases z_step_or co with h | h
  · rw [h, if_neg (by decide), if_neg (by decide), nI_add]
  · rw [h, if_pos (show nI 2 = 2 from rfl), if_pos rfl, show (2 : Int32) = nI 2 from rfl, pk_div (by omega) (by omega) (by omega), nI_add]
theorem z_plc_ok {co l : Nat} (h1 : 1 ≤ l) (hf : z_fit co l = true) : (z_plc co l - 1) * z_step co < l ∧ 1 ≤ z_plc co l ∧ z_plc co l ≤ l := by
  have hwl : z_way co l < l := by
    unfold z_way
    split
    · omega
    · have : 1 ≤ z_size co := by unfold z_size; omega
      omega
  unfold z_plc
  rcases z_step_or co with h | h
  · rw [h, if_neg (by decide)]; omega
  · rw [h, if_pos rfl]; omega
