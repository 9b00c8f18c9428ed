/-! the reference: run -/
def rX.rn (Y : rX) (f g : Nat → Int32) : rX := (Y.fa, Y.ws, Y.no, Y.ou, Y.cm, Y.sn, Y.pk, Y.an, Y.sz, Y.ss, Y.N, Y.w, f, Y.fe, Y.st, Y.ro, Y.sp, Y.la, Y.pl, g, Y.sh)
theorem rn_fa {Y : rX} {f g : Nat → Int32} : (Y.rn f g).fa = Y.fa := rfl
theorem rn_ws {Y : rX} {f g : Nat → Int32} : (Y.rn f g).ws = Y.ws := rfl
theorem rn_no {Y : rX} {f g : Nat → Int32} : (Y.rn f g).no = Y.no := rfl
theorem rn_ou {Y : rX} {f g : Nat → Int32} : (Y.rn f g).ou = Y.ou := rfl
theorem rn_cm {Y : rX} {f g : Nat → Int32} : (Y.rn f g).cm = Y.cm := rfl
theorem rn_sn {Y : rX} {f g : Nat → Int32} : (Y.rn f g).sn = Y.sn := rfl
theorem rn_pk {Y : rX} {f g : Nat → Int32} : (Y.rn f g).pk = Y.pk := rfl
theorem rn_an {Y : rX} {f g : Nat → Int32} : (Y.rn f g).an = Y.an := rfl
theorem rn_sz {Y : rX} {f g : Nat → Int32} : (Y.rn f g).sz = Y.sz := rfl
theorem rn_ss {Y : rX} {f g : Nat → Int32} : (Y.rn f g).ss = Y.ss := rfl
theorem rn_N {Y : rX} {f g : Nat → Int32} : (Y.rn f g).N = Y.N := rfl
theorem rn_w {Y : rX} {f g : Nat → Int32} : (Y.rn f g).w = Y.w := rfl
theorem rn_fe {Y : rX} {f g : Nat → Int32} : (Y.rn f g).fe = Y.fe := rfl
theorem rn_st {Y : rX} {f g : Nat → Int32} : (Y.rn f g).st = Y.st := rfl
theorem rn_ro {Y : rX} {f g : Nat → Int32} : (Y.rn f g).ro = Y.ro := rfl
theorem rn_sp {Y : rX} {f g : Nat → Int32} : (Y.rn f g).sp = Y.sp := rfl
theorem rn_la {Y : rX} {f g : Nat → Int32} : (Y.rn f g).la = Y.la := rfl
theorem rn_pl {Y : rX} {f g : Nat → Int32} : (Y.rn f g).pl = Y.pl := rfl
theorem rn_sh {Y : rX} {f g : Nat → Int32} : (Y.rn f g).sh = Y.sh := rfl
theorem rn_ce {Y : rX} {f g : Nat → Int32} : (Y.rn f g).ce = f := rfl
theorem rn_ar {Y : rX} {f g : Nat → Int32} : (Y.rn f g).ar = g := rfl
theorem rn_wce {Y : rX} {f g u : Nat → Int32} : (Y.rn f g).wce u = Y.rn u g := rfl
theorem rn_war {Y : rX} {f g u : Nat → Int32} : (Y.rn f g).war u = Y.rn f u := rfl
theorem rn_self {Y : rX} : Y.rn Y.ce Y.ar = Y := rfl
def fdY (Y : rX) (m z : Nat) : Int32 := Y.fe (128 * m + z)
theorem vR_rn {Y : rX} {f g : Nat → Int32} {n j : Nat} : vR (Y.rn f g) n j = vB Y.N Y.w (fdY Y) f n j := by
  have e : ∀ o, caR (Y.rn f g) o = caB Y.N f o := by
    intro o
    funext z
    cases o with
    | none => rfl
    | some a => show (Y.rn f g).ce (128 * stS (Y.rn f g).N a + z) = _; rw [rn_ce, rn_N]; rfl
  unfold vR vB fdY
  rw [e, e, rn_N, rn_w, rn_fe]
theorem stp_s {t j : Nat} {V f : Nat → Int32} : upd (stp t j V f) (t + j) (V j) = stp t (j + 1) V f := by
  funext i
  unfold upd stp
  by_cases h : i = t + j
  · rw [if_pos h, if_pos (by omega), h]
    congr 1
    omega
  · rw [if_neg h]
    by_cases h2 : t ≤ i ∧ i < t + j
    · rw [if_pos h2, if_pos (by omega)]
    · rw [if_neg h2, if_neg (by omega)]
theorem stp_0 {t : Nat} {V f : Nat → Int32} : stp t 0 V f = f := by
  funext i
  exact stp_out (by omega)
/-- one node of the run -/
theorem c_R_node (b : rk_H) (A : Nat → Nat) (Y : rX) (k : rA A) (P : rk_P) (a : Int32) (R : Nat → Nat) (PT : Nat → Option Nat) (n : Nat) (f g : Nat → Int32) (hno : Y.no ≤ 14) (hn : n < Y.no) (hwf : wfN Y.N Y.no) (hS : sfK Y.st (stS Y.N) Y.no) (hR : Y.ro n = nI (R n)) (hR2 : R n ≤ 2) (hw : ∀ z, in8 (Y.w z)) (hpl : R n = 2 → Y.pl n = nI (plN PT n) ∧ plN PT n + (Y.N n).ce ≤ 1792)
    (h8 : R n ≠ 0 → (∀ a, (Y.N n).one = some a → ∀ z, z < (Y.N a).ce → in8 (f (128 * stS Y.N a + z))) ∧ (∀ a, (Y.N n).two = some a → ∀ z, z < (Y.N a).ce → in8 (f (128 * stS Y.N a + z))))
    (nx : rk_Run mR_run (5, 94, 0, 0) P 154 [some (.ref (A 0)), some (.int a), some (.int (nI n)), none, none] [] (rv b A (Y.rn (rnR Y.N Y.w (fdY Y) R PT n (f, g)).1 (rnR Y.N Y.w (fdY Y) R PT n (f, g)).2)) (0, 0)) :
    rk_Run mR_run (5, 94, 0, 0) P 77 [some (.ref (A 0)), some (.int a), some (.int (nI n)), some (.int (nI 0)), none] [] (rv b A (Y.rn f g)) (0, 0) := by
  have hin := wfN.inn hwf
  have hce := (wfN.bd hwf n hn).ce
  have e0 : 0 < nI (R n) ↔ 0 < R n := nI_ltI (a := 0) (by omega) (by omega)
  have e2 : nI (R n) = 2 ↔ R n = 2 := nI_eq (b := 2) (by omega) (by omega)
  by_cases h0 : R n = 0
  · have e : rnR Y.N Y.w (fdY Y) R PT n (f, g) = (f, g) := if_pos h0
    rw [e] at nx
    refine rk_aload_n dR_run_77 rfl ?_
    refine rk_getf fR_67 dR_run_78 k.m rfl ?_
    refine rk_iload_n dR_run_81 rfl ?_
    refine rk_iald dR_run_82 k.ro (vp_in_nI (show n < 14 by omega) (by omega)) ?_
    rw [nI_clamp (show n < 2 ^ 31 by omega), rn_ro, hR]
    refine rk_if_le 154 dR_run_83 (by decide) (fun q_83 => ?_) (fun q_83 => ?_)
    · refine rk_lv [some (.ref (A 0)), some (.int a), some (.int (nI n)), none, none] ⟨rfl, rfl, rfl, trivial⟩ ?_
      exact nx
    · exact absurd (e0.mp (Int32.not_le.mp q_83)) (by omega)
  · have V0 : ∀ j, vOK (Y.rn (stp (128 * n) j (vB Y.N Y.w (fdY Y) f n) f) (if R n = 2 then stp (plN PT n) j (vB Y.N Y.w (fdY Y) f n) g else g)) n := by
      intro j
      unfold vOK
      rw [rn_no, rn_N, rn_st, rn_w, rn_ce]
      have key : ∀ a, a < n → ∀ z, z < (Y.N a).ce → stp (128 * n) j (vB Y.N Y.w (fdY Y) f n) f (128 * stS Y.N a + z) = f (128 * stS Y.N a + z) := fun a ha z hz => by
        have h1 := stS_le hin a (by omega)
        have h2 := (wfN.bd hwf a (by omega)).ce
        exact stp_out (by omega)
      refine ⟨⟨hno, hn, hwf, hS⟩, hw, fun a ha z hz => ?_, fun a ha z hz => ?_⟩
      · rw [key a ((hin n hn).1 a ha) z hz]; exact (h8 h0).1 a ha z hz
      · rw [key a ((hin n hn).2 a ha) z hz]; exact (h8 h0).2 a ha z hz
    have eV : ∀ j i, i < (Y.N n).ce → vR (Y.rn (stp (128 * n) j (vB Y.N Y.w (fdY Y) f n) f) (if R n = 2 then stp (plN PT n) j (vB Y.N Y.w (fdY Y) f n) g else g)) n i = vB Y.N Y.w (fdY Y) f n i := fun j i hi => by
      rw [vR_rn]
      exact vB_frame hwf hn (Nat.le_refl _) hi
    have loop : ∀ (k1 j : Nat), j + k1 = (Y.N n).ce → rk_Run mR_run (5, 94, 0, 0) P 77 [some (.ref (A 0)), some (.int a), some (.int (nI n)), some (.int (nI j)), none] [] (rv b A (Y.rn (stp (128 * n) j (vB Y.N Y.w (fdY Y) f n) f) (if R n = 2 then stp (plN PT n) j (vB Y.N Y.w (fdY Y) f n) g else g))) (0, 0) := by
      intro k1
      induction k1 with
      | zero =>
        intro j hj
        have hj : j = (Y.N n).ce := by omega
        subst hj
        have e : rnR Y.N Y.w (fdY Y) R PT n (f, g) = (stp (128 * n) (Y.N n).ce (vB Y.N Y.w (fdY Y) f n) f, if R n = 2 then stp (plN PT n) (Y.N n).ce (vB Y.N Y.w (fdY Y) f n) g else g) := if_neg h0
        rw [e] at nx
        refine rk_aload_n dR_run_77 rfl ?_
        refine rk_getf fR_67 dR_run_78 k.m rfl ?_
        refine rk_iload_n dR_run_81 rfl ?_
        refine rk_iald dR_run_82 k.ro (vp_in_nI (show n < 14 by omega) (by omega)) ?_
        rw [nI_clamp (show n < 2 ^ 31 by omega), rn_ro, hR]
        refine rk_if_le 154 dR_run_83 (by decide) (fun q_83 => ?_) (fun q_83 => ?_)
        · exact absurd (e0.mpr (by omega)) (Int32.not_lt.mpr q_83)
        · refine rk_iload_n dR_run_86 rfl ?_
          refine rk_aload_n dR_run_87 rfl ?_
          refine rk_iload_n dR_run_88 rfl ?_
          refine rk_cvV (c_R_cells b A _ k n (by omega)) cR_137 dR_run_89 rfl lR_cells (Nat.le_of_ble_eq_true rfl) (Nat.le_of_ble_eq_true rfl) (Nat.le_of_ble_eq_true rfl) (Nat.le_of_ble_eq_true rfl) k.m ?_
          rw [rn_N]
          refine rk_icmp_ge 154 dR_run_92 (by decide) (fun q_92 => ?_) (fun q_92 => ?_)
          · refine rk_lv [some (.ref (A 0)), some (.int a), some (.int (nI n)), none, none] ⟨rfl, rfl, rfl, trivial⟩ ?_
            exact nx
          · exact absurd (nI_le (Nat.le_refl _) (by omega)) q_92
      | succ k1 ih =>
        intro j hj
        have V := V0 j
        have ev := eV j j (by omega)
        have nxt := ih (j + 1) (by omega)
        by_cases h2 : R n = 2
        · obtain ⟨hp1, hp2⟩ := hpl h2
          rw [if_pos h2] at V ev nxt ⊢
          refine rk_aload_n dR_run_77 rfl ?_
          refine rk_getf fR_67 dR_run_78 k.m rfl ?_
          refine rk_iload_n dR_run_81 rfl ?_
          refine rk_iald dR_run_82 k.ro (vp_in_nI (show n < 14 by omega) (by omega)) ?_
          rw [nI_clamp (show n < 2 ^ 31 by omega), rn_ro, hR]
          refine rk_if_le 154 dR_run_83 (by decide) (fun q_83 => (by exact absurd (e0.mpr (by omega)) (Int32.not_lt.mpr q_83))) (fun q_83 => ?_)
          refine rk_iload_n dR_run_86 rfl ?_
          refine rk_aload_n dR_run_87 rfl ?_
          refine rk_iload_n dR_run_88 rfl ?_
          refine rk_cvV (c_R_cells b A _ k n (by omega)) cR_137 dR_run_89 rfl lR_cells (Nat.le_of_ble_eq_true rfl) (Nat.le_of_ble_eq_true rfl) (Nat.le_of_ble_eq_true rfl) (Nat.le_of_ble_eq_true rfl) k.m ?_
          rw [rn_N]
          refine rk_icmp_ge 154 dR_run_92 (by decide) (fun q_92 => (by exact absurd q_92 (nI_ge (by omega) (by omega)))) (fun q_92 => ?_)
          refine rk_aload_n dR_run_95 rfl ?_
          refine rk_getf fR_54 dR_run_96 k.m rfl ?_
          refine rk_sipush (v := 128) dR_run_99 (by decide) ?_
          refine rk_iload_n dR_run_102 rfl ?_
          refine rk_imul dR_run_103 ?_
          refine rk_iload_n dR_run_104 rfl ?_
          refine rk_iadd dR_run_105 ?_
          rw [show (128 : Int32) = nI 128 from rfl, pk_mul, nI_add]
          refine rk_aload_n dR_run_106 rfl ?_
          refine rk_iload_n dR_run_107 rfl ?_
          refine rk_iload_n dR_run_108 rfl ?_
          refine rk_cvV (c_R_value b A _ k n j V (by rw [rn_N]; omega)) cR_229 dR_run_109 rfl lR_value (Nat.le_of_ble_eq_true rfl) (Nat.le_of_ble_eq_true rfl) (Nat.le_of_ble_eq_true rfl) (Nat.le_of_ble_eq_true rfl) k.m ?_
          rw [ev]
          refine rk_iast dR_run_112 k.ce (vp_in_nI (show 128 * n + j < 1792 by omega) (by omega)) ?_
          rw [k.uce]
          rw [nI_clamp (show 128 * n + j < 2 ^ 31 by omega), rn_wce, rn_ce, stp_s]
          refine rk_aload_n dR_run_113 rfl ?_
          refine rk_getf fR_67 dR_run_114 k.m rfl ?_
          refine rk_iload_n dR_run_117 rfl ?_
          refine rk_iald dR_run_118 k.ro (vp_in_nI (show n < 14 by omega) (by omega)) ?_
          rw [nI_clamp (show n < 2 ^ 31 by omega), rn_ro, hR]
          refine rk_iconst (v := 2) dR_run_119 (by decide) ?_
          refine rk_icmp_ne 148 dR_run_120 (by decide) (fun q_120 => (by exact absurd (e2.mpr h2) q_120)) (fun q_120 => ?_)
          refine rk_aload_n dR_run_123 rfl ?_
          refine rk_getf fR_79 dR_run_124 k.m rfl ?_
          refine rk_aload_n dR_run_127 rfl ?_
          refine rk_getf fR_76 dR_run_128 k.m rfl ?_
          refine rk_iload_n dR_run_131 rfl ?_
          refine rk_iald dR_run_132 k.pl (vp_in_nI (show n < 14 by omega) (by omega)) ?_
          rw [nI_clamp (show n < 2 ^ 31 by omega), rn_pl, hp1]
          refine rk_iload_n dR_run_133 rfl ?_
          refine rk_iadd dR_run_134 ?_
          rw [nI_add]
          refine rk_aload_n dR_run_135 rfl ?_
          refine rk_getf fR_54 dR_run_136 k.m rfl ?_
          refine rk_sipush (v := 128) dR_run_139 (by decide) ?_
          refine rk_iload_n dR_run_142 rfl ?_
          refine rk_imul dR_run_143 ?_
          refine rk_iload_n dR_run_144 rfl ?_
          refine rk_iadd dR_run_145 ?_
          rw [show (128 : Int32) = nI 128 from rfl, pk_mul, nI_add]
          refine rk_iald dR_run_146 k.ce (vp_in_nI (show 128 * n + j < 1792 by omega) (by omega)) ?_
          rw [nI_clamp (show 128 * n + j < 2 ^ 31 by omega), rn_ce, stp_in (show j < j + 1 by omega)]
          refine rk_iast dR_run_147 k.ar (vp_in_nI (show plN PT n + j < 1792 by omega) (by omega)) ?_
          rw [k.uar]
          rw [nI_clamp (show plN PT n + j < 2 ^ 31 by omega), rn_war, rn_ar, stp_s]
          refine rk_iinc dR_run_148 rfl (inc1 j) (Nat.le_of_ble_eq_true rfl) ?_
          refine rk_goto 77 dR_run_151 (by decide) ?_
          exact nxt
        · rw [if_neg h2] at V ev nxt ⊢
          refine rk_aload_n dR_run_77 rfl ?_
          refine rk_getf fR_67 dR_run_78 k.m rfl ?_
          refine rk_iload_n dR_run_81 rfl ?_
          refine rk_iald dR_run_82 k.ro (vp_in_nI (show n < 14 by omega) (by omega)) ?_
          rw [nI_clamp (show n < 2 ^ 31 by omega), rn_ro, hR]
          refine rk_if_le 154 dR_run_83 (by decide) (fun q_83 => (by exact absurd (e0.mpr (by omega)) (Int32.not_lt.mpr q_83))) (fun q_83 => ?_)
          refine rk_iload_n dR_run_86 rfl ?_
          refine rk_aload_n dR_run_87 rfl ?_
          refine rk_iload_n dR_run_88 rfl ?_
          refine rk_cvV (c_R_cells b A _ k n (by omega)) cR_137 dR_run_89 rfl lR_cells (Nat.le_of_ble_eq_true rfl) (Nat.le_of_ble_eq_true rfl) (Nat.le_of_ble_eq_true rfl) (Nat.le_of_ble_eq_true rfl) k.m ?_
          rw [rn_N]
          refine rk_icmp_ge 154 dR_run_92 (by decide) (fun q_92 => (by exact absurd q_92 (nI_ge (by omega) (by omega)))) (fun q_92 => ?_)
          refine rk_aload_n dR_run_95 rfl ?_
          refine rk_getf fR_54 dR_run_96 k.m rfl ?_
          refine rk_sipush (v := 128) dR_run_99 (by decide) ?_
          refine rk_iload_n dR_run_102 rfl ?_
          refine rk_imul dR_run_103 ?_
          refine rk_iload_n dR_run_104 rfl ?_
          refine rk_iadd dR_run_105 ?_
          rw [show (128 : Int32) = nI 128 from rfl, pk_mul, nI_add]
          refine rk_aload_n dR_run_106 rfl ?_
          refine rk_iload_n dR_run_107 rfl ?_
          refine rk_iload_n dR_run_108 rfl ?_
          refine rk_cvV (c_R_value b A _ k n j V (by rw [rn_N]; omega)) cR_229 dR_run_109 rfl lR_value (Nat.le_of_ble_eq_true rfl) (Nat.le_of_ble_eq_true rfl) (Nat.le_of_ble_eq_true rfl) (Nat.le_of_ble_eq_true rfl) k.m ?_
          rw [ev]
          refine rk_iast dR_run_112 k.ce (vp_in_nI (show 128 * n + j < 1792 by omega) (by omega)) ?_
          rw [k.uce]
          rw [nI_clamp (show 128 * n + j < 2 ^ 31 by omega), rn_wce, rn_ce, stp_s]
          refine rk_aload_n dR_run_113 rfl ?_
          refine rk_getf fR_67 dR_run_114 k.m rfl ?_
          refine rk_iload_n dR_run_117 rfl ?_
          refine rk_iald dR_run_118 k.ro (vp_in_nI (show n < 14 by omega) (by omega)) ?_
          rw [nI_clamp (show n < 2 ^ 31 by omega), rn_ro, hR]
          refine rk_iconst (v := 2) dR_run_119 (by decide) ?_
          refine rk_icmp_ne 148 dR_run_120 (by decide) (fun q_120 => ?_) (fun q_120 => (by exact absurd (e2.mp q_120) h2))
          refine rk_iinc dR_run_148 rfl (inc1 j) (Nat.le_of_ble_eq_true rfl) ?_
          refine rk_goto 77 dR_run_151 (by decide) ?_
          exact nxt
    have e := loop (Y.N n).ce 0 (Nat.zero_add _)
    rw [stp_0] at e
    by_cases h2 : R n = 2
    · rw [if_pos h2, stp_0] at e; exact e
    · rw [if_neg h2] at e; exact e
