/-! the reference: make, finish -/
theorem wN_N {X : rX} {v : Nat → aN} : (X.wN v).N = v := rfl
theorem wN_wN {X : rX} {v w : Nat → aN} : (X.wN v).wN w = X.wN w := rfl
theorem wfe_wfe {X : rX} {f g : Nat → Int32} : (X.wfe f).wfe g = X.wfe g := rfl
theorem wfe_fe {X : rX} : X.wfe X.fe = X := rfl
theorem wfe_of {X : rX} {f : Nat → Int32} (h : X.fe = f) : X.wfe f = X := by rw [← h]; rfl
theorem wN_no {X : rX} {v : Nat → aN} : (X.wN v).no = X.no := rfl
def kWs (kd : Nat) (ws : UInt64) : UInt64 := if 1 ≤ kd ∧ kd ≤ 3 then ws else 0
def xM (kd : Nat) (one two : Option Nat) (x y z : Nat) (sc ws : UInt64) (old : aN) : aN := ((kd, one, two), (x, y, z), (sc, kWs kd ws), (0, old.off), (old.lo, old.hi))
theorem c_R_make (b : rk_H) (A : Nat → Nat) (X : rX) (k : rA A) (kd : Nat) (one two : Option Nat) (x y z : Nat) (sc : UInt64) (hn : X.no < 14) (hk : kd ≤ 10) : rk_Con mR_make (0, 0, 0, 0) [.ref (A 0), .int (nI kd), .int (oI one), .int (oI two), .int (nI x), .int (nI y), .int (nI z), .double sc] (rv b A X) (rk_Rv (.int (nI X.no)) (rv b A (X.wN (updN X.N X.no (xM kd one two x y z sc X.ws (X.N X.no)))))) := by
  have e1 : nI kd < 1 ↔ kd < 1 := nI_ltI (b := 1) (by omega) (by omega)
  have e3 : 3 < nI kd ↔ 3 < kd := nI_ltI (a := 3) (by omega) (by omega)
  have hin := vp_in_nI hn (show 14 < 2 ^ 31 by omega)
  refine rk_Con.of [some (.ref (A 0)), some (.int (nI kd)), some (.int (oI one)), some (.int (oI two)), some (.int (nI x)), some (.int (nI y)), some (.int (nI z)), some (.double sc), none, none] rfl (Nat.le_of_ble_eq_true rfl) (by decide +kernel) ?_
  refine rk_aload_n dR_make_0 rfl ?_
  refine rk_getf fR_106 dR_make_1 k.m rfl ?_
  refine rk_istore dR_make_4 (Nat.le_of_ble_eq_true rfl) ?_
  refine rk_aload_n dR_make_6 rfl ?_
  refine rk_getf fR_17 dR_make_7 k.m rfl ?_
  refine rk_iload dR_make_10 rfl ?_
  refine rk_iload_n dR_make_12 rfl ?_
  refine rk_iast dR_make_13 k.kd (by first | exact hin | assumption) ?_
  rw [nI_clamp (show X.no < 2 ^ 31 by omega),k.tkd]
  refine rk_aload_n dR_make_14 rfl ?_
  refine rk_getf fR_20 dR_make_15 k.m rfl ?_
  refine rk_iload dR_make_18 rfl ?_
  refine rk_iload_n dR_make_20 rfl ?_
  refine rk_iast dR_make_21 k.on (by first | exact hin | assumption) ?_
  rw [nI_clamp (show X.no < 2 ^ 31 by omega),k.ton]
  refine rk_aload_n dR_make_22 rfl ?_
  refine rk_getf fR_23 dR_make_23 k.m rfl ?_
  refine rk_iload dR_make_26 rfl ?_
  refine rk_iload_n dR_make_28 rfl ?_
  refine rk_iast dR_make_29 k.tw (by first | exact hin | assumption) ?_
  rw [nI_clamp (show X.no < 2 ^ 31 by omega),k.ttw]
  refine rk_aload_n dR_make_30 rfl ?_
  refine rk_getf fR_26 dR_make_31 k.m rfl ?_
  refine rk_iload dR_make_34 rfl ?_
  refine rk_iload dR_make_36 rfl ?_
  refine rk_iast dR_make_38 k.hi (by first | exact hin | assumption) ?_
  rw [nI_clamp (show X.no < 2 ^ 31 by omega),k.thi]
  refine rk_aload_n dR_make_39 rfl ?_
  refine rk_getf fR_29 dR_make_40 k.m rfl ?_
  refine rk_iload dR_make_43 rfl ?_
  refine rk_iload dR_make_45 rfl ?_
  refine rk_iast dR_make_47 k.wi (by first | exact hin | assumption) ?_
  rw [nI_clamp (show X.no < 2 ^ 31 by omega),k.twi]
  refine rk_aload_n dR_make_48 rfl ?_
  refine rk_getf fR_32 dR_make_49 k.m rfl ?_
  refine rk_iload dR_make_52 rfl ?_
  refine rk_iload dR_make_54 rfl ?_
  refine rk_iast dR_make_56 k.de (by first | exact hin | assumption) ?_
  rw [nI_clamp (show X.no < 2 ^ 31 by omega),k.tde]
  refine rk_aload_n dR_make_57 rfl ?_
  refine rk_getf fR_35 dR_make_58 k.m rfl ?_
  refine rk_iload dR_make_61 rfl ?_
  refine rk_dload dR_make_63 rfl ?_
  refine rk_dast dR_make_65 k.sc (by first | exact hin | assumption) ?_
  rw [nI_clamp (show X.no < 2 ^ 31 by omega),k.tsc]
  simp only [wN_N, wN_wN, updN_at, updN_up]
  by_cases hw : 1 ≤ kd ∧ kd ≤ 3
  · refine rk_aload_n dR_make_66 rfl ?_
    refine rk_getf fR_39 dR_make_67 k.m rfl ?_
    refine rk_iload dR_make_70 rfl ?_
    refine rk_iload_n dR_make_72 rfl ?_
    refine rk_iconst (v := 1) dR_make_73 (by decide) ?_
    refine rk_icmp_lt 89 dR_make_74 (by decide) (fun q_74 => (by exact absurd (e1.mp q_74) (by omega))) (fun q_74 => ?_)
    refine rk_iload_n dR_make_77 rfl ?_
    refine rk_iconst (v := 3) dR_make_78 (by decide) ?_
    refine rk_icmp_gt 89 dR_make_79 (by decide) (fun q_79 => (by exact absurd (e3.mp q_79) (by omega))) (fun q_79 => ?_)
    refine rk_aload_n dR_make_82 rfl ?_
    refine rk_getf fR_13 dR_make_83 k.m rfl ?_
    refine rk_goto 90 dR_make_86 (by decide) ?_
    refine rk_dast dR_make_90 k.nw (by first | exact hin | assumption) ?_
    rw [nI_clamp (show X.no < 2 ^ 31 by omega),k.tnw]
    refine rk_aload_n dR_make_91 rfl ?_
    refine rk_getf fR_42 dR_make_92 k.m rfl ?_
    refine rk_iload dR_make_95 rfl ?_
    refine rk_iconst (v := 0) dR_make_97 (by decide) ?_
    rw [show (0 : Int32) = nI 0 from rfl]
    refine rk_iast dR_make_98 k.co (by first | exact hin | assumption) ?_
    rw [nI_clamp (show X.no < 2 ^ 31 by omega),k.tco]
    refine rk_iload dR_make_99 rfl ?_
    exact rk_iret rfl dR_make_101 ⟨(Nat.le_of_ble_eq_true rfl), (Nat.le_of_ble_eq_true rfl)⟩ (⟨rfl, by simp only [wN_N, wN_wN, updN_at, updN_up]; unfold xM; rw [show kWs kd X.ws = X.ws from if_pos hw]; rfl⟩)
  · refine rk_aload_n dR_make_66 rfl ?_
    refine rk_getf fR_39 dR_make_67 k.m rfl ?_
    refine rk_iload dR_make_70 rfl ?_
    refine rk_iload_n dR_make_72 rfl ?_
    refine rk_iconst (v := 1) dR_make_73 (by decide) ?_
    refine rk_icmp_lt 89 dR_make_74 (by decide) (fun q_74 => ?_) (fun q_74 => ?_)
    · refine rk_dconst0 dR_make_89 ?_
      refine rk_dast dR_make_90 k.nw (by first | exact hin | assumption) ?_
      rw [nI_clamp (show X.no < 2 ^ 31 by omega),k.tnw]
      refine rk_aload_n dR_make_91 rfl ?_
      refine rk_getf fR_42 dR_make_92 k.m rfl ?_
      refine rk_iload dR_make_95 rfl ?_
      refine rk_iconst (v := 0) dR_make_97 (by decide) ?_
      rw [show (0 : Int32) = nI 0 from rfl]
      refine rk_iast dR_make_98 k.co (by first | exact hin | assumption) ?_
      rw [nI_clamp (show X.no < 2 ^ 31 by omega),k.tco]
      refine rk_iload dR_make_99 rfl ?_
      exact rk_iret rfl dR_make_101 ⟨(Nat.le_of_ble_eq_true rfl), (Nat.le_of_ble_eq_true rfl)⟩ (⟨rfl, by simp only [wN_N, wN_wN, updN_at, updN_up]; unfold xM; rw [show kWs kd X.ws = 0 from if_neg hw]; rfl⟩)
    · refine rk_iload_n dR_make_77 rfl ?_
      refine rk_iconst (v := 3) dR_make_78 (by decide) ?_
      refine rk_icmp_gt 89 dR_make_79 (by decide) (fun q_79 => ?_) (fun q_79 => ?_)
      · refine rk_dconst0 dR_make_89 ?_
        refine rk_dast dR_make_90 k.nw (by first | exact hin | assumption) ?_
        rw [nI_clamp (show X.no < 2 ^ 31 by omega),k.tnw]
        refine rk_aload_n dR_make_91 rfl ?_
        refine rk_getf fR_42 dR_make_92 k.m rfl ?_
        refine rk_iload dR_make_95 rfl ?_
        refine rk_iconst (v := 0) dR_make_97 (by decide) ?_
        rw [show (0 : Int32) = nI 0 from rfl]
        refine rk_iast dR_make_98 k.co (by first | exact hin | assumption) ?_
        rw [nI_clamp (show X.no < 2 ^ 31 by omega),k.tco]
        refine rk_iload dR_make_99 rfl ?_
        exact rk_iret rfl dR_make_101 ⟨(Nat.le_of_ble_eq_true rfl), (Nat.le_of_ble_eq_true rfl)⟩ (⟨rfl, by simp only [wN_N, wN_wN, updN_at, updN_up]; unfold xM; rw [show kWs kd X.ws = 0 from if_neg hw]; rfl⟩)
      · exact absurd ⟨by have := mt e1.mpr q_74; omega, by have := mt e3.mpr q_79; omega⟩ hw
theorem c_R_finish (b : rk_H) (A : Nat → Nat) (X : rX) (k : rA A) (co off : Nat) (lo hi : Int32) (hn : X.no < 14) : rk_Con mR_finish (0, 0, 0, 0) [.ref (A 0), .int (nI co), .int (nI off), .int lo, .int hi] (rv b A X) (rk_Rv (.int (nI X.no)) (rv b A ((((X.wN (updN X.N X.no (((((X.N X.no).wco_ co).woff_ off).wlo_ lo).whi_ hi))).wfe (stp (128 * X.no) 128 (fun _ => 0) X.fe)).wno (X.no + 1)).wcm false))) := by
  have hin := vp_in_nI hn (show 14 < 2 ^ 31 by omega)
  have hfe : itf (fun _ _ => 0) (128 * X.no) 128 X.fe = stp (128 * X.no) 128 (fun _ => 0) X.fe := itf_stp (fun _ _ _ _ => rfl)
  have loop : ∀ (Z : rX) (k1 i : Nat) (Y : rX), i + k1 = 128 → Y.no = X.no → Y.fe = itf (fun _ _ => 0) (128 * X.no) i X.fe → ((Y.wfe (stp (128 * X.no) 128 (fun _ => 0) X.fe)).wno (X.no + 1)).wcm false = Z → rk_Run mR_finish (0, 0, 0, 0) (rk_Rv (.int (nI X.no)) (rv b A Z)) 44 [some (.ref (A 0)), some (.int (nI co)), some (.int (nI off)), some (.int lo), some (.int hi), some (.int (nI i))] [] (rv b A Y) (0, 0) := by
    intro Z k1
    induction k1 with
    | zero =>
      intro i Y hi hY hf hZ
      have hi : i = 128 := by omega
      subst hi
      have eY : Y.wfe (stp (128 * X.no) 128 (fun _ => 0) X.fe) = Y := wfe_of (by rw [hf, hfe])
      rw [eY] at hZ
      subst hZ
      refine rk_iload dR_finish_44 rfl ?_
      refine rk_sipush (v := 128) dR_finish_46 (by decide) ?_
      refine rk_icmp_ge 75 dR_finish_49 (by decide) (fun q_49 => ?_) (fun q_49 => ?_)
      · refine rk_aload_n dR_finish_75 rfl ?_
        refine rk_dup dR_finish_76 rfl ?_
        refine rk_getf fR_106 dR_finish_77 k.m rfl ?_
        refine rk_iconst (v := 1) dR_finish_80 (by decide) ?_
        refine rk_iadd dR_finish_81 ?_
        rw [hY, show nI X.no + 1 = nI (X.no + 1) from nI_1 _]
        refine rk_putf pR_106 dR_finish_82 k.m (Nat.le_of_ble_eq_true rfl) rfl rfl ?_
        rw [k.uno]
        refine rk_aload_n dR_finish_85 rfl ?_
        refine rk_iconst (v := 0) dR_finish_86 (by decide) ?_
        refine rk_putf pR_109 dR_finish_87 k.m (Nat.le_of_ble_eq_true rfl) rfl rfl ?_
        first | rw [k.ucm0] | rw [k.ucm1]
        refine rk_aload_n dR_finish_90 rfl ?_
        refine rk_getf fR_106 dR_finish_91 k.m rfl ?_
        refine rk_iconst (v := 1) dR_finish_94 (by decide) ?_
        refine rk_isub dR_finish_95 ?_
        rw [show ((Y.wno (X.no + 1)).wcm false).no = X.no + 1 from rfl, nI_pred]
        exact rk_iret rfl dR_finish_96 ⟨(Nat.le_of_ble_eq_true rfl), (Nat.le_of_ble_eq_true rfl)⟩ (⟨rfl, rfl⟩)
      · exact absurd (by decide) q_49
    | succ k1 ih =>
      intro i Y hi hY hf hZ
      refine rk_iload dR_finish_44 rfl ?_
      refine rk_sipush (v := 128) dR_finish_46 (by decide) ?_
      refine rk_icmp_ge 75 dR_finish_49 (by decide) (fun q_49 => ?_) (fun q_49 => ?_)
      · exact absurd q_49 (nI_ge (b := 128) (by omega) (by omega))
      · refine rk_aload_n dR_finish_52 rfl ?_
        refine rk_getf fR_57 dR_finish_53 k.m rfl ?_
        refine rk_sipush (v := 128) dR_finish_56 (by decide) ?_
        refine rk_aload_n dR_finish_59 rfl ?_
        refine rk_getf fR_106 dR_finish_60 k.m rfl ?_
        refine rk_imul dR_finish_63 ?_
        rw [hY, show (128 : Int32) = nI 128 from rfl, pk_mul]
        refine rk_iload dR_finish_64 rfl ?_
        refine rk_iadd dR_finish_66 ?_
        rw [nI_add]
        refine rk_iconst (v := 0) dR_finish_67 (by decide) ?_
        refine rk_iast dR_finish_68 k.fe (vp_in_nI (show 128 * X.no + i < 1792 by omega) (by omega)) ?_
        rw [k.ufe]
        refine rk_iinc dR_finish_69 rfl (inc1 i) (Nat.le_of_ble_eq_true rfl) ?_
        refine rk_goto 44 dR_finish_72 (by decide) ?_
        rw [nI_clamp (show 128 * X.no + i < 2 ^ 31 by omega)]
        exact ih (i + 1) (Y.wfe (upd Y.fe (128 * X.no + i) 0)) (by omega) hY (by rw [itf_s, ← hf]; rfl) (by rw [wfe_wfe]; exact hZ)
  refine rk_Con.of [some (.ref (A 0)), some (.int (nI co)), some (.int (nI off)), some (.int lo), some (.int hi), none] rfl (Nat.le_of_ble_eq_true rfl) (by decide +kernel) ?_
  refine rk_aload_n dR_finish_0 rfl ?_
  refine rk_getf fR_42 dR_finish_1 k.m rfl ?_
  refine rk_aload_n dR_finish_4 rfl ?_
  refine rk_getf fR_106 dR_finish_5 k.m rfl ?_
  refine rk_iload_n dR_finish_8 rfl ?_
  refine rk_iast dR_finish_9 k.co (by first | exact hin | assumption) ?_
  rw [nI_clamp (show X.no < 2 ^ 31 by omega),k.tco]
  refine rk_aload_n dR_finish_10 rfl ?_
  refine rk_getf fR_45 dR_finish_11 k.m rfl ?_
  refine rk_aload_n dR_finish_14 rfl ?_
  refine rk_getf fR_106 dR_finish_15 k.m rfl ?_
  rw [wN_no]
  refine rk_iload_n dR_finish_18 rfl ?_
  refine rk_iast dR_finish_19 k.of (by first | exact hin | assumption) ?_
  rw [nI_clamp (show X.no < 2 ^ 31 by omega),k.tof]
  refine rk_aload_n dR_finish_20 rfl ?_
  refine rk_getf fR_48 dR_finish_21 k.m rfl ?_
  refine rk_aload_n dR_finish_24 rfl ?_
  refine rk_getf fR_106 dR_finish_25 k.m rfl ?_
  rw [wN_no, wN_no]
  refine rk_iload_n dR_finish_28 rfl ?_
  refine rk_iast dR_finish_29 k.lo (by first | exact hin | assumption) ?_
  rw [nI_clamp (show X.no < 2 ^ 31 by omega),k.tlo]
  refine rk_aload_n dR_finish_30 rfl ?_
  refine rk_getf fR_51 dR_finish_31 k.m rfl ?_
  refine rk_aload_n dR_finish_34 rfl ?_
  refine rk_getf fR_106 dR_finish_35 k.m rfl ?_
  rw [wN_no, wN_no, wN_no]
  refine rk_iload dR_finish_38 rfl ?_
  refine rk_iast dR_finish_40 k.to (by first | exact hin | assumption) ?_
  rw [nI_clamp (show X.no < 2 ^ 31 by omega),k.tto]
  refine rk_iconst (v := 0) dR_finish_41 (by decide) ?_
  refine rk_istore dR_finish_42 (Nat.le_of_ble_eq_true rfl) ?_
  simp only [wN_N, wN_wN, updN_at, updN_up]
  exact loop _ 128 0 _ (by omega) rfl rfl rfl
