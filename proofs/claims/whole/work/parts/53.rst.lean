/-! the reference: the rest of its calls but compile and run -/
theorem sh_8 {i : Nat} (h : i < 8) : (56 : Int32) - 8 * nI i = 8 * (7 - nI i) := by
  rcases (show i = 0 ∨ i = 1 ∨ i = 2 ∨ i = 3 ∨ i = 4 ∨ i = 5 ∨ i = 6 ∨ i = 7 by omega) with rfl | rfl | rfl | rfl | rfl | rfl | rfl | rfl <;> decide
theorem spr_itf {x : Int64} {L t : Nat} {f : Nat → Int32} : itf (fun i _ => b8 x i) t (min 8 (L - t)) f = spr x L t f := itf_stp (fun _ _ _ _ => rfl)
theorem ww_ww {X : rX} {f g : Nat → Int32} : (X.ww f).ww g = X.ww g := rfl
theorem ww_of {X : rX} {f : Nat → Int32} (h : X.w = f) : X.ww f = X := by rw [← h]; rfl
theorem wfe_fa {X : rX} {f : Nat → Int32} : (X.wfe f).fa = X.fa := rfl
theorem ww_fa {X : rX} {f : Nat → Int32} : (X.ww f).fa = X.fa := rfl
theorem wfe_N {X : rX} {f : Nat → Int32} : (X.wfe f).N = X.N := rfl
theorem rOK.ww {X : rX} {s : aS} (k : rOK X s) (f : Nat → Int32) : rOK (X.ww f) (s.wwt f) := by
  obtain ⟨⟨a1, a2, a3, a4⟩, k2⟩ := k
  exact ⟨⟨a1, a2, rfl, a4⟩, k2⟩
theorem rOK.wfe {X : rX} {s : aS} (k : rOK X s) (g : Nat → Int32) (i : Nat) (f : Nat → Int32) (h : ∀ q j : Nat, j < 128 → g (128 * q + j) = (if q = i then f else s.fd q) j) : rOK (X.wfe g) (s.wfd i f) := by
  obtain ⟨k1, k2, c1, k3⟩ := k
  exact ⟨k1, k2, h, k3⟩
theorem ou_511 {x : Int32} : ouB x 512 = !btB x 0 511 := (ou_n (x := x) (n := 512) (by omega)).trans (by rw [show nI 512 - 1 = (511 : Int32) from by decide])
theorem c_R_weights (b : rk_H) (A : Nat → Nat) (X : rX) (s : aS) (k : rA A) (kX : rOK X s) (ok : aOK s) (off : Int32) (x : Int64) : rk_Con mR_weights (1, 14, 0, 0) [.ref (A 0), .int off, .long x] (rv b A X) (rPo b A (some (.int 0)) (opWeights s off x)) := by
  have hn := ok.1.1
  have hbd := ok.1.2.1.bd
  refine rk_Con.of [some (.ref (A 0)), some (.int off), some (.long x), none, none, none] rfl (Nat.le_of_ble_eq_true rfl) (by decide +kernel) ?_
  refine rk_aload_n dR_weights_0 rfl ?_
  refine rk_iconst (v := 0) dR_weights_1 (by decide) ?_
  refine rk_putf pR_85 dR_weights_2 k.m (Nat.le_of_ble_eq_true rfl) rfl rfl ?_
  rw [k.ufa]
  skip
  have kY : rOK (X.wfa 0) s := kX
  have hfa : (X.wfa 0).fa = 0 := rfl
  generalize X.wfa 0 = Y at kY hfa ⊢
  have nd : ∀ x, ouB x (nI Y.no) = !ndB s x := fun x => kY.nd hn
  have eN := kY.1.1
  have loop : ∀ (t : Nat) (W : rX) (f : Nat → Int32), t < 512 → ∀ (k1 i : Nat) (Z : rX), i + k1 = min 8 (512 - t) → Z.w = itf (fun i _ => b8 x i) t i f → Z.ww (spr x 512 t f) = W → rk_Run mR_weights (1, 14, 0, 0) (rk_Rv (.int (nI (min 8 (512 - t)))) (rv b A W)) 28 [some (.ref (A 0)), some (.int (nI t)), some (.long x), none, some (.int (nI i)), some (.int (nI i))] [] (rv b A Z) (0, 0) := by
    intro t W f ht k1
    induction k1 with
    | zero =>
      intro i Z hi hw hz
      have hi : i = min 8 (512 - t) := by omega
      subst hi
      rw [spr_itf] at hw
      rw [ww_of hw] at hz
      subst hz
      refine rk_iload dR_weights_28 rfl ?_
      refine rk_bipush (v := 8) dR_weights_30 (by decide) ?_
      refine rk_icmp_ge 75 dR_weights_32 (by decide) (fun q_32 => ?_) (fun q_32 => ?_)
      · refine rk_iload dR_weights_75 rfl ?_
        exact rk_iret rfl dR_weights_77 ⟨(Nat.le_of_ble_eq_true rfl), (Nat.le_of_ble_eq_true rfl)⟩ (⟨rfl, rfl⟩)
      · refine rk_iload_n dR_weights_35 rfl ?_
        refine rk_iload dR_weights_36 rfl ?_
        refine rk_iadd dR_weights_38 ?_
        rw [nI_add]
        refine rk_sipush (v := 512) dR_weights_39 (by decide) ?_
        refine rk_icmp_ge 75 dR_weights_42 (by decide) (fun q_42 => ?_) (fun q_42 => ?_)
        · refine rk_iload dR_weights_75 rfl ?_
          exact rk_iret rfl dR_weights_77 ⟨(Nat.le_of_ble_eq_true rfl), (Nat.le_of_ble_eq_true rfl)⟩ (⟨rfl, rfl⟩)
        · exact absurd (nI_le (a := 512) (by have := mt (nI_leI (a := 8) (b := min 8 (512 - t)) (by omega) (by omega)).mpr q_32; omega) (by omega)) q_42
    | succ k1 ih =>
      intro i Z hi hw hz
      refine rk_iload dR_weights_28 rfl ?_
      refine rk_bipush (v := 8) dR_weights_30 (by decide) ?_
      refine rk_icmp_ge 75 dR_weights_32 (by decide) (fun q_32 => (by exact absurd q_32 (nI_ge (b := 8) (by omega) (by omega)))) (fun q_32 => ?_)
      refine rk_iload_n dR_weights_35 rfl ?_
      refine rk_iload dR_weights_36 rfl ?_
      refine rk_iadd dR_weights_38 ?_
      rw [nI_add]
      refine rk_sipush (v := 512) dR_weights_39 (by decide) ?_
      refine rk_icmp_ge 75 dR_weights_42 (by decide) (fun q_42 => (by exact absurd q_42 (nI_ge (b := 512) (by omega) (by omega)))) (fun q_42 => ?_)
      refine rk_aload_n dR_weights_45 rfl ?_
      refine rk_getf fR_7 dR_weights_46 k.m rfl ?_
      refine rk_iload_n dR_weights_49 rfl ?_
      refine rk_iload dR_weights_50 rfl ?_
      refine rk_iadd dR_weights_52 ?_
      rw [nI_add]
      refine rk_lload_n dR_weights_53 rfl ?_
      refine rk_bipush (v := 56) dR_weights_54 (by decide) ?_
      refine rk_bipush (v := 8) dR_weights_56 (by decide) ?_
      refine rk_iload dR_weights_58 rfl ?_
      refine rk_imul dR_weights_60 ?_
      refine rk_isub dR_weights_61 ?_
      rw [sh_8 (show i < 8 by omega)]
      refine rk_lshr dR_weights_62 ?_
      refine rk_l2i dR_weights_63 ?_
      refine rk_i2b dR_weights_64 ?_
      refine rk_iast dR_weights_65 k.w (vp_in_nI (show t + i < 512 by omega) (by omega)) ?_
      rw [k.uw]
      refine rk_iinc dR_weights_66 rfl (inc1 i) (Nat.le_of_ble_eq_true rfl) ?_
      refine rk_iinc dR_weights_69 rfl (inc1 i) (Nat.le_of_ble_eq_true rfl) ?_
      refine rk_goto 28 dR_weights_72 (by decide) ?_
      rw [nI_clamp (show t + i < 2 ^ 31 by omega)]
      exact ih (i + 1) (Z.ww (upd Z.w (t + i) (b8 x i))) (by omega) (by rw [itf_s, ← hw]; rfl) (by rw [ww_ww]; exact hz)
  have eT : ∀ t : Nat, t < 512 → ∀ r h', rk_Rv (.int (nI (min 8 (512 - t)))) (rv b A (Y.ww (spr x 512 t Y.w))) r h' → rPo b A (some (.int 0)) (opWeights s (nI t) x) r h' := by
    rintro t ht r h' ⟨rfl, rfl⟩
    have hg : btB (nI t) 0 511 = true := btB_iff.mpr ⟨nI_pos' (by omega), nI_le (b := 511) (by omega) (by omega)⟩
    refine rPo.go (X := Y.ww (spr x 512 t Y.w)) ((if_pos hg).trans (by rw [tN_I (by omega)])) (ww_fa.trans hfa) ?_
    rw [kY.1.2.2.1]
    exact kY.ww _
  refine rk_aload_n dR_weights_5 rfl ?_
  refine rk_iload_n dR_weights_6 rfl ?_
  refine rk_sipush (v := 512) dR_weights_7 (by decide) ?_
  refine rk_cvV (c_R_out b A Y off 512) cR_94 dR_weights_10 rfl lR_out (Nat.le_of_ble_eq_true rfl) (Nat.le_of_ble_eq_true rfl) (Nat.le_of_ble_eq_true rfl) (Nat.le_of_ble_eq_true rfl) k.m ?_
  rw [ou_511]
  refine rk_if_eq 22 dR_weights_13 (by decide) (fun q_13 => ?_) (fun q_13 => ?_)
  · obtain ⟨t, ht, rfl⟩ := btwK (m := 511) rfl (by omega) (btB_iff.mp (b2n q_13))
    refine rk_iconst (v := 0) dR_weights_22 (by decide) ?_
    refine rk_istore dR_weights_23 (Nat.le_of_ble_eq_true rfl) ?_
    refine rk_iconst (v := 0) dR_weights_25 (by decide) ?_
    refine rk_istore dR_weights_26 (Nat.le_of_ble_eq_true rfl) ?_
    refine rk_lv [some (.ref (A 0)), some (.int (nI t)), some (.long x), none, some (.int (nI 0)), some (.int (nI 0))] ⟨rfl, rfl, rfl, rfl, rfl, trivial⟩ ?_
    exact rk_mono (eT t (by omega)) (loop t _ Y.w (by omega) (min 8 (512 - t)) 0 Y (by omega) rfl rfl)
  · refine rk_aload_n dR_weights_16 rfl ?_
    refine rk_iconst (v := 1) dR_weights_17 (by decide) ?_
    refine rk_cvV (c_R_fail b A Y k 1) cR_98 dR_weights_18 rfl lR_fail (Nat.le_of_ble_eq_true rfl) (Nat.le_of_ble_eq_true rfl) (Nat.le_of_ble_eq_true rfl) (Nat.le_of_ble_eq_true rfl) k.m ?_
    exact rk_iret rfl dR_weights_21 ⟨(Nat.le_of_ble_eq_true rfl), (Nat.le_of_ble_eq_true rfl)⟩ (rPo.fl (c := 1) kY (if_neg (by rw [b2n' q_13]; decide)) (by decide))
theorem c_R_weightScale (b : rk_H) (A : Nat → Nat) (X : rX) (s : aS) (k : rA A) (kX : rOK X s) (ok : aOK s) (r : UInt64) (hs : badS r = !dsB r) : rk_Con mR_weightScale (1, 14, 0, 0) [.ref (A 0), .double r] (rv b A X) (rPo b A (none) (opWeightScale s r)) := by
  have hn := ok.1.1
  have hbd := ok.1.2.1.bd
  refine rk_Con.of [some (.ref (A 0)), some (.double r), none] rfl (Nat.le_of_ble_eq_true rfl) (by decide +kernel) ?_
  refine rk_aload_n dR_weightScale_0 rfl ?_
  refine rk_iconst (v := 0) dR_weightScale_1 (by decide) ?_
  refine rk_putf pR_85 dR_weightScale_2 k.m (Nat.le_of_ble_eq_true rfl) rfl rfl ?_
  rw [k.ufa]
  skip
  have kY : rOK (X.wfa 0) s := kX
  have hfa : (X.wfa 0).fa = 0 := rfl
  generalize X.wfa 0 = Y at kY hfa ⊢
  have nd : ∀ x, ouB x (nI Y.no) = !ndB s x := fun x => kY.nd hn
  have eN := kY.1.1
  refine rk_aload_n dR_weightScale_5 rfl ?_
  refine rk_dload_n dR_weightScale_6 rfl ?_
  refine rk_cvV (c_R_badScale b A Y r) cR_102 dR_weightScale_7 rfl lR_badScale (Nat.le_of_ble_eq_true rfl) (Nat.le_of_ble_eq_true rfl) (Nat.le_of_ble_eq_true rfl) (Nat.le_of_ble_eq_true rfl) k.m ?_
  rw [hs]
  refine rk_if_eq 21 dR_weightScale_10 (by decide) (fun q_10 => ?_) (fun q_10 => ?_)
  · refine rk_aload_n dR_weightScale_21 rfl ?_
    refine rk_dload_n dR_weightScale_22 rfl ?_
    refine rk_putf pR_13 dR_weightScale_23 k.m (Nat.le_of_ble_eq_true rfl) rfl rfl ?_
    rw [k.uws]
    exact rk_ret rfl dR_weightScale_26 ⟨(Nat.le_of_ble_eq_true rfl), (Nat.le_of_ble_eq_true rfl)⟩ (by first | exact rPo.fl (c := 1) kY (if_neg (by rw [b2n' q_10]; decide)) (by decide) | exact rPo.go (if_pos (b2n q_10)) hfa (by obtain ⟨⟨a1, a2, a3, a4⟩, k2⟩ := kY; exact ⟨⟨a1, a2, a3, rfl⟩, k2⟩))
  · refine rk_aload_n dR_weightScale_13 rfl ?_
    refine rk_iconst (v := 1) dR_weightScale_14 (by decide) ?_
    refine rk_putf pR_85 dR_weightScale_15 k.m (Nat.le_of_ble_eq_true rfl) rfl rfl ?_
    rw [k.ufa]
    refine rk_goto 26 dR_weightScale_18 (by decide) ?_
    exact rk_ret rfl dR_weightScale_26 ⟨(Nat.le_of_ble_eq_true rfl), (Nat.le_of_ble_eq_true rfl)⟩ (by first | exact rPo.fl (c := 1) kY (if_neg (by rw [b2n' q_10]; decide)) (by decide) | exact rPo.go (if_pos (b2n q_10)) hfa (by obtain ⟨⟨a1, a2, a3, a4⟩, k2⟩ := kY; exact ⟨⟨a1, a2, a3, rfl⟩, k2⟩))
theorem c_R_output (b : rk_H) (A : Nat → Nat) (X : rX) (s : aS) (k : rA A) (kX : rOK X s) (ok : aOK s) (x : Int32) : rk_Con mR_output (1, 14, 0, 0) [.ref (A 0), .int x] (rv b A X) (rPo b A (some (.int 0)) (opOutput s x)) := by
  have hn := ok.1.1
  have hbd := ok.1.2.1.bd
  refine rk_Con.of [some (.ref (A 0)), some (.int x)] rfl (Nat.le_of_ble_eq_true rfl) (by decide +kernel) ?_
  refine rk_aload_n dR_output_0 rfl ?_
  refine rk_iconst (v := 0) dR_output_1 (by decide) ?_
  refine rk_putf pR_85 dR_output_2 k.m (Nat.le_of_ble_eq_true rfl) rfl rfl ?_
  rw [k.ufa]
  skip
  have kY : rOK (X.wfa 0) s := kX
  have hfa : (X.wfa 0).fa = 0 := rfl
  generalize X.wfa 0 = Y at kY hfa ⊢
  have nd : ∀ x, ouB x (nI Y.no) = !ndB s x := fun x => kY.nd hn
  have eN := kY.1.1
  refine rk_aload_n dR_output_5 rfl ?_
  refine rk_iload_n dR_output_6 rfl ?_
  refine rk_aload_n dR_output_7 rfl ?_
  refine rk_getf fR_106 dR_output_8 k.m rfl ?_
  refine rk_cvV (c_R_out b A Y x (nI Y.no)) cR_94 dR_output_11 rfl lR_out (Nat.le_of_ble_eq_true rfl) (Nat.le_of_ble_eq_true rfl) (Nat.le_of_ble_eq_true rfl) (Nat.le_of_ble_eq_true rfl) k.m ?_
  rw [nd]
  refine rk_if_eq 23 dR_output_14 (by decide) (fun q_14 => ?_) (fun q_14 => ?_)
  · obtain ⟨j, hj, rfl⟩ := ndB_of hn (b2n q_14)
    have htj : tN (nI j) = j := tN_I (by omega)
    refine rk_aload_n dR_output_23 rfl ?_
    refine rk_iload_n dR_output_24 rfl ?_
    refine rk_putf pR_60 dR_output_25 k.m (Nat.le_of_ble_eq_true rfl) rfl rfl ?_
    rw [k.uou']
    refine rk_aload_n dR_output_28 rfl ?_
    refine rk_iconst (v := 0) dR_output_29 (by decide) ?_
    refine rk_putf pR_109 dR_output_30 k.m (Nat.le_of_ble_eq_true rfl) rfl rfl ?_
    first | rw [k.ucm0] | rw [k.ucm1]
    refine rk_aload_n dR_output_33 rfl ?_
    refine rk_iload_n dR_output_34 rfl ?_
    refine rk_cvV (c_R_cells b A ((Y.wou (some j)).wcm false) k j (by omega)) cR_137 dR_output_35 rfl lR_cells (Nat.le_of_ble_eq_true rfl) (Nat.le_of_ble_eq_true rfl) (Nat.le_of_ble_eq_true rfl) (Nat.le_of_ble_eq_true rfl) k.m ?_
    exact rk_iret rfl dR_output_38 ⟨(Nat.le_of_ble_eq_true rfl), (Nat.le_of_ble_eq_true rfl)⟩ (rPo.go ((if_pos (b2n q_14)).trans (by rw [htj, ← eN]; rfl)) hfa (by obtain ⟨k1, ⟨b1, b2⟩, c1, d1, k2⟩ := kY; exact ⟨k1, ⟨rfl, rfl⟩, c1, fun h => (by cases h), k2⟩))
  · refine rk_aload_n dR_output_17 rfl ?_
    refine rk_iconst (v := 1) dR_output_18 (by decide) ?_
    refine rk_cvV (c_R_fail b A Y k 1) cR_98 dR_output_19 rfl lR_fail (Nat.le_of_ble_eq_true rfl) (Nat.le_of_ble_eq_true rfl) (Nat.le_of_ble_eq_true rfl) (Nat.le_of_ble_eq_true rfl) k.m ?_
    exact rk_iret rfl dR_output_22 ⟨(Nat.le_of_ble_eq_true rfl), (Nat.le_of_ble_eq_true rfl)⟩ (rPo.fl (c := 1) kY (if_neg (by rw [b2n' q_14]; decide)) (by decide))
theorem c_R_arena (b : rk_H) (A : Nat → Nat) (X : rX) (s : aS) (k : rA A) (kX : rOK X s) (ok : aOK s) (x : Int32) : rk_Con mR_arena (1, 14, 0, 0) [.ref (A 0), .int x] (rv b A X) (rPo b A (some (.int 0)) (opArena s x)) := by
  have hn := ok.1.1
  have hbd := ok.1.2.1.bd
  refine rk_Con.of [some (.ref (A 0)), some (.int x)] rfl (Nat.le_of_ble_eq_true rfl) (by decide +kernel) ?_
  refine rk_aload_n dR_arena_0 rfl ?_
  refine rk_iconst (v := 0) dR_arena_1 (by decide) ?_
  refine rk_putf pR_85 dR_arena_2 k.m (Nat.le_of_ble_eq_true rfl) rfl rfl ?_
  rw [k.ufa]
  skip
  have kY : rOK (X.wfa 0) s := kX
  have hfa : (X.wfa 0).fa = 0 := rfl
  generalize X.wfa 0 = Y at kY hfa ⊢
  have nd : ∀ x, ouB x (nI Y.no) = !ndB s x := fun x => kY.nd hn
  have eN := kY.1.1
  obtain ⟨-, -, -, -, ⟨an, al, ar⟩, -⟩ := id kY
  refine rk_aload_n dR_arena_5 rfl ?_
  refine rk_iload_n dR_arena_6 rfl ?_
  refine rk_aload_n dR_arena_7 rfl ?_
  refine rk_getf fR_232 dR_arena_8 k.m rfl ?_
  rw [an]
  refine rk_cvV (c_R_out b A Y x (nI s.arN)) cR_94 dR_arena_11 rfl lR_out (Nat.le_of_ble_eq_true rfl) (Nat.le_of_ble_eq_true rfl) (Nat.le_of_ble_eq_true rfl) (Nat.le_of_ble_eq_true rfl) k.m ?_
  refine rk_if_eq 25 dR_arena_14 (by decide) (fun q_14 => ?_) (fun q_14 => ?_)
  · have hx := ouB_f.mp (b2p q_14)
    obtain ⟨j, hj, rfl⟩ := idxK (by omega) hx.1 hx.2
    refine rk_aload_n dR_arena_25 rfl ?_
    refine rk_getf fR_79 dR_arena_26 k.m rfl ?_
    refine rk_iload_n dR_arena_29 rfl ?_
    refine rk_iald dR_arena_30 k.ar (vp_in_nI (show j < 1792 by omega) (by omega)) ?_
    exact rk_iret rfl dR_arena_31 ⟨(Nat.le_of_ble_eq_true rfl), (Nat.le_of_ble_eq_true rfl)⟩ (by first | exact rPo.fl (c := 1) kY (if_neg (fun hh => by rw [ouB_f.mpr ⟨of_decide_eq_true (and2.mp hh).1, of_decide_eq_true (and2.mp hh).2⟩] at q_14; exact q_14 rfl)) (by decide) | exact rPo.go ((if_pos (and2.mpr ⟨decide_eq_true hx.1, decide_eq_true hx.2⟩)).trans (by rw [tN_I (by omega), ← ar j hj, nI_clamp (by omega)])) hfa kY)
  · refine rk_aload_n dR_arena_17 rfl ?_
    refine rk_iconst (v := 1) dR_arena_18 (by decide) ?_
    refine rk_cvV (c_R_fail b A Y k 1) cR_98 dR_arena_19 rfl lR_fail (Nat.le_of_ble_eq_true rfl) (Nat.le_of_ble_eq_true rfl) (Nat.le_of_ble_eq_true rfl) (Nat.le_of_ble_eq_true rfl) k.m ?_
    refine rk_goto 31 dR_arena_22 (by decide) ?_
    exact rk_iret rfl dR_arena_31 ⟨(Nat.le_of_ble_eq_true rfl), (Nat.le_of_ble_eq_true rfl)⟩ (by first | exact rPo.fl (c := 1) kY (if_neg (fun hh => by rw [ouB_f.mpr ⟨of_decide_eq_true (and2.mp hh).1, of_decide_eq_true (and2.mp hh).2⟩] at q_14; exact q_14 rfl)) (by decide) | exact rPo.go ((if_pos (and2.mpr ⟨decide_eq_true hx.1, decide_eq_true hx.2⟩)).trans (by rw [tN_I (by omega), ← ar j hj, nI_clamp (by omega)])) hfa kY)
theorem c_R_result (b : rk_H) (A : Nat → Nat) (X : rX) (s : aS) (k : rA A) (kX : rOK X s) (ok : aOK s) (x : Int32) : rk_Con mR_result (1, 14, 0, 0) [.ref (A 0), .int x] (rv b A X) (rPo b A (some (.double (FP.i2d 0))) (opResult s x)) := by
  have hn := ok.1.1
  have hbd := ok.1.2.1.bd
  refine rk_Con.of [some (.ref (A 0)), some (.int x)] rfl (Nat.le_of_ble_eq_true rfl) (by decide +kernel) ?_
  refine rk_aload_n dR_result_0 rfl ?_
  refine rk_iconst (v := 0) dR_result_1 (by decide) ?_
  refine rk_putf pR_85 dR_result_2 k.m (Nat.le_of_ble_eq_true rfl) rfl rfl ?_
  rw [k.ufa]
  skip
  have kY : rOK (X.wfa 0) s := kX
  have hfa : (X.wfa 0).fa = 0 := rfl
  generalize X.wfa 0 = Y at kY hfa ⊢
  have nd : ∀ x, ouB x (nI Y.no) = !ndB s x := fun x => kY.nd hn
  have eN := kY.1.1
  obtain ⟨-, -, -, -, -, an, al, as, ad, ar⟩ := id kY
  refine rk_aload_n dR_result_5 rfl ?_
  refine rk_iload_n dR_result_6 rfl ?_
  refine rk_aload_n dR_result_7 rfl ?_
  refine rk_getf fR_235 dR_result_8 k.m rfl ?_
  rw [an]
  refine rk_cvV (c_R_out b A Y x (nI s.shN)) cR_94 dR_result_11 rfl lR_out (Nat.le_of_ble_eq_true rfl) (Nat.le_of_ble_eq_true rfl) (Nat.le_of_ble_eq_true rfl) (Nat.le_of_ble_eq_true rfl) k.m ?_
  refine rk_if_eq 24 dR_result_14 (by decide) (fun q_14 => ?_) (fun q_14 => ?_)
  · have hx := ouB_f.mp (b2p q_14)
    obtain ⟨j, hj, rfl⟩ := idxK (by omega) hx.1 hx.2
    refine rk_aload_n dR_result_24 rfl ?_
    refine rk_getf fR_82 dR_result_25 k.m rfl ?_
    refine rk_iload_n dR_result_28 rfl ?_
    refine rk_iald dR_result_29 k.sh (vp_in_nI (show j < 128 by omega) (by omega)) ?_
    rw [nI_clamp (show j < 2 ^ 31 by omega), ar j hj]
    refine rk_i2d dR_result_30 ?_
    refine rk_aload_n dR_result_31 rfl ?_
    refine rk_getf fR_238 dR_result_32 k.m rfl ?_
    rw [as]
    refine rk_dmul dR_result_35 (fp_res _ ad) ?_
    exact rk_dret rfl dR_result_36 ⟨(Nat.le_of_ble_eq_true rfl), (Nat.le_of_ble_eq_true rfl)⟩ (rPo.go ((if_pos (and2.mpr ⟨decide_eq_true hx.1, decide_eq_true hx.2⟩)).trans (by rw [tN_I (by omega)])) hfa kY)
  · refine rk_aload_n dR_result_17 rfl ?_
    refine rk_iconst (v := 1) dR_result_18 (by decide) ?_
    refine rk_cvV (c_R_fail b A Y k 1) cR_98 dR_result_19 rfl lR_fail (Nat.le_of_ble_eq_true rfl) (Nat.le_of_ble_eq_true rfl) (Nat.le_of_ble_eq_true rfl) (Nat.le_of_ble_eq_true rfl) k.m ?_
    refine rk_i2d dR_result_22 ?_
    exact rk_dret rfl dR_result_23 ⟨(Nat.le_of_ble_eq_true rfl), (Nat.le_of_ble_eq_true rfl)⟩ (rPo.fl (c := 1) kY (if_neg (fun hh => by rw [ouB_f.mpr ⟨of_decide_eq_true (and2.mp hh).1, of_decide_eq_true (and2.mp hh).2⟩] at q_14; exact q_14 rfl)) (by decide))
theorem c_R_peak (b : rk_H) (A : Nat → Nat) (X : rX) (s : aS) (k : rA A) (kX : rOK X s) (ok : aOK s)  : rk_Con mR_peak (1, 13, 0, 0) [.ref (A 0)] (rv b A X) (rPo b A (some (.int 0)) (opPeak s)) := by
  have hn := ok.1.1
  have hbd := ok.1.2.1.bd
  refine rk_Con.of [some (.ref (A 0))] rfl (Nat.le_of_ble_eq_true rfl) (by decide +kernel) ?_
  refine rk_aload_n dR_peak_0 rfl ?_
  refine rk_iconst (v := 0) dR_peak_1 (by decide) ?_
  refine rk_putf pR_85 dR_peak_2 k.m (Nat.le_of_ble_eq_true rfl) rfl rfl ?_
  rw [k.ufa]
  skip
  have kY : rOK (X.wfa 0) s := kX
  have hfa : (X.wfa 0).fa = 0 := rfl
  generalize X.wfa 0 = Y at kY hfa ⊢
  have nd : ∀ x, ouB x (nI Y.no) = !ndB s x := fun x => kY.nd hn
  have eN := kY.1.1
  obtain ⟨-, ⟨b1, b2⟩, -, d1, -, -⟩ := id kY
  refine rk_aload_n dR_peak_5 rfl ?_
  refine rk_getf fR_109 dR_peak_6 k.m rfl ?_
  rw [b2]
  refine rk_if_eq 19 dR_peak_9 (by decide) (fun q_9 => ?_) (fun q_9 => ?_)
  · refine rk_aload_n dR_peak_19 rfl ?_
    refine rk_iconst (v := 1) dR_peak_20 (by decide) ?_
    refine rk_cvV (c_R_fail b A Y k 1) cR_98 dR_peak_21 rfl lR_fail (Nat.le_of_ble_eq_true rfl) (Nat.le_of_ble_eq_true rfl) (Nat.le_of_ble_eq_true rfl) (Nat.le_of_ble_eq_true rfl) k.m ?_
    exact rk_iret rfl dR_peak_24 ⟨(Nat.le_of_ble_eq_true rfl), (Nat.le_of_ble_eq_true rfl)⟩ (by first | exact rPo.fl (c := 1) kY (by unfold opPeak; cases ho : s.out with | none => rfl | some o => exact if_neg (by rw [b2p q_9]; decide)) (by decide) | (obtain ⟨o, e1, -, -, -, -, e2⟩ := d1 (b2p' q_9); exact rPo.go (by unfold opPeak; rw [e1]; exact (if_pos (b2p' q_9)).trans (by rw [e2])) hfa kY))
  · refine rk_aload_n dR_peak_12 rfl ?_
    refine rk_getf fR_158 dR_peak_13 k.m rfl ?_
    refine rk_goto 24 dR_peak_16 (by decide) ?_
    exact rk_iret rfl dR_peak_24 ⟨(Nat.le_of_ble_eq_true rfl), (Nat.le_of_ble_eq_true rfl)⟩ (by first | exact rPo.fl (c := 1) kY (by unfold opPeak; cases ho : s.out with | none => rfl | some o => exact if_neg (by rw [b2p q_9]; decide)) (by decide) | (obtain ⟨o, e1, -, -, -, -, e2⟩ := d1 (b2p' q_9); exact rPo.go (by unfold opPeak; rw [e1]; exact (if_pos (b2p' q_9)).trans (by rw [e2])) hfa kY))
theorem w_3 {w : Int32} (h0 : 0 ≤ w) (h3 : w < 4) (n0 : ¬ w = 0) (n1 : ¬ w = 1) (n2 : ¬ w = 2) : w = 3 := by
  obtain ⟨j, hj, rfl⟩ := idxK (n := 4) (by omega) h0 h3
  rcases (show j = 0 ∨ j = 1 ∨ j = 2 ∨ j = 3 by omega) with rfl | rfl | rfl | rfl
  · exact absurd rfl n0
  · exact absurd rfl n1
  · exact absurd rfl n2
  · rfl
theorem c_R_about (b : rk_H) (A : Nat → Nat) (X : rX) (s : aS) (k : rA A) (kX : rOK X s) (ok : aOK s) (x w : Int32) : rk_Con mR_about (1, 14, 0, 0) [.ref (A 0), .int x, .int w] (rv b A X) (rPo b A (some (.int 0)) (opAbout s x w)) := by
  have hn := ok.1.1
  have hbd := ok.1.2.1.bd
  refine rk_Con.of [some (.ref (A 0)), some (.int x), some (.int w), none] rfl (Nat.le_of_ble_eq_true rfl) (by decide +kernel) ?_
  refine rk_aload_n dR_about_0 rfl ?_
  refine rk_iconst (v := 0) dR_about_1 (by decide) ?_
  refine rk_putf pR_85 dR_about_2 k.m (Nat.le_of_ble_eq_true rfl) rfl rfl ?_
  rw [k.ufa]
  skip
  have kY : rOK (X.wfa 0) s := kX
  have hfa : (X.wfa 0).fa = 0 := rfl
  generalize X.wfa 0 = Y at kY hfa ⊢
  have nd : ∀ x, ouB x (nI Y.no) = !ndB s x := fun x => kY.nd hn
  have eN := kY.1.1
  have h8 : ∀ v : Int32, ouB v 8 = !btB v 0 7 := fun v => (ou_n (x := v) (n := 8) (by omega)).trans (by rw [show nI 8 - 1 = (7 : Int32) from by decide])
  obtain ⟨-, ⟨b1, b2⟩, -, d1, -, -⟩ := id kY
  have hin := ok.1.2.1.inn
  refine rk_aload_n dR_about_5 rfl ?_
  refine rk_iload_n dR_about_6 rfl ?_
  refine rk_aload_n dR_about_7 rfl ?_
  refine rk_getf fR_106 dR_about_8 k.m rfl ?_
  refine rk_cvV (c_R_out b A Y x (nI Y.no)) cR_94 dR_about_11 rfl lR_out (Nat.le_of_ble_eq_true rfl) (Nat.le_of_ble_eq_true rfl) (Nat.le_of_ble_eq_true rfl) (Nat.le_of_ble_eq_true rfl) k.m ?_
  rw [nd]
  refine rk_if_ne 27 dR_about_14 (by decide) (fun q_14 => ?_) (fun q_14 => ?_)
  · refine rk_aload_n dR_about_27 rfl ?_
    refine rk_iconst (v := 1) dR_about_28 (by decide) ?_
    refine rk_cvV (c_R_fail b A Y k 1) cR_98 dR_about_29 rfl lR_fail (Nat.le_of_ble_eq_true rfl) (Nat.le_of_ble_eq_true rfl) (Nat.le_of_ble_eq_true rfl) (Nat.le_of_ble_eq_true rfl) k.m ?_
    exact rk_iret rfl dR_about_32 ⟨(Nat.le_of_ble_eq_true rfl), (Nat.le_of_ble_eq_true rfl)⟩ (rPo.fl (c := 1) kY (if_neg (fun hh => by have h2 := and2.mp hh; first | exact absurd h2.1 (by rw [b2n' q_14]; decide) | exact absurd h2.2 (by rw [b2n' q_24]; decide))) (by decide))
  · refine rk_aload_n dR_about_17 rfl ?_
    refine rk_iload_n dR_about_18 rfl ?_
    refine rk_bipush (v := 8) dR_about_19 (by decide) ?_
    refine rk_cvV (c_R_out b A Y w 8) cR_94 dR_about_21 rfl lR_out (Nat.le_of_ble_eq_true rfl) (Nat.le_of_ble_eq_true rfl) (Nat.le_of_ble_eq_true rfl) (Nat.le_of_ble_eq_true rfl) k.m ?_
    rw [h8]
    refine rk_if_eq 33 dR_about_24 (by decide) (fun q_24 => ?_) (fun q_24 => ?_)
    · have hgg : (ndB s x && btB w 0 7) = true := by rw [b2n q_14, b2n q_24]; rfl
      obtain ⟨j, hj, rfl⟩ := ndB_of hn (b2n q_14)
      have htj : tN (nI j) = j := tN_I (by omega)
      refine rk_iload_n dR_about_33 rfl ?_
      refine rk_if_ne 44 dR_about_34 (by decide) (fun q_34 => ?_) (fun q_34 => ?_)
      · refine rk_iload_n dR_about_44 rfl ?_
        refine rk_iconst (v := 4) dR_about_45 (by decide) ?_
        refine rk_icmp_ge 84 dR_about_46 (by decide) (fun q_46 => ?_) (fun q_46 => ?_)
        · refine rk_aload_n dR_about_84 rfl ?_
          refine rk_getf fR_109 dR_about_85 k.m rfl ?_
          rw [b2]
          refine rk_if_ne 97 dR_about_88 (by decide) (fun q_88 => ?_) (fun q_88 => ?_)
          · have hc := b2p' q_88
            obtain ⟨o, e1, ⟨p1, p2⟩, p3, p4, -, -⟩ := d1 hc
            have hsl := stS_le hin j hj
            have hop : opAbout s (nI j) w = abPlan s o j w := (if_pos hgg).trans ((if_neg (Int32.not_lt.mpr q_46)).trans (by unfold abOut; rw [htj, e1]; exact if_pos hc))
            refine rk_aload_n dR_about_97 rfl ?_
            refine rk_getf fR_64 dR_about_98 k.m rfl ?_
            refine rk_iload_n dR_about_101 rfl ?_
            refine rk_iald dR_about_102 k.st (vp_in_nI (show j < 14 by omega) (by omega)) ?_
            rw [nI_clamp (show j < 2 ^ 31 by omega), p1 j hj]
            refine rk_istore_n dR_about_103 (Nat.le_of_ble_eq_true rfl) ?_
            refine rk_lv [some (.ref (A 0)), some (.int (nI j)), some (.int w), some (.int (nI (stS s.N j)))] ⟨rfl, rfl, rfl, rfl, trivial⟩ ?_
            refine rk_iload_n dR_about_104 rfl ?_
            refine rk_iconst (v := 4) dR_about_105 (by decide) ?_
            refine rk_icmp_ne 111 dR_about_106 (by decide) (fun q_106 => ?_) (fun q_106 => ?_)
            · refine rk_iload_n dR_about_111 rfl ?_
              refine rk_iconst (v := 5) dR_about_112 (by decide) ?_
              refine rk_icmp_ne 123 dR_about_113 (by decide) (fun q_113 => ?_) (fun q_113 => ?_)
              · refine rk_aload_n dR_about_123 rfl ?_
                refine rk_getf fR_67 dR_about_124 k.m rfl ?_
                refine rk_iload_n dR_about_127 rfl ?_
                refine rk_iald dR_about_128 k.ro (vp_in_nI (show stS s.N j < 14 by omega) (by omega)) ?_
                rw [nI_clamp (show stS s.N j < 2 ^ 31 by omega), p2 _ (by omega)]
                refine rk_iconst (v := 2) dR_about_129 (by decide) ?_
                refine rk_icmp_eq 139 dR_about_130 (by decide) (fun q_130 => ?_) (fun q_130 => ?_)
                · have hr2 : pR s.N s.n o (stS s.N j) = 2 := (nI_eq (b := 2) (by have := pR_le s.N s.n o (stS s.N j); omega) (by omega)).mp q_130
                  have hpf := plT_full (R := pR s.N s.n o) (T := pT s.N s.n o) (L := pL s.N s.n o) hbd hn (show stS s.N j < s.n by omega) hr2
                  refine rk_iload_n dR_about_139 rfl ?_
                  refine rk_bipush (v := 6) dR_about_140 (by decide) ?_
                  refine rk_icmp_ne 154 dR_about_142 (by decide) (fun q_142 => ?_) (fun q_142 => ?_)
                  · refine rk_aload_n dR_about_154 rfl ?_
                    refine rk_getf fR_76 dR_about_155 k.m rfl ?_
                    refine rk_iload_n dR_about_158 rfl ?_
                    refine rk_iald dR_about_159 k.pl (vp_in_nI (show stS s.N j < 14 by omega) (by omega)) ?_
                    first | rw [nI_clamp (show stS s.N j < 2 ^ 31 by omega), p4 _ (by omega)] | skip
                    exact rk_iret rfl dR_about_160 ⟨(Nat.le_of_ble_eq_true rfl), (Nat.le_of_ble_eq_true rfl)⟩ (by first | exact rPo.go (hop.trans ((if_neg q_106).trans ((if_neg q_113).trans ((if_pos hr2).trans (by rw [if_pos q_142]))))) hfa kY | (obtain ⟨t, ht⟩ := hpf; exact rPo.go (hop.trans ((if_neg q_106).trans ((if_neg q_113).trans ((if_pos hr2).trans (by rw [if_neg q_142]; unfold plN; rw [show (pP s.N s.n o).1 (stS s.N j) = some t from ht]; rfl))))) hfa kY))
                  · refine rk_aload_n dR_about_145 rfl ?_
                    refine rk_getf fR_70 dR_about_146 k.m rfl ?_
                    refine rk_iload_n dR_about_149 rfl ?_
                    refine rk_iald dR_about_150 k.sp (vp_in_nI (show stS s.N j < 14 by omega) (by omega)) ?_
                    rw [nI_clamp (show stS s.N j < 2 ^ 31 by omega), p3 _ (by omega) hr2]
                    refine rk_goto 160 dR_about_151 (by decide) ?_
                    first | rw [nI_clamp (show stS s.N j < 2 ^ 31 by omega), p4 _ (by omega)] | skip
                    exact rk_iret rfl dR_about_160 ⟨(Nat.le_of_ble_eq_true rfl), (Nat.le_of_ble_eq_true rfl)⟩ (by first | exact rPo.go (hop.trans ((if_neg q_106).trans ((if_neg q_113).trans ((if_pos hr2).trans (by rw [if_pos q_142]))))) hfa kY | (obtain ⟨t, ht⟩ := hpf; exact rPo.go (hop.trans ((if_neg q_106).trans ((if_neg q_113).trans ((if_pos hr2).trans (by rw [if_neg q_142]; unfold plN; rw [show (pP s.N s.n o).1 (stS s.N j) = some t from ht]; rfl))))) hfa kY))
                · refine rk_aload_n dR_about_133 rfl ?_
                  refine rk_iconst (v := 3) dR_about_134 (by decide) ?_
                  refine rk_cvV (c_R_fail b A Y k 3) cR_98 dR_about_135 rfl lR_fail (Nat.le_of_ble_eq_true rfl) (Nat.le_of_ble_eq_true rfl) (Nat.le_of_ble_eq_true rfl) (Nat.le_of_ble_eq_true rfl) k.m ?_
                  exact rk_iret rfl dR_about_138 ⟨(Nat.le_of_ble_eq_true rfl), (Nat.le_of_ble_eq_true rfl)⟩ (rPo.fl (c := 3) kY (hop.trans ((if_neg q_106).trans ((if_neg q_113).trans (if_neg (fun z => q_130 (by rw [z]; rfl)))))) (by decide))
              · refine rk_aload_n dR_about_116 rfl ?_
                refine rk_getf fR_67 dR_about_117 k.m rfl ?_
                refine rk_iload_n dR_about_120 rfl ?_
                refine rk_iald dR_about_121 k.ro (vp_in_nI (show stS s.N j < 14 by omega) (by omega)) ?_
                rw [nI_clamp (show stS s.N j < 2 ^ 31 by omega), p2 _ (by omega)]
                exact rk_iret rfl dR_about_122 ⟨(Nat.le_of_ble_eq_true rfl), (Nat.le_of_ble_eq_true rfl)⟩ (rPo.go (hop.trans ((if_neg q_106).trans (if_pos q_113))) hfa kY)
            · refine rk_iload_n dR_about_109 rfl ?_
              exact rk_iret rfl dR_about_110 ⟨(Nat.le_of_ble_eq_true rfl), (Nat.le_of_ble_eq_true rfl)⟩ (rPo.go (hop.trans (if_pos q_106)) hfa kY)
          · refine rk_aload_n dR_about_91 rfl ?_
            refine rk_iconst (v := 2) dR_about_92 (by decide) ?_
            refine rk_cvV (c_R_fail b A Y k 2) cR_98 dR_about_93 rfl lR_fail (Nat.le_of_ble_eq_true rfl) (Nat.le_of_ble_eq_true rfl) (Nat.le_of_ble_eq_true rfl) (Nat.le_of_ble_eq_true rfl) k.m ?_
            exact rk_iret rfl dR_about_96 ⟨(Nat.le_of_ble_eq_true rfl), (Nat.le_of_ble_eq_true rfl)⟩ (rPo.fl (c := 2) kY ((if_pos hgg).trans ((if_neg (Int32.not_lt.mpr q_46)).trans (by unfold abOut; cases ho : s.out with | none => rfl | some o => exact if_neg (by rw [b2p q_88]; decide)))) (by decide))
        · refine rk_iload_n dR_about_49 rfl ?_
          refine rk_iconst (v := 1) dR_about_50 (by decide) ?_
          refine rk_icmp_ne 63 dR_about_51 (by decide) (fun q_51 => ?_) (fun q_51 => ?_)
          · refine rk_iload_n dR_about_63 rfl ?_
            refine rk_iconst (v := 2) dR_about_64 (by decide) ?_
            refine rk_icmp_ne 77 dR_about_65 (by decide) (fun q_65 => ?_) (fun q_65 => ?_)
            · refine rk_aload_n dR_about_77 rfl ?_
              refine rk_getf fR_32 dR_about_78 k.m rfl ?_
              refine rk_iload_n dR_about_81 rfl ?_
              refine rk_iald dR_about_82 k.de (vp_in_nI (show j < 14 by omega) (by omega)) ?_
              first | rw [nI_clamp (show j < 2 ^ 31 by omega), eN] | skip
              exact rk_iret rfl dR_about_83 ⟨(Nat.le_of_ble_eq_true rfl), (Nat.le_of_ble_eq_true rfl)⟩ (by have h0 := (btB_iff.mp (b2n q_24)).1; have h3 := Int32.not_le.mp q_46; first | exact rPo.go ((if_pos hgg).trans ((if_pos h3).trans (by rw [htj]; unfold abMade; rw [if_pos q_51]))) hfa kY | exact rPo.go ((if_pos hgg).trans ((if_pos h3).trans (by rw [htj]; unfold abMade; rw [if_neg q_51, if_pos q_65]))) hfa kY | exact rPo.go ((if_pos hgg).trans ((if_pos h3).trans (by rw [htj]; unfold abMade; rw [if_neg q_51, if_neg q_65, if_pos (w_3 h0 h3 q_34 q_51 q_65)]))) hfa kY)
            · refine rk_aload_n dR_about_68 rfl ?_
              refine rk_getf fR_29 dR_about_69 k.m rfl ?_
              refine rk_iload_n dR_about_72 rfl ?_
              refine rk_iald dR_about_73 k.wi (vp_in_nI (show j < 14 by omega) (by omega)) ?_
              rw [nI_clamp (show j < 2 ^ 31 by omega), eN]
              refine rk_goto 83 dR_about_74 (by decide) ?_
              first | rw [nI_clamp (show j < 2 ^ 31 by omega), eN] | skip
              exact rk_iret rfl dR_about_83 ⟨(Nat.le_of_ble_eq_true rfl), (Nat.le_of_ble_eq_true rfl)⟩ (by have h0 := (btB_iff.mp (b2n q_24)).1; have h3 := Int32.not_le.mp q_46; first | exact rPo.go ((if_pos hgg).trans ((if_pos h3).trans (by rw [htj]; unfold abMade; rw [if_pos q_51]))) hfa kY | exact rPo.go ((if_pos hgg).trans ((if_pos h3).trans (by rw [htj]; unfold abMade; rw [if_neg q_51, if_pos q_65]))) hfa kY | exact rPo.go ((if_pos hgg).trans ((if_pos h3).trans (by rw [htj]; unfold abMade; rw [if_neg q_51, if_neg q_65, if_pos (w_3 h0 h3 q_34 q_51 q_65)]))) hfa kY)
          · refine rk_aload_n dR_about_54 rfl ?_
            refine rk_getf fR_26 dR_about_55 k.m rfl ?_
            refine rk_iload_n dR_about_58 rfl ?_
            refine rk_iald dR_about_59 k.hi (vp_in_nI (show j < 14 by omega) (by omega)) ?_
            rw [nI_clamp (show j < 2 ^ 31 by omega), eN]
            refine rk_goto 83 dR_about_60 (by decide) ?_
            first | rw [nI_clamp (show j < 2 ^ 31 by omega), eN] | skip
            exact rk_iret rfl dR_about_83 ⟨(Nat.le_of_ble_eq_true rfl), (Nat.le_of_ble_eq_true rfl)⟩ (by have h0 := (btB_iff.mp (b2n q_24)).1; have h3 := Int32.not_le.mp q_46; first | exact rPo.go ((if_pos hgg).trans ((if_pos h3).trans (by rw [htj]; unfold abMade; rw [if_pos q_51]))) hfa kY | exact rPo.go ((if_pos hgg).trans ((if_pos h3).trans (by rw [htj]; unfold abMade; rw [if_neg q_51, if_pos q_65]))) hfa kY | exact rPo.go ((if_pos hgg).trans ((if_pos h3).trans (by rw [htj]; unfold abMade; rw [if_neg q_51, if_neg q_65, if_pos (w_3 h0 h3 q_34 q_51 q_65)]))) hfa kY)
      · refine rk_aload_n dR_about_37 rfl ?_
        refine rk_getf fR_17 dR_about_38 k.m rfl ?_
        refine rk_iload_n dR_about_41 rfl ?_
        refine rk_iald dR_about_42 k.kd (vp_in_nI (show j < 14 by omega) (by omega)) ?_
        rw [nI_clamp (show j < 2 ^ 31 by omega), eN]
        exact rk_iret rfl dR_about_43 ⟨(Nat.le_of_ble_eq_true rfl), (Nat.le_of_ble_eq_true rfl)⟩ (rPo.go ((if_pos hgg).trans ((if_pos (by rw [q_34]; decide)).trans (by rw [htj]; unfold abMade; rw [q_34]; rfl))) hfa kY)
    · refine rk_aload_n dR_about_27 rfl ?_
      refine rk_iconst (v := 1) dR_about_28 (by decide) ?_
      refine rk_cvV (c_R_fail b A Y k 1) cR_98 dR_about_29 rfl lR_fail (Nat.le_of_ble_eq_true rfl) (Nat.le_of_ble_eq_true rfl) (Nat.le_of_ble_eq_true rfl) (Nat.le_of_ble_eq_true rfl) k.m ?_
      exact rk_iret rfl dR_about_32 ⟨(Nat.le_of_ble_eq_true rfl), (Nat.le_of_ble_eq_true rfl)⟩ (rPo.fl (c := 1) kY (if_neg (fun hh => by have h2 := and2.mp hh; first | exact absurd h2.1 (by rw [b2n' q_14]; decide) | exact absurd h2.2 (by rw [b2n' q_24]; decide))) (by decide))
theorem c_R_feed (b : rk_H) (A : Nat → Nat) (X : rX) (s : aS) (k : rA A) (kX : rOK X s) (ok : aOK s) (x fr : Int32) (v : Int64) : rk_Con mR_feed (1, 15, 0, 0) [.ref (A 0), .int x, .int fr, .long v] (rv b A X) (rPo b A (some (.int 0)) (opFeed s x fr v)) := by
  have hn := ok.1.1
  have hbd := ok.1.2.1.bd
  refine rk_Con.of [some (.ref (A 0)), some (.int x), some (.int fr), some (.long v), none, none, none] rfl (Nat.le_of_ble_eq_true rfl) (by decide +kernel) ?_
  refine rk_aload_n dR_feed_0 rfl ?_
  refine rk_iconst (v := 0) dR_feed_1 (by decide) ?_
  refine rk_putf pR_85 dR_feed_2 k.m (Nat.le_of_ble_eq_true rfl) rfl rfl ?_
  rw [k.ufa]
  skip
  have kY : rOK (X.wfa 0) s := kX
  have hfa : (X.wfa 0).fa = 0 := rfl
  generalize X.wfa 0 = Y at kY hfa ⊢
  have nd : ∀ x, ouB x (nI Y.no) = !ndB s x := fun x => kY.nd hn
  have eN := kY.1.1
  have loop : ∀ (j t : Nat) (W : rX) (f : Nat → Int32), j < s.n → t < (s.N j).ce → (s.N j).ce ≤ 128 → ∀ (k1 i : Nat) (Z : rX), i + k1 = min 8 ((s.N j).ce - t) → Z.fe = itf (fun i _ => b8 v i) (128 * j + t) i f → Z.N = s.N → Z.wfe (stp (128 * j + t) (min 8 ((s.N j).ce - t)) (b8 v) f) = W → rk_Run mR_feed (1, 15, 0, 0) (rk_Rv (.int (nI (min 8 ((s.N j).ce - t)))) (rv b A W)) 51 [some (.ref (A 0)), some (.int (nI j)), some (.int (nI t)), some (.long v), none, some (.int (nI i)), some (.int (nI i))] [] (rv b A Z) (0, 0) := by
    intro j t W f hj ht hce k1
    induction k1 with
    | zero =>
      intro i Z hi hw eZN hz
      have hi : i = min 8 ((s.N j).ce - t) := by omega
      subst hi
      rw [show itf (fun i _ => b8 v i) (128 * j + t) (min 8 ((s.N j).ce - t)) f = stp (128 * j + t) (min 8 ((s.N j).ce - t)) (b8 v) f from itf_stp (fun _ _ _ _ => rfl)] at hw
      rw [wfe_of hw] at hz
      subst hz
      refine rk_iload dR_feed_51 rfl ?_
      refine rk_bipush (v := 8) dR_feed_53 (by decide) ?_
      refine rk_icmp_ge 106 dR_feed_55 (by decide) (fun q_55 => ?_) (fun q_55 => ?_)
      · refine rk_iload dR_feed_106 rfl ?_
        exact rk_iret rfl dR_feed_108 ⟨(Nat.le_of_ble_eq_true rfl), (Nat.le_of_ble_eq_true rfl)⟩ (⟨rfl, rfl⟩)
      · refine rk_iload_n dR_feed_58 rfl ?_
        refine rk_iload dR_feed_59 rfl ?_
        refine rk_iadd dR_feed_61 ?_
        rw [nI_add]
        refine rk_aload_n dR_feed_62 rfl ?_
        refine rk_iload_n dR_feed_63 rfl ?_
        refine rk_cvV (c_R_cells b A Z k j (by omega)) cR_137 dR_feed_64 rfl lR_cells (Nat.le_of_ble_eq_true rfl) (Nat.le_of_ble_eq_true rfl) (Nat.le_of_ble_eq_true rfl) (Nat.le_of_ble_eq_true rfl) k.m ?_
        rw [eZN]
        refine rk_icmp_ge 106 dR_feed_67 (by decide) (fun q_67 => ?_) (fun q_67 => ?_)
        · refine rk_iload dR_feed_106 rfl ?_
          exact rk_iret rfl dR_feed_108 ⟨(Nat.le_of_ble_eq_true rfl), (Nat.le_of_ble_eq_true rfl)⟩ (⟨rfl, rfl⟩)
        · exact absurd (nI_le (a := (s.N j).ce) (by have := mt (nI_leI (a := 8) (b := min 8 ((s.N j).ce - t)) (by omega) (by omega)).mpr q_55; omega) (by omega)) q_67
    | succ k1 ih =>
      intro i Z hi hw eZN hz
      refine rk_iload dR_feed_51 rfl ?_
      refine rk_bipush (v := 8) dR_feed_53 (by decide) ?_
      refine rk_icmp_ge 106 dR_feed_55 (by decide) (fun q_55 => (by exact absurd q_55 (nI_ge (b := 8) (by omega) (by omega)))) (fun q_55 => ?_)
      refine rk_iload_n dR_feed_58 rfl ?_
      refine rk_iload dR_feed_59 rfl ?_
      refine rk_iadd dR_feed_61 ?_
      rw [nI_add]
      refine rk_aload_n dR_feed_62 rfl ?_
      refine rk_iload_n dR_feed_63 rfl ?_
      refine rk_cvV (c_R_cells b A Z k j (by omega)) cR_137 dR_feed_64 rfl lR_cells (Nat.le_of_ble_eq_true rfl) (Nat.le_of_ble_eq_true rfl) (Nat.le_of_ble_eq_true rfl) (Nat.le_of_ble_eq_true rfl) k.m ?_
      rw [eZN]
      refine rk_icmp_ge 106 dR_feed_67 (by decide) (fun q_67 => (by exact absurd q_67 (nI_ge (by omega) (by omega)))) (fun q_67 => ?_)
      refine rk_aload_n dR_feed_70 rfl ?_
      refine rk_getf fR_57 dR_feed_71 k.m rfl ?_
      refine rk_sipush (v := 128) dR_feed_74 (by decide) ?_
      refine rk_iload_n dR_feed_77 rfl ?_
      refine rk_imul dR_feed_78 ?_
      rw [show (128 : Int32) = nI 128 from rfl, pk_mul]
      refine rk_iload_n dR_feed_79 rfl ?_
      refine rk_iadd dR_feed_80 ?_
      rw [nI_add]
      refine rk_iload dR_feed_81 rfl ?_
      refine rk_iadd dR_feed_83 ?_
      rw [nI_add]
      refine rk_lload_n dR_feed_84 rfl ?_
      refine rk_bipush (v := 56) dR_feed_85 (by decide) ?_
      refine rk_bipush (v := 8) dR_feed_87 (by decide) ?_
      refine rk_iload dR_feed_89 rfl ?_
      refine rk_imul dR_feed_91 ?_
      refine rk_isub dR_feed_92 ?_
      rw [sh_8 (show i < 8 by omega)]
      refine rk_lshr dR_feed_93 ?_
      refine rk_l2i dR_feed_94 ?_
      refine rk_i2b dR_feed_95 ?_
      refine rk_iast dR_feed_96 k.fe (vp_in_nI (show 128 * j + t + i < 1792 by omega) (by omega)) ?_
      rw [k.ufe]
      refine rk_iinc dR_feed_97 rfl (inc1 i) (Nat.le_of_ble_eq_true rfl) ?_
      refine rk_iinc dR_feed_100 rfl (inc1 i) (Nat.le_of_ble_eq_true rfl) ?_
      refine rk_goto 51 dR_feed_103 (by decide) ?_
      rw [nI_clamp (show 128 * j + t + i < 2 ^ 31 by omega)]
      exact ih (i + 1) (Z.wfe (upd Z.fe (128 * j + t + i) (b8 v i))) (by omega) (by rw [itf_s, ← hw]; rfl) (wfe_N.trans eZN) (by rw [wfe_wfe]; exact hz)
  have eT : ∀ j t : Nat, j < s.n → (s.N j).kd = 0 → t < (s.N j).ce → (s.N j).ce ≤ 128 → ∀ r h', rk_Rv (.int (nI (min 8 ((s.N j).ce - t)))) (rv b A (Y.wfe (stp (128 * j + t) (min 8 ((s.N j).ce - t)) (b8 v) Y.fe))) r h' → rPo b A (some (.int 0)) (opFeed s (nI j) (nI t) v) r h' := by
    rintro j t hj h0 ht hce r h' ⟨rfl, rfl⟩
    have hg : (ndB s (nI j) && decide ((s.N (tN (nI j))).kd = 0) && btB (nI t) 0 (nI (s.N (tN (nI j))).ce - 1)) = true := by
      rw [ndB_I hn hj, tN_I (show j < 2 ^ 31 by omega), decide_eq_true h0]
      have := ou_n (x := nI t) (n := (s.N j).ce) (by omega)
      rw [ouB_f.mpr ⟨nI_pos' (by omega), nI_lt ht (by omega)⟩] at this
      cases hb : btB (nI t) 0 (nI (s.N j).ce - 1) with
      | true => rfl
      | false => rw [hb] at this; cases this
    refine rPo.go (X := Y.wfe (stp (128 * j + t) (min 8 ((s.N j).ce - t)) (b8 v) Y.fe)) ((if_pos hg).trans (by rw [tN_I (show j < 2 ^ 31 by omega), tN_I (show t < 2 ^ 31 by omega)])) (wfe_fa.trans hfa) ?_
    have c1 := kY.2.2.1
    refine kY.wfe _ j _ ?_
    intro i q hq
    by_cases hi : i = j
    · subst hi
      rw [if_pos rfl]
      unfold spr stp
      by_cases hc : t ≤ q ∧ q < t + min 8 ((s.N i).ce - t)
      · rw [if_pos (by omega), if_pos hc]
        congr 1
        omega
      · rw [if_neg (by omega), if_neg hc]
        exact c1 i q hq
    · rw [if_neg hi, stp_out (by omega)]
      exact c1 i q hq
  refine rk_aload_n dR_feed_5 rfl ?_
  refine rk_iload_n dR_feed_6 rfl ?_
  refine rk_aload_n dR_feed_7 rfl ?_
  refine rk_getf fR_106 dR_feed_8 k.m rfl ?_
  refine rk_cvV (c_R_out b A Y x (nI Y.no)) cR_94 dR_feed_11 rfl lR_out (Nat.le_of_ble_eq_true rfl) (Nat.le_of_ble_eq_true rfl) (Nat.le_of_ble_eq_true rfl) (Nat.le_of_ble_eq_true rfl) k.m ?_
  rw [nd]
  refine rk_if_ne 39 dR_feed_14 (by decide) (fun q_14 => ?_) (fun q_14 => ?_)
  · refine rk_aload_n dR_feed_39 rfl ?_
    refine rk_iconst (v := 1) dR_feed_40 (by decide) ?_
    refine rk_cvV (c_R_fail b A Y k 1) cR_98 dR_feed_41 rfl lR_fail (Nat.le_of_ble_eq_true rfl) (Nat.le_of_ble_eq_true rfl) (Nat.le_of_ble_eq_true rfl) (Nat.le_of_ble_eq_true rfl) k.m ?_
    exact rk_iret rfl dR_feed_44 ⟨(Nat.le_of_ble_eq_true rfl), (Nat.le_of_ble_eq_true rfl)⟩ (rPo.fl (c := 1) kY (if_neg (fun hh => by have h2 := and2.mp hh; have h3 := and2.mp h2.1; first | exact absurd h3.1 (by rw [b2n' q_14]; decide) | exact q_23 (e0.mpr (by rw [← htj]; exact of_decide_eq_true h3.2)) | exact absurd h2.2 (by rw [htj, b2n' q_36]; decide))) (by decide))
  · obtain ⟨j, hj, rfl⟩ := ndB_of hn (b2n q_14)
    have htj : tN (nI j) = j := tN_I (by omega)
    have hce := (hbd j hj).ce
    have e0 : nI (s.N j).kd = 0 ↔ (s.N j).kd = 0 := nI_eq (b := 0) (by have := (hbd j hj).1.1; omega) (by omega)
    refine rk_aload_n dR_feed_17 rfl ?_
    refine rk_getf fR_17 dR_feed_18 k.m rfl ?_
    refine rk_iload_n dR_feed_21 rfl ?_
    refine rk_iald dR_feed_22 k.kd (vp_in_nI (show j < 14 by omega) (by omega)) ?_
    rw [nI_clamp (show j < 2 ^ 31 by omega), eN]
    refine rk_if_ne 39 dR_feed_23 (by decide) (fun q_23 => ?_) (fun q_23 => ?_)
    · refine rk_aload_n dR_feed_39 rfl ?_
      refine rk_iconst (v := 1) dR_feed_40 (by decide) ?_
      refine rk_cvV (c_R_fail b A Y k 1) cR_98 dR_feed_41 rfl lR_fail (Nat.le_of_ble_eq_true rfl) (Nat.le_of_ble_eq_true rfl) (Nat.le_of_ble_eq_true rfl) (Nat.le_of_ble_eq_true rfl) k.m ?_
      exact rk_iret rfl dR_feed_44 ⟨(Nat.le_of_ble_eq_true rfl), (Nat.le_of_ble_eq_true rfl)⟩ (rPo.fl (c := 1) kY (if_neg (fun hh => by have h2 := and2.mp hh; have h3 := and2.mp h2.1; first | exact absurd h3.1 (by rw [b2n' q_14]; decide) | exact q_23 (e0.mpr (by rw [← htj]; exact of_decide_eq_true h3.2)) | exact absurd h2.2 (by rw [htj, b2n' q_36]; decide))) (by decide))
    · refine rk_aload_n dR_feed_26 rfl ?_
      refine rk_iload_n dR_feed_27 rfl ?_
      refine rk_aload_n dR_feed_28 rfl ?_
      refine rk_iload_n dR_feed_29 rfl ?_
      refine rk_cvV (c_R_cells b A Y k j (by omega)) cR_137 dR_feed_30 rfl lR_cells (Nat.le_of_ble_eq_true rfl) (Nat.le_of_ble_eq_true rfl) (Nat.le_of_ble_eq_true rfl) (Nat.le_of_ble_eq_true rfl) k.m ?_
      rw [eN]
      refine rk_cvV (c_R_out b A Y fr (nI (s.N j).ce)) cR_94 dR_feed_33 rfl lR_out (Nat.le_of_ble_eq_true rfl) (Nat.le_of_ble_eq_true rfl) (Nat.le_of_ble_eq_true rfl) (Nat.le_of_ble_eq_true rfl) k.m ?_
      rw [ou_n (by omega)]
      refine rk_if_eq 45 dR_feed_36 (by decide) (fun q_36 => ?_) (fun q_36 => ?_)
      · have hkd := e0.mp q_23
        have hx := ouB_f.mp (show ouB fr (nI (s.N j).ce) = false by rw [ou_n (by omega), b2n q_36]; rfl)
        obtain ⟨t, ht, rfl⟩ := idxK (by omega) hx.1 hx.2
        refine rk_iconst (v := 0) dR_feed_45 (by decide) ?_
        refine rk_istore dR_feed_46 (Nat.le_of_ble_eq_true rfl) ?_
        refine rk_iconst (v := 0) dR_feed_48 (by decide) ?_
        refine rk_istore dR_feed_49 (Nat.le_of_ble_eq_true rfl) ?_
        refine rk_lv [some (.ref (A 0)), some (.int (nI j)), some (.int (nI t)), some (.long v), none, some (.int (nI 0)), some (.int (nI 0))] ⟨rfl, rfl, rfl, rfl, rfl, rfl, trivial⟩ ?_
        exact rk_mono (eT j t hj hkd ht hce) (loop j t _ Y.fe hj ht hce _ 0 Y (Nat.zero_add _) rfl eN rfl)
      · refine rk_aload_n dR_feed_39 rfl ?_
        refine rk_iconst (v := 1) dR_feed_40 (by decide) ?_
        refine rk_cvV (c_R_fail b A Y k 1) cR_98 dR_feed_41 rfl lR_fail (Nat.le_of_ble_eq_true rfl) (Nat.le_of_ble_eq_true rfl) (Nat.le_of_ble_eq_true rfl) (Nat.le_of_ble_eq_true rfl) k.m ?_
        exact rk_iret rfl dR_feed_44 ⟨(Nat.le_of_ble_eq_true rfl), (Nat.le_of_ble_eq_true rfl)⟩ (rPo.fl (c := 1) kY (if_neg (fun hh => by have h2 := and2.mp hh; have h3 := and2.mp h2.1; first | exact absurd h3.1 (by rw [b2n' q_14]; decide) | exact q_23 (e0.mpr (by rw [← htj]; exact of_decide_eq_true h3.2)) | exact absurd h2.2 (by rw [htj, b2n' q_36]; decide))) (by decide))
