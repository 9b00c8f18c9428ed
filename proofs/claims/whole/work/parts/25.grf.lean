/-! Graph: findLives -/
/-- the fused node whose work m does, if there is one; who reads for m; whether m reads i -/
def fuO (N : Nat → aN) (S R : Nat → Nat) (m : Nat) : Option Nat := ((N m).one.map S).filter (fun a => decide (R a = 1))
def rdr (N : Nat → aN) (S R : Nat → Nat) (m : Nat) : Nat := match fuO N S R m with
  | none => m
  | some a => a
def rdB (N : Nat → aN) (S R : Nat → Nat) (m i : Nat) : Bool := decide ((N (rdr N S R m)).one.map S = some i) || decide ((N (rdr N S R m)).two.map S = some i)
def lvS (N : Nat → aN) (S R : Nat → Nat) (i m : Nat) (q : Nat) : Nat := if R m = 2 ∧ rdB N S R m i = true then cnt R m else q
/-- the last step of i, as far as the nodes below m know -/
def lvM (N : Nat → aN) (S R : Nat → Nat) (m i : Nat) : Nat := itr (lvS N S R i) (m - (i + 1)) (i + 1) (cnt R i)
def lvF (N : Nat → aN) (S R : Nat → Nat) (n o i : Nat) : Nat := if i = o then cnt R n - 1 else lvM N S R n i
theorem lvM_s {N : Nat → aN} {S R : Nat → Nat} {m i : Nat} (h : i < m) : lvM N S R (m + 1) i = lvS N S R i m (lvM N S R m i) := by
  unfold lvM
  rw [show m + 1 - (i + 1) = (m - (i + 1)) + 1 by omega, itr_snoc, show i + 1 + (m - (i + 1)) = m by omega]
theorem fuO_lt {N : Nat → aN} {n : Nat} {S R : Nat → Nat} (hin : inOK N n) (hSl : ∀ j : Nat, j < n → S j ≤ j) {m : Nat} (hm : m < n) {a : Nat} (ha : fuO N S R m = some a) : a < m ∧ R a = 1 := by
  unfold fuO at ha
  rw [Option.filter_eq_some_iff] at ha
  obtain ⟨h1, h2⟩ := ha
  cases ho : (N m).one with
  | none => rw [ho] at h1; cases h1
  | some z =>
    rw [ho] at h1
    have e : S z = a := Option.some.inj h1
    have q1 := (hin m hm).1 z ho
    have q2 := hSl z (by omega)
    exact ⟨by omega, of_decide_eq_true h2⟩
theorem rdr_le {N : Nat → aN} {n : Nat} {S R : Nat → Nat} (hin : inOK N n) (hSl : ∀ j : Nat, j < n → S j ≤ j) {m : Nat} (hm : m < n) : rdr N S R m ≤ m := by
  unfold rdr
  cases hf : fuO N S R m with
  | none => exact Nat.le_refl _
  | some a => exact Nat.le_of_lt (fuO_lt hin hSl hm hf).1
theorem setO_at {f : Nat → Int32} {S : Nat → Nat} {o : Option Nat} {v : Int32} (j : Nat) : setO f S o v j = if o.map S = some j then v else f j := by
  cases o with
  | none => rfl
  | some a =>
    show (if j = S a then v else f j) = _
    by_cases h : j = S a
    · rw [if_pos h, if_pos (by rw [h]; rfl)]
    · rw [if_neg h, if_neg (show ¬ Option.map S (some a) = some j from fun z => h (Option.some.inj z).symm)]
theorem c_G_findLives (b : Nat) (A : gA) (n : Nat) (N : Nat → aN) (na : Nat → Option Nat) (ad fe : Nat → Nat) (S R : Nat → Nat) (o : Nat) (X : gX) (h : rk_H) (k : gOK h b A n N na ad fe) (hX : X.n = n) (hin : inOK N n) (hS : sfK X.sf S n) (hSl : ∀ j : Nat, j < n → S j ≤ j) (hst : sfK X.st R n) (h2 : ∀ j, R j ≤ 2) (hsp : plK X.sp R (cnt R) n) (hsn : X.sn = nI (cnt R n)) (ho : o < n) (hc : 1 ≤ cnt R n) :
    rk_Con mG_findLives (2, 27, 0, 0) [.ref b, .int (nI o)] (gv h b A X) (fun r h' => r = .inl none ∧ ∃ f : Nat → Int32, h' = gv h b A (X.wla f) ∧ plK f R (lvF N S R n o) n) := by
  have hn := k.n14
  have loop : ∀ (k1 i : Nat) (f : Nat → Int32), i + k1 = n → plK f R (lvM N S R i) i → rk_Run mG_findLives (2, 27, 0, 0) (fun r h' => r = .inl none ∧ ∃ f : Nat → Int32, h' = gv h b A (X.wla f) ∧ plK f R (lvF N S R n o) n) 2 [some (.ref b), some (.int (nI o)), some (.int (nI i)), none, none] [] (gv h b A (X.wla f)) (0, 0) := by
    intro k1
    induction k1 with
    | zero =>
      intro i f hi hf
      have hi : i = n := by omega
      subst hi
      refine rk_iload_n dG_findLives_2 rfl ?_
      refine rk_aload_n dG_findLives_3 rfl ?_
      refine rk_getf fG_33 dG_findLives_4 (by first | exact k.gb | exact k.gla | assumption) rfl ?_
      rw [show (X.wla f).n = i from hX]
      refine rk_icmp_ge 91 dG_findLives_7 (by decide) (fun q_7 => ?_) (fun q_7 => ?_)
      · refine rk_aload_n dG_findLives_91 rfl ?_
        refine rk_getf fG_30 dG_findLives_92 (by first | exact k.gb | exact k.gla | assumption) rfl ?_
        refine rk_iload_n dG_findLives_95 rfl ?_
        refine rk_aload_n dG_findLives_96 rfl ?_
        refine rk_getf fG_127 dG_findLives_97 (by first | exact k.gb | exact k.gla | assumption) rfl ?_
        refine rk_iconst (v := 1) dG_findLives_100 (by decide) ?_
        refine rk_isub dG_findLives_101 ?_
        rw [show (X.wla f).sn = nI (cnt R i) from hsn, show (1 : Int32) = nI 1 from rfl, pk_sub hc]
        refine rk_iast dG_findLives_102 (by first | exact k.gb | exact k.gla | assumption) (vp_in_nI (show o < 14 by omega) (by omega)) ?_
        rw [k.ula, nI_clamp (show o < 2 ^ 31 by omega)]
        exact rk_ret rfl dG_findLives_103 ⟨(Nat.le_of_ble_eq_true rfl), (Nat.le_of_ble_eq_true rfl)⟩ (⟨rfl, _, rfl, fun j hj hj2 => by unfold lvF; show (if j = o then _ else f j) = _; split; rfl; exact hf j hj hj2⟩)
      · exact absurd (nI_le (Nat.le_refl _) (by omega)) q_7
    | succ k1 ih =>
      intro i f hi hf
      have hin' : i < n := by omega
      have hq := (k.2.1.2 i hin').1
      have hfi := hst i hin'
      have e2 : nI (R i) = 2 ↔ R i = 2 := nI2 (v := 2) (h2 i) (by omega)
      have hr := rdr_le (R := R) hin hSl hin'
      have hq2 := (k.2.1.2 (rdr N S R i) (by omega)).1
      have hrn : rdr N S R i < n := by omega
      have a1 : soK X.sf S (N (rdr N S R i)).one := soK.mk hS hSl hn (fun a ha => by have := (hin _ hrn).1 a ha; omega)
      have a2 : soK X.sf S (N (rdr N S R i)).two := soK.mk hS hSl hn (fun a ha => by have := (hin _ hrn).2 a ha; omega)
      have stay : ¬ R i = 2 → plK f R (lvM N S R (i + 1)) (i + 1) := by
        intro hz j hj hj2
        by_cases hji : j = i
        · subst hji; exact absurd hj2 hz
        · rw [hf j (by omega) hj2, lvM_s (by omega)]
          unfold lvS
          rw [if_neg (fun z => hz z.1)]
      have chg : R i = 2 → plK (setO (setO (upd f i (nI (cnt R i))) S (N (rdr N S R i)).one (nI (cnt R i))) S (N (rdr N S R i)).two (nI (cnt R i))) R (lvM N S R (i + 1)) (i + 1) := by
        intro hz j hj hj2
        rw [setO_at, setO_at]
        by_cases hji : j = i
        · subst hji
          have e : lvM N S R (j + 1) j = cnt R j := by unfold lvM; rw [Nat.sub_self]; rfl
          rw [e]
          have eu : upd f j (nI (cnt R j)) j = nI (cnt R j) := by show (if j = j then _ else _) = _; rw [if_pos rfl]
          rw [eu]
          split
          · rfl
          · split
            · rfl
            · rfl
        · rw [lvM_s (by omega)]
          unfold lvS rdB
          have eu : upd f i (nI (cnt R i)) j = f j := by show (if j = i then _ else _) = _; rw [if_neg hji]
          rw [eu, hf j (by omega) hj2]
          by_cases c1 : (N (rdr N S R i)).one.map S = some j
          · rw [if_pos c1, if_pos (show R i = 2 ∧ (decide ((N (rdr N S R i)).one.map S = some j) || decide ((N (rdr N S R i)).two.map S = some j)) = true from ⟨hz, by rw [decide_eq_true c1]; rfl⟩)]
            split <;> rfl
          · rw [if_neg c1]
            by_cases c2 : (N (rdr N S R i)).two.map S = some j
            · rw [if_pos c2, if_pos (show R i = 2 ∧ (decide ((N (rdr N S R i)).one.map S = some j) || decide ((N (rdr N S R i)).two.map S = some j)) = true from ⟨hz, by rw [decide_eq_true c2, Bool.or_true]⟩)]
            · rw [if_neg c2, if_neg (fun z => by rw [decide_eq_false c1, decide_eq_false c2] at z; exact absurd z.2 (by decide))]
      have hspi : R i = 2 → X.sp i = nI (cnt R i) := hsp i hin'
      have hfu : (fuO N S R i = none ∧ rdr N S R i = i) ∨ ∃ a, fuO N S R i = some a ∧ rdr N S R i = a := by
        unfold rdr
        cases fuO N S R i with
        | none => exact Or.inl ⟨rfl, rfl⟩
        | some a => exact Or.inr ⟨a, rfl, rfl⟩
      rcases hfu with ⟨hf1, hf2⟩ | ⟨a, hf1, hf2⟩
      · have ef : oI (((N i).one.map S).filter (fun a => decide (R a = 1))) = -1 := by rw [show ((N i).one.map S).filter (fun a => decide (R a = 1)) = none from hf1]; rfl
        refine rk_iload_n dG_findLives_2 rfl ?_
        refine rk_aload_n dG_findLives_3 rfl ?_
        refine rk_getf fG_33 dG_findLives_4 (by first | exact k.gb | exact k.gst | exact k.gsp | exact k.gla | exact k.gna | exact k.gnd hrn | assumption) rfl ?_
        rw [show (X.wla f).n = n from hX]
        refine rk_icmp_ge 91 dG_findLives_7 (by decide) (fun q_7 => ?_) (fun q_7 => ?_)
        · exact absurd q_7 (nI_ge (by omega) (by omega))
        · refine rk_aload_n dG_findLives_10 rfl ?_
          refine rk_getf fG_21 dG_findLives_11 (by first | exact k.gb | exact k.gst | exact k.gsp | exact k.gla | exact k.gna | exact k.gnd hrn | assumption) rfl ?_
          refine rk_iload_n dG_findLives_14 rfl ?_
          refine rk_iald dG_findLives_15 (by first | exact k.gb | exact k.gst | exact k.gsp | exact k.gla | exact k.gna | exact k.gnd hrn | assumption) (vp_in_nI (show i < 14 by omega) (by omega)) ?_
          rw [nI_clamp (show i < 2 ^ 31 by omega), show (X.wla f).st i = nI (R i) from hfi]
          refine rk_iconst (v := 2) dG_findLives_16 (by decide) ?_
          refine rk_icmp_ne 85 dG_findLives_17 (by decide) (fun q_17 => ?_) (fun q_17 => ?_)
          · refine rk_iinc dG_findLives_85 rfl (inc1 i) (Nat.le_of_ble_eq_true rfl) ?_
            refine rk_goto 2 dG_findLives_88 (by decide) ?_
            first
              | exact ih (i + 1) f (by omega) (stay (fun z => q_17 (e2.mpr z)))
              | (refine rk_lv [some (.ref b), some (.int (nI o)), some (.int (nI (i + 1))), none, none] ⟨rfl, rfl, rfl, trivial⟩ ?_; exact ih (i + 1) _ (by omega) (chg (e2.mp q_17)))
          · refine rk_aload_n dG_findLives_20 rfl ?_
            refine rk_getf fG_30 dG_findLives_21 (by first | exact k.gb | exact k.gst | exact k.gsp | exact k.gla | exact k.gna | exact k.gnd hrn | assumption) rfl ?_
            refine rk_iload_n dG_findLives_24 rfl ?_
            refine rk_aload_n dG_findLives_25 rfl ?_
            refine rk_getf fG_24 dG_findLives_26 (by first | exact k.gb | exact k.gst | exact k.gsp | exact k.gla | exact k.gna | exact k.gnd hrn | assumption) rfl ?_
            refine rk_iload_n dG_findLives_29 rfl ?_
            refine rk_iald dG_findLives_30 (by first | exact k.gb | exact k.gst | exact k.gsp | exact k.gla | exact k.gna | exact k.gnd hrn | assumption) (vp_in_nI (show i < 14 by omega) (by omega)) ?_
            rw [nI_clamp (show i < 2 ^ 31 by omega), show (X.wla f).sp i = nI (cnt R i) from hspi (e2.mp q_17)]
            refine rk_iast dG_findLives_31 (by first | exact k.gb | exact k.gst | exact k.gsp | exact k.gla | exact k.gna | exact k.gnd hrn | assumption) (vp_in_nI (show i < 14 by omega) (by omega)) ?_
            rw [k.ula, nI_clamp (show i < 2 ^ 31 by omega)]
            refine rk_aload_n dG_findLives_32 rfl ?_
            refine rk_iload_n dG_findLives_33 rfl ?_
            refine rk_cvV (c_G_fusedInto b A n N na ad fe S R i ((X.wla f).wla (upd (X.wla f).la i (nI (cnt R i)))) h k hin hS hSl hst (fun j _ => h2 j) hin') cG_130 dG_findLives_34 rfl lG_fusedInto (Nat.le_of_ble_eq_true rfl) (Nat.le_of_ble_eq_true rfl) (Nat.le_of_ble_eq_true rfl) (Nat.le_of_ble_eq_true rfl) (by first | exact k.gb | exact k.gst | exact k.gsp | exact k.gla | exact k.gna | exact k.gnd hrn | assumption) ?_
            rw [ef]
            refine rk_istore_n dG_findLives_37 (Nat.le_of_ble_eq_true rfl) ?_
            refine rk_aload_n dG_findLives_38 rfl ?_
            refine rk_getf fG_11 dG_findLives_39 (by first | exact k.gb | exact k.gst | exact k.gsp | exact k.gla | exact k.gna | exact k.gnd hrn | assumption) rfl ?_
            refine rk_iload_n dG_findLives_42 rfl ?_
            refine rk_iconst (v := -1) dG_findLives_43 (by decide) ?_
            refine rk_icmp_ne 51 dG_findLives_44 (by decide) (fun q_44 => ?_) (fun q_44 => ?_)
            · exact absurd rfl q_44
            · refine rk_iload_n dG_findLives_47 rfl ?_
              refine rk_goto 52 dG_findLives_48 (by decide) ?_
              refine rk_aald rfl dG_findLives_52 (by first | exact k.gb | exact k.gst | exact k.gsp | exact k.gla | exact k.gna | exact k.gnd hrn | assumption) (vp_in_nI (show i < 14 by omega) (by omega)) (v_nd (x := ad (rdr N S R i)) (by omega) (by rw [hf2]; exact hq)) ?_
              refine rk_astore dG_findLives_53 (Nat.le_of_ble_eq_true rfl) ?_
              refine rk_aload_n dG_findLives_55 rfl ?_
              refine rk_aload dG_findLives_56 rfl ?_
              refine rk_getf fG_56 dG_findLives_58 (by first | exact k.gb | exact k.gst | exact k.gsp | exact k.gla | exact k.gna | exact k.gnd hrn | assumption) rfl ?_
              refine rk_aload_n dG_findLives_61 rfl ?_
              refine rk_getf fG_24 dG_findLives_62 (by first | exact k.gb | exact k.gst | exact k.gsp | exact k.gla | exact k.gna | exact k.gnd hrn | assumption) rfl ?_
              refine rk_iload_n dG_findLives_65 rfl ?_
              refine rk_iald dG_findLives_66 (by first | exact k.gb | exact k.gst | exact k.gsp | exact k.gla | exact k.gna | exact k.gnd hrn | assumption) (vp_in_nI (show i < 14 by omega) (by omega)) ?_
              rw [nI_clamp (show i < 2 ^ 31 by omega), show ((X.wla f).wla (upd (X.wla f).la i (nI (cnt R i)))).sp i = nI (cnt R i) from hspi (e2.mp q_17)]
              refine rk_cv0 (c_G_keepAlive b A n N na ad fe S (N (rdr N S R i)).one _ _ h k a1) cG_133 dG_findLives_67 rfl lG_keepAlive (Nat.le_of_ble_eq_true rfl) (Nat.le_of_ble_eq_true rfl) (Nat.le_of_ble_eq_true rfl) (Nat.le_of_ble_eq_true rfl) (by first | exact k.gb | exact k.gst | exact k.gsp | exact k.gla | exact k.gna | exact k.gnd hrn | assumption) ?_
              refine rk_aload_n dG_findLives_70 rfl ?_
              refine rk_aload dG_findLives_71 rfl ?_
              refine rk_getf fG_103 dG_findLives_73 (by first | exact k.gb | exact k.gst | exact k.gsp | exact k.gla | exact k.gna | exact k.gnd hrn | assumption) rfl ?_
              refine rk_aload_n dG_findLives_76 rfl ?_
              refine rk_getf fG_24 dG_findLives_77 (by first | exact k.gb | exact k.gst | exact k.gsp | exact k.gla | exact k.gna | exact k.gnd hrn | assumption) rfl ?_
              refine rk_iload_n dG_findLives_80 rfl ?_
              refine rk_iald dG_findLives_81 (by first | exact k.gb | exact k.gst | exact k.gsp | exact k.gla | exact k.gna | exact k.gnd hrn | assumption) (vp_in_nI (show i < 14 by omega) (by omega)) ?_
              rw [nI_clamp (show i < 2 ^ 31 by omega), show ∀ g1 g2 : Nat → Int32, (((X.wla f).wla g1).wla g2).sp i = nI (cnt R i) from fun _ _ => hspi (e2.mp q_17)]
              refine rk_cv0 (c_G_keepAlive b A n N na ad fe S (N (rdr N S R i)).two _ _ h k a2) cG_133 dG_findLives_82 rfl lG_keepAlive (Nat.le_of_ble_eq_true rfl) (Nat.le_of_ble_eq_true rfl) (Nat.le_of_ble_eq_true rfl) (Nat.le_of_ble_eq_true rfl) (by first | exact k.gb | exact k.gst | exact k.gsp | exact k.gla | exact k.gna | exact k.gnd hrn | assumption) ?_
              refine rk_iinc dG_findLives_85 rfl (inc1 i) (Nat.le_of_ble_eq_true rfl) ?_
              refine rk_goto 2 dG_findLives_88 (by decide) ?_
              first
                | exact ih (i + 1) f (by omega) (stay (fun z => q_17 (e2.mpr z)))
                | (refine rk_lv [some (.ref b), some (.int (nI o)), some (.int (nI (i + 1))), none, none] ⟨rfl, rfl, rfl, trivial⟩ ?_; exact ih (i + 1) _ (by omega) (chg (e2.mp q_17)))
      · have ef : oI (((N i).one.map S).filter (fun a => decide (R a = 1))) = nI a := by rw [show ((N i).one.map S).filter (fun a => decide (R a = 1)) = some a from hf1]; rfl
        rw [hf2] at hq2
        have hal : a < 14 := by omega
        refine rk_iload_n dG_findLives_2 rfl ?_
        refine rk_aload_n dG_findLives_3 rfl ?_
        refine rk_getf fG_33 dG_findLives_4 (by first | exact k.gb | exact k.gst | exact k.gsp | exact k.gla | exact k.gna | exact k.gnd hrn | assumption) rfl ?_
        rw [show (X.wla f).n = n from hX]
        refine rk_icmp_ge 91 dG_findLives_7 (by decide) (fun q_7 => ?_) (fun q_7 => ?_)
        · exact absurd q_7 (nI_ge (by omega) (by omega))
        · refine rk_aload_n dG_findLives_10 rfl ?_
          refine rk_getf fG_21 dG_findLives_11 (by first | exact k.gb | exact k.gst | exact k.gsp | exact k.gla | exact k.gna | exact k.gnd hrn | assumption) rfl ?_
          refine rk_iload_n dG_findLives_14 rfl ?_
          refine rk_iald dG_findLives_15 (by first | exact k.gb | exact k.gst | exact k.gsp | exact k.gla | exact k.gna | exact k.gnd hrn | assumption) (vp_in_nI (show i < 14 by omega) (by omega)) ?_
          rw [nI_clamp (show i < 2 ^ 31 by omega), show (X.wla f).st i = nI (R i) from hfi]
          refine rk_iconst (v := 2) dG_findLives_16 (by decide) ?_
          refine rk_icmp_ne 85 dG_findLives_17 (by decide) (fun q_17 => ?_) (fun q_17 => ?_)
          · refine rk_iinc dG_findLives_85 rfl (inc1 i) (Nat.le_of_ble_eq_true rfl) ?_
            refine rk_goto 2 dG_findLives_88 (by decide) ?_
            first
              | exact ih (i + 1) f (by omega) (stay (fun z => q_17 (e2.mpr z)))
              | (refine rk_lv [some (.ref b), some (.int (nI o)), some (.int (nI (i + 1))), none, none] ⟨rfl, rfl, rfl, trivial⟩ ?_; exact ih (i + 1) _ (by omega) (chg (e2.mp q_17)))
          · refine rk_aload_n dG_findLives_20 rfl ?_
            refine rk_getf fG_30 dG_findLives_21 (by first | exact k.gb | exact k.gst | exact k.gsp | exact k.gla | exact k.gna | exact k.gnd hrn | assumption) rfl ?_
            refine rk_iload_n dG_findLives_24 rfl ?_
            refine rk_aload_n dG_findLives_25 rfl ?_
            refine rk_getf fG_24 dG_findLives_26 (by first | exact k.gb | exact k.gst | exact k.gsp | exact k.gla | exact k.gna | exact k.gnd hrn | assumption) rfl ?_
            refine rk_iload_n dG_findLives_29 rfl ?_
            refine rk_iald dG_findLives_30 (by first | exact k.gb | exact k.gst | exact k.gsp | exact k.gla | exact k.gna | exact k.gnd hrn | assumption) (vp_in_nI (show i < 14 by omega) (by omega)) ?_
            rw [nI_clamp (show i < 2 ^ 31 by omega), show (X.wla f).sp i = nI (cnt R i) from hspi (e2.mp q_17)]
            refine rk_iast dG_findLives_31 (by first | exact k.gb | exact k.gst | exact k.gsp | exact k.gla | exact k.gna | exact k.gnd hrn | assumption) (vp_in_nI (show i < 14 by omega) (by omega)) ?_
            rw [k.ula, nI_clamp (show i < 2 ^ 31 by omega)]
            refine rk_aload_n dG_findLives_32 rfl ?_
            refine rk_iload_n dG_findLives_33 rfl ?_
            refine rk_cvV (c_G_fusedInto b A n N na ad fe S R i ((X.wla f).wla (upd (X.wla f).la i (nI (cnt R i)))) h k hin hS hSl hst (fun j _ => h2 j) hin') cG_130 dG_findLives_34 rfl lG_fusedInto (Nat.le_of_ble_eq_true rfl) (Nat.le_of_ble_eq_true rfl) (Nat.le_of_ble_eq_true rfl) (Nat.le_of_ble_eq_true rfl) (by first | exact k.gb | exact k.gst | exact k.gsp | exact k.gla | exact k.gna | exact k.gnd hrn | assumption) ?_
            rw [ef]
            refine rk_istore_n dG_findLives_37 (Nat.le_of_ble_eq_true rfl) ?_
            refine rk_aload_n dG_findLives_38 rfl ?_
            refine rk_getf fG_11 dG_findLives_39 (by first | exact k.gb | exact k.gst | exact k.gsp | exact k.gla | exact k.gna | exact k.gnd hrn | assumption) rfl ?_
            refine rk_iload_n dG_findLives_42 rfl ?_
            refine rk_iconst (v := -1) dG_findLives_43 (by decide) ?_
            refine rk_icmp_ne 51 dG_findLives_44 (by decide) (fun q_44 => ?_) (fun q_44 => ?_)
            · refine rk_iload_n dG_findLives_51 rfl ?_
              refine rk_aald rfl dG_findLives_52 (by first | exact k.gb | exact k.gst | exact k.gsp | exact k.gla | exact k.gna | exact k.gnd hrn | assumption) (vp_in_nI hal (by omega)) (v_nd (x := ad (rdr N S R i)) (by omega) (by rw [hf2]; exact hq2)) ?_
              refine rk_astore dG_findLives_53 (Nat.le_of_ble_eq_true rfl) ?_
              refine rk_aload_n dG_findLives_55 rfl ?_
              refine rk_aload dG_findLives_56 rfl ?_
              refine rk_getf fG_56 dG_findLives_58 (by first | exact k.gb | exact k.gst | exact k.gsp | exact k.gla | exact k.gna | exact k.gnd hrn | assumption) rfl ?_
              refine rk_aload_n dG_findLives_61 rfl ?_
              refine rk_getf fG_24 dG_findLives_62 (by first | exact k.gb | exact k.gst | exact k.gsp | exact k.gla | exact k.gna | exact k.gnd hrn | assumption) rfl ?_
              refine rk_iload_n dG_findLives_65 rfl ?_
              refine rk_iald dG_findLives_66 (by first | exact k.gb | exact k.gst | exact k.gsp | exact k.gla | exact k.gna | exact k.gnd hrn | assumption) (vp_in_nI (show i < 14 by omega) (by omega)) ?_
              rw [nI_clamp (show i < 2 ^ 31 by omega), show ((X.wla f).wla (upd (X.wla f).la i (nI (cnt R i)))).sp i = nI (cnt R i) from hspi (e2.mp q_17)]
              refine rk_cv0 (c_G_keepAlive b A n N na ad fe S (N (rdr N S R i)).one _ _ h k a1) cG_133 dG_findLives_67 rfl lG_keepAlive (Nat.le_of_ble_eq_true rfl) (Nat.le_of_ble_eq_true rfl) (Nat.le_of_ble_eq_true rfl) (Nat.le_of_ble_eq_true rfl) (by first | exact k.gb | exact k.gst | exact k.gsp | exact k.gla | exact k.gna | exact k.gnd hrn | assumption) ?_
              refine rk_aload_n dG_findLives_70 rfl ?_
              refine rk_aload dG_findLives_71 rfl ?_
              refine rk_getf fG_103 dG_findLives_73 (by first | exact k.gb | exact k.gst | exact k.gsp | exact k.gla | exact k.gna | exact k.gnd hrn | assumption) rfl ?_
              refine rk_aload_n dG_findLives_76 rfl ?_
              refine rk_getf fG_24 dG_findLives_77 (by first | exact k.gb | exact k.gst | exact k.gsp | exact k.gla | exact k.gna | exact k.gnd hrn | assumption) rfl ?_
              refine rk_iload_n dG_findLives_80 rfl ?_
              refine rk_iald dG_findLives_81 (by first | exact k.gb | exact k.gst | exact k.gsp | exact k.gla | exact k.gna | exact k.gnd hrn | assumption) (vp_in_nI (show i < 14 by omega) (by omega)) ?_
              rw [nI_clamp (show i < 2 ^ 31 by omega), show ∀ g1 g2 : Nat → Int32, (((X.wla f).wla g1).wla g2).sp i = nI (cnt R i) from fun _ _ => hspi (e2.mp q_17)]
              refine rk_cv0 (c_G_keepAlive b A n N na ad fe S (N (rdr N S R i)).two _ _ h k a2) cG_133 dG_findLives_82 rfl lG_keepAlive (Nat.le_of_ble_eq_true rfl) (Nat.le_of_ble_eq_true rfl) (Nat.le_of_ble_eq_true rfl) (Nat.le_of_ble_eq_true rfl) (by first | exact k.gb | exact k.gst | exact k.gsp | exact k.gla | exact k.gna | exact k.gnd hrn | assumption) ?_
              refine rk_iinc dG_findLives_85 rfl (inc1 i) (Nat.le_of_ble_eq_true rfl) ?_
              refine rk_goto 2 dG_findLives_88 (by decide) ?_
              first
                | exact ih (i + 1) f (by omega) (stay (fun z => q_17 (e2.mpr z)))
                | (refine rk_lv [some (.ref b), some (.int (nI o)), some (.int (nI (i + 1))), none, none] ⟨rfl, rfl, rfl, trivial⟩ ?_; exact ih (i + 1) _ (by omega) (chg (e2.mp q_17)))
            · exact absurd (show nI a < 0 by rw [q_44]; decide) (nI_pos (by omega))
  refine rk_Con.of [some (.ref b), some (.int (nI o)), none, none, none] rfl (Nat.le_of_ble_eq_true rfl) (by decide +kernel) ?_
  refine rk_iconst (v := 0) dG_findLives_0 (by decide) ?_
  refine rk_istore_n dG_findLives_1 (Nat.le_of_ble_eq_true rfl) ?_
  exact loop n 0 X.la (by omega) (fun j hj => by omega)
