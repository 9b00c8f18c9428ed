/-! Graph: fuse, countSteps, findLives -/
/-- has weights -/
def hwN (x : aN) : Bool := decide (x.kd = 1) || decide (x.kd = 2) || decide (x.kd = 3)
theorem hwN_n {x : aN} (h : bdI x) : n_hasW (nI x.kd) = hwN x := by
  have := h.1.1
  unfold n_hasW hwN
  rw [show (decide (nI x.kd = 1)) = decide (x.kd = 1) from dec_nI (b := 1) (by omega) (by omega), show (decide (nI x.kd = 2)) = decide (x.kd = 2) from dec_nI (b := 2) (by omega) (by omega), show (decide (nI x.kd = 3)) = decide (x.kd = 3) from dec_nI (b := 3) (by omega) (by omega)]
/-- the role of a node: not needed, fused, placed -/
def rlF (N : Nat → aN) (S : Nat → Nat) (n o : Nat) (R0 : Nat → Nat) (i : Nat) : Nat := if R0 i = 2 ∧ i ≠ o ∧ hwN (N i) = true ∧ feeds N S n R0 i = true then 1 else R0 i
theorem rlF_le {N : Nat → aN} {S : Nat → Nat} {n o : Nat} {R0 : Nat → Nat} (h : ∀ j, R0 j ≤ 2) : ∀ i, rlF N S n o R0 i ≤ 2 := by
  intro i
  unfold rlF
  split
  · omega
  · exact h i
def rlM (N : Nat → aN) (S : Nat → Nat) (n o : Nat) (R0 : Nat → Nat) (k i : Nat) : Nat := if i < k then rlF N S n o R0 i else R0 i
theorem rlM_le {N : Nat → aN} {S : Nat → Nat} {n o k : Nat} {R0 : Nat → Nat} (h : ∀ j, R0 j ≤ 2) : ∀ i, rlM N S n o R0 k i ≤ 2 := by
  intro i
  unfold rlM
  split
  · exact rlF_le h i
  · exact h i
theorem feeds_M {N : Nat → aN} {S : Nat → Nat} {n o : Nat} {R0 : Nat → Nat} {i : Nat} : feeds N S n (rlM N S n o R0 i) i = feeds N S n R0 i := by
  have e : itr (useU N S (rlM N S n o R0 i) i) (n - (i + 1)) (i + 1) (0, 0) = itr (useU N S R0 i) (n - (i + 1)) (i + 1) (0, 0) := by
    refine itr_congr (fun j h1 h2 a => ?_)
    unfold useU
    rw [show rlM N S n o R0 i j = R0 j by unfold rlM; rw [if_neg (by omega)]]
  unfold feeds
  rw [e]
theorem c_G_fuse (b : Nat) (A : gA) (n : Nat) (N : Nat → aN) (na : Nat → Option Nat) (ad fe : Nat → Nat) (S R0 : Nat → Nat) (o : Nat) (X : gX) (h : rk_H) (k : gOK h b A n N na ad fe) (hX : X.n = n) (hin : inOK N n) (hbd : bdOK N n) (hS : sfK X.sf S n) (hSl : ∀ j : Nat, j < n → S j ≤ j) (hst : sfK X.st R0 n) (h2 : ∀ j, R0 j ≤ 2) (ho : o < n) :
    rk_Con mG_fuse (3, 45, 0, 0) [.ref b, .int (nI o)] (gv h b A X) (fun r h' => r = .inl none ∧ ∃ f : Nat → Int32, h' = gv h b A (X.wst f) ∧ sfK f (rlF N S n o R0) n) := by
  have hn := k.n14
  have loop : ∀ (k1 i : Nat) (f : Nat → Int32), i + k1 = n → sfK f (rlM N S n o R0 i) n → rk_Run mG_fuse (3, 45, 0, 0) (fun r h' => r = .inl none ∧ ∃ f : Nat → Int32, h' = gv h b A (X.wst f) ∧ sfK f (rlF N S n o R0) n) 2 [some (.ref b), some (.int (nI o)), some (.int (nI i))] [] (gv h b A (X.wst f)) (0, 0) := by
    intro k1
    induction k1 with
    | zero =>
      intro i f hi hf
      have hi : i = n := by omega
      subst hi
      refine rk_iload_n dG_fuse_2 rfl ?_
      refine rk_aload_n dG_fuse_3 rfl ?_
      refine rk_getf fG_33 dG_fuse_4 (by first | exact k.gb | assumption) rfl ?_
      rw [show (X.wst f).n = i from hX]
      refine rk_icmp_ge 58 dG_fuse_7 (by decide) (fun q_7 => ?_) (fun q_7 => ?_)
      · exact rk_ret rfl dG_fuse_58 ⟨(Nat.le_of_ble_eq_true rfl), (Nat.le_of_ble_eq_true rfl)⟩ (⟨rfl, f, rfl, fun j hj => by rw [hf j hj]; unfold rlM; rw [if_pos hj]⟩)
      · exact absurd (nI_le (Nat.le_refl _) (by omega)) q_7
    | succ k1 ih =>
      intro i f hi hf
      have hin' : i < n := by omega
      have hq := (k.2.1.2 i hin').1
      have hfi : f i = nI (R0 i) := by rw [hf i hin']; unfold rlM; rw [if_neg (by omega)]
      have e2 : nI (R0 i) = 2 ↔ R0 i = 2 := nI2 (v := 2) (h2 i) (by omega)
      have eo : nI i = nI o ↔ i = o := nI_eq (by omega) (by omega)
      have stay : ¬ (R0 i = 2 ∧ i ≠ o ∧ hwN (N i) = true ∧ feeds N S n R0 i = true) → sfK f (rlM N S n o R0 (i + 1)) n := by
        intro hz j hj
        rw [hf j hj]
        unfold rlM
        by_cases hji : j = i
        · subst hji
          rw [if_neg (by omega), if_pos (by omega)]
          unfold rlF
          rw [if_neg hz]
        · by_cases hlt : j < i
          · rw [if_pos hlt, if_pos (by omega)]
          · rw [if_neg hlt, if_neg (by omega)]
      have chg : (R0 i = 2 ∧ i ≠ o ∧ hwN (N i) = true ∧ feeds N S n R0 i = true) → sfK (upd f i 1) (rlM N S n o R0 (i + 1)) n := by
        intro hz j hj
        show (if j = i then 1 else f j) = _
        by_cases hji : j = i
        · subst hji
          rw [if_pos rfl]
          unfold rlM
          rw [if_pos (by omega)]
          unfold rlF
          rw [if_pos hz]
          rfl
        · rw [if_neg hji, hf j hj]
          unfold rlM
          by_cases hlt : j < i
          · rw [if_pos hlt, if_pos (by omega)]
          · rw [if_neg hlt, if_neg (by omega)]
      refine rk_iload_n dG_fuse_2 rfl ?_
      refine rk_aload_n dG_fuse_3 rfl ?_
      refine rk_getf fG_33 dG_fuse_4 (by first | exact k.gb | exact k.gst | exact k.gna | exact k.gnd hin' | assumption) rfl ?_
      rw [show (X.wst f).n = n from hX]
      refine rk_icmp_ge 58 dG_fuse_7 (by decide) (fun q_7 => ?_) (fun q_7 => ?_)
      · exact absurd q_7 (nI_ge (by omega) (by omega))
      · refine rk_aload_n dG_fuse_10 rfl ?_
        refine rk_getf fG_21 dG_fuse_11 (by first | exact k.gb | exact k.gst | exact k.gna | exact k.gnd hin' | assumption) rfl ?_
        refine rk_iload_n dG_fuse_14 rfl ?_
        refine rk_iald dG_fuse_15 (by first | exact k.gb | exact k.gst | exact k.gna | exact k.gnd hin' | assumption) (vp_in_nI (show i < 14 by omega) (by omega)) ?_
        rw [nI_clamp (show i < 2 ^ 31 by omega), show (X.wst f).st i = nI (R0 i) from hfi]
        refine rk_iconst (v := 2) dG_fuse_16 (by decide) ?_
        refine rk_icmp_ne 52 dG_fuse_17 (by decide) (fun q_17 => ?_) (fun q_17 => ?_)
        · refine rk_iinc dG_fuse_52 rfl (inc1 i) (Nat.le_of_ble_eq_true rfl) ?_
          refine rk_goto 2 dG_fuse_55 (by decide) ?_
          first
            | exact ih (i + 1) f (by omega) (stay (fun z => q_17 (e2.mpr z.1)))
            | exact ih (i + 1) f (by omega) (stay (fun z => z.2.1 (eo.mp q_22)))
            | exact ih (i + 1) f (by omega) (stay (fun z => by rw [z.2.2.1] at q_34; exact absurd q_34 (by decide)))
            | exact ih (i + 1) f (by omega) (stay (fun z => by rw [z.2.2.2] at q_42; exact absurd q_42 (by decide)))
            | (rw [k.ust, nI_clamp (show i < 2 ^ 31 by omega)]; exact ih (i + 1) _ (by omega) (chg ⟨e2.mp q_17, fun z => q_22 (eo.mpr z), b2i_1 q_34, b2i_1 q_42⟩))
        · refine rk_iload_n dG_fuse_20 rfl ?_
          refine rk_iload_n dG_fuse_21 rfl ?_
          refine rk_icmp_eq 52 dG_fuse_22 (by decide) (fun q_22 => ?_) (fun q_22 => ?_)
          · refine rk_iinc dG_fuse_52 rfl (inc1 i) (Nat.le_of_ble_eq_true rfl) ?_
            refine rk_goto 2 dG_fuse_55 (by decide) ?_
            first
              | exact ih (i + 1) f (by omega) (stay (fun z => q_17 (e2.mpr z.1)))
              | exact ih (i + 1) f (by omega) (stay (fun z => z.2.1 (eo.mp q_22)))
              | exact ih (i + 1) f (by omega) (stay (fun z => by rw [z.2.2.1] at q_34; exact absurd q_34 (by decide)))
              | exact ih (i + 1) f (by omega) (stay (fun z => by rw [z.2.2.2] at q_42; exact absurd q_42 (by decide)))
              | (rw [k.ust, nI_clamp (show i < 2 ^ 31 by omega)]; exact ih (i + 1) _ (by omega) (chg ⟨e2.mp q_17, fun z => q_22 (eo.mpr z), b2i_1 q_34, b2i_1 q_42⟩))
          · refine rk_aload_n dG_fuse_25 rfl ?_
            refine rk_getf fG_11 dG_fuse_26 (by first | exact k.gb | exact k.gst | exact k.gna | exact k.gnd hin' | assumption) rfl ?_
            refine rk_iload_n dG_fuse_29 rfl ?_
            refine rk_aald rfl dG_fuse_30 (by first | exact k.gb | exact k.gst | exact k.gna | exact k.gnd hin' | assumption) (vp_in_nI (show i < 14 by omega) (by omega)) (v_nd (by omega) hq) ?_
            refine rk_cvV (c_N_hasWeights (ad i) (nMi N fe i) _ (k.gnd hin')) cG_115 dG_fuse_31 rfl lN_hasWeights (Nat.le_of_ble_eq_true rfl) (Nat.le_of_ble_eq_true rfl) (Nat.le_of_ble_eq_true rfl) (Nat.le_of_ble_eq_true rfl) (by first | exact k.gb | exact k.gst | exact k.gna | exact k.gnd hin' | assumption) ?_
            rw [show n_hasW (nMi N fe i).kd = hwN (N i) from hwN_n (hbd i hin')]
            refine rk_if_eq 52 dG_fuse_34 (by decide) (fun q_34 => ?_) (fun q_34 => ?_)
            · refine rk_iinc dG_fuse_52 rfl (inc1 i) (Nat.le_of_ble_eq_true rfl) ?_
              refine rk_goto 2 dG_fuse_55 (by decide) ?_
              first
                | exact ih (i + 1) f (by omega) (stay (fun z => q_17 (e2.mpr z.1)))
                | exact ih (i + 1) f (by omega) (stay (fun z => z.2.1 (eo.mp q_22)))
                | exact ih (i + 1) f (by omega) (stay (fun z => by rw [z.2.2.1] at q_34; exact absurd q_34 (by decide)))
                | exact ih (i + 1) f (by omega) (stay (fun z => by rw [z.2.2.2] at q_42; exact absurd q_42 (by decide)))
                | (rw [k.ust, nI_clamp (show i < 2 ^ 31 by omega)]; exact ih (i + 1) _ (by omega) (chg ⟨e2.mp q_17, fun z => q_22 (eo.mpr z), b2i_1 q_34, b2i_1 q_42⟩))
            · refine rk_aload_n dG_fuse_37 rfl ?_
              refine rk_iload_n dG_fuse_38 rfl ?_
              refine rk_cvV (c_G_feeds b A n N na ad fe S (rlM N S n o R0 i) i (X.wst f) h k hX hin hbd hS hSl hf (rlM_le h2) hin') cG_119 dG_fuse_39 rfl lG_feedsOneClamp (Nat.le_of_ble_eq_true rfl) (Nat.le_of_ble_eq_true rfl) (Nat.le_of_ble_eq_true rfl) (Nat.le_of_ble_eq_true rfl) (by first | exact k.gb | exact k.gst | exact k.gna | exact k.gnd hin' | assumption) ?_
              rw [feeds_M]
              refine rk_if_eq 52 dG_fuse_42 (by decide) (fun q_42 => ?_) (fun q_42 => ?_)
              · refine rk_iinc dG_fuse_52 rfl (inc1 i) (Nat.le_of_ble_eq_true rfl) ?_
                refine rk_goto 2 dG_fuse_55 (by decide) ?_
                first
                  | exact ih (i + 1) f (by omega) (stay (fun z => q_17 (e2.mpr z.1)))
                  | exact ih (i + 1) f (by omega) (stay (fun z => z.2.1 (eo.mp q_22)))
                  | exact ih (i + 1) f (by omega) (stay (fun z => by rw [z.2.2.1] at q_34; exact absurd q_34 (by decide)))
                  | exact ih (i + 1) f (by omega) (stay (fun z => by rw [z.2.2.2] at q_42; exact absurd q_42 (by decide)))
                  | (rw [k.ust, nI_clamp (show i < 2 ^ 31 by omega)]; exact ih (i + 1) _ (by omega) (chg ⟨e2.mp q_17, fun z => q_22 (eo.mpr z), b2i_1 q_34, b2i_1 q_42⟩))
              · refine rk_aload_n dG_fuse_45 rfl ?_
                refine rk_getf fG_21 dG_fuse_46 (by first | exact k.gb | exact k.gst | exact k.gna | exact k.gnd hin' | assumption) rfl ?_
                refine rk_iload_n dG_fuse_49 rfl ?_
                refine rk_iconst (v := 1) dG_fuse_50 (by decide) ?_
                refine rk_iast dG_fuse_51 (by first | exact k.gb | exact k.gst | exact k.gna | exact k.gnd hin' | assumption) (vp_in_nI (show i < 14 by omega) (by omega)) ?_
                refine rk_iinc dG_fuse_52 rfl (inc1 i) (Nat.le_of_ble_eq_true rfl) ?_
                refine rk_goto 2 dG_fuse_55 (by decide) ?_
                first
                  | exact ih (i + 1) f (by omega) (stay (fun z => q_17 (e2.mpr z.1)))
                  | exact ih (i + 1) f (by omega) (stay (fun z => z.2.1 (eo.mp q_22)))
                  | exact ih (i + 1) f (by omega) (stay (fun z => by rw [z.2.2.1] at q_34; exact absurd q_34 (by decide)))
                  | exact ih (i + 1) f (by omega) (stay (fun z => by rw [z.2.2.2] at q_42; exact absurd q_42 (by decide)))
                  | (rw [k.ust, nI_clamp (show i < 2 ^ 31 by omega)]; exact ih (i + 1) _ (by omega) (chg ⟨e2.mp q_17, fun z => q_22 (eo.mpr z), b2i_1 q_34, b2i_1 q_42⟩))
  refine rk_Con.of [some (.ref b), some (.int (nI o)), none] rfl (Nat.le_of_ble_eq_true rfl) (by decide +kernel) ?_
  refine rk_iconst (v := 0) dG_fuse_0 (by decide) ?_
  refine rk_istore_n dG_fuse_1 (Nat.le_of_ble_eq_true rfl) ?_
  exact loop n 0 X.st (by omega) (fun j hj => by rw [hst j hj]; unfold rlM; rw [if_neg (by omega)])
/-- how many of the first k are placed -/
def cnt (R : Nat → Nat) : Nat → Nat
  | 0 => 0
  | k + 1 => cnt R k + (if R k = 2 then 1 else 0)
theorem cnt_le {R : Nat → Nat} {k : Nat} : cnt R k ≤ k := by
  induction k with
  | zero => exact Nat.le_refl _
  | succ k ih => unfold cnt; split <;> omega
theorem cnt_mono {R : Nat → Nat} {i k : Nat} (h : i ≤ k) : cnt R i ≤ cnt R k := by
  induction k with
  | zero => rw [show i = 0 by omega]; exact Nat.le_refl _
  | succ k ih =>
    by_cases hi : i = k + 1
    · rw [hi]; exact Nat.le_refl _
    · have := ih (by omega)
      show _ ≤ cnt R k + _
      omega
/-- a row holds what v says, at the placed nodes -/
def plK (f : Nat → Int32) (R v : Nat → Nat) (n : Nat) : Prop := ∀ i : Nat, i < n → R i = 2 → f i = nI (v i)
theorem c_G_countSteps (b : Nat) (A : gA) (n : Nat) (N : Nat → aN) (na : Nat → Option Nat) (ad fe : Nat → Nat) (R : Nat → Nat) (X : gX) (h : rk_H) (k : gOK h b A n N na ad fe) (hX : X.n = n) (hst : sfK X.st R n) (h2 : ∀ j, R j ≤ 2) :
    rk_Con mG_countSteps (0, 0, 0, 0) [.ref b] (gv h b A X) (fun r h' => r = .inl none ∧ ∃ f : Nat → Int32, h' = gv h b A ((X.wsn (nI (cnt R n))).wsp f) ∧ plK f R (cnt R) n) := by
  have hn := k.n14
  have loop : ∀ (k1 i : Nat) (f : Nat → Int32), i + k1 = n → plK f R (cnt R) i → rk_Run mG_countSteps (0, 0, 0, 0) (fun r h' => r = .inl none ∧ ∃ f : Nat → Int32, h' = gv h b A ((X.wsn (nI (cnt R n))).wsp f) ∧ plK f R (cnt R) n) 7 [some (.ref b), some (.int (nI i))] [] (gv h b A ((X.wsn (nI (cnt R i))).wsp f)) (0, 0) := by
    intro k1
    induction k1 with
    | zero =>
      intro i f hi hf
      have hi : i = n := by omega
      subst hi
      refine rk_iload_n dG_countSteps_7 rfl ?_
      refine rk_aload_n dG_countSteps_8 rfl ?_
      refine rk_getf fG_33 dG_countSteps_9 (by first | exact k.gb | assumption) rfl ?_
      rw [show ((X.wsn (nI (cnt R i))).wsp f).n = i from hX]
      refine rk_icmp_ge 51 dG_countSteps_12 (by decide) (fun q_12 => ?_) (fun q_12 => ?_)
      · exact rk_ret rfl dG_countSteps_51 ⟨(Nat.le_of_ble_eq_true rfl), (Nat.le_of_ble_eq_true rfl)⟩ (⟨rfl, f, rfl, hf⟩)
      · exact absurd (nI_le (Nat.le_refl _) (by omega)) q_12
    | succ k1 ih =>
      intro i f hi hf
      have hin' : i < n := by omega
      have hfi := hst i hin'
      have e2 : nI (R i) = 2 ↔ R i = 2 := nI2 (v := 2) (h2 i) (by omega)
      have ec0 : ¬ R i = 2 → cnt R (i + 1) = cnt R i := by
        intro hz
        show cnt R i + _ = _
        rw [if_neg hz, Nat.add_zero]
      have ec1 : R i = 2 → cnt R (i + 1) = cnt R i + 1 := by
        intro hz
        show cnt R i + _ = _
        rw [if_pos hz]
      have stay : ¬ R i = 2 → plK f R (cnt R) (i + 1) := by
        intro hz j hj hj2
        by_cases hji : j = i
        · subst hji; exact absurd hj2 hz
        · exact hf j (by omega) hj2
      have chg : plK (upd f i (nI (cnt R i))) R (cnt R) (i + 1) := by
        intro j hj hj2
        show (if j = i then _ else f j) = _
        by_cases hji : j = i
        · rw [if_pos hji, hji]
        · rw [if_neg hji]; exact hf j (by omega) hj2
      refine rk_iload_n dG_countSteps_7 rfl ?_
      refine rk_aload_n dG_countSteps_8 rfl ?_
      refine rk_getf fG_33 dG_countSteps_9 (by first | exact k.gb | exact k.gst | exact k.gsp | assumption) rfl ?_
      rw [show ((X.wsn (nI (cnt R i))).wsp f).n = n from hX]
      refine rk_icmp_ge 51 dG_countSteps_12 (by decide) (fun q_12 => ?_) (fun q_12 => ?_)
      · exact absurd q_12 (nI_ge (by omega) (by omega))
      · refine rk_aload_n dG_countSteps_15 rfl ?_
        refine rk_getf fG_21 dG_countSteps_16 (by first | exact k.gb | exact k.gst | exact k.gsp | assumption) rfl ?_
        refine rk_iload_n dG_countSteps_19 rfl ?_
        refine rk_iald dG_countSteps_20 (by first | exact k.gb | exact k.gst | exact k.gsp | assumption) (vp_in_nI (show i < 14 by omega) (by omega)) ?_
        rw [nI_clamp (show i < 2 ^ 31 by omega), show ((X.wsn (nI (cnt R i))).wsp f).st i = nI (R i) from hfi]
        refine rk_iconst (v := 2) dG_countSteps_21 (by decide) ?_
        refine rk_icmp_ne 45 dG_countSteps_22 (by decide) (fun q_22 => ?_) (fun q_22 => ?_)
        · refine rk_iinc dG_countSteps_45 rfl (inc1 i) (Nat.le_of_ble_eq_true rfl) ?_
          refine rk_goto 7 dG_countSteps_48 (by decide) ?_
          first
            | (have e := ih (i + 1) f (by omega) (stay (fun z => q_22 (e2.mpr z))); rw [ec0 (fun z => q_22 (e2.mpr z))] at e; exact e)
            | (have e := ih (i + 1) (upd f i (nI (cnt R i))) (by omega) chg; rw [ec1 (e2.mp q_22)] at e; rw [k.usn, show (gX.sn (((X.wsn (nI (cnt R i))).wsp f).wsp (upd ((X.wsn (nI (cnt R i))).wsp f).sp i ((X.wsn (nI (cnt R i))).wsp f).sn)) + 1) = nI (cnt R i + 1) from nI_1 _]; exact e)
        · refine rk_aload_n dG_countSteps_25 rfl ?_
          refine rk_getf fG_24 dG_countSteps_26 (by first | exact k.gb | exact k.gst | exact k.gsp | assumption) rfl ?_
          refine rk_iload_n dG_countSteps_29 rfl ?_
          refine rk_aload_n dG_countSteps_30 rfl ?_
          refine rk_getf fG_127 dG_countSteps_31 (by first | exact k.gb | exact k.gst | exact k.gsp | assumption) rfl ?_
          refine rk_iast dG_countSteps_34 (by first | exact k.gb | exact k.gst | exact k.gsp | assumption) (vp_in_nI (show i < 14 by omega) (by omega)) ?_
          rw [k.usp, nI_clamp (show i < 2 ^ 31 by omega)]
          refine rk_aload_n dG_countSteps_35 rfl ?_
          refine rk_dup dG_countSteps_36 rfl ?_
          refine rk_getf fG_127 dG_countSteps_37 (by first | exact k.gb | exact k.gst | exact k.gsp | assumption) rfl ?_
          refine rk_iconst (v := 1) dG_countSteps_40 (by decide) ?_
          refine rk_iadd dG_countSteps_41 ?_
          refine rk_putf pG_127 dG_countSteps_42 (by first | exact k.gb | exact k.gst | exact k.gsp | assumption) (Nat.le_of_ble_eq_true rfl) rfl rfl ?_
          refine rk_iinc dG_countSteps_45 rfl (inc1 i) (Nat.le_of_ble_eq_true rfl) ?_
          refine rk_goto 7 dG_countSteps_48 (by decide) ?_
          first
            | (have e := ih (i + 1) f (by omega) (stay (fun z => q_22 (e2.mpr z))); rw [ec0 (fun z => q_22 (e2.mpr z))] at e; exact e)
            | (have e := ih (i + 1) (upd f i (nI (cnt R i))) (by omega) chg; rw [ec1 (e2.mp q_22)] at e; rw [k.usn, show (gX.sn (((X.wsn (nI (cnt R i))).wsp f).wsp (upd ((X.wsn (nI (cnt R i))).wsp f).sp i ((X.wsn (nI (cnt R i))).wsp f).sn)) + 1) = nI (cnt R i + 1) from nI_1 _]; exact e)
  refine rk_Con.of [some (.ref b), none] rfl (Nat.le_of_ble_eq_true rfl) (by decide +kernel) ?_
  refine rk_aload_n dG_countSteps_0 rfl ?_
  refine rk_iconst (v := 0) dG_countSteps_1 (by decide) ?_
  refine rk_putf pG_127 dG_countSteps_2 (by first | exact k.gb | assumption) (Nat.le_of_ble_eq_true rfl) rfl rfl ?_
  rw [k.usn]
  refine rk_iconst (v := 0) dG_countSteps_5 (by decide) ?_
  refine rk_istore_n dG_countSteps_6 (Nat.le_of_ble_eq_true rfl) ?_
  exact loop n 0 X.sp (by omega) (fun j hj => by omega)
