/-! Graph: fuse, countSteps -/
def i01 (p : Prop) [Decidable p] : Nat := if p then 1 else 0
theorem itr_snoc {α : Type} {s : Nat → α → α} {k i : Nat} {a : α} : itr s (k + 1) i a = s (i + k) (itr s k i a) := by
  induction k generalizing i a with
  | zero => rfl
  | succ k ih =>
    show itr s (k + 1) (i + 1) (s i a) = _
    rw [ih, show i + 1 + k = i + (k + 1) by omega]
    rfl
theorem itr_congr {α : Type} {s t : Nat → α → α} {k i : Nat} {a : α} (h : ∀ j, i ≤ j → j < i + k → ∀ a, s j a = t j a) : itr s k i a = itr t k i a := by
  induction k generalizing i a with
  | zero => rfl
  | succ k ih =>
    show itr s k (i + 1) (s i a) = itr t k (i + 1) (t i a)
    rw [h i (Nat.le_refl _) (by omega), ih (fun j h1 h2 => h j (by omega) (by omega))]
/-- how often m has k as an input -/
def tmU (N : Nat → aN) (S : Nat → Nat) (m k : Nat) : Nat := i01 ((N m).one.map S = some k) + i01 ((N m).two.map S = some k)
theorem tmU_le {N : Nat → aN} {S : Nat → Nat} {m k : Nat} : tmU N S m k ≤ 2 := by
  unfold tmU i01
  split <;> split <;> omega
theorem c_G_timesUsed (b : Nat) (A : gA) (n : Nat) (N : Nat → aN) (na : Nat → Option Nat) (ad fe : Nat → Nat) (S : Nat → Nat) (m i : Nat) (X : gX) (h : rk_H) (k : gOK h b A n N na ad fe) (hin : inOK N n) (hS : sfK X.sf S n) (hSl : ∀ j : Nat, j < n → S j ≤ j) (hm : m < n) (hi : i < 14) :
    rk_Con mG_timesUsed (1, 14, 0, 0) [.ref b, .ref (ad m), .int (nI i)] (gv h b A X) (rk_Rv (.int (nI (tmU N S m i))) (gv h b A X)) := by
  have hn := k.n14
  have o1 : ∀ a, (N m).one = some a → a < n := fun a ha => by have := (hin m hm).1 a ha; omega
  have o3 : ∀ a, (N m).two = some a → a < n := fun a ha => by have := (hin m hm).2 a ha; omega
  have aux : ∀ {q : Option Nat}, (∀ a, q = some a → a < n) → (oI (q.map S) = nI i ↔ q.map S = some i) := by
    intro q hq
    refine oI_inj (p := some i) (fun a ha => ?_) (fun a ha => by cases ha; omega)
    cases q with
    | none => cases ha
    | some z =>
      have h1 := hq z rfl
      have h2 := hSl z h1
      cases ha
      omega
  have j1 := aux o1
  have j2 := aux o3
  refine rk_Con.of [some (.ref b), some (.ref (ad m)), some (.int (nI i))] rfl (Nat.le_of_ble_eq_true rfl) (by decide +kernel) ?_
  refine rk_aload_n dG_timesUsed_0 rfl ?_
  refine rk_aload_n dG_timesUsed_1 rfl ?_
  refine rk_getf fG_56 dG_timesUsed_2 (by first | exact k.gb | exact k.gnd hm | assumption) rfl ?_
  refine rk_cvV (c_G_meant b A X (N m).one _ k.gb k.gsf (hin.o1 hn hm)) cG_59 dG_timesUsed_5 rfl lG_meant (Nat.le_of_ble_eq_true rfl) (Nat.le_of_ble_eq_true rfl) (Nat.le_of_ble_eq_true rfl) (Nat.le_of_ble_eq_true rfl) (by first | exact k.gb | exact k.gnd hm | assumption) ?_
  rw [mnt_S hS o1]
  refine rk_iload_n dG_timesUsed_8 rfl ?_
  refine rk_icmp_ne 16 dG_timesUsed_9 (by decide) (fun q_9 => ?_) (fun q_9 => ?_)
  · refine rk_iconst (v := 0) dG_timesUsed_16 (by decide) ?_
    refine rk_aload_n dG_timesUsed_17 rfl ?_
    refine rk_aload_n dG_timesUsed_18 rfl ?_
    refine rk_getf fG_103 dG_timesUsed_19 (by first | exact k.gb | exact k.gnd hm | assumption) rfl ?_
    refine rk_cvV (c_G_meant b A X (N m).two _ k.gb k.gsf (hin.o2 hn hm)) cG_59 dG_timesUsed_22 rfl lG_meant (Nat.le_of_ble_eq_true rfl) (Nat.le_of_ble_eq_true rfl) (Nat.le_of_ble_eq_true rfl) (Nat.le_of_ble_eq_true rfl) (by first | exact k.gb | exact k.gnd hm | assumption) ?_
    rw [mnt_S hS o3]
    refine rk_iload_n dG_timesUsed_25 rfl ?_
    refine rk_icmp_ne 33 dG_timesUsed_26 (by decide) (fun q_26 => ?_) (fun q_26 => ?_)
    · refine rk_iconst (v := 0) dG_timesUsed_33 (by decide) ?_
      refine rk_iadd dG_timesUsed_34 ?_
      exact rk_iret rfl dG_timesUsed_35 ⟨(Nat.le_of_ble_eq_true rfl), (Nat.le_of_ble_eq_true rfl)⟩ (⟨by rw [j1] at q_9; rw [j2] at q_26; simp only [tmU, i01, q_9, q_26, ↓reduceIte, Nat.reduceAdd]; rfl, rfl⟩)
    · refine rk_iconst (v := 1) dG_timesUsed_29 (by decide) ?_
      refine rk_goto 34 dG_timesUsed_30 (by decide) ?_
      refine rk_iadd dG_timesUsed_34 ?_
      exact rk_iret rfl dG_timesUsed_35 ⟨(Nat.le_of_ble_eq_true rfl), (Nat.le_of_ble_eq_true rfl)⟩ (⟨by rw [j1] at q_9; rw [j2] at q_26; simp only [tmU, i01, q_9, q_26, ↓reduceIte, Nat.reduceAdd]; rfl, rfl⟩)
  · refine rk_iconst (v := 1) dG_timesUsed_12 (by decide) ?_
    refine rk_goto 17 dG_timesUsed_13 (by decide) ?_
    refine rk_aload_n dG_timesUsed_17 rfl ?_
    refine rk_aload_n dG_timesUsed_18 rfl ?_
    refine rk_getf fG_103 dG_timesUsed_19 (by first | exact k.gb | exact k.gnd hm | assumption) rfl ?_
    refine rk_cvV (c_G_meant b A X (N m).two _ k.gb k.gsf (hin.o2 hn hm)) cG_59 dG_timesUsed_22 rfl lG_meant (Nat.le_of_ble_eq_true rfl) (Nat.le_of_ble_eq_true rfl) (Nat.le_of_ble_eq_true rfl) (Nat.le_of_ble_eq_true rfl) (by first | exact k.gb | exact k.gnd hm | assumption) ?_
    rw [mnt_S hS o3]
    refine rk_iload_n dG_timesUsed_25 rfl ?_
    refine rk_icmp_ne 33 dG_timesUsed_26 (by decide) (fun q_26 => ?_) (fun q_26 => ?_)
    · refine rk_iconst (v := 0) dG_timesUsed_33 (by decide) ?_
      refine rk_iadd dG_timesUsed_34 ?_
      exact rk_iret rfl dG_timesUsed_35 ⟨(Nat.le_of_ble_eq_true rfl), (Nat.le_of_ble_eq_true rfl)⟩ (⟨by rw [j1] at q_9; rw [j2] at q_26; simp only [tmU, i01, q_9, q_26, ↓reduceIte, Nat.reduceAdd]; rfl, rfl⟩)
    · refine rk_iconst (v := 1) dG_timesUsed_29 (by decide) ?_
      refine rk_goto 34 dG_timesUsed_30 (by decide) ?_
      refine rk_iadd dG_timesUsed_34 ?_
      exact rk_iret rfl dG_timesUsed_35 ⟨(Nat.le_of_ble_eq_true rfl), (Nat.le_of_ble_eq_true rfl)⟩ (⟨by rw [j1] at q_9; rw [j2] at q_26; simp only [tmU, i01, q_9, q_26, ↓reduceIte, Nat.reduceAdd]; rfl, rfl⟩)
def useU (N : Nat → aN) (S st : Nat → Nat) (i m : Nat) (q : Nat × Nat) : Nat × Nat := if st m = 0 then q else (q.1 + tmU N S m i, q.2 + (if (N m).kd = 9 then tmU N S m i else 0))
def feeds (N : Nat → aN) (S : Nat → Nat) (n : Nat) (st : Nat → Nat) (i : Nat) : Bool := decide ((itr (useU N S st i) (n - (i + 1)) (i + 1) (0, 0)).1 = 1) && decide ((itr (useU N S st i) (n - (i + 1)) (i + 1) (0, 0)).2 = 1)
theorem c_G_feeds (b : Nat) (A : gA) (n : Nat) (N : Nat → aN) (na : Nat → Option Nat) (ad fe : Nat → Nat) (S st : Nat → Nat) (i : Nat) (X : gX) (h : rk_H) (k : gOK h b A n N na ad fe) (hX : X.n = n) (hin : inOK N n) (hbd : bdOK N n) (hS : sfK X.sf S n) (hSl : ∀ j : Nat, j < n → S j ≤ j) (hst : sfK X.st st n) (h2 : ∀ j, st j ≤ 2) (hi : i < n) :
    rk_Con mG_feedsOneClamp (2, 28, 0, 0) [.ref b, .int (nI i)] (gv h b A X) (rk_Rv (.int (b2i (feeds N S n st i))) (gv h b A X)) := by
  have hn := k.n14
  have loop : ∀ (k1 m u v : Nat), m + k1 = n → u ≤ 2 * m → v ≤ 2 * m → rk_Run mG_feedsOneClamp (2, 28, 0, 0) (rk_Rv (.int (b2i (decide ((itr (useU N S st i) k1 m (u, v)).1 = 1) && decide ((itr (useU N S st i) k1 m (u, v)).2 = 1)))) (gv h b A X)) 9 [some (.ref b), some (.int (nI i)), some (.int (nI u)), some (.int (nI v)), some (.int (nI m)), none] [] (gv h b A X) (0, 0) := by
    intro k1
    induction k1 with
    | zero =>
      intro m u v hm hu hv
      have hm : m = n := by omega
      subst hm
      have e1 : nI u = 1 ↔ u = 1 := nI_eq (b := 1) (by omega) (by omega)
      have e2 : nI v = 1 ↔ v = 1 := nI_eq (b := 1) (by omega) (by omega)
      refine rk_iload dG_feedsOneClamp_9 rfl ?_
      refine rk_aload_n dG_feedsOneClamp_11 rfl ?_
      refine rk_getf fG_33 dG_feedsOneClamp_12 (by first | exact k.gb | assumption) rfl ?_
      rw [hX]
      refine rk_icmp_ge 77 dG_feedsOneClamp_15 (by decide) (fun q_15 => ?_) (fun q_15 => ?_)
      · refine rk_iload_n dG_feedsOneClamp_77 rfl ?_
        refine rk_iconst (v := 1) dG_feedsOneClamp_78 (by decide) ?_
        refine rk_icmp_ne 91 dG_feedsOneClamp_79 (by decide) (fun q_79 => ?_) (fun q_79 => ?_)
        · refine rk_iconst (v := 0) dG_feedsOneClamp_91 (by decide) ?_
          exact rk_zret rfl rfl dG_feedsOneClamp_92 ⟨(Nat.le_of_ble_eq_true rfl), (Nat.le_of_ble_eq_true rfl)⟩ (⟨by simp_all [itr, b2i], rfl⟩)
        · refine rk_iload_n dG_feedsOneClamp_82 rfl ?_
          refine rk_iconst (v := 1) dG_feedsOneClamp_83 (by decide) ?_
          refine rk_icmp_ne 91 dG_feedsOneClamp_84 (by decide) (fun q_84 => ?_) (fun q_84 => ?_)
          · refine rk_iconst (v := 0) dG_feedsOneClamp_91 (by decide) ?_
            exact rk_zret rfl rfl dG_feedsOneClamp_92 ⟨(Nat.le_of_ble_eq_true rfl), (Nat.le_of_ble_eq_true rfl)⟩ (⟨by simp_all [itr, b2i], rfl⟩)
          · refine rk_iconst (v := 1) dG_feedsOneClamp_87 (by decide) ?_
            refine rk_goto 92 dG_feedsOneClamp_88 (by decide) ?_
            exact rk_zret rfl rfl dG_feedsOneClamp_92 ⟨(Nat.le_of_ble_eq_true rfl), (Nat.le_of_ble_eq_true rfl)⟩ (⟨by simp_all [itr, b2i], rfl⟩)
      · exact absurd (nI_le (Nat.le_refl _) (by omega)) q_15
    | succ k1 ih =>
      intro m u v hm hu hv
      have hmn : m < n := by omega
      have hq := (k.2.1.2 m hmn).1
      have hsm := hst m hmn
      have e0 : nI (st m) = 0 ↔ st m = 0 := nI2 (v := 0) (h2 m) (by omega)
      have e9 : nI (N m).kd = 9 ↔ (N m).kd = 9 := nI_eq (b := 9) (by have := (hbd m hmn).1.1; omega) (by omega)
      have ht := tmU_le (N := N) (S := S) (m := m) (k := i)
      refine rk_iload dG_feedsOneClamp_9 rfl ?_
      refine rk_aload_n dG_feedsOneClamp_11 rfl ?_
      refine rk_getf fG_33 dG_feedsOneClamp_12 (by first | exact k.gb | exact k.gst | exact k.gna | exact k.gnd hmn | assumption) rfl ?_
      rw [hX]
      refine rk_icmp_ge 77 dG_feedsOneClamp_15 (by decide) (fun q_15 => ?_) (fun q_15 => ?_)
      · exact absurd q_15 (nI_ge (by omega) (by omega))
      · refine rk_aload_n dG_feedsOneClamp_18 rfl ?_
        refine rk_getf fG_21 dG_feedsOneClamp_19 (by first | exact k.gb | exact k.gst | exact k.gna | exact k.gnd hmn | assumption) rfl ?_
        refine rk_iload dG_feedsOneClamp_22 rfl ?_
        refine rk_iald dG_feedsOneClamp_24 (by first | exact k.gb | exact k.gst | exact k.gna | exact k.gnd hmn | assumption) (vp_in_nI (show m < 14 by omega) (by omega)) ?_
        rw [nI_clamp (show m < 2 ^ 31 by omega), hsm]
        refine rk_if_eq 71 dG_feedsOneClamp_25 (by decide) (fun q_25 => ?_) (fun q_25 => ?_)
        · refine rk_iinc dG_feedsOneClamp_71 rfl (inc1 m) (Nat.le_of_ble_eq_true rfl) ?_
          refine rk_goto 9 dG_feedsOneClamp_74 (by decide) ?_
          have es : itr (useU N S st i) (k1 + 1) m (u, v) = itr (useU N S st i) k1 (m + 1) (useU N S st i m (u, v)) := rfl
          rw [es]
          first
            | (rw [show useU N S st i m (u, v) = (u, v) by unfold useU; rw [if_pos (e0.mp q_25)]]; exact ih (m + 1) u v (by omega) (by omega) (by omega))
            | (rw [show useU N S st i m (u, v) = (u + tmU N S m i, v + tmU N S m i) by unfold useU; rw [if_neg (fun z => q_25 (e0.mpr z)), if_pos (e9.mp q_60)]]; refine rk_lv [some (.ref b), some (.int (nI i)), some (.int (nI (u + tmU N S m i))), some (.int (nI (v + tmU N S m i))), some (.int (nI (m + 1))), none] ⟨rfl, rfl, rfl, rfl, rfl, trivial⟩ ?_; exact ih (m + 1) _ _ (by omega) (by omega) (by omega))
            | (rw [show useU N S st i m (u, v) = (u + tmU N S m i, v) by unfold useU; rw [if_neg (fun z => q_25 (e0.mpr z)), if_neg (fun z => q_60 (e9.mpr z))]; rfl]; refine rk_lv [some (.ref b), some (.int (nI i)), some (.int (nI (u + tmU N S m i))), some (.int (nI v)), some (.int (nI (m + 1))), none] ⟨rfl, rfl, rfl, congrArg (fun z => some (some (Value.int z))) (show nI v + 0 = nI v from Int32.add_zero _), rfl, trivial⟩ ?_; exact ih (m + 1) _ _ (by omega) (by omega) (by omega))
        · refine rk_aload_n dG_feedsOneClamp_28 rfl ?_
          refine rk_aload_n dG_feedsOneClamp_29 rfl ?_
          refine rk_getf fG_11 dG_feedsOneClamp_30 (by first | exact k.gb | exact k.gst | exact k.gna | exact k.gnd hmn | assumption) rfl ?_
          refine rk_iload dG_feedsOneClamp_33 rfl ?_
          refine rk_aald rfl dG_feedsOneClamp_35 (by first | exact k.gb | exact k.gst | exact k.gna | exact k.gnd hmn | assumption) (vp_in_nI (show m < 14 by omega) (by omega)) (v_nd (by omega) hq) ?_
          refine rk_iload_n dG_feedsOneClamp_36 rfl ?_
          refine rk_cvV (c_G_timesUsed b A n N na ad fe S m i X h k hin hS hSl hmn (by omega)) cG_123 dG_feedsOneClamp_37 rfl lG_timesUsed (Nat.le_of_ble_eq_true rfl) (Nat.le_of_ble_eq_true rfl) (Nat.le_of_ble_eq_true rfl) (Nat.le_of_ble_eq_true rfl) (by first | exact k.gb | exact k.gst | exact k.gna | exact k.gnd hmn | assumption) ?_
          refine rk_istore dG_feedsOneClamp_40 (Nat.le_of_ble_eq_true rfl) ?_
          refine rk_iload_n dG_feedsOneClamp_42 rfl ?_
          refine rk_iload dG_feedsOneClamp_43 rfl ?_
          refine rk_iadd dG_feedsOneClamp_45 ?_
          rw [nI_add]
          refine rk_istore_n dG_feedsOneClamp_46 (Nat.le_of_ble_eq_true rfl) ?_
          refine rk_iload_n dG_feedsOneClamp_47 rfl ?_
          refine rk_aload_n dG_feedsOneClamp_48 rfl ?_
          refine rk_getf fG_11 dG_feedsOneClamp_49 (by first | exact k.gb | exact k.gst | exact k.gna | exact k.gnd hmn | assumption) rfl ?_
          refine rk_iload dG_feedsOneClamp_52 rfl ?_
          refine rk_aald rfl dG_feedsOneClamp_54 (by first | exact k.gb | exact k.gst | exact k.gna | exact k.gnd hmn | assumption) (vp_in_nI (show m < 14 by omega) (by omega)) (v_nd (by omega) hq) ?_
          refine rk_getf fG_70 dG_feedsOneClamp_55 (by first | exact k.gb | exact k.gst | exact k.gna | exact k.gnd hmn | assumption) rfl ?_
          refine rk_bipush (v := 9) dG_feedsOneClamp_58 (by decide) ?_
          refine rk_icmp_ne 68 dG_feedsOneClamp_60 (by decide) (fun q_60 => ?_) (fun q_60 => ?_)
          · refine rk_iconst (v := 0) dG_feedsOneClamp_68 (by decide) ?_
            refine rk_iadd dG_feedsOneClamp_69 ?_
            first
              | rw [nI_add v]
              | skip
            refine rk_istore_n dG_feedsOneClamp_70 (Nat.le_of_ble_eq_true rfl) ?_
            refine rk_iinc dG_feedsOneClamp_71 rfl (inc1 m) (Nat.le_of_ble_eq_true rfl) ?_
            refine rk_goto 9 dG_feedsOneClamp_74 (by decide) ?_
            have es : itr (useU N S st i) (k1 + 1) m (u, v) = itr (useU N S st i) k1 (m + 1) (useU N S st i m (u, v)) := rfl
            rw [es]
            first
              | (rw [show useU N S st i m (u, v) = (u, v) by unfold useU; rw [if_pos (e0.mp q_25)]]; exact ih (m + 1) u v (by omega) (by omega) (by omega))
              | (rw [show useU N S st i m (u, v) = (u + tmU N S m i, v + tmU N S m i) by unfold useU; rw [if_neg (fun z => q_25 (e0.mpr z)), if_pos (e9.mp q_60)]]; refine rk_lv [some (.ref b), some (.int (nI i)), some (.int (nI (u + tmU N S m i))), some (.int (nI (v + tmU N S m i))), some (.int (nI (m + 1))), none] ⟨rfl, rfl, rfl, rfl, rfl, trivial⟩ ?_; exact ih (m + 1) _ _ (by omega) (by omega) (by omega))
              | (rw [show useU N S st i m (u, v) = (u + tmU N S m i, v) by unfold useU; rw [if_neg (fun z => q_25 (e0.mpr z)), if_neg (fun z => q_60 (e9.mpr z))]; rfl]; refine rk_lv [some (.ref b), some (.int (nI i)), some (.int (nI (u + tmU N S m i))), some (.int (nI v)), some (.int (nI (m + 1))), none] ⟨rfl, rfl, rfl, congrArg (fun z => some (some (Value.int z))) (show nI v + 0 = nI v from Int32.add_zero _), rfl, trivial⟩ ?_; exact ih (m + 1) _ _ (by omega) (by omega) (by omega))
          · refine rk_iload dG_feedsOneClamp_63 rfl ?_
            refine rk_goto 69 dG_feedsOneClamp_65 (by decide) ?_
            refine rk_iadd dG_feedsOneClamp_69 ?_
            first
              | rw [nI_add v]
              | skip
            refine rk_istore_n dG_feedsOneClamp_70 (Nat.le_of_ble_eq_true rfl) ?_
            refine rk_iinc dG_feedsOneClamp_71 rfl (inc1 m) (Nat.le_of_ble_eq_true rfl) ?_
            refine rk_goto 9 dG_feedsOneClamp_74 (by decide) ?_
            have es : itr (useU N S st i) (k1 + 1) m (u, v) = itr (useU N S st i) k1 (m + 1) (useU N S st i m (u, v)) := rfl
            rw [es]
            first
              | (rw [show useU N S st i m (u, v) = (u, v) by unfold useU; rw [if_pos (e0.mp q_25)]]; exact ih (m + 1) u v (by omega) (by omega) (by omega))
              | (rw [show useU N S st i m (u, v) = (u + tmU N S m i, v + tmU N S m i) by unfold useU; rw [if_neg (fun z => q_25 (e0.mpr z)), if_pos (e9.mp q_60)]]; refine rk_lv [some (.ref b), some (.int (nI i)), some (.int (nI (u + tmU N S m i))), some (.int (nI (v + tmU N S m i))), some (.int (nI (m + 1))), none] ⟨rfl, rfl, rfl, rfl, rfl, trivial⟩ ?_; exact ih (m + 1) _ _ (by omega) (by omega) (by omega))
              | (rw [show useU N S st i m (u, v) = (u + tmU N S m i, v) by unfold useU; rw [if_neg (fun z => q_25 (e0.mpr z)), if_neg (fun z => q_60 (e9.mpr z))]; rfl]; refine rk_lv [some (.ref b), some (.int (nI i)), some (.int (nI (u + tmU N S m i))), some (.int (nI v)), some (.int (nI (m + 1))), none] ⟨rfl, rfl, rfl, congrArg (fun z => some (some (Value.int z))) (show nI v + 0 = nI v from Int32.add_zero _), rfl, trivial⟩ ?_; exact ih (m + 1) _ _ (by omega) (by omega) (by omega))
  refine rk_Con.of [some (.ref b), some (.int (nI i)), none, none, none, none] rfl (Nat.le_of_ble_eq_true rfl) (by decide +kernel) ?_
  refine rk_iconst (v := 0) dG_feedsOneClamp_0 (by decide) ?_
  refine rk_istore_n dG_feedsOneClamp_1 (Nat.le_of_ble_eq_true rfl) ?_
  refine rk_iconst (v := 0) dG_feedsOneClamp_2 (by decide) ?_
  refine rk_istore_n dG_feedsOneClamp_3 (Nat.le_of_ble_eq_true rfl) ?_
  refine rk_iload_n dG_feedsOneClamp_4 rfl ?_
  refine rk_iconst (v := 1) dG_feedsOneClamp_5 (by decide) ?_
  refine rk_iadd dG_feedsOneClamp_6 ?_
  rw [show nI i + 1 = nI (i + 1) from nI_1 i]
  refine rk_istore dG_feedsOneClamp_7 (Nat.le_of_ble_eq_true rfl) ?_
  exact loop (n - (i + 1)) (i + 1) 0 0 (by omega) (by omega) (by omega)
