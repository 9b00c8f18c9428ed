/-! the reference: roles -/
theorem oI_is {S : Nat → Nat} {o : Option Nat} {k i : Nat} (hk : k ≤ 14) (hSl : ∀ j : Nat, j < k → S j ≤ j) (ho : ∀ a, o = some a → a < k) (hi : i < 14) : oI (o.map S) = nI i ↔ o.map S = some i := by
  show oI (o.map S) = oI (some i) ↔ _
  refine oI_inj ?_ (fun a ha => by cases ha; omega)
  intro a ha
  cases ho2 : o with
  | none => rw [ho2] at ha; cases ha
  | some z => rw [ho2] at ha; cases ha; have := ho z ho2; have := hSl z this; omega
theorem wro_no {X : rX} {f : Nat → Int32} : (X.wro f).no = X.no := rfl
theorem wst_no {X : rX} {f : Nat → Int32} : (X.wst f).no = X.no := rfl
theorem wsp_no {X : rX} {f : Nat → Int32} : (X.wsp f).no = X.no := rfl
theorem wla_no {X : rX} {f : Nat → Int32} : (X.wla f).no = X.no := rfl
theorem wpl_no {X : rX} {f : Nat → Int32} : (X.wpl f).no = X.no := rfl
theorem wsn_no {X : rX} {v : Int32} : (X.wsn v).no = X.no := rfl
theorem wpk_no {X : rX} {v : Int32} : (X.wpk v).no = X.no := rfl
def useA (N : Nat → aN) (S R : Nat → Nat) (i m q : Nat) : Nat := if R m = 0 then q else q + tmU N S m i
theorem c_R_uses (b : rk_H) (A : Nat → Nat) (X : rX) (k : rA A) (S R : Nat → Nat) (i : Nat) (hn : X.no ≤ 14) (hi : i < 14) (hin : inOK X.N X.no) (hS : sfK X.st S X.no) (hSl : ∀ j : Nat, j < X.no → S j ≤ j) (hR : sfK X.ro R X.no) (h2 : ∀ j, R j ≤ 2) : rk_Con mR_uses (1, 14, 0, 0) [.ref (A 0), .int (nI i)] (rv b A X) (rk_Rv (.int (nI (itr (useA X.N S R i) X.no 0 0))) (rv b A X)) := by
  have loop : ∀ (k1 m q : Nat), m + k1 = X.no → rk_Run mR_uses (1, 14, 0, 0) (rk_Rv (.int (nI (itr (useA X.N S R i) k1 m q))) (rv b A X)) 4 [some (.ref (A 0)), some (.int (nI i)), some (.int (nI q)), some (.int (nI m))] [] (rv b A X) (0, 0) := by
    intro k1
    induction k1 with
    | zero =>
      intro m q hm
      have hm : m = X.no := by omega
      subst hm
      refine rk_iload_n dR_uses_4 rfl ?_
      refine rk_aload_n dR_uses_5 rfl ?_
      refine rk_getf fR_106 dR_uses_6 k.m rfl ?_
      refine rk_icmp_ge 74 dR_uses_9 (by decide) (fun q_9 => ?_) (fun q_9 => ?_)
      · refine rk_iload_n dR_uses_74 rfl ?_
        exact rk_iret rfl dR_uses_75 ⟨(Nat.le_of_ble_eq_true rfl), (Nat.le_of_ble_eq_true rfl)⟩ (⟨rfl, rfl⟩)
      · exact absurd (nI_le (Nat.le_refl _) (by omega)) q_9
    | succ k1 ih =>
      intro m q hm
      have o1 := (hin m (by omega)).1
      have o2 := (hin m (by omega)).2
      have o1' : ∀ a, (X.N m).one = some a → a < X.no := fun a ha => by have := o1 a ha; omega
      have o2' : ∀ a, (X.N m).two = some a → a < X.no := fun a ha => by have := o2 a ha; omega
      have e1 := oI_is (i := i) hn hSl o1' hi
      have e2 := oI_is (i := i) hn hSl o2' hi
      have e0 : nI (R m) = 0 ↔ R m = 0 := nI_eq (b := 0) (by have := h2 m; omega) (by omega)
      have nx : ∀ q', useA X.N S R i m q = q' → rk_Run mR_uses (1, 14, 0, 0) (rk_Rv (.int (nI (itr (useA X.N S R i) (k1 + 1) m q))) (rv b A X)) 68 [some (.ref (A 0)), some (.int (nI i)), some (.int (nI q')), some (.int (nI m))] [] (rv b A X) (0, 0) := by
        intro q' hq
        show rk_Run _ _ (rk_Rv (.int (nI (itr (useA X.N S R i) k1 (m + 1) (useA X.N S R i m q)))) _) _ _ _ _ _
        rw [hq]
        refine rk_iinc dR_uses_68 rfl (inc1 m) (Nat.le_of_ble_eq_true rfl) ?_
        refine rk_goto 4 dR_uses_71 (by decide) ?_
        exact ih (m + 1) q' (by omega)
      refine rk_iload_n dR_uses_4 rfl ?_
      refine rk_aload_n dR_uses_5 rfl ?_
      refine rk_getf fR_106 dR_uses_6 k.m rfl ?_
      refine rk_icmp_ge 74 dR_uses_9 (by decide) (fun q_9 => (by exact absurd q_9 (nI_ge (by omega) (by omega)))) (fun q_9 => ?_)
      refine rk_aload_n dR_uses_12 rfl ?_
      refine rk_getf fR_67 dR_uses_13 k.m rfl ?_
      refine rk_iload_n dR_uses_16 rfl ?_
      refine rk_iald dR_uses_17 k.ro (vp_in_nI (show m < 14 by omega) (by omega)) ?_
      rw [nI_clamp (show m < 2 ^ 31 by omega), hR m (by omega)]
      refine rk_if_ne 24 dR_uses_18 (by decide) (fun q_18 => ?_) (fun q_18 => ?_)
      · refine rk_iload_n dR_uses_24 rfl ?_
        refine rk_aload_n dR_uses_25 rfl ?_
        refine rk_aload_n dR_uses_26 rfl ?_
        refine rk_getf fR_20 dR_uses_27 k.m rfl ?_
        refine rk_iload_n dR_uses_30 rfl ?_
        refine rk_iald dR_uses_31 k.on (vp_in_nI (show m < 14 by omega) (by omega)) ?_
        rw [nI_clamp (show m < 2 ^ 31 by omega)]
        refine rk_cvV (c_R_standFor b A X k (X.N m).one (fun a ha => by have := o1 a ha; omega)) cR_143 dR_uses_32 rfl lR_standFor (Nat.le_of_ble_eq_true rfl) (Nat.le_of_ble_eq_true rfl) (Nat.le_of_ble_eq_true rfl) (Nat.le_of_ble_eq_true rfl) k.m ?_
        rw [mnt_S hS o1']
        refine rk_iload_n dR_uses_35 rfl ?_
        refine rk_icmp_ne 43 dR_uses_36 (by decide) (fun q_36 => ?_) (fun q_36 => ?_)
        · refine rk_iconst (v := 0) dR_uses_43 (by decide) ?_
          refine rk_iadd dR_uses_44 ?_
          first | rw [nI_1] | rw [Int32.add_zero]
          refine rk_istore_n dR_uses_45 (Nat.le_of_ble_eq_true rfl) ?_
          refine rk_iload_n dR_uses_46 rfl ?_
          refine rk_aload_n dR_uses_47 rfl ?_
          refine rk_aload_n dR_uses_48 rfl ?_
          refine rk_getf fR_23 dR_uses_49 k.m rfl ?_
          refine rk_iload_n dR_uses_52 rfl ?_
          refine rk_iald dR_uses_53 k.tw (vp_in_nI (show m < 14 by omega) (by omega)) ?_
          rw [nI_clamp (show m < 2 ^ 31 by omega)]
          refine rk_cvV (c_R_standFor b A X k (X.N m).two (fun a ha => by have := o2 a ha; omega)) cR_143 dR_uses_54 rfl lR_standFor (Nat.le_of_ble_eq_true rfl) (Nat.le_of_ble_eq_true rfl) (Nat.le_of_ble_eq_true rfl) (Nat.le_of_ble_eq_true rfl) k.m ?_
          rw [mnt_S hS o2']
          refine rk_iload_n dR_uses_57 rfl ?_
          refine rk_icmp_ne 65 dR_uses_58 (by decide) (fun q_58 => ?_) (fun q_58 => ?_)
          · refine rk_iconst (v := 0) dR_uses_65 (by decide) ?_
            refine rk_iadd dR_uses_66 ?_
            first | rw [nI_1] | rw [Int32.add_zero]
            refine rk_istore_n dR_uses_67 (Nat.le_of_ble_eq_true rfl) ?_
            first | exact nx q (by unfold useA tmU i01; simp_all) | exact nx (q + 1) (by unfold useA tmU i01; simp_all) | exact nx (q + 1 + 1) (by unfold useA tmU i01; simp_all)
          · refine rk_iconst (v := 1) dR_uses_61 (by decide) ?_
            refine rk_goto 66 dR_uses_62 (by decide) ?_
            refine rk_iadd dR_uses_66 ?_
            first | rw [nI_1] | rw [Int32.add_zero]
            refine rk_istore_n dR_uses_67 (Nat.le_of_ble_eq_true rfl) ?_
            first | exact nx q (by unfold useA tmU i01; simp_all) | exact nx (q + 1) (by unfold useA tmU i01; simp_all) | exact nx (q + 1 + 1) (by unfold useA tmU i01; simp_all)
        · refine rk_iconst (v := 1) dR_uses_39 (by decide) ?_
          refine rk_goto 44 dR_uses_40 (by decide) ?_
          refine rk_iadd dR_uses_44 ?_
          first | rw [nI_1] | rw [Int32.add_zero]
          refine rk_istore_n dR_uses_45 (Nat.le_of_ble_eq_true rfl) ?_
          refine rk_iload_n dR_uses_46 rfl ?_
          refine rk_aload_n dR_uses_47 rfl ?_
          refine rk_aload_n dR_uses_48 rfl ?_
          refine rk_getf fR_23 dR_uses_49 k.m rfl ?_
          refine rk_iload_n dR_uses_52 rfl ?_
          refine rk_iald dR_uses_53 k.tw (vp_in_nI (show m < 14 by omega) (by omega)) ?_
          rw [nI_clamp (show m < 2 ^ 31 by omega)]
          refine rk_cvV (c_R_standFor b A X k (X.N m).two (fun a ha => by have := o2 a ha; omega)) cR_143 dR_uses_54 rfl lR_standFor (Nat.le_of_ble_eq_true rfl) (Nat.le_of_ble_eq_true rfl) (Nat.le_of_ble_eq_true rfl) (Nat.le_of_ble_eq_true rfl) k.m ?_
          rw [mnt_S hS o2']
          refine rk_iload_n dR_uses_57 rfl ?_
          refine rk_icmp_ne 65 dR_uses_58 (by decide) (fun q_58 => ?_) (fun q_58 => ?_)
          · refine rk_iconst (v := 0) dR_uses_65 (by decide) ?_
            refine rk_iadd dR_uses_66 ?_
            first | rw [nI_1] | rw [Int32.add_zero]
            refine rk_istore_n dR_uses_67 (Nat.le_of_ble_eq_true rfl) ?_
            first | exact nx q (by unfold useA tmU i01; simp_all) | exact nx (q + 1) (by unfold useA tmU i01; simp_all) | exact nx (q + 1 + 1) (by unfold useA tmU i01; simp_all)
          · refine rk_iconst (v := 1) dR_uses_61 (by decide) ?_
            refine rk_goto 66 dR_uses_62 (by decide) ?_
            refine rk_iadd dR_uses_66 ?_
            first | rw [nI_1] | rw [Int32.add_zero]
            refine rk_istore_n dR_uses_67 (Nat.le_of_ble_eq_true rfl) ?_
            first | exact nx q (by unfold useA tmU i01; simp_all) | exact nx (q + 1) (by unfold useA tmU i01; simp_all) | exact nx (q + 1 + 1) (by unfold useA tmU i01; simp_all)
      · refine rk_goto 68 dR_uses_21 (by decide) ?_
        first | exact nx q (by unfold useA tmU i01; simp_all) | exact nx (q + 1) (by unfold useA tmU i01; simp_all) | exact nx (q + 1 + 1) (by unfold useA tmU i01; simp_all)
  refine rk_Con.of [some (.ref (A 0)), some (.int (nI i)), none, none] rfl (Nat.le_of_ble_eq_true rfl) (by decide +kernel) ?_
  refine rk_iconst (v := 0) dR_uses_0 (by decide) ?_
  refine rk_istore_n dR_uses_1 (Nat.le_of_ble_eq_true rfl) ?_
  refine rk_iconst (v := 0) dR_uses_2 (by decide) ?_
  refine rk_istore_n dR_uses_3 (Nat.le_of_ble_eq_true rfl) ?_
  exact loop X.no 0 0 (by omega)
theorem tmU_0 {N : Nat → aN} {n : Nat} {S : Nat → Nat} (hin : inOK N n) (hSl : ∀ j : Nat, j < n → S j ≤ j) {m i : Nat} (hm : m < n) (h : m ≤ i) : tmU N S m i = 0 := by
  have f : ∀ o : Option Nat, (∀ a, o = some a → a < m) → ¬ o.map S = some i := by
    intro o ho he
    cases o with
    | none => cases he
    | some a =>
      have := ho a rfl
      have := hSl a (by omega)
      cases he
      omega
  unfold tmU i01
  rw [if_neg (f _ (hin m hm).1), if_neg (f _ (hin m hm).2)]
theorem itr_skip {α : Type} {s : Nat → α → α} : ∀ (k i : Nat) (a : α), (∀ j, i ≤ j → j < i + k → ∀ a, s j a = a) → itr s k i a = a := by
  intro k
  induction k with
  | zero => intro i a _; rfl
  | succ k ih =>
    intro i a h
    show itr s k (i + 1) (s i a) = a
    rw [h i (Nat.le_refl _) (by omega)]
    exact ih (i + 1) a (fun j h1 h2 => h j (by omega) (by omega))
theorem itr_app {α : Type} {s : Nat → α → α} : ∀ (k l i : Nat) (a : α), itr s (k + l) i a = itr s l (i + k) (itr s k i a) := by
  intro k
  induction k with
  | zero => intro l i a; rw [Nat.zero_add]; rfl
  | succ k ih =>
    intro l i a
    rw [show k + 1 + l = (k + l) + 1 by omega]
    show itr s (k + l) (i + 1) (s i a) = itr s l (i + (k + 1)) (itr s k (i + 1) (s i a))
    rw [ih, show i + 1 + k = i + (k + 1) by omega]
theorem useU_A {N : Nat → aN} {S R : Nat → Nat} {i : Nat} : ∀ (k m : Nat) (q : Nat × Nat), (itr (useU N S R i) k m q).1 = itr (useA N S R i) k m q.1 := by
  intro k
  induction k with
  | zero => intro m q; rfl
  | succ k ih =>
    intro m q
    show (itr (useU N S R i) k (m + 1) (useU N S R i m q)).1 = itr (useA N S R i) k (m + 1) (useA N S R i m q.1)
    rw [ih]
    congr 1
    unfold useU useA
    split <;> rfl
theorem useA_0 {N : Nat → aN} {n : Nat} {S R : Nat → Nat} (hin : inOK N n) (hSl : ∀ j : Nat, j < n → S j ≤ j) {i : Nat} (hi : i < n) : itr (useA N S R i) n 0 0 = itr (useA N S R i) (n - (i + 1)) (i + 1) 0 := by
  have e : n = (i + 1) + (n - (i + 1)) := by omega
  have h0 : itr (useA N S R i) (i + 1) 0 0 = 0 := itr_skip _ _ _ (fun j _ h2 a => by
    unfold useA
    split
    · rfl
    · rw [tmU_0 hin hSl (by omega) (by omega), Nat.add_zero])
  conv => lhs; rw [e]
  rw [itr_app, h0, Nat.zero_add]
/-- a node with one use feeds a clamp when some needed clamp reads it -/
def clB (N : Nat → aN) (S R : Nat → Nat) (i m : Nat) : Bool := decide (R m ≠ 0) && decide ((N m).kd = 9) && decide ((N m).one.map S = some i)
theorem useU_c {N : Nat → aN} {S R : Nat → Nat} {i : Nat} : ∀ (k m : Nat) (q : Nat × Nat), q.2 ≤ (itr (useU N S R i) k m q).2 := by
  intro k
  induction k with
  | zero => intro m q; exact Nat.le_refl _
  | succ k ih =>
    intro m q
    refine Nat.le_trans ?_ (ih (m + 1) (useU N S R i m q))
    unfold useU
    split
    · exact Nat.le_refl _
    · exact Nat.le_add_right _ _
theorem useU_n {N : Nat → aN} {S R : Nat → Nat} {i : Nat} : ∀ (k m : Nat) (q : Nat × Nat), (∀ j, m ≤ j → j < m + k → R j ≠ 0 → (N j).kd = 9 → tmU N S j i = 0) → (itr (useU N S R i) k m q).2 = q.2 := by
  intro k
  induction k with
  | zero => intro m q _; rfl
  | succ k ih =>
    intro m q h
    show (itr (useU N S R i) k (m + 1) (useU N S R i m q)).2 = q.2
    rw [ih _ _ (fun j h1 h2 => h j (by omega) (by omega))]
    unfold useU
    split
    · rfl
    · next hr =>
      dsimp only
      split
      · next h9 => rw [h m (Nat.le_refl _) (by omega) hr h9]; rfl
      · rfl
theorem useU_y {N : Nat → aN} {S R : Nat → Nat} {i j : Nat} (hr : R j ≠ 0) (h9 : (N j).kd = 9) (ht : 1 ≤ tmU N S j i) : ∀ (k m : Nat) (q : Nat × Nat), m ≤ j → j < m + k → q.2 + 1 ≤ (itr (useU N S R i) k m q).2 := by
  intro k
  induction k with
  | zero => intro m q h1 h2; omega
  | succ k ih =>
    intro m q h1 h2
    show q.2 + 1 ≤ (itr (useU N S R i) k (m + 1) (useU N S R i m q)).2
    by_cases hm : m = j
    · subst hm
      refine Nat.le_trans ?_ (useU_c k (m + 1) _)
      unfold useU
      rw [if_neg hr, if_pos h9]
      show q.2 + 1 ≤ q.2 + tmU N S m i
      omega
    · refine Nat.le_trans ?_ (ih (m + 1) (useU N S R i m q) (by omega) (by omega))
      have : q.2 ≤ (useU N S R i m q).2 := by
        unfold useU
        split
        · exact Nat.le_refl _
        · exact Nat.le_add_right _ _
      omega
theorem feeds_cl {N : Nat → aN} {n : Nat} {S R : Nat → Nat} (hwf : wfN N n) (hSl : ∀ j : Nat, j < n → S j ≤ j) {i : Nat} (hi : i < n) : feeds N S n R i = (decide (itr (useA N S R i) n 0 0 = 1) && decide (fstA (clB N S R i) n 0 < n)) := by
  have hin := wfN.inn hwf
  have e1 : (itr (useU N S R i) (n - (i + 1)) (i + 1) (0, 0)).1 = itr (useA N S R i) n 0 0 := by rw [useU_A, useA_0 hin hSl hi]
  have two9 : ∀ j, j < n → (N j).kd = 9 → tmU N S j i = i01 ((N j).one.map S = some i) := by
    intro j hj h9
    have ht : (N j).two = none := by
      rcases (hwf j hj).2 with ⟨-, -, h⟩ | ⟨a, -, h, -⟩ | ⟨a, c, -, -, h⟩
      · exact h
      · exact h
      · rcases h with ⟨h, -⟩ | ⟨h, -⟩ <;> omega
    unfold tmU
    rw [ht]
    show _ + i01 (none = some i) = _
    unfold i01
    rw [if_neg (show ¬ (none : Option Nat) = some i by intro z; cases z)]
    rfl
  have hle := (useU_le (N := N) (S := S) (st := R) (c := i) (n - (i + 1)) (i + 1) (0, 0) (Nat.le_refl _)).1
  unfold feeds
  rw [e1]
  by_cases h1 : itr (useA N S R i) n 0 0 = 1
  · rw [decide_eq_true h1, Bool.true_and, Bool.true_and, decide_eq_decide]
    rw [e1, h1] at hle
    constructor
    · intro h2
      rcases Nat.lt_or_ge (fstA (clB N S R i) n 0) n with h | h
      · exact h
      · exfalso
        have hz : fstA (clB N S R i) n 0 = n := by have := (fstA_le (p := clB N S R i) (k := n) (i := 0)).1; omega
        have hall := fstA_none.mp hz
        have := useU_n (N := N) (S := S) (R := R) (i := i) (n - (i + 1)) (i + 1) (0, 0) (fun j h1 h2 hr h9 => by
          rw [two9 j (by omega) h9]
          unfold i01
          refine if_neg (fun hm => ?_)
          have := hall j (by omega)
          unfold clB at this
          rw [decide_eq_true hr, decide_eq_true h9, decide_eq_true hm] at this
          cases this)
        rw [this] at h2
        cases h2
    · intro h2
      have hp := fstA_lt (p := clB N S R i) (k := n) (i := 0) (by omega)
      generalize fstA (clB N S R i) n 0 = j at hp h2
      unfold clB at hp
      rw [Bool.and_eq_true, Bool.and_eq_true, decide_eq_true_eq, decide_eq_true_eq, decide_eq_true_eq] at hp
      have ht : tmU N S j i = 1 := by rw [two9 j h2 hp.1.2]; exact if_pos hp.2
      have hij : i < j := by
        rcases Nat.lt_or_ge i j with h | h
        · exact h
        · rw [tmU_0 hin hSl h2 h] at ht; cases ht
      have h3 : 0 + 1 ≤ (itr (useU N S R i) (n - (i + 1)) (i + 1) (0, 0)).2 := useU_y (N := N) (S := S) (R := R) hp.1.1 hp.1.2 (by omega) (n - (i + 1)) (i + 1) (0, 0) (by omega) (by omega)
      omega
  · rw [decide_eq_false h1, Bool.false_and, Bool.false_and]
