/-! Graph: need, markNeeded, fuse -/
def setO (f : Nat → Int32) (S : Nat → Nat) (o : Option Nat) (v : Int32) : Nat → Int32 := match o with
  | none => f
  | some a => upd f (S a) v
def setN (st : Nat → Nat) (S : Nat → Nat) (o : Option Nat) : Nat → Nat := match o with
  | none => st
  | some a => fun j => if j = S a then 2 else st j
theorem setN_le {st S : Nat → Nat} {o : Option Nat} (h : ∀ j, st j ≤ 2) : ∀ j, setN st S o j ≤ 2 := by
  intro j
  cases o with
  | none => exact h j
  | some a =>
    show (if j = S a then 2 else st j) ≤ 2
    split
    · omega
    · exact h j
theorem setO_N {f : Nat → Int32} {st S : Nat → Nat} {o : Option Nat} (h : sfK f st 14) : sfK (setO f S o 2) (setN st S o) 14 := by
  intro j hj
  cases o with
  | none => exact h j hj
  | some a =>
    show (if j = S a then 2 else f j) = nI (if j = S a then 2 else st j)
    split
    · rfl
    · exact h j hj
/-- the inputs of a node, and what they stand for, are nodes -/
def soK (f : Nat → Int32) (S : Nat → Nat) (o : Option Nat) : Prop := ∀ a : Nat, o = some a → (a < 14 ∧ S a < 14) ∧ f a = nI (S a)
theorem soK.mk {f : Nat → Int32} {S : Nat → Nat} {n : Nat} (hS : sfK f S n) (hSl : ∀ j : Nat, j < n → S j ≤ j) (hn : n ≤ 14) {o : Option Nat} (ho : ∀ a, o = some a → a < n) : soK f S o := fun a ha => by
  have h1 := ho a ha
  have h2 := hSl a h1
  exact ⟨⟨by omega, by omega⟩, hS a h1⟩
theorem c_G_need (b : Nat) (A : gA) (n : Nat) (N : Nat → aN) (na : Nat → Option Nat) (ad fe : Nat → Nat) (S : Nat → Nat) (o : Option Nat) (X : gX) (h : rk_H) (k : gOK h b A n N na ad fe) (ho : soK X.sf S o) :
    rk_Con mG_need (0, 0, 0, 0) [.ref b, .int (oI o)] (gv h b A X) (rk_R0 (gv h b A (X.wst (setO X.st S o 2)))) := by
  refine rk_Con.of [some (.ref b), some (.int (oI o))] rfl (Nat.le_of_ble_eq_true rfl) (by decide +kernel) ?_
  cases o with
  | none =>
    refine rk_iload_n dG_need_0 rfl ?_
    refine rk_iconst (v := -1) dG_need_1 (by decide) ?_
    refine rk_icmp_eq 17 dG_need_2 (by decide) (fun q_2 => ?_) (fun q_2 => ?_)
    · exact rk_ret rfl dG_need_17 ⟨(Nat.le_of_ble_eq_true rfl), (Nat.le_of_ble_eq_true rfl)⟩ (⟨rfl, rfl⟩)
    · exact absurd rfl q_2
  | some a =>
    obtain ⟨⟨h1, h2⟩, h3⟩ := ho a rfl
    refine rk_iload_n dG_need_0 rfl ?_
    refine rk_iconst (v := -1) dG_need_1 (by decide) ?_
    refine rk_icmp_eq 17 dG_need_2 (by decide) (fun q_2 => ?_) (fun q_2 => ?_)
    · exact absurd (show nI a < 0 by rw [show nI a = -1 from q_2]; decide) (nI_pos (by omega))
    · refine rk_aload_n dG_need_5 rfl ?_
      refine rk_getf fG_21 dG_need_6 (by first | exact k.gb | exact k.gsf | exact k.gst | assumption) rfl ?_
      refine rk_aload_n dG_need_9 rfl ?_
      refine rk_getf fG_17 dG_need_10 (by first | exact k.gb | exact k.gsf | exact k.gst | assumption) rfl ?_
      refine rk_iload_n dG_need_13 rfl ?_
      refine rk_iald dG_need_14 (by first | exact k.gb | exact k.gsf | exact k.gst | assumption) (vp_in_nI h1 (by omega)) ?_
      rw [show (oI (some a)).toNatClampNeg = a from nI_clamp (by omega), h3]
      refine rk_iconst (v := 2) dG_need_15 (by decide) ?_
      refine rk_iast dG_need_16 (by first | exact k.gb | exact k.gsf | exact k.gst | assumption) (vp_in_nI h2 (by omega)) ?_
      rw [k.ust, nI_clamp (show S a < 2 ^ 31 by omega)]
      exact rk_ret rfl dG_need_17 ⟨(Nat.le_of_ble_eq_true rfl), (Nat.le_of_ble_eq_true rfl)⟩ (⟨rfl, rfl⟩)
theorem c_G_keepAlive (b : Nat) (A : gA) (n : Nat) (N : Nat → aN) (na : Nat → Option Nat) (ad fe : Nat → Nat) (S : Nat → Nat) (o : Option Nat) (v : Int32) (X : gX) (h : rk_H) (k : gOK h b A n N na ad fe) (ho : soK X.sf S o) :
    rk_Con mG_keepAlive (0, 0, 0, 0) [.ref b, .int (oI o), .int v] (gv h b A X) (rk_R0 (gv h b A (X.wla (setO X.la S o v)))) := by
  refine rk_Con.of [some (.ref b), some (.int (oI o)), some (.int v)] rfl (Nat.le_of_ble_eq_true rfl) (by decide +kernel) ?_
  cases o with
  | none =>
    refine rk_iload_n dG_keepAlive_0 rfl ?_
    refine rk_iconst (v := -1) dG_keepAlive_1 (by decide) ?_
    refine rk_icmp_eq 17 dG_keepAlive_2 (by decide) (fun q_2 => ?_) (fun q_2 => ?_)
    · exact rk_ret rfl dG_keepAlive_17 ⟨(Nat.le_of_ble_eq_true rfl), (Nat.le_of_ble_eq_true rfl)⟩ (⟨rfl, rfl⟩)
    · exact absurd rfl q_2
  | some a =>
    obtain ⟨⟨h1, h2⟩, h3⟩ := ho a rfl
    refine rk_iload_n dG_keepAlive_0 rfl ?_
    refine rk_iconst (v := -1) dG_keepAlive_1 (by decide) ?_
    refine rk_icmp_eq 17 dG_keepAlive_2 (by decide) (fun q_2 => ?_) (fun q_2 => ?_)
    · exact absurd (show nI a < 0 by rw [show nI a = -1 from q_2]; decide) (nI_pos (by omega))
    · refine rk_aload_n dG_keepAlive_5 rfl ?_
      refine rk_getf fG_30 dG_keepAlive_6 (by first | exact k.gb | exact k.gsf | exact k.gla | assumption) rfl ?_
      refine rk_aload_n dG_keepAlive_9 rfl ?_
      refine rk_getf fG_17 dG_keepAlive_10 (by first | exact k.gb | exact k.gsf | exact k.gla | assumption) rfl ?_
      refine rk_iload_n dG_keepAlive_13 rfl ?_
      refine rk_iald dG_keepAlive_14 (by first | exact k.gb | exact k.gsf | exact k.gla | assumption) (vp_in_nI h1 (by omega)) ?_
      rw [show (oI (some a)).toNatClampNeg = a from nI_clamp (by omega), h3]
      refine rk_iload_n dG_keepAlive_15 rfl ?_
      refine rk_iast dG_keepAlive_16 (by first | exact k.gb | exact k.gsf | exact k.gla | assumption) (vp_in_nI h2 (by omega)) ?_
      rw [k.ula, nI_clamp (show S a < 2 ^ 31 by omega)]
      exact rk_ret rfl dG_keepAlive_17 ⟨(Nat.le_of_ble_eq_true rfl), (Nat.le_of_ble_eq_true rfl)⟩ (⟨rfl, rfl⟩)
theorem itf_get {g : Nat → (Nat → Int32) → Int32} {t k : Nat} {f V : Nat → Int32} (H : ∀ i, i < k → ∀ f' : Nat → Int32, (∀ j, (j < t ∨ t + i ≤ j) → f' j = f j) → g i f' = V i) : ∀ j, itf g t k f j = if t ≤ j ∧ j < t + k then V (j - t) else f j := by
  induction k with
  | zero => intro j; rw [if_neg (by omega)]; rfl
  | succ k ih =>
    have ih := ih (fun i hi => H i (by omega))
    intro j
    rw [itf_s]
    show (if j = t + k then _ else itf g t k f j) = _
    by_cases hj : j = t + k
    · rw [if_pos hj, if_pos (by omega), H k (by omega) _ (fun q hq => by rw [ih q, if_neg (by omega)])]
      congr 1
      omega
    · rw [if_neg hj, ih j]
      by_cases h2 : t ≤ j ∧ j < t + k
      · rw [if_pos h2, if_pos (by omega)]
      · rw [if_neg h2, if_neg (by omega)]
def ndStep (N : Nat → aN) (S : Nat → Nat) (st : Nat → Nat) (k : Nat) : Nat → Nat := if st k = 2 then setN (setN st S (N k).one) S (N k).two else st
def ndI (N : Nat → aN) (S : Nat → Nat) : Nat → (Nat → Nat) → Nat → Nat
  | 0, st => st
  | k + 1, st => ndI N S k (ndStep N S st k)
def ini (o : Nat) : Nat → Nat := fun j => if j = o then 2 else 0
theorem ndStep_le {N : Nat → aN} {S st : Nat → Nat} {k : Nat} (h : ∀ j, st j ≤ 2) : ∀ j, ndStep N S st k j ≤ 2 := by
  intro j
  unfold ndStep
  split
  · exact setN_le (setN_le h) j
  · exact h j
theorem ndI_le {N : Nat → aN} {S : Nat → Nat} {k : Nat} : ∀ {st : Nat → Nat}, (∀ j, st j ≤ 2) → ∀ j, ndI N S k st j ≤ 2 := by
  induction k with
  | zero => intro st h j; exact h j
  | succ k ih => intro st h j; exact ih (ndStep_le h) j
def prd (k : Nat) : Int32 := match k with
  | 0 => -1
  | j + 1 => nI j
theorem prd_inc (j : Nat) : nI j + Int32.ofInt (-1) = prd j := by
  cases j with
  | zero => rfl
  | succ j => exact pk_m1 j
theorem nI2 {x v : Nat} (hx : x ≤ 2) (hv : v ≤ 2) : nI x = nI v ↔ x = v := nI_eq (by omega) (by omega)
theorem c_G_markNeeded (b : Nat) (A : gA) (n : Nat) (N : Nat → aN) (na : Nat → Option Nat) (ad fe : Nat → Nat) (S : Nat → Nat) (o : Nat) (X : gX) (h : rk_H) (k : gOK h b A n N na ad fe) (hin : inOK N n) (hS : sfK X.sf S n) (hSl : ∀ j : Nat, j < n → S j ≤ j) (ho : o < n) :
    rk_Con mG_markNeeded (1, 15, 0, 0) [.ref b, .int (nI o)] (gv h b A X) (fun r h' => r = .inl none ∧ ∃ f : Nat → Int32, h' = gv h b A (X.wst f) ∧ sfK f (ndI N S (o + 1) (ini o)) 14) := by
  have hn := k.n14
  have loop : ∀ (j : Nat) (f : Nat → Int32) (st : Nat → Nat), j ≤ n → sfK f st 14 → (∀ q, st q ≤ 2) → ndI N S j st = ndI N S (o + 1) (ini o) → rk_Run mG_markNeeded (1, 15, 0, 0) (fun r h' => r = .inl none ∧ ∃ f : Nat → Int32, h' = gv h b A (X.wst f) ∧ sfK f (ndI N S (o + 1) (ini o)) 14) 17 [some (.ref b), some (.int (nI o)), some (.int (prd j))] [] (gv h b A (X.wst f)) (0, 0) := by
    intro j
    induction j with
    | zero =>
      intro f st hj hf h2 he
      refine rk_iload_n dG_markNeeded_17 rfl ?_
      refine rk_if_lt 63 dG_markNeeded_18 (by decide) (fun q_18 => ?_) (fun q_18 => ?_)
      · exact rk_ret rfl dG_markNeeded_63 ⟨(Nat.le_of_ble_eq_true rfl), (Nat.le_of_ble_eq_true rfl)⟩ (⟨rfl, f, rfl, by rw [← he]; exact hf⟩)
      · exact absurd (show (-1 : Int32) < 0 by decide) q_18
    | succ j ih =>
      intro f st hj hf h2 he
      have hq := (k.2.1.2 j (by omega)).1
      have hjn : j < n := by omega
      have a1 : soK X.sf S (N j).one := soK.mk hS hSl hn (fun a ha => by have := (hin j hjn).1 a ha; omega)
      have a2 : soK X.sf S (N j).two := soK.mk hS hSl hn (fun a ha => by have := (hin j hjn).2 a ha; omega)
      have hfj : f j = nI (st j) := hf j (by omega)
      have h22 := nI2 (h2 j) (show 2 ≤ 2 by omega)
      refine rk_iload_n dG_markNeeded_17 rfl ?_
      refine rk_if_lt 63 dG_markNeeded_18 (by decide) (fun q_18 => ?_) (fun q_18 => ?_)
      · exact absurd q_18 (nI_pos (show j < 2 ^ 31 by omega))
      · refine rk_aload_n dG_markNeeded_21 rfl ?_
        refine rk_getf fG_21 dG_markNeeded_22 (by first | exact k.gb | exact k.gst | exact k.gna | exact k.gnd hjn | assumption) rfl ?_
        refine rk_iload_n dG_markNeeded_25 rfl ?_
        refine rk_iald dG_markNeeded_26 (by first | exact k.gb | exact k.gst | exact k.gna | exact k.gnd hjn | assumption) (vp_in_nI (show j < 14 by omega) (by omega)) ?_
        rw [show (prd (j + 1)).toNatClampNeg = j from nI_clamp (by omega), show (X.wst f).st j = nI (st j) from hfj]
        refine rk_iconst (v := 2) dG_markNeeded_27 (by decide) ?_
        refine rk_icmp_ne 57 dG_markNeeded_28 (by decide) (fun q_28 => ?_) (fun q_28 => ?_)
        · refine rk_iinc dG_markNeeded_57 rfl (prd_inc j) (Nat.le_of_ble_eq_true rfl) ?_
          refine rk_goto 17 dG_markNeeded_60 (by decide) ?_
          first
            | exact ih _ st (by omega) hf h2 (by rw [← he]; show _ = ndI N S j (ndStep N S st j); unfold ndStep; rw [if_neg (fun z => q_28 (h22.mpr z))])
            | exact ih _ _ (by omega) (setO_N (setO_N hf)) (setN_le (setN_le h2)) (by rw [← he]; show _ = ndI N S j (ndStep N S st j); unfold ndStep; rw [if_pos (h22.mp q_28)])
        · refine rk_aload_n dG_markNeeded_31 rfl ?_
          refine rk_aload_n dG_markNeeded_32 rfl ?_
          refine rk_getf fG_11 dG_markNeeded_33 (by first | exact k.gb | exact k.gst | exact k.gna | exact k.gnd hjn | assumption) rfl ?_
          refine rk_iload_n dG_markNeeded_36 rfl ?_
          refine rk_aald rfl dG_markNeeded_37 (by first | exact k.gb | exact k.gst | exact k.gna | exact k.gnd hjn | assumption) (vp_in_nI (show j < 14 by omega) (by omega)) (v_nd (by omega) hq) ?_
          refine rk_getf fG_56 dG_markNeeded_38 (by first | exact k.gb | exact k.gst | exact k.gna | exact k.gnd hjn | assumption) rfl ?_
          refine rk_cv0 (c_G_need b A n N na ad fe S (N j).one _ h k a1) cG_112 dG_markNeeded_41 rfl lG_need (Nat.le_of_ble_eq_true rfl) (Nat.le_of_ble_eq_true rfl) (Nat.le_of_ble_eq_true rfl) (Nat.le_of_ble_eq_true rfl) (by first | exact k.gb | exact k.gst | exact k.gna | exact k.gnd hjn | assumption) ?_
          refine rk_aload_n dG_markNeeded_44 rfl ?_
          refine rk_aload_n dG_markNeeded_45 rfl ?_
          refine rk_getf fG_11 dG_markNeeded_46 (by first | exact k.gb | exact k.gst | exact k.gna | exact k.gnd hjn | assumption) rfl ?_
          refine rk_iload_n dG_markNeeded_49 rfl ?_
          refine rk_aald rfl dG_markNeeded_50 (by first | exact k.gb | exact k.gst | exact k.gna | exact k.gnd hjn | assumption) (vp_in_nI (show j < 14 by omega) (by omega)) (v_nd (by omega) hq) ?_
          refine rk_getf fG_103 dG_markNeeded_51 (by first | exact k.gb | exact k.gst | exact k.gna | exact k.gnd hjn | assumption) rfl ?_
          refine rk_cv0 (c_G_need b A n N na ad fe S (N j).two _ h k a2) cG_112 dG_markNeeded_54 rfl lG_need (Nat.le_of_ble_eq_true rfl) (Nat.le_of_ble_eq_true rfl) (Nat.le_of_ble_eq_true rfl) (Nat.le_of_ble_eq_true rfl) (by first | exact k.gb | exact k.gst | exact k.gna | exact k.gnd hjn | assumption) ?_
          refine rk_iinc dG_markNeeded_57 rfl (prd_inc j) (Nat.le_of_ble_eq_true rfl) ?_
          refine rk_goto 17 dG_markNeeded_60 (by decide) ?_
          first
            | exact ih _ st (by omega) hf h2 (by rw [← he]; show _ = ndI N S j (ndStep N S st j); unfold ndStep; rw [if_neg (fun z => q_28 (h22.mpr z))])
            | exact ih _ _ (by omega) (setO_N (setO_N hf)) (setN_le (setN_le h2)) (by rw [← he]; show _ = ndI N S j (ndStep N S st j); unfold ndStep; rw [if_pos (h22.mp q_28)])
  have hfill : ∀ f : Nat → Int32, sfK (upd (itf (fun _ _ => 0) 0 14 f) o 2) (ini o) 14 := by
    intro f j hj
    show (if j = o then 2 else itf (fun _ _ => 0) 0 14 f j) = nI (if j = o then 2 else 0)
    split
    · rfl
    · rw [itf_get (V := fun _ => 0) (fun _ _ _ _ => rfl), if_pos (by omega)]
      rfl
  refine rk_Con.of [some (.ref b), some (.int (nI o)), none] rfl (Nat.le_of_ble_eq_true rfl) (by decide +kernel) ?_
  refine rk_aload_n dG_markNeeded_0 rfl ?_
  refine rk_getf fG_21 dG_markNeeded_1 (by first | exact k.gb | exact k.gst | assumption) rfl ?_
  refine rk_iconst (v := 0) dG_markNeeded_4 (by decide) ?_
  refine rk_cs0 (c_J_fill A.st 14 X.st 0 _ k.gst (by omega)) cG_106 dG_markNeeded_5 rfl lJ_fill (Nat.le_of_ble_eq_true rfl) (Nat.le_of_ble_eq_true rfl) (Nat.le_of_ble_eq_true rfl) (Nat.le_of_ble_eq_true rfl) ?_
  rw [k.ust]
  refine rk_aload_n dG_markNeeded_8 rfl ?_
  refine rk_getf fG_21 dG_markNeeded_9 (by first | exact k.gb | exact k.gst | assumption) rfl ?_
  refine rk_iload_n dG_markNeeded_12 rfl ?_
  refine rk_iconst (v := 2) dG_markNeeded_13 (by decide) ?_
  refine rk_iast dG_markNeeded_14 (by first | exact k.gb | exact k.gst | assumption) (vp_in_nI (show o < 14 by omega) (by omega)) ?_
  rw [k.ust, nI_clamp (show o < 2 ^ 31 by omega)]
  refine rk_iload_n dG_markNeeded_15 rfl ?_
  refine rk_istore_n dG_markNeeded_16 (Nat.le_of_ble_eq_true rfl) ?_
  exact loop (o + 1) _ (ini o) (by omega) (hfill _) (fun q => by unfold ini; split <;> omega) rfl
