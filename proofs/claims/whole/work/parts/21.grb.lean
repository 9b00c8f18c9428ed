/-! Graph: alike, firstAlike, makeSmaller -/
theorem fstA_n {p : Nat → Bool} {k i : Nat} (h : p i = false) : fstA p (k + 1) i = fstA p k (i + 1) := by
  show (if p i = true then i else fstA p k (i + 1)) = _
  rw [h]; rfl
theorem fstA_y {p : Nat → Bool} {k i : Nat} (h : p i = true) : fstA p (k + 1) i = i := by
  show (if p i = true then i else fstA p k (i + 1)) = _
  rw [h]; rfl
theorem b2i_1 {b : Bool} (h : ¬ b2i b = 0) : b = true := by
  cases b with
  | true => rfl
  | false => exact absurd rfl h
theorem oI_mS {S : Nat → Nat} {o p : Option Nat} {k : Nat} (hk : k ≤ 14) (hSl : ∀ j : Nat, j < k → S j ≤ j) (ho : ∀ a, o = some a → a < k) (hp : ∀ a, p = some a → a < k) : oI (o.map S) = oI (p.map S) ↔ o.map S = p.map S := by
  have aux : ∀ {q : Option Nat}, (∀ a, q = some a → a < k) → ∀ a, q.map S = some a → a < 2 ^ 31 := by
    intro q hq a ha
    cases q with
    | none => cases ha
    | some z =>
      have h1 := hq z rfl
      have h2 := hSl z h1
      cases ha
      omega
  exact oI_inj (aux ho) (aux hp)
theorem c_G_alike (b : Nat) (A : gA) (n : Nat) (N : Nat → aN) (na : Nat → Option Nat) (ad fe : Nat → Nat) (S : Nat → Nat) (m i : Nat) (X : gX) (h : rk_H) (k : gOK h b A n N na ad fe) (hin : inOK N n) (hbd : bdOK N n) (hm : m < i) (hi : i < n) (hS : sfK X.sf S i) (hSl : ∀ j : Nat, j < i → S j ≤ j) :
    rk_Con mG_alike (2, 28, 0, 0) [.ref b, .int (nI m), .int (nI i)] (gv h b A X) (rk_Rv (.int (b2i (alk N S m i))) (gv h b A X)) := by
  have hn := k.n14
  have e1 : gv h b A X b = some (oB 0 (gls A X)) := k.gb
  have e2 : gv h b A X A.sf = some (iA 14 X.sf) := k.gsf
  have e4 : gv h b A X A.na = some (qA 14 na) := k.gna
  have e5 : gv h b A X (ad i) = some (oB 2 (nLi N fe i)) := k.gnd hi
  have e6 : gv h b A X (ad m) = some (oB 2 (nLi N fe m)) := k.gnd (by omega)
  have hq1 : na i = some (ad i) := (k.2.1.2 i hi).1
  have hq2 : na m = some (ad m) := (k.2.1.2 m (by omega)).1
  have o1 : ∀ a, (N m).one = some a → a < i := fun a ha => by have := (hin m (by omega)).1 a ha; omega
  have o2 : ∀ a, (N i).one = some a → a < i := fun a ha => (hin i hi).1 a ha
  have o3 : ∀ a, (N m).two = some a → a < i := fun a ha => by have := (hin m (by omega)).2 a ha; omega
  have o4 : ∀ a, (N i).two = some a → a < i := fun a ha => (hin i hi).2 a ha
  have j1 := oI_mS (by omega) hSl o1 o2
  have j2 := oI_mS (by omega) hSl o3 o4
  have sm := smq_n (hbd m (by omega)) (hbd i hi) (fe m) (fe i) (ratA N m) (ratB N m) (ratA N i) (ratB N i)
  generalize gv h b A X = h' at e1 e2 e4 e5 e6 ⊢
  refine rk_Con.of [some (.ref b), some (.int (nI m)), some (.int (nI i)), none, none] rfl (Nat.le_of_ble_eq_true rfl) (by decide +kernel) ?_
  refine rk_aload_n dG_alike_0 rfl ?_
  refine rk_getf fG_11 dG_alike_1 (by first | exact e1 | exact e2 | exact e4 | exact e5 | exact e6 | assumption) rfl ?_
  refine rk_iload_n dG_alike_4 rfl ?_
  refine rk_aald rfl dG_alike_5 (by first | exact e1 | exact e2 | exact e4 | exact e5 | exact e6 | assumption) (vp_in_nI (show m < 14 by omega) (by omega)) (v_nd (by omega) hq2) ?_
  refine rk_astore_n dG_alike_6 (Nat.le_of_ble_eq_true rfl) ?_
  refine rk_aload_n dG_alike_7 rfl ?_
  refine rk_getf fG_11 dG_alike_8 (by first | exact e1 | exact e2 | exact e4 | exact e5 | exact e6 | assumption) rfl ?_
  refine rk_iload_n dG_alike_11 rfl ?_
  refine rk_aald rfl dG_alike_12 (by first | exact e1 | exact e2 | exact e4 | exact e5 | exact e6 | assumption) (vp_in_nI (show i < 14 by omega) (by omega)) (v_nd (by omega) hq1) ?_
  refine rk_astore dG_alike_13 (Nat.le_of_ble_eq_true rfl) ?_
  refine rk_aload_n dG_alike_15 rfl ?_
  refine rk_aload dG_alike_16 rfl ?_
  refine rk_cvV (c_N_saysTheSame (ad m) (ad i) (nMi N fe m) (nMi N fe i) _ e6 e5) cG_100 dG_alike_18 rfl lN_saysTheSame (Nat.le_of_ble_eq_true rfl) (Nat.le_of_ble_eq_true rfl) (Nat.le_of_ble_eq_true rfl) (Nat.le_of_ble_eq_true rfl) (by first | exact e1 | exact e2 | exact e4 | exact e5 | exact e6 | assumption) ?_
  rw [show n_same (nMi N fe m) (nMi N fe i) = smq (N m) (N i) from sm]
  refine rk_if_eq 68 dG_alike_21 (by decide) (fun q_21 => ?_) (fun q_21 => ?_)
  · refine rk_iconst (v := 0) dG_alike_68 (by decide) ?_
    exact rk_zret rfl rfl dG_alike_69 ⟨(Nat.le_of_ble_eq_true rfl), (Nat.le_of_ble_eq_true rfl)⟩ (⟨by simp_all [alk, b2i, b2i_0], rfl⟩)
  · refine rk_aload_n dG_alike_24 rfl ?_
    refine rk_aload_n dG_alike_25 rfl ?_
    refine rk_getf fG_56 dG_alike_26 (by first | exact e1 | exact e2 | exact e4 | exact e5 | exact e6 | assumption) rfl ?_
    refine rk_cvV (c_G_meant b A X (N m).one _ e1 e2 (hin.o1 hn (by omega))) cG_59 dG_alike_29 rfl lG_meant (Nat.le_of_ble_eq_true rfl) (Nat.le_of_ble_eq_true rfl) (Nat.le_of_ble_eq_true rfl) (Nat.le_of_ble_eq_true rfl) (by first | exact e1 | exact e2 | exact e4 | exact e5 | exact e6 | assumption) ?_
    refine rk_aload_n dG_alike_32 rfl ?_
    refine rk_aload dG_alike_33 rfl ?_
    refine rk_getf fG_56 dG_alike_35 (by first | exact e1 | exact e2 | exact e4 | exact e5 | exact e6 | assumption) rfl ?_
    refine rk_cvV (c_G_meant b A X (N i).one _ e1 e2 (hin.o1 hn hi)) cG_59 dG_alike_38 rfl lG_meant (Nat.le_of_ble_eq_true rfl) (Nat.le_of_ble_eq_true rfl) (Nat.le_of_ble_eq_true rfl) (Nat.le_of_ble_eq_true rfl) (by first | exact e1 | exact e2 | exact e4 | exact e5 | exact e6 | assumption) ?_
    rw [mnt_S hS o1, mnt_S hS o2]
    refine rk_icmp_ne 68 dG_alike_41 (by decide) (fun q_41 => ?_) (fun q_41 => ?_)
    · refine rk_iconst (v := 0) dG_alike_68 (by decide) ?_
      exact rk_zret rfl rfl dG_alike_69 ⟨(Nat.le_of_ble_eq_true rfl), (Nat.le_of_ble_eq_true rfl)⟩ (⟨by simp_all [alk, b2i, b2i_0], rfl⟩)
    · refine rk_aload_n dG_alike_44 rfl ?_
      refine rk_aload_n dG_alike_45 rfl ?_
      refine rk_getf fG_103 dG_alike_46 (by first | exact e1 | exact e2 | exact e4 | exact e5 | exact e6 | assumption) rfl ?_
      refine rk_cvV (c_G_meant b A X (N m).two _ e1 e2 (hin.o2 hn (by omega))) cG_59 dG_alike_49 rfl lG_meant (Nat.le_of_ble_eq_true rfl) (Nat.le_of_ble_eq_true rfl) (Nat.le_of_ble_eq_true rfl) (Nat.le_of_ble_eq_true rfl) (by first | exact e1 | exact e2 | exact e4 | exact e5 | exact e6 | assumption) ?_
      refine rk_aload_n dG_alike_52 rfl ?_
      refine rk_aload dG_alike_53 rfl ?_
      refine rk_getf fG_103 dG_alike_55 (by first | exact e1 | exact e2 | exact e4 | exact e5 | exact e6 | assumption) rfl ?_
      refine rk_cvV (c_G_meant b A X (N i).two _ e1 e2 (hin.o2 hn hi)) cG_59 dG_alike_58 rfl lG_meant (Nat.le_of_ble_eq_true rfl) (Nat.le_of_ble_eq_true rfl) (Nat.le_of_ble_eq_true rfl) (Nat.le_of_ble_eq_true rfl) (by first | exact e1 | exact e2 | exact e4 | exact e5 | exact e6 | assumption) ?_
      rw [mnt_S hS o3, mnt_S hS o4]
      refine rk_icmp_ne 68 dG_alike_61 (by decide) (fun q_61 => ?_) (fun q_61 => ?_)
      · refine rk_iconst (v := 0) dG_alike_68 (by decide) ?_
        exact rk_zret rfl rfl dG_alike_69 ⟨(Nat.le_of_ble_eq_true rfl), (Nat.le_of_ble_eq_true rfl)⟩ (⟨by simp_all [alk, b2i, b2i_0], rfl⟩)
      · refine rk_iconst (v := 1) dG_alike_64 (by decide) ?_
        refine rk_goto 69 dG_alike_65 (by decide) ?_
        exact rk_zret rfl rfl dG_alike_69 ⟨(Nat.le_of_ble_eq_true rfl), (Nat.le_of_ble_eq_true rfl)⟩ (⟨by simp_all [alk, b2i, b2i_0], rfl⟩)
theorem c_G_firstAlike (b : Nat) (A : gA) (n : Nat) (N : Nat → aN) (na : Nat → Option Nat) (ad fe : Nat → Nat) (S : Nat → Nat) (i : Nat) (X : gX) (h : rk_H) (k : gOK h b A n N na ad fe) (hin : inOK N n) (hbd : bdOK N n) (hi : i < n) (hS : sfK X.sf S i) (hSl : ∀ j : Nat, j < i → S j ≤ j) :
    rk_Con mG_firstAlike (3, 44, 0, 0) [.ref b, .int (nI i)] (gv h b A X) (rk_Rv (.int (nI (if (N i).kd = 0 then i else fstA (fun m => decide (S m = m) && alk N S m i) i 0))) (gv h b A X)) := by
  have hn := k.n14
  have e1 : gv h b A X b = some (oB 0 (gls A X)) := k.gb
  have e2 : gv h b A X A.sf = some (iA 14 X.sf) := k.gsf
  have e4 : gv h b A X A.na = some (qA 14 na) := k.gna
  have e5 : gv h b A X (ad i) = some (oB 2 (nLi N fe i)) := k.gnd hi
  have hq1 : na i = some (ad i) := (k.2.1.2 i hi).1
  have hb1 := hbd i hi
  have hk0 : nI (N i).kd = 0 ↔ (N i).kd = 0 := nI_eq (b := 0) (by have := hb1.1.1; omega) (by omega)
  have loop : ∀ (k1 j : Nat), ¬ (N i).kd = 0 → j + k1 = i → fstA (fun m => decide (S m = m) && alk N S m i) k1 j = fstA (fun m => decide (S m = m) && alk N S m i) i 0 → rk_Run mG_firstAlike (3, 44, 0, 0) (rk_Rv (.int (nI (if (N i).kd = 0 then i else fstA (fun m => decide (S m = m) && alk N S m i) i 0))) (gv h b A X)) 16 [some (.ref b), some (.int (nI i)), some (.int (nI j))] [] (gv h b A X) (0, 0) := by
    intro k1
    induction k1 with
    | zero =>
      intro j hk hj hf
      have hj : j = i := by omega
      subst hj
      replace hf : j = _ := hf
      refine rk_iload_n dG_firstAlike_16 rfl ?_
      refine rk_iload_n dG_firstAlike_17 rfl ?_
      refine rk_icmp_ge 48 dG_firstAlike_18 (by decide) (fun q_18 => ?_) (fun q_18 => ?_)
      · refine rk_iload_n dG_firstAlike_48 rfl ?_
        exact rk_iret rfl dG_firstAlike_49 ⟨(Nat.le_of_ble_eq_true rfl), (Nat.le_of_ble_eq_true rfl)⟩ (⟨by rw [if_neg hk, ← hf], rfl⟩)
      · exact absurd (nI_le (Nat.le_refl _) (by omega)) q_18
    | succ k1 ih =>
      intro j hk hj hf
      have hsj := hS j (by omega)
      have hsl := hSl j (by omega)
      have hjj : nI (S j) = nI j ↔ S j = j := nI_eq (by omega) (by omega)
      refine rk_iload_n dG_firstAlike_16 rfl ?_
      refine rk_iload_n dG_firstAlike_17 rfl ?_
      refine rk_icmp_ge 48 dG_firstAlike_18 (by decide) (fun q_18 => ?_) (fun q_18 => ?_)
      · exact absurd q_18 (nI_ge (by omega) (by omega))
      · refine rk_aload_n dG_firstAlike_21 rfl ?_
        refine rk_getf fG_17 dG_firstAlike_22 (by first | exact e1 | exact e2 | exact e4 | exact e5 | assumption) rfl ?_
        refine rk_iload_n dG_firstAlike_25 rfl ?_
        refine rk_iald dG_firstAlike_26 (by first | exact e1 | exact e2 | exact e4 | exact e5 | assumption) (vp_in_nI (show j < 14 by omega) (by omega)) ?_
        rw [nI_clamp (show j < 2 ^ 31 by omega), hsj]
        refine rk_iload_n dG_firstAlike_27 rfl ?_
        refine rk_icmp_ne 42 dG_firstAlike_28 (by decide) (fun q_28 => ?_) (fun q_28 => ?_)
        · refine rk_iinc dG_firstAlike_42 rfl (inc1 j) (Nat.le_of_ble_eq_true rfl) ?_
          refine rk_goto 16 dG_firstAlike_45 (by decide) ?_
          exact ih (j + 1) hk (by omega) (by rw [← hf]; exact (fstA_n (by first | (show (decide (S j = j) && alk N S j i) = false; rw [decide_eq_false (fun z => q_28 (hjj.mpr z))]; rfl) | (show (decide (S j = j) && alk N S j i) = false; rw [b2i_0.mp q_37, Bool.and_false]))).symm)
        · refine rk_aload_n dG_firstAlike_31 rfl ?_
          refine rk_iload_n dG_firstAlike_32 rfl ?_
          refine rk_iload_n dG_firstAlike_33 rfl ?_
          refine rk_cvV (c_G_alike b A n N na ad fe S j i X h k hin hbd (by omega) hi hS hSl) cG_96 dG_firstAlike_34 rfl lG_alike (Nat.le_of_ble_eq_true rfl) (Nat.le_of_ble_eq_true rfl) (Nat.le_of_ble_eq_true rfl) (Nat.le_of_ble_eq_true rfl) (by first | exact e1 | exact e2 | exact e4 | exact e5 | assumption) ?_
          refine rk_if_eq 42 dG_firstAlike_37 (by decide) (fun q_37 => ?_) (fun q_37 => ?_)
          · refine rk_iinc dG_firstAlike_42 rfl (inc1 j) (Nat.le_of_ble_eq_true rfl) ?_
            refine rk_goto 16 dG_firstAlike_45 (by decide) ?_
            exact ih (j + 1) hk (by omega) (by rw [← hf]; exact (fstA_n (by first | (show (decide (S j = j) && alk N S j i) = false; rw [decide_eq_false (fun z => q_28 (hjj.mpr z))]; rfl) | (show (decide (S j = j) && alk N S j i) = false; rw [b2i_0.mp q_37, Bool.and_false]))).symm)
          · refine rk_iload_n dG_firstAlike_40 rfl ?_
            exact rk_iret rfl dG_firstAlike_41 ⟨(Nat.le_of_ble_eq_true rfl), (Nat.le_of_ble_eq_true rfl)⟩ (⟨by rw [if_neg hk, ← hf]; rw [fstA_y (show (decide (S j = j) && alk N S j i) = true by rw [decide_eq_true (hjj.mp q_28), b2i_1 q_37]; rfl)], rfl⟩)
  refine rk_Con.of [some (.ref b), some (.int (nI i)), none] rfl (Nat.le_of_ble_eq_true rfl) (by decide +kernel) ?_
  refine rk_aload_n dG_firstAlike_0 rfl ?_
  refine rk_getf fG_11 dG_firstAlike_1 (by first | exact e1 | exact e2 | exact e4 | exact e5 | assumption) rfl ?_
  refine rk_iload_n dG_firstAlike_4 rfl ?_
  refine rk_aald rfl dG_firstAlike_5 (by first | exact e1 | exact e2 | exact e4 | exact e5 | assumption) (vp_in_nI (show i < 14 by omega) (by omega)) (v_nd (by omega) hq1) ?_
  refine rk_getf fG_70 dG_firstAlike_6 (by first | exact e1 | exact e2 | exact e4 | exact e5 | assumption) rfl ?_
  refine rk_if_ne 14 dG_firstAlike_9 (by decide) (fun q_9 => ?_) (fun q_9 => ?_)
  · refine rk_iconst (v := 0) dG_firstAlike_14 (by decide) ?_
    refine rk_istore_n dG_firstAlike_15 (Nat.le_of_ble_eq_true rfl) ?_
    exact loop i 0 (fun z => q_9 (hk0.mpr z)) (by omega) rfl
  · refine rk_iload_n dG_firstAlike_12 rfl ?_
    exact rk_iret rfl dG_firstAlike_13 ⟨(Nat.le_of_ble_eq_true rfl), (Nat.le_of_ble_eq_true rfl)⟩ (⟨by rw [if_pos (hk0.mp q_9)], rfl⟩)
/-- what the nodes below k stand for, as the planning goes on -/
def stT (N : Nat → aN) : Nat → Nat → Nat
  | 0 => fun _ => 0
  | k + 1 => fun i => if i = k then stOf N (stT N k) k else stT N k i
def stS (N : Nat → aN) (i : Nat) : Nat := stT N (i + 1) i
theorem stT_S {N : Nat → aN} {k i : Nat} (h : i < k) : stT N k i = stS N i := by
  induction k with
  | zero => omega
  | succ k ih =>
    by_cases hi : i = k
    · subst hi; rfl
    · show (if i = k then _ else stT N k i) = _
      rw [if_neg hi]
      exact ih (by omega)
theorem fstA_congr {p q : Nat → Bool} {k i : Nat} (h : ∀ j, i ≤ j → j < i + k → p j = q j) : fstA p k i = fstA q k i := by
  induction k generalizing i with
  | zero => rfl
  | succ k ih =>
    show (if p i = true then i else fstA p k (i + 1)) = (if q i = true then i else fstA q k (i + 1))
    rw [h i (Nat.le_refl _) (by omega), ih (fun j h1 h2 => h j (by omega) (by omega))]
theorem fstA_le {p : Nat → Bool} {k i : Nat} : fstA p k i ≤ i + k ∧ i ≤ fstA p k i := by
  induction k generalizing i with
  | zero => exact ⟨Nat.le_refl _, Nat.le_refl _⟩
  | succ k ih =>
    show (if p i = true then i else fstA p k (i + 1)) ≤ _ ∧ _ ≤ (if p i = true then i else fstA p k (i + 1))
    split
    · omega
    · have := ih (i := i + 1); omega
theorem omap_congr {S T : Nat → Nat} {o : Option Nat} {k : Nat} (h : ∀ j, j < k → S j = T j) (ho : ∀ a, o = some a → a < k) : o.map S = o.map T := by
  cases o with
  | none => rfl
  | some a => exact congrArg some (h a (ho a rfl))
theorem stOf_congr {N : Nat → aN} {n k : Nat} (hin : inOK N n) (hk : k < n) {S T : Nat → Nat} (h : ∀ j, j < k → S j = T j) : stOf N S k = stOf N T k := by
  have o1 := (hin k hk).1
  have o2 := (hin k hk).2
  have e1 : idle N S k = idle N T k := by
    unfold idle
    cases ho : (N k).one with
    | none => rfl
    | some a => dsimp only; rw [h a (o1 a ho)]
  have e2 : fstA (fun m => decide (S m = m) && alk N S m k) k 0 = fstA (fun m => decide (T m = m) && alk N T m k) k 0 := by
    refine fstA_congr (fun j _ hj => ?_)
    have q1 := (hin j (by omega)).1
    have q2 := (hin j (by omega)).2
    unfold alk
    rw [h j (by omega), omap_congr h (fun a ha => Nat.lt_trans (q1 a ha) (by omega)), omap_congr h o1, omap_congr h (fun a ha => Nat.lt_trans (q2 a ha) (by omega)), omap_congr h o2]
  unfold stOf
  rw [e1, e2]
  cases ho : (N k).one with
  | none => rfl
  | some a => dsimp only; rw [h a (o1 a ho)]
theorem stS_eq {N : Nat → aN} {n k : Nat} (hin : inOK N n) (hk : k < n) : stS N k = stOf N (stS N) k := by
  show (if k = k then stOf N (stT N k) k else stT N k k) = _
  rw [if_pos rfl]
  exact stOf_congr hin hk (fun j hj => stT_S hj)
theorem stS_le {N : Nat → aN} {n : Nat} (hin : inOK N n) : ∀ k : Nat, k < n → stS N k ≤ k := by
  intro k
  induction k using Nat.strongRecOn with
  | ind k ih =>
    intro hk
    rw [stS_eq hin hk]
    unfold stOf
    split
    · cases ho : (N k).one with
      | none => exact Nat.zero_le _
      | some a =>
        have := (hin k hk).1 a ho
        have := ih a this (by omega)
        dsimp only
        omega
    · split
      · exact Nat.le_refl _
      · have := (fstA_le (p := fun m => decide (stS N m = m) && alk N (stS N) m k) (k := k) (i := 0)).1
        omega
theorem c_G_makeSmaller (b : Nat) (A : gA) (n : Nat) (N : Nat → aN) (na : Nat → Option Nat) (ad fe : Nat → Nat) (X : gX) (h : rk_H) (k : gOK h b A n N na ad fe) (hX : X.n = n) (hin : inOK N n) (hbd : bdOK N n) :
    rk_Con mG_makeSmaller (4, 60, 0, 0) [.ref b] (gv h b A X) (fun r h' => r = .inl none ∧ ∃ f : Nat → Int32, h' = gv h b A (X.wsf f) ∧ sfK f (stS N) n) := by
  have hn := k.n14
  have hSl := stS_le hin
  have loop : ∀ (k1 i : Nat) (f : Nat → Int32), i + k1 = n → sfK f (stS N) i → rk_Run mG_makeSmaller (4, 60, 0, 0) (fun r h' => r = .inl none ∧ ∃ f : Nat → Int32, h' = gv h b A (X.wsf f) ∧ sfK f (stS N) n) 2 [some (.ref b), some (.int (nI i))] [] (gv h b A (X.wsf f)) (0, 0) := by
    intro k1
    induction k1 with
    | zero =>
      intro i f hi hS
      have hi : i = n := by omega
      subst hi
      refine rk_iload_n dG_makeSmaller_2 rfl ?_
      refine rk_aload_n dG_makeSmaller_3 rfl ?_
      refine rk_getf fG_33 dG_makeSmaller_4 (by first | exact k.gb | assumption) rfl ?_
      rw [show (X.wsf f).n = i from hX]
      refine rk_icmp_ge 56 dG_makeSmaller_7 (by decide) (fun q_7 => ?_) (fun q_7 => ?_)
      · exact rk_ret rfl dG_makeSmaller_56 ⟨(Nat.le_of_ble_eq_true rfl), (Nat.le_of_ble_eq_true rfl)⟩ (⟨rfl, f, rfl, hS⟩)
      · exact absurd (nI_le (Nat.le_refl _) (by omega)) q_7
    | succ k1 ih =>
      intro i f hi hS
      have hin' : i < n := by omega
      have hq := (k.2.1.2 i hin').1
      have o2 := (hin i hin').1
      have hst := stS_eq hin hin'
      have fin : ∀ v : Nat, v = stS N i → sfK (upd f i (nI v)) (stS N) (i + 1) := by
        intro v hv j hj
        by_cases hji : j = i
        · subst hji; rw [hv]; show (if j = j then _ else _) = _; rw [if_pos rfl]
        · show (if j = i then _ else f j) = _
          rw [if_neg hji]
          exact hS j (by omega)
      refine rk_iload_n dG_makeSmaller_2 rfl ?_
      refine rk_aload_n dG_makeSmaller_3 rfl ?_
      refine rk_getf fG_33 dG_makeSmaller_4 (by first | exact k.gb | exact k.gna | exact k.gnd hin' | exact k.gsf | assumption) rfl ?_
      rw [show (X.wsf f).n = n from hX]
      refine rk_icmp_ge 56 dG_makeSmaller_7 (by decide) (fun q_7 => ?_) (fun q_7 => ?_)
      · exact absurd q_7 (nI_ge (by omega) (by omega))
      · refine rk_aload_n dG_makeSmaller_10 rfl ?_
        refine rk_getf fG_17 dG_makeSmaller_11 (by first | exact k.gb | exact k.gna | exact k.gnd hin' | exact k.gsf | assumption) rfl ?_
        refine rk_iload_n dG_makeSmaller_14 rfl ?_
        refine rk_aload_n dG_makeSmaller_15 rfl ?_
        refine rk_aload_n dG_makeSmaller_16 rfl ?_
        refine rk_getf fG_11 dG_makeSmaller_17 (by first | exact k.gb | exact k.gna | exact k.gnd hin' | exact k.gsf | assumption) rfl ?_
        refine rk_iload_n dG_makeSmaller_20 rfl ?_
        refine rk_aald rfl dG_makeSmaller_21 (by first | exact k.gb | exact k.gna | exact k.gnd hin' | exact k.gsf | assumption) (vp_in_nI (show i < 14 by omega) (by omega)) (v_nd (by omega) hq) ?_
        refine rk_cvV (c_G_changesNothing b A n N na ad fe (stS N) i (X.wsf f) h k hin hbd hin' hS (fun j hj => hSl j (by omega))) cG_63 dG_makeSmaller_22 rfl lG_changesNothing (Nat.le_of_ble_eq_true rfl) (Nat.le_of_ble_eq_true rfl) (Nat.le_of_ble_eq_true rfl) (Nat.le_of_ble_eq_true rfl) (by first | exact k.gb | exact k.gna | exact k.gnd hin' | exact k.gsf | assumption) ?_
        refine rk_if_eq 44 dG_makeSmaller_25 (by decide) (fun q_25 => ?_) (fun q_25 => ?_)
        · refine rk_aload_n dG_makeSmaller_44 rfl ?_
          refine rk_iload_n dG_makeSmaller_45 rfl ?_
          refine rk_cvV (c_G_firstAlike b A n N na ad fe (stS N) i (X.wsf f) h k hin hbd hin' hS (fun j hj => hSl j (by omega))) cG_67 dG_makeSmaller_46 rfl lG_firstAlike (Nat.le_of_ble_eq_true rfl) (Nat.le_of_ble_eq_true rfl) (Nat.le_of_ble_eq_true rfl) (Nat.le_of_ble_eq_true rfl) (by first | exact k.gb | exact k.gna | exact k.gnd hin' | exact k.gsf | assumption) ?_
          refine rk_iast dG_makeSmaller_49 (by first | exact k.gb | exact k.gna | exact k.gnd hin' | exact k.gsf | assumption) (vp_in_nI (show i < 14 by omega) (by omega)) ?_
          rw [k.usf, nI_clamp (show i < 2 ^ 31 by omega)]
          refine rk_iinc dG_makeSmaller_50 rfl (inc1 i) (Nat.le_of_ble_eq_true rfl) ?_
          refine rk_goto 2 dG_makeSmaller_53 (by decide) ?_
          first
            | (have q1 := b2i_0.mp q_25; exact ih (i + 1) _ (by omega) (fin _ (by rw [hst]; unfold stOf; rw [q1]; rfl)))
            | (have q1 := b2i_1 q_25; rw [show mnt (X.wsf f).sf (N i).one = nI (stS N i) by rw [show mnt (X.wsf f).sf (N i).one = oI ((N i).one.map (stS N)) from mnt_S hS o2, hst]; unfold stOf; rw [q1]; cases ho : (N i).one with | none => (unfold idle at q1; rw [ho] at q1; cases q1) | some a => rfl]; exact ih (i + 1) _ (by omega) (fin _ rfl))
        · refine rk_aload_n dG_makeSmaller_28 rfl ?_
          refine rk_aload_n dG_makeSmaller_29 rfl ?_
          refine rk_getf fG_11 dG_makeSmaller_30 (by first | exact k.gb | exact k.gna | exact k.gnd hin' | exact k.gsf | assumption) rfl ?_
          refine rk_iload_n dG_makeSmaller_33 rfl ?_
          refine rk_aald rfl dG_makeSmaller_34 (by first | exact k.gb | exact k.gna | exact k.gnd hin' | exact k.gsf | assumption) (vp_in_nI (show i < 14 by omega) (by omega)) (v_nd (by omega) hq) ?_
          refine rk_getf fG_56 dG_makeSmaller_35 (by first | exact k.gb | exact k.gna | exact k.gnd hin' | exact k.gsf | assumption) rfl ?_
          refine rk_cvV (c_G_meant b A (X.wsf f) (N i).one _ k.gb k.gsf (hin.o1 hn hin')) cG_59 dG_makeSmaller_38 rfl lG_meant (Nat.le_of_ble_eq_true rfl) (Nat.le_of_ble_eq_true rfl) (Nat.le_of_ble_eq_true rfl) (Nat.le_of_ble_eq_true rfl) (by first | exact k.gb | exact k.gna | exact k.gnd hin' | exact k.gsf | assumption) ?_
          refine rk_goto 49 dG_makeSmaller_41 (by decide) ?_
          refine rk_iast dG_makeSmaller_49 (by first | exact k.gb | exact k.gna | exact k.gnd hin' | exact k.gsf | assumption) (vp_in_nI (show i < 14 by omega) (by omega)) ?_
          rw [k.usf, nI_clamp (show i < 2 ^ 31 by omega)]
          refine rk_iinc dG_makeSmaller_50 rfl (inc1 i) (Nat.le_of_ble_eq_true rfl) ?_
          refine rk_goto 2 dG_makeSmaller_53 (by decide) ?_
          first
            | (have q1 := b2i_0.mp q_25; exact ih (i + 1) _ (by omega) (fin _ (by rw [hst]; unfold stOf; rw [q1]; rfl)))
            | (have q1 := b2i_1 q_25; rw [show mnt (X.wsf f).sf (N i).one = nI (stS N i) by rw [show mnt (X.wsf f).sf (N i).one = oI ((N i).one.map (stS N)) from mnt_S hS o2, hst]; unfold stOf; rw [q1]; cases ho : (N i).one with | none => (unfold idle at q1; rw [ho] at q1; cases q1) | some a => rfl]; exact ih (i + 1) _ (by omega) (fin _ rfl))
  obtain ⟨X0, -⟩ := k.eq
  refine rk_Con.of [some (.ref b), none] rfl (Nat.le_of_ble_eq_true rfl) (by decide +kernel) ?_
  refine rk_iconst (v := 0) dG_makeSmaller_0 (by decide) ?_
  refine rk_istore_n dG_makeSmaller_1 (Nat.le_of_ble_eq_true rfl) ?_
  exact loop n 0 X.sf (by omega) (fun j hj => by omega)
