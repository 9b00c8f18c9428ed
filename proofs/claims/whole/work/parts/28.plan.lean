/-! Graph.plan; the plan of a graph in one place -/
def pO (N : Nat → aN) (out : Nat) : Nat := stS N out
def pR0 (N : Nat → aN) (out : Nat) : Nat → Nat := ndI N (stS N) (pO N out + 1) (ini (pO N out))
def pR (N : Nat → aN) (n out : Nat) : Nat → Nat := rlF N (stS N) n (pO N out) (pR0 N out)
def pT (N : Nat → aN) (n out : Nat) : Nat → Nat := cnt (pR N n out)
def pK (N : Nat → aN) (n out : Nat) : Nat := cnt (pR N n out) n
def pL (N : Nat → aN) (n out : Nat) : Nat → Nat := lvF N (stS N) (pR N n out) n (pO N out)
def pP (N : Nat → aN) (n out : Nat) : (Nat → Option Nat) × Nat := plT N (pR N n out) (pT N n out) (pL N n out) n (pK N n out)
def plnd (N : Nat → aN) (n out : Nat) (X : gX) : Prop := (X.n = n ∧ sfK X.sf (stS N) n ∧ sfK X.st (pR N n out) n) ∧ plK X.sp (pR N n out) (pT N n out) n ∧ plR X.pl (pP N n out).1 n ∧ X.sn = nI (pK N n out) ∧ X.pk = nI (pP N n out).2
theorem setN_2 {st S : Nat → Nat} {o : Option Nat} {j : Nat} (h : st j = 2) : setN st S o j = 2 := by
  cases o with
  | none => exact h
  | some a =>
    show (if j = S a then 2 else st j) = 2
    split
    · rfl
    · exact h
theorem ndI_2 {N : Nat → aN} {S : Nat → Nat} {k j : Nat} : ∀ {st : Nat → Nat}, st j = 2 → ndI N S k st j = 2 := by
  induction k with
  | zero => intro st h; exact h
  | succ k ih =>
    intro st h
    refine ih ?_
    unfold ndStep
    split
    · exact setN_2 (setN_2 h)
    · exact h
theorem ini_le {o : Nat} : ∀ j, ini o j ≤ 2 := by
  intro j
  unfold ini
  split <;> omega
theorem pR0_le (N : Nat → aN) (out : Nat) : ∀ j, pR0 N out j ≤ 2 := ndI_le ini_le
theorem pR_le (N : Nat → aN) (n out : Nat) : ∀ j, pR N n out j ≤ 2 := rlF_le (pR0_le N out)
theorem pR0_o (N : Nat → aN) (out : Nat) : pR0 N out (pO N out) = 2 := ndI_2 (if_pos rfl)
theorem pR_o (N : Nat → aN) (n out : Nat) : pR N n out (pO N out) = 2 := by
  unfold pR rlF
  rw [if_neg (fun z => z.2.1 rfl)]
  exact pR0_o N out
theorem cnt_pos {R : Nat → Nat} {n o : Nat} (ho : o < n) (hr : R o = 2) : cnt R o + 1 ≤ cnt R n := by
  have h1 := cnt_mono (R := R) (show o + 1 ≤ n from ho)
  have h2 : cnt R (o + 1) = cnt R o + 1 := by show cnt R o + _ = _; rw [if_pos hr]
  omega
theorem pK_pos {N : Nat → aN} {n out : Nat} (hin : inOK N n) (ho : out < n) : 1 ≤ pK N n out := by
  have h1 := stS_le hin out ho
  have := cnt_pos (R := pR N n out) (show pO N out < n by unfold pO; omega) (pR_o N n out)
  unfold pK
  omega
theorem lvF_le {N : Nat → aN} {S R : Nat → Nat} {n o i : Nat} (hi : i < n) : lvF N S R n o i ≤ n := by
  have aux : ∀ (k j q : Nat), j + k ≤ n → q ≤ n → itr (lvS N S R i) k j q ≤ n := by
    intro k
    induction k with
    | zero => intro j q _ hq; exact hq
    | succ k ih =>
      intro j q hj hq
      refine ih (j + 1) _ (by omega) ?_
      unfold lvS
      split
      · have := cnt_le (R := R) (k := j); omega
      · exact hq
  unfold lvF
  split
  · have := cnt_le (R := R) (k := n); omega
  · have := cnt_le (R := R) (k := i)
    exact aux _ _ _ (by omega) (by omega)
theorem c_G_plan (b : Nat) (A : gA) (n : Nat) (N : Nat → aN) (na : Nat → Option Nat) (ad fe : Nat → Nat) (out : Nat) (X : gX) (h : rk_H) (k : gOK h b A n N na ad fe) (hX : X.n = n) (hin : inOK N n) (hbd : bdOK N n) (ho : out < n) :
    rk_Con mG_plan (5, 73, 0, 0) [.ref b, .int (nI out)] (gv h b A X) (fun r h' => r = .inl none ∧ ∃ X' : gX, h' = gv h b A X' ∧ plnd N n out X') := by
  have hn := k.n14
  have hSl := stS_le hin
  have hol := hSl out ho
  have hon : pO N out < n := by unfold pO; omega
  refine rk_Con.of [some (.ref b), some (.int (nI out)), none] rfl (Nat.le_of_ble_eq_true rfl) (by decide +kernel) ?_
  refine rk_aload_n dG_plan_0 rfl ?_
  refine rk_cvG (c_G_makeSmaller b A n N na ad fe X h k hX hin hbd) cG_37 dG_plan_1 rfl lG_makeSmaller (Nat.le_of_ble_eq_true rfl) (Nat.le_of_ble_eq_true rfl) (Nat.le_of_ble_eq_true rfl) (Nat.le_of_ble_eq_true rfl) (by first | exact k.gb | exact k.gsf | assumption) ?_
  rintro r_1 h_1 ⟨rfl, f1, rfl, hf1⟩
  refine rk_nx0 ?_
  refine rk_aload_n dG_plan_4 rfl ?_
  refine rk_getf fG_17 dG_plan_5 (by first | exact k.gb | exact k.gsf | assumption) rfl ?_
  refine rk_iload_n dG_plan_8 rfl ?_
  refine rk_iald dG_plan_9 (by first | exact k.gb | exact k.gsf | assumption) (vp_in_nI (show out < 14 by omega) (by omega)) ?_
  rw [nI_clamp (show out < 2 ^ 31 by omega), show (X.wsf f1).sf out = nI (pO N out) from hf1 out ho]
  refine rk_istore_n dG_plan_10 (Nat.le_of_ble_eq_true rfl) ?_
  refine rk_aload_n dG_plan_11 rfl ?_
  refine rk_iload_n dG_plan_12 rfl ?_
  refine rk_cvG (c_G_markNeeded b A n N na ad fe (stS N) (pO N out) (X.wsf f1) h k hin hf1 hSl hon) cG_40 dG_plan_13 rfl lG_markNeeded (Nat.le_of_ble_eq_true rfl) (Nat.le_of_ble_eq_true rfl) (Nat.le_of_ble_eq_true rfl) (Nat.le_of_ble_eq_true rfl) (by first | exact k.gb | exact k.gsf | assumption) ?_
  rintro r_13 h_13 ⟨rfl, f2, rfl, hf2⟩
  refine rk_nx0 ?_
  refine rk_aload_n dG_plan_16 rfl ?_
  refine rk_iload_n dG_plan_17 rfl ?_
  refine rk_cvG (c_G_fuse b A n N na ad fe (stS N) (pR0 N out) (pO N out) ((X.wsf f1).wst f2) h k hX hin hbd hf1 hSl (fun i hi => hf2 i (by omega)) (pR0_le N out) hon) cG_44 dG_plan_18 rfl lG_fuse (Nat.le_of_ble_eq_true rfl) (Nat.le_of_ble_eq_true rfl) (Nat.le_of_ble_eq_true rfl) (Nat.le_of_ble_eq_true rfl) (by first | exact k.gb | exact k.gsf | assumption) ?_
  rintro r_18 h_18 ⟨rfl, f3, rfl, hf3⟩
  refine rk_nx0 ?_
  refine rk_aload_n dG_plan_21 rfl ?_
  refine rk_cvG (c_G_countSteps b A n N na ad fe (pR N n out) (((X.wsf f1).wst f2).wst f3) h k hX hf3 (pR_le N n out)) cG_47 dG_plan_22 rfl lG_countSteps (Nat.le_of_ble_eq_true rfl) (Nat.le_of_ble_eq_true rfl) (Nat.le_of_ble_eq_true rfl) (Nat.le_of_ble_eq_true rfl) (by first | exact k.gb | exact k.gsf | assumption) ?_
  rintro r_22 h_22 ⟨rfl, f4, rfl, hf4⟩
  refine rk_nx0 ?_
  refine rk_aload_n dG_plan_25 rfl ?_
  refine rk_iload_n dG_plan_26 rfl ?_
  refine rk_cvG (c_G_findLives b A n N na ad fe (stS N) (pR N n out) (pO N out) (((((X.wsf f1).wst f2).wst f3).wsn (nI (cnt (pR N n out) n))).wsp f4) h k hX hin hf1 hSl hf3 (pR_le N n out) hf4 rfl hon (pK_pos hin ho)) cG_50 dG_plan_27 rfl lG_findLives (Nat.le_of_ble_eq_true rfl) (Nat.le_of_ble_eq_true rfl) (Nat.le_of_ble_eq_true rfl) (Nat.le_of_ble_eq_true rfl) (by first | exact k.gb | exact k.gsf | assumption) ?_
  rintro r_27 h_27 ⟨rfl, f5, rfl, hf5⟩
  refine rk_nx0 ?_
  refine rk_aload_n dG_plan_30 rfl ?_
  refine rk_cvG (c_G_givePlaces b A n N na ad fe (pR N n out) (pT N n out) (pL N n out) (pK N n out) ((((((X.wsf f1).wst f2).wst f3).wsn (nI (cnt (pR N n out) n))).wsp f4).wla f5) h k hX hbd hf3 (pR_le N n out) hf4 hf5 (fun i hi => by have := cnt_le (R := pR N n out) (k := i); unfold pT; omega) (fun i hi => by have := lvF_le (N := N) (S := stS N) (R := pR N n out) (o := pO N out) hi; unfold pL; omega) rfl (by have := cnt_le (R := pR N n out) (k := n); unfold pK; omega)) cG_53 dG_plan_31 rfl lG_givePlaces (Nat.le_of_ble_eq_true rfl) (Nat.le_of_ble_eq_true rfl) (Nat.le_of_ble_eq_true rfl) (Nat.le_of_ble_eq_true rfl) (by first | exact k.gb | exact k.gsf | assumption) ?_
  rintro r_31 h_31 ⟨rfl, f6, rfl, hf6⟩
  refine rk_nx0 ?_
  exact rk_ret rfl dG_plan_34 ⟨(Nat.le_of_ble_eq_true rfl), (Nat.le_of_ble_eq_true rfl)⟩ (⟨rfl, _, rfl, ⟨hX, hf1, hf3⟩, hf4, hf6, rfl, rfl⟩)
