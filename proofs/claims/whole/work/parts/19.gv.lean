/-! what the planning may change: the graph's numbers and its five rows of ints -/
abbrev gA : Type := Nat × Nat × Nat × Nat × Nat × Nat
def gA.na (A : gA) : Nat := A.1
def gA.sf (A : gA) : Nat := A.2.1
def gA.st (A : gA) : Nat := A.2.2.1
def gA.sp (A : gA) : Nat := A.2.2.2.1
def gA.pl (A : gA) : Nat := A.2.2.2.2.1
def gA.la (A : gA) : Nat := A.2.2.2.2.2
abbrev gX : Type := (Nat × Int32 × Int32) × ((Nat → Int32) × (Nat → Int32) × (Nat → Int32) × (Nat → Int32) × (Nat → Int32))
def gX.n (X : gX) : Nat := X.1.1
def gX.sn (X : gX) : Int32 := X.1.2.1
def gX.pk (X : gX) : Int32 := X.1.2.2
def gX.sf (X : gX) : Nat → Int32 := X.2.1
def gX.st (X : gX) : Nat → Int32 := X.2.2.1
def gX.sp (X : gX) : Nat → Int32 := X.2.2.2.1
def gX.pl (X : gX) : Nat → Int32 := X.2.2.2.2.1
def gX.la (X : gX) : Nat → Int32 := X.2.2.2.2.2
def gX.wsn (X : gX) (v : Int32) : gX := ((X.n, v, X.pk), X.2)
def gX.wpk (X : gX) (v : Int32) : gX := ((X.n, X.sn, v), X.2)
def gX.wsf (X : gX) (f : Nat → Int32) : gX := (X.1, (f, X.st, X.sp, X.pl, X.la))
def gX.wst (X : gX) (f : Nat → Int32) : gX := (X.1, (X.sf, f, X.sp, X.pl, X.la))
def gX.wsp (X : gX) (f : Nat → Int32) : gX := (X.1, (X.sf, X.st, f, X.pl, X.la))
def gX.wpl (X : gX) (f : Nat → Int32) : gX := (X.1, (X.sf, X.st, X.sp, f, X.la))
def gX.wla (X : gX) (f : Nat → Int32) : gX := (X.1, (X.sf, X.st, X.sp, X.pl, f))
def gls (A : gA) (X : gX) : List Value := [.ref A.na, .ref A.sf, .ref A.st, .ref A.sp, .ref A.pl, .int (nI X.n), .int X.sn, .int X.pk, .ref A.la]
def gv (h : rk_H) (b : Nat) (A : gA) (X : gX) : rk_H := rk_up (rk_up (rk_up (rk_up (rk_up (rk_up h b (oB 0 (gls A X))) A.sf (iA 14 X.sf)) A.st (iA 14 X.st)) A.sp (iA 14 X.sp)) A.pl (iA 14 X.pl)) A.la (iA 14 X.la)
/-- the ratios of a node, as the class keeps them -/
def scO (N : Nat → aN) (o : Option Nat) : UInt64 := match o with
  | none => 0
  | some a => (N a).sc
def ratA (N : Nat → aN) (i : Nat) : UInt64 := if (N i).kd = 1 ∨ (N i).kd = 2 ∨ (N i).kd = 3 then FP.ddiv (FP.dmul (scO N (N i).one) (N i).ws) (N i).sc else if (N i).kd = 4 ∨ (N i).kd = 10 then FP.ddiv (scO N (N i).one) (N i).sc else 0
def ratB (N : Nat → aN) (i : Nat) : UInt64 := if (N i).kd = 4 then FP.ddiv (scO N (N i).two) (N i).sc else 0
def nLi (N : Nat → aN) (fe : Nat → Nat) (i : Nat) : List Value := nL (N i) (fe i) (ratA N i) (ratB N i)
def nMi (N : Nat → aN) (fe : Nat → Nat) (i : Nat) : nR := nM (N i) (fe i) (ratA N i) (ratB N i)
/-- the graph as it lies in a heap, whatever is planned -/
def gOK (h : rk_H) (b : Nat) (A : gA) (n : Nat) (N : Nat → aN) (na : Nat → Option Nat) (ad fe : Nat → Nat) : Prop :=
  ((∃ X : gX, X.n = n ∧ h b = some (oB 0 (gls A X)) ∧ h A.sf = some (iA 14 X.sf) ∧ h A.st = some (iA 14 X.st) ∧ h A.sp = some (iA 14 X.sp) ∧ h A.pl = some (iA 14 X.pl) ∧ h A.la = some (iA 14 X.la)) ∧ n ≤ 14) ∧
  (h A.na = some (qA 14 na) ∧ ∀ i : Nat, i < n → na i = some (ad i) ∧ h (ad i) = some (oB 2 (nLi N fe i))) ∧
  ((A.sf ≠ A.st ∧ A.sf ≠ A.sp ∧ A.sf ≠ A.pl ∧ A.sf ≠ A.la) ∧ (A.st ≠ A.sp ∧ A.st ≠ A.pl ∧ A.st ≠ A.la) ∧ (A.sp ≠ A.pl ∧ A.sp ≠ A.la) ∧ A.pl ≠ A.la)
section GV
variable {h : rk_H} {b : Nat} {A : gA} {n : Nat} {N : Nat → aN} {na : Nat → Option Nat} {ad fe : Nat → Nat} {X : gX}
theorem gOK.bn (k : gOK h b A n N na ad fe) : b ≠ A.sf ∧ b ≠ A.st ∧ b ≠ A.sp ∧ b ≠ A.pl ∧ b ≠ A.la := by
  obtain ⟨⟨⟨X, -, k0, k1, k2, k3, k4, k5⟩, -⟩, -, -⟩ := k
  exact ⟨rk_neq k0 k1 (by intro q; cases q), rk_neq k0 k2 (by intro q; cases q), rk_neq k0 k3 (by intro q; cases q), rk_neq k0 k4 (by intro q; cases q), rk_neq k0 k5 (by intro q; cases q)⟩
theorem gOK.other (k : gOK h b A n N na ad fe) {z : Nat} {e : rk_E} (hz : h z = some e) (h0 : ∀ l, e ≠ oB 0 l) (h1 : ∀ f, e ≠ iA 14 f) : gv h b A X z = some e := by
  obtain ⟨⟨⟨X, -, k0, k1, k2, k3, k4, k5⟩, -⟩, -, -⟩ := k
  exact rk_up_k (rk_neq hz k5 (h1 _)) (rk_up_k (rk_neq hz k4 (h1 _)) (rk_up_k (rk_neq hz k3 (h1 _)) (rk_up_k (rk_neq hz k2 (h1 _)) (rk_up_k (rk_neq hz k1 (h1 _)) (rk_up_k (rk_neq hz k0 (h0 _)) hz)))))
theorem gOK.gna (k : gOK h b A n N na ad fe) : gv h b A X A.na = some (qA 14 na) := k.other k.2.1.1 (by intro l q; cases q) (by intro l q; cases q)
theorem gOK.gnd (k : gOK h b A n N na ad fe) {i : Nat} (hi : i < n) : gv h b A X (ad i) = some (oB 2 (nLi N fe i)) := k.other (k.2.1.2 i hi).2 (by intro l q; cases q) (by intro l q; cases q)
theorem gOK.n14 (k : gOK h b A n N na ad fe) : n ≤ 14 := k.1.2
theorem gOK.gb (k : gOK h b A n N na ad fe) : gv h b A X b = some (oB 0 (gls A X)) := rk_up_k k.bn.2.2.2.2 (rk_up_k k.bn.2.2.2.1 (rk_up_k k.bn.2.2.1 (rk_up_k k.bn.2.1 (rk_up_k k.bn.1 rk_up_s))))
theorem gOK.gsf (k : gOK h b A n N na ad fe) : gv h b A X A.sf = some (iA 14 X.sf) := rk_up_k k.2.2.1.2.2.2 (rk_up_k k.2.2.1.2.2.1 (rk_up_k k.2.2.1.2.1 (rk_up_k k.2.2.1.1 rk_up_s)))
theorem gOK.gst (k : gOK h b A n N na ad fe) : gv h b A X A.st = some (iA 14 X.st) := rk_up_k k.2.2.2.1.2.2 (rk_up_k k.2.2.2.1.2.1 (rk_up_k k.2.2.2.1.1 rk_up_s))
theorem gOK.gsp (k : gOK h b A n N na ad fe) : gv h b A X A.sp = some (iA 14 X.sp) := rk_up_k k.2.2.2.2.1.2 (rk_up_k k.2.2.2.2.1.1 rk_up_s)
theorem gOK.gpl (k : gOK h b A n N na ad fe) : gv h b A X A.pl = some (iA 14 X.pl) := rk_up_k k.2.2.2.2.2 rk_up_s
theorem gOK.gla (k : gOK h b A n N na ad fe) : gv h b A X A.la = some (iA 14 X.la) := rk_up_s
theorem gOK.usf (k : gOK h b A n N na ad fe) {f : Nat → Int32} : rk_up (gv h b A X) A.sf (iA 14 f) = gv h b A (X.wsf f) := by
  unfold gv
  rw [rk_up_sw (Ne.symm k.2.2.1.2.2.2)]
  rw [rk_up_sw (Ne.symm k.2.2.1.2.2.1)]
  rw [rk_up_sw (Ne.symm k.2.2.1.2.1)]
  rw [rk_up_sw (Ne.symm k.2.2.1.1)]
  rw [rk_up_up]
  rfl
theorem gOK.ust (k : gOK h b A n N na ad fe) {f : Nat → Int32} : rk_up (gv h b A X) A.st (iA 14 f) = gv h b A (X.wst f) := by
  unfold gv
  rw [rk_up_sw (Ne.symm k.2.2.2.1.2.2)]
  rw [rk_up_sw (Ne.symm k.2.2.2.1.2.1)]
  rw [rk_up_sw (Ne.symm k.2.2.2.1.1)]
  rw [rk_up_up]
  rfl
theorem gOK.usp (k : gOK h b A n N na ad fe) {f : Nat → Int32} : rk_up (gv h b A X) A.sp (iA 14 f) = gv h b A (X.wsp f) := by
  unfold gv
  rw [rk_up_sw (Ne.symm k.2.2.2.2.1.2)]
  rw [rk_up_sw (Ne.symm k.2.2.2.2.1.1)]
  rw [rk_up_up]
  rfl
theorem gOK.upl (k : gOK h b A n N na ad fe) {f : Nat → Int32} : rk_up (gv h b A X) A.pl (iA 14 f) = gv h b A (X.wpl f) := by
  unfold gv
  rw [rk_up_sw (Ne.symm k.2.2.2.2.2)]
  rw [rk_up_up]
  rfl
theorem gOK.ula (k : gOK h b A n N na ad fe) {f : Nat → Int32} : rk_up (gv h b A X) A.la (iA 14 f) = gv h b A (X.wla f) := by
  unfold gv
  rw [rk_up_up]
  rfl
theorem gOK.usn (k : gOK h b A n N na ad fe) {v : Int32} : rk_up (gv h b A X) b (oB 0 ((gls A X).set 6 (.int v))) = gv h b A (X.wsn v) := by
  unfold gv
  rw [rk_up_sw (Ne.symm k.bn.2.2.2.2)]
  rw [rk_up_sw (Ne.symm k.bn.2.2.2.1)]
  rw [rk_up_sw (Ne.symm k.bn.2.2.1)]
  rw [rk_up_sw (Ne.symm k.bn.2.1)]
  rw [rk_up_sw (Ne.symm k.bn.1)]
  rw [rk_up_up]
  rfl
theorem gOK.upk (k : gOK h b A n N na ad fe) {v : Int32} : rk_up (gv h b A X) b (oB 0 ((gls A X).set 7 (.int v))) = gv h b A (X.wpk v) := by
  unfold gv
  rw [rk_up_sw (Ne.symm k.bn.2.2.2.2)]
  rw [rk_up_sw (Ne.symm k.bn.2.2.2.1)]
  rw [rk_up_sw (Ne.symm k.bn.2.2.1)]
  rw [rk_up_sw (Ne.symm k.bn.2.1)]
  rw [rk_up_sw (Ne.symm k.bn.1)]
  rw [rk_up_up]
  rfl
theorem gOK.eq (k : gOK h b A n N na ad fe) : ∃ X : gX, X.n = n ∧ h = gv h b A X := by
  obtain ⟨⟨⟨X, kn, k0, k1, k2, k3, k4, k5⟩, -⟩, -, -⟩ := k
  refine ⟨X, kn, ?_⟩
  unfold gv
  rw [rk_up_id k0, rk_up_id k1, rk_up_id k2, rk_up_id k3, rk_up_id k4, rk_up_id k5]
end GV
/-- what an input stands for -/
def mnt (f : Nat → Int32) (o : Option Nat) : Int32 := match o with
  | none => -1
  | some a => f a
def oB14 (o : Option Nat) : Prop := ∀ a : Nat, o = some a → a < 14
theorem c_G_meant (b : Nat) (A : gA) (X : gX) (o : Option Nat) (h : rk_H) (hb : h b = some (oB 0 (gls A X))) (hf : h A.sf = some (iA 14 X.sf)) (ho : oB14 o) : rk_Con mG_meant (0, 0, 0, 0) [.ref b, .int (oI o)] h (rk_Rv (.int (mnt X.sf o)) h) := by
  refine rk_Con.of [some (.ref b), some (.int (oI o))] rfl (Nat.le_of_ble_eq_true rfl) (by decide +kernel) ?_
  cases o with
  | none =>
    refine rk_iload_n dG_meant_0 rfl ?_
    refine rk_iconst (v := -1) dG_meant_1 (by decide) ?_
    refine rk_icmp_ne 9 dG_meant_2 (by decide) (fun q_2 => ?_) (fun q_2 => ?_)
    · exact absurd rfl q_2
    · refine rk_iconst (v := -1) dG_meant_5 (by decide) ?_
      refine rk_goto 15 dG_meant_6 (by decide) ?_
      exact rk_iret rfl dG_meant_15 ⟨(Nat.le_of_ble_eq_true rfl), (Nat.le_of_ble_eq_true rfl)⟩ (⟨rfl, rfl⟩)
  | some a =>
    have ha := ho a rfl
    refine rk_iload_n dG_meant_0 rfl ?_
    refine rk_iconst (v := -1) dG_meant_1 (by decide) ?_
    refine rk_icmp_ne 9 dG_meant_2 (by decide) (fun q_2 => ?_) (fun q_2 => ?_)
    · refine rk_aload_n dG_meant_9 rfl ?_
      refine rk_getf fG_17 dG_meant_10 (by first | exact hb | exact hf | assumption) rfl ?_
      refine rk_iload_n dG_meant_13 rfl ?_
      refine rk_iald dG_meant_14 (by first | exact hb | exact hf | assumption) (vp_in_nI ha (by omega)) ?_
      rw [show (oI (some a)).toNatClampNeg = a from nI_clamp (by omega)]
      exact rk_iret rfl dG_meant_15 ⟨(Nat.le_of_ble_eq_true rfl), (Nat.le_of_ble_eq_true rfl)⟩ (⟨rfl, rfl⟩)
    · exact absurd q_2 (fun z => nI_pos (show a < 2 ^ 31 by omega) (by rw [show nI a = -1 from z]; decide))
theorem c_G_placeMeant (b : Nat) (A : gA) (X : gX) (a s : Nat) (h : rk_H) (hb : h b = some (oB 0 (gls A X))) (hf : h A.sf = some (iA 14 X.sf)) (hp : h A.pl = some (iA 14 X.pl)) (ha : a < 14) (hs : X.sf a = nI s) (hs2 : s < 14) : rk_Con mG_placeMeant (0, 0, 0, 0) [.ref b, .int (nI a)] h (rk_Rv (.int (X.pl s)) h) := by
  refine rk_Con.of [some (.ref b), some (.int (nI a))] rfl (Nat.le_of_ble_eq_true rfl) (by decide +kernel) ?_
  refine rk_aload_n dG_placeMeant_0 rfl ?_
  refine rk_getf fG_27 dG_placeMeant_1 (by first | exact hb | exact hf | exact hp | assumption) rfl ?_
  refine rk_aload_n dG_placeMeant_4 rfl ?_
  refine rk_getf fG_17 dG_placeMeant_5 (by first | exact hb | exact hf | exact hp | assumption) rfl ?_
  refine rk_iload_n dG_placeMeant_8 rfl ?_
  refine rk_iald dG_placeMeant_9 (by first | exact hb | exact hf | exact hp | assumption) (vp_in_nI ha (by omega)) ?_
  rw [nI_clamp (show a < 2 ^ 31 by omega), hs]
  refine rk_iald dG_placeMeant_10 (by first | exact hb | exact hf | exact hp | assumption) (vp_in_nI hs2 (by omega)) ?_
  rw [nI_clamp (show s < 2 ^ 31 by omega)]
  exact rk_iret rfl dG_placeMeant_11 ⟨(Nat.le_of_ble_eq_true rfl), (Nat.le_of_ble_eq_true rfl)⟩ (⟨rfl, rfl⟩)
/-- every input is an earlier node -/
def inOK (N : Nat → aN) (n : Nat) : Prop := ∀ i : Nat, i < n → (∀ a : Nat, (N i).one = some a → a < i) ∧ (∀ a : Nat, (N i).two = some a → a < i)
theorem inOK.o1 {N : Nat → aN} {n : Nat} (k : inOK N n) (hn : n ≤ 14) {i : Nat} (hi : i < n) : oB14 (N i).one := fun a ha => by have := (k i hi).1 a ha; omega
theorem inOK.o2 {N : Nat → aN} {n : Nat} (k : inOK N n) (hn : n ≤ 14) {i : Nat} (hi : i < n) : oB14 (N i).two := fun a ha => by have := (k i hi).2 a ha; omega
/-- rows that were planned up to k -/
def sfK (f : Nat → Int32) (S : Nat → Nat) (k : Nat) : Prop := ∀ i : Nat, i < k → f i = nI (S i)
theorem mnt_S {f : Nat → Int32} {S : Nat → Nat} {k : Nat} (hf : sfK f S k) {o : Option Nat} (ho : ∀ a : Nat, o = some a → a < k) : mnt f o = oI (o.map S) := by
  cases o with
  | none => rfl
  | some a => exact hf a (ho a rfl)
theorem oI_inj {o p : Option Nat} (ho : ∀ a, o = some a → a < 2 ^ 31) (hp : ∀ a, p = some a → a < 2 ^ 31) : oI o = oI p ↔ o = p := by
  cases o with
  | none =>
    cases p with
    | none => exact ⟨fun _ => rfl, fun _ => rfl⟩
    | some a => exact ⟨fun q => absurd (show nI a < 0 by rw [← show (-1 : Int32) = nI a from q]; decide) (nI_pos (hp a rfl)), fun q => by cases q⟩
  | some b =>
    cases p with
    | none => exact ⟨fun q => absurd (show nI b < 0 by rw [show nI b = (-1 : Int32) from q]; decide) (nI_pos (ho b rfl)), fun q => by cases q⟩
    | some a => exact ⟨fun q => by rw [(nI_eq (ho b rfl) (hp a rfl)).mp q], fun q => by cases q; rfl⟩
theorem v_nd {na : Nat → Option Nat} {i x : Nat} (h : i < 2 ^ 31) (hq : na i = some x) : va_rf (na (nI i).toNatClampNeg) = .ref x := by rw [nI_clamp h, hq]; rfl
