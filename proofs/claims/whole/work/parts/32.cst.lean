/-! the state that both programs know; the class as it lies in a heap -/
abbrev aS : Type := (Nat × (Nat → aN)) × ((Nat → Int32) × UInt64) × (Option Nat × Bool) × (Nat → Nat → Int32) × ((Nat × (Nat → Int32)) × (Nat × (Nat → Int32) × UInt64))
def aS.n (s : aS) : Nat := s.1.1
def aS.N (s : aS) : Nat → aN := s.1.2
def aS.wt (s : aS) : Nat → Int32 := s.2.1.1
def aS.ws (s : aS) : UInt64 := s.2.1.2
def aS.out (s : aS) : Option Nat := s.2.2.1.1
def aS.comp (s : aS) : Bool := s.2.2.1.2
def aS.fd (s : aS) : Nat → Nat → Int32 := s.2.2.2.1
def aS.arN (s : aS) : Nat := s.2.2.2.2.1.1
def aS.ar (s : aS) : Nat → Int32 := s.2.2.2.2.1.2
def aS.shN (s : aS) : Nat := s.2.2.2.2.2.1
def aS.sh (s : aS) : Nat → Int32 := s.2.2.2.2.2.2.1
def aS.shS (s : aS) : UInt64 := s.2.2.2.2.2.2.2
def aS.wwt (s : aS) (f : Nat → Int32) : aS := (s.1, (f, s.ws), s.2.2)
def aS.wws (s : aS) (x : UInt64) : aS := (s.1, (s.wt, x), s.2.2)
def aS.wout (s : aS) (o : Option Nat) : aS := (s.1, s.2.1, (o, false), s.2.2.2)
def aS.wcomp (s : aS) : aS := (s.1, s.2.1, (s.out, true), s.2.2.2)
def aS.wfd (s : aS) (i : Nat) (f : Nat → Int32) : aS := (s.1, s.2.1, s.2.2.1, (fun q => if q = i then f else s.fd q), s.2.2.2.2)
def aS.wrun (s : aS) (an : Nat) (a : Nat → Int32) (k : Nat) (f : Nat → Int32) (x : UInt64) : aS := (s.1, s.2.1, s.2.2.1, s.fd, ((an, a), (k, f, x)))
def updN (N : Nat → aN) (i : Nat) (x : aN) : Nat → aN := fun j => if j = i then x else N j
def aS.push (s : aS) (x : aN) : aS := ((s.n + 1, updN s.N s.n x), s.2.1, (s.out, false), (fun q => if q = s.n then fun _ => 0 else s.fd q), s.2.2.2.2)
def in8 (x : Int32) : Prop := -128 ≤ x ∧ x ≤ 127
/-- what always holds of the state -/
def aOK (s : aS) : Prop := (s.n ≤ 14 ∧ wfN s.N s.n ∧ (0 < s.ws.toNat ∧ s.ws.toNat ≤ dTop)) ∧ (∀ o, s.out = some o → o < s.n) ∧ (s.comp = true → ∃ o, s.out = some o) ∧ (∀ j, in8 (s.wt j)) ∧ (∀ i j, in8 (s.fd i j))
/-- where the class lies -/
abbrev cT : Type := (Nat × Nat × Nat) × gA × mR × ((Nat → Option Nat) × (Nat → Nat) × (Nat → Nat)) × (Nat → Int32)
def cT.a (C : cT) : Nat := C.1.1
def cT.gb (C : cT) : Nat := C.1.2.1
def cT.mb (C : cT) : Nat := C.1.2.2
def cT.A (C : cT) : gA := C.2.1
def cT.M (C : cT) : mR := C.2.2.1
def cT.na (C : cT) : Nat → Option Nat := C.2.2.2.1.1
def cT.ad (C : cT) : Nat → Nat := C.2.2.2.1.2.1
def cT.fe (C : cT) : Nat → Nat := C.2.2.2.1.2.2
def cT.F (C : cT) : Nat → Int32 := C.2.2.2.2
def tls (C : cT) (ws : UInt64) (o : Option Nat) (c : Bool) : List Value := [.ref C.gb, .ref C.mb, .double ws, .int (oI o), .int (b2i c)]
/-- what the latest run left -/
def runK (C : cT) (s : aS) : Prop := (C.M.ar = nI s.arN ∧ s.arN ≤ 1792 ∧ ∀ j, j < s.arN → C.F j = s.ar j) ∧ (C.M.rc = nI s.shN ∧ C.M.rs = s.shS ∧ s.shS.toNat ≤ dTop) ∧ ∃ rp, C.M.rp = nI rp ∧ rp + s.shN ≤ 1792 ∧ ∀ j, j < s.shN → C.F (rp + j) = s.sh j
def plnK (h : rk_H) (C : cT) (s : aS) : Prop := s.comp = true → ∃ (o : Nat) (X : gX), s.out = some o ∧ gIs h C.gb C.A X ∧ plnd s.N s.n o X
/-- the rows of the inputs are rows of their own -/
def feK (C : cT) (s : aS) : Prop := (∀ i j : Nat, i < s.n → j < s.n → (s.N i).kd = 0 → (s.N j).kd = 0 → i ≠ j → C.fe i ≠ C.fe j) ∧ ∀ i : Nat, i < s.n → (s.N i).kd = 0 → C.fe i ≠ C.A.sf ∧ C.fe i ≠ C.A.st ∧ C.fe i ≠ C.A.sp ∧ C.fe i ≠ C.A.pl ∧ C.fe i ≠ C.A.la
def cOK (h : rk_H) (C : cT) (s : aS) : Prop :=
  (h C.a = some (oB 5 (tls C s.ws s.out s.comp)) ∧ mOK h C.mb C.M s.wt ∧ gOK h C.gb C.A s.n s.N C.na C.ad C.fe ∧ fdK h s.N s.n C.fe s.fd) ∧
  (h C.M.ce = some (iA 1792 C.F) ∧ runK C s) ∧ feK C s ∧ plnK h C s
/-- the class's own addresses -/
def own (C : cT) (n : Nat) (z : Nat) : Prop := (z = C.a ∨ z = C.gb ∨ z = C.mb) ∨ (z = C.A.na ∨ z = C.A.sf ∨ z = C.A.st ∨ z = C.A.sp ∨ z = C.A.pl ∨ z = C.A.la) ∨ (z = C.M.wc ∨ z = C.M.ce ∨ z = C.M.wi ∨ z = C.M.s1 ∨ z = C.M.s2) ∨ ∃ i : Nat, i < n ∧ (z = C.ad i ∨ z = C.fe i)
def frm (h : rk_H) (C : cT) (n : Nat) (h' : rk_H) (C' : cT) (n' : Nat) : Prop := C'.a = C.a ∧ (∀ (z : Nat) (e : rk_E), h z = some e → ¬ own C n z → h' z = some e) ∧ ∀ z : Nat, own C' n' z → own C n z ∨ h z = none
/-- what a call of the class leaves: code, value, state -/
def cPost (h : rk_H) (C : cT) (n : Nat) (res : Nat × Option Value × aS) (ex : Nat → String) : rk_P := fun r h' => (∃ C' : cT, cOK h' C' res.2.2 ∧ frm h C n h' C' res.2.2.n) ∧ r = (if res.1 = 0 then .inl res.2.1 else .inr (ex res.1))
theorem frm.rf {h : rk_H} {C : cT} {n : Nat} : frm h C n h C n := ⟨rfl, fun _ _ h _ => h, fun _ h => Or.inl h⟩
theorem cPost.same {h : rk_H} {C : cT} {s : aS} {res : Nat × Option Value × aS} {ex : Nat → String} {r : rk_O} (k : cOK h C s) (e : res.2.2 = s) (hr : r = (if res.1 = 0 then .inl res.2.1 else .inr (ex res.1))) : cPost h C s.n res ex r h := by
  refine ⟨⟨C, ?_, ?_⟩, hr⟩
  · rw [e]; exact k
  · rw [e]; exact frm.rf
/-- the class's facts only speak of its own addresses -/
theorem cOK.kept {h h' : rk_H} {C : cT} {s : aS} (k : cOK h C s) (hf : ∀ z, own C s.n z → h' z = h z) : cOK h' C s := by
  obtain ⟨⟨k1, ⟨⟨m1, m2⟩, ⟨⟨w0, m3⟩, ⟨x1, x2, m4⟩, ⟨x3, x4, m5⟩, f0, m6⟩, m7⟩, ⟨⟨⟨X, g0, g1, g2, g3, g4, g5, g6⟩, gn⟩, ⟨g7, g8⟩, g9⟩, k4⟩, ⟨k5, k6⟩, k7, k8⟩ := k
  have oa : h' C.a = h C.a := hf _ (Or.inl (Or.inl rfl))
  have ogb : h' C.gb = h C.gb := hf _ (Or.inl (Or.inr (Or.inl rfl)))
  have omb : h' C.mb = h C.mb := hf _ (Or.inl (Or.inr (Or.inr rfl)))
  have ona : h' C.A.na = h C.A.na := hf _ (Or.inr (Or.inl (Or.inl rfl)))
  have osf : h' C.A.sf = h C.A.sf := hf _ (Or.inr (Or.inl (Or.inr (Or.inl rfl))))
  have ost : h' C.A.st = h C.A.st := hf _ (Or.inr (Or.inl (Or.inr (Or.inr (Or.inl rfl)))))
  have osp : h' C.A.sp = h C.A.sp := hf _ (Or.inr (Or.inl (Or.inr (Or.inr (Or.inr (Or.inl rfl))))))
  have opl : h' C.A.pl = h C.A.pl := hf _ (Or.inr (Or.inl (Or.inr (Or.inr (Or.inr (Or.inr (Or.inl rfl)))))))
  have ola : h' C.A.la = h C.A.la := hf _ (Or.inr (Or.inl (Or.inr (Or.inr (Or.inr (Or.inr (Or.inr rfl)))))))
  have owc : h' C.M.wc = h C.M.wc := hf _ (Or.inr (Or.inr (Or.inl (Or.inl rfl))))
  have oce : h' C.M.ce = h C.M.ce := hf _ (Or.inr (Or.inr (Or.inl (Or.inr (Or.inl rfl)))))
  have owi : h' C.M.wi = h C.M.wi := hf _ (Or.inr (Or.inr (Or.inl (Or.inr (Or.inr (Or.inl rfl))))))
  have os1 : h' C.M.s1 = h C.M.s1 := hf _ (Or.inr (Or.inr (Or.inl (Or.inr (Or.inr (Or.inr (Or.inl rfl)))))))
  have os2 : h' C.M.s2 = h C.M.s2 := hf _ (Or.inr (Or.inr (Or.inl (Or.inr (Or.inr (Or.inr (Or.inr rfl)))))))
  have oad : ∀ i, i < s.n → h' (C.ad i) = h (C.ad i) := fun i hi => hf _ (Or.inr (Or.inr (Or.inr ⟨i, hi, Or.inl rfl⟩)))
  have ofe : ∀ i, i < s.n → h' (C.fe i) = h (C.fe i) := fun i hi => hf _ (Or.inr (Or.inr (Or.inr ⟨i, hi, Or.inr rfl⟩)))
  refine ⟨⟨by rw [oa]; exact k1, ⟨⟨by rw [omb]; exact m1, by rw [owc]; exact m2⟩, ⟨⟨w0, by rw [owi]; exact m3⟩, ⟨x1, x2, by rw [os1]; exact m4⟩, ⟨x3, x4, by rw [os2]; exact m5⟩, f0, by rw [oce]; exact m6⟩, m7⟩, ⟨⟨⟨X, g0, by rw [ogb]; exact g1, by rw [osf]; exact g2, by rw [ost]; exact g3, by rw [osp]; exact g4, by rw [opl]; exact g5, by rw [ola]; exact g6⟩, gn⟩, ⟨by rw [ona]; exact g7, fun i hi => ⟨(g8 i hi).1, by rw [oad i hi]; exact (g8 i hi).2⟩⟩, g9⟩, fun i hi hk => by rw [ofe i hi]; exact k4 i hi hk⟩, ⟨by rw [oce]; exact k5, k6⟩, k7, ?_⟩
  intro hc
  obtain ⟨o, X, q1, ⟨y0, y1, y2, y3, y4, y5⟩, q3⟩ := k8 hc
  exact ⟨o, X, q1, ⟨by rw [ogb]; exact y0, by rw [osf]; exact y1, by rw [ost]; exact y2, by rw [osp]; exact y3, by rw [opl]; exact y4, by rw [ola]; exact y5⟩, q3⟩
/-! spread -/
def b8 (x : Int64) (k : Nat) : Int32 := (x >>> ((8 * (7 - nI k) : Int32).toInt64 &&& 63)).toInt32.toInt8.toInt32
/-- eight bytes into a row of L from t on, as far as it goes -/
def spr (x : Int64) (L t : Nat) (f : Nat → Int32) : Nat → Int32 := stp t (min 8 (L - t)) (b8 x) f
theorem c_T_spread (x : Int64) (a L t : Nat) (f : Nat → Int32) (h : rk_H) (ha : h a = some (iA L f)) (hL : L ≤ 1792) (ht : t < L) : rk_Con mT_spread (1, 18, 0, 0) [.long x, .ref a, .int (nI t)] h (rk_Rv (.int (nI (min 8 (L - t)))) (rk_up h a (iA L (spr x L t f)))) := by
  have emin : (if nI (L - t) < 8 then nI (L - t) else 8) = nI (min 8 (L - t)) := by
    rw [show (8 : Int32) = nI 8 from rfl]
    by_cases hl : L - t < 8
    · rw [if_pos (nI_lt hl (by omega)), Nat.min_eq_right (by omega)]
    · rw [if_neg (nI_nlt (by omega) (by omega)), Nat.min_eq_left (by omega)]
  have es : itf (fun i _ => b8 x i) t (min 8 (L - t)) f = spr x L t f := itf_stp (fun _ _ _ _ => rfl)
  have loop : ∀ (k i : Nat), i + k = min 8 (L - t) → rk_Run mT_spread (1, 18, 0, 0) (rk_Rv (.int (nI (min 8 (L - t)))) (rk_up h a (iA L (itf (fun i _ => b8 x i) t (min 8 (L - t)) f)))) 14 [some (.long x), none, some (.ref a), some (.int (nI t)), some (.int (nI (min 8 (L - t)))), some (.int (nI i))] [] (rk_up h a (iA L (itf (fun i _ => b8 x i) t i f))) (0, 0) := by
    intro k
    induction k with
    | zero =>
      intro i hi
      have hi : i = min 8 (L - t) := by omega
      subst hi
      refine rk_iload dT_spread_14 rfl ?_
      refine rk_iload dT_spread_16 rfl ?_
      refine rk_icmp_ge 45 dT_spread_18 (by decide) (fun q_18 => ?_) (fun q_18 => ?_)
      · refine rk_iload dT_spread_45 rfl ?_
        exact rk_iret rfl dT_spread_47 ⟨(Nat.le_of_ble_eq_true rfl), (Nat.le_of_ble_eq_true rfl)⟩ (⟨rfl, rfl⟩)
      · exact absurd (nI_le (Nat.le_refl _) (by omega)) q_18
    | succ k ih =>
      intro i hi
      refine rk_iload dT_spread_14 rfl ?_
      refine rk_iload dT_spread_16 rfl ?_
      refine rk_icmp_ge 45 dT_spread_18 (by decide) (fun q_18 => ?_) (fun q_18 => ?_)
      · exact absurd q_18 (nI_ge (by omega) (by omega))
      · refine rk_aload_n dT_spread_21 rfl ?_
        refine rk_iload_n dT_spread_22 rfl ?_
        refine rk_iload dT_spread_23 rfl ?_
        refine rk_iadd dT_spread_25 ?_
        rw [nI_add]
        refine rk_lload_n dT_spread_26 rfl ?_
        refine rk_bipush (v := 8) dT_spread_27 (by decide) ?_
        refine rk_bipush (v := 7) dT_spread_29 (by decide) ?_
        refine rk_iload dT_spread_31 rfl ?_
        refine rk_isub dT_spread_33 ?_
        refine rk_imul dT_spread_34 ?_
        refine rk_lshr dT_spread_35 ?_
        refine rk_l2i dT_spread_36 ?_
        refine rk_i2b dT_spread_37 ?_
        refine rk_iast dT_spread_38 (by first | assumption | (simp only [rk_up_s]; first | rfl)) (vp_in_nI (show t + i < L by omega) (by omega)) ?_
        refine rk_iinc dT_spread_39 rfl (inc1 i) (Nat.le_of_ble_eq_true rfl) ?_
        refine rk_goto 14 dT_spread_42 (by decide) ?_
        rw [rk_up_up, nI_clamp (show t + i < 2 ^ 31 by omega)]
        exact ih (i + 1) (by omega)
  rw [es] at loop
  refine rk_Con.of [some (.long x), none, some (.ref a), some (.int (nI t)), none, none] rfl (Nat.le_of_ble_eq_true rfl) (by decide +kernel) ?_
  refine rk_bipush (v := 8) dT_spread_0 (by decide) ?_
  refine rk_aload_n dT_spread_2 rfl ?_
  refine rk_alen (kd := 0) (by decide) dT_spread_3 (by first | exact ha | assumption) ?_
  refine rk_iload_n dT_spread_4 rfl ?_
  refine rk_isub dT_spread_5 ?_
  rw [pk_sub (by omega)]
  refine rk_jmin jT_217 dT_spread_6 ⟨(Nat.le_of_ble_eq_true rfl), (Nat.le_of_ble_eq_true rfl)⟩ (Nat.le_of_ble_eq_true rfl) (Nat.le_of_ble_eq_true rfl) ?_
  rw [emin]
  refine rk_istore dT_spread_9 (Nat.le_of_ble_eq_true rfl) ?_
  refine rk_iconst (v := 0) dT_spread_11 (by decide) ?_
  refine rk_istore dT_spread_12 (Nat.le_of_ble_eq_true rfl) ?_
  have e := loop (min 8 (L - t)) 0 (by omega)
  rw [itf_0, rk_up_id ha] at e
  exact e
