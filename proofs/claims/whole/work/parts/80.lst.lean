/-! WHAT EACH CALL MAY ANSWER, AND THE LAW'S STATE BETWEEN CALLS -/
theorem oi_mk2 {s : aS} {g : Bool} {x : aN} : oInt (mk2 s g x) 2 := by
  unfold mk2
  repeat' split
  all_goals first | exact Or.inl ⟨rfl, _, rfl⟩ | exact Or.inr ⟨Nat.le_of_ble_eq_true rfl, Nat.le_of_ble_eq_true rfl⟩
theorem oi_mk3 {s : aS} {g r : Bool} {x : aN} : oInt (mk3 s g r x) 3 := by
  unfold mk3
  repeat' split
  all_goals first | exact Or.inl ⟨rfl, _, rfl⟩ | exact Or.inr ⟨Nat.le_of_ble_eq_true rfl, Nat.le_of_ble_eq_true rfl⟩
theorem oi_input {s : aS} {x y z : Int32} {sc : UInt64} : oInt (opInput s x y z sc) 2 := oi_mk2
theorem oi_reshape {s : aS} {p x y z : Int32} : oInt (opReshape s p x y z) 2 := oi_mk2
theorem oi_clamp {s : aS} {p lo hi : Int32} : oInt (opClamp s p lo hi) 2 := oi_mk2
theorem oi_concat {s : aS} {p q : Int32} : oInt (opConcat s p q) 2 := oi_mk2
theorem oi_pool {s : aS} {p c a : Int32} : oInt (opPool s p c a) 2 := oi_mk2
theorem oi_rescale {s : aS} {p : Int32} {sc : UInt64} : oInt (opRescale s p sc) 3 := oi_mk3
theorem oi_add {s : aS} {p q : Int32} {sc : UInt64} : oInt (opAdd s p q sc) 3 := oi_mk3
theorem oi_dense {s : aS} {p d off : Int32} {sc : UInt64} : oInt (opDense s p d off sc) 3 := oi_mk3
theorem oi_windows {s : aS} {p c d off : Int32} {sc : UInt64} : oInt (opWindows s p c d off sc) 3 := oi_mk3
theorem oi_weights {s : aS} {off : Int32} {x : Int64} : oInt (opWeights s off x) 1 := by
  unfold opWeights
  repeat' split
  all_goals first | exact Or.inl ⟨rfl, _, rfl⟩ | exact Or.inr ⟨Nat.le_of_ble_eq_true rfl, Nat.le_of_ble_eq_true rfl⟩
theorem oi_weightScale {s : aS} {r : UInt64} : oVoid (opWeightScale s r) 1 := by
  unfold opWeightScale
  repeat' split
  all_goals first | exact Or.inl ⟨rfl, rfl⟩ | exact Or.inr ⟨Nat.le_of_ble_eq_true rfl, Nat.le_of_ble_eq_true rfl⟩
theorem oi_output {s : aS} {x : Int32} : oInt (opOutput s x) 1 := by
  unfold opOutput
  repeat' split
  all_goals first | exact Or.inl ⟨rfl, _, rfl⟩ | exact Or.inr ⟨Nat.le_of_ble_eq_true rfl, Nat.le_of_ble_eq_true rfl⟩
theorem oi_compile {s : aS} : oInt (opCompile s) 1 := by
  unfold opCompile
  repeat' split
  all_goals first | exact Or.inl ⟨rfl, _, rfl⟩ | exact Or.inr ⟨Nat.le_of_ble_eq_true rfl, Nat.le_of_ble_eq_true rfl⟩
theorem oi_feed {s : aS} {x fr : Int32} {v : Int64} : oInt (opFeed s x fr v) 1 := by
  unfold opFeed
  repeat' split
  all_goals first | exact Or.inl ⟨rfl, _, rfl⟩ | exact Or.inr ⟨Nat.le_of_ble_eq_true rfl, Nat.le_of_ble_eq_true rfl⟩
theorem oi_run {s : aS} {a : Int32} : oInt (opRun s a) 3 := by
  unfold opRun
  repeat' split
  all_goals first | exact Or.inl ⟨rfl, _, rfl⟩ | exact Or.inr ⟨Nat.le_of_ble_eq_true rfl, Nat.le_of_ble_eq_true rfl⟩
theorem oi_arena {s : aS} {i : Int32} : oInt (opArena s i) 1 := by
  unfold opArena
  repeat' split
  all_goals first | exact Or.inl ⟨rfl, _, rfl⟩ | exact Or.inr ⟨Nat.le_of_ble_eq_true rfl, Nat.le_of_ble_eq_true rfl⟩
theorem oi_result {s : aS} {i : Int32} : oDbl (opResult s i) 1 := by
  unfold opResult
  repeat' split
  all_goals first | exact Or.inl ⟨rfl, _, rfl⟩ | exact Or.inr ⟨Nat.le_of_ble_eq_true rfl, Nat.le_of_ble_eq_true rfl⟩
theorem oi_peak {s : aS} : oInt (opPeak s) 1 := by
  unfold opPeak
  repeat' split
  all_goals first | exact Or.inl ⟨rfl, _, rfl⟩ | exact Or.inr ⟨Nat.le_of_ble_eq_true rfl, Nat.le_of_ble_eq_true rfl⟩
theorem oi_about {s : aS} {x w : Int32} : oInt (opAbout s x w) 3 := by
  unfold opAbout abOut abPlan
  repeat' split
  all_goals first | exact Or.inl ⟨rfl, _, rfl⟩ | exact Or.inr ⟨Nat.le_of_ble_eq_true rfl, Nat.le_of_ble_eq_true rfl⟩
theorem aOK.arena {s : aS} (k : aOK s) (i : Int32) : aOK (opArena s i).2.2 := by
  unfold opArena
  repeat' split
  all_goals exact k
theorem aOK.result {s : aS} (k : aOK s) (i : Int32) : aOK (opResult s i).2.2 := by
  unfold opResult
  repeat' split
  all_goals exact k
theorem aOK.peak {s : aS} (k : aOK s) : aOK (opPeak s).2.2 := by
  unfold opPeak
  repeat' split
  all_goals exact k
theorem aOK.about {s : aS} (k : aOK s) (x w : Int32) : aOK (opAbout s x w).2.2 := by
  unfold opAbout abOut abPlan
  repeat' split
  all_goals exact k
theorem nI_no {n m : Nat} (h1 : 1 ≤ n) (h2 : n ≤ m) (h3 : m ≤ 3) : ¬ nI n = 0 := by
  rcases (show n = 1 ∨ n = 2 ∨ n = 3 by omega) with rfl | rfl | rfl <;> decide
theorem rv_on {b b' : rk_H} {A : Nat → Nat} {X : rX} (k : rA A) {i : Nat} (hi : i < 23) : rv b A X (A i) = rv b' A X (A i) ∧ ∃ e : rk_E, rv b A X (A i) = some e := by
  rcases (show i = 0 ∨ i = 1 ∨ i = 2 ∨ i = 3 ∨ i = 4 ∨ i = 5 ∨ i = 6 ∨ i = 7 ∨ i = 8 ∨ i = 9 ∨ i = 10 ∨ i = 11 ∨ i = 12 ∨ i = 13 ∨ i = 14 ∨ i = 15 ∨ i = 16 ∨ i = 17 ∨ i = 18 ∨ i = 19 ∨ i = 20 ∨ i = 21 ∨ i = 22 by omega) with rfl | rfl | rfl | rfl | rfl | rfl | rfl | rfl | rfl | rfl | rfl | rfl | rfl | rfl | rfl | rfl | rfl | rfl | rfl | rfl | rfl | rfl | rfl
  · exact ⟨k.m.trans k.m.symm, _, k.m⟩
  · exact ⟨k.w.trans k.w.symm, _, k.w⟩
  · exact ⟨k.kd.trans k.kd.symm, _, k.kd⟩
  · exact ⟨k.on.trans k.on.symm, _, k.on⟩
  · exact ⟨k.tw.trans k.tw.symm, _, k.tw⟩
  · exact ⟨k.hi.trans k.hi.symm, _, k.hi⟩
  · exact ⟨k.wi.trans k.wi.symm, _, k.wi⟩
  · exact ⟨k.de.trans k.de.symm, _, k.de⟩
  · exact ⟨k.sc.trans k.sc.symm, _, k.sc⟩
  · exact ⟨k.nw.trans k.nw.symm, _, k.nw⟩
  · exact ⟨k.co.trans k.co.symm, _, k.co⟩
  · exact ⟨k.of.trans k.of.symm, _, k.of⟩
  · exact ⟨k.lo.trans k.lo.symm, _, k.lo⟩
  · exact ⟨k.to.trans k.to.symm, _, k.to⟩
  · exact ⟨k.ce.trans k.ce.symm, _, k.ce⟩
  · exact ⟨k.fe.trans k.fe.symm, _, k.fe⟩
  · exact ⟨k.st.trans k.st.symm, _, k.st⟩
  · exact ⟨k.ro.trans k.ro.symm, _, k.ro⟩
  · exact ⟨k.sp.trans k.sp.symm, _, k.sp⟩
  · exact ⟨k.la.trans k.la.symm, _, k.la⟩
  · exact ⟨k.pl.trans k.pl.symm, _, k.pl⟩
  · exact ⟨k.ar.trans k.ar.symm, _, k.ar⟩
  · exact ⟨k.sh.trans k.sh.symm, _, k.sh⟩
theorem rv_self {b h : rk_H} {A : Nat → Nat} {X : rX} (k : rA A) (hh : ∀ i, i < 23 → h (A i) = rv b A X (A i)) : h = rv h A X := by
  funext z
  by_cases hz : ∃ i, i < 23 ∧ A i = z
  · obtain ⟨i, hi, rfl⟩ := hz
    exact (hh i hi).trans (rv_on k hi).1
  · exact (rv_off (fun i hi q => hz ⟨i, hi, q⟩)).symm
def lwOff (A : Nat → Nat) (lo dq sb z : Nat) : Prop := (∀ i, i < 23 → A i ≠ z) ∧ lo ≠ z ∧ dq ≠ z ∧ sb ≠ z
def lwD (A : Nat → Nat) (lo dq sb : Nat) : Prop := (∀ i, i < 23 → A i ≠ lo ∧ A i ≠ dq ∧ A i ≠ sb) ∧ lo ≠ dq ∧ lo ≠ sb ∧ dq ≠ sb
/-- between the two calls: the class is at s, the reference at X -/
def lwH (A : Nat → Nat) (lo dq sb L ca : Nat) (xs : Nat → Int32) (b h : rk_H) (C : cT) (X : rX) (s : aS) (f : Nat → Int64) (g : Nat → UInt64) : Prop :=
  (C.a = ca ∧ rA A ∧ h = rv b A X ∧ lwD A lo dq sb) ∧ (cOK h C s ∧ ∀ z, own C s.n z → lwOff A lo dq sb z) ∧ (h lo = some (lA 1 f) ∧ h dq = some (dA 1 g) ∧ h sb = some (sA L xs))
def lwK (A : Nat → Nat) (lo dq sb L ca : Nat) (xs : Nat → Int32) (b h : rk_H) (C : cT) (X : rX) (s : aS) (f : Nat → Int64) (g : Nat → UInt64) : Prop := lwH A lo dq sb L ca xs b h C X s f g ∧ aOK s ∧ rOK X s
section LW
variable {A : Nat → Nat} {lo dq sb L ca : Nat} {xs : Nat → Int32} {b h h1 h2 : rk_H} {C C1 : cT} {X : rX} {s : aS} {f f1 : Nat → Int64} {g g1 : Nat → UInt64} {res : oR} {r : rk_O}
theorem lwH.core {s1 : aS} {o : Nat} (K : lwH A lo dq sb L ca xs b h C X s f g) (ho : o = lo ∨ o = dq) (kc1 : cOK h1 C1 s1) (fr : frl h C s.n o h1 C1 s1.n) (hl1 : h1 lo = some (lA 1 f1)) (hd1 : h1 dq = some (dA 1 g1)) : lwH A lo dq sb L ca xs h1 h1 C1 X s1 f1 g1 := by
  obtain ⟨⟨hca, k, hX, D⟩, ⟨kc, hof⟩, hl, hd, hs⟩ := K
  have hAo : ∀ i, i < 23 → A i ≠ o := fun i hi => by
    rcases ho with rfl | rfl
    · exact (D.1 i hi).1
    · exact (D.1 i hi).2.1
  have hso : sb ≠ o := by
    rcases ho with rfl | rfl
    · exact fun q => D.2.2.1 q.symm
    · exact fun q => D.2.2.2 q.symm
  have hAs : ∀ i, i < 23 → ∃ e : rk_E, h (A i) = some e ∧ rv b A X (A i) = some e := fun i hi => by
    obtain ⟨e, he⟩ := (rv_on (b := b) (b' := b) (X := X) k hi).2
    exact ⟨e, by rw [hX]; exact he, he⟩
  refine ⟨⟨fr.1.trans hca, k, rv_self (b := b) k (fun i hi => ?_), D⟩, ⟨kc1, fun z hz => ?_⟩, hl1, hd1, fr.2.1 _ _ hs (fun q => (hof _ q).2.2.2 rfl) hso⟩
  · obtain ⟨e, he1, he2⟩ := hAs i hi
    rw [he2]
    exact fr.2.1 _ _ he1 (fun q => (hof _ q).1 i hi rfl) (hAo i hi)
  · rcases fr.2.2 z hz with q | q
    · exact hof z q
    · refine ⟨fun i hi e => ?_, fun e => ?_, fun e => ?_, fun e => ?_⟩
      · obtain ⟨x, hx, -⟩ := hAs i hi
        rw [e, q] at hx; cases hx
      · rw [e, q] at hl; cases hl
      · rw [e, q] at hd; cases hd
      · rw [e, q] at hs; cases hs
theorem lwH.callL (K : lwH A lo dq sb L ca xs b h C X s f g) (p : lPo h C s.n lo (eL res) res r h1) : r = .inl (some (.int (nI res.1))) ∧ ∃ (C1 : cT) (f1 : Nat → Int64), lwH A lo dq sb L ca xs h1 h1 C1 X res.2.2 f1 g ∧ (nI res.1 = 0 → ∃ v : Int32, res.2.1 = some (.int v) ∧ f1 0 = v.toInt64) := by
  obtain ⟨e1, C1, e, k1, fr, ho, f1, rfl, hE⟩ := p
  exact ⟨e1, C1, f1, K.core (Or.inl rfl) k1 fr ho (fr.2.1 _ _ K.2.2.2.1 (fun q => (K.2.1.2 _ q).2.2.1 rfl) (fun q => K.1.2.2.2.2.1 q.symm)), hE⟩
theorem lwH.callD (K : lwH A lo dq sb L ca xs b h C X s f g) (p : lPo h C s.n dq (eD res) res r h1) : r = .inl (some (.int (nI res.1))) ∧ ∃ (C1 : cT) (g1 : Nat → UInt64), lwH A lo dq sb L ca xs h1 h1 C1 X res.2.2 f g1 ∧ (nI res.1 = 0 → ∃ v : UInt64, res.2.1 = some (.double v) ∧ g1 0 = v) := by
  obtain ⟨e1, C1, e, k1, fr, ho, g1, rfl, hE⟩ := p
  exact ⟨e1, C1, g1, K.core (Or.inr rfl) k1 fr (fr.2.1 _ _ K.2.2.1 (fun q => (K.2.1.2 _ q).2.1 rfl) K.1.2.2.2.2.1) ho, hE⟩
theorem lwH.callV (K : lwH A lo dq sb L ca xs b h C X s f g) (p : wPo h C s.n res r h1) : r = .inl (some (.int (nI res.1))) ∧ ∃ C1 : cT, lwH A lo dq sb L ca xs h1 h1 C1 X res.2.2 f g := by
  obtain ⟨e1, C1, k1, fr⟩ := p
  exact ⟨e1, C1, K.core (o := lo) (Or.inl rfl) k1 ⟨fr.1, fun z e hz hn _ => fr.2.1 z e hz hn, fr.2.2⟩ (fr.2.1 _ _ K.2.2.1 (fun q => (K.2.1.2 _ q).2.1 rfl)) (fr.2.1 _ _ K.2.2.2.1 (fun q => (K.2.1.2 _ q).2.2.1 rfl))⟩
theorem lwH.ref {X2 : rX} (K : lwH A lo dq sb L ca xs b h1 C1 X s f1 g1) (e2 : h2 = rv h1 A X2) : lwH A lo dq sb L ca xs h1 h2 C1 X2 s f1 g1 := by
  obtain ⟨⟨hca, k, hX, D⟩, ⟨kc, hof⟩, hl, hd, hs⟩ := K
  refine ⟨⟨hca, k, e2, D⟩, ⟨kc.kept (fun z hz => ?_), hof⟩, ?_, ?_, ?_⟩
  · rw [e2]; exact rv_off (hof z hz).1
  · rw [e2, rv_off (fun i hi => (D.1 i hi).1)]; exact hl
  · rw [e2, rv_off (fun i hi => (D.1 i hi).2.1)]; exact hd
  · rw [e2, rv_off (fun i hi => (D.1 i hi).2.2)]; exact hs
theorem lwH.refL {m : Nat} (K : lwH A lo dq sb L ca xs h1 h1 C1 X res.2.2 f1 g1) (hE : nI res.1 = 0 → ∃ v : Int32, res.2.1 = some (.int v) ∧ f1 0 = v.toInt64) (hI : oInt res m) (hm : m ≤ 3) (ok : aOK res.2.2) (p : rPo h1 A (some (.int 0)) res r h2) :
    ∃ (w : Int32) (X2 : rX), r = .inl (some (.int w)) ∧ h2 = rv h1 A X2 ∧ X2.fa = nI res.1 ∧ (nI res.1 = 0 → f1 0 = w.toInt64) ∧ lwK A lo dq sb L ca xs h1 h2 C1 X2 res.2.2 f1 g1 := by
  obtain ⟨e1, X2, e2, e3, e4⟩ := p
  rcases hI with ⟨z0, v, hv⟩ | ⟨z1, z2⟩
  · refine ⟨v, X2, by rw [e1, if_pos z0, hv], e2, e3, fun q => ?_, K.ref e2, ok, e4⟩
    obtain ⟨w, hw, hw1⟩ := hE q
    rw [hv] at hw
    cases hw
    exact hw1
  · exact ⟨0, X2, by rw [e1, if_neg (by omega)], e2, e3, fun q => absurd q (nI_no z1 z2 hm), K.ref e2, ok, e4⟩
theorem lwH.refD {m : Nat} (K : lwH A lo dq sb L ca xs h1 h1 C1 X res.2.2 f1 g1) (hE : nI res.1 = 0 → ∃ v : UInt64, res.2.1 = some (.double v) ∧ g1 0 = v) (hI : oDbl res m) (hm : m ≤ 3) (ok : aOK res.2.2) (p : rPo h1 A (some (.double (FP.i2d 0))) res r h2) :
    ∃ (w : UInt64) (X2 : rX), r = .inl (some (.double w)) ∧ h2 = rv h1 A X2 ∧ X2.fa = nI res.1 ∧ (nI res.1 = 0 → g1 0 = w) ∧ lwK A lo dq sb L ca xs h1 h2 C1 X2 res.2.2 f1 g1 := by
  obtain ⟨e1, X2, e2, e3, e4⟩ := p
  rcases hI with ⟨z0, v, hv⟩ | ⟨z1, z2⟩
  · refine ⟨v, X2, by rw [e1, if_pos z0, hv], e2, e3, fun q => ?_, K.ref e2, ok, e4⟩
    obtain ⟨w, hw, hw1⟩ := hE q
    rw [hv] at hw
    cases hw
    exact hw1
  · exact ⟨_, X2, by rw [e1, if_neg (by omega)], e2, e3, fun q => absurd q (nI_no z1 z2 hm), K.ref e2, ok, e4⟩
theorem lwH.refV {m : Nat} (K : lwH A lo dq sb L ca xs h1 h1 C1 X res.2.2 f1 g1) (hI : oVoid res m) (ok : aOK res.2.2) (p : rPo h1 A none res r h2) :
    ∃ X2 : rX, r = .inl none ∧ h2 = rv h1 A X2 ∧ X2.fa = nI res.1 ∧ lwK A lo dq sb L ca xs h1 h2 C1 X2 res.2.2 f1 g1 := by
  obtain ⟨e1, X2, e2, e3, e4⟩ := p
  refine ⟨X2, ?_, e2, e3, K.ref e2, ok, e4⟩
  rcases hI with ⟨z0, hv⟩ | ⟨z1, z2⟩
  · rw [e1, if_pos z0, hv]
  · rw [e1, if_neg (by omega)]
theorem lw_cast {M : rk_M} {B : rk_B} {as : List Value} {P : rk_P} (e : h = rv b A X) (c : rk_Con M B as (rv b A X) P) : rk_Con M B as h P := Eq.subst (motive := fun z => rk_Con M B as z P) e.symm c
theorem lw_cmp {x y : Int64} (h : x = y) : lg_cmp x y = 0 := by subst h; unfold lg_cmp; simp
end LW
def lwAt (A : Nat → Nat) (lo dq sb L ca : Nat) (xs : Nat → Int32) (h : rk_H) : Prop := ∃ (b : rk_H) (C : cT) (X : rX) (s : aS) (f : Nat → Int64) (g : Nat → UInt64), lwK A lo dq sb L ca xs b h C X s f g
abbrev lwB : rk_B := (12, 300, 601024, 7293034)
def lwP : rk_P := fun r _ => r = .inl (some (.int 1))
abbrev lwV (A : Nat → Nat) (lo dq sb ca : Nat) (i : Int32) : List (Option Value) := [some (.ref sb), some (.ref ca), some (.ref (A 0)), some (.ref lo), some (.ref dq), some (.int i), none, none, none]
