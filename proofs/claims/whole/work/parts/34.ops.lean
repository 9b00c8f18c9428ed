/-! what each call asks for, on the shared state: a code, a value, a state -/
def exL (l : List String) (k : Nat) : String := l.getD (k - 1) ""
theorem frm.up {h : rk_H} {C : cT} {n x : Nat} {e : rk_E} (hx : own C n x) : frm h C n (rk_up h x e) C n := ⟨rfl, fun z e' hz hn => rk_up_k (fun q => hn (by rw [q]; exact hx)) hz, fun z hz => Or.inl hz⟩
theorem frm.up2 {h h1 : rk_H} {C : cT} {n x : Nat} {e : rk_E} (k : frm h C n h1 C n) (hx : own C n x) : frm h C n (rk_up h1 x e) C n := ⟨rfl, fun z e' hz hn => rk_up_k (fun q => hn (by rw [q]; exact hx)) (k.2.1 z e' hz hn), fun z hz => Or.inl hz⟩
theorem own.a {C : cT} {n : Nat} : own C n C.a := Or.inl (Or.inl rfl)
theorem own.gb {C : cT} {n : Nat} : own C n C.gb := Or.inl (Or.inr (Or.inl rfl))
theorem own.mb {C : cT} {n : Nat} : own C n C.mb := Or.inl (Or.inr (Or.inr rfl))
theorem own.na {C : cT} {n : Nat} : own C n C.A.na := Or.inr (Or.inl (Or.inl rfl))
theorem own.sf {C : cT} {n : Nat} : own C n C.A.sf := Or.inr (Or.inl (Or.inr (Or.inl rfl)))
theorem own.st {C : cT} {n : Nat} : own C n C.A.st := Or.inr (Or.inl (Or.inr (Or.inr (Or.inl rfl))))
theorem own.sp {C : cT} {n : Nat} : own C n C.A.sp := Or.inr (Or.inl (Or.inr (Or.inr (Or.inr (Or.inl rfl)))))
theorem own.pl {C : cT} {n : Nat} : own C n C.A.pl := Or.inr (Or.inl (Or.inr (Or.inr (Or.inr (Or.inr (Or.inl rfl))))))
theorem own.la {C : cT} {n : Nat} : own C n C.A.la := Or.inr (Or.inl (Or.inr (Or.inr (Or.inr (Or.inr (Or.inr rfl))))))
theorem own.wc {C : cT} {n : Nat} : own C n C.M.wc := Or.inr (Or.inr (Or.inl (Or.inl rfl)))
theorem own.ce {C : cT} {n : Nat} : own C n C.M.ce := Or.inr (Or.inr (Or.inl (Or.inr (Or.inl rfl))))
theorem own.wi {C : cT} {n : Nat} : own C n C.M.wi := Or.inr (Or.inr (Or.inl (Or.inr (Or.inr (Or.inl rfl)))))
theorem own.s1 {C : cT} {n : Nat} : own C n C.M.s1 := Or.inr (Or.inr (Or.inl (Or.inr (Or.inr (Or.inr (Or.inl rfl))))))
theorem own.s2 {C : cT} {n : Nat} : own C n C.M.s2 := Or.inr (Or.inr (Or.inl (Or.inr (Or.inr (Or.inr (Or.inr rfl))))))
theorem own.ad {C : cT} {n i : Nat} (h : i < n) : own C n (C.ad i) := Or.inr (Or.inr (Or.inr ⟨i, h, Or.inl rfl⟩))
theorem own.fe {C : cT} {n i : Nat} (h : i < n) : own C n (C.fe i) := Or.inr (Or.inr (Or.inr ⟨i, h, Or.inr rfl⟩))
theorem frm.gv {h : rk_H} {C : cT} {n : Nat} {X : gX} : frm h C n (gv h C.gb C.A X) C n := ((((((frm.up own.gb).up2 own.sf).up2 own.st).up2 own.sp).up2 own.pl).up2 own.la)
theorem frm.mv {h : rk_H} {C : cT} {n : Nat} {w : wR} {p q : Int64 × Int32} {f : Nat → Int32} : frm h C n (mv h C.M w p q f) C n := ((((frm.up own.wi).up2 own.s1).up2 own.s2).up2 own.ce)
theorem frm.wM {h h1 : rk_H} {C : cT} {n : Nat} {M : mR} {F : Nat → Int32} (k : frm h C n h1 C n) (e1 : M.1 = C.M.1) (e2 : M.2.2 = C.M.2.2) : frm h C n h1 (C.wM M F) n := by
  refine ⟨rfl, k.2.1, fun z hz => Or.inl ?_⟩
  have f1 : (C.wM M F).M.wc = C.M.wc := congrArg Prod.fst e1
  have f2 : (C.wM M F).M.ce = C.M.ce := congrArg Prod.snd e1
  have f3 : (C.wM M F).M.wi = C.M.wi := congrArg Prod.fst e2
  have f4 : (C.wM M F).M.s1 = C.M.s1 := congrArg (fun q => q.2.1) e2
  have f5 : (C.wM M F).M.s2 = C.M.s2 := congrArg (fun q => q.2.2) e2
  unfold own at hz ⊢
  rw [f1, f2, f3, f4, f5] at hz
  exact hz
theorem nodeK {x : Int32} {n : Nat} (hn : n ≤ 14) (h : btw x 0 (nI n - 1)) : ∃ j : Nat, j < n ∧ x = nI j := by
  cases n with
  | zero =>
    have h1 := h.1
    have h2 : x ≤ -1 := h.2
    exact absurd (Int32.le_trans h1 h2) (by decide)
  | succ n =>
    have h2 : x ≤ nI n := by rw [← nI_pred n]; exact h.2
    obtain ⟨j, hj, e⟩ := nI_of2 (nI_toInt (n := n) (by omega)) (Int32.not_lt.mpr h.1) h2
    exact ⟨j, by omega, e⟩
theorem nodeK' {n j : Nat} (hn : n ≤ 14) (h : j < n) : btw (nI j) 0 (nI n - 1) := by
  cases n with
  | zero => omega
  | succ n =>
    rw [nI_pred]
    exact ⟨nI_pos' (by omega), nI_le (by omega) (by omega)⟩
theorem btwK {x M : Int32} {m : Nat} (hM : M = nI m) (hm : m < 2 ^ 31) (h : btw x 0 M) : ∃ j : Nat, j ≤ m ∧ x = nI j := by
  subst hM
  exact nI_of2 (nI_toInt hm) (Int32.not_lt.mpr h.1) h.2
abbrev oR : Type := Nat × Option Value × aS
def tN (x : Int32) : Nat := x.toNatClampNeg
def btB (v a b : Int32) : Bool := decide (a ≤ v) && decide (v ≤ b)
theorem btB_iff {v a b : Int32} : btB v a b = true ↔ btw v a b := by unfold btB btw; rw [Bool.and_eq_true, decide_eq_true_eq, decide_eq_true_eq]
def dsB (r : UInt64) : Bool := decide (¬ Op.cmpValue (FP.dcmp r FP.dconst0) .l ≤ 0) && decide (¬ 0 < Op.cmpValue (FP.dcmp r 4696837146684686336) .g)
theorem dsB_iff {r : UInt64} : dsB r = true ↔ d_scl r := by unfold dsB d_scl; rw [Bool.and_eq_true, decide_eq_true_eq, decide_eq_true_eq]
/-- is a node of the state -/
def ndB (s : aS) (x : Int32) : Bool := btB x 0 (nI s.n - 1)
theorem ndB_of {s : aS} {x : Int32} (hn : s.n ≤ 14) (h : ndB s x = true) : ∃ j : Nat, j < s.n ∧ x = nI j := nodeK hn (btB_iff.mp h)
def opWeights (s : aS) (off : Int32) (x : Int64) : oR := if btB off 0 511 = true then (0, some (.int (nI (min 8 (512 - tN off)))), s.wwt (spr x 512 (tN off) s.wt)) else (1, none, s)
def opWeightScale (s : aS) (r : UInt64) : oR := if dsB r = true then (0, none, s.wws r) else (1, none, s)
def opOutput (s : aS) (x : Int32) : oR := if ndB s x = true then (0, some (.int (nI (s.N (tN x)).ce)), s.wout (some (tN x))) else (1, none, s)
def opCompile (s : aS) : oR := match s.out with
  | none => (1, none, s)
  | some o => (0, some (.int (nI (pK s.N s.n o))), s.wcomp)
def opFeed (s : aS) (x fr : Int32) (v : Int64) : oR := if (ndB s x && decide ((s.N (tN x)).kd = 0) && btB fr 0 (nI (s.N (tN x)).ce - 1)) = true then (0, some (.int (nI (min 8 ((s.N (tN x)).ce - tN fr)))), s.wfd (tN x) (spr v (s.N (tN x)).ce (tN fr) (s.fd (tN x)))) else (1, none, s)
/-- the arena after a run -/
def arF (s : aS) (o : Nat) : Nat → Int32 := itr (runS s.N s.wt (stS s.N) (pR s.N s.n o) (pP s.N s.n o).1 s.fd) (pO s.N o + 1) 0 (fun _ => 0)
def opRun (s : aS) (a : Int32) : oR := match s.out with
  | none => if a < 0 then (1, none, s) else (2, none, s)
  | some o => if a < 0 then (1, none, s) else if s.comp = false then (2, none, s) else if a < nI (pP s.N s.n o).2 then (3, none, s)
    else (0, some (.int (itr (fun i q => q + arF s o (plN (pP s.N s.n o).1 (pO s.N o) + i)) (s.N (pO s.N o)).ce 0 0)), s.wrun (pP s.N s.n o).2 (arF s o) (s.N (pO s.N o)).ce (fun j => arF s o (plN (pP s.N s.n o).1 (pO s.N o) + j)) (s.N (pO s.N o)).sc)
def opArena (s : aS) (i : Int32) : oR := if (decide (0 ≤ i) && decide (i < nI s.arN)) = true then (0, some (.int (s.ar (tN i))), s) else (1, none, s)
def opResult (s : aS) (i : Int32) : oR := if (decide (0 ≤ i) && decide (i < nI s.shN)) = true then (0, some (.double (FP.dmul (FP.i2d (s.sh (tN i))) s.shS)), s) else (1, none, s)
def opPeak (s : aS) : oR := match s.out with
  | none => (1, none, s)
  | some o => if s.comp = true then (0, some (.int (nI (pP s.N s.n o).2)), s) else (1, none, s)
def abMade (x : aN) (w : Int32) : Int32 := if w = 1 then nI x.h else if w = 2 then nI x.w else if w = 3 then nI x.c else nI x.kd
def abPlan (s : aS) (o i : Nat) (w : Int32) : oR := if w = 4 then (0, some (.int (nI (stS s.N i))), s) else if w = 5 then (0, some (.int (nI (pR s.N s.n o (stS s.N i)))), s)
  else if pR s.N s.n o (stS s.N i) = 2 then (0, some (.int (if w = 6 then nI (pT s.N s.n o (stS s.N i)) else nI (plN (pP s.N s.n o).1 (stS s.N i)))), s) else (3, none, s)
def abOut (s : aS) (i : Nat) (w : Int32) : oR := match s.out with
  | none => (2, none, s)
  | some o => if s.comp = true then abPlan s o i w else (2, none, s)
def opAbout (s : aS) (x w : Int32) : oR := if (ndB s x && btB w 0 7) = true then (if w < 4 then (0, some (.int (abMade (s.N (tN x)) w)), s) else abOut s (tN x) w) else (1, none, s)
theorem abOut_int {s : aS} {i : Nat} {w : Int32} (h : (abOut s i w).1 = 0) : ∃ v : Int32, (abOut s i w).2.1 = some (.int v) := by
  unfold abOut at h ⊢
  cases ho : s.out with
  | none => rw [ho] at h; cases h
  | some o =>
    rw [ho] at h
    dsimp only at h ⊢
    split at h
    · next hc =>
      rw [if_pos hc]
      unfold abPlan at h ⊢
      split
      · exact ⟨_, rfl⟩
      · next h4 =>
        rw [if_neg h4] at h
        split
        · exact ⟨_, rfl⟩
        · next h5 =>
          rw [if_neg h5] at h
          split
          · exact ⟨_, rfl⟩
          · next h6 => rw [if_neg h6] at h; cases h
    · cases h
