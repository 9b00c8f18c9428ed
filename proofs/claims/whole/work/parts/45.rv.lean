/-! the reference as it lies in a heap -/
/-- a list of addresses laid over a heap -/
def ovl : List (Nat × rk_E) → rk_H → rk_H
  | [], b => b
  | q :: L, b => rk_up (ovl L b) q.1 q.2
theorem ovl_off {L : List (Nat × rk_E)} {b : rk_H} {z : Nat} (h : ∀ q ∈ L, q.1 ≠ z) : ovl L b z = b z := by
  induction L with
  | nil => rfl
  | cons q L ih =>
    show rk_up (ovl L b) q.1 q.2 z = b z
    rw [rk_up_n (fun e => h q List.mem_cons_self e.symm)]
    exact ih (fun p hp => h p (List.mem_cons_of_mem _ hp))
theorem ovl_at {L : List (Nat × rk_E)} {b : rk_H} (hn : (L.map Prod.fst).Nodup) (i : Nat) {k : Nat} {e : rk_E} (h : L[i]? = some (k, e)) : ovl L b k = some e := by
  induction L generalizing i with
  | nil => simp at h
  | cons q L ih =>
    rw [List.map_cons, List.nodup_cons] at hn
    cases i with
    | zero =>
      simp at h
      subst h
      exact rk_up_s
    | succ i =>
      have h' : L[i]? = some (k, e) := by simpa using h
      have hk : k ∈ L.map Prod.fst := List.mem_map.mpr ⟨(k, e), List.mem_of_getElem? h', rfl⟩
      show rk_up (ovl L b) q.1 q.2 k = some e
      rw [rk_up_n (fun z => hn.1 (by rw [← z]; exact hk))]
      exact ih hn.2 i h'
theorem ovl_up {L : List (Nat × rk_E)} {b : rk_H} (hn : (L.map Prod.fst).Nodup) (i : Nat) {k : Nat} {e e' : rk_E} (h : L[i]? = some (k, e)) : rk_up (ovl L b) k e' = ovl (L.set i (k, e')) b := by
  induction L generalizing i with
  | nil => simp at h
  | cons q L ih =>
    rw [List.map_cons, List.nodup_cons] at hn
    cases i with
    | zero =>
      simp at h
      subst h
      show rk_up (rk_up (ovl L b) k e) k e' = rk_up (ovl L b) k e'
      exact rk_up_up
    | succ i =>
      have h' : L[i]? = some (k, e) := by simpa using h
      have hk : k ∈ L.map Prod.fst := List.mem_map.mpr ⟨(k, e), List.mem_of_getElem? h', rfl⟩
      show rk_up (rk_up (ovl L b) q.1 q.2) k e' = rk_up (ovl (L.set i (k, e')) b) q.1 q.2
      rw [rk_up_sw (fun z => hn.1 (by rw [z]; exact hk)), ih hn.2 i h']
abbrev rX : Type := Int32 × UInt64 × Nat × (Option Nat) × Bool × Int32 × Int32 × Int32 × Int32 × UInt64 × (Nat → aN) × (Nat → Int32) × (Nat → Int32) × (Nat → Int32) × (Nat → Int32) × (Nat → Int32) × (Nat → Int32) × (Nat → Int32) × (Nat → Int32) × (Nat → Int32) × (Nat → Int32)
def rX.fa (X : rX) : Int32 := X.1
def rX.ws (X : rX) : UInt64 := X.2.1
def rX.no (X : rX) : Nat := X.2.2.1
def rX.ou (X : rX) : Option Nat := X.2.2.2.1
def rX.cm (X : rX) : Bool := X.2.2.2.2.1
def rX.sn (X : rX) : Int32 := X.2.2.2.2.2.1
def rX.pk (X : rX) : Int32 := X.2.2.2.2.2.2.1
def rX.an (X : rX) : Int32 := X.2.2.2.2.2.2.2.1
def rX.sz (X : rX) : Int32 := X.2.2.2.2.2.2.2.2.1
def rX.ss (X : rX) : UInt64 := X.2.2.2.2.2.2.2.2.2.1
def rX.N (X : rX) : Nat → aN := X.2.2.2.2.2.2.2.2.2.2.1
def rX.w (X : rX) : Nat → Int32 := X.2.2.2.2.2.2.2.2.2.2.2.1
def rX.ce (X : rX) : Nat → Int32 := X.2.2.2.2.2.2.2.2.2.2.2.2.1
def rX.fe (X : rX) : Nat → Int32 := X.2.2.2.2.2.2.2.2.2.2.2.2.2.1
def rX.st (X : rX) : Nat → Int32 := X.2.2.2.2.2.2.2.2.2.2.2.2.2.2.1
def rX.ro (X : rX) : Nat → Int32 := X.2.2.2.2.2.2.2.2.2.2.2.2.2.2.2.1
def rX.sp (X : rX) : Nat → Int32 := X.2.2.2.2.2.2.2.2.2.2.2.2.2.2.2.2.1
def rX.la (X : rX) : Nat → Int32 := X.2.2.2.2.2.2.2.2.2.2.2.2.2.2.2.2.2.1
def rX.pl (X : rX) : Nat → Int32 := X.2.2.2.2.2.2.2.2.2.2.2.2.2.2.2.2.2.2.1
def rX.ar (X : rX) : Nat → Int32 := X.2.2.2.2.2.2.2.2.2.2.2.2.2.2.2.2.2.2.2.1
def rX.sh (X : rX) : Nat → Int32 := X.2.2.2.2.2.2.2.2.2.2.2.2.2.2.2.2.2.2.2.2
def rX.wfa (X : rX) (v : Int32) : rX := (v, X.ws, X.no, X.ou, X.cm, X.sn, X.pk, X.an, X.sz, X.ss, X.N, X.w, X.ce, X.fe, X.st, X.ro, X.sp, X.la, X.pl, X.ar, X.sh)
def rX.wws (X : rX) (v : UInt64) : rX := (X.fa, v, X.no, X.ou, X.cm, X.sn, X.pk, X.an, X.sz, X.ss, X.N, X.w, X.ce, X.fe, X.st, X.ro, X.sp, X.la, X.pl, X.ar, X.sh)
def rX.wno (X : rX) (v : Nat) : rX := (X.fa, X.ws, v, X.ou, X.cm, X.sn, X.pk, X.an, X.sz, X.ss, X.N, X.w, X.ce, X.fe, X.st, X.ro, X.sp, X.la, X.pl, X.ar, X.sh)
def rX.wou (X : rX) (v : Option Nat) : rX := (X.fa, X.ws, X.no, v, X.cm, X.sn, X.pk, X.an, X.sz, X.ss, X.N, X.w, X.ce, X.fe, X.st, X.ro, X.sp, X.la, X.pl, X.ar, X.sh)
def rX.wcm (X : rX) (v : Bool) : rX := (X.fa, X.ws, X.no, X.ou, v, X.sn, X.pk, X.an, X.sz, X.ss, X.N, X.w, X.ce, X.fe, X.st, X.ro, X.sp, X.la, X.pl, X.ar, X.sh)
def rX.wsn (X : rX) (v : Int32) : rX := (X.fa, X.ws, X.no, X.ou, X.cm, v, X.pk, X.an, X.sz, X.ss, X.N, X.w, X.ce, X.fe, X.st, X.ro, X.sp, X.la, X.pl, X.ar, X.sh)
def rX.wpk (X : rX) (v : Int32) : rX := (X.fa, X.ws, X.no, X.ou, X.cm, X.sn, v, X.an, X.sz, X.ss, X.N, X.w, X.ce, X.fe, X.st, X.ro, X.sp, X.la, X.pl, X.ar, X.sh)
def rX.wan (X : rX) (v : Int32) : rX := (X.fa, X.ws, X.no, X.ou, X.cm, X.sn, X.pk, v, X.sz, X.ss, X.N, X.w, X.ce, X.fe, X.st, X.ro, X.sp, X.la, X.pl, X.ar, X.sh)
def rX.wsz (X : rX) (v : Int32) : rX := (X.fa, X.ws, X.no, X.ou, X.cm, X.sn, X.pk, X.an, v, X.ss, X.N, X.w, X.ce, X.fe, X.st, X.ro, X.sp, X.la, X.pl, X.ar, X.sh)
def rX.wss (X : rX) (v : UInt64) : rX := (X.fa, X.ws, X.no, X.ou, X.cm, X.sn, X.pk, X.an, X.sz, v, X.N, X.w, X.ce, X.fe, X.st, X.ro, X.sp, X.la, X.pl, X.ar, X.sh)
def rX.wN (X : rX) (v : Nat → aN) : rX := (X.fa, X.ws, X.no, X.ou, X.cm, X.sn, X.pk, X.an, X.sz, X.ss, v, X.w, X.ce, X.fe, X.st, X.ro, X.sp, X.la, X.pl, X.ar, X.sh)
def rX.ww (X : rX) (v : Nat → Int32) : rX := (X.fa, X.ws, X.no, X.ou, X.cm, X.sn, X.pk, X.an, X.sz, X.ss, X.N, v, X.ce, X.fe, X.st, X.ro, X.sp, X.la, X.pl, X.ar, X.sh)
def rX.wce (X : rX) (v : Nat → Int32) : rX := (X.fa, X.ws, X.no, X.ou, X.cm, X.sn, X.pk, X.an, X.sz, X.ss, X.N, X.w, v, X.fe, X.st, X.ro, X.sp, X.la, X.pl, X.ar, X.sh)
def rX.wfe (X : rX) (v : Nat → Int32) : rX := (X.fa, X.ws, X.no, X.ou, X.cm, X.sn, X.pk, X.an, X.sz, X.ss, X.N, X.w, X.ce, v, X.st, X.ro, X.sp, X.la, X.pl, X.ar, X.sh)
def rX.wst (X : rX) (v : Nat → Int32) : rX := (X.fa, X.ws, X.no, X.ou, X.cm, X.sn, X.pk, X.an, X.sz, X.ss, X.N, X.w, X.ce, X.fe, v, X.ro, X.sp, X.la, X.pl, X.ar, X.sh)
def rX.wro (X : rX) (v : Nat → Int32) : rX := (X.fa, X.ws, X.no, X.ou, X.cm, X.sn, X.pk, X.an, X.sz, X.ss, X.N, X.w, X.ce, X.fe, X.st, v, X.sp, X.la, X.pl, X.ar, X.sh)
def rX.wsp (X : rX) (v : Nat → Int32) : rX := (X.fa, X.ws, X.no, X.ou, X.cm, X.sn, X.pk, X.an, X.sz, X.ss, X.N, X.w, X.ce, X.fe, X.st, X.ro, v, X.la, X.pl, X.ar, X.sh)
def rX.wla (X : rX) (v : Nat → Int32) : rX := (X.fa, X.ws, X.no, X.ou, X.cm, X.sn, X.pk, X.an, X.sz, X.ss, X.N, X.w, X.ce, X.fe, X.st, X.ro, X.sp, v, X.pl, X.ar, X.sh)
def rX.wpl (X : rX) (v : Nat → Int32) : rX := (X.fa, X.ws, X.no, X.ou, X.cm, X.sn, X.pk, X.an, X.sz, X.ss, X.N, X.w, X.ce, X.fe, X.st, X.ro, X.sp, X.la, v, X.ar, X.sh)
def rX.war (X : rX) (v : Nat → Int32) : rX := (X.fa, X.ws, X.no, X.ou, X.cm, X.sn, X.pk, X.an, X.sz, X.ss, X.N, X.w, X.ce, X.fe, X.st, X.ro, X.sp, X.la, X.pl, v, X.sh)
def rX.wsh (X : rX) (v : Nat → Int32) : rX := (X.fa, X.ws, X.no, X.ou, X.cm, X.sn, X.pk, X.an, X.sz, X.ss, X.N, X.w, X.ce, X.fe, X.st, X.ro, X.sp, X.la, X.pl, X.ar, v)
def rls (A : Nat → Nat) (X : rX) : List Value := [.int X.fa, .ref (A 1), .double X.ws, .ref (A 2), .ref (A 3), .ref (A 4), .ref (A 5), .ref (A 6), .ref (A 7), .ref (A 8), .ref (A 9), .ref (A 10), .ref (A 11), .ref (A 12), .ref (A 13), .ref (A 14), .ref (A 15), .int (nI X.no), .int (oI X.ou), .int (b2i X.cm), .ref (A 16), .ref (A 17), .ref (A 18), .ref (A 19), .ref (A 20), .int X.sn, .int X.pk, .ref (A 21), .int X.an, .ref (A 22), .int X.sz, .double X.ss]
def rvL (A : Nat → Nat) (X : rX) : List (Nat × rk_E) := [(A 0, oB 6 (rls A X)), (A 1, iA 512 X.w), (A 2, iA 14 (fun i => nI (X.N i).kd)), (A 3, iA 14 (fun i => oI (X.N i).one)), (A 4, iA 14 (fun i => oI (X.N i).two)), (A 5, iA 14 (fun i => nI (X.N i).h)), (A 6, iA 14 (fun i => nI (X.N i).w)), (A 7, iA 14 (fun i => nI (X.N i).c)), (A 8, dA 14 (fun i => (X.N i).sc)), (A 9, dA 14 (fun i => (X.N i).ws)), (A 10, iA 14 (fun i => nI (X.N i).co)), (A 11, iA 14 (fun i => nI (X.N i).off)), (A 12, iA 14 (fun i => (X.N i).lo)), (A 13, iA 14 (fun i => (X.N i).hi)), (A 14, iA 1792 X.ce), (A 15, iA 1792 X.fe), (A 16, iA 14 X.st), (A 17, iA 14 X.ro), (A 18, iA 14 X.sp), (A 19, iA 14 X.la), (A 20, iA 14 X.pl), (A 21, iA 1792 X.ar), (A 22, iA 128 X.sh)]
def rv (b : rk_H) (A : Nat → Nat) (X : rX) : rk_H := ovl (rvL A X) b
/-- the addresses are apart -/
def rA (A : Nat → Nat) : Prop := ([A 0, A 1, A 2, A 3, A 4, A 5, A 6, A 7, A 8, A 9, A 10, A 11, A 12, A 13, A 14, A 15, A 16, A 17, A 18, A 19, A 20, A 21, A 22] : List Nat).Nodup
section RV
variable {b : rk_H} {A : Nat → Nat} {X : rX}
theorem rA.nd (k : rA A) : ((rvL A X).map Prod.fst).Nodup := k
theorem rA.m (k : rA A) : rv b A X (A 0) = some (oB 6 (rls A X)) := ovl_at k.nd 0 rfl
theorem rA.w (k : rA A) : rv b A X (A 1) = some (iA 512 X.w) := ovl_at k.nd 1 rfl
theorem rA.kd (k : rA A) : rv b A X (A 2) = some (iA 14 (fun i => nI (X.N i).kd)) := ovl_at k.nd 2 rfl
theorem rA.on (k : rA A) : rv b A X (A 3) = some (iA 14 (fun i => oI (X.N i).one)) := ovl_at k.nd 3 rfl
theorem rA.tw (k : rA A) : rv b A X (A 4) = some (iA 14 (fun i => oI (X.N i).two)) := ovl_at k.nd 4 rfl
theorem rA.hi (k : rA A) : rv b A X (A 5) = some (iA 14 (fun i => nI (X.N i).h)) := ovl_at k.nd 5 rfl
theorem rA.wi (k : rA A) : rv b A X (A 6) = some (iA 14 (fun i => nI (X.N i).w)) := ovl_at k.nd 6 rfl
theorem rA.de (k : rA A) : rv b A X (A 7) = some (iA 14 (fun i => nI (X.N i).c)) := ovl_at k.nd 7 rfl
theorem rA.sc (k : rA A) : rv b A X (A 8) = some (dA 14 (fun i => (X.N i).sc)) := ovl_at k.nd 8 rfl
theorem rA.nw (k : rA A) : rv b A X (A 9) = some (dA 14 (fun i => (X.N i).ws)) := ovl_at k.nd 9 rfl
theorem rA.co (k : rA A) : rv b A X (A 10) = some (iA 14 (fun i => nI (X.N i).co)) := ovl_at k.nd 10 rfl
theorem rA.of (k : rA A) : rv b A X (A 11) = some (iA 14 (fun i => nI (X.N i).off)) := ovl_at k.nd 11 rfl
theorem rA.lo (k : rA A) : rv b A X (A 12) = some (iA 14 (fun i => (X.N i).lo)) := ovl_at k.nd 12 rfl
theorem rA.to (k : rA A) : rv b A X (A 13) = some (iA 14 (fun i => (X.N i).hi)) := ovl_at k.nd 13 rfl
theorem rA.ce (k : rA A) : rv b A X (A 14) = some (iA 1792 X.ce) := ovl_at k.nd 14 rfl
theorem rA.fe (k : rA A) : rv b A X (A 15) = some (iA 1792 X.fe) := ovl_at k.nd 15 rfl
theorem rA.st (k : rA A) : rv b A X (A 16) = some (iA 14 X.st) := ovl_at k.nd 16 rfl
theorem rA.ro (k : rA A) : rv b A X (A 17) = some (iA 14 X.ro) := ovl_at k.nd 17 rfl
theorem rA.sp (k : rA A) : rv b A X (A 18) = some (iA 14 X.sp) := ovl_at k.nd 18 rfl
theorem rA.la (k : rA A) : rv b A X (A 19) = some (iA 14 X.la) := ovl_at k.nd 19 rfl
theorem rA.pl (k : rA A) : rv b A X (A 20) = some (iA 14 X.pl) := ovl_at k.nd 20 rfl
theorem rA.ar (k : rA A) : rv b A X (A 21) = some (iA 1792 X.ar) := ovl_at k.nd 21 rfl
theorem rA.sh (k : rA A) : rv b A X (A 22) = some (iA 128 X.sh) := ovl_at k.nd 22 rfl
theorem rA.uw (k : rA A) {f : Nat → Int32} : rk_up (rv b A X) (A 1) (iA 512 f) = rv b A (X.ww f) := ovl_up k.nd 1 rfl
theorem rA.uce (k : rA A) {f : Nat → Int32} : rk_up (rv b A X) (A 14) (iA 1792 f) = rv b A (X.wce f) := ovl_up k.nd 14 rfl
theorem rA.ufe (k : rA A) {f : Nat → Int32} : rk_up (rv b A X) (A 15) (iA 1792 f) = rv b A (X.wfe f) := ovl_up k.nd 15 rfl
theorem rA.ust (k : rA A) {f : Nat → Int32} : rk_up (rv b A X) (A 16) (iA 14 f) = rv b A (X.wst f) := ovl_up k.nd 16 rfl
theorem rA.uro (k : rA A) {f : Nat → Int32} : rk_up (rv b A X) (A 17) (iA 14 f) = rv b A (X.wro f) := ovl_up k.nd 17 rfl
theorem rA.usp (k : rA A) {f : Nat → Int32} : rk_up (rv b A X) (A 18) (iA 14 f) = rv b A (X.wsp f) := ovl_up k.nd 18 rfl
theorem rA.ula (k : rA A) {f : Nat → Int32} : rk_up (rv b A X) (A 19) (iA 14 f) = rv b A (X.wla f) := ovl_up k.nd 19 rfl
theorem rA.upl (k : rA A) {f : Nat → Int32} : rk_up (rv b A X) (A 20) (iA 14 f) = rv b A (X.wpl f) := ovl_up k.nd 20 rfl
theorem rA.uar (k : rA A) {f : Nat → Int32} : rk_up (rv b A X) (A 21) (iA 1792 f) = rv b A (X.war f) := ovl_up k.nd 21 rfl
theorem rA.ush (k : rA A) {f : Nat → Int32} : rk_up (rv b A X) (A 22) (iA 128 f) = rv b A (X.wsh f) := ovl_up k.nd 22 rfl
theorem rA.ufa (k : rA A) {v : Int32} : rk_up (rv b A X) (A 0) (oB 6 ((rls A X).set 0 (.int v))) = rv b A (X.wfa v) := ovl_up k.nd 0 rfl
theorem rA.uws (k : rA A) {v : UInt64} : rk_up (rv b A X) (A 0) (oB 6 ((rls A X).set 2 (.double v))) = rv b A (X.wws v) := ovl_up k.nd 0 rfl
theorem rA.uno (k : rA A) {v : Nat} : rk_up (rv b A X) (A 0) (oB 6 ((rls A X).set 17 (.int (nI v)))) = rv b A (X.wno v) := ovl_up k.nd 0 rfl
theorem rA.uou (k : rA A) {v : Option Nat} : rk_up (rv b A X) (A 0) (oB 6 ((rls A X).set 18 (.int (oI v)))) = rv b A (X.wou v) := ovl_up k.nd 0 rfl
theorem rA.ucm (k : rA A) {v : Bool} : rk_up (rv b A X) (A 0) (oB 6 ((rls A X).set 19 (.int (b2i v)))) = rv b A (X.wcm v) := ovl_up k.nd 0 rfl
theorem rA.usn (k : rA A) {v : Int32} : rk_up (rv b A X) (A 0) (oB 6 ((rls A X).set 25 (.int v))) = rv b A (X.wsn v) := ovl_up k.nd 0 rfl
theorem rA.upk (k : rA A) {v : Int32} : rk_up (rv b A X) (A 0) (oB 6 ((rls A X).set 26 (.int v))) = rv b A (X.wpk v) := ovl_up k.nd 0 rfl
theorem rA.uan (k : rA A) {v : Int32} : rk_up (rv b A X) (A 0) (oB 6 ((rls A X).set 28 (.int v))) = rv b A (X.wan v) := ovl_up k.nd 0 rfl
theorem rA.usz (k : rA A) {v : Int32} : rk_up (rv b A X) (A 0) (oB 6 ((rls A X).set 30 (.int v))) = rv b A (X.wsz v) := ovl_up k.nd 0 rfl
theorem rA.uss (k : rA A) {v : UInt64} : rk_up (rv b A X) (A 0) (oB 6 ((rls A X).set 31 (.double v))) = rv b A (X.wss v) := ovl_up k.nd 0 rfl
theorem rv_off {z : Nat} (h : ∀ i, i < 23 → A i ≠ z) : rv b A X z = b z := by
  refine ovl_off (fun q hq => ?_)
  have : q.1 ∈ (rvL A X).map Prod.fst := List.mem_map.mpr ⟨q, hq, rfl⟩
  have e : (rvL A X).map Prod.fst = [A 0, A 1, A 2, A 3, A 4, A 5, A 6, A 7, A 8, A 9, A 10, A 11, A 12, A 13, A 14, A 15, A 16, A 17, A 18, A 19, A 20, A 21, A 22] := rfl
  rw [e] at this
  simp only [List.mem_cons, List.not_mem_nil, or_false] at this
  rcases this with h1 | h1 | h1 | h1 | h1 | h1 | h1 | h1 | h1 | h1 | h1 | h1 | h1 | h1 | h1 | h1 | h1 | h1 | h1 | h1 | h1 | h1 | h1 <;> rw [h1] <;> exact h _ (by omega)
end RV
