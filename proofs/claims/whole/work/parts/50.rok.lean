/-! the reference and the shared state -/
def plnR (N : Nat → aN) (n o : Nat) (X : rX) : Prop := (sfK X.st (stS N) n ∧ sfK X.ro (pR N n o) n) ∧ plK X.sp (pR N n o) (pT N n o) n ∧ plR X.pl (pP N n o).1 n ∧ X.sn = nI (pK N n o) ∧ X.pk = nI (pP N n o).2
def rOK (X : rX) (s : aS) : Prop := (X.N = s.N ∧ X.no = s.n ∧ X.w = s.wt ∧ X.ws = s.ws) ∧ (X.ou = s.out ∧ X.cm = s.comp) ∧ (∀ i j : Nat, j < 128 → X.fe (128 * i + j) = s.fd i j) ∧
  (s.comp = true → ∃ o, s.out = some o ∧ plnR s.N s.n o X) ∧ (X.an = nI s.arN ∧ s.arN ≤ 1792 ∧ ∀ j, j < s.arN → X.ar j = s.ar j) ∧ (X.sz = nI s.shN ∧ s.shN ≤ 128 ∧ X.ss = s.shS ∧ s.shS.toNat ≤ dTop ∧ ∀ j, j < s.shN → X.sh j = s.sh j)
/-- what a call of the reference leaves -/
def rPo (b : rk_H) (A : Nat → Nat) (d : Option Value) (res : oR) : rk_P := fun r h' => r = .inl (if res.1 = 0 then res.2.1 else d) ∧ ∃ X' : rX, h' = rv b A X' ∧ X'.fa = nI res.1 ∧ rOK X' res.2.2
theorem rPo.fl {b : rk_H} {A : Nat → Nat} {d : Option Value} {res : oR} {X : rX} {s : aS} {c : Nat} (k : rOK X s) (e : res = (c, none, s)) (hc : c ≠ 0) : rPo b A d res (.inl d) (rv b A (X.wfa (nI c))) := by
  subst e
  exact ⟨by rw [if_neg hc], _, rfl, rfl, k⟩
theorem rPo.go {b : rk_H} {A : Nat → Nat} {d v : Option Value} {res : oR} {X : rX} {s : aS} (e : res = (0, v, s)) (hf : X.fa = 0) (k : rOK X s) : rPo b A d res (.inl v) (rv b A X) := by
  subst e
  exact ⟨rfl, _, rfl, hf, k⟩
theorem upd_up2 {f : Nat → Int32} {n : Nat} {a c : Int32} : upd (upd f n a) n c = upd f n c := by
  funext i
  unfold upd
  by_cases h : i = n
  · rw [if_pos h, if_pos h]
  · rw [if_neg h, if_neg h, if_neg h]
theorem b2n {p : Bool} (h : b2i (!p) = 0) : p = true := by cases p with | true => rfl | false => exact absurd h (by decide)
theorem b2n' {p : Bool} (h : ¬ b2i (!p) = 0) : p = false := by cases p with | false => rfl | true => exact absurd rfl h
theorem b2p {p : Bool} (h : b2i p = 0) : p = false := by cases p with | false => rfl | true => exact absurd h (by decide)
theorem b2p' {p : Bool} (h : ¬ b2i p = 0) : p = true := by cases p with | true => rfl | false => exact absurd rfl h
theorem i_sub1 {x : Int32} (h0 : 0 ≤ x - 1) {m : Int32} (hm : x - 1 < m) (hp : 0 < m.toInt) : 1 ≤ x ∧ x ≤ m := by
  rw [Int32.le_iff_toInt_le, Int32.toInt_sub] at h0
  rw [Int32.lt_iff_toInt_lt, Int32.toInt_sub] at hm
  rw [Int32.le_iff_toInt_le, Int32.le_iff_toInt_le]
  have e1 : (1 : Int32).toInt = 1 := rfl
  have e0 : (0 : Int32).toInt = 0 := rfl
  rw [e1] at h0 hm ⊢
  rw [e0] at h0
  have l1 := Int32.toInt_lt x
  have l2 := Int32.le_toInt x
  have l3 := Int32.toInt_lt m
  rw [Int.bmod_def] at h0 hm
  omega
theorem i_sub1' {x m : Int32} (h1 : 1 ≤ x) (h2 : x ≤ m) : 0 ≤ x - 1 ∧ x - 1 < m := by
  rw [Int32.le_iff_toInt_le] at h1 h2
  rw [Int32.le_iff_toInt_le, Int32.lt_iff_toInt_lt, Int32.toInt_sub]
  have e1 : (1 : Int32).toInt = 1 := rfl
  have e0 : (0 : Int32).toInt = 0 := rfl
  rw [e1] at h1 ⊢
  rw [e0]
  have l1 := Int32.toInt_lt x
  rw [Int.bmod_def]
  omega
theorem ou_bt {x m : Int32} (hm : 0 < m.toInt) : ouB (x - 1) m = !btB x 1 m := by
  cases h : btB x 1 m with
  | true =>
    have := btB_iff.mp h
    exact ouB_f.mpr (i_sub1' this.1 this.2)
  | false =>
    cases h2 : ouB (x - 1) m with
    | true => rfl
    | false =>
      have := ouB_f.mp h2
      exact absurd (btB_iff.mpr (i_sub1 this.1 this.2 hm)) (by rw [h]; decide)
theorem ou_n {x : Int32} {n : Nat} (hn : n < 2 ^ 31) : ouB x (nI n) = !btB x 0 (nI n - 1) := by
  cases h : btB x 0 (nI n - 1) with
  | true =>
    have := btB_iff.mp h
    refine ouB_f.mpr ⟨this.1, ?_⟩
    cases n with
    | zero => exact absurd (Int32.le_trans this.1 this.2) (by decide)
    | succ n =>
      have h2 : x ≤ nI n := by rw [← nI_pred n]; exact this.2
      exact Int32.lt_of_le_of_lt h2 (nI_lt (by omega) hn)
  | false =>
    cases h2 : ouB x (nI n) with
    | true => rfl
    | false =>
      have hh := ouB_f.mp h2
      cases n with
      | zero => exact absurd (Int32.lt_of_le_of_lt hh.1 hh.2) (by decide)
      | succ n =>
        refine absurd (btB_iff.mpr ⟨hh.1, ?_⟩) (by rw [h]; decide)
        rw [nI_pred]
        have t1 := hh.2
        rw [Int32.lt_iff_toInt_lt, nI_toInt hn] at t1
        rw [Int32.le_iff_toInt_le, nI_toInt (by omega)]
        omega
theorem rOK.nd {X : rX} {s : aS} (k : rOK X s) (hn : s.n ≤ 14) {x : Int32} : ouB x (nI X.no) = !ndB s x := by
  rw [k.1.2.1]
  exact ou_n (by omega)
theorem rOK.n14 {X : rX} {s : aS} (k : rOK X s) (hn : s.n ≤ 14) : nI X.no = 14 ↔ s.n = 14 := by
  rw [k.1.2.1, show (14 : Int32) = nI 14 from rfl]
  exact nI_eq (by omega) (by omega)
/-- make, then finish -/
def rX.mkd (X : rX) (kd : Nat) (one two : Option Nat) (x y z : Nat) (sc : UInt64) : rX := X.wN (updN X.N X.no (xM kd one two x y z sc X.ws (X.N X.no)))
def rX.fin (X : rX) (co off : Nat) (lo hi : Int32) : rX := (((X.wN (updN X.N X.no (((((X.N X.no).wco_ co).woff_ off).wlo_ lo).whi_ hi))).wfe (stp (128 * X.no) 128 (fun _ => 0) X.fe)).wno (X.no + 1)).wcm false
theorem rOK.push {X : rX} {s : aS} (k : rOK X s) {kd : Nat} {one two : Option Nat} {x y z : Nat} {sc : UInt64} {co off : Nat} {lo hi : Int32} {q : aN} (hq : q = ((kd, one, two), (x, y, z), (sc, kWs kd s.ws), (co, off), (lo, hi))) : rOK ((X.mkd kd one two x y z sc).fin co off lo hi) (s.push q) := by
  obtain ⟨⟨a1, a2, a3, a4⟩, ⟨b1, b2⟩, c1, d1, e1, f1⟩ := k
  refine ⟨⟨?_, ?_, a3, a4⟩, ⟨b1, rfl⟩, ?_, (fun h => by cases h), e1, f1⟩
  · show updN (updN X.N X.no _) X.no _ = updN s.N s.n q
    rw [updN_up, a1, a2, hq]
    show updN s.N s.n ((((((updN X.N X.no _) X.no).wco_ co).woff_ off).wlo_ lo).whi_ hi) = _
    rw [updN_at, a4]
    rfl
  · show X.no + 1 = s.n + 1
    rw [a2]
  · intro i j hj
    show stp (128 * X.no) 128 (fun _ => 0) X.fe (128 * i + j) = (if i = s.n then fun _ => 0 else s.fd i) j
    rw [a2]
    by_cases hi : i = s.n
    · rw [if_pos hi, hi]
      exact stp_in hj
    · rw [if_neg hi, stp_out (by omega)]
      exact c1 i j hj
theorem rPo.ps {b : rk_H} {A : Nat → Nat} {d : Option Value} {res : oR} {X : rX} {s : aS} {kd : Nat} {one two : Option Nat} {x y z : Nat} {sc : UInt64} {co off : Nat} {lo hi : Int32} {q : aN} (k : rOK X s) (hf : X.fa = 0) (e : res = (0, some (.int (nI s.n)), s.push q)) (hq : q = ((kd, one, two), (x, y, z), (sc, kWs kd s.ws), (co, off), (lo, hi))) : rPo b A d res (.inl (some (.int (nI X.no)))) (rv b A ((X.mkd kd one two x y z sc).fin co off lo hi)) := by
  subst e
  refine ⟨?_, _, rfl, hf, k.push hq⟩
  rw [k.1.2.1]
  rfl
theorem c_R_mk (b : rk_H) (A : Nat → Nat) (X : rX) (k : rA A) {vk v1 v2 vx vy vz : Int32} (kd : Nat) (one two : Option Nat) (x y z : Nat) (sc : UInt64) (hn : X.no < 14) (hk : kd ≤ 10) (ek : vk = nI kd) (e1 : v1 = oI one) (e2 : v2 = oI two) (ex : vx = nI x) (ey : vy = nI y) (ez : vz = nI z) : rk_Con mR_make (0, 0, 0, 0) [.ref (A 0), .int vk, .int v1, .int v2, .int vx, .int vy, .int vz, .double sc] (rv b A X) (rk_Rv (.int (nI X.no)) (rv b A (X.mkd kd one two x y z sc))) := by
  subst ek e1 e2 ex ey ez
  exact c_R_make b A X k kd one two x y z sc hn hk
theorem mkd_no {X : rX} {kd : Nat} {one two : Option Nat} {x y z : Nat} {sc : UInt64} : (X.mkd kd one two x y z sc).no = X.no := by unfold rX.mkd; exact wN_no
theorem c_R_fin (b : rk_H) (A : Nat → Nat) (X : rX) (k : rA A) {vc vo : Int32} (co off : Nat) (lo hi : Int32) {n0 : Nat} (e0 : X.no = n0) (hn : n0 < 14) (ec : vc = nI co) (eo : vo = nI off) : rk_Con mR_finish (0, 0, 0, 0) [.ref (A 0), .int vc, .int vo, .int lo, .int hi] (rv b A X) (rk_Rv (.int (nI n0)) (rv b A (X.fin co off lo hi))) := by
  subst ec eo e0
  exact c_R_finish b A X k co off lo hi hn
