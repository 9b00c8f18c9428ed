/-! loops that store: one shape -/
/-- for i below k: f (t + i) becomes g i of what is there -/
def itf (g : Nat → (Nat → Int32) → Int32) (t : Nat) : Nat → (Nat → Int32) → (Nat → Int32)
  | 0, f => f
  | k + 1, f => upd (itf g t k f) (t + k) (g k (itf g t k f))
theorem itf_0 {g : Nat → (Nat → Int32) → Int32} {t : Nat} {f : Nat → Int32} : itf g t 0 f = f := rfl
theorem itf_s {g : Nat → (Nat → Int32) → Int32} {t k : Nat} {f : Nat → Int32} : itf g t (k + 1) f = upd (itf g t k f) (t + k) (g k (itf g t k f)) := rfl
theorem inc1 (i : Nat) : nI i + Int32.ofInt 1 = nI (i + 1) := nI_1 i
theorem c_J_fill (a N : Nat) (f : Nat → Int32) (v : Int32) (h : rk_H) (ha : h a = some (iA N f)) (hN : N < 2 ^ 31) : rk_Con mJ_fill (0, 0, 0, 0) [.ref a, .int v] h (rk_R0 (rk_up h a (iA N (itf (fun _ _ => v) 0 N f)))) := by
  have loop : ∀ (k i : Nat), i + k = N → rk_Run mJ_fill (0, 0, 0, 0) (rk_R0 (rk_up h a (iA N (itf (fun _ _ => v) 0 N f)))) 5 [some (.ref a), some (.int v), some (.int (nI i)), some (.int (nI N))] [] (rk_up h a (iA N (itf (fun _ _ => v) 0 i f))) (0, 0) := by
    intro k
    induction k with
    | zero =>
      intro i hi
      have hi : i = N := by omega
      subst hi
      refine rk_iload_n dJ_fill_5 rfl ?_
      refine rk_iload_n dJ_fill_6 rfl ?_
      refine rk_icmp_ge 20 dJ_fill_7 (by decide) (fun q_7 => ?_) (fun q_7 => ?_)
      · exact rk_ret rfl dJ_fill_20 ⟨(Nat.le_of_ble_eq_true rfl), (Nat.le_of_ble_eq_true rfl)⟩ (⟨rfl, rfl⟩)
      · exact absurd (nI_le (Nat.le_refl _) hN) q_7
    | succ k ih =>
      intro i hi
      refine rk_iload_n dJ_fill_5 rfl ?_
      refine rk_iload_n dJ_fill_6 rfl ?_
      refine rk_icmp_ge 20 dJ_fill_7 (by decide) (fun q_7 => ?_) (fun q_7 => ?_)
      · exact absurd q_7 (nI_ge (by omega) (by omega))
      · refine rk_aload_n dJ_fill_10 rfl ?_
        refine rk_iload_n dJ_fill_11 rfl ?_
        refine rk_iload_n dJ_fill_12 rfl ?_
        refine rk_iast dJ_fill_13 (by first | assumption | (simp only [rk_up_s]; first | rfl)) (vp_in_nI (show i < N by omega) hN) ?_
        refine rk_iinc dJ_fill_14 rfl (inc1 i) (Nat.le_of_ble_eq_true rfl) ?_
        refine rk_goto 5 dJ_fill_17 (by decide) ?_
        rw [rk_up_up, nI_clamp (by omega)]
        refine rk_lv [some (.ref a), some (.int v), some (.int (nI (i + 1))), some (.int (nI N))] ⟨rfl, rfl, rfl, rfl, trivial⟩ ?_
        have e := ih (i + 1) (by omega)
        rw [itf_s, Nat.zero_add] at e
        exact e
  refine rk_Con.of [some (.ref a), some (.int v), none, none] rfl (Nat.le_of_ble_eq_true rfl) (by decide +kernel) ?_
  refine rk_iconst (v := 0) dJ_fill_0 (by decide) ?_
  refine rk_istore_n dJ_fill_1 (Nat.le_of_ble_eq_true rfl) ?_
  refine rk_aload_n dJ_fill_2 rfl ?_
  refine rk_alen (kd := 0) (by decide) dJ_fill_3 (by first | exact ha | assumption) ?_
  refine rk_istore_n dJ_fill_4 (Nat.le_of_ble_eq_true rfl) ?_
  refine rk_lv [some (.ref a), some (.int v), some (.int (nI 0)), some (.int (nI N))] ⟨rfl, rfl, rfl, rfl, trivial⟩ ?_
  have e := loop N 0 (by omega)
  rw [itf_0, rk_up_id ha] at e
  exact e
/-- a loop: k rounds from i on, what it carries is a -/
def itr {α : Type} (s : Nat → α → α) : Nat → Nat → α → α
  | 0, _, a => a
  | k + 1, i, a => itr s k (i + 1) (s i a)
theorem rk_neq {h : rk_H} {a b : Nat} {e e' : rk_E} (ha : h a = some e) (hb : h b = some e') (hn : e ≠ e') : a ≠ b := fun q => hn (by rw [q, hb] at ha; exact (Option.some.inj ha).symm)
theorem ix2 {a A b B : Nat} (h1 : a < A) (h2 : b < B) : a * B + b < A * B := by
  have : a * B + B ≤ A * B := by rw [← Nat.succ_mul]; exact Nat.mul_le_mul_right B h1
  omega
theorem ix3 {a A b B c C : Nat} (h1 : a < A) (h2 : b < B) (h3 : c < C) : (a * B + b) * C + c < A * B * C := ix2 (ix2 h1 h2) h3
/-- a node, as both programs know it: kind, inputs; h, w, c; scale, scale of its weights; code, offset; low, high -/
abbrev aN : Type := (Nat × Option Nat × Option Nat) × (Nat × Nat × Nat) × (UInt64 × UInt64) × (Nat × Nat) × (Int32 × Int32)
def aN.kd (x : aN) : Nat := x.1.1
def aN.one (x : aN) : Option Nat := x.1.2.1
def aN.two (x : aN) : Option Nat := x.1.2.2
def aN.h (x : aN) : Nat := x.2.1.1
def aN.w (x : aN) : Nat := x.2.1.2.1
def aN.c (x : aN) : Nat := x.2.1.2.2
def aN.sc (x : aN) : UInt64 := x.2.2.1.1
def aN.ws (x : aN) : UInt64 := x.2.2.1.2
def aN.co (x : aN) : Nat := x.2.2.2.1.1
def aN.off (x : aN) : Nat := x.2.2.2.1.2
def aN.lo (x : aN) : Int32 := x.2.2.2.2.1
def aN.hi (x : aN) : Int32 := x.2.2.2.2.2
def aN.ce (x : aN) : Nat := x.h * x.w * x.c
def oI (o : Option Nat) : Int32 := match o with
  | none => -1
  | some a => nI a
/-- the class's Node of it -/
def nM (x : aN) (fe : Nat) (ra ro : UInt64) : nR := ((nI x.kd, oI x.one, oI x.two), (nI x.h, nI x.w, nI x.c, nI x.ce), (x.sc, fe), (nI x.co, nI x.off, x.ws), (x.lo, x.hi), (ra, ro))
def nL (x : aN) (fe : Nat) (ra ro : UInt64) : List Value := [.int (nI x.kd), .int (oI x.one), .int (oI x.two), .int (nI x.h), .int (nI x.w), .int (nI x.c), .int (nI x.ce), .double x.sc, .ref fe, .int (nI x.co), .int (nI x.off), .double x.ws, .int x.lo, .int x.hi, .double ra, .double ro]
theorem nM_ls (x : aN) (fe : Nat) (ra ro : UInt64) : (nM x fe ra ro).ls = nL x fe ra ro := rfl
/-- where a window of a code lies: k, step, rows and columns before, the tensor's rows and columns -/
abbrev wP : Type := Nat × Nat × Nat × Nat × Nat × Nat
def wP.k (g : wP) : Nat := g.1
def wP.sp (g : wP) : Nat := g.2.1
def wP.rb (g : wP) : Nat := g.2.2.1
def wP.cb (g : wP) : Nat := g.2.2.2.1
def wP.oh (g : wP) : Nat := g.2.2.2.2.1
def wP.ow (g : wP) : Nat := g.2.2.2.2.2
def w_r0 (g : wP) (y : Nat) : Nat := y * g.sp - g.rb
def w_r1 (g : wP) (y : Nat) : Nat := min (y * g.sp + g.k - g.rb) g.oh
def w_c0 (g : wP) (x : Nat) : Nat := x * g.sp - g.cb
def w_c1 (g : wP) (x : Nat) : Nat := min (x * g.sp + g.k - g.cb) g.ow
def wL (g : wP) (y x : Nat) : List Value := [.int (nI g.k), .int (nI (y * g.sp) - nI g.rb), .int (nI (x * g.sp) - nI g.cb), .int (nI (w_r0 g y)), .int (nI (w_r1 g y)), .int (nI (w_c0 g x)), .int (nI (w_c1 g x)), .int (nI g.sp), .int (nI g.oh), .int (nI g.ow), .int (nI g.rb), .int (nI g.cb)]
theorem nI_s3 {a b c : Nat} (h : b ≤ a + c) : nI a - (nI b - nI c) = nI (a + c - b) := by
  rw [← pk_sub h, ← nI_add]
  simp only [Int32.sub_eq_add_neg, Int32.neg_add, Int32.neg_neg]
  rw [← Int32.add_assoc]
  rw [Int32.add_assoc (nI a) (-nI b), Int32.add_comm (-nI b), ← Int32.add_assoc]
