/-! the reference's value of a cell, kind by kind -/
def caR (X : rX) (o : Option Nat) (z : Nat) : Int32 := match o with
  | none => 0
  | some a => X.ce (128 * stS X.N a + z)
def vR (X : rX) (n j : Nat) : Int32 := vI X.N X.w n (fun z => X.fe (128 * n + z)) (caR X (X.N n).one) (caR X (X.N n).two) j
theorem vNode_sh {n o o' : aN} {wt : Nat → Int32} {ra ro : UInt64} {fd ca cb : Nat → Int32} {j : Nat} (hh : o.h = o'.h) (hw : o.w = o'.w) (hc : o.c = o'.c) : vNode n o wt ra ro fd ca cb j = vNode n o' wt ra ro fd ca cb j := by
  have hce : o.ce = o'.ce := by unfold aN.ce; rw [hh, hw, hc]
  unfold vNode G_win v_win gOf
  rw [hh, hw, hc, hce]
theorem winG_congr {n o o' : aN} (hh : o.h = o'.h) (hw : o.w = o'.w) (h : winG n o) : winG n o' := by
  unfold winG winG0 at h ⊢
  rw [← hh, ← hw]
  exact h
/-- what is known where a value is computed -/
def vOK (X : rX) (n : Nat) : Prop := (X.no ≤ 14 ∧ n < X.no ∧ wfN X.N X.no ∧ sfK X.st (stS X.N) X.no) ∧ (∀ z, in8 (X.w z)) ∧ (∀ a, (X.N n).one = some a → ∀ z, z < (X.N a).ce → in8 (X.ce (128 * stS X.N a + z))) ∧ (∀ a, (X.N n).two = some a → ∀ z, z < (X.N a).ce → in8 (X.ce (128 * stS X.N a + z)))
/-- an input of a node, and what stands for it -/
theorem vOK.s {X : rX} {n a : Nat} (k : vOK X n) (ha : a < X.no) : stS X.N a ≤ a ∧ ((X.N a).h = (X.N (stS X.N a)).h ∧ (X.N a).w = (X.N (stS X.N a)).w ∧ (X.N a).c = (X.N (stS X.N a)).c) ∧ (X.N a).ce = (X.N (stS X.N a)).ce ∧ (X.N a).sc = (X.N (stS X.N a)).sc := by
  have h1 := stS_sh k.1.2.2.1 a ha
  have h2 := shq_ce h1.1
  exact ⟨stS_le (wfN.inn k.1.2.2.1) a ha, h2.1, h2.2, h1.2⟩
theorem vR_o {X : rX} {n a j : Nat} (k : vOK X n) (ho : (X.N n).one = some a) (ha : a < X.no) : vR X n j = vNode (X.N n) (X.N (stS X.N a)) X.w (ratA X.N n) (ratB X.N n) (fun z => X.fe (128 * n + z)) (fun z => X.ce (128 * stS X.N a + z)) (caR X (X.N n).two) j := by
  obtain ⟨-, ⟨h1, h2, h3⟩, -⟩ := k.s ha
  unfold vR vI srcO
  rw [ho]
  show vNode (X.N n) (X.N a) _ _ _ _ (fun z => X.ce (128 * stS X.N a + z)) _ j = _
  exact vNode_sh h1 h2 h3
theorem w1_eq {X : rX} {n a y x ch : Nat} (K : rwK X n a y x) (hw : ∀ z, in8 (X.w z)) (hf : ∀ z, z < (X.N a).ce → in8 (X.ce (128 * a + z))) (b : Nat) : itr (jst (gOf (X.N n) (X.N a)) y x (w1S X (gOf (X.N n) (X.N a)) n a y x ch)) ((gOf (X.N n) (X.N a)).k * (gOf (X.N n) (X.N a)).k) 0 0 + 16 * (X.w b).toInt64 = (16 * X.w b + itw (gOf (X.N n) (X.N a)) y x (g_all (gOf (X.N n) (X.N a)) y x 0 (X.N n).off ch (X.N a).c (X.N a).w (fun z => X.ce (128 * a + z)) X.w) 0).toInt64 := by
  have hk := K.b.2.2.1.1
  obtain ⟨-, ⟨q1, q2⟩, q3, q4⟩ := K.w
  have bac := K.2.2.1.2.1.2.2.2.1
  rw [jst_itw (by omega)]
  refine sRel.done0 (in8_a (hw b)) (B := 16 * 131072) (by omega) (itw_sum (Nat.le_refl _) (by omega) (by omega) (fun r c s S B h1 h2 h3 h4 hB hs => ?_))
  unfold g_all w1S
  have h := itr_rel (P := fun i (s : Int32) (S : Int64) => sRel 0 (B + i * 16384) s S) (s := fun i s => s + X.ce (128 * a + (0 + ((r * (X.N a).w + c) * (X.N a).c + i))) * X.w ((X.N n).off + (w_tap (gOf (X.N n) (X.N a)) y x ch r c * (X.N a).c + i))) (t := fun i S => S + (X.ce (128 * a + (r * (X.N a).w + c) * (X.N a).c + i) * X.w ((X.N n).off + (w_tap (gOf (X.N n) (X.N a)) y x ch r c * (X.N a).c + i))).toInt64) (X.N a).c 0 s S (by rw [Nat.zero_mul]; exact hs) (fun i s S h5 h6 hs => by
    have hix := ix3 (A := (X.N a).h) (a := r) (B := (X.N a).w) (b := c) (C := (X.N a).c) (c := i) (by omega) (by omega) (by omega)
    have e := hs.step (by decide) (by omega) (in8_a (hf _ hix)) (in8_a (hw ((X.N n).off + (w_tap (gOf (X.N n) (X.N a)) y x ch r c * (X.N a).c + i))))
    rw [Nat.zero_add, Nat.add_assoc (128 * a)]
    exact e.mono (by omega))
  exact h.mono (by omega)
theorem w2_eq {X : rX} {n a y x ch : Nat} (K : rwK X n a y x) (hc : ch < (X.N a).c) (hw : ∀ z, in8 (X.w z)) (hf : ∀ z, z < (X.N a).ce → in8 (X.ce (128 * a + z))) (b : Nat) : itr (jst (gOf (X.N n) (X.N a)) y x (w2S X (gOf (X.N n) (X.N a)) n a y x ch)) ((gOf (X.N n) (X.N a)).k * (gOf (X.N n) (X.N a)).k) 0 0 + 16 * (X.w b).toInt64 = (16 * X.w b + itw (gOf (X.N n) (X.N a)) y x (fun r c s => s + X.ce (128 * a + (0 + ((r * (X.N a).w + c) * (X.N a).c + ch))) * X.w ((X.N n).off + w_tap (gOf (X.N n) (X.N a)) y x ch r c)) 0).toInt64 := by
  have hk := K.b.2.2.1.1
  obtain ⟨-, ⟨q1, q2⟩, q3, q4⟩ := K.w
  rw [jst_itw (by omega)]
  refine sRel.done0 (in8_a (hw b)) (B := 16 * 16384) (by omega) (itw_sum (by omega) (by omega) (by omega) (fun r c s S B h1 h2 h3 h4 hB hs => ?_))
  unfold w2S
  have hix := ix3 (A := (X.N a).h) (a := r) (B := (X.N a).w) (b := c) (C := (X.N a).c) (c := ch) (by omega) (by omega) hc
  have e := hs.step (by decide) (by omega) (in8_a (hf _ hix)) (in8_a (hw ((X.N n).off + w_tap (gOf (X.N n) (X.N a)) y x ch r c)))
  rw [Nat.zero_add, Nat.add_assoc (128 * a)]
  exact e
theorem itw_first {α : Type} {g : wP} {y x : Nat} {s : Nat → Nat → α → α} {a b : α} (hr : w_r0 g y < w_r1 g y) (hc : w_c0 g x < w_c1 g x) (h : s (w_r0 g y) (w_c0 g x) a = s (w_r0 g y) (w_c0 g x) b) : itw g y x s a = itw g y x s b := by
  obtain ⟨k1, e1⟩ : ∃ k1, w_r1 g y - w_r0 g y = k1 + 1 := ⟨w_r1 g y - w_r0 g y - 1, by omega⟩
  obtain ⟨k2, e2⟩ : ∃ k2, w_c1 g x - w_c0 g x = k2 + 1 := ⟨w_c1 g x - w_c0 g x - 1, by omega⟩
  unfold itw
  rw [e1, e2]
  show itr _ k1 _ (itr (s (w_r0 g y)) k2 _ (s (w_r0 g y) (w_c0 g x) a)) = itr _ k1 _ (itr (s (w_r0 g y)) k2 _ (s (w_r0 g y) (w_c0 g x) b))
  rw [h]
/-- the greatest, the sum, the number of a window's cells -/
theorem po_eq {X : rX} {n a y x ch : Nat} (K : rwK X n a y x) (hc : ch < (X.N a).c) (hf : ∀ z, z < (X.N a).ce → in8 (X.ce (128 * a + z))) (q : Int32 × Int32 × Nat) (hq : q = itr (jst (gOf (X.N n) (X.N a)) y x (poS X a ch)) ((gOf (X.N n) (X.N a)).k * (gOf (X.N n) (X.N a)).k) 0 (-129, 0, 0)) :
    (1 ≤ q.2.2 ∧ q.2.2 ≤ 9) ∧ q.1 = itw (gOf (X.N n) (X.N a)) y x (fun r c s => i_max s (X.ce (128 * a + (0 + ((r * (X.N a).w + c) * (X.N a).c + ch))))) (-128) ∧ q.2 = itw (gOf (X.N n) (X.N a)) y x (fun r c q => (q.1 + X.ce (128 * a + (0 + ((r * (X.N a).w + c) * (X.N a).c + ch))), q.2 + 1)) ((0, 0) : Int32 × Nat) ∧ (-1000000 ≤ q.2.1.toInt ∧ q.2.1.toInt ≤ 1000000) := by
  have hk := K.b.2.2.1.1
  obtain ⟨⟨p1, p2⟩, ⟨q1, q2⟩, q3, q4⟩ := K.w
  rw [jst_itw (by omega)] at hq
  have ei : ∀ r c, 128 * a + (0 + ((r * (X.N a).w + c) * (X.N a).c + ch)) = 128 * a + (r * (X.N a).w + c) * (X.N a).c + ch := fun r c => by omega
  have e2 : q.2 = itw (gOf (X.N n) (X.N a)) y x (fun r c q => (q.1 + X.ce (128 * a + (0 + ((r * (X.N a).w + c) * (X.N a).c + ch))), q.2 + 1)) ((0, 0) : Int32 × Nat) := by
    rw [hq]
    exact itw_fst (φ := fun q : Int32 × Int32 × Nat => q.2) (fun r c q => by rw [ei]; rfl) (-129, 0, 0)
  have ec : q.2.2 = (w_r1 (gOf (X.N n) (X.N a)) y - w_r0 (gOf (X.N n) (X.N a)) y) * (w_c1 (gOf (X.N n) (X.N a)) x - w_c0 (gOf (X.N n) (X.N a)) x) := by
    rw [e2]
    exact itw_cnt (fun r c q => rfl) 0
  have hcn : 1 ≤ q.2.2 ∧ q.2.2 ≤ 9 := by
    rw [ec]
    constructor
    · exact Nat.mul_pos (by omega) (by omega)
    · exact Nat.mul_le_mul q3 q4
  have hix : ∀ r c, r < w_r1 (gOf (X.N n) (X.N a)) y → c < w_c1 (gOf (X.N n) (X.N a)) x → in8 (X.ce (128 * a + (0 + ((r * (X.N a).w + c) * (X.N a).c + ch)))) := fun r c h1 h2 => by
    rw [Nat.zero_add]
    exact hf _ (ix3 (A := (X.N a).h) (by omega) (by omega) hc)
  have e1 : q.1 = itw (gOf (X.N n) (X.N a)) y x (fun r c s => i_max s (X.ce (128 * a + (0 + ((r * (X.N a).w + c) * (X.N a).c + ch))))) (-129) := by
    rw [hq]
    exact itw_fst (φ := fun q : Int32 × Int32 × Nat => q.1) (fun r c q => by rw [ei]; rfl) (-129, 0, 0)
  have e3 : q.2.1 = itw (gOf (X.N n) (X.N a)) y x (fun r c s => s + X.ce (128 * a + (0 + ((r * (X.N a).w + c) * (X.N a).c + ch))) * 1) 0 := by
    rw [e2]
    exact itw_fst (φ := fun q : Int32 × Nat => q.1) (fun r c q => by rw [Int32.mul_one]) (0, 0)
  have hb : (itw (gOf (X.N n) (X.N a)) y x (fun r c s => s + X.ce (128 * a + (0 + ((r * (X.N a).w + c) * (X.N a).c + ch))) * 1) 0).toInt.natAbs ≤ 16 * 16384 := (itw_sum (t := fun r c S => S + (X.ce (128 * a + (0 + ((r * (X.N a).w + c) * (X.N a).c + ch))) * 1).toInt64) (C := 16384) (by omega) (by omega) (by omega) (fun r c s S B h1 h2 h3 h4 hB hs => hs.step (by decide) (by omega) (in8_a (hix r c h2 h4)) (by decide))).2
  refine ⟨hcn, ?_, e2, ?_⟩
  · rw [e1]
    refine itw_first p1 p2 ?_
    have h8 := (hix _ _ p1 p2).1
    generalize X.ce (128 * a + (0 + ((w_r0 (gOf (X.N n) (X.N a)) y * (X.N a).w + w_c0 (gOf (X.N n) (X.N a)) x) * (X.N a).c + ch))) = v at h8
    unfold i_max
    rw [if_pos (Int32.lt_of_lt_of_le (by decide) h8)]
    by_cases h4 : (-128 : Int32) < v
    · rw [if_pos h4]
    · rw [if_neg h4]
      exact Int32.le_antisymm (Int32.not_lt.mp h4) h8
  · rw [e3]
    omega
