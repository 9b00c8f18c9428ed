/-! the reference's values are the class's -/
theorem scR_by {r : UInt64} (hr : d_good r = true) (x : Int32) : s_cut (scR r x.toInt64) = s_by r x := by
  unfold scR s_by
  rw [hv_scl hr]
theorem in8_a {x : Int32} (h : in8 x) : x.toInt.natAbs ≤ 128 := in8_abs h
theorem dnL_eq {X : rX} {n a ch : Nat} (hw : ∀ z, in8 (X.w z)) (hf : ∀ z, z < (X.N a).ce → in8 (X.ce (128 * a + z))) (hce : (X.N a).ce ≤ 128) : dnL X n a ch = (g_con 0 (X.N n).off (X.N a).ce (X.N n).c X.w ch (fun z => X.ce (128 * a + z))).toInt64 := by
  have hb := in8_a (hw ((X.N n).off + (X.N n).c * (X.N a).ce + ch))
  have h := itr_rel (P := fun j (s : Int32) (S : Int64) => sRel (16 * (X.w ((X.N n).off + (X.N n).c * (X.N a).ce + ch)).toInt) (2048 + j * 16384) s S) (s := fun j s => s + X.ce (128 * a + (0 + j)) * X.w ((X.N n).off + ch * (X.N a).ce + j)) (t := fun j S => S + (X.ce (128 * a + j) * X.w ((X.N n).off + ch * (X.N a).ce + j)).toInt64) (X.N a).ce 0 (16 * X.w ((X.N n).off + (X.N n).c * (X.N a).ce + ch)) 0 (by have := sRel.start hb; exact this.mono (by omega)) (fun j s S h1 h2 hr => by
    have e := hr.step (by omega) (by omega) (in8_a (hf j (by omega))) (in8_a (hw ((X.N n).off + ch * (X.N a).ce + j)))
    rw [Nat.zero_add]
    exact e.mono (by omega))
  exact sRel.done hb (by omega) h
theorem itw_sum {g : wP} {y x : Nat} {s : Nat → Nat → Int32 → Int32} {t : Nat → Nat → Int64 → Int64} {C : Nat} (hC : C ≤ 131072) (hr : w_r1 g y - w_r0 g y ≤ 4) (hc : w_c1 g x - w_c0 g x ≤ 4) (hs : ∀ r c a b B, w_r0 g y ≤ r → r < w_r1 g y → w_c0 g x ≤ c → c < w_c1 g x → B ≤ 2500000 → sRel 0 B a b → sRel 0 (B + C) (s r c a) (t r c b)) : sRel 0 (16 * C) (itw g y x s 0) (itw g y x t 0) := by
  unfold itw
  have h := itr_rel (P := fun r (a : Int32) (b : Int64) => sRel 0 ((r - w_r0 g y) * (4 * C)) a b) (s := fun r a => itr (s r) (w_c1 g x - w_c0 g x) (w_c0 g x) a) (t := fun r a => itr (t r) (w_c1 g x - w_c0 g x) (w_c0 g x) a) (w_r1 g y - w_r0 g y) (w_r0 g y) 0 0 (by rw [Nat.sub_self, Nat.zero_mul]; exact sRel.zero) (fun r a b h1 h2 hab => by
    have m1 : (r - w_r0 g y) * (4 * C) ≤ 3 * (4 * C) := Nat.mul_le_mul_right _ (by omega)
    have h3 := itr_rel (P := fun c (a : Int32) (b : Int64) => sRel 0 ((r - w_r0 g y) * (4 * C) + (c - w_c0 g x) * C) a b) (s := s r) (t := t r) (w_c1 g x - w_c0 g x) (w_c0 g x) a b (by rw [Nat.sub_self, Nat.zero_mul]; exact hab) (fun c a b h4 h5 hab => by
      have m2 : (c - w_c0 g x) * C ≤ 3 * C := Nat.mul_le_mul_right _ (by omega)
      have e := hs r c a b _ h1 (by omega) h4 (by omega) (by omega) hab
      refine e.mono ?_
      rw [show c + 1 - w_c0 g x = (c - w_c0 g x) + 1 by omega, Nat.succ_mul (c - w_c0 g x) C]
      omega)
    refine h3.mono ?_
    have m3 : (w_c0 g x + (w_c1 g x - w_c0 g x) - w_c0 g x) * C ≤ 4 * C := Nat.mul_le_mul_right _ (by omega)
    rw [show r + 1 - w_r0 g y = (r - w_r0 g y) + 1 by omega, Nat.succ_mul (r - w_r0 g y) (4 * C)]
    omega)
  refine h.mono ?_
  have : (w_r0 g y + (w_r1 g y - w_r0 g y) - w_r0 g y) * (4 * C) ≤ 4 * (4 * C) := Nat.mul_le_mul_right _ (by omega)
  omega
/-- a window's bounds -/
theorem rwK.w {X : rX} {n a y x : Nat} (K : rwK X n a y x) : (w_r0 (gOf (X.N n) (X.N a)) y < w_r1 (gOf (X.N n) (X.N a)) y ∧ w_c0 (gOf (X.N n) (X.N a)) x < w_c1 (gOf (X.N n) (X.N a)) x) ∧ (w_r1 (gOf (X.N n) (X.N a)) y ≤ (X.N a).h ∧ w_c1 (gOf (X.N n) (X.N a)) x ≤ (X.N a).w) ∧ (w_r1 (gOf (X.N n) (X.N a)) y - w_r0 (gOf (X.N n) (X.N a)) y ≤ 3 ∧ w_c1 (gOf (X.N n) (X.N a)) x - w_c0 (gOf (X.N n) (X.N a)) x ≤ 3) := by
  obtain ⟨-, ⟨⟨⟨c0, g1, g2, g3, g4⟩, g5, g6, -⟩, -⟩, ⟨bn, ba⟩, -, hy, hx⟩ := id K
  obtain ⟨-, -, ⟨k1, k3⟩, -⟩ := K.b
  have y1 : y * z_step (X.N n).co ≤ ((X.N n).h - 1) * z_step (X.N n).co := Nat.mul_le_mul_right _ (by omega)
  have x1 : x * z_step (X.N n).co ≤ ((X.N n).w - 1) * z_step (X.N n).co := Nat.mul_le_mul_right _ (by omega)
  have er : (gOf (X.N n) (X.N a)).rb = (((X.N n).h - 1) * z_step (X.N n).co + z_size (X.N n).co - (X.N a).h) / 2 := rfl
  have ec : (gOf (X.N n) (X.N a)).cb = (((X.N n).w - 1) * z_step (X.N n).co + z_size (X.N n).co - (X.N a).w) / 2 := rfl
  have ek : (gOf (X.N n) (X.N a)).k = z_size (X.N n).co := rfl
  have es : (gOf (X.N n) (X.N a)).sp = z_step (X.N n).co := rfl
  have eo : (gOf (X.N n) (X.N a)).oh = (X.N a).h := rfl
  have ew : (gOf (X.N n) (X.N a)).ow = (X.N a).w := rfl
  unfold w_r0 w_r1 w_c0 w_c1
  rw [er, ec, ek, es, eo, ew]
  have k1' : 1 ≤ z_size (X.N n).co := k1
  have k3' : z_size (X.N n).co ≤ 3 := k3
  clear er ec ek es eo ew k1 k3 K
  generalize y * z_step (X.N n).co = Y at *
  generalize x * z_step (X.N n).co = Z at *
  generalize ((X.N n).h - 1) * z_step (X.N n).co = H at *
  generalize ((X.N n).w - 1) * z_step (X.N n).co = W at *
  generalize z_size (X.N n).co = k at *
  omega
theorem itw_fst {α β : Type} {g : wP} {y x : Nat} {s : Nat → Nat → α → α} {t : Nat → Nat → β → β} {φ : α → β} (h : ∀ r c a, φ (s r c a) = t r c (φ a)) (a : α) : φ (itw g y x s a) = itw g y x t (φ a) := by
  have key : ∀ {s : Nat → α → α} {t : Nat → β → β} (_ : ∀ r a, φ (s r a) = t r (φ a)) (k i : Nat) (a : α), φ (itr s k i a) = itr t k i (φ a) := by
    intro s t h k
    induction k with
    | zero => intro i a; rfl
    | succ k ih => intro i a; show φ (itr s k (i + 1) (s i a)) = itr t k (i + 1) (t i (φ a)); rw [ih, h]
  unfold itw
  exact key (fun r a => key (h r) _ _ _) _ _ _
theorem itw_cnt {α : Type} {g : wP} {y x : Nat} {s : Nat → Nat → α × Nat → α × Nat} (h : ∀ r c q, (s r c q).2 = q.2 + 1) (a : α) : (itw g y x s (a, 0)).2 = (w_r1 g y - w_r0 g y) * (w_c1 g x - w_c0 g x) := by
  have k1 : ∀ (t : Nat → α × Nat → α × Nat) (d : Nat), (∀ c q, (t c q).2 = q.2 + d) → ∀ (k i : Nat) (q : α × Nat), (itr t k i q).2 = q.2 + k * d := by
    intro t d ht k
    induction k with
    | zero => intro i q; show q.2 = _; omega
    | succ k ih => intro i q; show (itr t k (i + 1) (t i q)).2 = _; rw [ih, ht, Nat.succ_mul]; omega
  unfold itw
  rw [k1 _ (w_c1 g x - w_c0 g x) (fun r q => by rw [k1 (s r) 1 (h r)]; omega)]
  show 0 + _ = _
  omega
