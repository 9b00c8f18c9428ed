/-! the reference's windows: every place of the square, those outside left out -/
theorem itr_shift {α : Type} {s : Nat → α → α} {d : Nat} : ∀ (k i : Nat) (a : α), itr (fun q a => s (q + d) a) k i a = itr s k (i + d) a := by
  intro k
  induction k with
  | zero => intro i a; rfl
  | succ k ih =>
    intro i a
    show itr _ k (i + 1) (s (i + d) a) = itr s k (i + d + 1) (s (i + d) a)
    rw [ih, show i + 1 + d = i + d + 1 by omega]
theorem itr_win {α : Type} {s : Nat → α → α} {B b W : Nat} (k : Nat) (a : α) : itr (fun q a => if b ≤ B + q ∧ B + q - b < W then s (B + q - b) a else a) k 0 a = itr s (min (B + k - b) W - (B - b)) (B - b) a := by
  by_cases h0 : B + k ≤ b
  · rw [show min (B + k - b) W - (B - b) = 0 by omega]
    exact itr_skip _ _ _ (fun j _ h2 a => if_neg (by omega))
  · by_cases h1 : W ≤ B - b
    · rw [show min (B + k - b) W - (B - b) = 0 by omega]
      exact itr_skip _ _ _ (fun j _ h2 a => if_neg (by omega))
    · have e : k = (b - B) + ((min (B + k - b) W - (B - b)) + (k - (b - B) - (min (B + k - b) W - (B - b)))) := by omega
      conv => lhs; rw [e]
      rw [itr_app, itr_app, itr_skip (b - B) 0 a (fun j _ h2 a => if_neg (by omega))]
      rw [itr_skip (k - (b - B) - (min (B + k - b) W - (B - b))) _ _ (fun j h2 h3 a => if_neg (by omega))]
      by_cases hb : b ≤ B
      · rw [show b - B = 0 by omega]
        have e2 := itr_shift (s := s) (d := B - b) (min (B + k - b) W - (B - b)) 0 a
        rw [show 0 + (B - b) = B - b by omega] at e2
        rw [← e2]
        refine itr_congr (fun j h2 h3 a => ?_)
        rw [if_pos (by omega), show B + j - b = j + (B - b) by omega]
      · have e2 : itr s (min (B + k - b) W - (B - b)) (B - b) a = itr (fun q a => s (q + 0) a) (min (B + k - b) W - (B - b)) 0 a := by rw [itr_shift]; rw [show B - b = 0 by omega]
        rw [e2]
        have e3 := itr_shift (s := fun q a => if b ≤ B + q ∧ B + q - b < W then s (B + q - b) a else a) (d := b - B) (min (B + k - b) W - (B - b)) 0 a
        rw [← e3]
        refine itr_congr (fun j h2 h3 a => ?_)
        rw [if_pos (by omega), show B + (j + (b - B)) - b = j + 0 by omega]
theorem itr_mul {α : Type} {s : Nat → α → α} {K : Nat} (_ : 0 < K) : ∀ (p i : Nat) (a : α), itr s (p * K) (i * K) a = itr (fun r a => itr (fun q a => s (r * K + q) a) K 0 a) p i a := by
  intro p
  induction p with
  | zero => intro i a; rw [Nat.zero_mul]; rfl
  | succ p ih =>
    intro i a
    rw [show (p + 1) * K = K + p * K by rw [Nat.succ_mul, Nat.add_comm], itr_app]
    show _ = itr _ p (i + 1) (itr (fun q a => s (i * K + q) a) K 0 a)
    rw [← ih (i + 1), show i * K + K = (i + 1) * K by rw [Nat.succ_mul]]
    congr 1
    have := itr_shift (s := s) (d := i * K) K 0 a
    rw [Nat.zero_add] at this
    rw [← this]
    exact itr_congr (fun j _ _ a => by rw [Nat.add_comm])
/-- one place of the square -/
def jst {α : Type} (g : wP) (y x : Nat) (s : Nat → Nat → α → α) (j : Nat) (a : α) : α := if (g.rb ≤ y * g.sp + j / g.k ∧ y * g.sp + j / g.k - g.rb < g.oh) ∧ (g.cb ≤ x * g.sp + j % g.k ∧ x * g.sp + j % g.k - g.cb < g.ow) then s (y * g.sp + j / g.k - g.rb) (x * g.sp + j % g.k - g.cb) a else a
theorem jst_itw {α : Type} {g : wP} {y x : Nat} {s : Nat → Nat → α → α} (hk : 0 < g.k) (a : α) : itr (jst g y x s) (g.k * g.k) 0 a = itw g y x s a := by
  have e := itr_mul (s := jst g y x s) hk g.k 0 a
  rw [Nat.zero_mul] at e
  rw [e]
  unfold itw w_r0 w_r1 w_c0 w_c1
  rw [← itr_win (B := y * g.sp) (b := g.rb) (W := g.oh) g.k a]
  refine itr_congr (fun p _ hp a => ?_)
  have d1 : ∀ q, q < g.k → (p * g.k + q) / g.k = p := fun q hq => by rw [Nat.mul_comm, Nat.mul_add_div hk, Nat.div_eq_of_lt hq, Nat.add_zero]
  have d2 : ∀ q, q < g.k → (p * g.k + q) % g.k = q := fun q hq => by rw [Nat.mul_comm, Nat.mul_add_mod, Nat.mod_eq_of_lt hq]
  by_cases hr : g.rb ≤ y * g.sp + p ∧ y * g.sp + p - g.rb < g.oh
  · rw [if_pos hr, ← itr_win (B := x * g.sp) (b := g.cb) (W := g.ow) g.k a]
    refine itr_congr (fun q _ hq a => ?_)
    unfold jst
    rw [d1 q (by omega), d2 q (by omega)]
    by_cases hc : g.cb ≤ x * g.sp + q ∧ x * g.sp + q - g.cb < g.ow
    · rw [if_pos ⟨hr, hc⟩, if_pos hc]
    · rw [if_neg (fun z => hc z.2), if_neg hc]
  · rw [if_neg hr]
    refine itr_skip _ _ _ (fun q _ hq a => ?_)
    unfold jst
    rw [d1 q (by omega), d2 q (by omega), if_neg (fun z => hr z.1)]
theorem itr_rel {α β : Type} {P : Nat → α → β → Prop} {s : Nat → α → α} {t : Nat → β → β} : ∀ (k i : Nat) (a : α) (b : β), P i a b → (∀ j a b, i ≤ j → j < i + k → P j a b → P (j + 1) (s j a) (t j b)) → P (i + k) (itr s k i a) (itr t k i b) := by
  intro k
  induction k with
  | zero => intro i a b h _; exact h
  | succ k ih =>
    intro i a b h hs
    have := ih (i + 1) (s i a) (t i b) (hs i a b (Nat.le_refl _) (by omega) h) (fun j a b h1 h2 => hs j a b (by omega) (by omega))
    rw [show i + (k + 1) = i + 1 + k by omega]
    exact this
/-- an int sum from c on and a long sum from 0 on -/
def sRel (c : Int) (B : Nat) (s : Int32) (S : Int64) : Prop := S.toInt + c = s.toInt ∧ s.toInt.natAbs ≤ B
theorem sRel.step {c : Int} {B : Nat} {s : Int32} {S : Int64} (h : sRel c B s S) (hc : c.natAbs ≤ 2048) (hB : B ≤ 4000000) {f w : Int32} (hf : f.toInt.natAbs ≤ 128) (hw : w.toInt.natAbs ≤ 128) : sRel c (B + 16384) (s + f * w) (S + (f * w).toInt64) := by
  have hp : (f.toInt * w.toInt).natAbs ≤ 16384 := by
    rw [Int.natAbs_mul]
    exact Nat.le_trans (Nat.mul_le_mul hf hw) (by omega)
  have e1 := i_mul (a := f) (b := w) rfl rfl (by omega)
  obtain ⟨h1, h2⟩ := h
  have e2 := i_add (a := s) rfl e1 (by omega)
  have e3 := l_add (a := S) rfl ((Int32.toInt_toInt64 (f * w)).trans e1) (by omega)
  exact ⟨by rw [e2, e3]; omega, by rw [e2]; omega⟩
theorem sRel.mono {c : Int} {B B' : Nat} {s : Int32} {S : Int64} (h : sRel c B s S) (hB : B ≤ B') : sRel c B' s S := ⟨h.1, Nat.le_trans h.2 hB⟩
theorem sRel.start {w : Int32} (hw : w.toInt.natAbs ≤ 128) : sRel (16 * w.toInt) 2048 (16 * w) 0 := by
  have e := i_mul (a := 16) (b := w) (show (16 : Int32).toInt = 16 from rfl) rfl (by omega)
  exact ⟨by rw [e, show (0 : Int64).toInt = 0 from rfl]; omega, by rw [e]; omega⟩
theorem sRel.done {w : Int32} (hw : w.toInt.natAbs ≤ 128) {B : Nat} (hB : B ≤ 4000000) {s : Int32} {S : Int64} (h : sRel (16 * w.toInt) B s S) : S + 16 * w.toInt64 = s.toInt64 := by
  have e := l_mul (a := 16) (b := w.toInt64) (show (16 : Int64).toInt = 16 from rfl) (Int32.toInt_toInt64 w) (by omega)
  obtain ⟨h1, h2⟩ := h
  rw [← Int64.toInt_inj, l_add (a := S) rfl e (by omega), Int32.toInt_toInt64]
  omega
theorem sRel.zero : sRel 0 0 0 0 := ⟨rfl, Nat.le_refl _⟩
theorem sRel.done0 {w : Int32} (hw : w.toInt.natAbs ≤ 128) {B : Nat} (hB : B ≤ 4000000) {s : Int32} {S : Int64} (h : sRel 0 B s S) : S + 16 * w.toInt64 = (16 * w + s).toInt64 := by
  have e := l_mul (a := 16) (b := w.toInt64) (show (16 : Int64).toInt = 16 from rfl) (Int32.toInt_toInt64 w) (by omega)
  have e2 := i_mul (a := 16) (b := w) (show (16 : Int32).toInt = 16 from rfl) rfl (by omega)
  obtain ⟨h1, h2⟩ := h
  rw [← Int64.toInt_inj, l_add (a := S) rfl e (by omega), Int32.toInt_toInt64, i_add e2 rfl (by omega)]
  omega
theorem in8_abs {x : Int32} (h : -128 ≤ x ∧ x ≤ 127) : x.toInt.natAbs ≤ 128 := by
  have h1 := h.1
  have h2 := h.2
  rw [Int32.le_iff_toInt_le] at h1 h2
  have e1 : (-128 : Int32).toInt = -128 := rfl
  have e2 : (127 : Int32).toInt = 127 := rfl
  omega
/-- the greatest from -128 on, and from -129 on, when there is one -/
theorem itr_max {f : Nat → Int32} : ∀ (k i : Nat) (s t : Int32), (s = t ∨ (s = -128 ∧ t = -129)) → (∀ j, i ≤ j → j < i + k → -128 ≤ f j) → (itr (fun j s => if s < f j then f j else s) k i s = itr (fun j s => if s < f j then f j else s) k i t ∨ (k = 0 ∧ s = -128 ∧ t = -129)) := by
  intro k
  induction k with
  | zero =>
    intro i s t h _
    rcases h with h | h
    · exact Or.inl h
    · exact Or.inr ⟨rfl, h⟩
  | succ k ih =>
    intro i s t h hf
    have hfi := hf i (Nat.le_refl _) (by omega)
    have hs : (if s < f i then f i else s) = (if t < f i then f i else t) := by
      rcases h with h | ⟨h1, h2⟩
      · rw [h]
      · subst h1 h2
        have h3 : (-129 : Int32) < f i := Int32.lt_of_lt_of_le (by decide) hfi
        rw [if_pos h3]
        by_cases h4 : (-128 : Int32) < f i
        · rw [if_pos h4]
        · rw [if_neg h4]
          exact Int32.le_antisymm hfi (Int32.not_lt.mp h4)
    left
    show itr _ k (i + 1) (if s < f i then f i else s) = itr _ k (i + 1) (if t < f i then f i else t)
    rw [hs]
