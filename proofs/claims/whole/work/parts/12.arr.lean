/-! loops that store: one shape -/
/-- for i below k: f (t + i) becomes g i of what is there -/
def itf (g : Nat → (Nat → Int32) → Int32) (t : Nat) : Nat → (Nat → Int32) → (Nat → Int32)
  | 0, f => f
  | k + 1, f => upd (itf g t k f) (t + k) (g k (itf g t k f))
theorem itf_0 {g : Nat → (Nat → Int32) → Int32} {t : Nat} {f : Nat → Int32} : itf g t 0 f = f := rfl
theorem itf_s {g : Nat → (Nat → Int32) → Int32} {t k : Nat} {f : Nat → Int32} : itf g t (k + 1) f = upd (itf g t k f) (t + k) (g k (itf g t k f)) := rfl
theorem inc1 (i : Nat) : nI i + Int32.ofInt 1 = nI (i + 1) := nI_1 i
theorem c_J_fill (a N : Nat) (f : Nat → Int32) (v : Int32) (h : rk_H) (ha : h a = some (iA N f)) (hN : N < 2 ^ 31) : rk_Con mJ_fill (0, 0, 0, 0) [.ref a, .int v] h (rk_R0 (rk_up h a (iA N (itf (fun _ _ => v) 0 N f)))) := by
  have loop : ∀ (k i : Nat), i + k = N → rk_Run mJ_fill (0, 0, 0, 0) (rk_R0 (rk_up h a (iA N (itf (fun _ _ => v) 0 N f)))) 5 [some (.ref a), some (.int v), some (.int (nI i)), some (.int (nI N))] [] (rk_up h a (iA N (itf (fun _ _ => v) 0 i f))) (0, 0) := by
    intro k
    induction k with
    | zero =>
      intro i hi
      have hi : i = N := by omega
      subst hi
      refine rk_iload_n dJ_fill_5 rfl ?_
      refine rk_iload_n dJ_fill_6 rfl ?_
      refine rk_icmp_ge 20 dJ_fill_7 (by decide) (fun q_7 => ?_) (fun q_7 => ?_)
      · exact rk_ret rfl dJ_fill_20 ⟨(Nat.le_of_ble_eq_true rfl), (Nat.le_of_ble_eq_true rfl)⟩ (⟨rfl, rfl⟩)
      · exact absurd (nI_le (Nat.le_refl _) hN) q_7
    | succ k ih =>
      intro i hi
      refine rk_iload_n dJ_fill_5 rfl ?_
      refine rk_iload_n dJ_fill_6 rfl ?_
      refine rk_icmp_ge 20 dJ_fill_7 (by decide) (fun q_7 => ?_) (fun q_7 => ?_)
      · exact absurd q_7 (nI_ge (by omega) (by omega))
      · refine rk_aload_n dJ_fill_10 rfl ?_
        refine rk_iload_n dJ_fill_11 rfl ?_
        refine rk_iload_n dJ_fill_12 rfl ?_
        refine rk_iast dJ_fill_13 (by first | assumption | (simp only [rk_up_s]; first | rfl)) (vp_in_nI (show i < N by omega) hN) ?_
        refine rk_iinc dJ_fill_14 rfl (inc1 i) (Nat.le_of_ble_eq_true rfl) ?_
        refine rk_goto 5 dJ_fill_17 (by decide) ?_
        rw [rk_up_up, nI_clamp (by omega)]
        refine rk_lv [some (.ref a), some (.int v), some (.int (nI (i + 1))), some (.int (nI N))] ⟨rfl, rfl, rfl, rfl, trivial⟩ ?_
        have e := ih (i + 1) (by omega)
        rw [itf_s, Nat.zero_add] at e
        exact e
  refine rk_Con.of [some (.ref a), some (.int v), none, none] rfl (Nat.le_of_ble_eq_true rfl) (by decide +kernel) ?_
  refine rk_iconst (v := 0) dJ_fill_0 (by decide) ?_
  refine rk_istore_n dJ_fill_1 (Nat.le_of_ble_eq_true rfl) ?_
  refine rk_aload_n dJ_fill_2 rfl ?_
  refine rk_alen (kd := 0) (by decide) dJ_fill_3 (by first | exact ha | assumption) ?_
  refine rk_istore_n dJ_fill_4 (Nat.le_of_ble_eq_true rfl) ?_
  refine rk_lv [some (.ref a), some (.int v), some (.int (nI 0)), some (.int (nI N))] ⟨rfl, rfl, rfl, rfl, trivial⟩ ?_
  have e := loop N 0 (by omega)
  rw [itf_0, rk_up_id ha] at e
  exact e
