/-! the reference's constructor -/
theorem ovl_none {L : List (Nat × rk_E)} {b : rk_H} {z : Nat} (h : ovl L b z = none) : z ∉ L.map Prod.fst ∧ b z = none := by
  induction L with
  | nil => exact ⟨(by intro q; cases q), h⟩
  | cons p L ih =>
    obtain ⟨h1, h2⟩ := new_fr (show rk_up (ovl L b) p.1 p.2 z = none from h)
    obtain ⟨h3, h4⟩ := ih h2
    refine ⟨?_, h4⟩
    rw [List.map_cons, List.mem_cons]
    rintro (q | q)
    · exact h1 q.symm
    · exact h3 q
theorem ovl_mem {L : List (Nat × rk_E)} {b : rk_H} (hn : (L.map Prod.fst).Nodup) {p : Nat × rk_E} (h : p ∈ L) : ovl L b p.1 = some p.2 := by
  obtain ⟨i, hi⟩ := List.mem_iff_getElem?.mp h
  exact ovl_at hn i hi
theorem ovl_perm {L L' : List (Nat × rk_E)} {b : rk_H} (hn : (L.map Prod.fst).Nodup) (hn' : (L'.map Prod.fst).Nodup) (h : ∀ p, p ∈ L ↔ p ∈ L') : ovl L b = ovl L' b := by
  funext z
  by_cases hz : ∃ p, p ∈ L ∧ p.1 = z
  · obtain ⟨p, hp, rfl⟩ := hz
    rw [ovl_mem hn hp, ovl_mem hn' ((h p).mp hp)]
  · rw [ovl_off (fun q hq e => hz ⟨q, hq, e⟩), ovl_off (fun q hq e => hz ⟨q, (h q).mpr hq, e⟩)]
def X0 : rX := (0, FP.dconst1, 0, none, false, 0, 0, 0, 0, 0, (fun _ => aN0), (fun _ => 0), (fun _ => 0), (fun _ => 0), (fun _ => 0), (fun _ => 0), (fun _ => 0), (fun _ => 0), (fun _ => 0), (fun _ => 0), (fun _ => 0))
theorem X0_ok : rOK X0 s0 := ⟨⟨rfl, rfl, rfl, rfl⟩, ⟨rfl, rfl⟩, fun _ _ _ => rfl, (fun h => by cases h), ⟨rfl, Nat.zero_le _, fun j hj => absurd hj (Nat.not_lt_zero _)⟩, rfl, Nat.zero_le _, rfl, by decide, fun j hj => absurd hj (Nat.not_lt_zero _)⟩
theorem rk_heap {M : rk_M} {B : rk_B} {P : rk_P} {pc : Nat} {lv : List (Option Value)} {st : List Value} {h h' : rk_H} {u : rk_U} (e : h' = h) (r : rk_Run M B P pc lv st h' u) : rk_Run M B P pc lv st h u := by rw [← e]; exact r
def rNew (h : rk_H) (a : Nat) : rk_P := fun r h' => r = .inl none ∧ ∃ A : Nat → Nat, A 0 = a ∧ rA A ∧ (∀ i, 1 ≤ i → i < 23 → h (A i) = none) ∧ h' = rv h A X0
theorem c_R_init (a : Nat) (h : rk_H) (ha : h a = some (oB 6 [.int 0, .null, .double 0, .null, .null, .null, .null, .null, .null, .null, .null, .null, .null, .null, .null, .null, .null, .int 0, .int 0, .int 0, .null, .null, .null, .null, .null, .int 0, .int 0, .null, .int 0, .null, .int 0, .double 0])) : rk_Con mR_init (1, 18, 22, 6254) [.ref a] h (rNew h a) := by
  refine rk_Con.of [some (.ref a)] rfl (Nat.le_of_ble_eq_true rfl) (by decide +kernel) ?_
  refine rk_heap (rk_up_id ha) ?_
  refine rk_aload_n dR_init_0 rfl ?_
  refine rk_objI jR_1 w_obj.1 w_obj.2 dR_init_1 (Nat.le_of_ble_eq_true rfl) (Nat.le_of_ble_eq_true rfl) ?_
  refine rk_aload_n dR_init_4 rfl ?_
  refine rk_sipush (v := 512) dR_init_5 (by decide) ?_
  refine rk_newi (N := 512) rfl w_arr_int (by decide) (by decide) dR_init_8 (Nat.le_of_ble_eq_true rfl) (Nat.le_of_ble_eq_true rfl) (fun x1 x1n => ?_)
  refine rk_putF pR_7 rfl dR_init_10 (rk_up_k (rk_ne rk_up_s x1n) rk_up_s) (Nat.le_of_ble_eq_true rfl) rfl rfl ?_
  rw [new_sw (rk_ne rk_up_s x1n)]
  simp only [List.set]
  refine rk_aload_n dR_init_13 rfl ?_
  refine rk_dconst1 dR_init_14 ?_
  refine rk_putf pR_13 dR_init_15 (by first | exact rk_up_s | assumption) (Nat.le_of_ble_eq_true rfl) rfl rfl ?_
  rw [rk_up_up]
  refine rk_aload_n dR_init_18 rfl ?_
  refine rk_bipush (v := 14) dR_init_19 (by decide) ?_
  refine rk_newi (N := 14) rfl w_arr_int (by decide) (by decide) dR_init_21 (Nat.le_of_ble_eq_true rfl) (Nat.le_of_ble_eq_true rfl) (fun x2 x2n => ?_)
  refine rk_putF pR_17 rfl dR_init_23 (rk_up_k (rk_ne rk_up_s x2n) rk_up_s) (Nat.le_of_ble_eq_true rfl) rfl rfl ?_
  rw [new_sw (rk_ne rk_up_s x2n)]
  simp only [List.set]
  refine rk_aload_n dR_init_26 rfl ?_
  refine rk_bipush (v := 14) dR_init_27 (by decide) ?_
  refine rk_newi (N := 14) rfl w_arr_int (by decide) (by decide) dR_init_29 (Nat.le_of_ble_eq_true rfl) (Nat.le_of_ble_eq_true rfl) (fun x3 x3n => ?_)
  refine rk_putF pR_20 rfl dR_init_31 (rk_up_k (rk_ne rk_up_s x3n) rk_up_s) (Nat.le_of_ble_eq_true rfl) rfl rfl ?_
  rw [new_sw (rk_ne rk_up_s x3n)]
  simp only [List.set]
  refine rk_aload_n dR_init_34 rfl ?_
  refine rk_bipush (v := 14) dR_init_35 (by decide) ?_
  refine rk_newi (N := 14) rfl w_arr_int (by decide) (by decide) dR_init_37 (Nat.le_of_ble_eq_true rfl) (Nat.le_of_ble_eq_true rfl) (fun x4 x4n => ?_)
  refine rk_putF pR_23 rfl dR_init_39 (rk_up_k (rk_ne rk_up_s x4n) rk_up_s) (Nat.le_of_ble_eq_true rfl) rfl rfl ?_
  rw [new_sw (rk_ne rk_up_s x4n)]
  simp only [List.set]
  refine rk_aload_n dR_init_42 rfl ?_
  refine rk_bipush (v := 14) dR_init_43 (by decide) ?_
  refine rk_newi (N := 14) rfl w_arr_int (by decide) (by decide) dR_init_45 (Nat.le_of_ble_eq_true rfl) (Nat.le_of_ble_eq_true rfl) (fun x5 x5n => ?_)
  refine rk_putF pR_26 rfl dR_init_47 (rk_up_k (rk_ne rk_up_s x5n) rk_up_s) (Nat.le_of_ble_eq_true rfl) rfl rfl ?_
  rw [new_sw (rk_ne rk_up_s x5n)]
  simp only [List.set]
  refine rk_aload_n dR_init_50 rfl ?_
  refine rk_bipush (v := 14) dR_init_51 (by decide) ?_
  refine rk_newi (N := 14) rfl w_arr_int (by decide) (by decide) dR_init_53 (Nat.le_of_ble_eq_true rfl) (Nat.le_of_ble_eq_true rfl) (fun x6 x6n => ?_)
  refine rk_putF pR_29 rfl dR_init_55 (rk_up_k (rk_ne rk_up_s x6n) rk_up_s) (Nat.le_of_ble_eq_true rfl) rfl rfl ?_
  rw [new_sw (rk_ne rk_up_s x6n)]
  simp only [List.set]
  refine rk_aload_n dR_init_58 rfl ?_
  refine rk_bipush (v := 14) dR_init_59 (by decide) ?_
  refine rk_newi (N := 14) rfl w_arr_int (by decide) (by decide) dR_init_61 (Nat.le_of_ble_eq_true rfl) (Nat.le_of_ble_eq_true rfl) (fun x7 x7n => ?_)
  refine rk_putF pR_32 rfl dR_init_63 (rk_up_k (rk_ne rk_up_s x7n) rk_up_s) (Nat.le_of_ble_eq_true rfl) rfl rfl ?_
  rw [new_sw (rk_ne rk_up_s x7n)]
  simp only [List.set]
  refine rk_aload_n dR_init_66 rfl ?_
  refine rk_bipush (v := 14) dR_init_67 (by decide) ?_
  refine rk_newd (N := 14) rfl w_arr_double (by decide) (by decide) dR_init_69 (Nat.le_of_ble_eq_true rfl) (Nat.le_of_ble_eq_true rfl) (fun x8 x8n => ?_)
  refine rk_putF pR_35 rfl dR_init_71 (rk_up_k (rk_ne rk_up_s x8n) rk_up_s) (Nat.le_of_ble_eq_true rfl) rfl rfl ?_
  rw [new_sw (rk_ne rk_up_s x8n)]
  simp only [List.set]
  refine rk_aload_n dR_init_74 rfl ?_
  refine rk_bipush (v := 14) dR_init_75 (by decide) ?_
  refine rk_newd (N := 14) rfl w_arr_double (by decide) (by decide) dR_init_77 (Nat.le_of_ble_eq_true rfl) (Nat.le_of_ble_eq_true rfl) (fun x9 x9n => ?_)
  refine rk_putF pR_39 rfl dR_init_79 (rk_up_k (rk_ne rk_up_s x9n) rk_up_s) (Nat.le_of_ble_eq_true rfl) rfl rfl ?_
  rw [new_sw (rk_ne rk_up_s x9n)]
  simp only [List.set]
  refine rk_aload_n dR_init_82 rfl ?_
  refine rk_bipush (v := 14) dR_init_83 (by decide) ?_
  refine rk_newi (N := 14) rfl w_arr_int (by decide) (by decide) dR_init_85 (Nat.le_of_ble_eq_true rfl) (Nat.le_of_ble_eq_true rfl) (fun x10 x10n => ?_)
  refine rk_putF pR_42 rfl dR_init_87 (rk_up_k (rk_ne rk_up_s x10n) rk_up_s) (Nat.le_of_ble_eq_true rfl) rfl rfl ?_
  rw [new_sw (rk_ne rk_up_s x10n)]
  simp only [List.set]
  refine rk_aload_n dR_init_90 rfl ?_
  refine rk_bipush (v := 14) dR_init_91 (by decide) ?_
  refine rk_newi (N := 14) rfl w_arr_int (by decide) (by decide) dR_init_93 (Nat.le_of_ble_eq_true rfl) (Nat.le_of_ble_eq_true rfl) (fun x11 x11n => ?_)
  refine rk_putF pR_45 rfl dR_init_95 (rk_up_k (rk_ne rk_up_s x11n) rk_up_s) (Nat.le_of_ble_eq_true rfl) rfl rfl ?_
  rw [new_sw (rk_ne rk_up_s x11n)]
  simp only [List.set]
  refine rk_aload_n dR_init_98 rfl ?_
  refine rk_bipush (v := 14) dR_init_99 (by decide) ?_
  refine rk_newi (N := 14) rfl w_arr_int (by decide) (by decide) dR_init_101 (Nat.le_of_ble_eq_true rfl) (Nat.le_of_ble_eq_true rfl) (fun x12 x12n => ?_)
  refine rk_putF pR_48 rfl dR_init_103 (rk_up_k (rk_ne rk_up_s x12n) rk_up_s) (Nat.le_of_ble_eq_true rfl) rfl rfl ?_
  rw [new_sw (rk_ne rk_up_s x12n)]
  simp only [List.set]
  refine rk_aload_n dR_init_106 rfl ?_
  refine rk_bipush (v := 14) dR_init_107 (by decide) ?_
  refine rk_newi (N := 14) rfl w_arr_int (by decide) (by decide) dR_init_109 (Nat.le_of_ble_eq_true rfl) (Nat.le_of_ble_eq_true rfl) (fun x13 x13n => ?_)
  refine rk_putF pR_51 rfl dR_init_111 (rk_up_k (rk_ne rk_up_s x13n) rk_up_s) (Nat.le_of_ble_eq_true rfl) rfl rfl ?_
  rw [new_sw (rk_ne rk_up_s x13n)]
  simp only [List.set]
  refine rk_aload_n dR_init_114 rfl ?_
  refine rk_sipush (v := 1792) dR_init_115 (by decide) ?_
  refine rk_newi (N := 1792) rfl w_arr_int (by decide) (by decide) dR_init_118 (Nat.le_of_ble_eq_true rfl) (Nat.le_of_ble_eq_true rfl) (fun x14 x14n => ?_)
  refine rk_putF pR_54 rfl dR_init_120 (rk_up_k (rk_ne rk_up_s x14n) rk_up_s) (Nat.le_of_ble_eq_true rfl) rfl rfl ?_
  rw [new_sw (rk_ne rk_up_s x14n)]
  simp only [List.set]
  refine rk_aload_n dR_init_123 rfl ?_
  refine rk_sipush (v := 1792) dR_init_124 (by decide) ?_
  refine rk_newi (N := 1792) rfl w_arr_int (by decide) (by decide) dR_init_127 (Nat.le_of_ble_eq_true rfl) (Nat.le_of_ble_eq_true rfl) (fun x15 x15n => ?_)
  refine rk_putF pR_57 rfl dR_init_129 (rk_up_k (rk_ne rk_up_s x15n) rk_up_s) (Nat.le_of_ble_eq_true rfl) rfl rfl ?_
  rw [new_sw (rk_ne rk_up_s x15n)]
  simp only [List.set]
  refine rk_aload_n dR_init_132 rfl ?_
  refine rk_iconst (v := -1) dR_init_133 (by decide) ?_
  refine rk_putf pR_60 dR_init_134 (by first | exact rk_up_s | assumption) (Nat.le_of_ble_eq_true rfl) rfl rfl ?_
  rw [rk_up_up]
  refine rk_aload_n dR_init_137 rfl ?_
  refine rk_bipush (v := 14) dR_init_138 (by decide) ?_
  refine rk_newi (N := 14) rfl w_arr_int (by decide) (by decide) dR_init_140 (Nat.le_of_ble_eq_true rfl) (Nat.le_of_ble_eq_true rfl) (fun x16 x16n => ?_)
  refine rk_putF pR_64 rfl dR_init_142 (rk_up_k (rk_ne rk_up_s x16n) rk_up_s) (Nat.le_of_ble_eq_true rfl) rfl rfl ?_
  rw [new_sw (rk_ne rk_up_s x16n)]
  simp only [List.set]
  refine rk_aload_n dR_init_145 rfl ?_
  refine rk_bipush (v := 14) dR_init_146 (by decide) ?_
  refine rk_newi (N := 14) rfl w_arr_int (by decide) (by decide) dR_init_148 (Nat.le_of_ble_eq_true rfl) (Nat.le_of_ble_eq_true rfl) (fun x17 x17n => ?_)
  refine rk_putF pR_67 rfl dR_init_150 (rk_up_k (rk_ne rk_up_s x17n) rk_up_s) (Nat.le_of_ble_eq_true rfl) rfl rfl ?_
  rw [new_sw (rk_ne rk_up_s x17n)]
  simp only [List.set]
  refine rk_aload_n dR_init_153 rfl ?_
  refine rk_bipush (v := 14) dR_init_154 (by decide) ?_
  refine rk_newi (N := 14) rfl w_arr_int (by decide) (by decide) dR_init_156 (Nat.le_of_ble_eq_true rfl) (Nat.le_of_ble_eq_true rfl) (fun x18 x18n => ?_)
  refine rk_putF pR_70 rfl dR_init_158 (rk_up_k (rk_ne rk_up_s x18n) rk_up_s) (Nat.le_of_ble_eq_true rfl) rfl rfl ?_
  rw [new_sw (rk_ne rk_up_s x18n)]
  simp only [List.set]
  refine rk_aload_n dR_init_161 rfl ?_
  refine rk_bipush (v := 14) dR_init_162 (by decide) ?_
  refine rk_newi (N := 14) rfl w_arr_int (by decide) (by decide) dR_init_164 (Nat.le_of_ble_eq_true rfl) (Nat.le_of_ble_eq_true rfl) (fun x19 x19n => ?_)
  refine rk_putF pR_73 rfl dR_init_166 (rk_up_k (rk_ne rk_up_s x19n) rk_up_s) (Nat.le_of_ble_eq_true rfl) rfl rfl ?_
  rw [new_sw (rk_ne rk_up_s x19n)]
  simp only [List.set]
  refine rk_aload_n dR_init_169 rfl ?_
  refine rk_bipush (v := 14) dR_init_170 (by decide) ?_
  refine rk_newi (N := 14) rfl w_arr_int (by decide) (by decide) dR_init_172 (Nat.le_of_ble_eq_true rfl) (Nat.le_of_ble_eq_true rfl) (fun x20 x20n => ?_)
  refine rk_putF pR_76 rfl dR_init_174 (rk_up_k (rk_ne rk_up_s x20n) rk_up_s) (Nat.le_of_ble_eq_true rfl) rfl rfl ?_
  rw [new_sw (rk_ne rk_up_s x20n)]
  simp only [List.set]
  refine rk_aload_n dR_init_177 rfl ?_
  refine rk_sipush (v := 1792) dR_init_178 (by decide) ?_
  refine rk_newi (N := 1792) rfl w_arr_int (by decide) (by decide) dR_init_181 (Nat.le_of_ble_eq_true rfl) (Nat.le_of_ble_eq_true rfl) (fun x21 x21n => ?_)
  refine rk_putF pR_79 rfl dR_init_183 (rk_up_k (rk_ne rk_up_s x21n) rk_up_s) (Nat.le_of_ble_eq_true rfl) rfl rfl ?_
  rw [new_sw (rk_ne rk_up_s x21n)]
  simp only [List.set]
  refine rk_aload_n dR_init_186 rfl ?_
  refine rk_sipush (v := 128) dR_init_187 (by decide) ?_
  refine rk_newi (N := 128) rfl w_arr_int (by decide) (by decide) dR_init_190 (Nat.le_of_ble_eq_true rfl) (Nat.le_of_ble_eq_true rfl) (fun x22 x22n => ?_)
  refine rk_putF pR_82 rfl dR_init_192 (rk_up_k (rk_ne rk_up_s x22n) rk_up_s) (Nat.le_of_ble_eq_true rfl) rfl rfl ?_
  rw [new_sw (rk_ne rk_up_s x22n)]
  simp only [List.set]
  skip
  have f1 := ovl_none (L := [(a, oB 6 _)]) x1n
  have f2 := ovl_none (L := [(a, oB 6 _), (x1, iA 512 (fun _ => 0))]) x2n
  have f3 := ovl_none (L := [(a, oB 6 _), (x2, iA 14 (fun _ => 0)), (x1, iA 512 (fun _ => 0))]) x3n
  have f4 := ovl_none (L := [(a, oB 6 _), (x3, iA 14 (fun _ => 0)), (x2, iA 14 (fun _ => 0)), (x1, iA 512 (fun _ => 0))]) x4n
  have f5 := ovl_none (L := [(a, oB 6 _), (x4, iA 14 (fun _ => 0)), (x3, iA 14 (fun _ => 0)), (x2, iA 14 (fun _ => 0)), (x1, iA 512 (fun _ => 0))]) x5n
  have f6 := ovl_none (L := [(a, oB 6 _), (x5, iA 14 (fun _ => 0)), (x4, iA 14 (fun _ => 0)), (x3, iA 14 (fun _ => 0)), (x2, iA 14 (fun _ => 0)), (x1, iA 512 (fun _ => 0))]) x6n
  have f7 := ovl_none (L := [(a, oB 6 _), (x6, iA 14 (fun _ => 0)), (x5, iA 14 (fun _ => 0)), (x4, iA 14 (fun _ => 0)), (x3, iA 14 (fun _ => 0)), (x2, iA 14 (fun _ => 0)), (x1, iA 512 (fun _ => 0))]) x7n
  have f8 := ovl_none (L := [(a, oB 6 _), (x7, iA 14 (fun _ => 0)), (x6, iA 14 (fun _ => 0)), (x5, iA 14 (fun _ => 0)), (x4, iA 14 (fun _ => 0)), (x3, iA 14 (fun _ => 0)), (x2, iA 14 (fun _ => 0)), (x1, iA 512 (fun _ => 0))]) x8n
  have f9 := ovl_none (L := [(a, oB 6 _), (x8, dA 14 (fun _ => 0)), (x7, iA 14 (fun _ => 0)), (x6, iA 14 (fun _ => 0)), (x5, iA 14 (fun _ => 0)), (x4, iA 14 (fun _ => 0)), (x3, iA 14 (fun _ => 0)), (x2, iA 14 (fun _ => 0)), (x1, iA 512 (fun _ => 0))]) x9n
  have f10 := ovl_none (L := [(a, oB 6 _), (x9, dA 14 (fun _ => 0)), (x8, dA 14 (fun _ => 0)), (x7, iA 14 (fun _ => 0)), (x6, iA 14 (fun _ => 0)), (x5, iA 14 (fun _ => 0)), (x4, iA 14 (fun _ => 0)), (x3, iA 14 (fun _ => 0)), (x2, iA 14 (fun _ => 0)), (x1, iA 512 (fun _ => 0))]) x10n
  have f11 := ovl_none (L := [(a, oB 6 _), (x10, iA 14 (fun _ => 0)), (x9, dA 14 (fun _ => 0)), (x8, dA 14 (fun _ => 0)), (x7, iA 14 (fun _ => 0)), (x6, iA 14 (fun _ => 0)), (x5, iA 14 (fun _ => 0)), (x4, iA 14 (fun _ => 0)), (x3, iA 14 (fun _ => 0)), (x2, iA 14 (fun _ => 0)), (x1, iA 512 (fun _ => 0))]) x11n
  have f12 := ovl_none (L := [(a, oB 6 _), (x11, iA 14 (fun _ => 0)), (x10, iA 14 (fun _ => 0)), (x9, dA 14 (fun _ => 0)), (x8, dA 14 (fun _ => 0)), (x7, iA 14 (fun _ => 0)), (x6, iA 14 (fun _ => 0)), (x5, iA 14 (fun _ => 0)), (x4, iA 14 (fun _ => 0)), (x3, iA 14 (fun _ => 0)), (x2, iA 14 (fun _ => 0)), (x1, iA 512 (fun _ => 0))]) x12n
  have f13 := ovl_none (L := [(a, oB 6 _), (x12, iA 14 (fun _ => 0)), (x11, iA 14 (fun _ => 0)), (x10, iA 14 (fun _ => 0)), (x9, dA 14 (fun _ => 0)), (x8, dA 14 (fun _ => 0)), (x7, iA 14 (fun _ => 0)), (x6, iA 14 (fun _ => 0)), (x5, iA 14 (fun _ => 0)), (x4, iA 14 (fun _ => 0)), (x3, iA 14 (fun _ => 0)), (x2, iA 14 (fun _ => 0)), (x1, iA 512 (fun _ => 0))]) x13n
  have f14 := ovl_none (L := [(a, oB 6 _), (x13, iA 14 (fun _ => 0)), (x12, iA 14 (fun _ => 0)), (x11, iA 14 (fun _ => 0)), (x10, iA 14 (fun _ => 0)), (x9, dA 14 (fun _ => 0)), (x8, dA 14 (fun _ => 0)), (x7, iA 14 (fun _ => 0)), (x6, iA 14 (fun _ => 0)), (x5, iA 14 (fun _ => 0)), (x4, iA 14 (fun _ => 0)), (x3, iA 14 (fun _ => 0)), (x2, iA 14 (fun _ => 0)), (x1, iA 512 (fun _ => 0))]) x14n
  have f15 := ovl_none (L := [(a, oB 6 _), (x14, iA 1792 (fun _ => 0)), (x13, iA 14 (fun _ => 0)), (x12, iA 14 (fun _ => 0)), (x11, iA 14 (fun _ => 0)), (x10, iA 14 (fun _ => 0)), (x9, dA 14 (fun _ => 0)), (x8, dA 14 (fun _ => 0)), (x7, iA 14 (fun _ => 0)), (x6, iA 14 (fun _ => 0)), (x5, iA 14 (fun _ => 0)), (x4, iA 14 (fun _ => 0)), (x3, iA 14 (fun _ => 0)), (x2, iA 14 (fun _ => 0)), (x1, iA 512 (fun _ => 0))]) x15n
  have f16 := ovl_none (L := [(a, oB 6 _), (x15, iA 1792 (fun _ => 0)), (x14, iA 1792 (fun _ => 0)), (x13, iA 14 (fun _ => 0)), (x12, iA 14 (fun _ => 0)), (x11, iA 14 (fun _ => 0)), (x10, iA 14 (fun _ => 0)), (x9, dA 14 (fun _ => 0)), (x8, dA 14 (fun _ => 0)), (x7, iA 14 (fun _ => 0)), (x6, iA 14 (fun _ => 0)), (x5, iA 14 (fun _ => 0)), (x4, iA 14 (fun _ => 0)), (x3, iA 14 (fun _ => 0)), (x2, iA 14 (fun _ => 0)), (x1, iA 512 (fun _ => 0))]) x16n
  have f17 := ovl_none (L := [(a, oB 6 _), (x16, iA 14 (fun _ => 0)), (x15, iA 1792 (fun _ => 0)), (x14, iA 1792 (fun _ => 0)), (x13, iA 14 (fun _ => 0)), (x12, iA 14 (fun _ => 0)), (x11, iA 14 (fun _ => 0)), (x10, iA 14 (fun _ => 0)), (x9, dA 14 (fun _ => 0)), (x8, dA 14 (fun _ => 0)), (x7, iA 14 (fun _ => 0)), (x6, iA 14 (fun _ => 0)), (x5, iA 14 (fun _ => 0)), (x4, iA 14 (fun _ => 0)), (x3, iA 14 (fun _ => 0)), (x2, iA 14 (fun _ => 0)), (x1, iA 512 (fun _ => 0))]) x17n
  have f18 := ovl_none (L := [(a, oB 6 _), (x17, iA 14 (fun _ => 0)), (x16, iA 14 (fun _ => 0)), (x15, iA 1792 (fun _ => 0)), (x14, iA 1792 (fun _ => 0)), (x13, iA 14 (fun _ => 0)), (x12, iA 14 (fun _ => 0)), (x11, iA 14 (fun _ => 0)), (x10, iA 14 (fun _ => 0)), (x9, dA 14 (fun _ => 0)), (x8, dA 14 (fun _ => 0)), (x7, iA 14 (fun _ => 0)), (x6, iA 14 (fun _ => 0)), (x5, iA 14 (fun _ => 0)), (x4, iA 14 (fun _ => 0)), (x3, iA 14 (fun _ => 0)), (x2, iA 14 (fun _ => 0)), (x1, iA 512 (fun _ => 0))]) x18n
  have f19 := ovl_none (L := [(a, oB 6 _), (x18, iA 14 (fun _ => 0)), (x17, iA 14 (fun _ => 0)), (x16, iA 14 (fun _ => 0)), (x15, iA 1792 (fun _ => 0)), (x14, iA 1792 (fun _ => 0)), (x13, iA 14 (fun _ => 0)), (x12, iA 14 (fun _ => 0)), (x11, iA 14 (fun _ => 0)), (x10, iA 14 (fun _ => 0)), (x9, dA 14 (fun _ => 0)), (x8, dA 14 (fun _ => 0)), (x7, iA 14 (fun _ => 0)), (x6, iA 14 (fun _ => 0)), (x5, iA 14 (fun _ => 0)), (x4, iA 14 (fun _ => 0)), (x3, iA 14 (fun _ => 0)), (x2, iA 14 (fun _ => 0)), (x1, iA 512 (fun _ => 0))]) x19n
  have f20 := ovl_none (L := [(a, oB 6 _), (x19, iA 14 (fun _ => 0)), (x18, iA 14 (fun _ => 0)), (x17, iA 14 (fun _ => 0)), (x16, iA 14 (fun _ => 0)), (x15, iA 1792 (fun _ => 0)), (x14, iA 1792 (fun _ => 0)), (x13, iA 14 (fun _ => 0)), (x12, iA 14 (fun _ => 0)), (x11, iA 14 (fun _ => 0)), (x10, iA 14 (fun _ => 0)), (x9, dA 14 (fun _ => 0)), (x8, dA 14 (fun _ => 0)), (x7, iA 14 (fun _ => 0)), (x6, iA 14 (fun _ => 0)), (x5, iA 14 (fun _ => 0)), (x4, iA 14 (fun _ => 0)), (x3, iA 14 (fun _ => 0)), (x2, iA 14 (fun _ => 0)), (x1, iA 512 (fun _ => 0))]) x20n
  have f21 := ovl_none (L := [(a, oB 6 _), (x20, iA 14 (fun _ => 0)), (x19, iA 14 (fun _ => 0)), (x18, iA 14 (fun _ => 0)), (x17, iA 14 (fun _ => 0)), (x16, iA 14 (fun _ => 0)), (x15, iA 1792 (fun _ => 0)), (x14, iA 1792 (fun _ => 0)), (x13, iA 14 (fun _ => 0)), (x12, iA 14 (fun _ => 0)), (x11, iA 14 (fun _ => 0)), (x10, iA 14 (fun _ => 0)), (x9, dA 14 (fun _ => 0)), (x8, dA 14 (fun _ => 0)), (x7, iA 14 (fun _ => 0)), (x6, iA 14 (fun _ => 0)), (x5, iA 14 (fun _ => 0)), (x4, iA 14 (fun _ => 0)), (x3, iA 14 (fun _ => 0)), (x2, iA 14 (fun _ => 0)), (x1, iA 512 (fun _ => 0))]) x21n
  have f22 := ovl_none (L := [(a, oB 6 _), (x21, iA 1792 (fun _ => 0)), (x20, iA 14 (fun _ => 0)), (x19, iA 14 (fun _ => 0)), (x18, iA 14 (fun _ => 0)), (x17, iA 14 (fun _ => 0)), (x16, iA 14 (fun _ => 0)), (x15, iA 1792 (fun _ => 0)), (x14, iA 1792 (fun _ => 0)), (x13, iA 14 (fun _ => 0)), (x12, iA 14 (fun _ => 0)), (x11, iA 14 (fun _ => 0)), (x10, iA 14 (fun _ => 0)), (x9, dA 14 (fun _ => 0)), (x8, dA 14 (fun _ => 0)), (x7, iA 14 (fun _ => 0)), (x6, iA 14 (fun _ => 0)), (x5, iA 14 (fun _ => 0)), (x4, iA 14 (fun _ => 0)), (x3, iA 14 (fun _ => 0)), (x2, iA 14 (fun _ => 0)), (x1, iA 512 (fun _ => 0))]) x22n
  have nd : ([x22, x21, x20, x19, x18, x17, x16, x15, x14, x13, x12, x11, x10, x9, x8, x7, x6, x5, x4, x3, x2, x1] : List Nat).Nodup := by
    exact List.nodup_cons.mpr ⟨fun z => f22.1 (List.mem_cons_of_mem _ z), List.nodup_cons.mpr ⟨fun z => f21.1 (List.mem_cons_of_mem _ z), List.nodup_cons.mpr ⟨fun z => f20.1 (List.mem_cons_of_mem _ z), List.nodup_cons.mpr ⟨fun z => f19.1 (List.mem_cons_of_mem _ z), List.nodup_cons.mpr ⟨fun z => f18.1 (List.mem_cons_of_mem _ z), List.nodup_cons.mpr ⟨fun z => f17.1 (List.mem_cons_of_mem _ z), List.nodup_cons.mpr ⟨fun z => f16.1 (List.mem_cons_of_mem _ z), List.nodup_cons.mpr ⟨fun z => f15.1 (List.mem_cons_of_mem _ z), List.nodup_cons.mpr ⟨fun z => f14.1 (List.mem_cons_of_mem _ z), List.nodup_cons.mpr ⟨fun z => f13.1 (List.mem_cons_of_mem _ z), List.nodup_cons.mpr ⟨fun z => f12.1 (List.mem_cons_of_mem _ z), List.nodup_cons.mpr ⟨fun z => f11.1 (List.mem_cons_of_mem _ z), List.nodup_cons.mpr ⟨fun z => f10.1 (List.mem_cons_of_mem _ z), List.nodup_cons.mpr ⟨fun z => f9.1 (List.mem_cons_of_mem _ z), List.nodup_cons.mpr ⟨fun z => f8.1 (List.mem_cons_of_mem _ z), List.nodup_cons.mpr ⟨fun z => f7.1 (List.mem_cons_of_mem _ z), List.nodup_cons.mpr ⟨fun z => f6.1 (List.mem_cons_of_mem _ z), List.nodup_cons.mpr ⟨fun z => f5.1 (List.mem_cons_of_mem _ z), List.nodup_cons.mpr ⟨fun z => f4.1 (List.mem_cons_of_mem _ z), List.nodup_cons.mpr ⟨fun z => f3.1 (List.mem_cons_of_mem _ z), List.nodup_cons.mpr ⟨fun z => f2.1 (List.mem_cons_of_mem _ z), List.nodup_cons.mpr ⟨fun z => f1.1 (List.mem_cons_of_mem _ z), List.nodup_nil⟩⟩⟩⟩⟩⟩⟩⟩⟩⟩⟩⟩⟩⟩⟩⟩⟩⟩⟩⟩⟩⟩
  have nd2 : ([x1, x2, x3, x4, x5, x6, x7, x8, x9, x10, x11, x12, x13, x14, x15, x16, x17, x18, x19, x20, x21, x22] : List Nat).Nodup := (List.pairwise_reverse.mp (show (([x1, x2, x3, x4, x5, x6, x7, x8, x9, x10, x11, x12, x13, x14, x15, x16, x17, x18, x19, x20, x21, x22] : List Nat).reverse).Pairwise (fun x y => x ≠ y) from nd)).imp (fun h => Ne.symm h)
  have na : a ∉ ([x1, x2, x3, x4, x5, x6, x7, x8, x9, x10, x11, x12, x13, x14, x15, x16, x17, x18, x19, x20, x21, x22] : List Nat) := by
    simp only [List.mem_cons, List.not_mem_nil, or_false, not_or]
    exact ⟨fun z => f1.1 (by rw [← z]; exact List.mem_cons_self), fun z => f2.1 (by rw [← z]; exact List.mem_cons_self), fun z => f3.1 (by rw [← z]; exact List.mem_cons_self), fun z => f4.1 (by rw [← z]; exact List.mem_cons_self), fun z => f5.1 (by rw [← z]; exact List.mem_cons_self), fun z => f6.1 (by rw [← z]; exact List.mem_cons_self), fun z => f7.1 (by rw [← z]; exact List.mem_cons_self), fun z => f8.1 (by rw [← z]; exact List.mem_cons_self), fun z => f9.1 (by rw [← z]; exact List.mem_cons_self), fun z => f10.1 (by rw [← z]; exact List.mem_cons_self), fun z => f11.1 (by rw [← z]; exact List.mem_cons_self), fun z => f12.1 (by rw [← z]; exact List.mem_cons_self), fun z => f13.1 (by rw [← z]; exact List.mem_cons_self), fun z => f14.1 (by rw [← z]; exact List.mem_cons_self), fun z => f15.1 (by rw [← z]; exact List.mem_cons_self), fun z => f16.1 (by rw [← z]; exact List.mem_cons_self), fun z => f17.1 (by rw [← z]; exact List.mem_cons_self), fun z => f18.1 (by rw [← z]; exact List.mem_cons_self), fun z => f19.1 (by rw [← z]; exact List.mem_cons_self), fun z => f20.1 (by rw [← z]; exact List.mem_cons_self), fun z => f21.1 (by rw [← z]; exact List.mem_cons_self), fun z => f22.1 (by rw [← z]; exact List.mem_cons_self)⟩
  have ra : rA (fun i => ([a, x1, x2, x3, x4, x5, x6, x7, x8, x9, x10, x11, x12, x13, x14, x15, x16, x17, x18, x19, x20, x21, x22] : List Nat).getD i 0) := List.nodup_cons.mpr ⟨na, nd2⟩
  refine rk_ret rfl dR_init_195 ⟨(Nat.le_of_ble_eq_true rfl), (Nat.le_of_ble_eq_true rfl)⟩ ⟨rfl, (fun i => ([a, x1, x2, x3, x4, x5, x6, x7, x8, x9, x10, x11, x12, x13, x14, x15, x16, x17, x18, x19, x20, x21, x22] : List Nat).getD i 0), rfl, ra, ?_, ?_⟩
  · intro i h1 h2
    rcases (show i = 1 ∨ i = 2 ∨ i = 3 ∨ i = 4 ∨ i = 5 ∨ i = 6 ∨ i = 7 ∨ i = 8 ∨ i = 9 ∨ i = 10 ∨ i = 11 ∨ i = 12 ∨ i = 13 ∨ i = 14 ∨ i = 15 ∨ i = 16 ∨ i = 17 ∨ i = 18 ∨ i = 19 ∨ i = 20 ∨ i = 21 ∨ i = 22 by omega) with rfl | rfl | rfl | rfl | rfl | rfl | rfl | rfl | rfl | rfl | rfl | rfl | rfl | rfl | rfl | rfl | rfl | rfl | rfl | rfl | rfl | rfl
    · exact f1.2
    · exact f2.2
    · exact f3.2
    · exact f4.2
    · exact f5.2
    · exact f6.2
    · exact f7.2
    · exact f8.2
    · exact f9.2
    · exact f10.2
    · exact f11.2
    · exact f12.2
    · exact f13.2
    · exact f14.2
    · exact f15.2
    · exact f16.2
    · exact f17.2
    · exact f18.2
    · exact f19.2
    · exact f20.2
    · exact f21.2
    · exact f22.2
  · refine ovl_perm (L := (a, oB 6 (rls (fun i => ([a, x1, x2, x3, x4, x5, x6, x7, x8, x9, x10, x11, x12, x13, x14, x15, x16, x17, x18, x19, x20, x21, x22] : List Nat).getD i 0) X0)) :: ([(x1, iA 512 (fun _ => 0)), (x2, iA 14 (fun _ => 0)), (x3, iA 14 (fun _ => 0)), (x4, iA 14 (fun _ => 0)), (x5, iA 14 (fun _ => 0)), (x6, iA 14 (fun _ => 0)), (x7, iA 14 (fun _ => 0)), (x8, dA 14 (fun _ => 0)), (x9, dA 14 (fun _ => 0)), (x10, iA 14 (fun _ => 0)), (x11, iA 14 (fun _ => 0)), (x12, iA 14 (fun _ => 0)), (x13, iA 14 (fun _ => 0)), (x14, iA 1792 (fun _ => 0)), (x15, iA 1792 (fun _ => 0)), (x16, iA 14 (fun _ => 0)), (x17, iA 14 (fun _ => 0)), (x18, iA 14 (fun _ => 0)), (x19, iA 14 (fun _ => 0)), (x20, iA 14 (fun _ => 0)), (x21, iA 1792 (fun _ => 0)), (x22, iA 128 (fun _ => 0))] : List (Nat × rk_E)).reverse) ?_ ra.nd (fun p => ?_)
    · exact List.nodup_cons.mpr ⟨fun z => na (List.mem_reverse.mp z), nd⟩
    · rw [List.mem_cons, List.mem_reverse]
      exact (List.mem_cons (a := p) (b := (a, oB 6 (rls (fun i => ([a, x1, x2, x3, x4, x5, x6, x7, x8, x9, x10, x11, x12, x13, x14, x15, x16, x17, x18, x19, x20, x21, x22] : List Nat).getD i 0) X0))) (l := [(x1, iA 512 (fun _ => 0)), (x2, iA 14 (fun _ => 0)), (x3, iA 14 (fun _ => 0)), (x4, iA 14 (fun _ => 0)), (x5, iA 14 (fun _ => 0)), (x6, iA 14 (fun _ => 0)), (x7, iA 14 (fun _ => 0)), (x8, dA 14 (fun _ => 0)), (x9, dA 14 (fun _ => 0)), (x10, iA 14 (fun _ => 0)), (x11, iA 14 (fun _ => 0)), (x12, iA 14 (fun _ => 0)), (x13, iA 14 (fun _ => 0)), (x14, iA 1792 (fun _ => 0)), (x15, iA 1792 (fun _ => 0)), (x16, iA 14 (fun _ => 0)), (x17, iA 14 (fun _ => 0)), (x18, iA 14 (fun _ => 0)), (x19, iA 14 (fun _ => 0)), (x20, iA 14 (fun _ => 0)), (x21, iA 1792 (fun _ => 0)), (x22, iA 128 (fun _ => 0))])).symm
