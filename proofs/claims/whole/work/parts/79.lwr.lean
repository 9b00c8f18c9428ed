/-! THE LAW'S WRAPPERS: what a call of the class answers, as a code and a value -/
def frl (h : rk_H) (C : cT) (n o : Nat) (h' : rk_H) (C' : cT) (n' : Nat) : Prop := C'.a = C.a ∧ (∀ (z : Nat) (e : rk_E), h z = some e → ¬ own C n z → z ≠ o → h' z = some e) ∧ ∀ z : Nat, own C' n' z → own C n z ∨ h z = none
def lPo (h : rk_H) (C : cT) (n o : Nat) (E : rk_E → Prop) (res : oR) : rk_P := fun r h' => r = .inl (some (.int (nI res.1))) ∧ ∃ (C' : cT) (e : rk_E), cOK h' C' res.2.2 ∧ frl h C n o h' C' res.2.2.n ∧ h' o = some e ∧ E e
def wPo (h : rk_H) (C : cT) (n : Nat) (res : oR) : rk_P := fun r h' => r = .inl (some (.int (nI res.1))) ∧ ∃ C' : cT, cOK h' C' res.2.2 ∧ frm h C n h' C' res.2.2.n
def eL (res : oR) (e : rk_E) : Prop := ∃ f : Nat → Int64, e = lA 1 f ∧ (nI res.1 = 0 → ∃ v : Int32, res.2.1 = some (.int v) ∧ f 0 = v.toInt64)
def eD (res : oR) (e : rk_E) : Prop := ∃ g : Nat → UInt64, e = dA 1 g ∧ (nI res.1 = 0 → ∃ v : UInt64, res.2.1 = some (.double v) ∧ g 0 = v)
/-- a value, or one of m names -/
def oInt (res : oR) (m : Nat) : Prop := (res.1 = 0 ∧ ∃ v : Int32, res.2.1 = some (.int v)) ∨ (1 ≤ res.1 ∧ res.1 ≤ m)
def oDbl (res : oR) (m : Nat) : Prop := (res.1 = 0 ∧ ∃ v : UInt64, res.2.1 = some (.double v)) ∨ (1 ≤ res.1 ∧ res.1 ≤ m)
def oVoid (res : oR) (m : Nat) : Prop := (res.1 = 0 ∧ res.2.1 = none) ∨ (1 ≤ res.1 ∧ res.1 ≤ m)
theorem vp00 : vp_in 0 1 := by unfold vp_in; decide
theorem rk_nxc {M : rk_M} {B : rk_B} {P : rk_P} {pc : Nat} {lv : List (Option Value)} {rest : List Value} {h : rk_H} {u : rk_U} {C : String} {q0 : Nat × Nat × Nat × Nat × String} {qs : List (Nat × Nat × Nat × Nat × String)} (hp : Nat) (hM : M.2.2.2.2 = q0 :: qs) (hf : rk_find (q0 :: qs) pc C = some hp) (hc : C ∈ rk_exc) (hh : ∀ q ∈ q0 :: qs, q.2.2.2.1 ≠ 0 ∧ q.2.2.2.2 ∈ rk_exc ∧ Cond.classLink M.1.cls q.2.2.2.1 q.2.2.2.2 ∈ rk_tbl) (r : ∀ a : Nat, rk_Run M B P hp lv [.ref a] h u) : rk_nx M B P pc lv rest h u (.inr C) := by
  unfold rk_nx
  simp only [hM]
  exact ⟨⟨hp, hf, r⟩, hc, hh⟩
theorem frm.ne {h h1 : rk_H} {C C' : cT} {n n' o : Nat} {e : rk_E} (fr : frm h C n h1 C' n') (ho : h o = some e) (hn : ¬ own C n o) : ¬ own C' n' o := fun q => by
  rcases fr.2.2 _ q with a | a
  · exact hn a
  · rw [ho] at a; cases a
theorem lPo.thr {h h1 : rk_H} {C C' : cT} {n o k : Nat} {f : Nat → Int64} {res : oR} (hk : res.1 = k) (hk1 : ¬ nI k = 0) (k1 : cOK h1 C' res.2.2) (fr : frm h C n h1 C' res.2.2.n) (ho : h o = some (lA 1 f)) (hn : ¬ own C n o) : lPo h C n o (eL res) res (.inl (some (.int (nI k)))) h1 :=
  ⟨by rw [hk], C', _, k1, ⟨fr.1, fun z e hz h2 _ => fr.2.1 z e hz h2, fr.2.2⟩, fr.2.1 _ _ ho hn, f, rfl, fun q => absurd (by rw [hk] at q; exact q) hk1⟩
theorem lPo.thd {h h1 : rk_H} {C C' : cT} {n o k : Nat} {f : Nat → UInt64} {res : oR} (hk : res.1 = k) (hk1 : ¬ nI k = 0) (k1 : cOK h1 C' res.2.2) (fr : frm h C n h1 C' res.2.2.n) (ho : h o = some (dA 1 f)) (hn : ¬ own C n o) : lPo h C n o (eD res) res (.inl (some (.int (nI k)))) h1 :=
  ⟨by rw [hk], C', _, k1, ⟨fr.1, fun z e hz h2 _ => fr.2.1 z e hz h2, fr.2.2⟩, fr.2.1 _ _ ho hn, f, rfl, fun q => absurd (by rw [hk] at q; exact q) hk1⟩
theorem lPo.ok {h h1 : rk_H} {C C' : cT} {n o : Nat} {f : Nat → Int64} {v : Int32} {res : oR} (h0 : res.1 = 0) (hv : res.2.1 = some (.int v)) (k1 : cOK h1 C' res.2.2) (fr : frm h C n h1 C' res.2.2.n) (ho : h o = some (lA 1 f)) (hn : ¬ own C n o) : lPo h C n o (eL res) res (.inl (some (.int 0))) (rk_up h1 o (lA 1 (va_up f (0 : Int32).toNatClampNeg v.toInt64))) :=
  ⟨by rw [h0]; rfl, C', _, k1.kept (fun z hz => rk_up_n (fun q => fr.ne ho hn (by rw [← q]; exact hz))), ⟨fr.1, fun z e hz h2 h3 => rk_up_k h3 (fr.2.1 z e hz h2), fr.2.2⟩, rk_up_s, _, rfl, fun _ => ⟨v, hv, by rfl⟩⟩
theorem lPo.okd {h h1 : rk_H} {C C' : cT} {n o : Nat} {f : Nat → UInt64} {v : UInt64} {res : oR} (h0 : res.1 = 0) (hv : res.2.1 = some (.double v)) (k1 : cOK h1 C' res.2.2) (fr : frm h C n h1 C' res.2.2.n) (ho : h o = some (dA 1 f)) (hn : ¬ own C n o) : lPo h C n o (eD res) res (.inl (some (.int 0))) (rk_up h1 o (dA 1 (va_up f (0 : Int32).toNatClampNeg v))) :=
  ⟨by rw [h0]; rfl, C', _, k1.kept (fun z hz => rk_up_n (fun q => fr.ne ho hn (by rw [← q]; exact hz))), ⟨fr.1, fun z e hz h2 h3 => rk_up_k h3 (fr.2.1 z e hz h2), fr.2.2⟩, rk_up_s, _, rfl, fun _ => ⟨v, hv, by rfl⟩⟩
theorem lk_weights (C : cT) (n : Nat) (h : rk_H) {fs : List Value} (hca : h C.a = some (oB 5 fs)) (res : oR) (hI : oInt res 1) (x0 : Int32) (x1 : Int64) (con : rk_Con mT_weights (8, 108, 1, 6) [.ref C.a, .int x0, .long x1] h (cPost h C n res (exL [x_IA]))) (o : Nat) (f : Nat → Int64) (ho : h o = some (lA 1 f)) (hn : ¬ own C n o) : rk_Con mL_weights (10, 160, 9, 186) [.ref C.a, .int x0, .long x1, .ref o] h (lPo h C n o (eL res) res) := by
  refine rk_Con.of [some (.ref C.a), some (.int x0), some (.long x1), none, some (.ref o), none] rfl (Nat.le_of_ble_eq_true rfl) (by decide +kernel) ?_
  refine rk_aload dL_weights_0 rfl ?_
  refine rk_iconst (v := 0) dL_weights_2 (by decide) ?_
  refine rk_aload_n dL_weights_3 rfl ?_
  refine rk_iload_n dL_weights_4 rfl ?_
  refine rk_lload_n dL_weights_5 rfl ?_
  refine rk_cvG con cL_7 dL_weights_6 rfl lT_weights (Nat.le_of_ble_eq_true rfl) (Nat.le_of_ble_eq_true rfl) (Nat.le_of_ble_eq_true rfl) (Nat.le_of_ble_eq_true rfl) hca ?_
  rintro r h1 ⟨⟨C1, k1, fr⟩, rfl⟩
  rcases hI with ⟨e0, v, ev⟩ | ⟨e1, e3⟩
  · rw [if_pos e0, ev]
    refine rk_nxv ?_
    refine rk_i2l dL_weights_9 ?_
    refine rk_last dL_weights_10 (by first | exact fr.2.1 _ _ ho hn | assumption) (by first | exact vp00 | assumption) ?_
    refine rk_goto 18 dL_weights_11 (by decide) ?_
    refine rk_iconst (v := 0) dL_weights_18 (by decide) ?_
    exact rk_iret rfl dL_weights_19 ⟨(Nat.le_of_ble_eq_true rfl), (Nat.le_of_ble_eq_true rfl)⟩ (lPo.ok e0 ev k1 fr ho hn)
  · rw [if_neg (by omega)]
    have e : res.1 = 1 := by omega
    rw [e]
    refine rk_nxc 14 rfl (by decide +kernel) (by decide +kernel) (List.forall_mem_cons.mpr ⟨⟨by decide, by decide +kernel, hL_13⟩, fun _ q => absurd q List.not_mem_nil⟩) (fun a => ?_)
    refine rk_astore dL_weights_14 (Nat.le_of_ble_eq_true rfl) ?_
    refine rk_iconst (v := 1) dL_weights_16 (by decide) ?_
    exact rk_iret rfl dL_weights_17 ⟨(Nat.le_of_ble_eq_true rfl), (Nat.le_of_ble_eq_true rfl)⟩ (lPo.thr (k := 1) e (by decide) k1 fr ho hn)
theorem lk_weightScale (C : cT) (n : Nat) (h : rk_H) {fs : List Value} (hca : h C.a = some (oB 5 fs)) (res : oR) (hI : oVoid res 1) (x0 : UInt64) (con : rk_Con mT_weightScale (8, 107, 1, 6) [.ref C.a, .double x0] h (cPost h C n res (exL [x_IA]))) : rk_Con mL_weightScale (10, 160, 9, 186) [.ref C.a, .double x0] h (wPo h C n res) := by
  refine rk_Con.of [some (.ref C.a), some (.double x0), none, none] rfl (Nat.le_of_ble_eq_true rfl) (by decide +kernel) ?_
  refine rk_aload_n dL_weightScale_0 rfl ?_
  refine rk_dload_n dL_weightScale_1 rfl ?_
  refine rk_cvG con cL_15 dL_weightScale_2 rfl lT_weightScale (Nat.le_of_ble_eq_true rfl) (Nat.le_of_ble_eq_true rfl) (Nat.le_of_ble_eq_true rfl) (Nat.le_of_ble_eq_true rfl) hca ?_
  rintro r h1 ⟨⟨C1, k1, fr⟩, rfl⟩
  rcases hI with ⟨e0, ev⟩ | ⟨e1, e3⟩
  · rw [if_pos e0, ev]
    refine rk_nx0 ?_
    refine rk_goto 11 dL_weightScale_5 (by decide) ?_
    refine rk_iconst (v := 0) dL_weightScale_11 (by decide) ?_
    exact rk_iret rfl dL_weightScale_12 ⟨(Nat.le_of_ble_eq_true rfl), (Nat.le_of_ble_eq_true rfl)⟩ (⟨by rw [e0]; rfl, C1, k1, fr⟩)
  · rw [if_neg (by omega)]
    have e : res.1 = 1 := by omega
    rw [e]
    refine rk_nxc 8 rfl (by decide +kernel) (by decide +kernel) (List.forall_mem_cons.mpr ⟨⟨by decide, by decide +kernel, hL_13⟩, fun _ q => absurd q List.not_mem_nil⟩) (fun a => ?_)
    refine rk_astore_n dL_weightScale_8 (Nat.le_of_ble_eq_true rfl) ?_
    refine rk_iconst (v := 1) dL_weightScale_9 (by decide) ?_
    exact rk_iret rfl dL_weightScale_10 ⟨(Nat.le_of_ble_eq_true rfl), (Nat.le_of_ble_eq_true rfl)⟩ (⟨by rw [e]; rfl, C1, k1, fr⟩)
theorem lk_output (C : cT) (n : Nat) (h : rk_H) {fs : List Value} (hca : h C.a = some (oB 5 fs)) (res : oR) (hI : oInt res 1) (x0 : Int32) (con : rk_Con mT_output (9, 121, 1, 6) [.ref C.a, .int x0] h (cPost h C n res (exL [x_IA]))) (o : Nat) (f : Nat → Int64) (ho : h o = some (lA 1 f)) (hn : ¬ own C n o) : rk_Con mL_output (10, 160, 9, 186) [.ref C.a, .int x0, .ref o] h (lPo h C n o (eL res) res) := by
  refine rk_Con.of [some (.ref C.a), some (.int x0), some (.ref o), none] rfl (Nat.le_of_ble_eq_true rfl) (by decide +kernel) ?_
  refine rk_aload_n dL_output_0 rfl ?_
  refine rk_iconst (v := 0) dL_output_1 (by decide) ?_
  refine rk_aload_n dL_output_2 rfl ?_
  refine rk_iload_n dL_output_3 rfl ?_
  refine rk_cvG con cL_58 dL_output_4 rfl lT_output (Nat.le_of_ble_eq_true rfl) (Nat.le_of_ble_eq_true rfl) (Nat.le_of_ble_eq_true rfl) (Nat.le_of_ble_eq_true rfl) hca ?_
  rintro r h1 ⟨⟨C1, k1, fr⟩, rfl⟩
  rcases hI with ⟨e0, v, ev⟩ | ⟨e1, e3⟩
  · rw [if_pos e0, ev]
    refine rk_nxv ?_
    refine rk_i2l dL_output_7 ?_
    refine rk_last dL_output_8 (by first | exact fr.2.1 _ _ ho hn | assumption) (by first | exact vp00 | assumption) ?_
    refine rk_goto 15 dL_output_9 (by decide) ?_
    refine rk_iconst (v := 0) dL_output_15 (by decide) ?_
    exact rk_iret rfl dL_output_16 ⟨(Nat.le_of_ble_eq_true rfl), (Nat.le_of_ble_eq_true rfl)⟩ (lPo.ok e0 ev k1 fr ho hn)
  · rw [if_neg (by omega)]
    have e : res.1 = 1 := by omega
    rw [e]
    refine rk_nxc 12 rfl (by decide +kernel) (by decide +kernel) (List.forall_mem_cons.mpr ⟨⟨by decide, by decide +kernel, hL_13⟩, fun _ q => absurd q List.not_mem_nil⟩) (fun a => ?_)
    refine rk_astore_n dL_output_12 (Nat.le_of_ble_eq_true rfl) ?_
    refine rk_iconst (v := 1) dL_output_13 (by decide) ?_
    exact rk_iret rfl dL_output_14 ⟨(Nat.le_of_ble_eq_true rfl), (Nat.le_of_ble_eq_true rfl)⟩ (lPo.thr (k := 1) e (by decide) k1 fr ho hn)
theorem lk_compile (C : cT) (n : Nat) (h : rk_H) {fs : List Value} (hca : h C.a = some (oB 5 fs)) (res : oR) (hI : oInt res 1)  (con : rk_Con mT_compile (6, 87, 1, 6) [.ref C.a] h (cPost h C n res (exL [x_IS]))) (o : Nat) (f : Nat → Int64) (ho : h o = some (lA 1 f)) (hn : ¬ own C n o) : rk_Con mL_compile (10, 160, 9, 186) [.ref C.a, .ref o] h (lPo h C n o (eL res) res) := by
  refine rk_Con.of [some (.ref C.a), some (.ref o), none] rfl (Nat.le_of_ble_eq_true rfl) (by decide +kernel) ?_
  refine rk_aload_n dL_compile_0 rfl ?_
  refine rk_iconst (v := 0) dL_compile_1 (by decide) ?_
  refine rk_aload_n dL_compile_2 rfl ?_
  refine rk_cvG con cL_62 dL_compile_3 rfl lT_compile (Nat.le_of_ble_eq_true rfl) (Nat.le_of_ble_eq_true rfl) (Nat.le_of_ble_eq_true rfl) (Nat.le_of_ble_eq_true rfl) hca ?_
  rintro r h1 ⟨⟨C1, k1, fr⟩, rfl⟩
  rcases hI with ⟨e0, v, ev⟩ | ⟨e1, e3⟩
  · rw [if_pos e0, ev]
    refine rk_nxv ?_
    refine rk_i2l dL_compile_6 ?_
    refine rk_last dL_compile_7 (by first | exact fr.2.1 _ _ ho hn | assumption) (by first | exact vp00 | assumption) ?_
    refine rk_goto 14 dL_compile_8 (by decide) ?_
    refine rk_iconst (v := 0) dL_compile_14 (by decide) ?_
    exact rk_iret rfl dL_compile_15 ⟨(Nat.le_of_ble_eq_true rfl), (Nat.le_of_ble_eq_true rfl)⟩ (lPo.ok e0 ev k1 fr ho hn)
  · rw [if_neg (by omega)]
    have e : res.1 = 1 := by omega
    rw [e]
    refine rk_nxc 11 rfl (by decide +kernel) (by decide +kernel) (List.forall_mem_cons.mpr ⟨⟨by decide, by decide +kernel, hL_23⟩, fun _ q => absurd q List.not_mem_nil⟩) (fun a => ?_)
    refine rk_astore_n dL_compile_11 (Nat.le_of_ble_eq_true rfl) ?_
    refine rk_iconst (v := 1) dL_compile_12 (by decide) ?_
    exact rk_iret rfl dL_compile_13 ⟨(Nat.le_of_ble_eq_true rfl), (Nat.le_of_ble_eq_true rfl)⟩ (lPo.thr (k := 1) e (by decide) k1 fr ho hn)
theorem lk_feed (C : cT) (n : Nat) (h : rk_H) {fs : List Value} (hca : h C.a = some (oB 5 fs)) (res : oR) (hI : oInt res 1) (x0 : Int32) (x1 : Int32) (x2 : Int64) (con : rk_Con mT_feed (9, 121, 3, 18) [.ref C.a, .int x0, .int x1, .long x2] h (cPost h C n res (exL [x_IA]))) (o : Nat) (f : Nat → Int64) (ho : h o = some (lA 1 f)) (hn : ¬ own C n o) : rk_Con mL_feed (10, 160, 9, 186) [.ref C.a, .int x0, .int x1, .long x2, .ref o] h (lPo h C n o (eL res) res) := by
  refine rk_Con.of [some (.ref C.a), some (.int x0), some (.int x1), some (.long x2), none, some (.ref o), none] rfl (Nat.le_of_ble_eq_true rfl) (by decide +kernel) ?_
  refine rk_aload dL_feed_0 rfl ?_
  refine rk_iconst (v := 0) dL_feed_2 (by decide) ?_
  refine rk_aload_n dL_feed_3 rfl ?_
  refine rk_iload_n dL_feed_4 rfl ?_
  refine rk_iload_n dL_feed_5 rfl ?_
  refine rk_lload_n dL_feed_6 rfl ?_
  refine rk_cvG con cL_66 dL_feed_7 rfl lT_feed (Nat.le_of_ble_eq_true rfl) (Nat.le_of_ble_eq_true rfl) (Nat.le_of_ble_eq_true rfl) (Nat.le_of_ble_eq_true rfl) hca ?_
  rintro r h1 ⟨⟨C1, k1, fr⟩, rfl⟩
  rcases hI with ⟨e0, v, ev⟩ | ⟨e1, e3⟩
  · rw [if_pos e0, ev]
    refine rk_nxv ?_
    refine rk_i2l dL_feed_10 ?_
    refine rk_last dL_feed_11 (by first | exact fr.2.1 _ _ ho hn | assumption) (by first | exact vp00 | assumption) ?_
    refine rk_goto 19 dL_feed_12 (by decide) ?_
    refine rk_iconst (v := 0) dL_feed_19 (by decide) ?_
    exact rk_iret rfl dL_feed_20 ⟨(Nat.le_of_ble_eq_true rfl), (Nat.le_of_ble_eq_true rfl)⟩ (lPo.ok e0 ev k1 fr ho hn)
  · rw [if_neg (by omega)]
    have e : res.1 = 1 := by omega
    rw [e]
    refine rk_nxc 15 rfl (by decide +kernel) (by decide +kernel) (List.forall_mem_cons.mpr ⟨⟨by decide, by decide +kernel, hL_13⟩, fun _ q => absurd q List.not_mem_nil⟩) (fun a => ?_)
    refine rk_astore dL_feed_15 (Nat.le_of_ble_eq_true rfl) ?_
    refine rk_iconst (v := 1) dL_feed_17 (by decide) ?_
    exact rk_iret rfl dL_feed_18 ⟨(Nat.le_of_ble_eq_true rfl), (Nat.le_of_ble_eq_true rfl)⟩ (lPo.thr (k := 1) e (by decide) k1 fr ho hn)
theorem lk_run (C : cT) (n : Nat) (h : rk_H) {fs : List Value} (hca : h C.a = some (oB 5 fs)) (res : oR) (hI : oInt res 3) (x0 : Int32) (con : rk_Con mT_run (7, 126, 3, 18) [.ref C.a, .int x0] h (cPost h C n res (exL [x_IA, x_IS, x_UO]))) (o : Nat) (f : Nat → Int64) (ho : h o = some (lA 1 f)) (hn : ¬ own C n o) : rk_Con mL_run (10, 160, 9, 186) [.ref C.a, .int x0, .ref o] h (lPo h C n o (eL res) res) := by
  refine rk_Con.of [some (.ref C.a), some (.int x0), some (.ref o), none] rfl (Nat.le_of_ble_eq_true rfl) (by decide +kernel) ?_
  refine rk_aload_n dL_run_0 rfl ?_
  refine rk_iconst (v := 0) dL_run_1 (by decide) ?_
  refine rk_aload_n dL_run_2 rfl ?_
  refine rk_iload_n dL_run_3 rfl ?_
  refine rk_cvG con cL_70 dL_run_4 rfl lT_run (Nat.le_of_ble_eq_true rfl) (Nat.le_of_ble_eq_true rfl) (Nat.le_of_ble_eq_true rfl) (Nat.le_of_ble_eq_true rfl) hca ?_
  rintro r h1 ⟨⟨C1, k1, fr⟩, rfl⟩
  rcases hI with ⟨e0, v, ev⟩ | ⟨e1, e3⟩
  · rw [if_pos e0, ev]
    refine rk_nxv ?_
    refine rk_i2l dL_run_7 ?_
    refine rk_last dL_run_8 (by first | exact fr.2.1 _ _ ho hn | assumption) (by first | exact vp00 | assumption) ?_
    refine rk_goto 21 dL_run_9 (by decide) ?_
    refine rk_iconst (v := 0) dL_run_21 (by decide) ?_
    exact rk_iret rfl dL_run_22 ⟨(Nat.le_of_ble_eq_true rfl), (Nat.le_of_ble_eq_true rfl)⟩ (lPo.ok e0 ev k1 fr ho hn)
  · rw [if_neg (by omega)]
    rcases (show res.1 = 1 ∨ res.1 = 2 ∨ res.1 = 3 by omega) with e | e | e
    · rw [e]
      refine rk_nxc 12 rfl (by decide +kernel) (by decide +kernel) (List.forall_mem_cons.mpr ⟨⟨by decide, by decide +kernel, hL_13⟩, List.forall_mem_cons.mpr ⟨⟨by decide, by decide +kernel, hL_23⟩, List.forall_mem_cons.mpr ⟨⟨by decide, by decide +kernel, hL_73⟩, fun _ q => absurd q List.not_mem_nil⟩⟩⟩) (fun a => ?_)
      refine rk_astore_n dL_run_12 (Nat.le_of_ble_eq_true rfl) ?_
      refine rk_iconst (v := 1) dL_run_13 (by decide) ?_
      exact rk_iret rfl dL_run_14 ⟨(Nat.le_of_ble_eq_true rfl), (Nat.le_of_ble_eq_true rfl)⟩ (lPo.thr (k := 1) e (by decide) k1 fr ho hn)
    · rw [e]
      refine rk_nxc 15 rfl (by decide +kernel) (by decide +kernel) (List.forall_mem_cons.mpr ⟨⟨by decide, by decide +kernel, hL_13⟩, List.forall_mem_cons.mpr ⟨⟨by decide, by decide +kernel, hL_23⟩, List.forall_mem_cons.mpr ⟨⟨by decide, by decide +kernel, hL_73⟩, fun _ q => absurd q List.not_mem_nil⟩⟩⟩) (fun a => ?_)
      refine rk_astore_n dL_run_15 (Nat.le_of_ble_eq_true rfl) ?_
      refine rk_iconst (v := 2) dL_run_16 (by decide) ?_
      exact rk_iret rfl dL_run_17 ⟨(Nat.le_of_ble_eq_true rfl), (Nat.le_of_ble_eq_true rfl)⟩ (lPo.thr (k := 2) e (by decide) k1 fr ho hn)
    · rw [e]
      refine rk_nxc 18 rfl (by decide +kernel) (by decide +kernel) (List.forall_mem_cons.mpr ⟨⟨by decide, by decide +kernel, hL_13⟩, List.forall_mem_cons.mpr ⟨⟨by decide, by decide +kernel, hL_23⟩, List.forall_mem_cons.mpr ⟨⟨by decide, by decide +kernel, hL_73⟩, fun _ q => absurd q List.not_mem_nil⟩⟩⟩) (fun a => ?_)
      refine rk_astore_n dL_run_18 (Nat.le_of_ble_eq_true rfl) ?_
      refine rk_iconst (v := 3) dL_run_19 (by decide) ?_
      exact rk_iret rfl dL_run_20 ⟨(Nat.le_of_ble_eq_true rfl), (Nat.le_of_ble_eq_true rfl)⟩ (lPo.thr (k := 3) e (by decide) k1 fr ho hn)
theorem lk_arena (C : cT) (n : Nat) (h : rk_H) {fs : List Value} (hca : h C.a = some (oB 5 fs)) (res : oR) (hI : oInt res 1) (x0 : Int32) (con : rk_Con mT_arena (7, 94, 1, 6) [.ref C.a, .int x0] h (cPost h C n res (exL [x_NS]))) (o : Nat) (f : Nat → Int64) (ho : h o = some (lA 1 f)) (hn : ¬ own C n o) : rk_Con mL_arena (10, 160, 9, 186) [.ref C.a, .int x0, .ref o] h (lPo h C n o (eL res) res) := by
  refine rk_Con.of [some (.ref C.a), some (.int x0), some (.ref o), none] rfl (Nat.le_of_ble_eq_true rfl) (by decide +kernel) ?_
  refine rk_aload_n dL_arena_0 rfl ?_
  refine rk_iconst (v := 0) dL_arena_1 (by decide) ?_
  refine rk_aload_n dL_arena_2 rfl ?_
  refine rk_iload_n dL_arena_3 rfl ?_
  refine rk_cvG con cL_75 dL_arena_4 rfl lT_arena (Nat.le_of_ble_eq_true rfl) (Nat.le_of_ble_eq_true rfl) (Nat.le_of_ble_eq_true rfl) (Nat.le_of_ble_eq_true rfl) hca ?_
  rintro r h1 ⟨⟨C1, k1, fr⟩, rfl⟩
  rcases hI with ⟨e0, v, ev⟩ | ⟨e1, e3⟩
  · rw [if_pos e0, ev]
    refine rk_nxv ?_
    refine rk_i2l dL_arena_7 ?_
    refine rk_last dL_arena_8 (by first | exact fr.2.1 _ _ ho hn | assumption) (by first | exact vp00 | assumption) ?_
    refine rk_goto 15 dL_arena_9 (by decide) ?_
    refine rk_iconst (v := 0) dL_arena_15 (by decide) ?_
    exact rk_iret rfl dL_arena_16 ⟨(Nat.le_of_ble_eq_true rfl), (Nat.le_of_ble_eq_true rfl)⟩ (lPo.ok e0 ev k1 fr ho hn)
  · rw [if_neg (by omega)]
    have e : res.1 = 1 := by omega
    rw [e]
    refine rk_nxc 12 rfl (by decide +kernel) (by decide +kernel) (List.forall_mem_cons.mpr ⟨⟨by decide, by decide +kernel, hL_78⟩, fun _ q => absurd q List.not_mem_nil⟩) (fun a => ?_)
    refine rk_astore_n dL_arena_12 (Nat.le_of_ble_eq_true rfl) ?_
    refine rk_iconst (v := 1) dL_arena_13 (by decide) ?_
    exact rk_iret rfl dL_arena_14 ⟨(Nat.le_of_ble_eq_true rfl), (Nat.le_of_ble_eq_true rfl)⟩ (lPo.thr (k := 1) e (by decide) k1 fr ho hn)
theorem lk_result (C : cT) (n : Nat) (h : rk_H) {fs : List Value} (hca : h C.a = some (oB 5 fs)) (res : oR) (hI : oDbl res 1) (x0 : Int32) (con : rk_Con mT_result (7, 94, 1, 6) [.ref C.a, .int x0] h (cPost h C n res (exL [x_NS]))) (o : Nat) (f : Nat → UInt64) (ho : h o = some (dA 1 f)) (hn : ¬ own C n o) : rk_Con mL_result (10, 160, 9, 186) [.ref C.a, .int x0, .ref o] h (lPo h C n o (eD res) res) := by
  refine rk_Con.of [some (.ref C.a), some (.int x0), some (.ref o), none] rfl (Nat.le_of_ble_eq_true rfl) (by decide +kernel) ?_
  refine rk_aload_n dL_result_0 rfl ?_
  refine rk_iconst (v := 0) dL_result_1 (by decide) ?_
  refine rk_aload_n dL_result_2 rfl ?_
  refine rk_iload_n dL_result_3 rfl ?_
  refine rk_cvG con cL_80 dL_result_4 rfl lT_result (Nat.le_of_ble_eq_true rfl) (Nat.le_of_ble_eq_true rfl) (Nat.le_of_ble_eq_true rfl) (Nat.le_of_ble_eq_true rfl) hca ?_
  rintro r h1 ⟨⟨C1, k1, fr⟩, rfl⟩
  rcases hI with ⟨e0, v, ev⟩ | ⟨e1, e3⟩
  · rw [if_pos e0, ev]
    refine rk_nxv ?_
    refine rk_dast dL_result_7 (by first | exact fr.2.1 _ _ ho hn | assumption) (by first | exact vp00 | assumption) ?_
    refine rk_goto 14 dL_result_8 (by decide) ?_
    refine rk_iconst (v := 0) dL_result_14 (by decide) ?_
    exact rk_iret rfl dL_result_15 ⟨(Nat.le_of_ble_eq_true rfl), (Nat.le_of_ble_eq_true rfl)⟩ (lPo.okd e0 ev k1 fr ho hn)
  · rw [if_neg (by omega)]
    have e : res.1 = 1 := by omega
    rw [e]
    refine rk_nxc 11 rfl (by decide +kernel) (by decide +kernel) (List.forall_mem_cons.mpr ⟨⟨by decide, by decide +kernel, hL_78⟩, fun _ q => absurd q List.not_mem_nil⟩) (fun a => ?_)
    refine rk_astore_n dL_result_11 (Nat.le_of_ble_eq_true rfl) ?_
    refine rk_iconst (v := 1) dL_result_12 (by decide) ?_
    exact rk_iret rfl dL_result_13 ⟨(Nat.le_of_ble_eq_true rfl), (Nat.le_of_ble_eq_true rfl)⟩ (lPo.thd (k := 1) e (by decide) k1 fr ho hn)
theorem lk_peak (C : cT) (n : Nat) (h : rk_H) {fs : List Value} (hca : h C.a = some (oB 5 fs)) (res : oR) (hI : oInt res 1)  (con : rk_Con mT_peak (7, 94, 1, 6) [.ref C.a] h (cPost h C n res (exL [x_IS]))) (o : Nat) (f : Nat → Int64) (ho : h o = some (lA 1 f)) (hn : ¬ own C n o) : rk_Con mL_peak (10, 160, 9, 186) [.ref C.a, .ref o] h (lPo h C n o (eL res) res) := by
  refine rk_Con.of [some (.ref C.a), some (.ref o), none] rfl (Nat.le_of_ble_eq_true rfl) (by decide +kernel) ?_
  refine rk_aload_n dL_peak_0 rfl ?_
  refine rk_iconst (v := 0) dL_peak_1 (by decide) ?_
  refine rk_aload_n dL_peak_2 rfl ?_
  refine rk_cvG con cL_87 dL_peak_3 rfl lT_peak (Nat.le_of_ble_eq_true rfl) (Nat.le_of_ble_eq_true rfl) (Nat.le_of_ble_eq_true rfl) (Nat.le_of_ble_eq_true rfl) hca ?_
  rintro r h1 ⟨⟨C1, k1, fr⟩, rfl⟩
  rcases hI with ⟨e0, v, ev⟩ | ⟨e1, e3⟩
  · rw [if_pos e0, ev]
    refine rk_nxv ?_
    refine rk_i2l dL_peak_6 ?_
    refine rk_last dL_peak_7 (by first | exact fr.2.1 _ _ ho hn | assumption) (by first | exact vp00 | assumption) ?_
    refine rk_goto 14 dL_peak_8 (by decide) ?_
    refine rk_iconst (v := 0) dL_peak_14 (by decide) ?_
    exact rk_iret rfl dL_peak_15 ⟨(Nat.le_of_ble_eq_true rfl), (Nat.le_of_ble_eq_true rfl)⟩ (lPo.ok e0 ev k1 fr ho hn)
  · rw [if_neg (by omega)]
    have e : res.1 = 1 := by omega
    rw [e]
    refine rk_nxc 11 rfl (by decide +kernel) (by decide +kernel) (List.forall_mem_cons.mpr ⟨⟨by decide, by decide +kernel, hL_23⟩, fun _ q => absurd q List.not_mem_nil⟩) (fun a => ?_)
    refine rk_astore_n dL_peak_11 (Nat.le_of_ble_eq_true rfl) ?_
    refine rk_iconst (v := 1) dL_peak_12 (by decide) ?_
    exact rk_iret rfl dL_peak_13 ⟨(Nat.le_of_ble_eq_true rfl), (Nat.le_of_ble_eq_true rfl)⟩ (lPo.thr (k := 1) e (by decide) k1 fr ho hn)
theorem lk_about (C : cT) (n : Nat) (h : rk_H) {fs : List Value} (hca : h C.a = some (oB 5 fs)) (res : oR) (hI : oInt res 3) (x0 : Int32) (x1 : Int32) (con : rk_Con mT_about (9, 121, 4, 24) [.ref C.a, .int x0, .int x1] h (cPost h C n res (exL [x_IA, x_IS, x_NS]))) (o : Nat) (f : Nat → Int64) (ho : h o = some (lA 1 f)) (hn : ¬ own C n o) : rk_Con mL_about (10, 160, 9, 186) [.ref C.a, .int x0, .int x1, .ref o] h (lPo h C n o (eL res) res) := by
  refine rk_Con.of [some (.ref C.a), some (.int x0), some (.int x1), some (.ref o), none] rfl (Nat.le_of_ble_eq_true rfl) (by decide +kernel) ?_
  refine rk_aload_n dL_about_0 rfl ?_
  refine rk_iconst (v := 0) dL_about_1 (by decide) ?_
  refine rk_aload_n dL_about_2 rfl ?_
  refine rk_iload_n dL_about_3 rfl ?_
  refine rk_iload_n dL_about_4 rfl ?_
  refine rk_cvG con cL_84 dL_about_5 rfl lT_about (Nat.le_of_ble_eq_true rfl) (Nat.le_of_ble_eq_true rfl) (Nat.le_of_ble_eq_true rfl) (Nat.le_of_ble_eq_true rfl) hca ?_
  rintro r h1 ⟨⟨C1, k1, fr⟩, rfl⟩
  rcases hI with ⟨e0, v, ev⟩ | ⟨e1, e3⟩
  · rw [if_pos e0, ev]
    refine rk_nxv ?_
    refine rk_i2l dL_about_8 ?_
    refine rk_last dL_about_9 (by first | exact fr.2.1 _ _ ho hn | assumption) (by first | exact vp00 | assumption) ?_
    refine rk_goto 25 dL_about_10 (by decide) ?_
    refine rk_iconst (v := 0) dL_about_25 (by decide) ?_
    exact rk_iret rfl dL_about_26 ⟨(Nat.le_of_ble_eq_true rfl), (Nat.le_of_ble_eq_true rfl)⟩ (lPo.ok e0 ev k1 fr ho hn)
  · rw [if_neg (by omega)]
    rcases (show res.1 = 1 ∨ res.1 = 2 ∨ res.1 = 3 by omega) with e | e | e
    · rw [e]
      refine rk_nxc 13 rfl (by decide +kernel) (by decide +kernel) (List.forall_mem_cons.mpr ⟨⟨by decide, by decide +kernel, hL_13⟩, List.forall_mem_cons.mpr ⟨⟨by decide, by decide +kernel, hL_23⟩, List.forall_mem_cons.mpr ⟨⟨by decide, by decide +kernel, hL_78⟩, fun _ q => absurd q List.not_mem_nil⟩⟩⟩) (fun a => ?_)
      refine rk_astore dL_about_13 (Nat.le_of_ble_eq_true rfl) ?_
      refine rk_iconst (v := 1) dL_about_15 (by decide) ?_
      exact rk_iret rfl dL_about_16 ⟨(Nat.le_of_ble_eq_true rfl), (Nat.le_of_ble_eq_true rfl)⟩ (lPo.thr (k := 1) e (by decide) k1 fr ho hn)
    · rw [e]
      refine rk_nxc 17 rfl (by decide +kernel) (by decide +kernel) (List.forall_mem_cons.mpr ⟨⟨by decide, by decide +kernel, hL_13⟩, List.forall_mem_cons.mpr ⟨⟨by decide, by decide +kernel, hL_23⟩, List.forall_mem_cons.mpr ⟨⟨by decide, by decide +kernel, hL_78⟩, fun _ q => absurd q List.not_mem_nil⟩⟩⟩) (fun a => ?_)
      refine rk_astore dL_about_17 (Nat.le_of_ble_eq_true rfl) ?_
      refine rk_iconst (v := 2) dL_about_19 (by decide) ?_
      exact rk_iret rfl dL_about_20 ⟨(Nat.le_of_ble_eq_true rfl), (Nat.le_of_ble_eq_true rfl)⟩ (lPo.thr (k := 2) e (by decide) k1 fr ho hn)
    · rw [e]
      refine rk_nxc 21 rfl (by decide +kernel) (by decide +kernel) (List.forall_mem_cons.mpr ⟨⟨by decide, by decide +kernel, hL_13⟩, List.forall_mem_cons.mpr ⟨⟨by decide, by decide +kernel, hL_23⟩, List.forall_mem_cons.mpr ⟨⟨by decide, by decide +kernel, hL_78⟩, fun _ q => absurd q List.not_mem_nil⟩⟩⟩) (fun a => ?_)
      refine rk_astore dL_about_21 (Nat.le_of_ble_eq_true rfl) ?_
      refine rk_iconst (v := 3) dL_about_23 (by decide) ?_
      exact rk_iret rfl dL_about_24 ⟨(Nat.le_of_ble_eq_true rfl), (Nat.le_of_ble_eq_true rfl)⟩ (lPo.thr (k := 3) e (by decide) k1 fr ho hn)
theorem lk_input (C : cT) (n : Nat) (h : rk_H) {fs : List Value} (hca : h C.a = some (oB 5 fs)) (res : oR) (hI : oInt res 2) (x0 : Int32) (x1 : Int32) (x2 : Int32) (x3 : UInt64) (con : rk_Con mT_input (9, 122, 7, 180) [.ref C.a, .int x0, .int x1, .int x2, .double x3] h (cPost h C n res (exL [x_IA, x_IS]))) (o : Nat) (f : Nat → Int64) (ho : h o = some (lA 1 f)) (hn : ¬ own C n o) : rk_Con mL_input (10, 160, 9, 186) [.ref C.a, .int x0, .int x1, .int x2, .double x3, .ref o] h (lPo h C n o (eL res) res) := by
  refine rk_Con.of [some (.ref C.a), some (.int x0), some (.int x1), some (.int x2), some (.double x3), none, some (.ref o), none] rfl (Nat.le_of_ble_eq_true rfl) (by decide +kernel) ?_
  refine rk_aload dL_input_0 rfl ?_
  refine rk_iconst (v := 0) dL_input_2 (by decide) ?_
  refine rk_aload_n dL_input_3 rfl ?_
  refine rk_iload_n dL_input_4 rfl ?_
  refine rk_iload_n dL_input_5 rfl ?_
  refine rk_iload_n dL_input_6 rfl ?_
  refine rk_dload dL_input_7 rfl ?_
  refine rk_cvG con cL_19 dL_input_9 rfl lT_input (Nat.le_of_ble_eq_true rfl) (Nat.le_of_ble_eq_true rfl) (Nat.le_of_ble_eq_true rfl) (Nat.le_of_ble_eq_true rfl) hca ?_
  rintro r h1 ⟨⟨C1, k1, fr⟩, rfl⟩
  rcases hI with ⟨e0, v, ev⟩ | ⟨e1, e3⟩
  · rw [if_pos e0, ev]
    refine rk_nxv ?_
    refine rk_i2l dL_input_12 ?_
    refine rk_last dL_input_13 (by first | exact fr.2.1 _ _ ho hn | assumption) (by first | exact vp00 | assumption) ?_
    refine rk_goto 25 dL_input_14 (by decide) ?_
    refine rk_iconst (v := 0) dL_input_25 (by decide) ?_
    exact rk_iret rfl dL_input_26 ⟨(Nat.le_of_ble_eq_true rfl), (Nat.le_of_ble_eq_true rfl)⟩ (lPo.ok e0 ev k1 fr ho hn)
  · rw [if_neg (by omega)]
    rcases (show res.1 = 1 ∨ res.1 = 2 by omega) with e | e
    · rw [e]
      refine rk_nxc 17 rfl (by decide +kernel) (by decide +kernel) (List.forall_mem_cons.mpr ⟨⟨by decide, by decide +kernel, hL_13⟩, List.forall_mem_cons.mpr ⟨⟨by decide, by decide +kernel, hL_23⟩, fun _ q => absurd q List.not_mem_nil⟩⟩) (fun a => ?_)
      refine rk_astore dL_input_17 (Nat.le_of_ble_eq_true rfl) ?_
      refine rk_iconst (v := 1) dL_input_19 (by decide) ?_
      exact rk_iret rfl dL_input_20 ⟨(Nat.le_of_ble_eq_true rfl), (Nat.le_of_ble_eq_true rfl)⟩ (lPo.thr (k := 1) e (by decide) k1 fr ho hn)
    · rw [e]
      refine rk_nxc 21 rfl (by decide +kernel) (by decide +kernel) (List.forall_mem_cons.mpr ⟨⟨by decide, by decide +kernel, hL_13⟩, List.forall_mem_cons.mpr ⟨⟨by decide, by decide +kernel, hL_23⟩, fun _ q => absurd q List.not_mem_nil⟩⟩) (fun a => ?_)
      refine rk_astore dL_input_21 (Nat.le_of_ble_eq_true rfl) ?_
      refine rk_iconst (v := 2) dL_input_23 (by decide) ?_
      exact rk_iret rfl dL_input_24 ⟨(Nat.le_of_ble_eq_true rfl), (Nat.le_of_ble_eq_true rfl)⟩ (lPo.thr (k := 2) e (by decide) k1 fr ho hn)
theorem lk_reshape (C : cT) (n : Nat) (h : rk_H) {fs : List Value} (hca : h C.a = some (oB 5 fs)) (res : oR) (hI : oInt res 2) (x0 : Int32) (x1 : Int32) (x2 : Int32) (x3 : Int32) (con : rk_Con mT_reshape (9, 122, 8, 186) [.ref C.a, .int x0, .int x1, .int x2, .int x3] h (cPost h C n res (exL [x_IA, x_IS]))) (o : Nat) (f : Nat → Int64) (ho : h o = some (lA 1 f)) (hn : ¬ own C n o) : rk_Con mL_reshape (10, 160, 9, 186) [.ref C.a, .int x0, .int x1, .int x2, .int x3, .ref o] h (lPo h C n o (eL res) res) := by
  refine rk_Con.of [some (.ref C.a), some (.int x0), some (.int x1), some (.int x2), some (.int x3), some (.ref o), none] rfl (Nat.le_of_ble_eq_true rfl) (by decide +kernel) ?_
  refine rk_aload dL_reshape_0 rfl ?_
  refine rk_iconst (v := 0) dL_reshape_2 (by decide) ?_
  refine rk_aload_n dL_reshape_3 rfl ?_
  refine rk_iload_n dL_reshape_4 rfl ?_
  refine rk_iload_n dL_reshape_5 rfl ?_
  refine rk_iload_n dL_reshape_6 rfl ?_
  refine rk_iload dL_reshape_7 rfl ?_
  refine rk_cvG con cL_42 dL_reshape_9 rfl lT_reshape (Nat.le_of_ble_eq_true rfl) (Nat.le_of_ble_eq_true rfl) (Nat.le_of_ble_eq_true rfl) (Nat.le_of_ble_eq_true rfl) hca ?_
  rintro r h1 ⟨⟨C1, k1, fr⟩, rfl⟩
  rcases hI with ⟨e0, v, ev⟩ | ⟨e1, e3⟩
  · rw [if_pos e0, ev]
    refine rk_nxv ?_
    refine rk_i2l dL_reshape_12 ?_
    refine rk_last dL_reshape_13 (by first | exact fr.2.1 _ _ ho hn | assumption) (by first | exact vp00 | assumption) ?_
    refine rk_goto 25 dL_reshape_14 (by decide) ?_
    refine rk_iconst (v := 0) dL_reshape_25 (by decide) ?_
    exact rk_iret rfl dL_reshape_26 ⟨(Nat.le_of_ble_eq_true rfl), (Nat.le_of_ble_eq_true rfl)⟩ (lPo.ok e0 ev k1 fr ho hn)
  · rw [if_neg (by omega)]
    rcases (show res.1 = 1 ∨ res.1 = 2 by omega) with e | e
    · rw [e]
      refine rk_nxc 17 rfl (by decide +kernel) (by decide +kernel) (List.forall_mem_cons.mpr ⟨⟨by decide, by decide +kernel, hL_13⟩, List.forall_mem_cons.mpr ⟨⟨by decide, by decide +kernel, hL_23⟩, fun _ q => absurd q List.not_mem_nil⟩⟩) (fun a => ?_)
      refine rk_astore dL_reshape_17 (Nat.le_of_ble_eq_true rfl) ?_
      refine rk_iconst (v := 1) dL_reshape_19 (by decide) ?_
      exact rk_iret rfl dL_reshape_20 ⟨(Nat.le_of_ble_eq_true rfl), (Nat.le_of_ble_eq_true rfl)⟩ (lPo.thr (k := 1) e (by decide) k1 fr ho hn)
    · rw [e]
      refine rk_nxc 21 rfl (by decide +kernel) (by decide +kernel) (List.forall_mem_cons.mpr ⟨⟨by decide, by decide +kernel, hL_13⟩, List.forall_mem_cons.mpr ⟨⟨by decide, by decide +kernel, hL_23⟩, fun _ q => absurd q List.not_mem_nil⟩⟩) (fun a => ?_)
      refine rk_astore dL_reshape_21 (Nat.le_of_ble_eq_true rfl) ?_
      refine rk_iconst (v := 2) dL_reshape_23 (by decide) ?_
      exact rk_iret rfl dL_reshape_24 ⟨(Nat.le_of_ble_eq_true rfl), (Nat.le_of_ble_eq_true rfl)⟩ (lPo.thr (k := 2) e (by decide) k1 fr ho hn)
theorem lk_clamp (C : cT) (n : Nat) (h : rk_H) {fs : List Value} (hca : h C.a = some (oB 5 fs)) (res : oR) (hI : oInt res 2) (x0 : Int32) (x1 : Int32) (x2 : Int32) (con : rk_Con mT_clamp (9, 121, 6, 168) [.ref C.a, .int x0, .int x1, .int x2] h (cPost h C n res (exL [x_IA, x_IS]))) (o : Nat) (f : Nat → Int64) (ho : h o = some (lA 1 f)) (hn : ¬ own C n o) : rk_Con mL_clamp (10, 160, 9, 186) [.ref C.a, .int x0, .int x1, .int x2, .ref o] h (lPo h C n o (eL res) res) := by
  refine rk_Con.of [some (.ref C.a), some (.int x0), some (.int x1), some (.int x2), some (.ref o), none] rfl (Nat.le_of_ble_eq_true rfl) (by decide +kernel) ?_
  refine rk_aload dL_clamp_0 rfl ?_
  refine rk_iconst (v := 0) dL_clamp_2 (by decide) ?_
  refine rk_aload_n dL_clamp_3 rfl ?_
  refine rk_iload_n dL_clamp_4 rfl ?_
  refine rk_iload_n dL_clamp_5 rfl ?_
  refine rk_iload_n dL_clamp_6 rfl ?_
  refine rk_cvG con cL_50 dL_clamp_7 rfl lT_clamp (Nat.le_of_ble_eq_true rfl) (Nat.le_of_ble_eq_true rfl) (Nat.le_of_ble_eq_true rfl) (Nat.le_of_ble_eq_true rfl) hca ?_
  rintro r h1 ⟨⟨C1, k1, fr⟩, rfl⟩
  rcases hI with ⟨e0, v, ev⟩ | ⟨e1, e3⟩
  · rw [if_pos e0, ev]
    refine rk_nxv ?_
    refine rk_i2l dL_clamp_10 ?_
    refine rk_last dL_clamp_11 (by first | exact fr.2.1 _ _ ho hn | assumption) (by first | exact vp00 | assumption) ?_
    refine rk_goto 23 dL_clamp_12 (by decide) ?_
    refine rk_iconst (v := 0) dL_clamp_23 (by decide) ?_
    exact rk_iret rfl dL_clamp_24 ⟨(Nat.le_of_ble_eq_true rfl), (Nat.le_of_ble_eq_true rfl)⟩ (lPo.ok e0 ev k1 fr ho hn)
  · rw [if_neg (by omega)]
    rcases (show res.1 = 1 ∨ res.1 = 2 by omega) with e | e
    · rw [e]
      refine rk_nxc 15 rfl (by decide +kernel) (by decide +kernel) (List.forall_mem_cons.mpr ⟨⟨by decide, by decide +kernel, hL_13⟩, List.forall_mem_cons.mpr ⟨⟨by decide, by decide +kernel, hL_23⟩, fun _ q => absurd q List.not_mem_nil⟩⟩) (fun a => ?_)
      refine rk_astore dL_clamp_15 (Nat.le_of_ble_eq_true rfl) ?_
      refine rk_iconst (v := 1) dL_clamp_17 (by decide) ?_
      exact rk_iret rfl dL_clamp_18 ⟨(Nat.le_of_ble_eq_true rfl), (Nat.le_of_ble_eq_true rfl)⟩ (lPo.thr (k := 1) e (by decide) k1 fr ho hn)
    · rw [e]
      refine rk_nxc 19 rfl (by decide +kernel) (by decide +kernel) (List.forall_mem_cons.mpr ⟨⟨by decide, by decide +kernel, hL_13⟩, List.forall_mem_cons.mpr ⟨⟨by decide, by decide +kernel, hL_23⟩, fun _ q => absurd q List.not_mem_nil⟩⟩) (fun a => ?_)
      refine rk_astore dL_clamp_19 (Nat.le_of_ble_eq_true rfl) ?_
      refine rk_iconst (v := 2) dL_clamp_21 (by decide) ?_
      exact rk_iret rfl dL_clamp_22 ⟨(Nat.le_of_ble_eq_true rfl), (Nat.le_of_ble_eq_true rfl)⟩ (lPo.thr (k := 2) e (by decide) k1 fr ho hn)
theorem lk_concat (C : cT) (n : Nat) (h : rk_H) {fs : List Value} (hca : h C.a = some (oB 5 fs)) (res : oR) (hI : oInt res 2) (x0 : Int32) (x1 : Int32) (con : rk_Con mT_concat (9, 121, 7, 174) [.ref C.a, .int x0, .int x1] h (cPost h C n res (exL [x_IA, x_IS]))) (o : Nat) (f : Nat → Int64) (ho : h o = some (lA 1 f)) (hn : ¬ own C n o) : rk_Con mL_concat (10, 160, 9, 186) [.ref C.a, .int x0, .int x1, .ref o] h (lPo h C n o (eL res) res) := by
  refine rk_Con.of [some (.ref C.a), some (.int x0), some (.int x1), some (.ref o), none] rfl (Nat.le_of_ble_eq_true rfl) (by decide +kernel) ?_
  refine rk_aload_n dL_concat_0 rfl ?_
  refine rk_iconst (v := 0) dL_concat_1 (by decide) ?_
  refine rk_aload_n dL_concat_2 rfl ?_
  refine rk_iload_n dL_concat_3 rfl ?_
  refine rk_iload_n dL_concat_4 rfl ?_
  refine rk_cvG con cL_38 dL_concat_5 rfl lT_concat (Nat.le_of_ble_eq_true rfl) (Nat.le_of_ble_eq_true rfl) (Nat.le_of_ble_eq_true rfl) (Nat.le_of_ble_eq_true rfl) hca ?_
  rintro r h1 ⟨⟨C1, k1, fr⟩, rfl⟩
  rcases hI with ⟨e0, v, ev⟩ | ⟨e1, e3⟩
  · rw [if_pos e0, ev]
    refine rk_nxv ?_
    refine rk_i2l dL_concat_8 ?_
    refine rk_last dL_concat_9 (by first | exact fr.2.1 _ _ ho hn | assumption) (by first | exact vp00 | assumption) ?_
    refine rk_goto 21 dL_concat_10 (by decide) ?_
    refine rk_iconst (v := 0) dL_concat_21 (by decide) ?_
    exact rk_iret rfl dL_concat_22 ⟨(Nat.le_of_ble_eq_true rfl), (Nat.le_of_ble_eq_true rfl)⟩ (lPo.ok e0 ev k1 fr ho hn)
  · rw [if_neg (by omega)]
    rcases (show res.1 = 1 ∨ res.1 = 2 by omega) with e | e
    · rw [e]
      refine rk_nxc 13 rfl (by decide +kernel) (by decide +kernel) (List.forall_mem_cons.mpr ⟨⟨by decide, by decide +kernel, hL_13⟩, List.forall_mem_cons.mpr ⟨⟨by decide, by decide +kernel, hL_23⟩, fun _ q => absurd q List.not_mem_nil⟩⟩) (fun a => ?_)
      refine rk_astore dL_concat_13 (Nat.le_of_ble_eq_true rfl) ?_
      refine rk_iconst (v := 1) dL_concat_15 (by decide) ?_
      exact rk_iret rfl dL_concat_16 ⟨(Nat.le_of_ble_eq_true rfl), (Nat.le_of_ble_eq_true rfl)⟩ (lPo.thr (k := 1) e (by decide) k1 fr ho hn)
    · rw [e]
      refine rk_nxc 17 rfl (by decide +kernel) (by decide +kernel) (List.forall_mem_cons.mpr ⟨⟨by decide, by decide +kernel, hL_13⟩, List.forall_mem_cons.mpr ⟨⟨by decide, by decide +kernel, hL_23⟩, fun _ q => absurd q List.not_mem_nil⟩⟩) (fun a => ?_)
      refine rk_astore dL_concat_17 (Nat.le_of_ble_eq_true rfl) ?_
      refine rk_iconst (v := 2) dL_concat_19 (by decide) ?_
      exact rk_iret rfl dL_concat_20 ⟨(Nat.le_of_ble_eq_true rfl), (Nat.le_of_ble_eq_true rfl)⟩ (lPo.thr (k := 2) e (by decide) k1 fr ho hn)
theorem lk_pool (C : cT) (n : Nat) (h : rk_H) {fs : List Value} (hca : h C.a = some (oB 5 fs)) (res : oR) (hI : oInt res 2) (x0 : Int32) (x1 : Int32) (x2 : Int32) (con : rk_Con mT_pool (9, 121, 6, 168) [.ref C.a, .int x0, .int x1, .int x2] h (cPost h C n res (exL [x_IA, x_IS]))) (o : Nat) (f : Nat → Int64) (ho : h o = some (lA 1 f)) (hn : ¬ own C n o) : rk_Con mL_pool (10, 160, 9, 186) [.ref C.a, .int x0, .int x1, .int x2, .ref o] h (lPo h C n o (eL res) res) := by
  refine rk_Con.of [some (.ref C.a), some (.int x0), some (.int x1), some (.int x2), some (.ref o), none] rfl (Nat.le_of_ble_eq_true rfl) (by decide +kernel) ?_
  refine rk_aload dL_pool_0 rfl ?_
  refine rk_iconst (v := 0) dL_pool_2 (by decide) ?_
  refine rk_aload_n dL_pool_3 rfl ?_
  refine rk_iload_n dL_pool_4 rfl ?_
  refine rk_iload_n dL_pool_5 rfl ?_
  refine rk_iload_n dL_pool_6 rfl ?_
  refine rk_cvG con cL_46 dL_pool_7 rfl lT_pool (Nat.le_of_ble_eq_true rfl) (Nat.le_of_ble_eq_true rfl) (Nat.le_of_ble_eq_true rfl) (Nat.le_of_ble_eq_true rfl) hca ?_
  rintro r h1 ⟨⟨C1, k1, fr⟩, rfl⟩
  rcases hI with ⟨e0, v, ev⟩ | ⟨e1, e3⟩
  · rw [if_pos e0, ev]
    refine rk_nxv ?_
    refine rk_i2l dL_pool_10 ?_
    refine rk_last dL_pool_11 (by first | exact fr.2.1 _ _ ho hn | assumption) (by first | exact vp00 | assumption) ?_
    refine rk_goto 23 dL_pool_12 (by decide) ?_
    refine rk_iconst (v := 0) dL_pool_23 (by decide) ?_
    exact rk_iret rfl dL_pool_24 ⟨(Nat.le_of_ble_eq_true rfl), (Nat.le_of_ble_eq_true rfl)⟩ (lPo.ok e0 ev k1 fr ho hn)
  · rw [if_neg (by omega)]
    rcases (show res.1 = 1 ∨ res.1 = 2 by omega) with e | e
    · rw [e]
      refine rk_nxc 15 rfl (by decide +kernel) (by decide +kernel) (List.forall_mem_cons.mpr ⟨⟨by decide, by decide +kernel, hL_13⟩, List.forall_mem_cons.mpr ⟨⟨by decide, by decide +kernel, hL_23⟩, fun _ q => absurd q List.not_mem_nil⟩⟩) (fun a => ?_)
      refine rk_astore dL_pool_15 (Nat.le_of_ble_eq_true rfl) ?_
      refine rk_iconst (v := 1) dL_pool_17 (by decide) ?_
      exact rk_iret rfl dL_pool_18 ⟨(Nat.le_of_ble_eq_true rfl), (Nat.le_of_ble_eq_true rfl)⟩ (lPo.thr (k := 1) e (by decide) k1 fr ho hn)
    · rw [e]
      refine rk_nxc 19 rfl (by decide +kernel) (by decide +kernel) (List.forall_mem_cons.mpr ⟨⟨by decide, by decide +kernel, hL_13⟩, List.forall_mem_cons.mpr ⟨⟨by decide, by decide +kernel, hL_23⟩, fun _ q => absurd q List.not_mem_nil⟩⟩) (fun a => ?_)
      refine rk_astore dL_pool_19 (Nat.le_of_ble_eq_true rfl) ?_
      refine rk_iconst (v := 2) dL_pool_21 (by decide) ?_
      exact rk_iret rfl dL_pool_22 ⟨(Nat.le_of_ble_eq_true rfl), (Nat.le_of_ble_eq_true rfl)⟩ (lPo.thr (k := 2) e (by decide) k1 fr ho hn)
theorem lk_rescale (C : cT) (n : Nat) (h : rk_H) {fs : List Value} (hca : h C.a = some (oB 5 fs)) (res : oR) (hI : oInt res 3) (x0 : Int32) (x1 : UInt64) (con : rk_Con mT_rescale (9, 121, 6, 168) [.ref C.a, .int x0, .double x1] h (cPost h C n res (exL [x_IA, x_AR, x_IS]))) (o : Nat) (f : Nat → Int64) (ho : h o = some (lA 1 f)) (hn : ¬ own C n o) : rk_Con mL_rescale (10, 160, 9, 186) [.ref C.a, .int x0, .double x1, .ref o] h (lPo h C n o (eL res) res) := by
  refine rk_Con.of [some (.ref C.a), some (.int x0), some (.double x1), none, some (.ref o), none] rfl (Nat.le_of_ble_eq_true rfl) (by decide +kernel) ?_
  refine rk_aload dL_rescale_0 rfl ?_
  refine rk_iconst (v := 0) dL_rescale_2 (by decide) ?_
  refine rk_aload_n dL_rescale_3 rfl ?_
  refine rk_iload_n dL_rescale_4 rfl ?_
  refine rk_dload_n dL_rescale_5 rfl ?_
  refine rk_cvG con cL_54 dL_rescale_6 rfl lT_rescale (Nat.le_of_ble_eq_true rfl) (Nat.le_of_ble_eq_true rfl) (Nat.le_of_ble_eq_true rfl) (Nat.le_of_ble_eq_true rfl) hca ?_
  rintro r h1 ⟨⟨C1, k1, fr⟩, rfl⟩
  rcases hI with ⟨e0, v, ev⟩ | ⟨e1, e3⟩
  · rw [if_pos e0, ev]
    refine rk_nxv ?_
    refine rk_i2l dL_rescale_9 ?_
    refine rk_last dL_rescale_10 (by first | exact fr.2.1 _ _ ho hn | assumption) (by first | exact vp00 | assumption) ?_
    refine rk_goto 26 dL_rescale_11 (by decide) ?_
    refine rk_iconst (v := 0) dL_rescale_26 (by decide) ?_
    exact rk_iret rfl dL_rescale_27 ⟨(Nat.le_of_ble_eq_true rfl), (Nat.le_of_ble_eq_true rfl)⟩ (lPo.ok e0 ev k1 fr ho hn)
  · rw [if_neg (by omega)]
    rcases (show res.1 = 1 ∨ res.1 = 2 ∨ res.1 = 3 by omega) with e | e | e
    · rw [e]
      refine rk_nxc 14 rfl (by decide +kernel) (by decide +kernel) (List.forall_mem_cons.mpr ⟨⟨by decide, by decide +kernel, hL_13⟩, List.forall_mem_cons.mpr ⟨⟨by decide, by decide +kernel, hL_29⟩, List.forall_mem_cons.mpr ⟨⟨by decide, by decide +kernel, hL_23⟩, fun _ q => absurd q List.not_mem_nil⟩⟩⟩) (fun a => ?_)
      refine rk_astore dL_rescale_14 (Nat.le_of_ble_eq_true rfl) ?_
      refine rk_iconst (v := 1) dL_rescale_16 (by decide) ?_
      exact rk_iret rfl dL_rescale_17 ⟨(Nat.le_of_ble_eq_true rfl), (Nat.le_of_ble_eq_true rfl)⟩ (lPo.thr (k := 1) e (by decide) k1 fr ho hn)
    · rw [e]
      refine rk_nxc 18 rfl (by decide +kernel) (by decide +kernel) (List.forall_mem_cons.mpr ⟨⟨by decide, by decide +kernel, hL_13⟩, List.forall_mem_cons.mpr ⟨⟨by decide, by decide +kernel, hL_29⟩, List.forall_mem_cons.mpr ⟨⟨by decide, by decide +kernel, hL_23⟩, fun _ q => absurd q List.not_mem_nil⟩⟩⟩) (fun a => ?_)
      refine rk_astore dL_rescale_18 (Nat.le_of_ble_eq_true rfl) ?_
      refine rk_iconst (v := 2) dL_rescale_20 (by decide) ?_
      exact rk_iret rfl dL_rescale_21 ⟨(Nat.le_of_ble_eq_true rfl), (Nat.le_of_ble_eq_true rfl)⟩ (lPo.thr (k := 2) e (by decide) k1 fr ho hn)
    · rw [e]
      refine rk_nxc 22 rfl (by decide +kernel) (by decide +kernel) (List.forall_mem_cons.mpr ⟨⟨by decide, by decide +kernel, hL_13⟩, List.forall_mem_cons.mpr ⟨⟨by decide, by decide +kernel, hL_29⟩, List.forall_mem_cons.mpr ⟨⟨by decide, by decide +kernel, hL_23⟩, fun _ q => absurd q List.not_mem_nil⟩⟩⟩) (fun a => ?_)
      refine rk_astore dL_rescale_22 (Nat.le_of_ble_eq_true rfl) ?_
      refine rk_iconst (v := 3) dL_rescale_24 (by decide) ?_
      exact rk_iret rfl dL_rescale_25 ⟨(Nat.le_of_ble_eq_true rfl), (Nat.le_of_ble_eq_true rfl)⟩ (lPo.thr (k := 3) e (by decide) k1 fr ho hn)
theorem lk_add (C : cT) (n : Nat) (h : rk_H) {fs : List Value} (hca : h C.a = some (oB 5 fs)) (res : oR) (hI : oInt res 3) (x0 : Int32) (x1 : Int32) (x2 : UInt64) (con : rk_Con mT_add (9, 121, 9, 186) [.ref C.a, .int x0, .int x1, .double x2] h (cPost h C n res (exL [x_IA, x_AR, x_IS]))) (o : Nat) (f : Nat → Int64) (ho : h o = some (lA 1 f)) (hn : ¬ own C n o) : rk_Con mL_add (10, 160, 9, 186) [.ref C.a, .int x0, .int x1, .double x2, .ref o] h (lPo h C n o (eL res) res) := by
  refine rk_Con.of [some (.ref C.a), some (.int x0), some (.int x1), some (.double x2), none, some (.ref o), none] rfl (Nat.le_of_ble_eq_true rfl) (by decide +kernel) ?_
  refine rk_aload dL_add_0 rfl ?_
  refine rk_iconst (v := 0) dL_add_2 (by decide) ?_
  refine rk_aload_n dL_add_3 rfl ?_
  refine rk_iload_n dL_add_4 rfl ?_
  refine rk_iload_n dL_add_5 rfl ?_
  refine rk_dload_n dL_add_6 rfl ?_
  refine rk_cvG con cL_34 dL_add_7 rfl lT_add (Nat.le_of_ble_eq_true rfl) (Nat.le_of_ble_eq_true rfl) (Nat.le_of_ble_eq_true rfl) (Nat.le_of_ble_eq_true rfl) hca ?_
  rintro r h1 ⟨⟨C1, k1, fr⟩, rfl⟩
  rcases hI with ⟨e0, v, ev⟩ | ⟨e1, e3⟩
  · rw [if_pos e0, ev]
    refine rk_nxv ?_
    refine rk_i2l dL_add_10 ?_
    refine rk_last dL_add_11 (by first | exact fr.2.1 _ _ ho hn | assumption) (by first | exact vp00 | assumption) ?_
    refine rk_goto 27 dL_add_12 (by decide) ?_
    refine rk_iconst (v := 0) dL_add_27 (by decide) ?_
    exact rk_iret rfl dL_add_28 ⟨(Nat.le_of_ble_eq_true rfl), (Nat.le_of_ble_eq_true rfl)⟩ (lPo.ok e0 ev k1 fr ho hn)
  · rw [if_neg (by omega)]
    rcases (show res.1 = 1 ∨ res.1 = 2 ∨ res.1 = 3 by omega) with e | e | e
    · rw [e]
      refine rk_nxc 15 rfl (by decide +kernel) (by decide +kernel) (List.forall_mem_cons.mpr ⟨⟨by decide, by decide +kernel, hL_13⟩, List.forall_mem_cons.mpr ⟨⟨by decide, by decide +kernel, hL_29⟩, List.forall_mem_cons.mpr ⟨⟨by decide, by decide +kernel, hL_23⟩, fun _ q => absurd q List.not_mem_nil⟩⟩⟩) (fun a => ?_)
      refine rk_astore dL_add_15 (Nat.le_of_ble_eq_true rfl) ?_
      refine rk_iconst (v := 1) dL_add_17 (by decide) ?_
      exact rk_iret rfl dL_add_18 ⟨(Nat.le_of_ble_eq_true rfl), (Nat.le_of_ble_eq_true rfl)⟩ (lPo.thr (k := 1) e (by decide) k1 fr ho hn)
    · rw [e]
      refine rk_nxc 19 rfl (by decide +kernel) (by decide +kernel) (List.forall_mem_cons.mpr ⟨⟨by decide, by decide +kernel, hL_13⟩, List.forall_mem_cons.mpr ⟨⟨by decide, by decide +kernel, hL_29⟩, List.forall_mem_cons.mpr ⟨⟨by decide, by decide +kernel, hL_23⟩, fun _ q => absurd q List.not_mem_nil⟩⟩⟩) (fun a => ?_)
      refine rk_astore dL_add_19 (Nat.le_of_ble_eq_true rfl) ?_
      refine rk_iconst (v := 2) dL_add_21 (by decide) ?_
      exact rk_iret rfl dL_add_22 ⟨(Nat.le_of_ble_eq_true rfl), (Nat.le_of_ble_eq_true rfl)⟩ (lPo.thr (k := 2) e (by decide) k1 fr ho hn)
    · rw [e]
      refine rk_nxc 23 rfl (by decide +kernel) (by decide +kernel) (List.forall_mem_cons.mpr ⟨⟨by decide, by decide +kernel, hL_13⟩, List.forall_mem_cons.mpr ⟨⟨by decide, by decide +kernel, hL_29⟩, List.forall_mem_cons.mpr ⟨⟨by decide, by decide +kernel, hL_23⟩, fun _ q => absurd q List.not_mem_nil⟩⟩⟩) (fun a => ?_)
      refine rk_astore dL_add_23 (Nat.le_of_ble_eq_true rfl) ?_
      refine rk_iconst (v := 3) dL_add_25 (by decide) ?_
      exact rk_iret rfl dL_add_26 ⟨(Nat.le_of_ble_eq_true rfl), (Nat.le_of_ble_eq_true rfl)⟩ (lPo.thr (k := 3) e (by decide) k1 fr ho hn)
theorem lk_dense (C : cT) (n : Nat) (h : rk_H) {fs : List Value} (hca : h C.a = some (oB 5 fs)) (res : oR) (hI : oInt res 3) (x0 : Int32) (x1 : Int32) (x2 : Int32) (x3 : UInt64) (con : rk_Con mT_dense (9, 123, 8, 180) [.ref C.a, .int x0, .int x1, .int x2, .double x3] h (cPost h C n res (exL [x_IA, x_AR, x_IS]))) (o : Nat) (f : Nat → Int64) (ho : h o = some (lA 1 f)) (hn : ¬ own C n o) : rk_Con mL_dense (10, 160, 9, 186) [.ref C.a, .int x0, .int x1, .int x2, .double x3, .ref o] h (lPo h C n o (eL res) res) := by
  refine rk_Con.of [some (.ref C.a), some (.int x0), some (.int x1), some (.int x2), some (.double x3), none, some (.ref o), none] rfl (Nat.le_of_ble_eq_true rfl) (by decide +kernel) ?_
  refine rk_aload dL_dense_0 rfl ?_
  refine rk_iconst (v := 0) dL_dense_2 (by decide) ?_
  refine rk_aload_n dL_dense_3 rfl ?_
  refine rk_iload_n dL_dense_4 rfl ?_
  refine rk_iload_n dL_dense_5 rfl ?_
  refine rk_iload_n dL_dense_6 rfl ?_
  refine rk_dload dL_dense_7 rfl ?_
  refine rk_cvG con cL_31 dL_dense_9 rfl lT_dense (Nat.le_of_ble_eq_true rfl) (Nat.le_of_ble_eq_true rfl) (Nat.le_of_ble_eq_true rfl) (Nat.le_of_ble_eq_true rfl) hca ?_
  rintro r h1 ⟨⟨C1, k1, fr⟩, rfl⟩
  rcases hI with ⟨e0, v, ev⟩ | ⟨e1, e3⟩
  · rw [if_pos e0, ev]
    refine rk_nxv ?_
    refine rk_i2l dL_dense_12 ?_
    refine rk_last dL_dense_13 (by first | exact fr.2.1 _ _ ho hn | assumption) (by first | exact vp00 | assumption) ?_
    refine rk_goto 29 dL_dense_14 (by decide) ?_
    refine rk_iconst (v := 0) dL_dense_29 (by decide) ?_
    exact rk_iret rfl dL_dense_30 ⟨(Nat.le_of_ble_eq_true rfl), (Nat.le_of_ble_eq_true rfl)⟩ (lPo.ok e0 ev k1 fr ho hn)
  · rw [if_neg (by omega)]
    rcases (show res.1 = 1 ∨ res.1 = 2 ∨ res.1 = 3 by omega) with e | e | e
    · rw [e]
      refine rk_nxc 17 rfl (by decide +kernel) (by decide +kernel) (List.forall_mem_cons.mpr ⟨⟨by decide, by decide +kernel, hL_13⟩, List.forall_mem_cons.mpr ⟨⟨by decide, by decide +kernel, hL_29⟩, List.forall_mem_cons.mpr ⟨⟨by decide, by decide +kernel, hL_23⟩, fun _ q => absurd q List.not_mem_nil⟩⟩⟩) (fun a => ?_)
      refine rk_astore dL_dense_17 (Nat.le_of_ble_eq_true rfl) ?_
      refine rk_iconst (v := 1) dL_dense_19 (by decide) ?_
      exact rk_iret rfl dL_dense_20 ⟨(Nat.le_of_ble_eq_true rfl), (Nat.le_of_ble_eq_true rfl)⟩ (lPo.thr (k := 1) e (by decide) k1 fr ho hn)
    · rw [e]
      refine rk_nxc 21 rfl (by decide +kernel) (by decide +kernel) (List.forall_mem_cons.mpr ⟨⟨by decide, by decide +kernel, hL_13⟩, List.forall_mem_cons.mpr ⟨⟨by decide, by decide +kernel, hL_29⟩, List.forall_mem_cons.mpr ⟨⟨by decide, by decide +kernel, hL_23⟩, fun _ q => absurd q List.not_mem_nil⟩⟩⟩) (fun a => ?_)
      refine rk_astore dL_dense_21 (Nat.le_of_ble_eq_true rfl) ?_
      refine rk_iconst (v := 2) dL_dense_23 (by decide) ?_
      exact rk_iret rfl dL_dense_24 ⟨(Nat.le_of_ble_eq_true rfl), (Nat.le_of_ble_eq_true rfl)⟩ (lPo.thr (k := 2) e (by decide) k1 fr ho hn)
    · rw [e]
      refine rk_nxc 25 rfl (by decide +kernel) (by decide +kernel) (List.forall_mem_cons.mpr ⟨⟨by decide, by decide +kernel, hL_13⟩, List.forall_mem_cons.mpr ⟨⟨by decide, by decide +kernel, hL_29⟩, List.forall_mem_cons.mpr ⟨⟨by decide, by decide +kernel, hL_23⟩, fun _ q => absurd q List.not_mem_nil⟩⟩⟩) (fun a => ?_)
      refine rk_astore dL_dense_25 (Nat.le_of_ble_eq_true rfl) ?_
      refine rk_iconst (v := 3) dL_dense_27 (by decide) ?_
      exact rk_iret rfl dL_dense_28 ⟨(Nat.le_of_ble_eq_true rfl), (Nat.le_of_ble_eq_true rfl)⟩ (lPo.thr (k := 3) e (by decide) k1 fr ho hn)
theorem lk_windows (C : cT) (n : Nat) (h : rk_H) {fs : List Value} (hca : h C.a = some (oB 5 fs)) (res : oR) (hI : oInt res 3) (x0 : Int32) (x1 : Int32) (x2 : Int32) (x3 : Int32) (x4 : UInt64) (con : rk_Con mT_windows (9, 123, 9, 186) [.ref C.a, .int x0, .int x1, .int x2, .int x3, .double x4] h (cPost h C n res (exL [x_IA, x_AR, x_IS]))) (o : Nat) (f : Nat → Int64) (ho : h o = some (lA 1 f)) (hn : ¬ own C n o) : rk_Con mL_windows (10, 160, 9, 186) [.ref C.a, .int x0, .int x1, .int x2, .int x3, .double x4, .ref o] h (lPo h C n o (eL res) res) := by
  refine rk_Con.of [some (.ref C.a), some (.int x0), some (.int x1), some (.int x2), some (.int x3), some (.double x4), none, some (.ref o), none] rfl (Nat.le_of_ble_eq_true rfl) (by decide +kernel) ?_
  refine rk_aload dL_windows_0 rfl ?_
  refine rk_iconst (v := 0) dL_windows_2 (by decide) ?_
  refine rk_aload_n dL_windows_3 rfl ?_
  refine rk_iload_n dL_windows_4 rfl ?_
  refine rk_iload_n dL_windows_5 rfl ?_
  refine rk_iload_n dL_windows_6 rfl ?_
  refine rk_iload dL_windows_7 rfl ?_
  refine rk_dload dL_windows_9 rfl ?_
  refine rk_cvG con cL_25 dL_windows_11 rfl lT_windows (Nat.le_of_ble_eq_true rfl) (Nat.le_of_ble_eq_true rfl) (Nat.le_of_ble_eq_true rfl) (Nat.le_of_ble_eq_true rfl) hca ?_
  rintro r h1 ⟨⟨C1, k1, fr⟩, rfl⟩
  rcases hI with ⟨e0, v, ev⟩ | ⟨e1, e3⟩
  · rw [if_pos e0, ev]
    refine rk_nxv ?_
    refine rk_i2l dL_windows_14 ?_
    refine rk_last dL_windows_15 (by first | exact fr.2.1 _ _ ho hn | assumption) (by first | exact vp00 | assumption) ?_
    refine rk_goto 31 dL_windows_16 (by decide) ?_
    refine rk_iconst (v := 0) dL_windows_31 (by decide) ?_
    exact rk_iret rfl dL_windows_32 ⟨(Nat.le_of_ble_eq_true rfl), (Nat.le_of_ble_eq_true rfl)⟩ (lPo.ok e0 ev k1 fr ho hn)
  · rw [if_neg (by omega)]
    rcases (show res.1 = 1 ∨ res.1 = 2 ∨ res.1 = 3 by omega) with e | e | e
    · rw [e]
      refine rk_nxc 19 rfl (by decide +kernel) (by decide +kernel) (List.forall_mem_cons.mpr ⟨⟨by decide, by decide +kernel, hL_13⟩, List.forall_mem_cons.mpr ⟨⟨by decide, by decide +kernel, hL_29⟩, List.forall_mem_cons.mpr ⟨⟨by decide, by decide +kernel, hL_23⟩, fun _ q => absurd q List.not_mem_nil⟩⟩⟩) (fun a => ?_)
      refine rk_astore dL_windows_19 (Nat.le_of_ble_eq_true rfl) ?_
      refine rk_iconst (v := 1) dL_windows_21 (by decide) ?_
      exact rk_iret rfl dL_windows_22 ⟨(Nat.le_of_ble_eq_true rfl), (Nat.le_of_ble_eq_true rfl)⟩ (lPo.thr (k := 1) e (by decide) k1 fr ho hn)
    · rw [e]
      refine rk_nxc 23 rfl (by decide +kernel) (by decide +kernel) (List.forall_mem_cons.mpr ⟨⟨by decide, by decide +kernel, hL_13⟩, List.forall_mem_cons.mpr ⟨⟨by decide, by decide +kernel, hL_29⟩, List.forall_mem_cons.mpr ⟨⟨by decide, by decide +kernel, hL_23⟩, fun _ q => absurd q List.not_mem_nil⟩⟩⟩) (fun a => ?_)
      refine rk_astore dL_windows_23 (Nat.le_of_ble_eq_true rfl) ?_
      refine rk_iconst (v := 2) dL_windows_25 (by decide) ?_
      exact rk_iret rfl dL_windows_26 ⟨(Nat.le_of_ble_eq_true rfl), (Nat.le_of_ble_eq_true rfl)⟩ (lPo.thr (k := 2) e (by decide) k1 fr ho hn)
    · rw [e]
      refine rk_nxc 27 rfl (by decide +kernel) (by decide +kernel) (List.forall_mem_cons.mpr ⟨⟨by decide, by decide +kernel, hL_13⟩, List.forall_mem_cons.mpr ⟨⟨by decide, by decide +kernel, hL_29⟩, List.forall_mem_cons.mpr ⟨⟨by decide, by decide +kernel, hL_23⟩, fun _ q => absurd q List.not_mem_nil⟩⟩⟩) (fun a => ?_)
      refine rk_astore dL_windows_27 (Nat.le_of_ble_eq_true rfl) ?_
      refine rk_iconst (v := 3) dL_windows_29 (by decide) ?_
      exact rk_iret rfl dL_windows_30 ⟨(Nat.le_of_ble_eq_true rfl), (Nat.le_of_ble_eq_true rfl)⟩ (lPo.thr (k := 3) e (by decide) k1 fr ho hn)
