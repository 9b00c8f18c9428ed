/-! THE LAW'S START: both are made, the two places for answers, and the loop -/
theorem own_s0 {h : rk_H} {C : cT} (k : cOK h C s0) {z : Nat} (hz : own C 0 z) : ∃ e : rk_E, h z = some e := by
  obtain ⟨⟨k1, ⟨⟨m1, m2⟩, ⟨⟨w0, m3⟩, ⟨x1, x2, m4⟩, ⟨x3, x4, m5⟩, f0, m6⟩, m7⟩, ⟨⟨⟨X, g0, g1, g2, g3, g4, g5, g6⟩, gn⟩, ⟨g7, g8⟩, g9⟩, k4⟩, ⟨k5, k6⟩, k7, k8⟩ := k
  rcases hz with (rfl | rfl | rfl) | (rfl | rfl | rfl | rfl | rfl | rfl) | (rfl | rfl | rfl | rfl | rfl) | ⟨i, hi, -⟩
  · exact ⟨_, k1⟩
  · exact ⟨_, g1⟩
  · exact ⟨_, m1⟩
  · exact ⟨_, g7⟩
  · exact ⟨_, g2⟩
  · exact ⟨_, g3⟩
  · exact ⟨_, g4⟩
  · exact ⟨_, g5⟩
  · exact ⟨_, g6⟩
  · exact ⟨_, m2⟩
  · exact ⟨_, m6⟩
  · exact ⟨_, m3⟩
  · exact ⟨_, m4⟩
  · exact ⟨_, m5⟩
  · exact absurd hi (Nat.not_lt_zero _)
theorem lw_init {h0 h2 : rk_H} {sb L lo dq : Nat} {xs : Nat → Int32} {C : cT} {A : Nat → Nat} {fs fr : List Value} {f0 : Nat → Int64} {g0 : Nat → UInt64}
    (hs0 : h0 sb = some (sA L xs)) (ha : h0 C.a = none) (kc : cOK h2 C s0) (hk : ∀ (z : Nat) (e : rk_E), rk_up h0 C.a (oB 5 fs) z = some e → z ≠ C.a → h2 z = some e) (ho : ∀ z : Nat, own C 0 z → z = C.a ∨ rk_up h0 C.a (oB 5 fs) z = none)
    (hA0 : h2 (A 0) = none) (kA : rA A) (hfr : ∀ i, 1 ≤ i → i < 23 → rk_up h2 (A 0) (oB 6 fr) (A i) = none) (hlo : rv (rk_up h2 (A 0) (oB 6 fr)) A X0 lo = none) (hdq : rk_up (rv (rk_up h2 (A 0) (oB 6 fr)) A X0) lo (lA 1 f0) dq = none) :
    lwAt A lo dq sb L C.a xs (rk_up (rk_up (rv (rk_up h2 (A 0) (oB 6 fr)) A X0) lo (lA 1 f0)) dq (dA 1 g0)) := by
  have hsa : sb ≠ C.a := rk_ne hs0 ha
  have hs2 : h2 sb = some (sA L xs) := hk sb _ (rk_up_k hsa hs0) hsa
  have hAz : ∀ (z : Nat) (e : rk_E), h2 z = some e → ∀ i, i < 23 → A i ≠ z := fun z e hz i hi q => by
    have hz0 : z ≠ A 0 := rk_ne hz hA0
    by_cases hi0 : i = 0
    · subst hi0; exact hz0 q.symm
    · have h1 := hfr i (by omega) hi
      rw [q, rk_up_n hz0, hz] at h1
      cases h1
  have h4z : ∀ (z : Nat) (e : rk_E), h2 z = some e → rv (rk_up h2 (A 0) (oB 6 fr)) A X0 z = some e := fun z e hz => by
    rw [rv_off (hAz z e hz), rk_up_n (rk_ne hz hA0)]; exact hz
  have h4A : ∀ i, i < 23 → ∃ e : rk_E, rv (rk_up h2 (A 0) (oB 6 fr)) A X0 (A i) = some e := fun i hi => (rv_on (b' := h2) kA hi).2
  have hloA : ∀ i, i < 23 → A i ≠ lo := fun i hi q => by
    obtain ⟨e, he⟩ := h4A i hi
    rw [q, hlo] at he; cases he
  have hld : lo ≠ dq := fun q => by rw [← q, rk_up_s] at hdq; cases hdq
  have hdq4 : rv (rk_up h2 (A 0) (oB 6 fr)) A X0 dq = none := by rw [rk_up_n (fun q => hld q.symm)] at hdq; exact hdq
  have hdqA : ∀ i, i < 23 → A i ≠ dq := fun i hi q => by
    obtain ⟨e, he⟩ := h4A i hi
    rw [q, hdq4] at he; cases he
  have hloz : ∀ (z : Nat) (e : rk_E), h2 z = some e → lo ≠ z := fun z e hz q => by
    have h1 := h4z z e hz
    rw [← q, hlo] at h1; cases h1
  have hdqz : ∀ (z : Nat) (e : rk_E), h2 z = some e → dq ≠ z := fun z e hz q => by
    have h1 := h4z z e hz
    rw [← q, hdq4] at h1; cases h1
  have h6z : ∀ (z : Nat) (e : rk_E), h2 z = some e → rk_up (rk_up (rv (rk_up h2 (A 0) (oB 6 fr)) A X0) lo (lA 1 f0)) dq (dA 1 g0) z = some e := fun z e hz =>
    rk_up_k (fun q => hdqz z e hz q.symm) (rk_up_k (fun q => hloz z e hz q.symm) (h4z z e hz))
  have hosb : ¬ own C 0 sb := fun q => by
    rcases ho sb q with e | e
    · exact hsa e
    · rw [rk_up_k hsa hs0] at e; cases e
  refine ⟨_, C, X0, s0, f0, g0, ⟨⟨rfl, kA, rv_self (b := rk_up h2 (A 0) (oB 6 fr)) kA (fun i hi => ?_), ⟨fun i hi => ⟨hloA i hi, hdqA i hi, hAz sb _ hs2 i hi⟩, hld, hloz sb _ hs2, hdqz sb _ hs2⟩⟩, ⟨kc.kept (fun z hz => ?_), fun z hz => ?_⟩, rk_up_k hld rk_up_s, rk_up_s, h6z sb _ hs2⟩, aOK.s0, X0_ok⟩
  · rw [rk_up_n (hdqA i hi), rk_up_n (hloA i hi)]
  · obtain ⟨e, he⟩ := own_s0 kc hz
    rw [h6z z e he, he]
  · obtain ⟨e, he⟩ := own_s0 kc hz
    exact ⟨hAz z e he, hloz z e he, hdqz z e he, fun q => hosb (by rw [q]; exact hz)⟩
theorem lw_begin {sb L : Nat} {xs : Nat → Int32} (hL : L ≤ 3072) : rk_Run mL_law lwB lwP 0 [some (.ref sb), none, none, none, none, none, none, none, none] [] (rk_up (fun _ => none) sb (sA L xs)) (0, 0) := by
  obtain ⟨h0, e0⟩ : ∃ h0 : rk_H, h0 = rk_up (fun _ => none) sb (sA L xs) := ⟨_, rfl⟩
  have hs0 : h0 sb = some (sA L xs) := by rw [e0]; exact rk_up_s
  rw [← e0]
  clear e0
  refine rk_new (fs := [.null, .null, .double 0, .int 0, .int 0]) kT nL_8.1 nL_8.2.1 nL_8.2.2 (by intro j hj; rcases (show j = 0 ∨ j = 1 ∨ j = 2 ∨ j = 3 ∨ j = 4 by omega) with rfl | rfl | rfl | rfl | rfl <;> rfl) dL_law_0 (Nat.le_of_ble_eq_true rfl) (Nat.le_of_ble_eq_true rfl) (fun a_0 a_0n => ?_)
  refine rk_dup dL_law_3 rfl ?_
  refine rk_cnG (c_T_init a_0 _ rk_up_s) cL_90 dL_law_4 rfl lT_init (Nat.le_of_ble_eq_true rfl) (Nat.le_of_ble_eq_true rfl) (Nat.le_of_ble_eq_true rfl) (Nat.le_of_ble_eq_true rfl) ?_
  rintro r_4 h_4 ⟨rfl, C, rfl, kc, hk, ho⟩
  refine rk_nx0 ?_
  refine rk_astore_n dL_law_7 (Nat.le_of_ble_eq_true rfl) ?_
  refine rk_lv [some (.ref sb), some (.ref C.a), none, none, none, none, none, none, none] ⟨rfl, rfl, trivial⟩ ?_
  refine rk_new (fs := [.int 0, .null, .double 0, .null, .null, .null, .null, .null, .null, .null, .null, .null, .null, .null, .null, .null, .null, .int 0, .int 0, .int 0, .null, .null, .null, .null, .null, .int 0, .int 0, .null, .int 0, .null, .int 0, .double 0]) kR nL_91.1 nL_91.2.1 nL_91.2.2 (by intro j hj; rcases (show j = 0 ∨ j = 1 ∨ j = 2 ∨ j = 3 ∨ j = 4 ∨ j = 5 ∨ j = 6 ∨ j = 7 ∨ j = 8 ∨ j = 9 ∨ j = 10 ∨ j = 11 ∨ j = 12 ∨ j = 13 ∨ j = 14 ∨ j = 15 ∨ j = 16 ∨ j = 17 ∨ j = 18 ∨ j = 19 ∨ j = 20 ∨ j = 21 ∨ j = 22 ∨ j = 23 ∨ j = 24 ∨ j = 25 ∨ j = 26 ∨ j = 27 ∨ j = 28 ∨ j = 29 ∨ j = 30 ∨ j = 31 by omega) with rfl | rfl | rfl | rfl | rfl | rfl | rfl | rfl | rfl | rfl | rfl | rfl | rfl | rfl | rfl | rfl | rfl | rfl | rfl | rfl | rfl | rfl | rfl | rfl | rfl | rfl | rfl | rfl | rfl | rfl | rfl | rfl <;> rfl) dL_law_8 (Nat.le_of_ble_eq_true rfl) (Nat.le_of_ble_eq_true rfl) (fun a_8 a_8n => ?_)
  refine rk_dup dL_law_11 rfl ?_
  refine rk_cnG (c_R_init a_8 _ rk_up_s) cL_93 dL_law_12 rfl lR_init (Nat.le_of_ble_eq_true rfl) (Nat.le_of_ble_eq_true rfl) (Nat.le_of_ble_eq_true rfl) (Nat.le_of_ble_eq_true rfl) ?_
  rintro r_12 h_12 ⟨rfl, A, rfl, kA, hfr, rfl⟩
  refine rk_nx0 ?_
  refine rk_astore_n dL_law_15 (Nat.le_of_ble_eq_true rfl) ?_
  refine rk_lv [some (.ref sb), some (.ref C.a), some (.ref (A 0)), none, none, none, none, none, none] ⟨rfl, rfl, rfl, trivial⟩ ?_
  refine rk_iconst (v := 1) dL_law_16 (by decide) ?_
  refine rk_newl (N := 1) rfl w_arr_long (by decide) (by decide) dL_law_17 (Nat.le_of_ble_eq_true rfl) (Nat.le_of_ble_eq_true rfl) (fun a_17 a_17n => ?_)
  refine rk_astore_n dL_law_19 (Nat.le_of_ble_eq_true rfl) ?_
  refine rk_lv [some (.ref sb), some (.ref C.a), some (.ref (A 0)), some (.ref a_17), none, none, none, none, none] ⟨rfl, rfl, rfl, rfl, trivial⟩ ?_
  refine rk_iconst (v := 1) dL_law_20 (by decide) ?_
  refine rk_newd (N := 1) rfl w_arr_double (by decide) (by decide) dL_law_21 (Nat.le_of_ble_eq_true rfl) (Nat.le_of_ble_eq_true rfl) (fun a_21 a_21n => ?_)
  refine rk_astore dL_law_23 (Nat.le_of_ble_eq_true rfl) ?_
  refine rk_lv [some (.ref sb), some (.ref C.a), some (.ref (A 0)), some (.ref a_17), some (.ref a_21), none, none, none, none] ⟨rfl, rfl, rfl, rfl, rfl, trivial⟩ ?_
  refine rk_iconst (v := 0) dL_law_25 (by decide) ?_
  refine rk_istore dL_law_26 (Nat.le_of_ble_eq_true rfl) ?_
  refine rk_lv [some (.ref sb), some (.ref C.a), some (.ref (A 0)), some (.ref a_17), some (.ref a_21), some (.int 0), none, none, none] ⟨rfl, rfl, rfl, rfl, rfl, rfl, trivial⟩ ?_
  have hl := lw_loop (A := A) (lo := a_17) (dq := a_21) (sb := sb) (ca := C.a) (xs := xs) hL 512 0 _ (by omega) (by omega) (lw_init (g0 := fun _ => 0) hs0 a_0n kc hk ho a_8n kA hfr a_17n a_21n)
  rw [show nI (6 * 0) = 0 from nI_0] at hl
  exact rk_wide (100, 10000) (Nat.le_of_ble_eq_true rfl) (Nat.le_of_ble_eq_true rfl) hl
