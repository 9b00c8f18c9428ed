/-! a step only reads its inputs -/
theorem vI_congr {N : Nat → aN} {wt : Nat → Int32} {i j : Nat} {fd ca cb ca' cb' : Nat → Int32} (hwf : wfI N i) (hj : j < (N i).ce) (ha : ∀ a, (N i).one = some a → ∀ z, z < (N a).ce → ca z = ca' z) (hb : ∀ a, (N i).two = some a → ∀ z, z < (N a).ce → cb z = cb' z) : vI N wt i fd ca cb j = vI N wt i fd ca' cb' j := by
  obtain ⟨⟨hbd, hp, -⟩, hk⟩ := hwf
  unfold vI
  rcases hk with ⟨k, -⟩ | ⟨a, ⟨h1, -⟩, h2, hk⟩ | ⟨a, b, ⟨h1, -⟩, ⟨h2, -⟩, hk⟩
  · unfold vNode
    rw [if_pos k, if_pos k]
  · have hsrc : srcO N i = N a := by unfold srcO; rw [h1]
    have ha := ha a h1
    have hwin : winG (N i) (N a) → ((N i).kd = 1 ∨ (N i).c = (N a).c) → (N i).kd ≠ 0 ∧ (N i).kd ≠ 3 ∧ (N i).kd ≠ 4 ∧ (N i).kd ≠ 5 ∧ (N i).kd ≠ 6 ∧ (N i).kd ≠ 9 ∧ (N i).kd ≠ 10 → vNode (N i) (srcO N i) wt (ratA N i) (ratB N i) fd ca cb j = vNode (N i) (srcO N i) wt (ratA N i) (ratB N i) fd ca' cb' j := by
      rintro hG hc ⟨z0, z3, z4, z5, z6, z9, z10⟩
      unfold vNode
      rw [if_neg z0, if_neg z0, if_neg z3, if_neg z3, if_neg z4, if_neg z4, if_neg z5, if_neg z5, if_neg z6, if_neg z6, if_neg z9, if_neg z9, if_neg z10, if_neg z10, hsrc]
      unfold G_win
      refine v_win_congr rfl rfl ?_ ha
      rcases hc with hc | hc
      · exact Or.inl hc
      · right
        rw [← hc]
        exact Nat.mod_lt _ (by omega)
    rcases hk with ⟨k, hG, -⟩ | ⟨k, hG, hc, -⟩ | ⟨k, ⟨hh, hw⟩, -⟩ | ⟨k, hc, -⟩ | ⟨k, hG, hc, -⟩ | ⟨k, hs, -⟩ | ⟨k, hs, -⟩
    · exact hwin hG (Or.inl k) (by omega)
    · exact hwin hG (Or.inr hc) (by omega)
    · unfold vNode
      rw [if_neg (show ¬ (N i).kd = 0 by omega), if_neg (show ¬ (N i).kd = 0 by omega), if_pos k, if_pos k, hsrc]
      congr 1
      unfold g_con
      exact itr_congr (fun z h5 h6 s => by rw [Nat.zero_add, ha z (by omega)])
    · unfold vNode
      rw [if_neg (show ¬ (N i).kd = 0 by omega), if_neg (show ¬ (N i).kd = 0 by omega), if_neg (show ¬ (N i).kd = 3 by omega), if_neg (show ¬ (N i).kd = 3 by omega), if_neg (show ¬ (N i).kd = 4 by omega), if_neg (show ¬ (N i).kd = 4 by omega), if_neg (show ¬ (N i).kd = 5 by omega), if_neg (show ¬ (N i).kd = 5 by omega), if_pos k, if_pos k]
      exact ha j (by omega)
    · exact hwin hG (Or.inr hc) (by omega)
    · unfold vNode
      rw [if_neg (show ¬ (N i).kd = 0 by omega), if_neg (show ¬ (N i).kd = 0 by omega), if_neg (show ¬ (N i).kd = 3 by omega), if_neg (show ¬ (N i).kd = 3 by omega), if_neg (show ¬ (N i).kd = 4 by omega), if_neg (show ¬ (N i).kd = 4 by omega), if_neg (show ¬ (N i).kd = 5 by omega), if_neg (show ¬ (N i).kd = 5 by omega), if_neg (show ¬ (N i).kd = 6 by omega), if_neg (show ¬ (N i).kd = 6 by omega), if_pos k, if_pos k, ha j (by have := (shq_ce hs).2; omega)]
    · unfold vNode
      rw [if_neg (show ¬ (N i).kd = 0 by omega), if_neg (show ¬ (N i).kd = 0 by omega), if_neg (show ¬ (N i).kd = 3 by omega), if_neg (show ¬ (N i).kd = 3 by omega), if_neg (show ¬ (N i).kd = 4 by omega), if_neg (show ¬ (N i).kd = 4 by omega), if_neg (show ¬ (N i).kd = 5 by omega), if_neg (show ¬ (N i).kd = 5 by omega), if_neg (show ¬ (N i).kd = 6 by omega), if_neg (show ¬ (N i).kd = 6 by omega), if_neg (show ¬ (N i).kd = 9 by omega), if_neg (show ¬ (N i).kd = 9 by omega), if_pos k, if_pos k, ha j (by have := (shq_ce hs).2; omega)]
  · have hsrc : srcO N i = N a := by unfold srcO; rw [h1]
    have ha := ha a h1
    have hb := hb b h2
    rcases hk with ⟨k, hs1, hs2, -⟩ | ⟨k, ⟨c1, c2, c3, c4⟩, hcc, -⟩
    · unfold vNode
      rw [if_neg (show ¬ (N i).kd = 0 by omega), if_neg (show ¬ (N i).kd = 0 by omega), if_neg (show ¬ (N i).kd = 3 by omega), if_neg (show ¬ (N i).kd = 3 by omega), if_pos k, if_pos k, ha j (by have := (shq_ce hs1).2; omega), hb j (by have := (shq_ce hs2).2; omega)]
    · have q1 : (N a).ce = (N i).h * (N i).w * (N a).c := by unfold aN.ce; rw [c1, c2]
      have q2 : (N b).ce = (N i).h * (N i).w * (N b).c := by unfold aN.ce; rw [c3, c4]
      have hdiv : j / (N i).c < (N i).h * (N i).w := Nat.div_lt_of_lt_mul (by rw [Nat.mul_comm]; exact hj)
      have hmod : j % (N i).c < (N i).c := Nat.mod_lt _ (by omega)
      unfold vNode
      rw [if_neg (show ¬ (N i).kd = 0 by omega), if_neg (show ¬ (N i).kd = 0 by omega), if_neg (show ¬ (N i).kd = 3 by omega), if_neg (show ¬ (N i).kd = 3 by omega), if_neg (show ¬ (N i).kd = 4 by omega), if_neg (show ¬ (N i).kd = 4 by omega), if_pos k, if_pos k, hsrc]
      by_cases hz : j % (N i).c < (N a).c
      · rw [if_pos hz, if_pos hz, ha _ (by rw [q1]; exact ix2 hdiv hz)]
      · rw [if_neg hz, if_neg hz, hb _ (by rw [q2, show (N i).c - (N a).c = (N b).c by omega]; exact ix2 hdiv (by omega))]
def agr (f f' : Nat → Int32) : Prop := ∀ j, j < 1792 → f j = f' j
theorem runS_agr {N : Nat → aN} {n : Nat} {wt : Nat → Int32} {S R : Nat → Nat} {PT : Nat → Option Nat} {fd : Nat → Nat → Int32} (hwf : wfN N n) (hSl : ∀ j : Nat, j < n → S j ≤ j) (hK : rnK N S R PT n) {m : Nat} (hm : m < n) {f f' : Nat → Int32} (h : agr f f') : agr (runS N wt S R PT fd m f) (runS N wt S R PT fd m f') := by
  intro j hj
  unfold runS
  by_cases hr : R m = 2
  · rw [if_pos hr, if_pos hr]
    obtain ⟨⟨t, ht, htb⟩, hce, hops⟩ := hK m hm hr
    have hrl := rdr_le (R := R) hwf.inn hSl hm
    unfold stp
    by_cases hz : plN PT m ≤ j ∧ j < plN PT m + (N m).ce
    · rw [if_pos hz, if_pos hz]
      have rd : ∀ o a : Nat, PT (S a) = some o → o + (N a).ce ≤ 1792 → ∀ z, z < (N a).ce → f (plN PT (S a) + z) = f' (plN PT (S a) + z) := by
        intro o a ho hb z hz
        have : plN PT (S a) = o := by unfold plN; rw [ho]; rfl
        rw [this]
        exact h _ (by omega)
      have inner : vI N wt (rdr N S R m) (fd (rdr N S R m)) (fun z => f (plO S PT (N (rdr N S R m)).one + z)) (fun z => f (plO S PT (N (rdr N S R m)).two + z)) (j - plN PT m) = vI N wt (rdr N S R m) (fd (rdr N S R m)) (fun z => f' (plO S PT (N (rdr N S R m)).one + z)) (fun z => f' (plO S PT (N (rdr N S R m)).two + z)) (j - plN PT m) := by
        refine vI_congr (hwf _ (by omega)) (by omega) (fun a ha z hz => ?_) (fun a ha z hz => ?_)
        · obtain ⟨o, q1, q2, -⟩ := hops a (Or.inl ha)
          rw [ha]
          exact rd o a q1 q2 z hz
        · obtain ⟨o, q1, q2, -⟩ := hops a (Or.inr ha)
          rw [ha]
          exact rd o a q1 q2 z hz
      unfold vM
      cases hf : fuO N S R m with
      | none =>
        have er : rdr N S R m = m := by unfold rdr; rw [hf]
        rw [er] at inner
        exact inner
      | some c =>
        have er : rdr N S R m = c := by unfold rdr; rw [hf]
        rw [er] at inner
        dsimp only
        rw [inner]
    · rw [if_neg hz, if_neg hz]
      exact h j hj
  · rw [if_neg hr, if_neg hr]
    exact h j hj
theorem itr_agr {N : Nat → aN} {n : Nat} {wt : Nat → Int32} {S R : Nat → Nat} {PT : Nat → Option Nat} {fd : Nat → Nat → Int32} (hwf : wfN N n) (hSl : ∀ j : Nat, j < n → S j ≤ j) (hK : rnK N S R PT n) : ∀ (k i : Nat) {f f' : Nat → Int32}, i + k ≤ n → agr f f' → agr (itr (runS N wt S R PT fd) k i f) (itr (runS N wt S R PT fd) k i f') := by
  intro k
  induction k with
  | zero => intro i f f' _ h; exact h
  | succ k ih => intro i f f' hi h; exact ih (i + 1) (by omega) (runS_agr hwf hSl hK (by omega) h)
/-! TensorForge: run, arena, result, about, peak -/
theorem c_T_requirePresent (x : Int32) (h : rk_H) : rk_Con mT_requirePresent (6, 82, 1, 6) [.int x] h (rk_If (¬ x = 0) x_NS h) := by
  sorry
theorem c_T_run (C : cT) (s : aS) (x : Int32) (h : rk_H) (k : cOK h C s) (ok : aOK s) : rk_Con mT_run (7, 126, 3, 18) [.ref C.a, .int x] h (cPost h C s.n (opRun s x) (exL [x_IA, x_IS, x_UO])) := by
  have e1 := k.1.1
  obtain ⟨X0, hX0, g1, -⟩ := k.1.2.2.1.1.1
  refine rk_Con.of [some (.ref C.a), some (.int x)] rfl (Nat.le_of_ble_eq_true rfl) (by decide +kernel) ?_
  by_cases hx : x < 0
  · have eo : opRun s x = (1, none, s) := by
      unfold opRun
      cases s.out with
      | none => dsimp only; rw [if_pos hx]
      | some o => dsimp only; rw [if_pos hx]
    refine rk_iload_n dT_run_0 rfl ?_
    refine rk_if_lt 8 dT_run_1 (by decide) (fun q_1 => ?_) (fun q_1 => ?_)
    · refine rk_iconst (v := 0) dT_run_8 (by decide) ?_
      refine rk_csI (c_T_require _ h) cT_125 dT_run_9 rfl lT_require (Nat.le_of_ble_eq_true rfl) (Nat.le_of_ble_eq_true rfl) (Nat.le_of_ble_eq_true rfl) (Nat.le_of_ble_eq_true rfl) rfl ⟨(Nat.le_of_ble_eq_true rfl), (Nat.le_of_ble_eq_true rfl)⟩ (fun g_9 => (by rw [eo]; exact cPost.same k rfl rfl)) (fun g_9 => ?_)
      exact absurd rfl g_9
    · exact absurd hx q_1
  · by_cases hc : s.comp = true
    · obtain ⟨o, X, ho, hg, hp⟩ := k.2.2.2 hc
      have hon := ok.2.1 o ho
      have hn := ok.1.1
      obtain ⟨hK, hpk⟩ := pl_rnK ok.1.2.1 hn hon
      have hSl := stS_le ok.1.2.1.inn
      have hso := hSl o hon
      have e4 := hg.1
      by_cases hlt : x < nI (pP s.N s.n o).2
      · have eo : opRun s x = (3, none, s) := by
          unfold opRun
          rw [ho]
          dsimp only
          rw [if_neg hx, hc, if_neg (by decide), if_pos hlt]
        refine rk_iload_n dT_run_0 rfl ?_
        refine rk_if_lt 8 dT_run_1 (by decide) (fun q_1 => ?_) (fun q_1 => ?_)
        · exact absurd q_1 hx
        · refine rk_iconst (v := 1) dT_run_4 (by decide) ?_
          refine rk_goto 9 dT_run_5 (by decide) ?_
          refine rk_csI (c_T_require _ h) cT_125 dT_run_9 rfl lT_require (Nat.le_of_ble_eq_true rfl) (Nat.le_of_ble_eq_true rfl) (Nat.le_of_ble_eq_true rfl) (Nat.le_of_ble_eq_true rfl) rfl ⟨(Nat.le_of_ble_eq_true rfl), (Nat.le_of_ble_eq_true rfl)⟩ (fun g_9 => absurd (by decide) g_9) (fun g_9 => ?_)
          refine rk_aload_n dT_run_12 rfl ?_
          refine rk_cvI (c_T_requireCompiled C.a (tR_of C s.ws s.out s.comp) h e1) cT_163 dT_run_13 rfl lT_requireCompiled (Nat.le_of_ble_eq_true rfl) (Nat.le_of_ble_eq_true rfl) (Nat.le_of_ble_eq_true rfl) (Nat.le_of_ble_eq_true rfl) (by first | exact e1 | exact e4 | assumption) rfl ⟨(Nat.le_of_ble_eq_true rfl), (Nat.le_of_ble_eq_true rfl)⟩ (fun g_13 => absurd (show ¬ b2i s.comp = 0 by rw [hc]; decide) g_13) (fun g_13 => ?_)
          refine rk_iload_n dT_run_16 rfl ?_
          refine rk_aload_n dT_run_17 rfl ?_
          refine rk_getf fT_12 dT_run_18 (by first | exact e1 | exact e4 | assumption) rfl ?_
          refine rk_getf fT_166 dT_run_21 (by first | exact e1 | exact e4 | assumption) rfl ?_
          rw [hp.2.2.2.2]
          refine rk_icmp_ge 37 dT_run_24 (by decide) (fun q_24 => ?_) (fun q_24 => ?_)
          · exact absurd hlt (Int32.not_lt.mpr q_24)
          · exact rk_throw tmT_run_27 rfl dT_run_27 dT_run_30 dT_run_31 dT_run_33 dT_run_36 (Nat.le_of_ble_eq_true rfl) (Nat.le_of_ble_eq_true rfl) (Nat.le_of_ble_eq_true rfl) (Nat.le_of_ble_eq_true rfl) (by rw [eo]; exact cPost.same k rfl rfl)
      · have cp := c_M_perform C.mb C.gb C.M C.A X s.n s.N C.na C.ad C.fe (stS s.N) (pR s.N s.n o) (pP s.N s.n o).1 o 0 s.fd s.wt h k.1.2.1 k.1.2.2.1 hg ok.1.2.1 hp.1.2.1 hSl hp.1.2.2 (pR_le s.N s.n o) hp.2.2.1 hK k.1.2.2.2 hon (pR_o s.N s.n o)
        have e5 := k.1.2.1.1.1
        rw [ho] at e1
        have eo : opRun s x = (0, some (.int (itr (fun i q => q + arF s o (plN (pP s.N s.n o).1 (pO s.N o) + i)) (s.N (pO s.N o)).ce 0 0)), s.wrun (pP s.N s.n o).2 (arF s o) (s.N (pO s.N o)).ce (fun j => arF s o (plN (pP s.N s.n o).1 (pO s.N o) + j)) (s.N (pO s.N o)).sc) := by
          unfold opRun
          rw [ho]
          dsimp only
          rw [if_neg hx, hc, if_neg (by decide), if_neg hlt]
        obtain ⟨⟨t, ht, htb⟩, -, -⟩ := hK (pO s.N o) (show stS s.N o < s.n by omega) (pR_o s.N s.n o)
        have epn : plN (pP s.N s.n o).1 (pO s.N o) = t := by unfold plN; rw [ht]; rfl
        refine rk_iload_n dT_run_0 rfl ?_
        refine rk_if_lt 8 dT_run_1 (by decide) (fun q_1 => ?_) (fun q_1 => ?_)
        · exact absurd q_1 hx
        · refine rk_iconst (v := 1) dT_run_4 (by decide) ?_
          refine rk_goto 9 dT_run_5 (by decide) ?_
          refine rk_csI (c_T_require _ h) cT_125 dT_run_9 rfl lT_require (Nat.le_of_ble_eq_true rfl) (Nat.le_of_ble_eq_true rfl) (Nat.le_of_ble_eq_true rfl) (Nat.le_of_ble_eq_true rfl) rfl ⟨(Nat.le_of_ble_eq_true rfl), (Nat.le_of_ble_eq_true rfl)⟩ (fun g_9 => absurd (by decide) g_9) (fun g_9 => ?_)
          refine rk_aload_n dT_run_12 rfl ?_
          refine rk_cvI (c_T_requireCompiled C.a (tR_of C s.ws (some o) s.comp) h e1) cT_163 dT_run_13 rfl lT_requireCompiled (Nat.le_of_ble_eq_true rfl) (Nat.le_of_ble_eq_true rfl) (Nat.le_of_ble_eq_true rfl) (Nat.le_of_ble_eq_true rfl) (by first | exact e1 | exact e4 | exact e5 | assumption) rfl ⟨(Nat.le_of_ble_eq_true rfl), (Nat.le_of_ble_eq_true rfl)⟩ (fun g_13 => absurd (show ¬ b2i s.comp = 0 by rw [hc]; decide) g_13) (fun g_13 => ?_)
          refine rk_iload_n dT_run_16 rfl ?_
          refine rk_aload_n dT_run_17 rfl ?_
          refine rk_getf fT_12 dT_run_18 (by first | exact e1 | exact e4 | exact e5 | assumption) rfl ?_
          refine rk_getf fT_166 dT_run_21 (by first | exact e1 | exact e4 | exact e5 | assumption) rfl ?_
          rw [hp.2.2.2.2]
          refine rk_icmp_ge 37 dT_run_24 (by decide) (fun q_24 => ?_) (fun q_24 => ?_)
          · refine rk_aload_n dT_run_37 rfl ?_
            refine rk_getf fT_19 dT_run_38 (by first | exact e1 | exact e4 | exact e5 | assumption) rfl ?_
            refine rk_aload_n dT_run_41 rfl ?_
            refine rk_getf fT_12 dT_run_42 (by first | exact e1 | exact e4 | exact e5 | assumption) rfl ?_
            refine rk_aload_n dT_run_45 rfl ?_
            refine rk_getf fT_27 dT_run_46 (by first | exact e1 | exact e4 | exact e5 | assumption) rfl ?_
            refine rk_cvG (cp) cT_174 dT_run_49 rfl lM_perform (Nat.le_of_ble_eq_true rfl) (Nat.le_of_ble_eq_true rfl) (Nat.le_of_ble_eq_true rfl) (Nat.le_of_ble_eq_true rfl) (by first | exact e1 | exact e4 | exact e5 | assumption) ?_
            rintro r_49 h_49 ⟨f0, w, p, q, rfl, rfl⟩
            refine rk_nxv ?_
            have hag := itr_agr (wt := s.wt) (fd := s.fd) ok.1.2.1 hSl hK (pO s.N o + 1) 0 (f := stp 0 1792 (fun _ => 0) f0) (f' := fun _ => 0) (show 0 + (stS s.N o + 1) ≤ s.n by omega) (fun j hj => by show (if 0 ≤ j ∧ j < 0 + 1792 then _ else _) = _; rw [if_pos (by omega)])
            have hag2 : ∀ j, j < 1792 → itr (runS s.N s.wt (stS s.N) (pR s.N s.n o) (pP s.N s.n o).1 s.fd) (stS s.N o + 1) 0 (stp 0 1792 (fun _ => 0) f0) j = arF s o j := hag
            generalize itr (runS s.N s.wt (stS s.N) (pR s.N s.n o) (pP s.N s.n o).1 s.fd) (stS s.N o + 1) 0 (stp 0 1792 (fun _ => 0) f0) = F at hag2 ⊢
            have hsum : itr (fun i q => q + F (plN (pP s.N s.n o).1 (stS s.N o) + i)) (s.N (stS s.N o)).ce 0 0 = itr (fun i q => q + arF s o (plN (pP s.N s.n o).1 (pO s.N o) + i)) (s.N (pO s.N o)).ce 0 0 := itr_congr (fun z h5 h6 q => by rw [hag2 _ (by show plN (pP s.N s.n o).1 (pO s.N o) + z < 1792; rw [epn]; have : z < (s.N (pO s.N o)).ce := (by show z < (s.N (stS s.N o)).ce; omega); omega)]; rfl)
            exact rk_iret rfl dT_run_52 ⟨(Nat.le_of_ble_eq_true rfl), (Nat.le_of_ble_eq_true rfl)⟩ (by rw [eo]; refine ⟨⟨_, k.mr w p q F X.pk _ _ _ ok.1.2.1.bd ⟨⟨rfl, rfl⟩, rfl, rfl⟩ ⟨⟨hp.2.2.2.2, hpk, fun j hj => hag2 j (by have : j < (pP s.N s.n o).2 := hj; omega)⟩, ⟨rfl, rfl, (ok.1.2.1 _ (show stS s.N o < s.n by omega)).1.1.2.1⟩, t, congrArg nI epn, htb, fun j hj => (by show F (t + j) = arF s o (plN (pP s.N s.n o).1 (pO s.N o) + j); rw [epn]; exact hag2 _ (by have : j < (s.N (pO s.N o)).ce := hj; omega))⟩, (frm.mv.up2 own.mb).wM rfl rfl⟩, by rw [hsum]; rfl⟩)
          · exact absurd (Int32.not_lt.mp hlt) q_24
    · have hcf : s.comp = false := by cases hz : s.comp with | true => exact absurd hz hc | false => rfl
      have eo : opRun s x = (2, none, s) := by
        unfold opRun
        cases s.out with
        | none => dsimp only; rw [if_neg hx]
        | some o => dsimp only; rw [if_neg hx, if_pos hcf]
      refine rk_iload_n dT_run_0 rfl ?_
      refine rk_if_lt 8 dT_run_1 (by decide) (fun q_1 => ?_) (fun q_1 => ?_)
      · exact absurd q_1 hx
      · refine rk_iconst (v := 1) dT_run_4 (by decide) ?_
        refine rk_goto 9 dT_run_5 (by decide) ?_
        refine rk_csI (c_T_require _ h) cT_125 dT_run_9 rfl lT_require (Nat.le_of_ble_eq_true rfl) (Nat.le_of_ble_eq_true rfl) (Nat.le_of_ble_eq_true rfl) (Nat.le_of_ble_eq_true rfl) rfl ⟨(Nat.le_of_ble_eq_true rfl), (Nat.le_of_ble_eq_true rfl)⟩ (fun g_9 => absurd (by decide) g_9) (fun g_9 => ?_)
        refine rk_aload_n dT_run_12 rfl ?_
        refine rk_cvI (c_T_requireCompiled C.a (tR_of C s.ws s.out s.comp) h e1) cT_163 dT_run_13 rfl lT_requireCompiled (Nat.le_of_ble_eq_true rfl) (Nat.le_of_ble_eq_true rfl) (Nat.le_of_ble_eq_true rfl) (Nat.le_of_ble_eq_true rfl) (by first | exact e1 | assumption) rfl ⟨(Nat.le_of_ble_eq_true rfl), (Nat.le_of_ble_eq_true rfl)⟩ (fun g_13 => (by rw [eo]; exact cPost.same k rfl rfl)) (fun g_13 => ?_)
        exact absurd (show b2i s.comp = 0 by rw [hcf]; rfl) g_13
