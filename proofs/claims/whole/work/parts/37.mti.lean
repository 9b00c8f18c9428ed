/-! the plan keeps apart what a step reads and what it writes; a step only reads its inputs -/
theorem useU_le {N : Nat → aN} {S st : Nat → Nat} {c : Nat} : ∀ (k i : Nat) (q : Nat × Nat), q.2 ≤ q.1 → (itr (useU N S st c) k i q).2 ≤ (itr (useU N S st c) k i q).1 ∧ q.1 - q.2 ≤ (itr (useU N S st c) k i q).1 - (itr (useU N S st c) k i q).2 := by
  intro k
  induction k with
  | zero => intro i q h; exact ⟨h, Nat.le_refl _⟩
  | succ k ih =>
    intro i q h
    have h1 : (useU N S st c i q).2 ≤ (useU N S st c i q).1 ∧ q.1 - q.2 ≤ (useU N S st c i q).1 - (useU N S st c i q).2 := by
      unfold useU
      split
      · exact ⟨h, Nat.le_refl _⟩
      · dsimp only
        split <;> omega
    have h2 := ih (i + 1) _ h1.1
    refine ⟨h2.1, ?_⟩
    have := h1.2
    have := h2.2
    show _ ≤ (itr (useU N S st c) k (i + 1) (useU N S st c i q)).1 - (itr (useU N S st c) k (i + 1) (useU N S st c i q)).2
    omega
/-- if a node feeds one clamp only, all that use it are clamps -/
theorem useU_gap {N : Nat → aN} {S st : Nat → Nat} {c m : Nat} (hk : (N m).kd ≠ 9) (hs : st m ≠ 0) (ht : 1 ≤ tmU N S m c) : ∀ (k i : Nat) (q : Nat × Nat), q.2 ≤ q.1 → i ≤ m → m < i + k → (itr (useU N S st c) k i q).2 + 1 ≤ (itr (useU N S st c) k i q).1 := by
  intro k
  induction k with
  | zero => intro i q _ h1 h2; omega
  | succ k ih =>
    intro i q h h1 h2
    have hle : (useU N S st c i q).2 ≤ (useU N S st c i q).1 := by
      unfold useU
      split
      · exact h
      · dsimp only
        split <;> omega
    by_cases him : i = m
    · subst him
      have hl := useU_le (N := N) (S := S) (st := st) (c := c) k (i + 1) (useU N S st c i q) hle
      have hg : (useU N S st c i q).2 + 1 ≤ (useU N S st c i q).1 := by
        unfold useU
        rw [if_neg hs]
        dsimp only
        rw [if_neg hk]
        omega
      show (itr (useU N S st c) k (i + 1) (useU N S st c i q)).2 + 1 ≤ (itr (useU N S st c) k (i + 1) (useU N S st c i q)).1
      omega
    · exact ih (i + 1) _ hle (by omega) (by omega)
theorem feeds_clamp {N : Nat → aN} {S : Nat → Nat} {n : Nat} {st : Nat → Nat} {c m : Nat} (hf : feeds N S n st c = true) (hm : m < n) (hcm : c < m) (hs : st m ≠ 0) (ha : (N m).one.map S = some c ∨ (N m).two.map S = some c) : (N m).kd = 9 := by
  apply Classical.byContradiction
  intro hk
  have ht : 1 ≤ tmU N S m c := by
    unfold tmU i01
    rcases ha with ha | ha
    · rw [if_pos ha]; omega
    · rw [if_pos ha]; omega
  have := useU_gap hk hs ht (n - (c + 1)) (c + 1) (0, 0) (Nat.le_refl _) (by omega) (by omega)
  unfold feeds at hf
  rw [Bool.and_eq_true, decide_eq_true_eq, decide_eq_true_eq] at hf
  omega
theorem lvS_or {N : Nat → aN} {S R : Nat → Nat} {i j q : Nat} : lvS N S R i j q = cnt R j ∨ lvS N S R i j q = q := by
  unfold lvS
  split
  · exact Or.inl rfl
  · exact Or.inr rfl
theorem lvM_ge {N : Nat → aN} {S R : Nat → Nat} {i : Nat} : ∀ (k j q : Nat), cnt R (j - 1) ≤ q ∨ q ≤ cnt R j → q ≤ cnt R j → q ≤ itr (lvS N S R i) k j q := by
  intro k
  induction k with
  | zero => intro j q _ _; exact Nat.le_refl _
  | succ k ih =>
    intro j q _ hq
    have hc : cnt R j ≤ cnt R (j + 1) := cnt_mono (by omega)
    show q ≤ itr (lvS N S R i) k (j + 1) (lvS N S R i j q)
    rcases lvS_or (N := N) (S := S) (R := R) (i := i) (j := j) (q := q) with e | e
    · rw [e]
      have := ih (j + 1) (cnt R j) (Or.inr hc) hc
      omega
    · rw [e]
      exact ih (j + 1) q (Or.inr (by omega)) (by omega)
theorem lvM_hit {N : Nat → aN} {S R : Nat → Nat} {i m : Nat} (hr : R m = 2) (hd : rdB N S R m i = true) : ∀ (k j q : Nat), q ≤ cnt R j → j ≤ m → m < j + k → cnt R m ≤ itr (lvS N S R i) k j q := by
  intro k
  induction k with
  | zero => intro j q _ h1 h2; omega
  | succ k ih =>
    intro j q hq h1 h2
    have hc : cnt R j ≤ cnt R (j + 1) := cnt_mono (by omega)
    show _ ≤ itr (lvS N S R i) k (j + 1) (lvS N S R i j q)
    by_cases hjm : j = m
    · subst hjm
      have e : lvS N S R i j q = cnt R j := by unfold lvS; rw [if_pos ⟨hr, hd⟩]
      rw [e]
      exact lvM_ge k (j + 1) _ (Or.inr hc) hc
    · refine ih (j + 1) _ ?_ (by omega) (by omega)
      rcases lvS_or (N := N) (S := S) (R := R) (i := i) (j := j) (q := q) with e | e <;> rw [e] <;> omega
section PK
variable {N : Nat → aN} {n out : Nat}
theorem pR_2 {i : Nat} (h : pR N n out i = 2) : pR0 N out i = 2 := by
  unfold pR rlF at h
  split at h
  · cases h
  · exact h
theorem pR_1 {i : Nat} (h : pR N n out i = 1) : pR0 N out i = 2 ∧ hwN (N i) = true ∧ feeds N (stS N) n (pR0 N out) i = true := by
  unfold pR rlF at h
  split at h
  · next hc => exact ⟨hc.1, hc.2.2.1, hc.2.2.2⟩
  · exfalso
    have : pR0 N out i = 1 := h
    have aux : ∀ (k : Nat) (st : Nat → Nat), (∀ j, st j = 0 ∨ st j = 2) → ∀ j, ndI N (stS N) k st j = 0 ∨ ndI N (stS N) k st j = 2 := by
      intro k
      induction k with
      | zero => intro st hs j; exact hs j
      | succ k ih =>
        intro st hs j
        refine ih _ (fun j => ?_) j
        have sn : ∀ (st : Nat → Nat) (o : Option Nat), (∀ j, st j = 0 ∨ st j = 2) → ∀ j, setN st (stS N) o j = 0 ∨ setN st (stS N) o j = 2 := by
          intro st o hs j
          cases o with
          | none => exact hs j
          | some a =>
            show (if j = stS N a then 2 else st j) = 0 ∨ (if j = stS N a then 2 else st j) = 2
            split
            · exact Or.inr rfl
            · exact hs j
        unfold ndStep
        split
        · exact sn _ _ (sn _ _ hs) j
        · exact hs j
    have := aux (pO N out + 1) (ini (pO N out)) (fun j => by unfold ini; split; exact Or.inr rfl; exact Or.inl rfl) i
    unfold pR0 at *
    omega
variable (hwf : wfN N n) (ho : out < n)
/-- the inputs of a needed node are needed -/
theorem pR0_in (hwf : wfN N n) (ho : out < n) {i a : Nat} (hi : pR0 N out i = 2) (ha : (N i).one = some a ∨ (N i).two = some a) : pR0 N out (stS N a) = 2 ∧ i ≤ pO N out := by
  have hSl := stS_le hwf.inn
  have hol := hSl out ho
  have hin := hwf.inn
  have hon : pO N out + 1 ≤ n := by unfold pO; omega
  have hle : i ≤ pO N out := by
    apply Classical.byContradiction
    intro hc
    have e : pR0 N out i = ini (pO N out) i := ndI_off hin hSl hon (by omega)
    rw [e] at hi
    unfold ini at hi
    rw [if_neg (by omega)] at hi
    cases hi
  exact ⟨ndI_close hin hSl hon (by omega) hi ha, hle⟩
theorem pR_lt (hwf : wfN N n) (ho : out < n) {i : Nat} (hi : pR0 N out i = 2) : i ≤ pO N out := by
  have hSl := stS_le hwf.inn
  have hol := hSl out ho
  have hon : pO N out + 1 ≤ n := by unfold pO; omega
  apply Classical.byContradiction
  intro hc
  have e : pR0 N out i = ini (pO N out) i := ndI_off hwf.inn hSl hon (by omega)
  rw [e] at hi
  unfold ini at hi
  rw [if_neg (by omega)] at hi
  cases hi
/-- who is fused, and for whom -/
theorem fu_clamp (hwf : wfN N n) {m c : Nat} (hm : m < n) (hr : pR0 N out m ≠ 0) (hf : fuO N (stS N) (pR N n out) m = some c) : ((N m).kd = 9 ∧ c < m) ∧ (pR0 N out c = 2 ∧ hwN (N c) = true) ∧ ∃ a, (N m).one = some a ∧ stS N a = c := by
  have hSl := stS_le hwf.inn
  obtain ⟨h1, h2⟩ := fuO_lt hwf.inn hSl hm hf
  obtain ⟨h3, h4, h5⟩ := pR_1 h2
  have he : (N m).one.map (stS N) = some c := by
    unfold fuO at hf
    rw [Option.filter_eq_some_iff] at hf
    exact hf.1
  refine ⟨⟨feeds_clamp h5 hm h1 hr (Or.inl he), h1⟩, ⟨h3, h4⟩, ?_⟩
  cases ho : (N m).one with
  | none => rw [ho] at he; cases he
  | some a => rw [ho] at he; exact ⟨a, rfl, Option.some.inj he⟩
theorem hwN_kd {x : aN} (h : hwN x = true) : x.kd = 1 ∨ x.kd = 2 ∨ x.kd = 3 := by
  unfold hwN at h
  rw [Bool.or_eq_true, Bool.or_eq_true, decide_eq_true_eq, decide_eq_true_eq, decide_eq_true_eq] at h
  omega
/-- what a step reads is placed -/
theorem rd_placed (hwf : wfN N n) (ho : out < n) {m a : Nat} (hm : m < n) (hr : pR N n out m = 2) (ha : (N (rdr N (stS N) (pR N n out) m)).one = some a ∨ (N (rdr N (stS N) (pR N n out) m)).two = some a) : pR N n out (stS N a) = 2 ∧ a < m := by
  have hSl := stS_le hwf.inn
  have hr0 := pR_2 hr
  have hle := pR_le N n out (stS N a)
  have key : ∀ i, i < n → pR0 N out i = 2 → ((N i).one = some a ∨ (N i).two = some a) → (pR N n out (stS N a) = 1 → (N i).kd = 9) ∧ a < i ∧ (pR N n out (stS N a) = 1 ∨ pR N n out (stS N a) = 2) := by
    intro i hi h2 ha
    have hai : a < i := by
      rcases ha with ha | ha
      · exact (hwf.inn i hi).1 a ha
      · exact (hwf.inn i hi).2 a ha
    have hsa := hSl a (by omega)
    have h0 := (pR0_in hwf ho h2 ha).1
    refine ⟨fun h1 => ?_, hai, ?_⟩
    · obtain ⟨-, -, h5⟩ := pR_1 h1
      refine feeds_clamp h5 hi (by omega) (by omega) ?_
      rcases ha with ha | ha
      · left; rw [ha]; rfl
      · right; rw [ha]; rfl
    · unfold pR rlF
      split
      · exact Or.inl rfl
      · exact Or.inr h0
  cases hf : fuO N (stS N) (pR N n out) m with
  | some c =>
    obtain ⟨⟨k1, k2⟩, ⟨k3, k4⟩, k5⟩ := fu_clamp hwf hm (by omega) hf
    have er : rdr N (stS N) (pR N n out) m = c := by unfold rdr; rw [hf]
    rw [er] at ha
    obtain ⟨q1, q2, q3⟩ := key c (by omega) k3 ha
    have := hwN_kd k4
    refine ⟨?_, by omega⟩
    rcases q3 with q3 | q3
    · have := q1 q3; omega
    · exact q3
  | none =>
    have er : rdr N (stS N) (pR N n out) m = m := by unfold rdr; rw [hf]
    rw [er] at ha
    obtain ⟨q1, q2, q3⟩ := key m hm hr0 ha
    refine ⟨?_, q2⟩
    rcases q3 with q3 | q3
    · exfalso
      have hk := q1 q3
      have h2 : (N m).two = none := by
        rcases (hwf m hm).2 with ⟨k, -⟩ | ⟨a', -, k, -⟩ | ⟨a', b', -, -, k⟩
        · omega
        · exact k
        · rcases k with ⟨k, -⟩ | ⟨k, -⟩ <;> omega
      rcases ha with ha | ha
      · unfold fuO at hf
        rw [ha] at hf
        have : (Option.map (stS N) (some a)).filter (fun a => decide (pR N n out a = 1)) = some (stS N a) := by
          rw [Option.filter_eq_some_iff]
          exact ⟨rfl, decide_eq_true q3⟩
        rw [this] at hf
        cases hf
      · rw [h2] at ha; cases ha
    · exact q3
theorem pl_rnK (hwf : wfN N n) (hn : n ≤ 14) (ho : out < n) : rnK N (stS N) (pR N n out) (pP N n out).1 n ∧ (pP N n out).2 ≤ 1792 := by
  have hc : pK N n out ≤ n := cnt_le
  obtain ⟨⟨k1, k2⟩, k3, -⟩ := plT_all (R := pR N n out) (T := pT N n out) (L := pL N n out) hwf.bd (pK N n out) (by omega)
  have hpk : (pP N n out).2 ≤ 1792 := by show (plT _ _ _ _ _ _).2 ≤ _; omega
  refine ⟨?_, hpk⟩
  intro m hm hr
  have hSl := stS_le hwf.inn
  obtain ⟨t, ht⟩ := plT_full (R := pR N n out) (T := pT N n out) (L := pL N n out) hwf.bd hn hm hr
  have hrl := rdr_le (R := pR N n out) hwf.inn hSl hm
  have hce : (N (rdr N (stS N) (pR N n out) m)).ce = (N m).ce := by
    cases hf : fuO N (stS N) (pR N n out) m with
    | none => unfold rdr; rw [hf]
    | some c =>
      obtain ⟨⟨q1, q2⟩, -, a, q3, q4⟩ := fu_clamp hwf hm (by rw [pR_2 hr]; decide) hf
      have er : rdr N (stS N) (pR N n out) m = c := by unfold rdr; rw [hf]
      have ha := (hwf.inn m hm).1 a q3
      rw [er, ← q4, stS_ce hwf (by omega)]
      rcases (hwf m hm).2 with ⟨k, -⟩ | ⟨a', ⟨h1, -⟩, -, k⟩ | ⟨a', b', -, -, k⟩
      · omega
      · rw [q3] at h1
        cases h1
        rcases k with ⟨k, -⟩ | ⟨k, -⟩ | ⟨k, -⟩ | ⟨k, -⟩ | ⟨k, -⟩ | ⟨-, k, -⟩ | ⟨k, -⟩
        · omega
        · omega
        · omega
        · omega
        · omega
        · exact (shq_ce k).2.symm
        · omega
      · rcases k with ⟨k, -⟩ | ⟨k, -⟩ <;> omega
  refine ⟨⟨t, ht, ?_⟩, hce, ?_⟩
  · have := (k1 m t ht).2
    show t + _ ≤ 1792
    omega
  · intro a ha
    obtain ⟨hp, ham⟩ := rd_placed hwf ho hm hr ha
    have hsa := hSl a (by omega)
    obtain ⟨fr, hfr⟩ := plT_full (R := pR N n out) (T := pT N n out) (L := pL N n out) hwf.bd hn (show stS N a < n by omega) hp
    have hb := (k1 _ fr hfr).2
    have hcs := stS_ce hwf (show a < n by omega)
    refine ⟨fr, hfr, by omega, ?_⟩
    have hpn : plN (pP N n out).1 m = t := by
      unfold plN
      rw [show (pP N n out).1 m = some t from ht]
      rfl
    rw [hpn]
    have hcm := cnt_pos hm hr
    have hTs : pT N n out (stS N a) ≤ pT N n out m := cnt_mono (show stS N a ≤ m by omega)
    have hLm : pT N n out m ≤ pL N n out m := by
      show cnt _ m ≤ lvF _ _ _ _ _ m
      unfold lvF
      split
      · omega
      · exact lvM_ge _ _ _ (Or.inr (cnt_mono (by omega))) (cnt_mono (by omega))
    have hLs : pT N n out m ≤ pL N n out (stS N a) := by
      show cnt _ m ≤ lvF _ _ _ _ _ _
      unfold lvF
      split
      · omega
      · refine lvM_hit hr ?_ _ _ _ (cnt_mono (by omega)) (by omega) (by omega)
        unfold rdB
        rcases ha with ha | ha
        · rw [ha, decide_eq_true (show Option.map (stS N) (some a) = some (stS N a) from rfl)]; rfl
        · rw [ha, decide_eq_true (p := Option.map (stS N) (some a) = some (stS N a)) rfl, Bool.or_true]
    have htog : togB (pT N n out) (pL N n out) (stS N a) m = true := by
      unfold togB
      rw [decide_eq_true (show pT N n out (stS N a) ≤ pL N n out m by omega), decide_eq_true hLs]
      rfl
    have := k3 (stS N a) m fr t (by omega) hfr ht htog
    rw [hcs] at this
    exact this
end PK
