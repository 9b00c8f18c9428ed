/-! what a plan keeps -/
/-- a node has the shape and the scale of what it stands for -/
theorem stS_sh {N : Nat → aN} {n : Nat} (hwf : wfN N n) : ∀ i : Nat, i < n → shq (N i) (N (stS N i)) = true ∧ (N i).sc = (N (stS N i)).sc := by
  have srf : ∀ x : aN, shq x x = true := by intro x; unfold shq; simp
  have str : ∀ {x y z : aN}, shq x y = true → shq y z = true → shq x z = true := by
    intro x y z h1 h2
    obtain ⟨⟨a1, a2, a3⟩, -⟩ := shq_ce h1
    obtain ⟨⟨b1, b2, b3⟩, -⟩ := shq_ce h2
    unfold shq
    rw [a1, a2, a3, b1, b2, b3]
    simp
  intro i
  induction i using Nat.strongRecOn with
  | ind i ih =>
    intro hi
    have hin := hwf.inn
    rw [stS_eq hin hi]
    unfold stOf
    by_cases hid : idle N (stS N) i = true
    · rw [if_pos hid]
      cases ho : (N i).one with
      | none => unfold idle at hid; rw [ho] at hid; cases hid
      | some a =>
        dsimp only
        have ha := (hin i hi).1 a ho
        obtain ⟨i1, i2⟩ := ih a ha (by omega)
        unfold idle at hid
        rw [ho] at hid
        dsimp only at hid
        rw [Bool.or_eq_true, Bool.or_eq_true, Bool.and_eq_true, Bool.and_eq_true, Bool.and_eq_true, Bool.and_eq_true, decide_eq_true_eq, decide_eq_true_eq, decide_eq_true_eq, decide_eq_true_eq, decide_eq_true_eq, decide_eq_true_eq] at hid
        have wf := (hwf i hi).2
        rw [ho] at wf
        have kinds : ((N i).kd = 6 → (N i).sc = (N a).sc) ∧ ((N i).kd = 9 → shq (N i) (N a) = true ∧ (N i).sc = (N a).sc) ∧ ((N i).kd = 10 → shq (N i) (N a) = true) := by
          rcases wf with ⟨-, h1, -⟩ | ⟨a', ⟨h1, -⟩, -, hk⟩ | ⟨a', b', ⟨h1, -⟩, -, hk⟩
          · cases h1
          · cases h1
            rcases hk with ⟨k, -⟩ | ⟨k, -⟩ | ⟨k, -⟩ | ⟨k, -, k2⟩ | ⟨k, -⟩ | ⟨k, k1, k2, -⟩ | ⟨k, k1, -⟩
            · exact ⟨fun z => by omega, fun z => by omega, fun z => by omega⟩
            · exact ⟨fun z => by omega, fun z => by omega, fun z => by omega⟩
            · exact ⟨fun z => by omega, fun z => by omega, fun z => by omega⟩
            · exact ⟨fun _ => k2, fun z => by omega, fun z => by omega⟩
            · exact ⟨fun z => by omega, fun z => by omega, fun z => by omega⟩
            · exact ⟨fun z => by omega, fun _ => ⟨k1, k2⟩, fun z => by omega⟩
            · exact ⟨fun z => by omega, fun z => by omega, fun _ => k1⟩
          · rcases hk with ⟨k, -⟩ | ⟨k, -⟩
            · exact ⟨fun z => by omega, fun z => by omega, fun z => by omega⟩
            · exact ⟨fun z => by omega, fun z => by omega, fun z => by omega⟩
        rcases hid with (⟨k6, s6⟩ | ⟨⟨k9, -⟩, -⟩) | ⟨k10, s10⟩
        · exact ⟨s6, (kinds.1 k6).trans i2⟩
        · exact ⟨str (kinds.2.1 k9).1 i1, (kinds.2.1 k9).2.trans i2⟩
        · exact ⟨str (kinds.2.2 k10) i1, s10⟩
    · rw [if_neg hid]
      by_cases hk : (N i).kd = 0
      · rw [if_pos hk]; exact ⟨srf _, rfl⟩
      · rw [if_neg hk]
        have hle := (fstA_le (p := fun m => decide (stS N m = m) && alk N (stS N) m i) (k := i) (i := 0)).1
        by_cases hlt : fstA (fun m => decide (stS N m = m) && alk N (stS N) m i) i 0 < i
        · have hp := fstA_lt (p := fun m => decide (stS N m = m) && alk N (stS N) m i) (k := i) (i := 0) (by omega)
          generalize fstA (fun m => decide (stS N m = m) && alk N (stS N) m i) i 0 = m at hp hlt
          rw [Bool.and_eq_true] at hp
          have hp := hp.2
          unfold alk smq at hp
          rw [Bool.and_eq_true, Bool.and_eq_true, Bool.and_eq_true, Bool.and_eq_true, Bool.and_eq_true, Bool.and_eq_true, Bool.and_eq_true, Bool.and_eq_true, Bool.and_eq_true] at hp
          have h1 := hp.1.1.1.1.1.1.1.1.2
          have h2 := of_decide_eq_true hp.1.1.1.1.1.1.1.2
          obtain ⟨⟨a1, a2, a3⟩, -⟩ := shq_ce h1
          exact ⟨by unfold shq; rw [a1, a2, a3]; simp, h2.symm⟩
        · rw [show fstA (fun m => decide (stS N m = m) && alk N (stS N) m i) i 0 = i by omega]
          exact ⟨srf _, rfl⟩
theorem stS_ce {N : Nat → aN} {n : Nat} (hwf : wfN N n) {i : Nat} (hi : i < n) : (N (stS N i)).ce = (N i).ce := (shq_ce (stS_sh hwf i hi).1).2.symm
theorem setN_off {st S : Nat → Nat} {o : Option Nat} {j : Nat} (h : ∀ a, o = some a → S a ≠ j) : setN st S o j = st j := by
  cases o with
  | none => rfl
  | some a =>
    show (if j = S a then 2 else st j) = st j
    rw [if_neg (fun z => h a rfl z.symm)]
theorem setN_on {st S : Nat → Nat} {a : Nat} : setN st S (some a) (S a) = 2 := by
  show (if S a = S a then 2 else _) = 2
  rw [if_pos rfl]
section ND
variable {N : Nat → aN} {n : Nat} {S : Nat → Nat} (hin : inOK N n) (hSl : ∀ j : Nat, j < n → S j ≤ j)
theorem ndStep_off (hin : inOK N n) (hSl : ∀ j : Nat, j < n → S j ≤ j) {st : Nat → Nat} {k j : Nat} (hk : k < n) (hj : k ≤ j) : ndStep N S st k j = st j := by
  unfold ndStep
  split
  · rw [setN_off (fun a ha => by have h1 := (hin k hk).2 a ha; have h2 := hSl a (by omega); omega), setN_off (fun a ha => by have h1 := (hin k hk).1 a ha; have h2 := hSl a (by omega); omega)]
  · rfl
theorem ndI_off (hin : inOK N n) (hSl : ∀ j : Nat, j < n → S j ≤ j) {k j : Nat} (hk : k ≤ n) (hj : k ≤ j) : ∀ {st : Nat → Nat}, ndI N S k st j = st j := by
  induction k with
  | zero => intro st; rfl
  | succ k ih =>
    intro st
    show ndI N S k (ndStep N S st k) j = _
    rw [ih (by omega) (by omega), ndStep_off hin hSl (by omega) (by omega)]
theorem ndI_close (hin : inOK N n) (hSl : ∀ j : Nat, j < n → S j ≤ j) {k : Nat} (hk : k ≤ n) : ∀ {st : Nat → Nat} {i a : Nat}, i < k → ndI N S k st i = 2 → ((N i).one = some a ∨ (N i).two = some a) → ndI N S k st (S a) = 2 := by
  induction k with
  | zero => intro st i a hi; omega
  | succ k ih =>
    intro st i a hi h2 ha
    by_cases hik : i = k
    · subst hik
      have e : ndI N S (i + 1) st i = st i := by
        show ndI N S i (ndStep N S st i) i = _
        rw [ndI_off hin hSl (by omega) (Nat.le_refl _), ndStep_off hin hSl (by omega) (Nat.le_refl _)]
      rw [e] at h2
      refine ndI_2 (k := i) ?_
      unfold ndStep
      rw [if_pos h2]
      rcases ha with ha | ha
      · refine setN_2 ?_
        rw [ha]; exact setN_on
      · rw [ha]; exact setN_on
    · exact ih (by omega) (by omega) h2 ha
end ND
theorem cnt_cB {R : Nat → Nat} {n : Nat} : cnt R n = cB (fun m => decide (R m = 2)) n := by
  induction n with
  | zero => rfl
  | succ n ih =>
    unfold cnt cB
    rw [ih]
    by_cases h : R n = 2
    · rw [if_pos h, if_pos (decide_eq_true h)]
    · rw [if_neg h, if_neg (by rw [decide_eq_false h]; decide)]
def psB (PT : Nat → Option Nat) (m : Nat) : Bool := (PT m).isSome
theorem itr_none {N : Nat → aN} {R : Nat → Nat} {PT : Nat → Option Nat} : ∀ (k i : Nat) (q : Option Nat), itr (bigS N R PT) k i q = none → q = none ∧ ∀ m, i ≤ m → m < i + k → ¬ (R m = 2 ∧ PT m = none) := by
  intro k
  induction k with
  | zero => intro i q h; exact ⟨h, fun m h1 h2 => by omega⟩
  | succ k ih =>
    intro i q h
    obtain ⟨h1, h2⟩ := ih (i + 1) _ h
    unfold bigS at h1
    split at h1
    · cases h1
    · next hc =>
      subst h1
      refine ⟨rfl, fun m hm1 hm2 => ?_⟩
      by_cases hmi : m = i
      · subst hmi
        exact fun z => hc ⟨z.1, z.2, rfl⟩
      · exact h2 m (by omega) (by omega)
/-- places of nodes that live together are apart -/
def apK (N : Nat → aN) (T L : Nat → Nat) (PT : Nat → Option Nat) : Prop := ∀ x y p q : Nat, x ≠ y → PT x = some p → PT y = some q → togB T L x y = true → p + (N x).ce ≤ q ∨ q + (N y).ce ≤ p
theorem togB_sym {T L : Nat → Nat} {x y : Nat} : togB T L x y = togB T L y x := by unfold togB; rw [Bool.and_comm]
theorem plT_all {N : Nat → aN} {R T L : Nat → Nat} {n : Nat} (hbd : bdOK N n) (r : Nat) (hr : r ≤ 14) :
    (ptK N R n (plT N R T L n r).1 (plT N R T L n r).2 ∧ (plT N R T L n r).2 ≤ 128 * r) ∧ apK N T L (plT N R T L n r).1 ∧ ((∀ m, m < n → R m = 2 → (plT N R T L n r).1 m ≠ none) ∨ cB (psB (plT N R T L n r).1) n = r) := by
  induction r with
  | zero =>
    refine ⟨⟨fun m q h => (by cases h), Nat.le_refl _⟩, fun x y p q _ h => (by cases h), Or.inr ?_⟩
    show cB (fun _ => false) n = 0
    clear hbd hr
    induction n with
    | zero => rfl
    | succ n ih => unfold cB; rw [ih]; rfl
  | succ r ih =>
    obtain ⟨⟨k1, k2⟩, k3, k4⟩ := ih (by omega)
    have es : plT N R T L n (r + 1) = plS N R T L n (plT N R T L n r) := by unfold plT; rw [itr_snoc]
    have hK := plS_K (T := T) (L := L) hbd k1 k2 (by omega)
    rw [es]
    generalize plT N R T L n r = q at *
    refine ⟨hK, ?_⟩
    unfold plS
    cases hb : bigO N R n q.1 with
    | none =>
      refine ⟨k3, Or.inl (fun m hm hr2 hz => ?_)⟩
      exact (itr_none n 0 none hb).2 m (Nat.zero_le _) (by omega) ⟨hr2, hz⟩
    | some x =>
      obtain ⟨b1, b2, b3⟩ := bigO_ok hb
      have hfree := lfS_free (T := T) (L := L) (x := x) k1 (by omega)
      dsimp only
      generalize lfS N T L n q.1 x = t at *
      have nohit : ∀ y z, q.1 y = some z → togB T L x y = true → t + (N x).ce ≤ z ∨ z + (N y).ce ≤ t := by
        intro y z hy ht
        have hyn := (k1 y z hy).1.1
        unfold freeB at hfree
        have := fstA_none.mp (of_decide_eq_true hfree) y hyn
        unfold hitB at this
        rw [hy] at this
        dsimp only at this
        rw [ht, Bool.true_and, Bool.and_eq_false_iff, decide_eq_false_iff_not, decide_eq_false_iff_not] at this
        omega
      refine ⟨?_, ?_⟩
      · intro u v p z huv hu hv ht
        dsimp only at hu hv
        by_cases hux : u = x
        · subst hux
          rw [if_pos rfl] at hu
          rw [if_neg (fun e => huv e.symm)] at hv
          cases hu
          exact nohit v z hv ht
        · rw [if_neg hux] at hu
          by_cases hvx : v = x
          · subst hvx
            rw [if_pos rfl] at hv
            cases hv
            rw [togB_sym] at ht
            rcases nohit u p hu ht with h1 | h1
            · exact Or.inr h1
            · exact Or.inl h1
          · rw [if_neg hvx] at hv
            exact k3 u v p z huv hu hv ht
      · rcases k4 with k4 | k4
        · exact absurd b3 (k4 x b1 b2)
        · right
          have hmore := cB_more (p := psB q.1) (q := psB (fun j => if j = x then some t else q.1 j)) (k := n) (m := x) (fun j _ hj => by
            unfold psB at hj ⊢
            dsimp only
            split
            · rfl
            · exact hj) b1 (by unfold psB; rw [b3]; rfl) (by unfold psB; dsimp only; rw [if_pos rfl]; rfl)
          have hless : ∀ k : Nat, cB (psB (fun j => if j = x then some t else q.1 j)) k ≤ cB (psB q.1) k + (if x < k then 1 else 0) := by
            intro k
            induction k with
            | zero => exact Nat.le_refl _
            | succ k ihk =>
              unfold cB
              by_cases hkx : k = x
              · subst hkx
                rw [if_neg (by omega)] at ihk
                rw [if_pos (show k < k + 1 by omega)]
                split <;> omega
              · have e : psB (fun j => if j = x then some t else q.1 j) k = psB q.1 k := by unfold psB; dsimp only; rw [if_neg hkx]
                rw [e]
                by_cases hxk : x < k
                · rw [if_pos hxk] at ihk
                  rw [if_pos (show x < k + 1 by omega)]
                  omega
                · rw [if_neg hxk] at ihk
                  rw [if_neg (show ¬ x < k + 1 by omega)]
                  omega
          have := hless n
          rw [if_pos b1] at this
          omega
/-- every node that is to be placed is placed -/
theorem plT_full {N : Nat → aN} {R T L : Nat → Nat} {n : Nat} (hbd : bdOK N n) (hn : n ≤ 14) {m : Nat} (hm : m < n) (hr : R m = 2) : ∃ t, (plT N R T L n (cnt R n)).1 m = some t := by
  have hc := cnt_le (R := R) (k := n)
  obtain ⟨⟨k1, -⟩, -, k4⟩ := plT_all (R := R) (T := T) (L := L) hbd (cnt R n) (by omega)
  cases hp : (plT N R T L n (cnt R n)).1 m with
  | some t => exact ⟨t, rfl⟩
  | none =>
    exfalso
    rcases k4 with k4 | k4
    · exact k4 m hm hr hp
    · have := cB_more (p := psB (plT N R T L n (cnt R n)).1) (q := fun m => decide (R m = 2)) (k := n) (m := m) (fun j _ hj => by
        unfold psB at hj
        cases hq : (plT N R T L n (cnt R n)).1 j with
        | none => rw [hq] at hj; cases hj
        | some z => exact decide_eq_true (k1 j z hq).1.2) hm (by unfold psB; rw [hp]; rfl) (decide_eq_true hr)
      rw [← cnt_cB] at this
      omega
