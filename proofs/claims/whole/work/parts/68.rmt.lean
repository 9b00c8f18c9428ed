/-! blocks and the arena -/
def caB (N : Nat → aN) (f : Nat → Int32) (o : Option Nat) (z : Nat) : Int32 := match o with
  | none => 0
  | some a => f (128 * stS N a + z)
def vB (N : Nat → aN) (wt : Nat → Int32) (fd : Nat → Nat → Int32) (f : Nat → Int32) (m j : Nat) : Int32 := vI N wt m (fd m) (caB N f (N m).one) (caB N f (N m).two) j
/-- one node of the reference's run: its block, and its place in the arena -/
def rnR (N : Nat → aN) (wt : Nat → Int32) (fd : Nat → Nat → Int32) (R : Nat → Nat) (PT : Nat → Option Nat) (m : Nat) (q : (Nat → Int32) × (Nat → Int32)) : (Nat → Int32) × (Nat → Int32) := if R m = 0 then q else (stp (128 * m) (N m).ce (vB N wt fd q.1 m) q.1, if R m = 2 then stp (plN PT m) (N m).ce (vB N wt fd q.1 m) q.2 else q.2)
theorem vB_frame {N : Nat → aN} {n : Nat} {wt : Nat → Int32} {fd : Nat → Nat → Int32} {f V : Nat → Int32} {K m k j : Nat} (hwf : wfN N n) (hm : m < n) (hk : m ≤ k) (hj : j < (N m).ce) : vB N wt fd (stp (128 * k) K V f) m j = vB N wt fd f m j := by
  have hin := wfN.inn hwf
  have hSl := stS_le hin
  have key : ∀ a, a < m → ∀ z, z < (N a).ce → stp (128 * k) K V f (128 * stS N a + z) = f (128 * stS N a + z) := fun a ha z hz => by
    have h1 := hSl a (by omega)
    have h2 := (wfN.bd hwf a (by omega)).ce
    exact stp_out (by omega)
  refine vI_congr (hwf m hm) hj (fun a ha z hz => ?_) (fun a ha z hz => ?_)
  · rw [ha]; exact key a ((hin m hm).1 a ha) z hz
  · rw [ha]; exact key a ((hin m hm).2 a ha) z hz
section RUNM
variable {N : Nat → aN} {n out : Nat} {wt : Nat → Int32} {fd : Nat → Nat → Int32}
theorem alive (hwf : wfN N n) (ho : out < n) {k a : Nat} (hk : k < n) (hr : pR N n out k = 2) (ha : (N (rdr N (stS N) (pR N n out) k)).one = some a ∨ (N (rdr N (stS N) (pR N n out) k)).two = some a) : (pR N n out (stS N a) = 2 ∧ stS N a < k) ∧ cnt (pR N n out) k ≤ pL N n out (stS N a) := by
  obtain ⟨h1, h2⟩ := rd_placed hwf ho hk hr ha
  have hs := stS_le (wfN.inn hwf) a (by omega)
  refine ⟨⟨h1, by omega⟩, ?_⟩
  have hd : rdB N (stS N) (pR N n out) k (stS N a) = true := by
    unfold rdB
    rcases ha with h | h
    · rw [h]; simp
    · rw [h]; simp
  unfold pL lvF
  by_cases hz : stS N a = pO N out
  · rw [if_pos hz]
    have := cnt_pos hk hr
    omega
  · rw [if_neg hz]
    exact lvM_hit hr hd _ _ _ (cnt_mono (by omega)) (by omega) (by omega)
theorem pL_T (hwf : wfN N n) (hn : n ≤ 14) {k : Nat} (hk : k < n) (hr : pR N n out k = 2) : cnt (pR N n out) k ≤ pL N n out k := by
  unfold pL lvF
  by_cases hz : k = pO N out
  · rw [if_pos hz]
    have := cnt_pos hk hr
    omega
  · rw [if_neg hz]
    exact lvM_ge _ _ _ (Or.inr (cnt_mono (by omega))) (cnt_mono (by omega))
/-- what the class's step writes is what the reference computes -/
theorem vM_vB (hwf : wfN N n) (ho : out < n) {k : Nat} (hk : k < n) (hr : pR N n out k = 2) {c f : Nat → Int32}
    (hB : ∀ m, m < k → pR N n out m = 2 → cnt (pR N n out) k ≤ pL N n out m → ∀ z, z < (N m).ce → c (plN (pP N n out).1 m + z) = f (128 * m + z))
    (hC : ∀ m, m < k → pR N n out m = 1 → ∀ z, z < (N m).ce → f (128 * m + z) = vB N wt fd f m z) {j : Nat} (hj : j < (N k).ce) : vM N wt (stS N) (pR N n out) (pP N n out).1 fd k c j = vB N wt fd f k j := by
  have hin := wfN.inn hwf
  have rd : ∀ a, ((N (rdr N (stS N) (pR N n out) k)).one = some a ∨ (N (rdr N (stS N) (pR N n out) k)).two = some a) → ∀ z, z < (N a).ce → c (plN (pP N n out).1 (stS N a) + z) = f (128 * stS N a + z) := by
    intro a ha z hz
    obtain ⟨⟨h1, h2⟩, h3⟩ := alive hwf ho hk hr ha
    have h4 := (rd_placed hwf ho hk hr ha).2
    exact hB _ h2 h1 h3 z (by rw [stS_ce hwf (by omega)]; exact hz)
  unfold vM
  cases hf : fuO N (stS N) (pR N n out) k with
  | none =>
    have er : rdr N (stS N) (pR N n out) k = k := by unfold rdr; rw [hf]
    rw [er] at rd
    unfold vB
    refine vI_congr (hwf k hk) hj (fun a ha z hz => ?_) (fun a ha z hz => ?_)
    · rw [ha]; exact rd a (Or.inl ha) z hz
    · rw [ha]; exact rd a (Or.inr ha) z hz
  | some i =>
    have er : rdr N (stS N) (pR N n out) k = i := by unfold rdr; rw [hf]
    rw [er] at rd
    obtain ⟨⟨k9, hik⟩, -, a, ha, hSa⟩ := fu_clamp hwf hk (by rw [pR_2 hr]; decide) hf
    have hi1 := (fuO_lt hin (stS_le hin) hk hf).2
    have hal := (hin k hk).1 a ha
    have hce : (N i).ce = (N k).ce := by
      rw [← hSa, stS_ce hwf (by omega)]
      rcases (hwf k hk).2 with ⟨h, -⟩ | ⟨a', ⟨h1, -⟩, -, h⟩ | ⟨a', b', -, -, h⟩
      · omega
      · rw [ha] at h1
        cases h1
        rcases h with ⟨h, -⟩ | ⟨h, -⟩ | ⟨h, -⟩ | ⟨h, -⟩ | ⟨h, -⟩ | ⟨-, h, -⟩ | ⟨h, -⟩
        · omega
        · omega
        · omega
        · omega
        · omega
        · exact (shq_ce h).2.symm
        · omega
      · rcases h with ⟨h, -⟩ | ⟨h, -⟩ <;> omega
    have e1 : vB N wt fd f k j = s_clp (N k).lo (N k).hi (f (128 * i + j)) := by
      unfold vB vI vNode
      rw [if_neg (by omega), if_neg (by omega), if_neg (by omega), if_neg (by omega), if_neg (by omega), if_pos k9, ha]
      show s_clp _ _ (f (128 * stS N a + j)) = _
      rw [hSa]
    rw [e1, hC i hik hi1 j (by rw [hce]; exact hj)]
    refine congrArg (s_clp (N k).lo (N k).hi) ?_
    unfold vB
    refine vI_congr (hwf i (by omega)) (by rw [hce]; exact hj) (fun a ha z hz => ?_) (fun a ha z hz => ?_)
    · rw [ha]; exact rd a (Or.inl ha) z hz
    · rw [ha]; exact rd a (Or.inr ha) z hz
theorem run_inv (hwf : wfN N n) (hn : n ≤ 14) (ho : out < n) (f0 g0 : Nat → Int32) (hg : ∀ j, j < (pP N n out).2 → g0 j = 0) : ∀ k, k ≤ n →
    (∀ j, j < (pP N n out).2 → (itr (rnR N wt fd (pR N n out) (pP N n out).1) k 0 (f0, g0)).2 j = itr (runS N wt (stS N) (pR N n out) (pP N n out).1 fd) k 0 (fun _ => 0) j) ∧
    (∀ m, m < k → pR N n out m = 2 → cnt (pR N n out) k ≤ pL N n out m → ∀ z, z < (N m).ce → itr (runS N wt (stS N) (pR N n out) (pP N n out).1 fd) k 0 (fun _ => 0) (plN (pP N n out).1 m + z) = (itr (rnR N wt fd (pR N n out) (pP N n out).1) k 0 (f0, g0)).1 (128 * m + z)) ∧
    (∀ m, m < k → pR N n out m = 1 → ∀ z, z < (N m).ce → (itr (rnR N wt fd (pR N n out) (pP N n out).1) k 0 (f0, g0)).1 (128 * m + z) = vB N wt fd (itr (rnR N wt fd (pR N n out) (pP N n out).1) k 0 (f0, g0)).1 m z) := by
  have hc : pK N n out ≤ n := cnt_le
  obtain ⟨⟨k1, k2⟩, k3, -⟩ := plT_all (R := pR N n out) (T := pT N n out) (L := pL N n out) hwf.bd (pK N n out) (by omega)
  intro k
  induction k with
  | zero => intro _; exact ⟨fun j hj => hg j hj, fun m hm => absurd hm (Nat.not_lt_zero _), fun m hm => absurd hm (Nat.not_lt_zero _)⟩
  | succ k ih =>
    intro hk
    obtain ⟨iA', iB, iC⟩ := ih (by omega)
    rw [itr_snoc, itr_snoc, Nat.zero_add]
    generalize itr (rnR N wt fd (pR N n out) (pP N n out).1) k 0 (f0, g0) = q at iA' iB iC ⊢
    generalize itr (runS N wt (stS N) (pR N n out) (pP N n out).1 fd) k 0 (fun _ => 0) = c at iA' iB iC ⊢
    have hmo := cnt_mono (R := pR N n out) (show k ≤ k + 1 by omega)
    have hle := pR_le N n out k
    have bk := (wfN.bd hwf k (by omega)).ce
    rcases (show pR N n out k = 0 ∨ pR N n out k = 1 ∨ pR N n out k = 2 by omega) with hr | hr | hr
    · have e1 : rnR N wt fd (pR N n out) (pP N n out).1 k q = q := if_pos hr
      have e2 : runS N wt (stS N) (pR N n out) (pP N n out).1 fd k c = c := if_neg (by omega)
      rw [e1, e2]
      refine ⟨iA', fun m hm h2 h3 => ?_, fun m hm h1 => ?_⟩
      · by_cases hz : m = k
        · rw [hz] at h2; omega
        · exact iB m (by omega) h2 (by omega)
      · by_cases hz : m = k
        · rw [hz] at h1; omega
        · exact iC m (by omega) h1
    · have e1 : rnR N wt fd (pR N n out) (pP N n out).1 k q = (stp (128 * k) (N k).ce (vB N wt fd q.1 k) q.1, q.2) := by
        unfold rnR
        rw [if_neg (by omega), if_neg (by omega)]
      have e2 : runS N wt (stS N) (pR N n out) (pP N n out).1 fd k c = c := if_neg (by omega)
      rw [e1, e2]
      refine ⟨iA', fun m hm h2 h3 z hz' => ?_, fun m hm h1 z hz' => ?_⟩
      · have hz : m ≠ k := fun z => by rw [z] at h2; omega
        have bm := (wfN.bd hwf m (by omega)).ce
        dsimp only
        rw [iB m (by omega) h2 (by omega) z hz', stp_out (by omega)]
      · dsimp only
        rw [vB_frame hwf (by omega) (by omega) hz']
        by_cases hz : m = k
        · subst hz
          exact stp_in hz'
        · have bm := (wfN.bd hwf m (by omega)).ce
          rw [stp_out (by omega)]
          exact iC m (by omega) h1 z hz'
    · have e1 : rnR N wt fd (pR N n out) (pP N n out).1 k q = (stp (128 * k) (N k).ce (vB N wt fd q.1 k) q.1, stp (plN (pP N n out).1 k) (N k).ce (vB N wt fd q.1 k) q.2) := by
        unfold rnR
        rw [if_neg (by omega), if_pos hr]
      have e2 : runS N wt (stS N) (pR N n out) (pP N n out).1 fd k c = stp (plN (pP N n out).1 k) (N k).ce (vB N wt fd q.1 k) c := by
        unfold runS
        rw [if_pos hr]
        exact stp_congr (fun j hj => vM_vB hwf ho (by omega) hr iB iC hj)
      obtain ⟨t, ht⟩ := plT_full (R := pR N n out) (T := pT N n out) (L := pL N n out) hwf.bd hn (show k < n by omega) hr
      have ept : plN (pP N n out).1 k = t := by unfold plN; rw [show (pP N n out).1 k = some t from ht]; rfl
      rw [e1, e2]
      refine ⟨fun j hj => ?_, fun m hm h2 h3 z hz' => ?_, fun m hm h1 z hz' => ?_⟩
      · dsimp only
        unfold stp
        split
        · rfl
        · exact iA' j hj
      · by_cases hz : m = k
        · subst hz
          dsimp only
          rw [stp_in hz', stp_in hz']
        · have bm := (wfN.bd hwf m (by omega)).ce
          obtain ⟨u, hu⟩ := plT_full (R := pR N n out) (T := pT N n out) (L := pL N n out) hwf.bd hn (show m < n by omega) h2
          have epu : plN (pP N n out).1 m = u := by unfold plN; rw [show (pP N n out).1 m = some u from hu]; rfl
          have tg : togB (pT N n out) (pL N n out) k m = true := by
            unfold togB
            have a1 : pT N n out k ≤ pL N n out m := by show cnt _ k ≤ _; omega
            have a2 : pT N n out m ≤ pL N n out k := Nat.le_trans (cnt_mono (show m ≤ k by omega)) (pL_T hwf hn (by omega) hr)
            rw [decide_eq_true a1, decide_eq_true a2]
            rfl
          have hd := k3 k m t u (fun z => hz z.symm) ht hu tg
          dsimp only
          rw [ept, epu, stp_out (by omega), stp_out (by omega), ← epu]
          exact iB m (by omega) h2 (by omega) z hz'
      · have hz : m ≠ k := fun z => by rw [z] at h1; omega
        have bm := (wfN.bd hwf m (by omega)).ce
        dsimp only
        rw [vB_frame hwf (by omega) (by omega) hz']
        rw [stp_out (by omega)]
        exact iC m (by omega) h1 z hz'
end RUNM
