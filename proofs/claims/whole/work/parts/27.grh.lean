/-! Graph: the least free place, the largest that waits, all places -/
def freeB (N : Nat → aN) (T L : Nat → Nat) (n : Nat) (PT : Nat → Option Nat) (x t : Nat) : Bool := decide (fstA (hitB N T L PT x t) n 0 = n)
/-- the least free place -/
def lfS (N : Nat → aN) (T L : Nat → Nat) (n : Nat) (PT : Nat → Option Nat) (x : Nat) : Nat := fstA (freeB N T L n PT x) 1793 0
theorem freeB_hit {N : Nat → aN} {T L : Nat → Nat} {n : Nat} {PT : Nat → Option Nat} {x t m : Nat} (hm : m < n) (hh : hitB N T L PT x t m = true) : freeB N T L n PT x t = false := by
  unfold freeB
  rw [decide_eq_false]
  intro h
  rw [fstA_none.mp h m hm] at hh
  cases hh
theorem free_pk {N : Nat → aN} {R T L : Nat → Nat} {n pk : Nat} {PT : Nat → Option Nat} {x : Nat} (hK : ptK N R n PT pk) : freeB N T L n PT x pk = true := by
  unfold freeB
  rw [decide_eq_true]
  refine fstA_none.mpr (fun m hm => ?_)
  unfold hitB
  cases hp : PT m with
  | none => rfl
  | some q =>
    have := (hK m q hp).2
    dsimp only
    rw [decide_eq_false (p := pk < q + (N m).ce) (by omega), Bool.and_false]
    rfl
theorem lfS_le {N : Nat → aN} {R T L : Nat → Nat} {n pk : Nat} {PT : Nat → Option Nat} {x : Nat} (hK : ptK N R n PT pk) (hpk : pk ≤ 1792) : lfS N T L n PT x ≤ pk := by
  have := fstA_first (k := 1793) (free_pk (T := T) (L := L) (x := x) hK) (Nat.zero_le pk)
  unfold lfS
  omega
theorem lfS_free {N : Nat → aN} {R T L : Nat → Nat} {n pk : Nat} {PT : Nat → Option Nat} {x : Nat} (hK : ptK N R n PT pk) (hpk : pk ≤ 1792) : freeB N T L n PT x (lfS N T L n PT x) = true := by
  have := lfS_le (T := T) (L := L) (x := x) hK hpk
  exact fstA_lt (by unfold lfS at this; omega)
/-- the nodes that end at t or before -/
def pasB (N : Nat → aN) (PT : Nat → Option Nat) (t m : Nat) : Bool := match PT m with
  | none => false
  | some q => decide (q + (N m).ce ≤ t)
theorem c_G_least (b : Nat) (A : gA) (n : Nat) (N : Nat → aN) (na : Nat → Option Nat) (ad fe : Nat → Nat) (R T L : Nat → Nat) (PT : Nat → Option Nat) (pk x : Nat) (X : gX) (h : rk_H) (k : gOK h b A n N na ad fe) (hX : X.n = n) (hbd : bdOK N n) (hT : plK X.sp R T n) (hL : plK X.la R L n) (hTb : ∀ i, i < n → T i ≤ 14) (hLb : ∀ i, i < n → L i ≤ 14) (hP : plR X.pl PT n) (hK : ptK N R n PT pk) (hpk : pk ≤ 1792) (hx : x < n) (hrx : R x = 2) (hpx : PT x = none) :
    rk_Con mG_leastFreePlace (2, 29, 0, 0) [.ref b, .int (nI x)] (gv h b A X) (rk_Rv (.int (nI (lfS N T L n PT x))) (gv h b A X)) := by
  have hn := k.n14
  have loop : ∀ (k1 i t : Nat), i + k1 = 14 → t ≤ pk → i ≤ cB (pasB N PT t) n → (∀ j, j < t → freeB N T L n PT x j = false) → rk_Run mG_leastFreePlace (2, 29, 0, 0) (rk_Rv (.int (nI (lfS N T L n PT x))) (gv h b A X)) 4 [some (.ref b), some (.int (nI x)), some (.int (nI t)), some (.int (nI i)), none] [] (gv h b A X) (0, 0) := by
    intro k1
    induction k1 with
    | zero =>
      intro i t hi ht hc hb
      have := cB_less (p := pasB N PT t) hx (by unfold pasB; rw [hpx])
      exact absurd hc (by omega)
    | succ k1 ih =>
      intro i t hi ht hc hb
      have hway := c_G_way b A n N na ad fe R T L PT pk x t X h k hX hbd hT hL hTb hLb hP hK hpk hx hrx (by omega)
      by_cases hz : fstA (hitB N T L PT x t) n 0 < n
      · have eo : fstO (hitB N T L PT x t) n = some (fstA (hitB N T L PT x t) n 0) := by unfold fstO; rw [if_pos hz]
        have hh := fstA_lt (p := hitB N T L PT x t) (k := n) (i := 0) (by omega)
        generalize fstA (hitB N T L PT x t) n 0 = m at hz eo hh
        rw [eo] at hway
        have hq := (k.2.1.2 m hz).1
        have hpm := hP m hz
        have hcm := (hbd m hz).ce
        cases hpt : PT m with
        | none => unfold hitB at hh; rw [hpt] at hh; cases hh
        | some q =>
          rw [hpt] at hpm
          have hqb := (hK m q hpt).2
          have hh0 := hh
          unfold hitB at hh
          rw [hpt] at hh
          dsimp only at hh
          rw [Bool.and_eq_true, Bool.and_eq_true, decide_eq_true_eq, decide_eq_true_eq] at hh
          obtain ⟨⟨g1, g2⟩, g3⟩ := hh
          have hb2 : ∀ j, j < q + (N m).ce → freeB N T L n PT x j = false := by
            intro j hj
            by_cases hjt : j < t
            · exact hb j hjt
            · refine freeB_hit hz ?_
              unfold hitB
              rw [hpt]
              dsimp only
              rw [g1, decide_eq_true hj, decide_eq_true (show q < j + (N x).ce by omega)]
              rfl
          have hc2 : i + 1 ≤ cB (pasB N PT (q + (N m).ce)) n := by
            have := cB_more (p := pasB N PT t) (q := pasB N PT (q + (N m).ce)) (k := n) (m := m) (fun j _ hj => by
              unfold pasB at hj ⊢
              cases hpj : PT j with
              | none => rw [hpj] at hj; cases hj
              | some z =>
                rw [hpj] at hj
                dsimp only at hj ⊢
                rw [decide_eq_true_eq] at hj ⊢
                omega) hz (by unfold pasB; rw [hpt]; dsimp only; rw [decide_eq_false (by omega)]) (by unfold pasB; rw [hpt]; dsimp only; rw [decide_eq_true (by omega)])
            omega
          refine rk_iload_n dG_leastFreePlace_4 rfl ?_
          refine rk_bipush (v := 14) dG_leastFreePlace_5 (by decide) ?_
          refine rk_icmp_ge 51 dG_leastFreePlace_7 (by decide) (fun q_7 => ?_) (fun q_7 => ?_)
          · exact absurd q_7 (nI_ge (b := 14) (by omega) (by omega))
          · refine rk_aload_n dG_leastFreePlace_10 rfl ?_
            refine rk_iload_n dG_leastFreePlace_11 rfl ?_
            refine rk_iload_n dG_leastFreePlace_12 rfl ?_
            refine rk_cvV (hway) cG_156 dG_leastFreePlace_13 rfl lG_nodeInTheWay (Nat.le_of_ble_eq_true rfl) (Nat.le_of_ble_eq_true rfl) (Nat.le_of_ble_eq_true rfl) (Nat.le_of_ble_eq_true rfl) (by first | exact k.gb | exact k.gpl | exact k.gna | exact k.gnd hz | assumption) ?_
            rw [show oI (some m) = nI m from rfl]
            refine rk_istore dG_leastFreePlace_16 (Nat.le_of_ble_eq_true rfl) ?_
            refine rk_iload dG_leastFreePlace_18 rfl ?_
            refine rk_iconst (v := -1) dG_leastFreePlace_20 (by decide) ?_
            refine rk_icmp_ne 26 dG_leastFreePlace_21 (by decide) (fun q_21 => ?_) (fun q_21 => ?_)
            · refine rk_aload_n dG_leastFreePlace_26 rfl ?_
              refine rk_getf fG_27 dG_leastFreePlace_27 (by first | exact k.gb | exact k.gpl | exact k.gna | exact k.gnd hz | assumption) rfl ?_
              refine rk_iload dG_leastFreePlace_30 rfl ?_
              refine rk_iald dG_leastFreePlace_32 (by first | exact k.gb | exact k.gpl | exact k.gna | exact k.gnd hz | assumption) (vp_in_nI (show m < 14 by omega) (by omega)) ?_
              rw [nI_clamp (show m < 2 ^ 31 by omega), hpm, show oI (some q) = nI q from rfl]
              refine rk_aload_n dG_leastFreePlace_33 rfl ?_
              refine rk_getf fG_11 dG_leastFreePlace_34 (by first | exact k.gb | exact k.gpl | exact k.gna | exact k.gnd hz | assumption) rfl ?_
              refine rk_iload dG_leastFreePlace_37 rfl ?_
              refine rk_aald rfl dG_leastFreePlace_39 (by first | exact k.gb | exact k.gpl | exact k.gna | exact k.gnd hz | assumption) (vp_in_nI (show m < 14 by omega) (by omega)) (v_nd (by omega) hq) ?_
              refine rk_getf fG_147 dG_leastFreePlace_40 (by first | exact k.gb | exact k.gpl | exact k.gna | exact k.gnd hz | assumption) rfl ?_
              refine rk_iadd dG_leastFreePlace_43 ?_
              rw [nI_add]
              refine rk_istore_n dG_leastFreePlace_44 (Nat.le_of_ble_eq_true rfl) ?_
              refine rk_iinc dG_leastFreePlace_45 rfl (inc1 i) (Nat.le_of_ble_eq_true rfl) ?_
              refine rk_goto 4 dG_leastFreePlace_48 (by decide) ?_
              refine rk_lv [some (.ref b), some (.int (nI x)), some (.int (nI (q + (N m).ce))), some (.int (nI (i + 1))), none] ⟨rfl, rfl, rfl, rfl, trivial⟩ ?_
              exact ih (i + 1) _ (by omega) hqb hc2 hb2
            · exact absurd (show nI m < 0 by rw [q_21]; decide) (nI_pos (by omega))
      · have eo : fstO (hitB N T L PT x t) n = none := by unfold fstO; rw [if_neg hz]
        have hfr : freeB N T L n PT x t = true := by
          unfold freeB
          have := (fstA_le (p := hitB N T L PT x t) (k := n) (i := 0)).1
          rw [decide_eq_true (by omega)]
        have hl : lfS N T L n PT x = t := fstA_is hfr hb (by omega)
        rw [eo] at hway
        refine rk_iload_n dG_leastFreePlace_4 rfl ?_
        refine rk_bipush (v := 14) dG_leastFreePlace_5 (by decide) ?_
        refine rk_icmp_ge 51 dG_leastFreePlace_7 (by decide) (fun q_7 => ?_) (fun q_7 => ?_)
        · exact absurd q_7 (nI_ge (b := 14) (by omega) (by omega))
        · refine rk_aload_n dG_leastFreePlace_10 rfl ?_
          refine rk_iload_n dG_leastFreePlace_11 rfl ?_
          refine rk_iload_n dG_leastFreePlace_12 rfl ?_
          refine rk_cvV (hway) cG_156 dG_leastFreePlace_13 rfl lG_nodeInTheWay (Nat.le_of_ble_eq_true rfl) (Nat.le_of_ble_eq_true rfl) (Nat.le_of_ble_eq_true rfl) (Nat.le_of_ble_eq_true rfl) (by first | exact k.gb | assumption) ?_
          rw [show oI none = -1 from rfl]
          refine rk_istore dG_leastFreePlace_16 (Nat.le_of_ble_eq_true rfl) ?_
          refine rk_iload dG_leastFreePlace_18 rfl ?_
          refine rk_iconst (v := -1) dG_leastFreePlace_20 (by decide) ?_
          refine rk_icmp_ne 26 dG_leastFreePlace_21 (by decide) (fun q_21 => ?_) (fun q_21 => ?_)
          · exact absurd rfl q_21
          · refine rk_iload_n dG_leastFreePlace_24 rfl ?_
            exact rk_iret rfl dG_leastFreePlace_25 ⟨(Nat.le_of_ble_eq_true rfl), (Nat.le_of_ble_eq_true rfl)⟩ (⟨by rw [hl], rfl⟩)
  refine rk_Con.of [some (.ref b), some (.int (nI x)), none, none, none] rfl (Nat.le_of_ble_eq_true rfl) (by decide +kernel) ?_
  refine rk_iconst (v := 0) dG_leastFreePlace_0 (by decide) ?_
  refine rk_istore_n dG_leastFreePlace_1 (Nat.le_of_ble_eq_true rfl) ?_
  refine rk_iconst (v := 0) dG_leastFreePlace_2 (by decide) ?_
  refine rk_istore_n dG_leastFreePlace_3 (Nat.le_of_ble_eq_true rfl) ?_
  exact loop 14 0 0 (by omega) (by omega) (Nat.zero_le _) (fun j hj => by omega)
def bgr (N : Nat → aN) (q : Option Nat) (i : Nat) : Bool := match q with
  | none => true
  | some m => decide ((N m).ce < (N i).ce)
def bigS (N : Nat → aN) (R : Nat → Nat) (PT : Nat → Option Nat) (i : Nat) (q : Option Nat) : Option Nat := if R i = 2 ∧ PT i = none ∧ bgr N q i = true then some i else q
/-- the largest node that waits -/
def bigO (N : Nat → aN) (R : Nat → Nat) (n : Nat) (PT : Nat → Option Nat) : Option Nat := itr (bigS N R PT) n 0 none
theorem c_G_largest (b : Nat) (A : gA) (n : Nat) (N : Nat → aN) (na : Nat → Option Nat) (ad fe : Nat → Nat) (R : Nat → Nat) (PT : Nat → Option Nat) (pk : Nat) (X : gX) (h : rk_H) (k : gOK h b A n N na ad fe) (hX : X.n = n) (hbd : bdOK N n) (hst : sfK X.st R n) (h2 : ∀ j, R j ≤ 2) (hP : plR X.pl PT n) (hK : ptK N R n PT pk) (hpk : pk ≤ 1792) :
    rk_Con mG_largestWithoutPlace (0, 0, 0, 0) [.ref b] (gv h b A X) (rk_Rv (.int (oI (bigO N R n PT))) (gv h b A X)) := by
  have hn := k.n14
  have loop : ∀ (k1 i : Nat) (q : Option Nat), i + k1 = n → (∀ m, q = some m → m < n) → rk_Run mG_largestWithoutPlace (0, 0, 0, 0) (rk_Rv (.int (oI (itr (bigS N R PT) k1 i q))) (gv h b A X)) 4 [some (.ref b), some (.int (oI q)), some (.int (nI i)), none] [] (gv h b A X) (0, 0) := by
    intro k1
    induction k1 with
    | zero =>
      intro i q hi hq
      have hi : i = n := by omega
      subst hi
      refine rk_iload_n dG_largestWithoutPlace_4 rfl ?_
      refine rk_aload_n dG_largestWithoutPlace_5 rfl ?_
      refine rk_getf fG_33 dG_largestWithoutPlace_6 (by first | exact k.gb | assumption) rfl ?_
      rw [hX]
      refine rk_icmp_ge 76 dG_largestWithoutPlace_9 (by decide) (fun q_9 => ?_) (fun q_9 => ?_)
      · refine rk_iload_n dG_largestWithoutPlace_76 rfl ?_
        exact rk_iret rfl dG_largestWithoutPlace_77 ⟨(Nat.le_of_ble_eq_true rfl), (Nat.le_of_ble_eq_true rfl)⟩ (⟨rfl, rfl⟩)
      · exact absurd (nI_le (Nat.le_refl _) (by omega)) q_9
    | succ k1 ih =>
      intro i q hi hq
      have hin' : i < n := by omega
      have hqi := (k.2.1.2 i hin').1
      have hfi := hst i hin'
      have hpi := hP i hin'
      have hci := (hbd i hin').ce
      have e2 : nI (R i) = 2 ↔ R i = 2 := nI2 (v := 2) (h2 i) (by omega)
      have es : itr (bigS N R PT) (k1 + 1) i q = itr (bigS N R PT) k1 (i + 1) (bigS N R PT i q) := rfl
      rw [es]
      by_cases hr : R i = 2
      · cases hpt : PT i with
        | some z =>
          rw [hpt] at hpi
          have hz := (hK i z hpt).2
          rw [show bigS N R PT i q = q by unfold bigS; rw [if_neg (by rw [hpt]; intro z; cases z.2.1)]]
          refine rk_iload_n dG_largestWithoutPlace_4 rfl ?_
          refine rk_aload_n dG_largestWithoutPlace_5 rfl ?_
          refine rk_getf fG_33 dG_largestWithoutPlace_6 (by first | exact k.gb | exact k.gst | exact k.gpl | assumption) rfl ?_
          rw [hX]
          refine rk_icmp_ge 76 dG_largestWithoutPlace_9 (by decide) (fun q_9 => ?_) (fun q_9 => ?_)
          · exact absurd q_9 (nI_ge (by omega) (by omega))
          · refine rk_aload_n dG_largestWithoutPlace_12 rfl ?_
            refine rk_getf fG_21 dG_largestWithoutPlace_13 (by first | exact k.gb | exact k.gst | exact k.gpl | assumption) rfl ?_
            refine rk_iload_n dG_largestWithoutPlace_16 rfl ?_
            refine rk_iald dG_largestWithoutPlace_17 (by first | exact k.gb | exact k.gst | exact k.gpl | assumption) (vp_in_nI (show i < 14 by omega) (by omega)) ?_
            rw [nI_clamp (show i < 2 ^ 31 by omega), hfi]
            refine rk_iconst (v := 2) dG_largestWithoutPlace_18 (by decide) ?_
            refine rk_icmp_ne 36 dG_largestWithoutPlace_19 (by decide) (fun q_19 => ?_) (fun q_19 => ?_)
            · exact absurd (e2.mpr hr) q_19
            · refine rk_aload_n dG_largestWithoutPlace_22 rfl ?_
              refine rk_getf fG_27 dG_largestWithoutPlace_23 (by first | exact k.gb | exact k.gst | exact k.gpl | assumption) rfl ?_
              refine rk_iload_n dG_largestWithoutPlace_26 rfl ?_
              refine rk_iald dG_largestWithoutPlace_27 (by first | exact k.gb | exact k.gst | exact k.gpl | assumption) (vp_in_nI (show i < 14 by omega) (by omega)) ?_
              rw [nI_clamp (show i < 2 ^ 31 by omega), hpi]
              refine rk_iconst (v := -1) dG_largestWithoutPlace_28 (by decide) ?_
              refine rk_icmp_ne 36 dG_largestWithoutPlace_29 (by decide) (fun q_29 => ?_) (fun q_29 => ?_)
              · refine rk_iconst (v := 0) dG_largestWithoutPlace_36 (by decide) ?_
                refine rk_istore_n dG_largestWithoutPlace_37 (Nat.le_of_ble_eq_true rfl) ?_
                refine rk_iload_n dG_largestWithoutPlace_38 rfl ?_
                refine rk_if_eq 70 dG_largestWithoutPlace_39 (by decide) (fun q_39 => ?_) (fun q_39 => ?_)
                · refine rk_iinc dG_largestWithoutPlace_70 rfl (inc1 i) (Nat.le_of_ble_eq_true rfl) ?_
                  refine rk_goto 4 dG_largestWithoutPlace_73 (by decide) ?_
                  refine rk_lv [some (.ref b), some (.int (oI q)), some (.int (nI (i + 1))), none] ⟨rfl, rfl, rfl, trivial⟩ ?_
                  exact ih (i + 1) q (by omega) hq
                · exact absurd rfl q_39
              · exact absurd (show nI z < 0 by rw [show nI z = -1 from q_29]; decide) (nI_pos (by omega))
        | none =>
          rw [hpt] at hpi
          cases q with
          | none =>
            rw [show bigS N R PT i none = some i by unfold bigS; rw [if_pos ⟨hr, hpt, rfl⟩]]
            refine rk_iload_n dG_largestWithoutPlace_4 rfl ?_
            refine rk_aload_n dG_largestWithoutPlace_5 rfl ?_
            refine rk_getf fG_33 dG_largestWithoutPlace_6 (by first | exact k.gb | exact k.gst | exact k.gpl | assumption) rfl ?_
            rw [hX]
            refine rk_icmp_ge 76 dG_largestWithoutPlace_9 (by decide) (fun q_9 => ?_) (fun q_9 => ?_)
            · exact absurd q_9 (nI_ge (by omega) (by omega))
            · refine rk_aload_n dG_largestWithoutPlace_12 rfl ?_
              refine rk_getf fG_21 dG_largestWithoutPlace_13 (by first | exact k.gb | exact k.gst | exact k.gpl | assumption) rfl ?_
              refine rk_iload_n dG_largestWithoutPlace_16 rfl ?_
              refine rk_iald dG_largestWithoutPlace_17 (by first | exact k.gb | exact k.gst | exact k.gpl | assumption) (vp_in_nI (show i < 14 by omega) (by omega)) ?_
              rw [nI_clamp (show i < 2 ^ 31 by omega), hfi]
              refine rk_iconst (v := 2) dG_largestWithoutPlace_18 (by decide) ?_
              refine rk_icmp_ne 36 dG_largestWithoutPlace_19 (by decide) (fun q_19 => ?_) (fun q_19 => ?_)
              · exact absurd (e2.mpr hr) q_19
              · refine rk_aload_n dG_largestWithoutPlace_22 rfl ?_
                refine rk_getf fG_27 dG_largestWithoutPlace_23 (by first | exact k.gb | exact k.gst | exact k.gpl | assumption) rfl ?_
                refine rk_iload_n dG_largestWithoutPlace_26 rfl ?_
                refine rk_iald dG_largestWithoutPlace_27 (by first | exact k.gb | exact k.gst | exact k.gpl | assumption) (vp_in_nI (show i < 14 by omega) (by omega)) ?_
                rw [nI_clamp (show i < 2 ^ 31 by omega), hpi]
                refine rk_iconst (v := -1) dG_largestWithoutPlace_28 (by decide) ?_
                refine rk_icmp_ne 36 dG_largestWithoutPlace_29 (by decide) (fun q_29 => ?_) (fun q_29 => ?_)
                · exact absurd rfl q_29
                · refine rk_iconst (v := 1) dG_largestWithoutPlace_32 (by decide) ?_
                  refine rk_goto 37 dG_largestWithoutPlace_33 (by decide) ?_
                  refine rk_istore_n dG_largestWithoutPlace_37 (Nat.le_of_ble_eq_true rfl) ?_
                  refine rk_iload_n dG_largestWithoutPlace_38 rfl ?_
                  refine rk_if_eq 70 dG_largestWithoutPlace_39 (by decide) (fun q_39 => ?_) (fun q_39 => ?_)
                  · exact absurd q_39 (by decide)
                  · refine rk_iload_n dG_largestWithoutPlace_42 rfl ?_
                    refine rk_iconst (v := -1) dG_largestWithoutPlace_43 (by decide) ?_
                    refine rk_icmp_eq 68 dG_largestWithoutPlace_44 (by decide) (fun q_44 => ?_) (fun q_44 => ?_)
                    · refine rk_iload_n dG_largestWithoutPlace_68 rfl ?_
                      refine rk_istore_n dG_largestWithoutPlace_69 (Nat.le_of_ble_eq_true rfl) ?_
                      refine rk_iinc dG_largestWithoutPlace_70 rfl (inc1 i) (Nat.le_of_ble_eq_true rfl) ?_
                      refine rk_goto 4 dG_largestWithoutPlace_73 (by decide) ?_
                      refine rk_lv [some (.ref b), some (.int (oI (some i))), some (.int (nI (i + 1))), none] ⟨rfl, rfl, rfl, trivial⟩ ?_
                      exact ih (i + 1) (some i) (by omega) (fun m hm => by cases hm; omega)
                    · exact absurd rfl q_44
          | some m =>
            have hm := hq m rfl
            have hqm := (k.2.1.2 m hm).1
            have hcm := (hbd m hm).ce
            have j1 : nI (N i).ce ≤ nI (N m).ce ↔ (N i).ce ≤ (N m).ce := nI_leI (by omega) (by omega)
            refine rk_iload_n dG_largestWithoutPlace_4 rfl ?_
            refine rk_aload_n dG_largestWithoutPlace_5 rfl ?_
            refine rk_getf fG_33 dG_largestWithoutPlace_6 (by first | exact k.gb | exact k.gst | exact k.gpl | exact k.gna | exact k.gnd hin' | exact k.gnd hm | assumption) rfl ?_
            rw [hX]
            refine rk_icmp_ge 76 dG_largestWithoutPlace_9 (by decide) (fun q_9 => ?_) (fun q_9 => ?_)
            · exact absurd q_9 (nI_ge (by omega) (by omega))
            · refine rk_aload_n dG_largestWithoutPlace_12 rfl ?_
              refine rk_getf fG_21 dG_largestWithoutPlace_13 (by first | exact k.gb | exact k.gst | exact k.gpl | exact k.gna | exact k.gnd hin' | exact k.gnd hm | assumption) rfl ?_
              refine rk_iload_n dG_largestWithoutPlace_16 rfl ?_
              refine rk_iald dG_largestWithoutPlace_17 (by first | exact k.gb | exact k.gst | exact k.gpl | exact k.gna | exact k.gnd hin' | exact k.gnd hm | assumption) (vp_in_nI (show i < 14 by omega) (by omega)) ?_
              rw [nI_clamp (show i < 2 ^ 31 by omega), hfi]
              refine rk_iconst (v := 2) dG_largestWithoutPlace_18 (by decide) ?_
              refine rk_icmp_ne 36 dG_largestWithoutPlace_19 (by decide) (fun q_19 => ?_) (fun q_19 => ?_)
              · exact absurd (e2.mpr hr) q_19
              · refine rk_aload_n dG_largestWithoutPlace_22 rfl ?_
                refine rk_getf fG_27 dG_largestWithoutPlace_23 (by first | exact k.gb | exact k.gst | exact k.gpl | exact k.gna | exact k.gnd hin' | exact k.gnd hm | assumption) rfl ?_
                refine rk_iload_n dG_largestWithoutPlace_26 rfl ?_
                refine rk_iald dG_largestWithoutPlace_27 (by first | exact k.gb | exact k.gst | exact k.gpl | exact k.gna | exact k.gnd hin' | exact k.gnd hm | assumption) (vp_in_nI (show i < 14 by omega) (by omega)) ?_
                rw [nI_clamp (show i < 2 ^ 31 by omega), hpi]
                refine rk_iconst (v := -1) dG_largestWithoutPlace_28 (by decide) ?_
                refine rk_icmp_ne 36 dG_largestWithoutPlace_29 (by decide) (fun q_29 => ?_) (fun q_29 => ?_)
                · exact absurd rfl q_29
                · refine rk_iconst (v := 1) dG_largestWithoutPlace_32 (by decide) ?_
                  refine rk_goto 37 dG_largestWithoutPlace_33 (by decide) ?_
                  refine rk_istore_n dG_largestWithoutPlace_37 (Nat.le_of_ble_eq_true rfl) ?_
                  refine rk_iload_n dG_largestWithoutPlace_38 rfl ?_
                  refine rk_if_eq 70 dG_largestWithoutPlace_39 (by decide) (fun q_39 => ?_) (fun q_39 => ?_)
                  · exact absurd q_39 (by decide)
                  · refine rk_iload_n dG_largestWithoutPlace_42 rfl ?_
                    refine rk_iconst (v := -1) dG_largestWithoutPlace_43 (by decide) ?_
                    refine rk_icmp_eq 68 dG_largestWithoutPlace_44 (by decide) (fun q_44 => ?_) (fun q_44 => ?_)
                    · exact absurd (show nI m < 0 by rw [show nI m = -1 from q_44]; decide) (nI_pos (by omega))
                    · refine rk_aload_n dG_largestWithoutPlace_47 rfl ?_
                      refine rk_getf fG_11 dG_largestWithoutPlace_48 (by first | exact k.gb | exact k.gst | exact k.gpl | exact k.gna | exact k.gnd hin' | exact k.gnd hm | assumption) rfl ?_
                      refine rk_iload_n dG_largestWithoutPlace_51 rfl ?_
                      refine rk_aald rfl dG_largestWithoutPlace_52 (by first | exact k.gb | exact k.gst | exact k.gpl | exact k.gna | exact k.gnd hin' | exact k.gnd hm | assumption) (vp_in_nI (show i < 14 by omega) (by omega)) (v_nd (by omega) hqi) ?_
                      refine rk_getf fG_147 dG_largestWithoutPlace_53 (by first | exact k.gb | exact k.gst | exact k.gpl | exact k.gna | exact k.gnd hin' | exact k.gnd hm | assumption) rfl ?_
                      refine rk_aload_n dG_largestWithoutPlace_56 rfl ?_
                      refine rk_getf fG_11 dG_largestWithoutPlace_57 (by first | exact k.gb | exact k.gst | exact k.gpl | exact k.gna | exact k.gnd hin' | exact k.gnd hm | assumption) rfl ?_
                      refine rk_iload_n dG_largestWithoutPlace_60 rfl ?_
                      refine rk_aald rfl dG_largestWithoutPlace_61 (by first | exact k.gb | exact k.gst | exact k.gpl | exact k.gna | exact k.gnd hin' | exact k.gnd hm | assumption) (vp_in_nI (show m < 14 by omega) (by omega)) (v_nd (by omega) hqm) ?_
                      refine rk_getf fG_147 dG_largestWithoutPlace_62 (by first | exact k.gb | exact k.gst | exact k.gpl | exact k.gna | exact k.gnd hin' | exact k.gnd hm | assumption) rfl ?_
                      refine rk_icmp_le 70 dG_largestWithoutPlace_65 (by decide) (fun q_65 => ?_) (fun q_65 => ?_)
                      · refine rk_iinc dG_largestWithoutPlace_70 rfl (inc1 i) (Nat.le_of_ble_eq_true rfl) ?_
                        refine rk_goto 4 dG_largestWithoutPlace_73 (by decide) ?_
                        first
                          | (rw [show bigS N R PT i (some m) = some m by unfold bigS; rw [if_neg (fun z => by have := of_decide_eq_true (show decide ((N m).ce < (N i).ce) = true from z.2.2); have := j1.mp q_65; omega)]]; refine rk_lv [some (.ref b), some (.int (oI (some m))), some (.int (nI (i + 1))), none] ⟨rfl, rfl, rfl, trivial⟩ ?_; exact ih (i + 1) (some m) (by omega) hq)
                          | (rw [show bigS N R PT i (some m) = some i by unfold bigS; rw [if_pos ⟨hr, hpt, decide_eq_true (show (N m).ce < (N i).ce from Nat.not_le.mp (fun z => q_65 (j1.mpr z)))⟩]]; refine rk_lv [some (.ref b), some (.int (oI (some i))), some (.int (nI (i + 1))), none] ⟨rfl, rfl, rfl, trivial⟩ ?_; exact ih (i + 1) (some i) (by omega) (fun m hm => by cases hm; omega))
                      · refine rk_iload_n dG_largestWithoutPlace_68 rfl ?_
                        refine rk_istore_n dG_largestWithoutPlace_69 (Nat.le_of_ble_eq_true rfl) ?_
                        refine rk_iinc dG_largestWithoutPlace_70 rfl (inc1 i) (Nat.le_of_ble_eq_true rfl) ?_
                        refine rk_goto 4 dG_largestWithoutPlace_73 (by decide) ?_
                        first
                          | (rw [show bigS N R PT i (some m) = some m by unfold bigS; rw [if_neg (fun z => by have := of_decide_eq_true (show decide ((N m).ce < (N i).ce) = true from z.2.2); have := j1.mp q_65; omega)]]; refine rk_lv [some (.ref b), some (.int (oI (some m))), some (.int (nI (i + 1))), none] ⟨rfl, rfl, rfl, trivial⟩ ?_; exact ih (i + 1) (some m) (by omega) hq)
                          | (rw [show bigS N R PT i (some m) = some i by unfold bigS; rw [if_pos ⟨hr, hpt, decide_eq_true (show (N m).ce < (N i).ce from Nat.not_le.mp (fun z => q_65 (j1.mpr z)))⟩]]; refine rk_lv [some (.ref b), some (.int (oI (some i))), some (.int (nI (i + 1))), none] ⟨rfl, rfl, rfl, trivial⟩ ?_; exact ih (i + 1) (some i) (by omega) (fun m hm => by cases hm; omega))
      · rw [show bigS N R PT i q = q by unfold bigS; rw [if_neg (fun z => hr z.1)]]
        refine rk_iload_n dG_largestWithoutPlace_4 rfl ?_
        refine rk_aload_n dG_largestWithoutPlace_5 rfl ?_
        refine rk_getf fG_33 dG_largestWithoutPlace_6 (by first | exact k.gb | exact k.gst | exact k.gpl | assumption) rfl ?_
        rw [hX]
        refine rk_icmp_ge 76 dG_largestWithoutPlace_9 (by decide) (fun q_9 => ?_) (fun q_9 => ?_)
        · exact absurd q_9 (nI_ge (by omega) (by omega))
        · refine rk_aload_n dG_largestWithoutPlace_12 rfl ?_
          refine rk_getf fG_21 dG_largestWithoutPlace_13 (by first | exact k.gb | exact k.gst | exact k.gpl | assumption) rfl ?_
          refine rk_iload_n dG_largestWithoutPlace_16 rfl ?_
          refine rk_iald dG_largestWithoutPlace_17 (by first | exact k.gb | exact k.gst | exact k.gpl | assumption) (vp_in_nI (show i < 14 by omega) (by omega)) ?_
          rw [nI_clamp (show i < 2 ^ 31 by omega), hfi]
          refine rk_iconst (v := 2) dG_largestWithoutPlace_18 (by decide) ?_
          refine rk_icmp_ne 36 dG_largestWithoutPlace_19 (by decide) (fun q_19 => ?_) (fun q_19 => ?_)
          · refine rk_iconst (v := 0) dG_largestWithoutPlace_36 (by decide) ?_
            refine rk_istore_n dG_largestWithoutPlace_37 (Nat.le_of_ble_eq_true rfl) ?_
            refine rk_iload_n dG_largestWithoutPlace_38 rfl ?_
            refine rk_if_eq 70 dG_largestWithoutPlace_39 (by decide) (fun q_39 => ?_) (fun q_39 => ?_)
            · refine rk_iinc dG_largestWithoutPlace_70 rfl (inc1 i) (Nat.le_of_ble_eq_true rfl) ?_
              refine rk_goto 4 dG_largestWithoutPlace_73 (by decide) ?_
              refine rk_lv [some (.ref b), some (.int (oI q)), some (.int (nI (i + 1))), none] ⟨rfl, rfl, rfl, trivial⟩ ?_
              exact ih (i + 1) q (by omega) hq
            · exact absurd rfl q_39
          · exact absurd (e2.mp q_19) hr
  refine rk_Con.of [some (.ref b), none, none, none] rfl (Nat.le_of_ble_eq_true rfl) (by decide +kernel) ?_
  refine rk_iconst (v := -1) dG_largestWithoutPlace_0 (by decide) ?_
  refine rk_istore_n dG_largestWithoutPlace_1 (Nat.le_of_ble_eq_true rfl) ?_
  refine rk_iconst (v := 0) dG_largestWithoutPlace_2 (by decide) ?_
  refine rk_istore_n dG_largestWithoutPlace_3 (Nat.le_of_ble_eq_true rfl) ?_
  exact loop n 0 none (by omega) (fun m hm => by cases hm)
theorem bigO_ok {N : Nat → aN} {R : Nat → Nat} {n : Nat} {PT : Nat → Option Nat} {m : Nat} (h : bigO N R n PT = some m) : m < n ∧ R m = 2 ∧ PT m = none := by
  have aux : ∀ (k i : Nat) (q : Option Nat), i + k = n → (∀ m, q = some m → m < n ∧ R m = 2 ∧ PT m = none) → ∀ m, itr (bigS N R PT) k i q = some m → m < n ∧ R m = 2 ∧ PT m = none := by
    intro k
    induction k with
    | zero => intro i q hi hq m hm; exact hq m hm
    | succ k ih =>
      intro i q hi hq m hm
      refine ih (i + 1) _ (by omega) (fun z hz => ?_) m hm
      unfold bigS at hz
      split at hz
      · next hc => cases hz; exact ⟨by omega, hc.1, hc.2.1⟩
      · exact hq z hz
  exact aux n 0 none (by omega) (fun m hm => by cases hm) m h
/-- one round of giving a place -/
def plS (N : Nat → aN) (R T L : Nat → Nat) (n : Nat) (q : (Nat → Option Nat) × Nat) : (Nat → Option Nat) × Nat := match bigO N R n q.1 with
  | none => q
  | some x => (fun j => if j = x then some (lfS N T L n q.1 x) else q.1 j, max q.2 (lfS N T L n q.1 x + (N x).ce))
def plT (N : Nat → aN) (R T L : Nat → Nat) (n r : Nat) : (Nat → Option Nat) × Nat := itr (fun _ q => plS N R T L n q) r 0 (fun _ => none, 0)
theorem plS_K {N : Nat → aN} {R T L : Nat → Nat} {n : Nat} {q : (Nat → Option Nat) × Nat} {c : Nat} (hbd : bdOK N n) (hK : ptK N R n q.1 q.2) (hc : q.2 ≤ 128 * c) (hc2 : c ≤ 14) : ptK N R n (plS N R T L n q).1 (plS N R T L n q).2 ∧ (plS N R T L n q).2 ≤ 128 * (c + 1) := by
  unfold plS
  cases hb : bigO N R n q.1 with
  | none => exact ⟨hK, by dsimp only; omega⟩
  | some x =>
    obtain ⟨b1, b2, b3⟩ := bigO_ok hb
    have hl := lfS_le (T := T) (L := L) (x := x) hK (by omega)
    have hx := (hbd x b1).ce
    dsimp only
    refine ⟨?_, by omega⟩
    intro m z hm
    dsimp only at hm
    by_cases hmx : m = x
    · subst hmx
      rw [if_pos rfl] at hm
      cases hm
      exact ⟨⟨b1, b2⟩, by omega⟩
    · rw [if_neg hmx] at hm
      obtain ⟨g1, g2⟩ := hK m z hm
      exact ⟨g1, by omega⟩
theorem c_G_givePlaces (b : Nat) (A : gA) (n : Nat) (N : Nat → aN) (na : Nat → Option Nat) (ad fe : Nat → Nat) (R T L : Nat → Nat) (K : Nat) (X : gX) (h : rk_H) (k : gOK h b A n N na ad fe) (hX : X.n = n) (hbd : bdOK N n) (hst : sfK X.st R n) (h2 : ∀ j, R j ≤ 2) (hT : plK X.sp R T n) (hL : plK X.la R L n) (hTb : ∀ i, i < n → T i ≤ 14) (hLb : ∀ i, i < n → L i ≤ 14) (hsn : X.sn = nI K) (hKn : K ≤ 14) :
    rk_Con mG_givePlaces (3, 47, 0, 0) [.ref b] (gv h b A X) (fun r h' => r = .inl none ∧ ∃ f : Nat → Int32, h' = gv h b A ((X.wpk (nI (plT N R T L n K).2)).wpl f) ∧ plR f (plT N R T L n K).1 n) := by
  have hn := k.n14
  have loop : ∀ (k1 i : Nat) (q : (Nat → Option Nat) × Nat) (f : Nat → Int32), i + k1 = K → ptK N R n q.1 q.2 → q.2 ≤ 128 * i → plR f q.1 n → rk_Run mG_givePlaces (3, 47, 0, 0) (fun r h' => r = .inl none ∧ ∃ f : Nat → Int32, h' = gv h b A ((X.wpk (nI (itr (fun _ q => plS N R T L n q) k1 i q).2)).wpl f) ∧ plR f (itr (fun _ q => plS N R T L n q) k1 i q).1 n) 15 [some (.ref b), some (.int (nI i)), none] [] (gv h b A ((X.wpk (nI q.2)).wpl f)) (0, 0) := by
    intro k1
    induction k1 with
    | zero =>
      intro i q f hi hq hq2 hf
      have hi : i = K := by omega
      subst hi
      refine rk_iload_n dG_givePlaces_15 rfl ?_
      refine rk_aload_n dG_givePlaces_16 rfl ?_
      refine rk_getf fG_127 dG_givePlaces_17 (by first | exact k.gb | assumption) rfl ?_
      rw [show ((X.wpk (nI q.2)).wpl f).sn = nI i from hsn]
      refine rk_icmp_ge 77 dG_givePlaces_20 (by decide) (fun q_20 => ?_) (fun q_20 => ?_)
      · exact rk_ret rfl dG_givePlaces_77 ⟨(Nat.le_of_ble_eq_true rfl), (Nat.le_of_ble_eq_true rfl)⟩ (⟨rfl, f, rfl, hf⟩)
      · exact absurd (nI_le (Nat.le_refl _) (by omega)) q_20
    | succ k1 ih =>
      intro i q f hi hq hq2 hf
      have hl := c_G_largest b A n N na ad fe R q.1 q.2 ((X.wpk (nI q.2)).wpl f) h k hX hbd hst h2 hf hq (by omega)
      obtain ⟨n1, n2⟩ := plS_K (T := T) (L := L) hbd hq hq2 (by omega)
      have es : itr (fun _ q => plS N R T L n q) (k1 + 1) i q = itr (fun _ q => plS N R T L n q) k1 (i + 1) (plS N R T L n q) := rfl
      rw [es]
      cases hb : bigO N R n q.1 with
      | none =>
        rw [hb] at hl
        have ep : plS N R T L n q = q := by unfold plS; rw [hb]
        rw [ep] at n1 n2 ⊢
        refine rk_iload_n dG_givePlaces_15 rfl ?_
        refine rk_aload_n dG_givePlaces_16 rfl ?_
        refine rk_getf fG_127 dG_givePlaces_17 (by first | exact k.gb | assumption) rfl ?_
        rw [show ((X.wpk (nI q.2)).wpl f).sn = nI K from hsn]
        refine rk_icmp_ge 77 dG_givePlaces_20 (by decide) (fun q_20 => ?_) (fun q_20 => ?_)
        · exact absurd q_20 (nI_ge (by omega) (by omega))
        · refine rk_aload_n dG_givePlaces_23 rfl ?_
          refine rk_cvV (hl) cG_140 dG_givePlaces_24 rfl lG_largestWithoutPlace (Nat.le_of_ble_eq_true rfl) (Nat.le_of_ble_eq_true rfl) (Nat.le_of_ble_eq_true rfl) (Nat.le_of_ble_eq_true rfl) (by first | exact k.gb | assumption) ?_
          refine rk_istore_n dG_givePlaces_27 (Nat.le_of_ble_eq_true rfl) ?_
          refine rk_iload_n dG_givePlaces_28 rfl ?_
          refine rk_iconst (v := -1) dG_givePlaces_29 (by decide) ?_
          refine rk_icmp_eq 71 dG_givePlaces_30 (by decide) (fun q_30 => ?_) (fun q_30 => ?_)
          · refine rk_iinc dG_givePlaces_71 rfl (inc1 i) (Nat.le_of_ble_eq_true rfl) ?_
            refine rk_goto 15 dG_givePlaces_74 (by decide) ?_
            refine rk_lv [some (.ref b), some (.int (nI (i + 1))), none] ⟨rfl, rfl, trivial⟩ ?_
            exact ih (i + 1) q f (by omega) n1 n2 hf
          · exact absurd rfl q_30
      | some x =>
        rw [hb] at hl
        obtain ⟨b1, b2, b3⟩ := bigO_ok hb
        have hqx := (k.2.1.2 x b1).1
        have hls := c_G_least b A n N na ad fe R T L q.1 q.2 x ((X.wpk (nI q.2)).wpl f) h k hX hbd hT hL hTb hLb hf hq (by omega) b1 b2 b3
        have hll := lfS_le (T := T) (L := L) (x := x) hq (by omega)
        have hcx := (hbd x b1).ce
        have ep : plS N R T L n q = (fun j => if j = x then some (lfS N T L n q.1 x) else q.1 j, max q.2 (lfS N T L n q.1 x + (N x).ce)) := by unfold plS; rw [hb]
        rw [ep] at n1 n2 ⊢
        generalize lfS N T L n q.1 x = t at *
        have hf2 : plR (upd f x (nI t)) (fun j => if j = x then some t else q.1 j) n := by
          intro j hj
          show (if j = x then nI t else f j) = oI (if j = x then some t else q.1 j)
          by_cases hjx : j = x
          · rw [if_pos hjx, if_pos hjx]; rfl
          · rw [if_neg hjx, if_neg hjx]; exact hf j hj
        have emax : (if nI q.2 < nI (t + (N x).ce) then nI (t + (N x).ce) else nI q.2) = nI (max q.2 (t + (N x).ce)) := by
          by_cases hlt : q.2 < t + (N x).ce
          · rw [if_pos (nI_lt hlt (by omega)), Nat.max_eq_right (by omega)]
          · rw [if_neg (nI_nlt (by omega) (by omega)), Nat.max_eq_left (by omega)]
        refine rk_iload_n dG_givePlaces_15 rfl ?_
        refine rk_aload_n dG_givePlaces_16 rfl ?_
        refine rk_getf fG_127 dG_givePlaces_17 (by first | exact k.gb | exact k.gpl | exact k.gna | exact k.gnd b1 | assumption) rfl ?_
        rw [show ((X.wpk (nI q.2)).wpl f).sn = nI K from hsn]
        refine rk_icmp_ge 77 dG_givePlaces_20 (by decide) (fun q_20 => ?_) (fun q_20 => ?_)
        · exact absurd q_20 (nI_ge (by omega) (by omega))
        · refine rk_aload_n dG_givePlaces_23 rfl ?_
          refine rk_cvV (hl) cG_140 dG_givePlaces_24 rfl lG_largestWithoutPlace (Nat.le_of_ble_eq_true rfl) (Nat.le_of_ble_eq_true rfl) (Nat.le_of_ble_eq_true rfl) (Nat.le_of_ble_eq_true rfl) (by first | exact k.gb | exact k.gpl | exact k.gna | exact k.gnd b1 | assumption) ?_
          rw [show oI (some x) = nI x from rfl]
          refine rk_istore_n dG_givePlaces_27 (Nat.le_of_ble_eq_true rfl) ?_
          refine rk_iload_n dG_givePlaces_28 rfl ?_
          refine rk_iconst (v := -1) dG_givePlaces_29 (by decide) ?_
          refine rk_icmp_eq 71 dG_givePlaces_30 (by decide) (fun q_30 => ?_) (fun q_30 => ?_)
          · exact absurd (show nI x < 0 by rw [q_30]; decide) (nI_pos (by omega))
          · refine rk_aload_n dG_givePlaces_33 rfl ?_
            refine rk_getf fG_27 dG_givePlaces_34 (by first | exact k.gb | exact k.gpl | exact k.gna | exact k.gnd b1 | assumption) rfl ?_
            refine rk_iload_n dG_givePlaces_37 rfl ?_
            refine rk_aload_n dG_givePlaces_38 rfl ?_
            refine rk_iload_n dG_givePlaces_39 rfl ?_
            refine rk_cvV (hls) cG_144 dG_givePlaces_40 rfl lG_leastFreePlace (Nat.le_of_ble_eq_true rfl) (Nat.le_of_ble_eq_true rfl) (Nat.le_of_ble_eq_true rfl) (Nat.le_of_ble_eq_true rfl) (by first | exact k.gb | exact k.gpl | exact k.gna | exact k.gnd b1 | assumption) ?_
            refine rk_iast dG_givePlaces_43 (by first | exact k.gb | exact k.gpl | exact k.gna | exact k.gnd b1 | assumption) (vp_in_nI (show x < 14 by omega) (by omega)) ?_
            rw [k.upl, nI_clamp (show x < 2 ^ 31 by omega)]
            refine rk_aload_n dG_givePlaces_44 rfl ?_
            refine rk_aload_n dG_givePlaces_45 rfl ?_
            refine rk_getf fG_137 dG_givePlaces_46 (by first | exact k.gb | exact k.gpl | exact k.gna | exact k.gnd b1 | assumption) rfl ?_
            refine rk_aload_n dG_givePlaces_49 rfl ?_
            refine rk_getf fG_27 dG_givePlaces_50 (by first | exact k.gb | exact k.gpl | exact k.gna | exact k.gnd b1 | assumption) rfl ?_
            refine rk_iload_n dG_givePlaces_53 rfl ?_
            refine rk_iald dG_givePlaces_54 (by first | exact k.gb | exact k.gpl | exact k.gna | exact k.gnd b1 | assumption) (vp_in_nI (show x < 14 by omega) (by omega)) ?_
            rw [nI_clamp (show x < 2 ^ 31 by omega), show (((X.wpk (nI q.2)).wpl f).wpl (upd ((X.wpk (nI q.2)).wpl f).pl x (nI t))).pl x = nI t from if_pos rfl]
            refine rk_aload_n dG_givePlaces_55 rfl ?_
            refine rk_getf fG_11 dG_givePlaces_56 (by first | exact k.gb | exact k.gpl | exact k.gna | exact k.gnd b1 | assumption) rfl ?_
            refine rk_iload_n dG_givePlaces_59 rfl ?_
            refine rk_aald rfl dG_givePlaces_60 (by first | exact k.gb | exact k.gpl | exact k.gna | exact k.gnd b1 | assumption) (vp_in_nI (show x < 14 by omega) (by omega)) (v_nd (by omega) hqx) ?_
            refine rk_getf fG_147 dG_givePlaces_61 (by first | exact k.gb | exact k.gpl | exact k.gna | exact k.gnd b1 | assumption) rfl ?_
            refine rk_iadd dG_givePlaces_64 ?_
            rw [nI_add, show (((X.wpk (nI q.2)).wpl f).wpl (upd ((X.wpk (nI q.2)).wpl f).pl x (nI t))).pk = nI q.2 from rfl]
            refine rk_jmax jG_150 dG_givePlaces_65 ⟨(Nat.le_of_ble_eq_true rfl), (Nat.le_of_ble_eq_true rfl)⟩ (Nat.le_of_ble_eq_true rfl) (Nat.le_of_ble_eq_true rfl) ?_
            rw [emax]
            refine rk_putf pG_137 dG_givePlaces_68 (by first | exact k.gb | exact k.gpl | exact k.gna | exact k.gnd b1 | assumption) (Nat.le_of_ble_eq_true rfl) rfl rfl ?_
            rw [k.upk]
            refine rk_iinc dG_givePlaces_71 rfl (inc1 i) (Nat.le_of_ble_eq_true rfl) ?_
            refine rk_goto 15 dG_givePlaces_74 (by decide) ?_
            refine rk_lv [some (.ref b), some (.int (nI (i + 1))), none] ⟨rfl, rfl, trivial⟩ ?_
            exact ih (i + 1) _ _ (by omega) n1 n2 hf2
  have hfill : ∀ f : Nat → Int32, plR (itf (fun _ _ => -1) 0 14 f) (fun _ => none) n := by
    intro f j hj
    rw [itf_get (V := fun _ => -1) (fun _ _ _ _ => rfl), if_pos (by omega)]
    rfl
  refine rk_Con.of [some (.ref b), none, none] rfl (Nat.le_of_ble_eq_true rfl) (by decide +kernel) ?_
  refine rk_aload_n dG_givePlaces_0 rfl ?_
  refine rk_iconst (v := 0) dG_givePlaces_1 (by decide) ?_
  refine rk_putf pG_137 dG_givePlaces_2 (by first | exact k.gb | exact k.gpl | assumption) (Nat.le_of_ble_eq_true rfl) rfl rfl ?_
  rw [k.upk]
  refine rk_aload_n dG_givePlaces_5 rfl ?_
  refine rk_getf fG_27 dG_givePlaces_6 (by first | exact k.gb | exact k.gpl | assumption) rfl ?_
  refine rk_iconst (v := -1) dG_givePlaces_9 (by decide) ?_
  refine rk_cs0 (c_J_fill A.pl 14 X.pl (-1) _ k.gpl (by omega)) cG_106 dG_givePlaces_10 rfl lJ_fill (Nat.le_of_ble_eq_true rfl) (Nat.le_of_ble_eq_true rfl) (Nat.le_of_ble_eq_true rfl) (Nat.le_of_ble_eq_true rfl) ?_
  rw [k.upl]
  refine rk_iconst (v := 0) dG_givePlaces_13 (by decide) ?_
  refine rk_istore_n dG_givePlaces_14 (Nat.le_of_ble_eq_true rfl) ?_
  exact loop K 0 (fun _ => none, 0) _ (by omega) (fun m q hm => by cases hm) (Nat.zero_le _) (hfill _)
