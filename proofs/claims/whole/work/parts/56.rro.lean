theorem itr_or {p : Nat → Bool} : ∀ (k i : Nat) (q : Bool), itr (fun m q => q || p m) k i q = (q || decide (fstA p k i < i + k)) := by
  intro k
  induction k with
  | zero => intro i q; show q = _; rw [decide_eq_false (show ¬ fstA p 0 i < i + 0 from Nat.lt_irrefl i), Bool.or_false]
  | succ k ih =>
    intro i q
    show itr _ k (i + 1) (q || p i) = _
    rw [ih]
    cases hp : p i with
    | true =>
      rw [fstA_y hp, decide_eq_true (show i < i + (k + 1) by omega)]
      cases q <;> rfl
    | false =>
      rw [fstA_n hp, Bool.or_false, show i + 1 + k = i + (k + 1) by omega]
theorem useA_b {N : Nat → aN} {S R : Nat → Nat} {i n : Nat} (_ : True) (hn : n ≤ 14) : itr (useA N S R i) n 0 0 < 2 ^ 31 := by
  have : ∀ (k m q : Nat), itr (useA N S R i) k m q ≤ q + 2 * k := by
    intro k
    induction k with
    | zero => intro m q; exact Nat.le_refl _
    | succ k ih =>
      intro m q
      have h1 := ih (m + 1) (useA N S R i m q)
      have h2 : useA N S R i m q ≤ q + 2 := by
        have := tmU_le (N := N) (S := S) (m := m) (k := i)
        unfold useA
        split <;> omega
      show itr (useA N S R i) k (m + 1) (useA N S R i m q) ≤ _
      omega
  have := this n 0 0
  omega
def updQ (q : Bool) (f : Nat → Int32) (i : Nat) : Nat → Int32 := if q = true then upd f i 1 else f
theorem setN_up {f : Nat → Int32} {st S : Nat → Nat} {n a : Nat} (h : sfK f st n) : sfK (upd f (S a) 2) (setN st S (some a)) n := by
  intro j hj
  show upd f (S a) 2 j = nI (setN st S (some a) j)
  by_cases hz : j = S a
  · subst hz
    rw [setN_on]
    exact if_pos rfl
  · rw [setN_off (fun b hb => by cases hb; exact fun z => hz z.symm)]
    exact (if_neg hz).trans (h j hj)
theorem nd_02 {N : Nat → aN} {S st : Nat → Nat} {k : Nat} (h : ∀ j, st j = 0 ∨ st j = 2) : ∀ j, ndStep N S st k j = 0 ∨ ndStep N S st k j = 2 := by
  have hs : ∀ (st : Nat → Nat) (o : Option Nat), (∀ j, st j = 0 ∨ st j = 2) → ∀ j, setN st S o j = 0 ∨ setN st S o j = 2 := by
    intro st o h j
    cases o with
    | none => exact h j
    | some a =>
      by_cases hz : S a = j
      · subst hz; right; exact setN_on
      · rw [setN_off (fun b hb => by cases hb; exact hz)]; exact h j
  intro j
  unfold ndStep
  split
  · exact hs _ _ (hs _ _ h) j
  · exact h j
theorem ndI_s {N : Nat → aN} {S st : Nat → Nat} {k : Nat} : ndI N S (k + 1) st = ndI N S k (ndStep N S st k) := rfl
theorem ndI_top {N : Nat → aN} {S : Nat → Nat} {o : Nat} : ∀ d : Nat, ndI N S (o + 1 + d) (ini o) = ndI N S (o + 1) (ini o) := by
  intro d
  induction d with
  | zero => rfl
  | succ d ih =>
    rw [show o + 1 + (d + 1) = (o + 1 + d) + 1 by omega, ndI_s]
    have : ndStep N S (ini o) (o + 1 + d) = ini o := by
      unfold ndStep
      rw [if_neg (show ¬ ini o (o + 1 + d) = 2 by unfold ini; rw [if_neg (by omega)]; decide)]
    rw [this, ih]
theorem prd_n (n : Nat) : nI n - 1 = prd n := by
  cases n with
  | zero => decide
  | succ n => exact nI_pred n
theorem rlM_at {N : Nat → aN} {S : Nat → Nat} {n o : Nat} {R0 : Nat → Nat} {i : Nat} : rlM N S n o R0 i i = R0 i := if_neg (Nat.lt_irrefl i)
theorem rlM_s {N : Nat → aN} {S : Nat → Nat} {n o : Nat} {R0 : Nat → Nat} {i j : Nat} : rlM N S n o R0 (i + 1) j = if j = i then rlF N S n o R0 i else rlM N S n o R0 i j := by
  unfold rlM
  by_cases h : j = i
  · rw [if_pos h, if_pos (by omega), h]
  · rw [if_neg h]
    by_cases h2 : j < i
    · rw [if_pos h2, if_pos (by omega)]
    · rw [if_neg h2, if_neg (by omega)]
theorem rlM_0 {N : Nat → aN} {S : Nat → Nat} {n o : Nat} {R0 : Nat → Nat} {i m : Nat} (h : ∀ j, R0 j = 0 ∨ R0 j = 2) : rlM N S n o R0 i m = 0 ↔ R0 m = 0 := by
  unfold rlM rlF
  have := h m
  split
  · split
    · next hc => omega
    · exact Iff.rfl
  · exact Iff.rfl
theorem c_R_findRoles (b : rk_H) (A : Nat → Nat) (X : rX) (k : rA A) (S : Nat → Nat) (out : Nat) (hn : X.no ≤ 14) (hou : X.ou = some out) (ho : out < X.no) (hwf : wfN X.N X.no) (hS : sfK X.st S X.no) (hSl : ∀ j : Nat, j < X.no → S j ≤ j) :
    rk_Con mR_findRoles (2, 29, 0, 0) [.ref (A 0)] (rv b A X) (fun r h' => r = .inl none ∧ ∃ f : Nat → Int32, h' = rv b A (X.wro f) ∧ sfK f (rlF X.N S X.no (S out) (ndI X.N S (S out + 1) (ini (S out)))) X.no) := by
  have hin := wfN.inn hwf
  have hbd := wfN.bd hwf
  have hSo := hSl out ho
  have L3 : ∀ (R0 : Nat → Nat), (∀ j, R0 j = 0 ∨ R0 j = 2) → ∀ (k1 i : Nat) (f : Nat → Int32), i + k1 = X.no → sfK f (rlM X.N S X.no (S out) R0 i) X.no → rk_Run mR_findRoles (2, 29, 0, 0) (fun r h' => r = .inl none ∧ ∃ f : Nat → Int32, h' = rv b A (X.wro f) ∧ sfK f (rlF X.N S X.no (S out) R0) X.no) 121 [some (.ref (A 0)), some (.int (nI (S out))), some (.int (nI i)), none] [] (rv b A (X.wro f)) (0, 0) := by
    intro R0 h02 k1
    induction k1 with
    | zero =>
      intro i f hi hf
      have hi : i = X.no := by omega
      subst hi
      refine rk_iload_n dR_findRoles_121 rfl ?_
      refine rk_aload_n dR_findRoles_122 rfl ?_
      refine rk_getf fR_106 dR_findRoles_123 k.m rfl ?_
      first | simp only [wro_no, wst_no, wsp_no, wla_no, wsn_no, wpl_no, wpk_no] | skip
      refine rk_icmp_ge 238 dR_findRoles_126 (by decide) (fun q_126 => ?_) (fun q_126 => ?_)
      · exact rk_ret rfl dR_findRoles_238 ⟨(Nat.le_of_ble_eq_true rfl), (Nat.le_of_ble_eq_true rfl)⟩ (⟨rfl, f, rfl, fun j hj => (hf j hj).trans (by unfold rlM; rw [if_pos hj])⟩)
      · exact absurd (nI_le (Nat.le_refl _) (by omega)) q_126
    | succ k1 ih =>
      intro i f hi hf
      have hfi : (X.wro f).ro i = nI (R0 i) := (hf i (by omega)).trans (by rw [rlM_at])
      have h2 : ∀ j, rlM X.N S X.no (S out) R0 i j ≤ 2 := rlM_le (fun j => by have := h02 j; omega)
      have bi := hbd i (by omega)
      have e0 : nI (R0 i) = 0 ↔ R0 i = 0 := nI_eq (b := 0) (by have := h02 i; omega) (by omega)
      have e1 : nI (X.N i).kd < 1 ↔ (X.N i).kd < 1 := nI_ltI (b := 1) (by have := bi.1.1; omega) (by omega)
      have e3 : 3 < nI (X.N i).kd ↔ 3 < (X.N i).kd := nI_ltI (a := 3) (by omega) (by have := bi.1.1; omega)
      have eo : nI i = nI (S out) ↔ i = S out := nI_eq (by omega) (by omega)
      have nx : ∀ g : Nat → Int32, sfK g (rlM X.N S X.no (S out) R0 (i + 1)) X.no → rk_Run mR_findRoles (2, 29, 0, 0) (fun r h' => r = .inl none ∧ ∃ f : Nat → Int32, h' = rv b A (X.wro f) ∧ sfK f (rlF X.N S X.no (S out) R0) X.no) 232 [some (.ref (A 0)), some (.int (nI (S out))), some (.int (nI i)), none] [] (rv b A (X.wro g)) (0, 0) := by
        intro g hg
        refine rk_iinc dR_findRoles_232 rfl (inc1 i) (Nat.le_of_ble_eq_true rfl) ?_
        refine rk_goto 121 dR_findRoles_235 (by decide) ?_
        exact ih (i + 1) g (by omega) hg
      have skip : rlF X.N S X.no (S out) R0 i = R0 i → rk_Run mR_findRoles (2, 29, 0, 0) (fun r h' => r = .inl none ∧ ∃ f : Nat → Int32, h' = rv b A (X.wro f) ∧ sfK f (rlF X.N S X.no (S out) R0) X.no) 232 [some (.ref (A 0)), some (.int (nI (S out))), some (.int (nI i)), none] [] (rv b A (X.wro f)) (0, 0) := by
        intro hr
        refine nx f (fun j hj => (hf j hj).trans ?_)
        rw [rlM_s]
        split
        · next hj => rw [hj, hr, rlM_at]
        · rfl
      have hus := itr_or (p := clB X.N S (rlM X.N S X.no (S out) R0 i) i) X.no 0 false
      rw [Bool.false_or, Nat.zero_add] at hus
      have inner : R0 i = 2 → hwN (X.N i) = true → i ≠ S out → itr (useA X.N S (rlM X.N S X.no (S out) R0 i) i) X.no 0 0 = 1 → ∀ (k2 m : Nat) (q : Bool), m + k2 = X.no → itr (fun m q => q || clB X.N S (rlM X.N S X.no (S out) R0 i) i m) k2 m q = itr (fun m q => q || clB X.N S (rlM X.N S X.no (S out) R0 i) i m) X.no 0 false → rk_Run mR_findRoles (2, 29, 0, 0) (fun r h' => r = .inl none ∧ ∃ f : Nat → Int32, h' = rv b A (X.wro f) ∧ sfK f (rlF X.N S X.no (S out) R0) X.no) 177 [some (.ref (A 0)), some (.int (nI (S out))), some (.int (nI i)), some (.int (nI m))] [] (rv b A (X.wro (updQ q f i))) (0, 0) := by
        intro hR hw hio hu k2
        induction k2 with
        | zero =>
          intro m q hm hq
          have hm : m = X.no := by omega
          subst hm
          have hq : q = decide (fstA (clB X.N S (rlM X.N S X.no (S out) R0 i) i) X.no 0 < X.no) := hq.trans hus
          have hfe : feeds X.N S X.no R0 i = q := by
            rw [← feeds_M (o := S out), feeds_cl hwf hSl (by omega), hu, hq]
            rfl
          have hrl : rlF X.N S X.no (S out) R0 i = if q = true then 1 else R0 i := by
            unfold rlF
            rw [hfe]
            by_cases hqq : q = true
            · rw [if_pos hqq, if_pos ⟨hR, hio, hw, hqq⟩]
            · rw [if_neg hqq, if_neg (fun z => hqq z.2.2.2)]
          have hnx := nx (updQ q f i) (fun j hj => by
            rw [rlM_s]
            unfold updQ
            by_cases hqq : q = true
            · rw [if_pos hqq]
              by_cases hji : j = i
              · rw [if_pos hji, hrl, if_pos hqq]; exact if_pos hji
              · rw [if_neg hji]; exact (if_neg hji).trans (hf j hj)
            · rw [if_neg hqq]
              by_cases hji : j = i
              · rw [if_pos hji, hrl, if_neg hqq, hji]; exact hfi
              · rw [if_neg hji]; exact hf j hj)
          refine rk_iload_n dR_findRoles_177 rfl ?_
          refine rk_aload_n dR_findRoles_178 rfl ?_
          refine rk_getf fR_106 dR_findRoles_179 k.m rfl ?_
          first | simp only [wro_no, wst_no, wsp_no, wla_no, wsn_no, wpl_no, wpk_no] | skip
          refine rk_icmp_ge 232 dR_findRoles_182 (by decide) (fun q_182 => ?_) (fun q_182 => (by exact absurd (nI_le (Nat.le_refl _) (by omega)) q_182))
          refine rk_lv [some (.ref (A 0)), some (.int (nI (S out))), some (.int (nI i)), none] ⟨rfl, rfl, rfl, trivial⟩ ?_
          exact hnx
        | succ k2 ih2 =>
          intro m q hm hq
          have bm := hbd m (by omega)
          have o1 := (hin m (by omega)).1
          have o1' : ∀ a, (X.N m).one = some a → a < X.no := fun a ha => by have := o1 a ha; omega
          have eS := oI_is (i := i) hn hSl o1' (by omega)
          have e9 : nI (X.N m).kd = 9 ↔ (X.N m).kd = 9 := nI_eq (b := 9) (by have := bm.1.1; omega) (by omega)
          have hw3 := hwN_kd hw
          have hgm : m ≠ i → (X.wro (updQ q f i)).ro m = nI (rlM X.N S X.no (S out) R0 i m) := by
            intro hmi
            show updQ q f i m = _
            unfold updQ
            split
            · exact (if_neg hmi).trans (hf m (by omega))
            · exact hf m (by omega)
          have ep : 0 < nI (rlM X.N S X.no (S out) R0 i m) ↔ 0 < rlM X.N S X.no (S out) R0 i m := nI_ltI (a := 0) (by omega) (by have := h2 m; omega)
          have st : ∀ q', (q || clB X.N S (rlM X.N S X.no (S out) R0 i) i m) = q' → rk_Run mR_findRoles (2, 29, 0, 0) (fun r h' => r = .inl none ∧ ∃ f : Nat → Int32, h' = rv b A (X.wro f) ∧ sfK f (rlF X.N S X.no (S out) R0) X.no) 226 [some (.ref (A 0)), some (.int (nI (S out))), some (.int (nI i)), some (.int (nI m))] [] (rv b A (X.wro (updQ q' f i))) (0, 0) := by
            intro q' hq'
            have hh : itr (fun m q => q || clB X.N S (rlM X.N S X.no (S out) R0 i) i m) k2 (m + 1) (q || clB X.N S (rlM X.N S X.no (S out) R0 i) i m) = _ := hq
            rw [hq'] at hh
            refine rk_iinc dR_findRoles_226 rfl (inc1 m) (Nat.le_of_ble_eq_true rfl) ?_
            refine rk_goto 177 dR_findRoles_229 (by decide) ?_
            exact ih2 (m + 1) q' (by omega) hh
          have no : clB X.N S (rlM X.N S X.no (S out) R0 i) i m = false → rk_Run mR_findRoles (2, 29, 0, 0) (fun r h' => r = .inl none ∧ ∃ f : Nat → Int32, h' = rv b A (X.wro f) ∧ sfK f (rlF X.N S X.no (S out) R0) X.no) 226 [some (.ref (A 0)), some (.int (nI (S out))), some (.int (nI i)), some (.int (nI m))] [] (rv b A (X.wro (updQ q f i))) (0, 0) := fun h => st q (by rw [h, Bool.or_false])
          by_cases hmi : m = i
          · have hk9 : ¬ (X.N m).kd = 9 := by rw [hmi]; omega
            have hcl : clB X.N S (rlM X.N S X.no (S out) R0 i) i m = false := by unfold clB; rw [decide_eq_false hk9, Bool.and_false, Bool.false_and]
            refine rk_iload_n dR_findRoles_177 rfl ?_
            refine rk_aload_n dR_findRoles_178 rfl ?_
            refine rk_getf fR_106 dR_findRoles_179 k.m rfl ?_
            first | simp only [wro_no, wst_no, wsp_no, wla_no, wsn_no, wpl_no, wpk_no] | skip
            refine rk_icmp_ge 232 dR_findRoles_182 (by decide) (fun q_182 => ?_) (fun q_182 => ?_)
            · exact absurd q_182 (nI_ge (by omega) (by omega))
            · refine rk_aload_n dR_findRoles_185 rfl ?_
              refine rk_getf fR_67 dR_findRoles_186 k.m rfl ?_
              refine rk_iload_n dR_findRoles_189 rfl ?_
              refine rk_iald dR_findRoles_190 k.ro (vp_in_nI (show m < 14 by omega) (by omega)) ?_
              rw [nI_clamp (show m < 2 ^ 31 by omega)]
              refine rk_if_le 226 dR_findRoles_191 (by decide) (fun q_191 => ?_) (fun q_191 => ?_)
              · exact no hcl
              · refine rk_aload_n dR_findRoles_194 rfl ?_
                refine rk_getf fR_17 dR_findRoles_195 k.m rfl ?_
                refine rk_iload_n dR_findRoles_198 rfl ?_
                refine rk_iald dR_findRoles_199 k.kd (vp_in_nI (show m < 14 by omega) (by omega)) ?_
                rw [nI_clamp (show m < 2 ^ 31 by omega)]
                refine rk_bipush (v := 9) dR_findRoles_200 (by decide) ?_
                refine rk_icmp_ne 226 dR_findRoles_202 (by decide) (fun q_202 => ?_) (fun q_202 => ?_)
                · exact no hcl
                · exact absurd (e9.mp q_202) hk9
          · refine rk_iload_n dR_findRoles_177 rfl ?_
            refine rk_aload_n dR_findRoles_178 rfl ?_
            refine rk_getf fR_106 dR_findRoles_179 k.m rfl ?_
            first | simp only [wro_no, wst_no, wsp_no, wla_no, wsn_no, wpl_no, wpk_no] | skip
            refine rk_icmp_ge 232 dR_findRoles_182 (by decide) (fun q_182 => ?_) (fun q_182 => ?_)
            · exact absurd q_182 (nI_ge (by omega) (by omega))
            · refine rk_aload_n dR_findRoles_185 rfl ?_
              refine rk_getf fR_67 dR_findRoles_186 k.m rfl ?_
              refine rk_iload_n dR_findRoles_189 rfl ?_
              refine rk_iald dR_findRoles_190 k.ro (vp_in_nI (show m < 14 by omega) (by omega)) ?_
              rw [nI_clamp (show m < 2 ^ 31 by omega), hgm hmi]
              refine rk_if_le 226 dR_findRoles_191 (by decide) (fun q_191 => ?_) (fun q_191 => ?_)
              · first | exact no (by unfold clB; rw [decide_eq_false (p := rlM X.N S X.no (S out) R0 i m ≠ 0) (by have := mt ep.mpr (Int32.not_lt.mpr q_191); omega), Bool.false_and, Bool.false_and]) | exact no (by unfold clB; rw [decide_eq_false (mt e9.mpr q_202), Bool.and_false, Bool.false_and]) | exact no (by unfold clB; rw [decide_eq_false (mt eS.mpr q_216), Bool.and_false])
              · refine rk_aload_n dR_findRoles_194 rfl ?_
                refine rk_getf fR_17 dR_findRoles_195 k.m rfl ?_
                refine rk_iload_n dR_findRoles_198 rfl ?_
                refine rk_iald dR_findRoles_199 k.kd (vp_in_nI (show m < 14 by omega) (by omega)) ?_
                rw [nI_clamp (show m < 2 ^ 31 by omega)]
                refine rk_bipush (v := 9) dR_findRoles_200 (by decide) ?_
                refine rk_icmp_ne 226 dR_findRoles_202 (by decide) (fun q_202 => ?_) (fun q_202 => ?_)
                · first | exact no (by unfold clB; rw [decide_eq_false (p := rlM X.N S X.no (S out) R0 i m ≠ 0) (by have := mt ep.mpr (Int32.not_lt.mpr q_191); omega), Bool.false_and, Bool.false_and]) | exact no (by unfold clB; rw [decide_eq_false (mt e9.mpr q_202), Bool.and_false, Bool.false_and]) | exact no (by unfold clB; rw [decide_eq_false (mt eS.mpr q_216), Bool.and_false])
                · refine rk_aload_n dR_findRoles_205 rfl ?_
                  refine rk_aload_n dR_findRoles_206 rfl ?_
                  refine rk_getf fR_20 dR_findRoles_207 k.m rfl ?_
                  refine rk_iload_n dR_findRoles_210 rfl ?_
                  refine rk_iald dR_findRoles_211 k.on (vp_in_nI (show m < 14 by omega) (by omega)) ?_
                  rw [nI_clamp (show m < 2 ^ 31 by omega)]
                  refine rk_cvV (c_R_standFor b A (X.wro (updQ q f i)) k (X.N m).one (fun a ha => by have := o1 a ha; omega)) cR_143 dR_findRoles_212 rfl lR_standFor (Nat.le_of_ble_eq_true rfl) (Nat.le_of_ble_eq_true rfl) (Nat.le_of_ble_eq_true rfl) (Nat.le_of_ble_eq_true rfl) k.m ?_
                  rw [show mnt (X.wro (updQ q f i)).st (X.N m).one = oI ((X.N m).one.map S) from mnt_S hS o1']
                  refine rk_iload_n dR_findRoles_215 rfl ?_
                  refine rk_icmp_ne 226 dR_findRoles_216 (by decide) (fun q_216 => ?_) (fun q_216 => ?_)
                  · first | exact no (by unfold clB; rw [decide_eq_false (p := rlM X.N S X.no (S out) R0 i m ≠ 0) (by have := mt ep.mpr (Int32.not_lt.mpr q_191); omega), Bool.false_and, Bool.false_and]) | exact no (by unfold clB; rw [decide_eq_false (mt e9.mpr q_202), Bool.and_false, Bool.false_and]) | exact no (by unfold clB; rw [decide_eq_false (mt eS.mpr q_216), Bool.and_false])
                  · refine rk_aload_n dR_findRoles_219 rfl ?_
                    refine rk_getf fR_67 dR_findRoles_220 k.m rfl ?_
                    refine rk_iload_n dR_findRoles_223 rfl ?_
                    refine rk_iconst (v := 1) dR_findRoles_224 (by decide) ?_
                    refine rk_iast dR_findRoles_225 k.ro (vp_in_nI (show i < 14 by omega) (by omega)) ?_
                    rw [k.uro]
                    have hy : clB X.N S (rlM X.N S X.no (S out) R0 i) i m = true := (by unfold clB; rw [decide_eq_true (p := rlM X.N S X.no (S out) R0 i m ≠ 0) (by have := ep.mp (Int32.not_le.mp q_191); omega), decide_eq_true (e9.mp (by first | exact q_202 | exact Decidable.not_not.mp q_202)), decide_eq_true (eS.mp (by first | exact q_216 | exact Decidable.not_not.mp q_216))]; rfl)
                    have e := st true (by rw [hy, Bool.or_true])
                    rw [nI_clamp (show i < 2 ^ 31 by omega)]
                    have eu : upd (updQ q f i) i 1 = updQ true f i := (by unfold updQ; rw [if_pos rfl]; split; exact upd_up2; rfl)
                    rw [← eu] at e
                    exact e
      refine rk_iload_n dR_findRoles_121 rfl ?_
      refine rk_aload_n dR_findRoles_122 rfl ?_
      refine rk_getf fR_106 dR_findRoles_123 k.m rfl ?_
      first | simp only [wro_no, wst_no, wsp_no, wla_no, wsn_no, wpl_no, wpk_no] | skip
      refine rk_icmp_ge 238 dR_findRoles_126 (by decide) (fun q_126 => ?_) (fun q_126 => ?_)
      · exact absurd q_126 (nI_ge (by omega) (by omega))
      · refine rk_aload_n dR_findRoles_129 rfl ?_
        refine rk_getf fR_67 dR_findRoles_130 k.m rfl ?_
        refine rk_iload_n dR_findRoles_133 rfl ?_
        refine rk_iald dR_findRoles_134 k.ro (vp_in_nI (show i < 14 by omega) (by omega)) ?_
        rw [nI_clamp (show i < 2 ^ 31 by omega), hfi]
        refine rk_if_eq 232 dR_findRoles_135 (by decide) (fun q_135 => ?_) (fun q_135 => ?_)
        · refine skip ?_
          unfold rlF
          refine if_neg (fun z => ?_)
          have hz3 := hwN_kd z.2.2.1
          first | (have := e0.mp q_135; omega) | (have := e1.mp q_145; omega) | (have := e3.mp q_155; omega) | exact z.2.1 (eo.mp q_160) | (have z4 := z.2.2.2; rw [← feeds_M (o := S out), feeds_cl hwf hSl (by omega)] at z4; exact q_169 (show nI (itr (useA X.N S (rlM X.N S X.no (S out) R0 i) i) X.no 0 0) = 1 by rw [show itr (useA X.N S (rlM X.N S X.no (S out) R0 i) i) X.no 0 0 = 1 from of_decide_eq_true (and2.mp z4).1]; rfl))
        · refine rk_aload_n dR_findRoles_138 rfl ?_
          refine rk_getf fR_17 dR_findRoles_139 k.m rfl ?_
          refine rk_iload_n dR_findRoles_142 rfl ?_
          refine rk_iald dR_findRoles_143 k.kd (vp_in_nI (show i < 14 by omega) (by omega)) ?_
          rw [nI_clamp (show i < 2 ^ 31 by omega)]
          refine rk_iconst (v := 1) dR_findRoles_144 (by decide) ?_
          refine rk_icmp_lt 232 dR_findRoles_145 (by decide) (fun q_145 => ?_) (fun q_145 => ?_)
          · refine skip ?_
            unfold rlF
            refine if_neg (fun z => ?_)
            have hz3 := hwN_kd z.2.2.1
            first | (have := e0.mp q_135; omega) | (have := e1.mp q_145; omega) | (have := e3.mp q_155; omega) | exact z.2.1 (eo.mp q_160) | (have z4 := z.2.2.2; rw [← feeds_M (o := S out), feeds_cl hwf hSl (by omega)] at z4; exact q_169 (show nI (itr (useA X.N S (rlM X.N S X.no (S out) R0 i) i) X.no 0 0) = 1 by rw [show itr (useA X.N S (rlM X.N S X.no (S out) R0 i) i) X.no 0 0 = 1 from of_decide_eq_true (and2.mp z4).1]; rfl))
          · refine rk_aload_n dR_findRoles_148 rfl ?_
            refine rk_getf fR_17 dR_findRoles_149 k.m rfl ?_
            refine rk_iload_n dR_findRoles_152 rfl ?_
            refine rk_iald dR_findRoles_153 k.kd (vp_in_nI (show i < 14 by omega) (by omega)) ?_
            rw [nI_clamp (show i < 2 ^ 31 by omega)]
            refine rk_iconst (v := 3) dR_findRoles_154 (by decide) ?_
            refine rk_icmp_gt 232 dR_findRoles_155 (by decide) (fun q_155 => ?_) (fun q_155 => ?_)
            · refine skip ?_
              unfold rlF
              refine if_neg (fun z => ?_)
              have hz3 := hwN_kd z.2.2.1
              first | (have := e0.mp q_135; omega) | (have := e1.mp q_145; omega) | (have := e3.mp q_155; omega) | exact z.2.1 (eo.mp q_160) | (have z4 := z.2.2.2; rw [← feeds_M (o := S out), feeds_cl hwf hSl (by omega)] at z4; exact q_169 (show nI (itr (useA X.N S (rlM X.N S X.no (S out) R0 i) i) X.no 0 0) = 1 by rw [show itr (useA X.N S (rlM X.N S X.no (S out) R0 i) i) X.no 0 0 = 1 from of_decide_eq_true (and2.mp z4).1]; rfl))
            · refine rk_iload_n dR_findRoles_158 rfl ?_
              refine rk_iload_n dR_findRoles_159 rfl ?_
              refine rk_icmp_eq 232 dR_findRoles_160 (by decide) (fun q_160 => ?_) (fun q_160 => ?_)
              · refine skip ?_
                unfold rlF
                refine if_neg (fun z => ?_)
                have hz3 := hwN_kd z.2.2.1
                first | (have := e0.mp q_135; omega) | (have := e1.mp q_145; omega) | (have := e3.mp q_155; omega) | exact z.2.1 (eo.mp q_160) | (have z4 := z.2.2.2; rw [← feeds_M (o := S out), feeds_cl hwf hSl (by omega)] at z4; exact q_169 (show nI (itr (useA X.N S (rlM X.N S X.no (S out) R0 i) i) X.no 0 0) = 1 by rw [show itr (useA X.N S (rlM X.N S X.no (S out) R0 i) i) X.no 0 0 = 1 from of_decide_eq_true (and2.mp z4).1]; rfl))
              · refine rk_aload_n dR_findRoles_163 rfl ?_
                refine rk_iload_n dR_findRoles_164 rfl ?_
                refine rk_cvV (c_R_uses b A (X.wro f) k S (rlM X.N S X.no (S out) R0 i) i hn (by omega) hin hS hSl hf h2) cR_149 dR_findRoles_165 rfl lR_uses (Nat.le_of_ble_eq_true rfl) (Nat.le_of_ble_eq_true rfl) (Nat.le_of_ble_eq_true rfl) (Nat.le_of_ble_eq_true rfl) k.m ?_
                refine rk_iconst (v := 1) dR_findRoles_168 (by decide) ?_
                refine rk_icmp_eq 175 dR_findRoles_169 (by decide) (fun q_169 => ?_) (fun q_169 => ?_)
                · refine rk_iconst (v := 0) dR_findRoles_175 (by decide) ?_
                  refine rk_istore_n dR_findRoles_176 (Nat.le_of_ble_eq_true rfl) ?_
                  refine inner (by have := h02 i; have := mt e0.mpr q_135; omega) ?_ (mt eo.mpr q_160) ?_ X.no 0 false (by omega) rfl
                  · unfold hwN
                    have a1 := mt e1.mpr q_145
                    have a3 := mt e3.mpr q_155
                    rcases (show (X.N i).kd = 1 ∨ (X.N i).kd = 2 ∨ (X.N i).kd = 3 by omega) with h | h | h <;> rw [h] <;> rfl
                  · refine (nI_eq (b := 1) ?_ (by omega)).mp (by first | exact q_169 | exact Decidable.not_not.mp q_169)
                    exact useA_b trivial hn
                · refine rk_goto 232 dR_findRoles_172 (by decide) ?_
                  refine skip ?_
                  unfold rlF
                  refine if_neg (fun z => ?_)
                  have hz3 := hwN_kd z.2.2.1
                  first | (have := e0.mp q_135; omega) | (have := e1.mp q_145; omega) | (have := e3.mp q_155; omega) | exact z.2.1 (eo.mp q_160) | (have z4 := z.2.2.2; rw [← feeds_M (o := S out), feeds_cl hwf hSl (by omega)] at z4; exact q_169 (show nI (itr (useA X.N S (rlM X.N S X.no (S out) R0 i) i) X.no 0 0) = 1 by rw [show itr (useA X.N S (rlM X.N S X.no (S out) R0 i) i) X.no 0 0 = 1 from of_decide_eq_true (and2.mp z4).1]; rfl))
  have L2 : ∀ (k1 : Nat) (f : Nat → Int32) (st : Nat → Nat), k1 ≤ X.no → (∀ j, st j = 0 ∨ st j = 2) → sfK f st X.no → rk_Run mR_findRoles (2, 29, 0, 0) (fun r h' => r = .inl none ∧ ∃ f : Nat → Int32, h' = rv b A (X.wro f) ∧ sfK f (rlF X.N S X.no (S out) (ndI X.N S k1 st)) X.no) 47 [some (.ref (A 0)), some (.int (nI (S out))), some (.int (prd k1)), none] [] (rv b A (X.wro f)) (0, 0) := by
    intro k1
    induction k1 with
    | zero =>
      intro f st hk h02 hf
      refine rk_iload_n dR_findRoles_47 rfl ?_
      refine rk_if_lt 119 dR_findRoles_48 (by decide) (fun q_48 => ?_) (fun q_48 => ?_)
      · refine rk_iconst (v := 0) dR_findRoles_119 (by decide) ?_
        refine rk_istore_n dR_findRoles_120 (Nat.le_of_ble_eq_true rfl) ?_
        refine rk_lv [some (.ref (A 0)), some (.int (nI (S out))), some (.int (nI 0)), none] ⟨rfl, rfl, rfl, trivial⟩ ?_
        exact L3 st h02 X.no 0 f (by omega) (fun j hj => (hf j hj).trans (by unfold rlM; rw [if_neg (Nat.not_lt_zero _)]))
      · exact absurd (by decide) q_48
    | succ m ih =>
      intro f st hk h02 hf
      have hfm : (X.wro f).ro m = nI (st m) := hf m (by omega)
      have e0 : nI (st m) = 0 ↔ st m = 0 := nI_eq (b := 0) (by have := h02 m; omega) (by omega)
      have o1 := (hin m (by omega)).1
      have o2 := (hin m (by omega)).2
      have o1' : ∀ a, (X.N m).one = some a → a < X.no := fun a ha => by have := o1 a ha; omega
      have o2' : ∀ a, (X.N m).two = some a → a < X.no := fun a ha => by have := o2 a ha; omega
      have nx : ∀ g : Nat → Int32, sfK g (ndStep X.N S st m) X.no → rk_Run mR_findRoles (2, 29, 0, 0) (fun r h' => r = .inl none ∧ ∃ f : Nat → Int32, h' = rv b A (X.wro f) ∧ sfK f (rlF X.N S X.no (S out) (ndI X.N S (m + 1) st)) X.no) 113 [some (.ref (A 0)), some (.int (nI (S out))), some (.int (nI m)), none] [] (rv b A (X.wro g)) (0, 0) := by
        intro g hg
        have e := ih g (ndStep X.N S st m) (by omega) (nd_02 h02) hg
        rw [← ndI_s] at e
        refine rk_iinc dR_findRoles_113 rfl (prd_inc m) (Nat.le_of_ble_eq_true rfl) ?_
        refine rk_goto 47 dR_findRoles_116 (by decide) ?_
        exact e
      have L2b : ∀ (g : Nat → Int32), st m = 2 → sfK g (setN st S (X.N m).one) X.no → rk_Run mR_findRoles (2, 29, 0, 0) (fun r h' => r = .inl none ∧ ∃ f : Nat → Int32, h' = rv b A (X.wro f) ∧ sfK f (rlF X.N S X.no (S out) (ndI X.N S (m + 1) st)) X.no) 88 [some (.ref (A 0)), some (.int (nI (S out))), some (.int (nI m)), none] [] (rv b A (X.wro g)) (0, 0) := by
        intro g h2 hg
        have es : ndStep X.N S st m = setN (setN st S (X.N m).one) S (X.N m).two := by unfold ndStep; rw [if_pos h2]
        cases ht : (X.N m).two with
        | none =>
          have e := nx g (by rw [es, ht]; exact hg)
          refine rk_aload_n dR_findRoles_88 rfl ?_
          refine rk_getf fR_23 dR_findRoles_89 k.m rfl ?_
          refine rk_iload_n dR_findRoles_92 rfl ?_
          refine rk_iald dR_findRoles_93 k.tw (vp_in_nI (show m < 14 by omega) (by omega)) ?_
          rw [nI_clamp (show m < 2 ^ 31 by omega), show (X.wro g).N = X.N from rfl, ht]
          refine rk_if_lt 113 dR_findRoles_94 (by decide) (fun q_94 => ?_) (fun q_94 => ?_)
          · exact e
          · exact absurd (by decide) q_94
        | some a =>
          have ha := o2 a ht
          have hSa := hSl a (by omega)
          have eSa : mnt (X.wro g).st (some a) = nI (S a) := hS a (by omega)
          have e := nx (upd g (S a) 2) (by rw [es, ht]; exact setN_up hg)
          refine rk_aload_n dR_findRoles_88 rfl ?_
          refine rk_getf fR_23 dR_findRoles_89 k.m rfl ?_
          refine rk_iload_n dR_findRoles_92 rfl ?_
          refine rk_iald dR_findRoles_93 k.tw (vp_in_nI (show m < 14 by omega) (by omega)) ?_
          rw [nI_clamp (show m < 2 ^ 31 by omega), show (X.wro g).N = X.N from rfl, ht]
          refine rk_if_lt 113 dR_findRoles_94 (by decide) (fun q_94 => ?_) (fun q_94 => ?_)
          · exact absurd q_94 (nI_pos (by omega))
          · refine rk_aload_n dR_findRoles_97 rfl ?_
            refine rk_getf fR_67 dR_findRoles_98 k.m rfl ?_
            refine rk_aload_n dR_findRoles_101 rfl ?_
            refine rk_aload_n dR_findRoles_102 rfl ?_
            refine rk_getf fR_23 dR_findRoles_103 k.m rfl ?_
            refine rk_iload_n dR_findRoles_106 rfl ?_
            refine rk_iald dR_findRoles_107 k.tw (vp_in_nI (show m < 14 by omega) (by omega)) ?_
            rw [nI_clamp (show m < 2 ^ 31 by omega), show (X.wro g).N = X.N from rfl, ht]
            refine rk_cvV (c_R_standFor b A (X.wro g) k (some a) (fun z hz => by cases hz; omega)) cR_143 dR_findRoles_108 rfl lR_standFor (Nat.le_of_ble_eq_true rfl) (Nat.le_of_ble_eq_true rfl) (Nat.le_of_ble_eq_true rfl) (Nat.le_of_ble_eq_true rfl) k.m ?_
            rw [eSa]
            refine rk_iconst (v := 2) dR_findRoles_111 (by decide) ?_
            refine rk_iast dR_findRoles_112 k.ro (vp_in_nI (show S a < 14 by omega) (by omega)) ?_
            rw [k.uro]
            rw [nI_clamp (show S a < 2 ^ 31 by omega)]
            exact e
      refine rk_lv [some (.ref (A 0)), some (.int (nI (S out))), some (.int (nI m)), none] ⟨rfl, rfl, rfl, trivial⟩ ?_
      by_cases h0 : st m = 0
      · have e := nx f (by unfold ndStep; rw [if_neg (by omega)]; exact hf)
        refine rk_iload_n dR_findRoles_47 rfl ?_
        refine rk_if_lt 119 dR_findRoles_48 (by decide) (fun q_48 => ?_) (fun q_48 => ?_)
        · exact absurd q_48 (nI_pos (by omega))
        · refine rk_aload_n dR_findRoles_51 rfl ?_
          refine rk_getf fR_67 dR_findRoles_52 k.m rfl ?_
          refine rk_iload_n dR_findRoles_55 rfl ?_
          refine rk_iald dR_findRoles_56 k.ro (vp_in_nI (show m < 14 by omega) (by omega)) ?_
          rw [nI_clamp (show m < 2 ^ 31 by omega), hfm]
          refine rk_if_ne 63 dR_findRoles_57 (by decide) (fun q_57 => ?_) (fun q_57 => ?_)
          · exact absurd (e0.mpr h0) q_57
          · refine rk_goto 113 dR_findRoles_60 (by decide) ?_
            exact e
      · have h2 : st m = 2 := by have := h02 m; omega
        cases ht : (X.N m).one with
        | none =>
          have e := L2b f h2 (by rw [ht]; exact hf)
          refine rk_iload_n dR_findRoles_47 rfl ?_
          refine rk_if_lt 119 dR_findRoles_48 (by decide) (fun q_48 => ?_) (fun q_48 => ?_)
          · exact absurd q_48 (nI_pos (by omega))
          · refine rk_aload_n dR_findRoles_51 rfl ?_
            refine rk_getf fR_67 dR_findRoles_52 k.m rfl ?_
            refine rk_iload_n dR_findRoles_55 rfl ?_
            refine rk_iald dR_findRoles_56 k.ro (vp_in_nI (show m < 14 by omega) (by omega)) ?_
            rw [nI_clamp (show m < 2 ^ 31 by omega), hfm]
            refine rk_if_ne 63 dR_findRoles_57 (by decide) (fun q_57 => ?_) (fun q_57 => ?_)
            · refine rk_aload_n dR_findRoles_63 rfl ?_
              refine rk_getf fR_20 dR_findRoles_64 k.m rfl ?_
              refine rk_iload_n dR_findRoles_67 rfl ?_
              refine rk_iald dR_findRoles_68 k.on (vp_in_nI (show m < 14 by omega) (by omega)) ?_
              rw [nI_clamp (show m < 2 ^ 31 by omega), show (X.wro f).N = X.N from rfl, ht]
              refine rk_if_lt 88 dR_findRoles_69 (by decide) (fun q_69 => ?_) (fun q_69 => ?_)
              · exact e
              · exact absurd (by decide) q_69
            · exact absurd (e0.mp q_57) h0
        | some a =>
          have ha := o1 a ht
          have hSa := hSl a (by omega)
          have eSa : mnt (X.wro f).st (some a) = nI (S a) := hS a (by omega)
          have e := L2b (upd f (S a) 2) h2 (by rw [ht]; exact setN_up hf)
          refine rk_iload_n dR_findRoles_47 rfl ?_
          refine rk_if_lt 119 dR_findRoles_48 (by decide) (fun q_48 => ?_) (fun q_48 => ?_)
          · exact absurd q_48 (nI_pos (by omega))
          · refine rk_aload_n dR_findRoles_51 rfl ?_
            refine rk_getf fR_67 dR_findRoles_52 k.m rfl ?_
            refine rk_iload_n dR_findRoles_55 rfl ?_
            refine rk_iald dR_findRoles_56 k.ro (vp_in_nI (show m < 14 by omega) (by omega)) ?_
            rw [nI_clamp (show m < 2 ^ 31 by omega), hfm]
            refine rk_if_ne 63 dR_findRoles_57 (by decide) (fun q_57 => ?_) (fun q_57 => ?_)
            · refine rk_aload_n dR_findRoles_63 rfl ?_
              refine rk_getf fR_20 dR_findRoles_64 k.m rfl ?_
              refine rk_iload_n dR_findRoles_67 rfl ?_
              refine rk_iald dR_findRoles_68 k.on (vp_in_nI (show m < 14 by omega) (by omega)) ?_
              rw [nI_clamp (show m < 2 ^ 31 by omega), show (X.wro f).N = X.N from rfl, ht]
              refine rk_if_lt 88 dR_findRoles_69 (by decide) (fun q_69 => ?_) (fun q_69 => ?_)
              · exact absurd q_69 (nI_pos (by omega))
              · refine rk_aload_n dR_findRoles_72 rfl ?_
                refine rk_getf fR_67 dR_findRoles_73 k.m rfl ?_
                refine rk_aload_n dR_findRoles_76 rfl ?_
                refine rk_aload_n dR_findRoles_77 rfl ?_
                refine rk_getf fR_20 dR_findRoles_78 k.m rfl ?_
                refine rk_iload_n dR_findRoles_81 rfl ?_
                refine rk_iald dR_findRoles_82 k.on (vp_in_nI (show m < 14 by omega) (by omega)) ?_
                rw [nI_clamp (show m < 2 ^ 31 by omega), show (X.wro f).N = X.N from rfl, ht]
                refine rk_cvV (c_R_standFor b A (X.wro f) k (some a) (fun z hz => by cases hz; omega)) cR_143 dR_findRoles_83 rfl lR_standFor (Nat.le_of_ble_eq_true rfl) (Nat.le_of_ble_eq_true rfl) (Nat.le_of_ble_eq_true rfl) (Nat.le_of_ble_eq_true rfl) k.m ?_
                rw [eSa]
                refine rk_iconst (v := 2) dR_findRoles_86 (by decide) ?_
                refine rk_iast dR_findRoles_87 k.ro (vp_in_nI (show S a < 14 by omega) (by omega)) ?_
                rw [k.uro]
                rw [nI_clamp (show S a < 2 ^ 31 by omega)]
                exact e
            · exact absurd (e0.mp q_57) h0
  have L1 : ∀ (k1 i : Nat) (f : Nat → Int32), i + k1 = X.no → (∀ j, j < i → f j = 0) → rk_Run mR_findRoles (2, 29, 0, 0) (fun r h' => r = .inl none ∧ ∃ f : Nat → Int32, h' = rv b A (X.wro f) ∧ sfK f (rlF X.N S X.no (S out) (ndI X.N S (S out + 1) (ini (S out)))) X.no) 12 [some (.ref (A 0)), some (.int (nI (S out))), some (.int (nI i)), none] [] (rv b A (X.wro f)) (0, 0) := by
    intro k1
    induction k1 with
    | zero =>
      intro i f hi hf
      have hi : i = X.no := by omega
      subst hi
      have e := L2 X.no (upd f (S out) 2) (ini (S out)) (Nat.le_refl _) (fun j => by unfold ini; split <;> omega) (fun j hj => by
        show upd f (S out) 2 j = nI (ini (S out) j)
        unfold upd ini
        by_cases hz : j = S out
        · rw [if_pos hz, if_pos hz]; rfl
        · rw [if_neg hz, if_neg hz]; exact hf j hj)
      have et := ndI_top (N := X.N) (S := S) (o := S out) (X.no - (S out + 1))
      rw [show S out + 1 + (X.no - (S out + 1)) = X.no by omega] at et
      rw [et] at e
      refine rk_iload_n dR_findRoles_12 rfl ?_
      refine rk_aload_n dR_findRoles_13 rfl ?_
      refine rk_getf fR_106 dR_findRoles_14 k.m rfl ?_
      first | simp only [wro_no, wst_no, wsp_no, wla_no, wsn_no, wpl_no, wpk_no] | skip
      refine rk_icmp_ge 33 dR_findRoles_17 (by decide) (fun q_17 => ?_) (fun q_17 => ?_)
      · refine rk_aload_n dR_findRoles_33 rfl ?_
        refine rk_getf fR_67 dR_findRoles_34 k.m rfl ?_
        refine rk_iload_n dR_findRoles_37 rfl ?_
        refine rk_iconst (v := 2) dR_findRoles_38 (by decide) ?_
        refine rk_iast dR_findRoles_39 k.ro (vp_in_nI (show S out < 14 by omega) (by omega)) ?_
        rw [k.uro]
        refine rk_aload_n dR_findRoles_40 rfl ?_
        refine rk_getf fR_106 dR_findRoles_41 k.m rfl ?_
        refine rk_iconst (v := 1) dR_findRoles_44 (by decide) ?_
        refine rk_isub dR_findRoles_45 ?_
        rw [prd_n]
        simp only [wro_no]
        refine rk_istore_n dR_findRoles_46 (Nat.le_of_ble_eq_true rfl) ?_
        rw [nI_clamp (show S out < 2 ^ 31 by omega)]
        exact e
      · exact absurd (nI_le (Nat.le_refl _) (by omega)) q_17
    | succ k1 ih =>
      intro i f hi hf
      refine rk_iload_n dR_findRoles_12 rfl ?_
      refine rk_aload_n dR_findRoles_13 rfl ?_
      refine rk_getf fR_106 dR_findRoles_14 k.m rfl ?_
      first | simp only [wro_no, wst_no, wsp_no, wla_no, wsn_no, wpl_no, wpk_no] | skip
      refine rk_icmp_ge 33 dR_findRoles_17 (by decide) (fun q_17 => ?_) (fun q_17 => ?_)
      · exact absurd q_17 (nI_ge (by omega) (by omega))
      · refine rk_aload_n dR_findRoles_20 rfl ?_
        refine rk_getf fR_67 dR_findRoles_21 k.m rfl ?_
        refine rk_iload_n dR_findRoles_24 rfl ?_
        refine rk_iconst (v := 0) dR_findRoles_25 (by decide) ?_
        refine rk_iast dR_findRoles_26 k.ro (vp_in_nI (show i < 14 by omega) (by omega)) ?_
        rw [k.uro]
        refine rk_iinc dR_findRoles_27 rfl (inc1 i) (Nat.le_of_ble_eq_true rfl) ?_
        refine rk_goto 12 dR_findRoles_30 (by decide) ?_
        rw [nI_clamp (show i < 2 ^ 31 by omega)]
        exact ih (i + 1) (upd f i 0) (by omega) (fun j hj => by unfold upd; split; rfl; exact hf j (by omega))
  refine rk_Con.of [some (.ref (A 0)), none, none, none] rfl (Nat.le_of_ble_eq_true rfl) (by decide +kernel) ?_
  refine rk_aload_n dR_findRoles_0 rfl ?_
  refine rk_getf fR_64 dR_findRoles_1 k.m rfl ?_
  refine rk_aload_n dR_findRoles_4 rfl ?_
  refine rk_getf fR_60 dR_findRoles_5 k.m rfl ?_
  rw [hou]
  refine rk_iald dR_findRoles_8 k.st (vp_in_nI (show out < 14 by omega) (by omega)) ?_
  rw [show X.st (oI (some out)).toNatClampNeg = nI (S out) by rw [show oI (some out) = nI out from rfl, nI_clamp (show out < 2 ^ 31 by omega)]; exact hS out ho]
  refine rk_istore_n dR_findRoles_9 (Nat.le_of_ble_eq_true rfl) ?_
  refine rk_iconst (v := 0) dR_findRoles_10 (by decide) ?_
  refine rk_istore_n dR_findRoles_11 (Nat.le_of_ble_eq_true rfl) ?_
  exact L1 X.no 0 X.ro (by omega) (fun j hj => by omega)
