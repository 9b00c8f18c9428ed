/-! one address changes -/
theorem up_of {h : rk_H} {x : Nat} {e0 e1 : rk_E} (hx : h x = some e0) : ∀ (z : Nat) (e : rk_E), h z = some e → e ≠ e0 → rk_up h x e1 z = some e := fun z e hz hn => rk_up_k (rk_neq hz hx hn) hz
theorem iA_ne {m n : Nat} {f g : Nat → Int32} (h : m ≠ n) : iA m f ≠ iA n g := by
  intro q
  have := congrArg (fun z : rk_E => match z with | .inl y => y.2.1 | .inr _ => 0) q
  exact h this
theorem cOK.wc {h : rk_H} {C : cT} {s : aS} (k : cOK h C s) (f : Nat → Int32) (hb : bdOK s.N s.n) : cOK (rk_up h C.M.wc (iA 512 f)) C (s.wwt f) := by
  obtain ⟨⟨k1, ⟨⟨m1, m2⟩, ⟨⟨w0, m3⟩, ⟨x1, x2, m4⟩, ⟨x3, x4, m5⟩, f0, m6⟩, m7⟩, ⟨⟨⟨X, g0, g1, g2, g3, g4, g5, g6⟩, gn⟩, ⟨g7, g8⟩, g9⟩, k4⟩, ⟨k5, k6⟩, k7, k8⟩ := k
  have up := up_of (e1 := iA 512 f) m2
  refine ⟨⟨up _ _ k1 (by intro q; cases q), ⟨⟨up _ _ m1 (by intro q; cases q), rk_up_s⟩, ⟨⟨w0, up _ _ m3 (by intro q; cases q)⟩, ⟨x1, x2, up _ _ m4 (by intro q; cases q)⟩, ⟨x3, x4, up _ _ m5 (by intro q; cases q)⟩, _, up _ _ m6 (by intro q; cases q)⟩, m7⟩, ⟨⟨⟨X, g0, up _ _ g1 (by intro q; cases q), up _ _ g2 (by intro q; cases q), up _ _ g3 (by intro q; cases q), up _ _ g4 (by intro q; cases q), up _ _ g5 (by intro q; cases q), up _ _ g6 (by intro q; cases q)⟩, gn⟩, ⟨up _ _ g7 (by intro q; cases q), fun i hi => ⟨(g8 i hi).1, up _ _ (g8 i hi).2 (by intro q; cases q)⟩⟩, g9⟩, fun i hi hk => up _ _ (k4 i hi hk) (iA_ne (by have := (hb i hi).ce; show (s.N i).ce ≠ 512; omega))⟩, ⟨up _ _ k5 (by intro q; cases q), k6⟩, k7, ?_⟩
  intro hc
  obtain ⟨o, Y, q1, ⟨y0, y1, y2, y3, y4, y5⟩, q3⟩ := k8 hc
  exact ⟨o, Y, q1, ⟨up _ _ y0 (by intro q; cases q), up _ _ y1 (by intro q; cases q), up _ _ y2 (by intro q; cases q), up _ _ y3 (by intro q; cases q), up _ _ y4 (by intro q; cases q), up _ _ y5 (by intro q; cases q)⟩, q3⟩
theorem cOK.ta {h : rk_H} {C : cT} {s : aS} (k : cOK h C s) (w : UInt64) (o : Option Nat) (c : Bool) (hp : c = true → s.comp = true ∧ o = s.out) : cOK (rk_up h C.a (oB 5 (tls C w o c))) C (s.1, (s.wt, w), (o, c), s.2.2.2) := by
  obtain ⟨⟨k1, ⟨⟨m1, m2⟩, ⟨⟨w0, m3⟩, ⟨x1, x2, m4⟩, ⟨x3, x4, m5⟩, f0, m6⟩, m7⟩, ⟨⟨⟨X, g0, g1, g2, g3, g4, g5, g6⟩, gn⟩, ⟨g7, g8⟩, g9⟩, k4⟩, ⟨k5, k6⟩, k7, k8⟩ := k
  have up := up_of (e1 := oB 5 (tls C w o c)) k1
  refine ⟨⟨rk_up_s, ⟨⟨up _ _ m1 (by intro q; cases q), up _ _ m2 (by intro q; cases q)⟩, ⟨⟨w0, up _ _ m3 (by intro q; cases q)⟩, ⟨x1, x2, up _ _ m4 (by intro q; cases q)⟩, ⟨x3, x4, up _ _ m5 (by intro q; cases q)⟩, _, up _ _ m6 (by intro q; cases q)⟩, m7⟩, ⟨⟨⟨X, g0, up _ _ g1 (by intro q; cases q), up _ _ g2 (by intro q; cases q), up _ _ g3 (by intro q; cases q), up _ _ g4 (by intro q; cases q), up _ _ g5 (by intro q; cases q), up _ _ g6 (by intro q; cases q)⟩, gn⟩, ⟨up _ _ g7 (by intro q; cases q), fun i hi => ⟨(g8 i hi).1, up _ _ (g8 i hi).2 (by intro q; cases q)⟩⟩, g9⟩, fun i hi hk => up _ _ (k4 i hi hk) (by intro q; cases q)⟩, ⟨up _ _ k5 (by intro q; cases q), k6⟩, k7, ?_⟩
  intro hc
  obtain ⟨hc, ho⟩ := hp hc
  obtain ⟨o, Y, q1, ⟨y0, y1, y2, y3, y4, y5⟩, q3⟩ := k8 hc
  exact ⟨o, Y, ho.trans q1, ⟨up _ _ y0 (by intro q; cases q), up _ _ y1 (by intro q; cases q), up _ _ y2 (by intro q; cases q), up _ _ y3 (by intro q; cases q), up _ _ y4 (by intro q; cases q), up _ _ y5 (by intro q; cases q)⟩, q3⟩
theorem cOK.fd {h : rk_H} {C : cT} {s : aS} (k : cOK h C s) (i : Nat) (f : Nat → Int32) (hi : i < s.n) (hk : (s.N i).kd = 0) (hb : bdOK s.N s.n) : cOK (rk_up h (C.fe i) (iA (s.N i).ce f)) C (s.wfd i f) := by
  obtain ⟨⟨k1, ⟨⟨m1, m2⟩, ⟨⟨w0, m3⟩, ⟨x1, x2, m4⟩, ⟨x3, x4, m5⟩, f0, m6⟩, m7⟩, ⟨⟨⟨X, g0, g1, g2, g3, g4, g5, g6⟩, gn⟩, ⟨g7, g8⟩, g9⟩, k4⟩, ⟨k5, k6⟩, k7, k8⟩ := k
  have hce := (hb i hi).ce
  have up := up_of (e1 := iA (s.N i).ce f) (k4 i hi hk)
  refine ⟨⟨up _ _ k1 (by intro q; cases q), ⟨⟨up _ _ m1 (by intro q; cases q), up _ _ m2 (iA_ne (by omega))⟩, ⟨⟨w0, up _ _ m3 (by intro q; cases q)⟩, ⟨x1, x2, up _ _ m4 (by intro q; cases q)⟩, ⟨x3, x4, up _ _ m5 (by intro q; cases q)⟩, _, up _ _ m6 (iA_ne (by omega))⟩, m7⟩, ⟨⟨⟨X, g0, up _ _ g1 (by intro q; cases q), rk_up_k (Ne.symm (k7.2 i hi hk).1) g2, rk_up_k (Ne.symm (k7.2 i hi hk).2.1) g3, rk_up_k (Ne.symm (k7.2 i hi hk).2.2.1) g4, rk_up_k (Ne.symm (k7.2 i hi hk).2.2.2.1) g5, rk_up_k (Ne.symm (k7.2 i hi hk).2.2.2.2) g6⟩, gn⟩, ⟨up _ _ g7 (by intro q; cases q), fun i hi => ⟨(g8 i hi).1, up _ _ (g8 i hi).2 (by intro q; cases q)⟩⟩, g9⟩, fun j hj hkj => by
    by_cases hji : j = i
    · subst hji
      show rk_up h (C.fe j) (iA (s.N j).ce f) (C.fe j) = some (iA (s.N j).ce (if j = j then f else s.fd j))
      rw [if_pos rfl]
      exact rk_up_s
    · show rk_up h (C.fe i) (iA (s.N i).ce f) (C.fe j) = some (iA (s.N j).ce (if j = i then f else s.fd j))
      rw [if_neg hji]
      exact rk_up_k (k7.1 j i hj hi hkj hk hji) (k4 j hj hkj)⟩, ⟨up _ _ k5 (iA_ne (by omega)), k6⟩, k7, ?_⟩
  intro hc
  obtain ⟨o, Y, q1, ⟨y0, y1, y2, y3, y4, y5⟩, q3⟩ := k8 hc
  exact ⟨o, Y, q1, ⟨up _ _ y0 (by intro q; cases q), rk_up_k (Ne.symm (k7.2 i hi hk).1) y1, rk_up_k (Ne.symm (k7.2 i hi hk).2.1) y2, rk_up_k (Ne.symm (k7.2 i hi hk).2.2.1) y3, rk_up_k (Ne.symm (k7.2 i hi hk).2.2.2.1) y4, rk_up_k (Ne.symm (k7.2 i hi hk).2.2.2.2) y5⟩, q3⟩
theorem cOK.pl {h : rk_H} {C : cT} {s : aS} (k : cOK h C s) (o : Nat) (Y : gX) (ho : s.out = some o) (hp : plnd s.N s.n o Y) : cOK (rk_up (gv h C.gb C.A Y) C.a (oB 5 (tls C s.ws s.out true))) C s.wcomp := by
  have kg := k.1.2.2.1
  obtain ⟨⟨k1, ⟨⟨m1, m2⟩, ⟨⟨w0, m3⟩, ⟨x1, x2, m4⟩, ⟨x3, x4, m5⟩, f0, m6⟩, m7⟩, ⟨⟨⟨X, g0, g1, g2, g3, g4, g5, g6⟩, gn⟩, ⟨g7, g8⟩, g9⟩, k4⟩, ⟨k5, k6⟩, k7, k8⟩ := k
  have hX : Y.n = s.n := hp.1.1
  have ua := up_of (e1 := oB 5 (tls C s.ws s.out true)) (kg.other (X := Y) k1 (by intro l q; cases q) (by intro l q; cases q))
  refine ⟨⟨rk_up_s, ⟨⟨ua _ _ (kg.other m1 (by intro l q; cases q) (by intro l q; cases q)) (by intro q; cases q), ua _ _ (kg.other m2 (by intro l q; cases q) (fun l => iA_ne (by omega))) (by intro q; cases q)⟩, ⟨⟨w0, ua _ _ (kg.other m3 (by intro l q; cases q) (by intro l q; cases q)) (by intro q; cases q)⟩, ⟨x1, x2, ua _ _ (kg.other m4 (by intro l q; cases q) (by intro l q; cases q)) (by intro q; cases q)⟩, ⟨x3, x4, ua _ _ (kg.other m5 (by intro l q; cases q) (by intro l q; cases q)) (by intro q; cases q)⟩, _, ua _ _ (kg.other m6 (by intro l q; cases q) (fun l => iA_ne (by omega))) (by intro q; cases q)⟩, m7⟩, ⟨⟨⟨Y, hX, ua _ _ kg.gb (by intro q; cases q), ua _ _ kg.gsf (by intro q; cases q), ua _ _ kg.gst (by intro q; cases q), ua _ _ kg.gsp (by intro q; cases q), ua _ _ kg.gpl (by intro q; cases q), ua _ _ kg.gla (by intro q; cases q)⟩, gn⟩, ⟨ua _ _ (kg.other g7 (by intro l q; cases q) (by intro l q; cases q)) (by intro q; cases q), fun i hi => ⟨(g8 i hi).1, ua _ _ (kg.other (g8 i hi).2 (by intro l q; cases q) (by intro l q; cases q)) (by intro q; cases q)⟩⟩, g9⟩, fun i hi hk => ua _ _ (by
    have q := k7.2 i hi hk
    have q0 := rk_neq (k4 i hi hk) g1 (by intro q; cases q)
    exact rk_up_k q.2.2.2.2 (rk_up_k q.2.2.2.1 (rk_up_k q.2.2.1 (rk_up_k q.2.1 (rk_up_k q.1 (rk_up_k q0 (k4 i hi hk))))))) (by intro q; cases q)⟩, ⟨ua _ _ (kg.other k5 (by intro l q; cases q) (fun l => iA_ne (by omega))) (by intro q; cases q), k6⟩, k7, ?_⟩
  intro _
  exact ⟨o, Y, ho, ⟨ua _ _ kg.gb (by intro q; cases q), ua _ _ kg.gsf (by intro q; cases q), ua _ _ kg.gst (by intro q; cases q), ua _ _ kg.gsp (by intro q; cases q), ua _ _ kg.gpl (by intro q; cases q), ua _ _ kg.gla (by intro q; cases q)⟩, hp⟩
def cT.wM (C : cT) (M : mR) (F : Nat → Int32) : cT := (C.1, C.2.1, M, C.2.2.2.1, F)
theorem cOK.mr {h : rk_H} {C : cT} {s s' : aS} (k : cOK h C s) (w1 : wR) (p1 q1 : Int64 × Int32) (F : Nat → Int32) (ar rp rc : Int32) (rs : UInt64) (hb : bdOK s.N s.n) (es : (s'.1 = s.1 ∧ s'.2.1 = s.2.1) ∧ s'.2.2.1 = s.2.2.1 ∧ s'.fd = s.fd) (hr : runK (C.wM (mW C.M ar rp rc rs) F) s') : cOK (rk_up (mv h C.M w1 p1 q1 F) C.mb (oB 1 (mW C.M ar rp rc rs).ls)) (C.wM (mW C.M ar rp rc rs) F) s' := by
  have km := k.1.2.1
  obtain ⟨s1, s2, s3, s4, s5⟩ := s
  obtain ⟨t1, t2, t3, t4, t5⟩ := s'
  obtain ⟨⟨e1, e2⟩, e3, e4⟩ := es
  dsimp only at e1 e2 e3
  subst e1; subst e2; subst e3
  replace e4 : t4 = s4 := e4
  subst e4
  obtain ⟨⟨k1, ⟨⟨m1, m2⟩, ⟨⟨w0, m3⟩, ⟨x1, x2, m4⟩, ⟨x3, x4, m5⟩, f0, m6⟩, m7⟩, ⟨⟨⟨X, g0, g1, g2, g3, g4, g5, g6⟩, gn⟩, ⟨g7, g8⟩, g9⟩, k4⟩, ⟨k5, k6⟩, k7, k8⟩ := k
  have um := up_of (e1 := oB 1 (mW C.M ar rp rc rs).ls) (km.ma (w := w1) (p := p1) (q := q1) (f := F))
  refine ⟨⟨um _ _ (km.other k1 (by intro l q; cases q) (by intro l q; cases q) (by intro l q; cases q)) (by intro q; cases q), ⟨⟨rk_up_s, um _ _ km.mwc (by intro q; cases q)⟩, ⟨⟨w1, um _ _ km.mwi (by intro q; cases q)⟩, ⟨p1.1, p1.2, um _ _ km.ms1 (by intro q; cases q)⟩, ⟨q1.1, q1.2, um _ _ km.ms2 (by intro q; cases q)⟩, _, um _ _ mv_ce (by intro q; cases q)⟩, m7⟩, ⟨⟨⟨X, g0, um _ _ (km.mg g1) (by intro q; cases q), um _ _ (km.mi g2 (by decide)) (by intro q; cases q), um _ _ (km.mi g3 (by decide)) (by intro q; cases q), um _ _ (km.mi g4 (by decide)) (by intro q; cases q), um _ _ (km.mi g5 (by decide)) (by intro q; cases q), um _ _ (km.mi g6 (by decide)) (by intro q; cases q)⟩, gn⟩, ⟨um _ _ (km.mq g7) (by intro q; cases q), fun i hi => ⟨(g8 i hi).1, um _ _ (km.mn (g8 i hi).2) (by intro q; cases q)⟩⟩, g9⟩, fun i hi hk => um _ _ (km.mi (k4 i hi hk) (by have := (hb i hi).ce; show (aS.N (t1, t2, t3, t4, s5) i).ce ≠ 1792; omega)) (by intro q; cases q)⟩, ⟨um _ _ mv_ce (by intro q; cases q), hr⟩, k7, ?_⟩
  intro hc
  obtain ⟨o, Y, q1, ⟨y0, y1, y2, y3, y4, y5⟩, q3⟩ := k8 hc
  exact ⟨o, Y, q1, ⟨um _ _ (km.mg y0) (by intro q; cases q), um _ _ (km.mi y1 (by decide)) (by intro q; cases q), um _ _ (km.mi y2 (by decide)) (by intro q; cases q), um _ _ (km.mi y3 (by decide)) (by intro q; cases q), um _ _ (km.mi y4 (by decide)) (by intro q; cases q), um _ _ (km.mi y5 (by decide)) (by intro q; cases q)⟩, q3⟩
