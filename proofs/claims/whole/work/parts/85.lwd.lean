/-! THE WORLD AT THE START -/
theorem in_lw (w : Cond) (h : w ∈ rk_tbl) : w ∈ lw_tbl := (List.mem_filter.mp h).1
theorem lw_nst : ∀ w ∈ rk_nst, w ∈ lw_tbl := by decide +kernel
theorem lw_str : ∀ q ∈ rk_str, Cond.stringRef q.1 q.2.1 q.2.2 ∈ lw_tbl ∧ q.1 = "TensorForge" := by decide +kernel
theorem lw_sta : ∀ q ∈ rk_sta, Cond.laysStatic q.1 q.2.1 q.2.2 ∈ lw_tbl ∧ Cond.initialized q.1 ∈ lw_tbl ∧ Cond.isRef (.static q.1 q.2.1 q.2.2) ∈ flatC (Jvm.Cond.and given_1 narrow_1) := by decide +kernel
theorem w_ovr : Cond.arrayOver (.object "TensorForge$Node") ∈ lw_tbl := by decide +kernel
theorem lw_ncp : ∀ q ∈ rk_ncp, Cond.not (.castable q.1 q.2) ∈ flatC (Jvm.Cond.and given_1 narrow_1) := by decide +kernel
theorem lw_world {s : State} {b L : Nat} {xs : Nat → Int32} (hts : ∀ w ∈ lw_tbl, w.before #[Value.ref b] s = true) (hX : va_X b L xs s s.heap) (hgv : (Jvm.Cond.and given_1 narrow_1).before #[Value.ref b] s = true) : ∃ G : rk_G, G.1 = s.heap.size ∧ rk_K G s ∧ rk_R G (rk_up (fun _ => none) b (sA L xs)) s.heap := by
  have htb : ∀ w ∈ rk_tbl, w.before #[Value.ref b] s = true := fun w hw => hts w (in_lw w hw)
  have hfl := flat_of_before _ hgv
  obtain ⟨scr, h1, h2, h3, h4, h5⟩ := hX
  obtain ⟨g1, kA, g2, comp, g3⟩ := h2
  obtain ⟨c0, i0, u0⟩ := u_known (T := ttG) (N := 9) htb kG.2.1 (htb _ (show Cond.instantiable "TensorForge$Graph" 9 ∈ rk_tbl from (in_t1 28 rfl rfl)))
  obtain ⟨c1, i1, u1⟩ := u_known (T := ttM) (N := 9) htb kM.2.1 (htb _ (show Cond.instantiable "TensorForge$Machine" 9 ∈ rk_tbl from (in_t1 77 rfl rfl)))
  obtain ⟨c2, i2, u2⟩ := u_known (T := ttN) (N := 16) htb kN.2.1 (htb _ (show Cond.instantiable "TensorForge$Node" 16 ∈ rk_tbl from (in_t2 88 rfl rfl)))
  obtain ⟨c3, i3, u3⟩ := u_known (T := ttS) (N := 2) htb kS.2.1 (htb _ (show Cond.instantiable "TensorForge$Scaler" 2 ∈ rk_tbl from (in_t1 133 rfl rfl)))
  obtain ⟨c4, i4, u4⟩ := u_known (T := ttW) (N := 12) htb kW.2.1 (htb _ (show Cond.instantiable "TensorForge$Window" 12 ∈ rk_tbl from (in_t1 83 rfl rfl)))
  obtain ⟨c5, i5, u5⟩ := u_known (T := ttT) (N := 5) htb kT.2.1 (htb _ (show Cond.instantiable "TensorForge" 5 ∈ rk_tbl from (in_t1 20 rfl rfl)))
  obtain ⟨c6, i6, u6⟩ := u_known (T := ttR) (N := 32) htb kR.2.1 (htb _ (show Cond.instantiable "TensorForgeModel" 32 ∈ rk_tbl from (in_t4 154 rfl rfl)))
  obtain ⟨a0, y0, z0, v0, w0, x0⟩ := Cond.arrayClass_spec (type := .int) (htb _ w_arr_int)
  obtain ⟨a1, y1, z1, v1, w1, x1⟩ := Cond.arrayClass_spec (type := .long) (htb _ w_arr_long)
  obtain ⟨a2, y2, z2, v2, w2, x2⟩ := Cond.arrayClass_spec (type := .double) (htb _ w_arr_double)
  obtain ⟨z3, a3, y3, t3, -, w3, x3, v3⟩ := Cond.arrayOver_spec (n := "TensorForge$Node") (hts _ w_ovr)
  refine ⟨(s.heap.size, ((fun c => match c with | 0 => c0 | 1 => c1 | 2 => c2 | 3 => c3 | 4 => c4 | 5 => c5 | _ => c6), (fun c => match c with | 0 => i0 | 1 => i1 | 2 => i2 | 3 => i3 | 4 => i4 | 5 => i5 | _ => i6)), (fun c => match c with | 0 => a0 | 1 => a1 | 2 => a2 | 3 => a3 | _ => scr.cls)), rfl, ⟨?_, ?_, ?_, ?_, ?_, ?_, ?_⟩, ?_⟩
  · intro c q hq
    rcases c with _ | _ | _ | _ | _ | _ | _ | c
    · obtain rfl := Option.some.inj (show some (("TensorForge$Graph", ttG, 9) : vw_C) = some q from hq)
      exact u0
    · obtain rfl := Option.some.inj (show some (("TensorForge$Machine", ttM, 9) : vw_C) = some q from hq)
      exact u1
    · obtain rfl := Option.some.inj (show some (("TensorForge$Node", ttN, 16) : vw_C) = some q from hq)
      exact u2
    · obtain rfl := Option.some.inj (show some (("TensorForge$Scaler", ttS, 2) : vw_C) = some q from hq)
      exact u3
    · obtain rfl := Option.some.inj (show some (("TensorForge$Window", ttW, 12) : vw_C) = some q from hq)
      exact u4
    · obtain rfl := Option.some.inj (show some (("TensorForge", ttT, 5) : vw_C) = some q from hq)
      exact u5
    · obtain rfl := Option.some.inj (show some (("TensorForgeModel", ttR, 32) : vw_C) = some q from hq)
      exact u6
    · cases hq
  · intro k ty hk
    rcases k with _ | _ | _ | _ | k
    · obtain rfl := Option.some.inj (show some FieldType.int = some ty from hk)
      exact ⟨fun n z => ⟨fun q h => (by cases h), y0, w0, z0, x0⟩, v0⟩
    · obtain rfl := Option.some.inj (show some FieldType.long = some ty from hk)
      exact ⟨fun n z => ⟨fun q h => (by cases h), y1, w1, z1, x1⟩, v1⟩
    · obtain rfl := Option.some.inj (show some FieldType.double = some ty from hk)
      exact ⟨fun n z => ⟨fun q h => (by cases h), y2, w2, z2, x2⟩, v2⟩
    · obtain rfl := Option.some.inj (show some (FieldType.object "TensorForge$Node") = some ty from hk)
      exact ⟨fun n z => ⟨fun q h => (by cases h), y3, w3, z3, x3⟩, y3, z3, w3, x3, t3, v3⟩
    · cases hk
  · intro q hq
    obtain ⟨h1, h2⟩ := lw_str q hq
    obtain ⟨-, -, -, a, -, -, -, -, -, he⟩ := Cond.stringRef_spec (cur := c5) (by rw [h2]; exact u5.2.1) (hts _ h1)
    exact ⟨a, vk_R.of (hts _ h1) he⟩
  · intro q hq
    obtain ⟨h1, h2, h3⟩ := lw_sta q hq
    exact vx_Zqof (hts _ h1) (hts _ h2) (hfl _ h3) (fun a ha q => absurd ha (Nat.not_lt.mpr q))
  · exact fun w hw => va_Nw.of (rk_nst_on w hw) (hts w (lw_nst w hw))
  · exact fun q hq => va_Nc.of (hfl _ (lw_ncp q hq))
  · exact ⟨va_AO.of (hts _ w_ovr), fun n z => ⟨fun q h => (by cases h), kA, g2, comp, g3⟩⟩
  · intro a e he
    by_cases ha : a = b
    · subst ha
      rw [rk_up_s] at he
      cases he
      exact ⟨Or.inl rfl, scr, h1, rfl, g1, h3, h4, h5⟩
    · rw [rk_up_n ha] at he
      cases he
