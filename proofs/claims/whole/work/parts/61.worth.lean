theorem CORE.same {To No M M' : Ob} {f g : Nat → Int32} {Pa Ke : PS} {S U L N D y a k : Nat} (h : CORE To No Pa Ke (stR M 18 f) S U L N D y a k) (e : SAME M M') (hf : FR f g 286) : CORE To No Pa Ke (stR M' 18 g) S U L N D y a k := by
  obtain ⟨hT, hS1, hN1, hM, hR, hPK, hy, ha, hPa, hk, hKe⟩ := (h.trial hf).out
  exact ⟨hT, hS1, hN1, (hM.same e).slot g, hR, hPK, hy, (e.2 19 (by omega)).trans ha, hPa, (e.2 20 (by omega)).trans hk, hKe⟩
theorem TX.same {Te M M' : Ob} {f g : Nat → Int32} {n : Nat} (h : TX Te (stR M 18 f) n) (e : SAME M M') : TX Te (stR M' 18 g) n := by
  obtain ⟨t1, t2, t3, t4⟩ := h
  obtain ⟨e1, e2⟩ := e
  refine ⟨t1, (e2 21 (by omega)).trans t2, t3, fun j hj => ?_⟩
  show ∃ c, 32 ≤ c ∧ c ≤ 126 ∧ Te.2 0 j = nI c ∧ M'.2 22 j = nI c
  rw [e1]
  exact t4 j hj
theorem AR.same {As M M' : Ob} {f g : Nat → Int32} {q S U L : Nat} (h : AR As (stR M 18 f) q S U L) (e : SAME M M') : AR As (stR M' 18 g) q S U L := by
  obtain ⟨t1, t2, t3, t4⟩ := h
  obtain ⟨e1, e2⟩ := e
  refine ⟨t1, (e2 26 (by omega)).trans t2, t3, fun j hj => ?_⟩
  show ∃ s l k, s < S ∧ l < 2 ∧ k < 6 ∧ td U L (6 * l + k) ∧ As.2 0 j = nI s ∧ As.2 1 j = nI (6 * l + k) ∧ M'.2 27 j = nI s ∧ M'.2 28 j = nI l ∧ M'.2 29 j = nI k
  rw [e1]
  exact t4 j hj
theorem P_century {Te To No As M : Ob} {Pa Ke : PS} (h : REL Te To No Pa Ke As M) (o7 Tr : Ob) (v1 v2 v3 : Int32) : ∃ r7 r8, f_X7_century o7 To No Tr v1 v2 v3 = some r7 ∧ f_X8_century M v1 v2 v3 = some r8 ∧ r7.1 = r8.1 ∧ REL Te To No Pa Ke As r8.2 := by
  have h0 := h
  obtain ⟨n, S, U, L, N, D, y, a, k, q, hTe, hC, hA⟩ := h
  obtain ⟨M0, f, rfl⟩ : ∃ M0 f, M = stR M0 18 f := ⟨M, M.2 18, (stR_self M 18).symm⟩
  obtain ⟨hT, hS1, hN1, hM, hR, hPK, hy, ha, hPa, hk, hKe⟩ := hC.out
  have lS := hT.2.2.2.2.2.1
  unfold f_X7_century f_X8_century
  rcases wi_or v1 (a := 0) (b := 9999) (by omega) (by omega) with hw | ⟨z, -, hz, rfl⟩
  · refine ⟨(-1, Tr), (-1, stR M0 18 f), ?_, ?_, rfl, h0⟩
    · simp (disch := omega) only [↓pk_rem, nl_0, nl_1, nl_2, nl_3, nl_4, nl_6, nl_7, nl_8, nl_9, nl_10, nl_11, nl_12, nl_20, nl_23, nl_24, nl_26, nl_32, nl_39, nl_40, nl_44, nl_48, nl_57, nl_59, nl_60, nl_61, nl_64, nl_81, nl_82, nl_99, nl_100, nl_126, nl_200, nl_208, nl_286, nl_287, nl_290, nl_312, nl_999, nl_6561, nl_9999, nI_add, pk_mul, pk_div, pk_sub, ev_leT, ev_leF, ev_ltT, ev_ltF, ev_eqT, ev_eqF, nI_clamp, nle_T, nle_F, nlt_F, or_false, false_or, or_self, if_true, if_false, bnd_def, Option.bind_some, st1s, st1n, st2, st3, st4s, st4n, eq_self, tf_1, tf_2, b2iT, b2iF, b2iE, ob_1, ob_2, f_X7_cell_at, f_X7_setCell_at, in_0, wi_at, in_0_1, in_0_2, in_0_4, in_0_8, in_0_9, in_0_10, in_0_40, in_0_99, in_1_20, in_1_60, in_0_9999, in_m99_99, in_32_126, in_48_57, hw]
    · simp (disch := omega) only [↓pk_rem, nl_0, nl_1, nl_2, nl_3, nl_4, nl_6, nl_7, nl_8, nl_9, nl_10, nl_11, nl_12, nl_20, nl_23, nl_24, nl_26, nl_32, nl_39, nl_40, nl_44, nl_48, nl_57, nl_59, nl_60, nl_61, nl_64, nl_81, nl_82, nl_99, nl_100, nl_126, nl_200, nl_208, nl_286, nl_287, nl_290, nl_312, nl_999, nl_6561, nl_9999, nI_add, pk_mul, pk_div, pk_sub, ev_leT, ev_leF, ev_ltT, ev_ltF, ev_eqT, ev_eqF, nI_clamp, nle_T, nle_F, nlt_F, or_false, false_or, or_self, if_true, if_false, bnd_def, Option.bind_some, st1s, st1n, st2, st3, st4s, st4n, eq_self, tf_1, tf_2, b2iT, b2iF, b2iE, ob_1, ob_2, f_X7_cell_at, f_X7_setCell_at, in_0, wi_at, in_0_1, in_0_2, in_0_4, in_0_8, in_0_9, in_0_10, in_0_40, in_0_99, in_1_20, in_1_60, in_0_9999, in_m99_99, in_32_126, in_48_57, hw]
  rcases wi_or v2 (a := 1) (b := 60) (by omega) (by omega) with hw | ⟨c, hc1, hc, rfl⟩
  · refine ⟨(-1, Tr), (-1, stR M0 18 f), ?_, ?_, rfl, h0⟩
    · simp (disch := omega) only [↓pk_rem, nl_0, nl_1, nl_2, nl_3, nl_4, nl_6, nl_7, nl_8, nl_9, nl_10, nl_11, nl_12, nl_20, nl_23, nl_24, nl_26, nl_32, nl_39, nl_40, nl_44, nl_48, nl_57, nl_59, nl_60, nl_61, nl_64, nl_81, nl_82, nl_99, nl_100, nl_126, nl_200, nl_208, nl_286, nl_287, nl_290, nl_312, nl_999, nl_6561, nl_9999, nI_add, pk_mul, pk_div, pk_sub, ev_leT, ev_leF, ev_ltT, ev_ltF, ev_eqT, ev_eqF, nI_clamp, nle_T, nle_F, nlt_F, or_false, false_or, or_self, if_true, if_false, bnd_def, Option.bind_some, st1s, st1n, st2, st3, st4s, st4n, eq_self, tf_1, tf_2, b2iT, b2iF, b2iE, ob_1, ob_2, f_X7_cell_at, f_X7_setCell_at, in_0, wi_at, in_0_1, in_0_2, in_0_4, in_0_8, in_0_9, in_0_10, in_0_40, in_0_99, in_1_20, in_1_60, in_0_9999, in_m99_99, in_32_126, in_48_57, hw]
    · simp (disch := omega) only [↓pk_rem, nl_0, nl_1, nl_2, nl_3, nl_4, nl_6, nl_7, nl_8, nl_9, nl_10, nl_11, nl_12, nl_20, nl_23, nl_24, nl_26, nl_32, nl_39, nl_40, nl_44, nl_48, nl_57, nl_59, nl_60, nl_61, nl_64, nl_81, nl_82, nl_99, nl_100, nl_126, nl_200, nl_208, nl_286, nl_287, nl_290, nl_312, nl_999, nl_6561, nl_9999, nI_add, pk_mul, pk_div, pk_sub, ev_leT, ev_leF, ev_ltT, ev_ltF, ev_eqT, ev_eqF, nI_clamp, nle_T, nle_F, nlt_F, or_false, false_or, or_self, if_true, if_false, bnd_def, Option.bind_some, st1s, st1n, st2, st3, st4s, st4n, eq_self, tf_1, tf_2, b2iT, b2iF, b2iE, ob_1, ob_2, f_X7_cell_at, f_X7_setCell_at, in_0, wi_at, in_0_1, in_0_2, in_0_4, in_0_8, in_0_9, in_0_10, in_0_40, in_0_99, in_1_20, in_1_60, in_0_9999, in_m99_99, in_32_126, in_48_57, hw]
  rcases wi_or v3 (a := 0) (b := 1) (by omega) (by omega) with hw | ⟨u, -, hu, rfl⟩
  · refine ⟨(-1, Tr), (-1, stR M0 18 f), ?_, ?_, rfl, h0⟩
    · simp (disch := omega) only [↓pk_rem, nl_0, nl_1, nl_2, nl_3, nl_4, nl_6, nl_7, nl_8, nl_9, nl_10, nl_11, nl_12, nl_20, nl_23, nl_24, nl_26, nl_32, nl_39, nl_40, nl_44, nl_48, nl_57, nl_59, nl_60, nl_61, nl_64, nl_81, nl_82, nl_99, nl_100, nl_126, nl_200, nl_208, nl_286, nl_287, nl_290, nl_312, nl_999, nl_6561, nl_9999, nI_add, pk_mul, pk_div, pk_sub, ev_leT, ev_leF, ev_ltT, ev_ltF, ev_eqT, ev_eqF, nI_clamp, nle_T, nle_F, nlt_F, or_false, false_or, or_self, if_true, if_false, bnd_def, Option.bind_some, st1s, st1n, st2, st3, st4s, st4n, eq_self, tf_1, tf_2, b2iT, b2iF, b2iE, ob_1, ob_2, f_X7_cell_at, f_X7_setCell_at, in_0, wi_at, in_0_1, in_0_2, in_0_4, in_0_8, in_0_9, in_0_10, in_0_40, in_0_99, in_1_20, in_1_60, in_0_9999, in_m99_99, in_32_126, in_48_57, hw]
    · simp (disch := omega) only [↓pk_rem, nl_0, nl_1, nl_2, nl_3, nl_4, nl_6, nl_7, nl_8, nl_9, nl_10, nl_11, nl_12, nl_20, nl_23, nl_24, nl_26, nl_32, nl_39, nl_40, nl_44, nl_48, nl_57, nl_59, nl_60, nl_61, nl_64, nl_81, nl_82, nl_99, nl_100, nl_126, nl_200, nl_208, nl_286, nl_287, nl_290, nl_312, nl_999, nl_6561, nl_9999, nI_add, pk_mul, pk_div, pk_sub, ev_leT, ev_leF, ev_ltT, ev_ltF, ev_eqT, ev_eqF, nI_clamp, nle_T, nle_F, nlt_F, or_false, false_or, or_self, if_true, if_false, bnd_def, Option.bind_some, st1s, st1n, st2, st3, st4s, st4n, eq_self, tf_1, tf_2, b2iT, b2iF, b2iE, ob_1, ob_2, f_X7_cell_at, f_X7_setCell_at, in_0, wi_at, in_0_1, in_0_2, in_0_4, in_0_8, in_0_9, in_0_10, in_0_40, in_0_99, in_1_20, in_1_60, in_0_9999, in_m99_99, in_32_126, in_48_57, hw]
  obtain ⟨w, g0, k1, k2, k3, k4, k5⟩ := trial_both (To := To) (M := M0) (Tr := Tr) lS hR
  have hl := loop2 (fun t i (s : Ob × Ob × (Nat → Int32) × Nat) => f_X7_century_46 o7 To (nI z) (nI c) (nI u) t (nI i) s.1) (fun t i s => f_X8_century_47 (nI z) (nI c) (nI u) t (nI i) (stR s.2.1 18 s.2.2.1)) 0 c (by omega) (by omega)
    (fun _ s => RS S s.1 s.2.2.1 286 ∧ PK s.1 s.2.2.2 ∧ s.2.2.2 ≤ 999 ∧ FR f s.2.2.1 286 ∧ SAME M0 s.2.1)
    (fun s => some (if u = 0 then s_goods s.1 S else f_J6_bitCount_0f7a4 (s.1.1 4), s.1)) (fun s => some (if u = 0 then s_goods s.1 S else f_J6_bitCount_0f7a4 (s.1.1 4), stR s.2.1 18 s.2.2.1)) (w, M0, g0, y) ⟨k4, hPK.eqs k2, hy, k5, SAME.refl M0⟩
    (fun t s hs => by
      obtain ⟨i1, i2, i3, i4, i5⟩ := hs
      have e1 := X7_allGoods s.1 hT
      have e2 := X8_goods (M := s.2.1) (f := s.2.2.1) (b := 286) (by omega) hT (hM.same i5) i1
      have e3 := X8_wed (M := s.2.1) (f := s.2.2.1) (b := 286) (by omega) i1
      constructor
      · show f_X7_century_46 o7 To (nI z) (nI c) (nI u) (t + 1) (nI c) s.1 = _
        rw [f_X7_century_46, if_pos (nI_le (Nat.le_refl _) (by omega))]
        rcases (show u = 0 ∨ u = 1 by omega) with rfl | rfl
        · rw [if_pos (show nI 0 = 0 from rfl), e1]; rfl
        · rw [if_neg (show ¬ nI 1 = 0 by decide)]; rfl
      · show f_X8_century_47 (nI z) (nI c) (nI u) (t + 1) (nI c) (stR s.2.1 18 s.2.2.1) = _
        rw [f_X8_century_47, if_pos (nI_le (Nat.le_refl _) (by omega))]
        have e2' : f_X8_goods (stR s.2.1 18 s.2.2.1) (286 : Int32) = some (s_goods s.1 S) := e2
        have e3' : f_X8_wed (stR s.2.1 18 s.2.2.1) (286 : Int32) = some (f_J6_bitCount_0f7a4 (s.1.1 4)) := e3
        rcases (show u = 0 ∨ u = 1 by omega) with rfl | rfl
        · rw [if_pos (show nI 0 = 0 from rfl), e2']; rfl
        · rw [if_neg (show ¬ nI 1 = 0 by decide), e3']; rfl)
    (fun t i s hi hs => by
      obtain ⟨i1, i2, i3, i4, i5⟩ := hs
      have hdl : dr z i < 65521 := Nat.mod_lt _ (by omega)
      obtain ⟨Q, y', M', g, b1, b2, b3, b4, b5, b6, b7⟩ := act_both o7 hT hN1 (hM.same i5) i2 i3 i1 hdl
      refine ⟨(Q, M', g, y'), ?_, ?_, b3, b4, b5, i4.trans b6, i5.trans b7⟩
      · show f_X7_century_46 o7 To (nI z) (nI c) (nI u) (t + 1) (nI i) s.1 = f_X7_century_46 o7 To (nI z) (nI c) (nI u) t (nI (i + 1)) Q
        rw [f_X7_century_46, if_neg (nI_ge hi (by omega)), X7_drawOf hz (by omega), bnd_def, b1, Option.bind_some, bnd_def, nI_1]
      · show f_X8_century_47 (nI z) (nI c) (nI u) (t + 1) (nI i) (stR s.2.1 18 s.2.2.1) = f_X8_century_47 (nI z) (nI c) (nI u) t (nI (i + 1)) (stR M' 18 g)
        have b2' : f_X8_does (stR s.2.1 18 s.2.2.1) (286 : Int32) (nI (dr z i)) = some (stR M' 18 g) := b2
        have e9 := dr_y (x := 7919 * z + 6151 * i + 1) (by omega)
        rw [f_X8_century_47, if_neg (nI_ge hi (by omega)), dr_x (by omega) (by omega), bnd_def, e9]
        show (f_X8_does (stR s.2.1 18 s.2.2.1) (286 : Int32) (nI (dr z i))).bind _ = _
        rw [b2', Option.bind_some, bnd_def, nI_1])
  obtain ⟨s, l1, l2, i1, i2, i3, i4, i5⟩ := hl
  refine ⟨(if u = 0 then s_goods s.1 S else f_J6_bitCount_0f7a4 (s.1.1 4), s.1), (if u = 0 then s_goods s.1 S else f_J6_bitCount_0f7a4 (s.1.1 4), stR s.2.1 18 s.2.2.1), ?_, ?_, rfl, n, S, U, L, N, D, y, a, k, q, hTe.same i5, hC.same i5 i4, hA.same i5⟩
  · simp (disch := omega) only [↓pk_rem, nl_0, nl_1, nl_2, nl_3, nl_4, nl_6, nl_7, nl_8, nl_9, nl_10, nl_11, nl_12, nl_20, nl_23, nl_24, nl_26, nl_32, nl_39, nl_40, nl_44, nl_48, nl_57, nl_59, nl_60, nl_61, nl_64, nl_81, nl_82, nl_99, nl_100, nl_126, nl_200, nl_208, nl_286, nl_287, nl_290, nl_312, nl_999, nl_6561, nl_9999, nI_add, pk_mul, pk_div, pk_sub, ev_leT, ev_leF, ev_ltT, ev_ltF, ev_eqT, ev_eqF, nI_clamp, nle_T, nle_F, nlt_F, or_false, false_or, or_self, if_true, if_false, bnd_def, Option.bind_some, st1s, st1n, st2, st3, st4s, st4n, eq_self, tf_1, tf_2, b2iT, b2iF, b2iE, ob_1, ob_2, f_X7_cell_at, f_X7_setCell_at, in_0, wi_at, in_0_1, in_0_2, in_0_4, in_0_8, in_0_9, in_0_10, in_0_40, in_0_99, in_1_20, in_1_60, in_0_9999, in_m99_99, in_32_126, in_48_57, k1]
    exact l1
  · simp (disch := omega) only [↓pk_rem, nl_0, nl_1, nl_2, nl_3, nl_4, nl_6, nl_7, nl_8, nl_9, nl_10, nl_11, nl_12, nl_20, nl_23, nl_24, nl_26, nl_32, nl_39, nl_40, nl_44, nl_48, nl_57, nl_59, nl_60, nl_61, nl_64, nl_81, nl_82, nl_99, nl_100, nl_126, nl_200, nl_208, nl_286, nl_287, nl_290, nl_312, nl_999, nl_6561, nl_9999, nI_add, pk_mul, pk_div, pk_sub, ev_leT, ev_leF, ev_ltT, ev_ltF, ev_eqT, ev_eqF, nI_clamp, nle_T, nle_F, nlt_F, or_false, false_or, or_self, if_true, if_false, bnd_def, Option.bind_some, st1s, st1n, st2, st3, st4s, st4n, eq_self, tf_1, tf_2, b2iT, b2iF, b2iE, ob_1, ob_2, f_X7_cell_at, f_X7_setCell_at, in_0, wi_at, in_0_1, in_0_2, in_0_4, in_0_8, in_0_9, in_0_10, in_0_40, in_0_99, in_1_20, in_1_60, in_0_9999, in_m99_99, in_32_126, in_48_57, k3]
    exact l2
