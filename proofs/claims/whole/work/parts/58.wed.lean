/-! who is wed, counts -/
theorem ct_zero_from {w m : Nat} (hw : w < 2 ^ m) {n : Nat} (h : m ≤ n) : fb_ct (fun k => w.testBit k) n = fb_ct (fun k => w.testBit k) m := by
  obtain ⟨d, rfl⟩ : ∃ d, n = m + d := ⟨n - m, by omega⟩
  exact ct_small hw d
theorem X8_wed {M P : Ob} {f : Nat → Int32} {S b : Nat} (hb : b + 26 ≤ 312) (hR : RS S P f b) : f_X8_wed (stR M 18 f) (nI b) = some (f_J6_bitCount_0f7a4 (P.1 4)) := by
  obtain ⟨r0, r1, r2, r3, r4, r5, W, w1, w2, w3, W1, W2, W3, W4, W5, W6, W7, W8, W9, W10, W11⟩ := hR
  unfold f_X8_wed
  have e24 : b + 23 + 1 = b + 24 := rfl
  have e25 : b + 23 + 2 = b + 25 := rfl
  have b1 := bits_at (w := w1) (by omega)
  have b2 := bits_at (w := w2) (by omega)
  have b3 := bits_at (w := w3) (by omega)
  rw [ct_zero_from W2 (by omega)] at b1
  rw [ct_zero_from W3 (by omega)] at b2
  rw [ct_zero_from W4 (by omega)] at b3
  rw [W5, bitCount_at W1]
  have c1 : fb_ct (fun k => W.testBit k) 19 = fb_ct (fun k => W.testBit k) 12 + fb_ct (fun k => W.testBit (12 + k)) 7 := fb_ct_split (fun k => W.testBit k) 12 7
  have c2 : fb_ct (fun k => W.testBit k) 12 = fb_ct (fun k => W.testBit k) 6 + fb_ct (fun k => W.testBit (6 + k)) 6 := fb_ct_split (fun k => W.testBit k) 6 6
  have d1 : fb_ct (fun k => W.testBit (12 + k)) 7 = fb_ct (fun k => w1.testBit k) 7 := fb_ct_cong W11
  have d2 : fb_ct (fun k => W.testBit (6 + k)) 6 = fb_ct (fun k => w3.testBit k) 6 := fb_ct_cong W10
  have d3 : fb_ct (fun k => W.testBit k) 6 = fb_ct (fun k => w2.testBit k) 6 := fb_ct_cong W9
  have e : fb_ct (fun k => w1.testBit k) 7 + fb_ct (fun k => w2.testBit k) 6 + fb_ct (fun k => w3.testBit k) 6 = fb_ct (fun k => W.testBit k) 19 := by omega
  simp (disch := omega) only [↓pk_rem, nl_0, nl_1, nl_2, nl_3, nl_4, nl_6, nl_7, nl_8, nl_9, nl_10, nl_11, nl_12, nl_20, nl_23, nl_24, nl_26, nl_32, nl_39, nl_40, nl_44, nl_48, nl_57, nl_59, nl_60, nl_61, nl_64, nl_81, nl_82, nl_99, nl_100, nl_126, nl_200, nl_208, nl_286, nl_287, nl_290, nl_312, nl_999, nl_6561, nl_9999, nI_add, pk_mul, pk_div, pk_sub, ev_leT, ev_leF, ev_ltT, ev_ltF, ev_eqT, ev_eqF, nI_clamp, nle_T, nle_F, nlt_F, or_false, false_or, or_self, if_true, if_false, bnd_def, Option.bind_some, st1s, st1n, st2, st3, st4s, st4n, eq_self, tf_1, tf_2, b2iT, b2iF, b2iE, ob_1, ob_2, f_X7_cell_at, f_X7_setCell_at, in_0, wi_at, in_0_1, in_0_2, in_0_4, in_0_8, in_0_9, in_0_10, in_0_40, in_0_99, in_1_20, in_1_60, in_0_9999, in_m99_99, in_32_126, in_48_57, e24, e25, W6, W7, W8, b1, b2, b3, e]
def s_pairs (T : Ob) (S D y : Nat) (sh ah : Int32) : Int32 := up (fun s x => x + f_J6_bitCount_0f7a4 (nI (ab T D y s sh ah))) 0 S (nI 0)
theorem X7_allPairs {T P : Ob} {S U L N D y : Nat} (hT : TK T S U L N D) (hy : y < 2 ^ 31) (hP : P.1 3 = nI y) : f_X5_allPairs P T = some (s_pairs T S D y (P.1 0) (P.1 1)) := by
  have hS := hT.1
  have lS := hT.2.2.2.2.2.1
  have h := loopE (fun t i x => f_X5_allPairs_4 P T t x (nI i)) 0 S (by omega) (by omega) (fun i x => x = up (fun s x => x + f_J6_bitCount_0f7a4 (nI (ab T D y s (P.1 0) (P.1 1)))) 0 i (nI 0)) (fun x => some x) 0 rfl
    (fun t x hx => by
      show f_X5_allPairs_4 P T (t + 1) x (nI S) = _
      rw [f_X5_allPairs_4, hS, if_pos (nI_le (Nat.le_refl _) (by omega))])
    (fun t i x hi hx => by
      refine ⟨_, ?_, rfl⟩
      show f_X5_allPairs_4 P T (t + 1) x (nI i) = f_X5_allPairs_4 P T t _ (nI (i + 1))
      rw [f_X5_allPairs_4, hS, if_neg (nI_ge hi (by omega)), X7_againstBits hT hy hP (by omega), Option.bind_some, bnd_def, bnd_def, bnd_def, nI_1, up_succ, Nat.zero_add, ← hx])
  obtain ⟨Q, h1, h2⟩ := h
  rw [h2] at h1
  exact h1
theorem X8_pairs {M T : Ob} {f : Nat → Int32} {S U L N D y : Nat} (hT : TK T S U L N D) (hM : MK M T S U L N D) (hy : y < 2 ^ 31) (h3 : f 3 = nI y) {sh ah : Int32} (h1 : SH sh) (h2 : SH ah) : f_X8_pairs (stR M 18 f) sh ah = some (s_pairs T S D y sh ah) := by
  have lS := hT.2.2.2.2.2.1
  have hm := hM.1
  have h := loopE (fun t i x => f_X8_pairs_5 (stR M 18 f) sh ah t x (nI i)) 0 S (by omega) (by omega) (fun i x => x = up (fun s x => x + f_J6_bitCount_0f7a4 (nI (ab T D y s sh ah))) 0 i (nI 0)) (fun x => some x) 0 rfl
    (fun t x hx => by
      show f_X8_pairs_5 (stR M 18 f) sh ah (t + 1) x (nI S) = _
      rw [f_X8_pairs_5]
      simp (disch := omega) only [↓pk_rem, nl_0, nl_1, nl_2, nl_3, nl_4, nl_6, nl_7, nl_8, nl_9, nl_10, nl_11, nl_12, nl_20, nl_23, nl_24, nl_26, nl_32, nl_39, nl_40, nl_44, nl_48, nl_57, nl_59, nl_60, nl_61, nl_64, nl_81, nl_82, nl_99, nl_100, nl_126, nl_200, nl_208, nl_286, nl_287, nl_290, nl_312, nl_999, nl_6561, nl_9999, nI_add, pk_mul, pk_div, pk_sub, ev_leT, ev_leF, ev_ltT, ev_ltF, ev_eqT, ev_eqF, nI_clamp, nle_T, nle_F, nlt_F, or_false, false_or, or_self, if_true, if_false, bnd_def, Option.bind_some, st1s, st1n, st2, st3, st4s, st4n, eq_self, tf_1, tf_2, b2iT, b2iF, b2iE, ob_1, ob_2, f_X7_cell_at, f_X7_setCell_at, in_0, wi_at, in_0_1, in_0_2, in_0_4, in_0_8, in_0_9, in_0_10, in_0_40, in_0_99, in_1_20, in_1_60, in_0_9999, in_m99_99, in_32_126, in_48_57, hm])
    (fun t i x hi hx => by
      refine ⟨_, ?_, rfl⟩
      show f_X8_pairs_5 (stR M 18 f) sh ah (t + 1) x (nI i) = f_X8_pairs_5 (stR M 18 f) sh ah t _ (nI (i + 1))
      rw [f_X8_pairs_5, up_succ, Nat.zero_add, ← hx]
      have e := X8_againstBy hT (hM.slot f) y hi h1 h2
      have e2 := bits_bitCount (ab_lt T D y i sh ah)
      simp (disch := omega) only [↓pk_rem, nl_0, nl_1, nl_2, nl_3, nl_4, nl_6, nl_7, nl_8, nl_9, nl_10, nl_11, nl_12, nl_20, nl_23, nl_24, nl_26, nl_32, nl_39, nl_40, nl_44, nl_48, nl_57, nl_59, nl_60, nl_61, nl_64, nl_81, nl_82, nl_99, nl_100, nl_126, nl_200, nl_208, nl_286, nl_287, nl_290, nl_312, nl_999, nl_6561, nl_9999, nI_add, pk_mul, pk_div, pk_sub, ev_leT, ev_leF, ev_ltT, ev_ltF, ev_eqT, ev_eqF, nI_clamp, nle_T, nle_F, nlt_F, or_false, false_or, or_self, if_true, if_false, bnd_def, Option.bind_some, st1s, st1n, st2, st3, st4s, st4n, eq_self, tf_1, tf_2, b2iT, b2iF, b2iE, ob_1, ob_2, f_X7_cell_at, f_X7_setCell_at, in_0, wi_at, in_0_1, in_0_2, in_0_4, in_0_8, in_0_9, in_0_10, in_0_40, in_0_99, in_1_20, in_1_60, in_0_9999, in_m99_99, in_32_126, in_48_57, hm, h3, X8_dampOf hT (hM.slot f), e, e2])
  obtain ⟨Q, c1, c2⟩ := h
  rw [c2] at c1
  exact c1
theorem P_count {Te To No As M : Ob} {Pa Ke : PS} (h : REL Te To No Pa Ke As M) (o7 : Ob) (v1 : Int32) : ∃ r, f_X7_count o7 Te To No Pa.1 Ke.1 As v1 = some r ∧ f_X8_count M v1 = some r := by
  obtain ⟨n, S, U, L, N, D, y, a, k, q, hTe, hC, hA⟩ := h
  obtain ⟨M0, f, rfl⟩ : ∃ M0 f, M = stR M0 18 f := ⟨M, M.2 18, (stR_self M 18).symm⟩
  obtain ⟨hT, hS1, hN1, hM, hR, hPK, hy, ha, hPa, hk, hKe⟩ := hC.out
  have hw := X8_wed (M := M0) (b := 0) (by omega) hR
  have hr0 : f 0 = No.1 0 := hR.1
  have hr1 : f 1 = No.1 1 := hR.2.1
  have hr2 : f 2 = No.1 2 := hR.2.2.1
  have hr3 : f 3 = No.1 3 := hR.2.2.2.1
  have hp := X8_pairs hT hM (y := y) (by omega) (hr3.trans hPK.1) hPK.2.1 hPK.2.2.1
  have hp7 := X7_allPairs hT (y := y) (by omega) hPK.1
  have hPa1 := hPa.1
  have hKe1 := hKe.1
  have t1 := hTe.1
  have t2 : M0.1 21 = nI n := hTe.2.1
  have a1 := hA.1
  have a2 : M0.1 26 = nI q := hA.2.1
  have hU := hT.2.2.2.1
  have hL := hT.2.2.2.2.1
  have hTS := hT.1
  have hTN := hT.2.1
  have m2 := hM.1
  have m5 := hM.2.1
  have m00 := hM.2.2.2.1
  have m01 := hM.2.2.2.2.1
  unfold f_X7_count f_X8_count f_X7_countNow f_X8_count_9
  by_cases hin : ∃ c, c ≤ 13 ∧ v1 = nI c
  · obtain ⟨c, hc, rfl⟩ := hin
    have e13 : (13 : Int32) = nI 13 := rfl
    have e5 : (5 : Int32) = nI 5 := rfl
    rcases (show c = 0 ∨ c = 1 ∨ c = 2 ∨ c = 3 ∨ c = 4 ∨ c = 5 ∨ c = 6 ∨ c = 7 ∨ c = 8 ∨ c = 9 ∨ c = 10 ∨ c = 11 ∨ c = 12 ∨ c = 13 by omega) with rfl | rfl | rfl | rfl | rfl | rfl | rfl | rfl | rfl | rfl | rfl | rfl | rfl | rfl
    · exact ⟨nI U, by simp (disch := omega) only [↓pk_rem, nl_0, nl_1, nl_2, nl_3, nl_4, nl_6, nl_7, nl_8, nl_9, nl_10, nl_11, nl_12, nl_20, nl_23, nl_24, nl_26, nl_32, nl_39, nl_40, nl_44, nl_48, nl_57, nl_59, nl_60, nl_61, nl_64, nl_81, nl_82, nl_99, nl_100, nl_126, nl_200, nl_208, nl_286, nl_287, nl_290, nl_312, nl_999, nl_6561, nl_9999, nI_add, pk_mul, pk_div, pk_sub, ev_leT, ev_leF, ev_ltT, ev_ltF, ev_eqT, ev_eqF, nI_clamp, nle_T, nle_F, nlt_F, or_false, false_or, or_self, if_true, if_false, bnd_def, Option.bind_some, st1s, st1n, st2, st3, st4s, st4n, eq_self, tf_1, tf_2, b2iT, b2iF, b2iE, ob_1, ob_2, f_X7_cell_at, f_X7_setCell_at, in_0, wi_at, in_0_1, in_0_2, in_0_4, in_0_8, in_0_9, in_0_10, in_0_40, in_0_99, in_1_20, in_1_60, in_0_9999, in_m99_99, in_32_126, in_48_57, hU], by simp (disch := omega) only [↓pk_rem, nl_0, nl_1, nl_2, nl_3, nl_4, nl_6, nl_7, nl_8, nl_9, nl_10, nl_11, nl_12, nl_20, nl_23, nl_24, nl_26, nl_32, nl_39, nl_40, nl_44, nl_48, nl_57, nl_59, nl_60, nl_61, nl_64, nl_81, nl_82, nl_99, nl_100, nl_126, nl_200, nl_208, nl_286, nl_287, nl_290, nl_312, nl_999, nl_6561, nl_9999, nI_add, pk_mul, pk_div, pk_sub, ev_leT, ev_leF, ev_ltT, ev_ltF, ev_eqT, ev_eqF, nI_clamp, nle_T, nle_F, nlt_F, or_false, false_or, or_self, if_true, if_false, bnd_def, Option.bind_some, st1s, st1n, st2, st3, st4s, st4n, eq_self, tf_1, tf_2, b2iT, b2iF, b2iE, ob_1, ob_2, f_X7_cell_at, f_X7_setCell_at, in_0, wi_at, in_0_1, in_0_2, in_0_4, in_0_8, in_0_9, in_0_10, in_0_40, in_0_99, in_1_20, in_1_60, in_0_9999, in_m99_99, in_32_126, in_48_57, m00]⟩
    · exact ⟨nI L, by simp (disch := omega) only [↓pk_rem, nl_0, nl_1, nl_2, nl_3, nl_4, nl_6, nl_7, nl_8, nl_9, nl_10, nl_11, nl_12, nl_20, nl_23, nl_24, nl_26, nl_32, nl_39, nl_40, nl_44, nl_48, nl_57, nl_59, nl_60, nl_61, nl_64, nl_81, nl_82, nl_99, nl_100, nl_126, nl_200, nl_208, nl_286, nl_287, nl_290, nl_312, nl_999, nl_6561, nl_9999, nI_add, pk_mul, pk_div, pk_sub, ev_leT, ev_leF, ev_ltT, ev_ltF, ev_eqT, ev_eqF, nI_clamp, nle_T, nle_F, nlt_F, or_false, false_or, or_self, if_true, if_false, bnd_def, Option.bind_some, st1s, st1n, st2, st3, st4s, st4n, eq_self, tf_1, tf_2, b2iT, b2iF, b2iE, ob_1, ob_2, f_X7_cell_at, f_X7_setCell_at, in_0, wi_at, in_0_1, in_0_2, in_0_4, in_0_8, in_0_9, in_0_10, in_0_40, in_0_99, in_1_20, in_1_60, in_0_9999, in_m99_99, in_32_126, in_48_57, hL], by simp (disch := omega) only [↓pk_rem, nl_0, nl_1, nl_2, nl_3, nl_4, nl_6, nl_7, nl_8, nl_9, nl_10, nl_11, nl_12, nl_20, nl_23, nl_24, nl_26, nl_32, nl_39, nl_40, nl_44, nl_48, nl_57, nl_59, nl_60, nl_61, nl_64, nl_81, nl_82, nl_99, nl_100, nl_126, nl_200, nl_208, nl_286, nl_287, nl_290, nl_312, nl_999, nl_6561, nl_9999, nI_add, pk_mul, pk_div, pk_sub, ev_leT, ev_leF, ev_ltT, ev_ltF, ev_eqT, ev_eqF, nI_clamp, nle_T, nle_F, nlt_F, or_false, false_or, or_self, if_true, if_false, bnd_def, Option.bind_some, st1s, st1n, st2, st3, st4s, st4n, eq_self, tf_1, tf_2, b2iT, b2iF, b2iE, ob_1, ob_2, f_X7_cell_at, f_X7_setCell_at, in_0, wi_at, in_0_1, in_0_2, in_0_4, in_0_8, in_0_9, in_0_10, in_0_40, in_0_99, in_1_20, in_1_60, in_0_9999, in_m99_99, in_32_126, in_48_57, m01]⟩
    · exact ⟨nI S, by simp (disch := omega) only [↓pk_rem, nl_0, nl_1, nl_2, nl_3, nl_4, nl_6, nl_7, nl_8, nl_9, nl_10, nl_11, nl_12, nl_20, nl_23, nl_24, nl_26, nl_32, nl_39, nl_40, nl_44, nl_48, nl_57, nl_59, nl_60, nl_61, nl_64, nl_81, nl_82, nl_99, nl_100, nl_126, nl_200, nl_208, nl_286, nl_287, nl_290, nl_312, nl_999, nl_6561, nl_9999, nI_add, pk_mul, pk_div, pk_sub, ev_leT, ev_leF, ev_ltT, ev_ltF, ev_eqT, ev_eqF, nI_clamp, nle_T, nle_F, nlt_F, or_false, false_or, or_self, if_true, if_false, bnd_def, Option.bind_some, st1s, st1n, st2, st3, st4s, st4n, eq_self, tf_1, tf_2, b2iT, b2iF, b2iE, ob_1, ob_2, f_X7_cell_at, f_X7_setCell_at, in_0, wi_at, in_0_1, in_0_2, in_0_4, in_0_8, in_0_9, in_0_10, in_0_40, in_0_99, in_1_20, in_1_60, in_0_9999, in_m99_99, in_32_126, in_48_57, hTS], by simp (disch := omega) only [↓pk_rem, nl_0, nl_1, nl_2, nl_3, nl_4, nl_6, nl_7, nl_8, nl_9, nl_10, nl_11, nl_12, nl_20, nl_23, nl_24, nl_26, nl_32, nl_39, nl_40, nl_44, nl_48, nl_57, nl_59, nl_60, nl_61, nl_64, nl_81, nl_82, nl_99, nl_100, nl_126, nl_200, nl_208, nl_286, nl_287, nl_290, nl_312, nl_999, nl_6561, nl_9999, nI_add, pk_mul, pk_div, pk_sub, ev_leT, ev_leF, ev_ltT, ev_ltF, ev_eqT, ev_eqF, nI_clamp, nle_T, nle_F, nlt_F, or_false, false_or, or_self, if_true, if_false, bnd_def, Option.bind_some, st1s, st1n, st2, st3, st4s, st4n, eq_self, tf_1, tf_2, b2iT, b2iF, b2iE, ob_1, ob_2, f_X7_cell_at, f_X7_setCell_at, in_0, wi_at, in_0_1, in_0_2, in_0_4, in_0_8, in_0_9, in_0_10, in_0_40, in_0_99, in_1_20, in_1_60, in_0_9999, in_m99_99, in_32_126, in_48_57, m2]⟩
    · exact ⟨nI N, by simp (disch := omega) only [↓pk_rem, nl_0, nl_1, nl_2, nl_3, nl_4, nl_6, nl_7, nl_8, nl_9, nl_10, nl_11, nl_12, nl_20, nl_23, nl_24, nl_26, nl_32, nl_39, nl_40, nl_44, nl_48, nl_57, nl_59, nl_60, nl_61, nl_64, nl_81, nl_82, nl_99, nl_100, nl_126, nl_200, nl_208, nl_286, nl_287, nl_290, nl_312, nl_999, nl_6561, nl_9999, nI_add, pk_mul, pk_div, pk_sub, ev_leT, ev_leF, ev_ltT, ev_ltF, ev_eqT, ev_eqF, nI_clamp, nle_T, nle_F, nlt_F, or_false, false_or, or_self, if_true, if_false, bnd_def, Option.bind_some, st1s, st1n, st2, st3, st4s, st4n, eq_self, tf_1, tf_2, b2iT, b2iF, b2iE, ob_1, ob_2, f_X7_cell_at, f_X7_setCell_at, in_0, wi_at, in_0_1, in_0_2, in_0_4, in_0_8, in_0_9, in_0_10, in_0_40, in_0_99, in_1_20, in_1_60, in_0_9999, in_m99_99, in_32_126, in_48_57, hTN], by simp (disch := omega) only [↓pk_rem, nl_0, nl_1, nl_2, nl_3, nl_4, nl_6, nl_7, nl_8, nl_9, nl_10, nl_11, nl_12, nl_20, nl_23, nl_24, nl_26, nl_32, nl_39, nl_40, nl_44, nl_48, nl_57, nl_59, nl_60, nl_61, nl_64, nl_81, nl_82, nl_99, nl_100, nl_126, nl_200, nl_208, nl_286, nl_287, nl_290, nl_312, nl_999, nl_6561, nl_9999, nI_add, pk_mul, pk_div, pk_sub, ev_leT, ev_leF, ev_ltT, ev_ltF, ev_eqT, ev_eqF, nI_clamp, nle_T, nle_F, nlt_F, or_false, false_or, or_self, if_true, if_false, bnd_def, Option.bind_some, st1s, st1n, st2, st3, st4s, st4n, eq_self, tf_1, tf_2, b2iT, b2iF, b2iE, ob_1, ob_2, f_X7_cell_at, f_X7_setCell_at, in_0, wi_at, in_0_1, in_0_2, in_0_4, in_0_8, in_0_9, in_0_10, in_0_40, in_0_99, in_1_20, in_1_60, in_0_9999, in_m99_99, in_32_126, in_48_57, m5]⟩
    · exact ⟨No.1 3, by simp (disch := omega) only [↓pk_rem, nl_0, nl_1, nl_2, nl_3, nl_4, nl_6, nl_7, nl_8, nl_9, nl_10, nl_11, nl_12, nl_20, nl_23, nl_24, nl_26, nl_32, nl_39, nl_40, nl_44, nl_48, nl_57, nl_59, nl_60, nl_61, nl_64, nl_81, nl_82, nl_99, nl_100, nl_126, nl_200, nl_208, nl_286, nl_287, nl_290, nl_312, nl_999, nl_6561, nl_9999, nI_add, pk_mul, pk_div, pk_sub, ev_leT, ev_leF, ev_ltT, ev_ltF, ev_eqT, ev_eqF, nI_clamp, nle_T, nle_F, nlt_F, or_false, false_or, or_self, if_true, if_false, bnd_def, Option.bind_some, st1s, st1n, st2, st3, st4s, st4n, eq_self, tf_1, tf_2, b2iT, b2iF, b2iE, ob_1, ob_2, f_X7_cell_at, f_X7_setCell_at, in_0, wi_at, in_0_1, in_0_2, in_0_4, in_0_8, in_0_9, in_0_10, in_0_40, in_0_99, in_1_20, in_1_60, in_0_9999, in_m99_99, in_32_126, in_48_57, e5, e13], by simp (disch := omega) only [↓pk_rem, nl_0, nl_1, nl_2, nl_3, nl_4, nl_6, nl_7, nl_8, nl_9, nl_10, nl_11, nl_12, nl_20, nl_23, nl_24, nl_26, nl_32, nl_39, nl_40, nl_44, nl_48, nl_57, nl_59, nl_60, nl_61, nl_64, nl_81, nl_82, nl_99, nl_100, nl_126, nl_200, nl_208, nl_286, nl_287, nl_290, nl_312, nl_999, nl_6561, nl_9999, nI_add, pk_mul, pk_div, pk_sub, ev_leT, ev_leF, ev_ltT, ev_ltF, ev_eqT, ev_eqF, nI_clamp, nle_T, nle_F, nlt_F, or_false, false_or, or_self, if_true, if_false, bnd_def, Option.bind_some, st1s, st1n, st2, st3, st4s, st4n, eq_self, tf_1, tf_2, b2iT, b2iF, b2iE, ob_1, ob_2, f_X7_cell_at, f_X7_setCell_at, in_0, wi_at, in_0_1, in_0_2, in_0_4, in_0_8, in_0_9, in_0_10, in_0_40, in_0_99, in_1_20, in_1_60, in_0_9999, in_m99_99, in_32_126, in_48_57, e5, e13, hr3]⟩
    · exact ⟨No.1 0 + nI 40, by simp (disch := omega) only [↓pk_rem, nl_0, nl_1, nl_2, nl_3, nl_4, nl_6, nl_7, nl_8, nl_9, nl_10, nl_11, nl_12, nl_20, nl_23, nl_24, nl_26, nl_32, nl_39, nl_40, nl_44, nl_48, nl_57, nl_59, nl_60, nl_61, nl_64, nl_81, nl_82, nl_99, nl_100, nl_126, nl_200, nl_208, nl_286, nl_287, nl_290, nl_312, nl_999, nl_6561, nl_9999, nI_add, pk_mul, pk_div, pk_sub, ev_leT, ev_leF, ev_ltT, ev_ltF, ev_eqT, ev_eqF, nI_clamp, nle_T, nle_F, nlt_F, or_false, false_or, or_self, if_true, if_false, bnd_def, Option.bind_some, st1s, st1n, st2, st3, st4s, st4n, eq_self, tf_1, tf_2, b2iT, b2iF, b2iE, ob_1, ob_2, f_X7_cell_at, f_X7_setCell_at, in_0, wi_at, in_0_1, in_0_2, in_0_4, in_0_8, in_0_9, in_0_10, in_0_40, in_0_99, in_1_20, in_1_60, in_0_9999, in_m99_99, in_32_126, in_48_57, e5, e13], by simp (disch := omega) only [↓pk_rem, nl_0, nl_1, nl_2, nl_3, nl_4, nl_6, nl_7, nl_8, nl_9, nl_10, nl_11, nl_12, nl_20, nl_23, nl_24, nl_26, nl_32, nl_39, nl_40, nl_44, nl_48, nl_57, nl_59, nl_60, nl_61, nl_64, nl_81, nl_82, nl_99, nl_100, nl_126, nl_200, nl_208, nl_286, nl_287, nl_290, nl_312, nl_999, nl_6561, nl_9999, nI_add, pk_mul, pk_div, pk_sub, ev_leT, ev_leF, ev_ltT, ev_ltF, ev_eqT, ev_eqF, nI_clamp, nle_T, nle_F, nlt_F, or_false, false_or, or_self, if_true, if_false, bnd_def, Option.bind_some, st1s, st1n, st2, st3, st4s, st4n, eq_self, tf_1, tf_2, b2iT, b2iF, b2iE, ob_1, ob_2, f_X7_cell_at, f_X7_setCell_at, in_0, wi_at, in_0_1, in_0_2, in_0_4, in_0_8, in_0_9, in_0_10, in_0_40, in_0_99, in_1_20, in_1_60, in_0_9999, in_m99_99, in_32_126, in_48_57, e5, e13, hr0]⟩
    · exact ⟨No.1 1 + nI 40, by simp (disch := omega) only [↓pk_rem, nl_0, nl_1, nl_2, nl_3, nl_4, nl_6, nl_7, nl_8, nl_9, nl_10, nl_11, nl_12, nl_20, nl_23, nl_24, nl_26, nl_32, nl_39, nl_40, nl_44, nl_48, nl_57, nl_59, nl_60, nl_61, nl_64, nl_81, nl_82, nl_99, nl_100, nl_126, nl_200, nl_208, nl_286, nl_287, nl_290, nl_312, nl_999, nl_6561, nl_9999, nI_add, pk_mul, pk_div, pk_sub, ev_leT, ev_leF, ev_ltT, ev_ltF, ev_eqT, ev_eqF, nI_clamp, nle_T, nle_F, nlt_F, or_false, false_or, or_self, if_true, if_false, bnd_def, Option.bind_some, st1s, st1n, st2, st3, st4s, st4n, eq_self, tf_1, tf_2, b2iT, b2iF, b2iE, ob_1, ob_2, f_X7_cell_at, f_X7_setCell_at, in_0, wi_at, in_0_1, in_0_2, in_0_4, in_0_8, in_0_9, in_0_10, in_0_40, in_0_99, in_1_20, in_1_60, in_0_9999, in_m99_99, in_32_126, in_48_57, e5, e13], by simp (disch := omega) only [↓pk_rem, nl_0, nl_1, nl_2, nl_3, nl_4, nl_6, nl_7, nl_8, nl_9, nl_10, nl_11, nl_12, nl_20, nl_23, nl_24, nl_26, nl_32, nl_39, nl_40, nl_44, nl_48, nl_57, nl_59, nl_60, nl_61, nl_64, nl_81, nl_82, nl_99, nl_100, nl_126, nl_200, nl_208, nl_286, nl_287, nl_290, nl_312, nl_999, nl_6561, nl_9999, nI_add, pk_mul, pk_div, pk_sub, ev_leT, ev_leF, ev_ltT, ev_ltF, ev_eqT, ev_eqF, nI_clamp, nle_T, nle_F, nlt_F, or_false, false_or, or_self, if_true, if_false, bnd_def, Option.bind_some, st1s, st1n, st2, st3, st4s, st4n, eq_self, tf_1, tf_2, b2iT, b2iF, b2iE, ob_1, ob_2, f_X7_cell_at, f_X7_setCell_at, in_0, wi_at, in_0_1, in_0_2, in_0_4, in_0_8, in_0_9, in_0_10, in_0_40, in_0_99, in_1_20, in_1_60, in_0_9999, in_m99_99, in_32_126, in_48_57, e5, e13, hr1]⟩
    · exact ⟨No.1 2, by simp (disch := omega) only [↓pk_rem, nl_0, nl_1, nl_2, nl_3, nl_4, nl_6, nl_7, nl_8, nl_9, nl_10, nl_11, nl_12, nl_20, nl_23, nl_24, nl_26, nl_32, nl_39, nl_40, nl_44, nl_48, nl_57, nl_59, nl_60, nl_61, nl_64, nl_81, nl_82, nl_99, nl_100, nl_126, nl_200, nl_208, nl_286, nl_287, nl_290, nl_312, nl_999, nl_6561, nl_9999, nI_add, pk_mul, pk_div, pk_sub, ev_leT, ev_leF, ev_ltT, ev_ltF, ev_eqT, ev_eqF, nI_clamp, nle_T, nle_F, nlt_F, or_false, false_or, or_self, if_true, if_false, bnd_def, Option.bind_some, st1s, st1n, st2, st3, st4s, st4n, eq_self, tf_1, tf_2, b2iT, b2iF, b2iE, ob_1, ob_2, f_X7_cell_at, f_X7_setCell_at, in_0, wi_at, in_0_1, in_0_2, in_0_4, in_0_8, in_0_9, in_0_10, in_0_40, in_0_99, in_1_20, in_1_60, in_0_9999, in_m99_99, in_32_126, in_48_57, e5, e13], by simp (disch := omega) only [↓pk_rem, nl_0, nl_1, nl_2, nl_3, nl_4, nl_6, nl_7, nl_8, nl_9, nl_10, nl_11, nl_12, nl_20, nl_23, nl_24, nl_26, nl_32, nl_39, nl_40, nl_44, nl_48, nl_57, nl_59, nl_60, nl_61, nl_64, nl_81, nl_82, nl_99, nl_100, nl_126, nl_200, nl_208, nl_286, nl_287, nl_290, nl_312, nl_999, nl_6561, nl_9999, nI_add, pk_mul, pk_div, pk_sub, ev_leT, ev_leF, ev_ltT, ev_ltF, ev_eqT, ev_eqF, nI_clamp, nle_T, nle_F, nlt_F, or_false, false_or, or_self, if_true, if_false, bnd_def, Option.bind_some, st1s, st1n, st2, st3, st4s, st4n, eq_self, tf_1, tf_2, b2iT, b2iF, b2iE, ob_1, ob_2, f_X7_cell_at, f_X7_setCell_at, in_0, wi_at, in_0_1, in_0_2, in_0_4, in_0_8, in_0_9, in_0_10, in_0_40, in_0_99, in_1_20, in_1_60, in_0_9999, in_m99_99, in_32_126, in_48_57, e5, e13, hr2]⟩
    · exact ⟨f_J6_bitCount_0f7a4 (No.1 4), by simp (disch := omega) only [↓pk_rem, nl_0, nl_1, nl_2, nl_3, nl_4, nl_6, nl_7, nl_8, nl_9, nl_10, nl_11, nl_12, nl_20, nl_23, nl_24, nl_26, nl_32, nl_39, nl_40, nl_44, nl_48, nl_57, nl_59, nl_60, nl_61, nl_64, nl_81, nl_82, nl_99, nl_100, nl_126, nl_200, nl_208, nl_286, nl_287, nl_290, nl_312, nl_999, nl_6561, nl_9999, nI_add, pk_mul, pk_div, pk_sub, ev_leT, ev_leF, ev_ltT, ev_ltF, ev_eqT, ev_eqF, nI_clamp, nle_T, nle_F, nlt_F, or_false, false_or, or_self, if_true, if_false, bnd_def, Option.bind_some, st1s, st1n, st2, st3, st4s, st4n, eq_self, tf_1, tf_2, b2iT, b2iF, b2iE, ob_1, ob_2, f_X7_cell_at, f_X7_setCell_at, in_0, wi_at, in_0_1, in_0_2, in_0_4, in_0_8, in_0_9, in_0_10, in_0_40, in_0_99, in_1_20, in_1_60, in_0_9999, in_m99_99, in_32_126, in_48_57, e5, e13], by simp (disch := omega) only [↓pk_rem, nl_0, nl_1, nl_2, nl_3, nl_4, nl_6, nl_7, nl_8, nl_9, nl_10, nl_11, nl_12, nl_20, nl_23, nl_24, nl_26, nl_32, nl_39, nl_40, nl_44, nl_48, nl_57, nl_59, nl_60, nl_61, nl_64, nl_81, nl_82, nl_99, nl_100, nl_126, nl_200, nl_208, nl_286, nl_287, nl_290, nl_312, nl_999, nl_6561, nl_9999, nI_add, pk_mul, pk_div, pk_sub, ev_leT, ev_leF, ev_ltT, ev_ltF, ev_eqT, ev_eqF, nI_clamp, nle_T, nle_F, nlt_F, or_false, false_or, or_self, if_true, if_false, bnd_def, Option.bind_some, st1s, st1n, st2, st3, st4s, st4n, eq_self, tf_1, tf_2, b2iT, b2iF, b2iE, ob_1, ob_2, f_X7_cell_at, f_X7_setCell_at, in_0, wi_at, in_0_1, in_0_2, in_0_4, in_0_8, in_0_9, in_0_10, in_0_40, in_0_99, in_1_20, in_1_60, in_0_9999, in_m99_99, in_32_126, in_48_57, e5, e13, hw]⟩
    · exact ⟨s_pairs To S D y (No.1 0) (No.1 1), by simp (disch := omega) only [↓pk_rem, nl_0, nl_1, nl_2, nl_3, nl_4, nl_6, nl_7, nl_8, nl_9, nl_10, nl_11, nl_12, nl_20, nl_23, nl_24, nl_26, nl_32, nl_39, nl_40, nl_44, nl_48, nl_57, nl_59, nl_60, nl_61, nl_64, nl_81, nl_82, nl_99, nl_100, nl_126, nl_200, nl_208, nl_286, nl_287, nl_290, nl_312, nl_999, nl_6561, nl_9999, nI_add, pk_mul, pk_div, pk_sub, ev_leT, ev_leF, ev_ltT, ev_ltF, ev_eqT, ev_eqF, nI_clamp, nle_T, nle_F, nlt_F, or_false, false_or, or_self, if_true, if_false, bnd_def, Option.bind_some, st1s, st1n, st2, st3, st4s, st4n, eq_self, tf_1, tf_2, b2iT, b2iF, b2iE, ob_1, ob_2, f_X7_cell_at, f_X7_setCell_at, in_0, wi_at, in_0_1, in_0_2, in_0_4, in_0_8, in_0_9, in_0_10, in_0_40, in_0_99, in_1_20, in_1_60, in_0_9999, in_m99_99, in_32_126, in_48_57, e5, e13, hp7], by simp (disch := omega) only [↓pk_rem, nl_0, nl_1, nl_2, nl_3, nl_4, nl_6, nl_7, nl_8, nl_9, nl_10, nl_11, nl_12, nl_20, nl_23, nl_24, nl_26, nl_32, nl_39, nl_40, nl_44, nl_48, nl_57, nl_59, nl_60, nl_61, nl_64, nl_81, nl_82, nl_99, nl_100, nl_126, nl_200, nl_208, nl_286, nl_287, nl_290, nl_312, nl_999, nl_6561, nl_9999, nI_add, pk_mul, pk_div, pk_sub, ev_leT, ev_leF, ev_ltT, ev_ltF, ev_eqT, ev_eqF, nI_clamp, nle_T, nle_F, nlt_F, or_false, false_or, or_self, if_true, if_false, bnd_def, Option.bind_some, st1s, st1n, st2, st3, st4s, st4n, eq_self, tf_1, tf_2, b2iT, b2iF, b2iE, ob_1, ob_2, f_X7_cell_at, f_X7_setCell_at, in_0, wi_at, in_0_1, in_0_2, in_0_4, in_0_8, in_0_9, in_0_10, in_0_40, in_0_99, in_1_20, in_1_60, in_0_9999, in_m99_99, in_32_126, in_48_57, e5, e13, hr0, hr1, hp]⟩
    · exact ⟨nI q, by simp (disch := omega) only [↓pk_rem, nl_0, nl_1, nl_2, nl_3, nl_4, nl_6, nl_7, nl_8, nl_9, nl_10, nl_11, nl_12, nl_20, nl_23, nl_24, nl_26, nl_32, nl_39, nl_40, nl_44, nl_48, nl_57, nl_59, nl_60, nl_61, nl_64, nl_81, nl_82, nl_99, nl_100, nl_126, nl_200, nl_208, nl_286, nl_287, nl_290, nl_312, nl_999, nl_6561, nl_9999, nI_add, pk_mul, pk_div, pk_sub, ev_leT, ev_leF, ev_ltT, ev_ltF, ev_eqT, ev_eqF, nI_clamp, nle_T, nle_F, nlt_F, or_false, false_or, or_self, if_true, if_false, bnd_def, Option.bind_some, st1s, st1n, st2, st3, st4s, st4n, eq_self, tf_1, tf_2, b2iT, b2iF, b2iE, ob_1, ob_2, f_X7_cell_at, f_X7_setCell_at, in_0, wi_at, in_0_1, in_0_2, in_0_4, in_0_8, in_0_9, in_0_10, in_0_40, in_0_99, in_1_20, in_1_60, in_0_9999, in_m99_99, in_32_126, in_48_57, e5, e13, a1], by simp (disch := omega) only [↓pk_rem, nl_0, nl_1, nl_2, nl_3, nl_4, nl_6, nl_7, nl_8, nl_9, nl_10, nl_11, nl_12, nl_20, nl_23, nl_24, nl_26, nl_32, nl_39, nl_40, nl_44, nl_48, nl_57, nl_59, nl_60, nl_61, nl_64, nl_81, nl_82, nl_99, nl_100, nl_126, nl_200, nl_208, nl_286, nl_287, nl_290, nl_312, nl_999, nl_6561, nl_9999, nI_add, pk_mul, pk_div, pk_sub, ev_leT, ev_leF, ev_ltT, ev_ltF, ev_eqT, ev_eqF, nI_clamp, nle_T, nle_F, nlt_F, or_false, false_or, or_self, if_true, if_false, bnd_def, Option.bind_some, st1s, st1n, st2, st3, st4s, st4n, eq_self, tf_1, tf_2, b2iT, b2iF, b2iE, ob_1, ob_2, f_X7_cell_at, f_X7_setCell_at, in_0, wi_at, in_0_1, in_0_2, in_0_4, in_0_8, in_0_9, in_0_10, in_0_40, in_0_99, in_1_20, in_1_60, in_0_9999, in_m99_99, in_32_126, in_48_57, e5, e13, a2]⟩
    · exact ⟨nI a, by simp (disch := omega) only [↓pk_rem, nl_0, nl_1, nl_2, nl_3, nl_4, nl_6, nl_7, nl_8, nl_9, nl_10, nl_11, nl_12, nl_20, nl_23, nl_24, nl_26, nl_32, nl_39, nl_40, nl_44, nl_48, nl_57, nl_59, nl_60, nl_61, nl_64, nl_81, nl_82, nl_99, nl_100, nl_126, nl_200, nl_208, nl_286, nl_287, nl_290, nl_312, nl_999, nl_6561, nl_9999, nI_add, pk_mul, pk_div, pk_sub, ev_leT, ev_leF, ev_ltT, ev_ltF, ev_eqT, ev_eqF, nI_clamp, nle_T, nle_F, nlt_F, or_false, false_or, or_self, if_true, if_false, bnd_def, Option.bind_some, st1s, st1n, st2, st3, st4s, st4n, eq_self, tf_1, tf_2, b2iT, b2iF, b2iE, ob_1, ob_2, f_X7_cell_at, f_X7_setCell_at, in_0, wi_at, in_0_1, in_0_2, in_0_4, in_0_8, in_0_9, in_0_10, in_0_40, in_0_99, in_1_20, in_1_60, in_0_9999, in_m99_99, in_32_126, in_48_57, e5, e13, hPa1], by simp (disch := omega) only [↓pk_rem, nl_0, nl_1, nl_2, nl_3, nl_4, nl_6, nl_7, nl_8, nl_9, nl_10, nl_11, nl_12, nl_20, nl_23, nl_24, nl_26, nl_32, nl_39, nl_40, nl_44, nl_48, nl_57, nl_59, nl_60, nl_61, nl_64, nl_81, nl_82, nl_99, nl_100, nl_126, nl_200, nl_208, nl_286, nl_287, nl_290, nl_312, nl_999, nl_6561, nl_9999, nI_add, pk_mul, pk_div, pk_sub, ev_leT, ev_leF, ev_ltT, ev_ltF, ev_eqT, ev_eqF, nI_clamp, nle_T, nle_F, nlt_F, or_false, false_or, or_self, if_true, if_false, bnd_def, Option.bind_some, st1s, st1n, st2, st3, st4s, st4n, eq_self, tf_1, tf_2, b2iT, b2iF, b2iE, ob_1, ob_2, f_X7_cell_at, f_X7_setCell_at, in_0, wi_at, in_0_1, in_0_2, in_0_4, in_0_8, in_0_9, in_0_10, in_0_40, in_0_99, in_1_20, in_1_60, in_0_9999, in_m99_99, in_32_126, in_48_57, e5, e13, ha]⟩
    · exact ⟨nI k, by simp (disch := omega) only [↓pk_rem, nl_0, nl_1, nl_2, nl_3, nl_4, nl_6, nl_7, nl_8, nl_9, nl_10, nl_11, nl_12, nl_20, nl_23, nl_24, nl_26, nl_32, nl_39, nl_40, nl_44, nl_48, nl_57, nl_59, nl_60, nl_61, nl_64, nl_81, nl_82, nl_99, nl_100, nl_126, nl_200, nl_208, nl_286, nl_287, nl_290, nl_312, nl_999, nl_6561, nl_9999, nI_add, pk_mul, pk_div, pk_sub, ev_leT, ev_leF, ev_ltT, ev_ltF, ev_eqT, ev_eqF, nI_clamp, nle_T, nle_F, nlt_F, or_false, false_or, or_self, if_true, if_false, bnd_def, Option.bind_some, st1s, st1n, st2, st3, st4s, st4n, eq_self, tf_1, tf_2, b2iT, b2iF, b2iE, ob_1, ob_2, f_X7_cell_at, f_X7_setCell_at, in_0, wi_at, in_0_1, in_0_2, in_0_4, in_0_8, in_0_9, in_0_10, in_0_40, in_0_99, in_1_20, in_1_60, in_0_9999, in_m99_99, in_32_126, in_48_57, e5, e13, hKe1], by simp (disch := omega) only [↓pk_rem, nl_0, nl_1, nl_2, nl_3, nl_4, nl_6, nl_7, nl_8, nl_9, nl_10, nl_11, nl_12, nl_20, nl_23, nl_24, nl_26, nl_32, nl_39, nl_40, nl_44, nl_48, nl_57, nl_59, nl_60, nl_61, nl_64, nl_81, nl_82, nl_99, nl_100, nl_126, nl_200, nl_208, nl_286, nl_287, nl_290, nl_312, nl_999, nl_6561, nl_9999, nI_add, pk_mul, pk_div, pk_sub, ev_leT, ev_leF, ev_ltT, ev_ltF, ev_eqT, ev_eqF, nI_clamp, nle_T, nle_F, nlt_F, or_false, false_or, or_self, if_true, if_false, bnd_def, Option.bind_some, st1s, st1n, st2, st3, st4s, st4n, eq_self, tf_1, tf_2, b2iT, b2iF, b2iE, ob_1, ob_2, f_X7_cell_at, f_X7_setCell_at, in_0, wi_at, in_0_1, in_0_2, in_0_4, in_0_8, in_0_9, in_0_10, in_0_40, in_0_99, in_1_20, in_1_60, in_0_9999, in_m99_99, in_32_126, in_48_57, e5, e13, hk]⟩
    · exact ⟨nI n, by simp (disch := omega) only [↓pk_rem, nl_0, nl_1, nl_2, nl_3, nl_4, nl_6, nl_7, nl_8, nl_9, nl_10, nl_11, nl_12, nl_20, nl_23, nl_24, nl_26, nl_32, nl_39, nl_40, nl_44, nl_48, nl_57, nl_59, nl_60, nl_61, nl_64, nl_81, nl_82, nl_99, nl_100, nl_126, nl_200, nl_208, nl_286, nl_287, nl_290, nl_312, nl_999, nl_6561, nl_9999, nI_add, pk_mul, pk_div, pk_sub, ev_leT, ev_leF, ev_ltT, ev_ltF, ev_eqT, ev_eqF, nI_clamp, nle_T, nle_F, nlt_F, or_false, false_or, or_self, if_true, if_false, bnd_def, Option.bind_some, st1s, st1n, st2, st3, st4s, st4n, eq_self, tf_1, tf_2, b2iT, b2iF, b2iE, ob_1, ob_2, f_X7_cell_at, f_X7_setCell_at, in_0, wi_at, in_0_1, in_0_2, in_0_4, in_0_8, in_0_9, in_0_10, in_0_40, in_0_99, in_1_20, in_1_60, in_0_9999, in_m99_99, in_32_126, in_48_57, e5, e13, t1], by simp (disch := omega) only [↓pk_rem, nl_0, nl_1, nl_2, nl_3, nl_4, nl_6, nl_7, nl_8, nl_9, nl_10, nl_11, nl_12, nl_20, nl_23, nl_24, nl_26, nl_32, nl_39, nl_40, nl_44, nl_48, nl_57, nl_59, nl_60, nl_61, nl_64, nl_81, nl_82, nl_99, nl_100, nl_126, nl_200, nl_208, nl_286, nl_287, nl_290, nl_312, nl_999, nl_6561, nl_9999, nI_add, pk_mul, pk_div, pk_sub, ev_leT, ev_leF, ev_ltT, ev_ltF, ev_eqT, ev_eqF, nI_clamp, nle_T, nle_F, nlt_F, or_false, false_or, or_self, if_true, if_false, bnd_def, Option.bind_some, st1s, st1n, st2, st3, st4s, st4n, eq_self, tf_1, tf_2, b2iT, b2iF, b2iE, ob_1, ob_2, f_X7_cell_at, f_X7_setCell_at, in_0, wi_at, in_0_1, in_0_2, in_0_4, in_0_8, in_0_9, in_0_10, in_0_40, in_0_99, in_1_20, in_1_60, in_0_9999, in_m99_99, in_32_126, in_48_57, e5, e13, t2]⟩
  · have hne : ∀ j, j ≤ 13 → ¬ v1 = nI j := fun j hj e => hin ⟨j, hj, e⟩
    have e0 : ¬ v1 = 0 := hne 0 (by omega)
    have e1 : ¬ v1 = 1 := hne 1 (by omega)
    have e2 : ¬ v1 = 2 := hne 2 (by omega)
    have e3 : ¬ v1 = 3 := hne 3 (by omega)
    have e4 : ¬ v1 = 4 := hne 4 (by omega)
    have e5 : ¬ v1 = 5 := hne 5 (by omega)
    have e6 : ¬ v1 = 6 := hne 6 (by omega)
    have e7 : ¬ v1 = 7 := hne 7 (by omega)
    have e8 : ¬ v1 = 8 := hne 8 (by omega)
    have e9 : ¬ v1 = 9 := hne 9 (by omega)
    have e10 : ¬ v1 = 10 := hne 10 (by omega)
    have e11 : ¬ v1 = 11 := hne 11 (by omega)
    have e12 : ¬ v1 = 12 := hne 12 (by omega)
    have e13 : ¬ v1 = 13 := hne 13 (by omega)
    refine ⟨-1, ?_, ?_⟩
    · simp only [e0, e1, e2, e3, e4, e5, e6, e7, e8, e9, e10, e11, e12, e13, if_false, Option.bind_some]
    · simp only [e0, e1, e2, e3, e4, e5, e6, e7, e8, e9, e10, e11, e12, e13, if_false]
/-! the line -/
def fst1 (p : Nat → Bool) : Nat → Option Nat
  | 0 => none
  | n + 1 => match fst1 p n with
    | some k => some k
    | none => if p n = true then some n else none
theorem fst1_step {p : Nat → Bool} {i : Nat} (h : fst1 p i = none) (h2 : ¬ p i = true) : fst1 p (i + 1) = none := by
  rw [fst1, h]
  exact if_neg h2
theorem fst1_keep {p : Nat → Bool} {k : Nat} : ∀ (n i : Nat), fst1 p i = some k → fst1 p (i + n) = some k
  | 0, _, h => h
  | n + 1, i, h => by
    rw [show i + (n + 1) = (i + n) + 1 by omega, fst1, fst1_keep n i h]
theorem fst1_hit {p : Nat → Bool} {i n : Nat} (h : fst1 p i = none) (h2 : p i = true) (hn : i < n) : fst1 p n = some i := by
  have h3 : fst1 p (i + 1) = some i := by
    rw [fst1, h]
    exact if_pos h2
  have := fst1_keep (n - (i + 1)) (i + 1) h3
  rw [show i + 1 + (n - (i + 1)) = n by omega] at this
  exact this
theorem fst1_some {p : Nat → Bool} {k : Nat} : ∀ {n : Nat}, fst1 p n = some k → k < n ∧ p k = true
  | 0, h => by cases h
  | n + 1, h => by
    rw [fst1] at h
    cases h2 : fst1 p n with
    | some j =>
      rw [h2] at h
      cases h
      have := fst1_some h2
      exact ⟨by omega, this.2⟩
    | none =>
      rw [h2] at h
      by_cases h3 : p n = true
      · have h4 : (if p n = true then some n else none) = some k := h
        rw [if_pos h3] at h4
        cases h4
        exact ⟨by omega, h3⟩
      · have h4 : (if p n = true then some n else none) = some k := h
        rw [if_neg h3] at h4
        cases h4
theorem fst1_cong {p q : Nat → Bool} : ∀ {n : Nat}, (∀ k, k < n → p k = q k) → fst1 p n = fst1 q n
  | 0, _ => rfl
  | n + 1, h => by rw [fst1, fst1, fst1_cong (fun k hk => h k (by omega)), h n (by omega)]
/-- one of the land l, not wed, at x -/
def uwl (T : Ob) (W l : Nat) (x : Int32) (k : Nat) : Bool := decide (T.2 0 (6 * l + k) = x) && !W.testBit (6 * l + k)
def uws (T : Ob) (D y : Nat) (sh ah : Int32) (W : Nat) (x : Int32) (s : Nat) : Bool := decide (pl T D y s sh ah = x) && !W.testBit (12 + s)
def bitI (o : Nat) : Option Nat → Int32
  | some k => nI (2 ^ (o + k))
  | none => nI 0
def numI : Option Nat → Int32
  | some k => nI k
  | none => -nI 4
theorem X7_unwedOfLand {P T : Ob} {W l C : Nat} (hl : l < 2) (hC : C ≤ 6) (hc : T.2 1 l = nI C) (hw : P.1 4 = nI W) (hW : W < 2 ^ 19) (x : Int32) : f_X5_unwedOfLand P T (nI l) x = some (bitI (6 * l) (fst1 (uwl T W l x) C)) := by
  refine loopP (fun t i (_ : Unit) => f_X5_unwedOfLand_3 P T (nI l) x t (nI i)) 0 C (by omega) (by omega) (fun i _ => fst1 (uwl T W l x) i = none) (fun o => o = some (bitI (6 * l) (fst1 (uwl T W l x) C))) () rfl
    (fun t _ h => by
      show f_X5_unwedOfLand_3 P T (nI l) x (t + 1) (nI C) = _
      rw [f_X5_unwedOfLand_3, h]
      simp (disch := omega) only [↓pk_rem, nl_0, nl_1, nl_2, nl_3, nl_4, nl_6, nl_7, nl_8, nl_9, nl_10, nl_11, nl_12, nl_20, nl_23, nl_24, nl_26, nl_32, nl_39, nl_40, nl_44, nl_48, nl_57, nl_59, nl_60, nl_61, nl_64, nl_81, nl_82, nl_99, nl_100, nl_126, nl_200, nl_208, nl_286, nl_287, nl_290, nl_312, nl_999, nl_6561, nl_9999, nI_add, pk_mul, pk_div, pk_sub, ev_leT, ev_leF, ev_ltT, ev_ltF, ev_eqT, ev_eqF, nI_clamp, nle_T, nle_F, nlt_F, or_false, false_or, or_self, if_true, if_false, bnd_def, Option.bind_some, st1s, st1n, st2, st3, st4s, st4n, eq_self, tf_1, tf_2, b2iT, b2iF, b2iE, ob_1, ob_2, f_X7_cell_at, f_X7_setCell_at, in_0, wi_at, in_0_1, in_0_2, in_0_4, in_0_8, in_0_9, in_0_10, in_0_40, in_0_99, in_1_20, in_1_60, in_0_9999, in_m99_99, in_32_126, in_48_57, hc]
      rfl)
    (fun t i _ hi h => ?_)
  have e1 : l * 6 + i = 6 * l + i := by omega
  by_cases hp : uwl T W l x i = true
  · left
    show f_X5_unwedOfLand_3 P T (nI l) x (t + 1) (nI i) = _
    rw [fst1_hit h hp hi, f_X5_unwedOfLand_3]
    unfold f_X7_oneOf f_X5_unwedOfLand_54
    unfold uwl at hp
    simp only [Bool.and_eq_true, decide_eq_true_eq, Bool.not_eq_true'] at hp
    simp (disch := omega) only [↓pk_rem, nl_0, nl_1, nl_2, nl_3, nl_4, nl_6, nl_7, nl_8, nl_9, nl_10, nl_11, nl_12, nl_20, nl_23, nl_24, nl_26, nl_32, nl_39, nl_40, nl_44, nl_48, nl_57, nl_59, nl_60, nl_61, nl_64, nl_81, nl_82, nl_99, nl_100, nl_126, nl_200, nl_208, nl_286, nl_287, nl_290, nl_312, nl_999, nl_6561, nl_9999, nI_add, pk_mul, pk_div, pk_sub, ev_leT, ev_leF, ev_ltT, ev_ltF, ev_eqT, ev_eqF, nI_clamp, nle_T, nle_F, nlt_F, or_false, false_or, or_self, if_true, if_false, bnd_def, Option.bind_some, st1s, st1n, st2, st3, st4s, st4n, eq_self, tf_1, tf_2, b2iT, b2iF, b2iE, ob_1, ob_2, f_X7_cell_at, f_X7_setCell_at, in_0, wi_at, in_0_1, in_0_2, in_0_4, in_0_8, in_0_9, in_0_10, in_0_40, in_0_99, in_1_20, in_1_60, in_0_9999, in_m99_99, in_32_126, in_48_57, hc, e1, hp.1, hw, bitOf_at, hp.2, bb_oneN]
    rfl
  · right
    refine ⟨(), ?_, fst1_step h hp⟩
    show f_X5_unwedOfLand_3 P T (nI l) x (t + 1) (nI i) = f_X5_unwedOfLand_3 P T (nI l) x t (nI (i + 1))
    rw [f_X5_unwedOfLand_3]
    unfold f_X7_oneOf f_X5_unwedOfLand_54
    by_cases h1 : T.2 0 (6 * l + i) = x
    · have h2 : W.testBit (6 * l + i) = true := by
        cases hb : W.testBit (6 * l + i) with
        | true => rfl
        | false =>
          unfold uwl at hp
          rw [hb] at hp
          simp [h1] at hp
      simp (disch := omega) only [↓pk_rem, nl_0, nl_1, nl_2, nl_3, nl_4, nl_6, nl_7, nl_8, nl_9, nl_10, nl_11, nl_12, nl_20, nl_23, nl_24, nl_26, nl_32, nl_39, nl_40, nl_44, nl_48, nl_57, nl_59, nl_60, nl_61, nl_64, nl_81, nl_82, nl_99, nl_100, nl_126, nl_200, nl_208, nl_286, nl_287, nl_290, nl_312, nl_999, nl_6561, nl_9999, nI_add, pk_mul, pk_div, pk_sub, ev_leT, ev_leF, ev_ltT, ev_ltF, ev_eqT, ev_eqF, nI_clamp, nle_T, nle_F, nlt_F, or_false, false_or, or_self, if_true, if_false, bnd_def, Option.bind_some, st1s, st1n, st2, st3, st4s, st4n, eq_self, tf_1, tf_2, b2iT, b2iF, b2iE, ob_1, ob_2, f_X7_cell_at, f_X7_setCell_at, in_0, wi_at, in_0_1, in_0_2, in_0_4, in_0_8, in_0_9, in_0_10, in_0_40, in_0_99, in_1_20, in_1_60, in_0_9999, in_m99_99, in_32_126, in_48_57, hc, e1, h1, hw, bitOf_at, h2, bb_oneN]
    · simp (disch := omega) only [↓pk_rem, nl_0, nl_1, nl_2, nl_3, nl_4, nl_6, nl_7, nl_8, nl_9, nl_10, nl_11, nl_12, nl_20, nl_23, nl_24, nl_26, nl_32, nl_39, nl_40, nl_44, nl_48, nl_57, nl_59, nl_60, nl_61, nl_64, nl_81, nl_82, nl_99, nl_100, nl_126, nl_200, nl_208, nl_286, nl_287, nl_290, nl_312, nl_999, nl_6561, nl_9999, nI_add, pk_mul, pk_div, pk_sub, ev_leT, ev_leF, ev_ltT, ev_ltF, ev_eqT, ev_eqF, nI_clamp, nle_T, nle_F, nlt_F, or_false, false_or, or_self, if_true, if_false, bnd_def, Option.bind_some, st1s, st1n, st2, st3, st4s, st4n, eq_self, tf_1, tf_2, b2iT, b2iF, b2iE, ob_1, ob_2, f_X7_cell_at, f_X7_setCell_at, in_0, wi_at, in_0_1, in_0_2, in_0_4, in_0_8, in_0_9, in_0_10, in_0_40, in_0_99, in_1_20, in_1_60, in_0_9999, in_m99_99, in_32_126, in_48_57, hc, e1, h1]
theorem X7_unwedOfStrip {P T : Ob} {W S U L N D y : Nat} (hT : TK T S U L N D) (hy : y < 2 ^ 31) (hP : P.1 3 = nI y) (hw : P.1 4 = nI W) (hW : W < 2 ^ 19) (x : Int32) : f_X5_unwedOfStrip P T x = some (bitI 12 (fst1 (uws T D y (P.1 0) (P.1 1) W x) S)) := by
  have hS := hT.1
  have lS := hT.2.2.2.2.2.1
  refine loopP (fun t i (_ : Unit) => f_X5_unwedOfStrip_2 P T x t (nI i)) 0 S (by omega) (by omega) (fun i _ => fst1 (uws T D y (P.1 0) (P.1 1) W x) i = none) (fun o => o = some (bitI 12 (fst1 (uws T D y (P.1 0) (P.1 1) W x) S))) () rfl
    (fun t _ h => by
      show f_X5_unwedOfStrip_2 P T x (t + 1) (nI S) = _
      rw [f_X5_unwedOfStrip_2, h]
      simp (disch := omega) only [↓pk_rem, nl_0, nl_1, nl_2, nl_3, nl_4, nl_6, nl_7, nl_8, nl_9, nl_10, nl_11, nl_12, nl_20, nl_23, nl_24, nl_26, nl_32, nl_39, nl_40, nl_44, nl_48, nl_57, nl_59, nl_60, nl_61, nl_64, nl_81, nl_82, nl_99, nl_100, nl_126, nl_200, nl_208, nl_286, nl_287, nl_290, nl_312, nl_999, nl_6561, nl_9999, nI_add, pk_mul, pk_div, pk_sub, ev_leT, ev_leF, ev_ltT, ev_ltF, ev_eqT, ev_eqF, nI_clamp, nle_T, nle_F, nlt_F, or_false, false_or, or_self, if_true, if_false, bnd_def, Option.bind_some, st1s, st1n, st2, st3, st4s, st4n, eq_self, tf_1, tf_2, b2iT, b2iF, b2iE, ob_1, ob_2, f_X7_cell_at, f_X7_setCell_at, in_0, wi_at, in_0_1, in_0_2, in_0_4, in_0_8, in_0_9, in_0_10, in_0_40, in_0_99, in_1_20, in_1_60, in_0_9999, in_m99_99, in_32_126, in_48_57, hS]
      rfl)
    (fun t i _ hi h => ?_)
  have hpl := X7_placeOf (P := P) hT hy hP (show i < 7 by omega)
  by_cases hp : uws T D y (P.1 0) (P.1 1) W x i = true
  · left
    show f_X5_unwedOfStrip_2 P T x (t + 1) (nI i) = _
    rw [fst1_hit h hp hi, f_X5_unwedOfStrip_2]
    unfold uws at hp
    simp only [Bool.and_eq_true, decide_eq_true_eq, Bool.not_eq_true'] at hp
    simp (disch := omega) only [↓pk_rem, nl_0, nl_1, nl_2, nl_3, nl_4, nl_6, nl_7, nl_8, nl_9, nl_10, nl_11, nl_12, nl_20, nl_23, nl_24, nl_26, nl_32, nl_39, nl_40, nl_44, nl_48, nl_57, nl_59, nl_60, nl_61, nl_64, nl_81, nl_82, nl_99, nl_100, nl_126, nl_200, nl_208, nl_286, nl_287, nl_290, nl_312, nl_999, nl_6561, nl_9999, nI_add, pk_mul, pk_div, pk_sub, ev_leT, ev_leF, ev_ltT, ev_ltF, ev_eqT, ev_eqF, nI_clamp, nle_T, nle_F, nlt_F, or_false, false_or, or_self, if_true, if_false, bnd_def, Option.bind_some, st1s, st1n, st2, st3, st4s, st4n, eq_self, tf_1, tf_2, b2iT, b2iF, b2iE, ob_1, ob_2, f_X7_cell_at, f_X7_setCell_at, in_0, wi_at, in_0_1, in_0_2, in_0_4, in_0_8, in_0_9, in_0_10, in_0_40, in_0_99, in_1_20, in_1_60, in_0_9999, in_m99_99, in_32_126, in_48_57, hS, hpl, hp.1, hw, bitOf_at, hp.2, bb_oneN]
    rfl
  · right
    refine ⟨(), ?_, fst1_step h hp⟩
    show f_X5_unwedOfStrip_2 P T x (t + 1) (nI i) = f_X5_unwedOfStrip_2 P T x t (nI (i + 1))
    rw [f_X5_unwedOfStrip_2]
    unfold f_X5_unwedOfStrip_41
    cases hb : W.testBit (12 + i) with
    | true => simp (disch := omega) only [↓pk_rem, nl_0, nl_1, nl_2, nl_3, nl_4, nl_6, nl_7, nl_8, nl_9, nl_10, nl_11, nl_12, nl_20, nl_23, nl_24, nl_26, nl_32, nl_39, nl_40, nl_44, nl_48, nl_57, nl_59, nl_60, nl_61, nl_64, nl_81, nl_82, nl_99, nl_100, nl_126, nl_200, nl_208, nl_286, nl_287, nl_290, nl_312, nl_999, nl_6561, nl_9999, nI_add, pk_mul, pk_div, pk_sub, ev_leT, ev_leF, ev_ltT, ev_ltF, ev_eqT, ev_eqF, nI_clamp, nle_T, nle_F, nlt_F, or_false, false_or, or_self, if_true, if_false, bnd_def, Option.bind_some, st1s, st1n, st2, st3, st4s, st4n, eq_self, tf_1, tf_2, b2iT, b2iF, b2iE, ob_1, ob_2, f_X7_cell_at, f_X7_setCell_at, in_0, wi_at, in_0_1, in_0_2, in_0_4, in_0_8, in_0_9, in_0_10, in_0_40, in_0_99, in_1_20, in_1_60, in_0_9999, in_m99_99, in_32_126, in_48_57, hS, hw, bitOf_at, hb]
    | false =>
      have h1 : ¬ pl T D y i (P.1 0) (P.1 1) = x := fun e => by
        unfold uws at hp
        rw [hb] at hp
        simp [e] at hp
      simp (disch := omega) only [↓pk_rem, nl_0, nl_1, nl_2, nl_3, nl_4, nl_6, nl_7, nl_8, nl_9, nl_10, nl_11, nl_12, nl_20, nl_23, nl_24, nl_26, nl_32, nl_39, nl_40, nl_44, nl_48, nl_57, nl_59, nl_60, nl_61, nl_64, nl_81, nl_82, nl_99, nl_100, nl_126, nl_200, nl_208, nl_286, nl_287, nl_290, nl_312, nl_999, nl_6561, nl_9999, nI_add, pk_mul, pk_div, pk_sub, ev_leT, ev_leF, ev_ltT, ev_ltF, ev_eqT, ev_eqF, nI_clamp, nle_T, nle_F, nlt_F, or_false, false_or, or_self, if_true, if_false, bnd_def, Option.bind_some, st1s, st1n, st2, st3, st4s, st4n, eq_self, tf_1, tf_2, b2iT, b2iF, b2iE, ob_1, ob_2, f_X7_cell_at, f_X7_setCell_at, in_0, wi_at, in_0_1, in_0_2, in_0_4, in_0_8, in_0_9, in_0_10, in_0_40, in_0_99, in_1_20, in_1_60, in_0_9999, in_m99_99, in_32_126, in_48_57, hS, hw, bitOf_at, hb, hpl, h1]
