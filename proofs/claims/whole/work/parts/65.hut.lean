theorem X7_isTold {T : Ob} {S U L N D : Nat} (hT : TK T S U L N D) {k : Nat} (hk : k < 12) : f_X6_isTold T (nI k) = some (decide (td U L k)) := by
  obtain ⟨hS, hN, hD, hU, hL, lS, lN, lD, lU, lL, tI, tX, tK, tO, tG, tP, tW⟩ := hT
  unfold f_X6_isTold f_X7_landOf f_X7_kOf f_X6_isOfLand
  by_cases h6 : k < 6
  · have h6' : ¬ (6 : Int32) ≤ nI k := nI_ge (b := 6) h6 (by omega)
    rw [if_neg h6', if_neg h6']
    by_cases h : k < U
    · rw [decide_eq_true (show td U L k from Or.inl h)]
      simp (disch := omega) only [↓pk_rem, nl_0, nl_1, nl_2, nl_3, nl_4, nl_6, nl_7, nl_8, nl_9, nl_10, nl_11, nl_12, nl_20, nl_23, nl_24, nl_26, nl_32, nl_39, nl_40, nl_44, nl_48, nl_57, nl_59, nl_60, nl_61, nl_64, nl_81, nl_82, nl_99, nl_100, nl_126, nl_200, nl_208, nl_286, nl_287, nl_290, nl_312, nl_999, nl_6561, nl_9999, nI_add, pk_mul, pk_div, pk_sub, ev_leT, ev_leF, ev_ltT, ev_ltF, ev_eqT, ev_eqF, nI_clamp, nle_T, nle_F, nlt_F, or_false, false_or, or_self, if_true, if_false, bnd_def, Option.bind_some, st1s, st1n, st2, st3, st4s, st4n, eq_self, tf_1, tf_2, b2iT, b2iF, b2iE, ob_1, ob_2, f_X7_cell_at, f_X7_setCell_at, in_0, wi_at, in_0_1, in_0_2, in_0_4, in_0_8, in_0_9, in_0_10, in_0_40, in_0_99, in_1_20, in_1_60, in_0_9999, in_m99_99, in_32_126, in_48_57, hU, wi_cntT]
    · rw [decide_eq_false (show ¬ td U L k from fun z => by omega)]
      simp (disch := omega) only [↓pk_rem, nl_0, nl_1, nl_2, nl_3, nl_4, nl_6, nl_7, nl_8, nl_9, nl_10, nl_11, nl_12, nl_20, nl_23, nl_24, nl_26, nl_32, nl_39, nl_40, nl_44, nl_48, nl_57, nl_59, nl_60, nl_61, nl_64, nl_81, nl_82, nl_99, nl_100, nl_126, nl_200, nl_208, nl_286, nl_287, nl_290, nl_312, nl_999, nl_6561, nl_9999, nI_add, pk_mul, pk_div, pk_sub, ev_leT, ev_leF, ev_ltT, ev_ltF, ev_eqT, ev_eqF, nI_clamp, nle_T, nle_F, nlt_F, or_false, false_or, or_self, if_true, if_false, bnd_def, Option.bind_some, st1s, st1n, st2, st3, st4s, st4n, eq_self, tf_1, tf_2, b2iT, b2iF, b2iE, ob_1, ob_2, f_X7_cell_at, f_X7_setCell_at, in_0, wi_at, in_0_1, in_0_2, in_0_4, in_0_8, in_0_9, in_0_10, in_0_40, in_0_99, in_1_20, in_1_60, in_0_9999, in_m99_99, in_32_126, in_48_57, hU, wi_cntF]
  · have h6' : (6 : Int32) ≤ nI k := nI_le (a := 6) (by omega) (by omega)
    rw [if_pos h6', if_pos h6']
    by_cases h : k - 6 < L
    · rw [decide_eq_true (show td U L k from Or.inr (by omega))]
      simp (disch := omega) only [↓pk_rem, nl_0, nl_1, nl_2, nl_3, nl_4, nl_6, nl_7, nl_8, nl_9, nl_10, nl_11, nl_12, nl_20, nl_23, nl_24, nl_26, nl_32, nl_39, nl_40, nl_44, nl_48, nl_57, nl_59, nl_60, nl_61, nl_64, nl_81, nl_82, nl_99, nl_100, nl_126, nl_200, nl_208, nl_286, nl_287, nl_290, nl_312, nl_999, nl_6561, nl_9999, nI_add, pk_mul, pk_div, pk_sub, ev_leT, ev_leF, ev_ltT, ev_ltF, ev_eqT, ev_eqF, nI_clamp, nle_T, nle_F, nlt_F, or_false, false_or, or_self, if_true, if_false, bnd_def, Option.bind_some, st1s, st1n, st2, st3, st4s, st4n, eq_self, tf_1, tf_2, b2iT, b2iF, b2iE, ob_1, ob_2, f_X7_cell_at, f_X7_setCell_at, in_0, wi_at, in_0_1, in_0_2, in_0_4, in_0_8, in_0_9, in_0_10, in_0_40, in_0_99, in_1_20, in_1_60, in_0_9999, in_m99_99, in_32_126, in_48_57, hL, wi_cntT]
    · rw [decide_eq_false (show ¬ td U L k from fun z => by omega)]
      simp (disch := omega) only [↓pk_rem, nl_0, nl_1, nl_2, nl_3, nl_4, nl_6, nl_7, nl_8, nl_9, nl_10, nl_11, nl_12, nl_20, nl_23, nl_24, nl_26, nl_32, nl_39, nl_40, nl_44, nl_48, nl_57, nl_59, nl_60, nl_61, nl_64, nl_81, nl_82, nl_99, nl_100, nl_126, nl_200, nl_208, nl_286, nl_287, nl_290, nl_312, nl_999, nl_6561, nl_9999, nI_add, pk_mul, pk_div, pk_sub, ev_leT, ev_leF, ev_ltT, ev_ltF, ev_eqT, ev_eqF, nI_clamp, nle_T, nle_F, nlt_F, or_false, false_or, or_self, if_true, if_false, bnd_def, Option.bind_some, st1s, st1n, st2, st3, st4s, st4n, eq_self, tf_1, tf_2, b2iT, b2iF, b2iE, ob_1, ob_2, f_X7_cell_at, f_X7_setCell_at, in_0, wi_at, in_0_1, in_0_2, in_0_4, in_0_8, in_0_9, in_0_10, in_0_40, in_0_99, in_1_20, in_1_60, in_0_9999, in_m99_99, in_32_126, in_48_57, hL, wi_cntF]
/-- whether one at the inch x of the strip would be against k at some shift -/
def hk (T : Ob) (U L D y x k : Nat) : Bool := decide (td U L k) && f_X7_within (din T D y (nI x) - T.2 0 k) (-nI 40) (nI 40)
theorem X7_metFrom {T : Ob} {S U L N D : Nat} (hT : TK T S U L N D) {x y : Nat} (hy : y < 2 ^ 31) : f_X6_metFrom T (nI x) (nI y) = some (nI (fb_ct (hk T U L D y x) 12)) := by
  unfold f_X6_metFrom
  rw [X6_dampInch hT hy, Option.bind_some]
  have hl := loopE (fun t i (c : Int32) => f_X6_metFrom_13 T (din T D y (nI x)) t c (nI i)) 0 12 (by omega) (by omega) (fun i c => c = nI (fb_ct (hk T U L D y x) i)) (fun c => some c) (nI 0) rfl
    (fun t c h => by
      show f_X6_metFrom_13 T (din T D y (nI x)) (t + 1) c (nI 12) = _
      rw [f_X6_metFrom_13, if_pos (by decide)])
    (fun t i c hi h => by
      refine ⟨nI (fb_ct (hk T U L D y x) (i + 1)), ?_, rfl⟩
      show f_X6_metFrom_13 T (din T D y (nI x)) (t + 1) c (nI i) = f_X6_metFrom_13 T (din T D y (nI x)) t (nI (fb_ct (hk T U L D y x) (i + 1))) (nI (i + 1))
      have hn : ¬ (12 : Int32) ≤ nI i := nI_ge (b := 12) hi (by omega)
      rw [f_X6_metFrom_13, if_neg hn, X7_isTold hT hi, Option.bind_some, fb_ct_succ, h]
      unfold f_X6_metFrom_53
      cases ht : decide (td U L i) with
      | false =>
        have e : hk T U L D y x i = false := by unfold hk; rw [ht]; rfl
        rw [e, if_pos (show b2i false = 0 by decide), bnd_def, nI_1, if_neg (by decide)]
        rfl
      | true =>
        have e : hk T U L D y x i = f_X7_within (din T D y (nI x) - T.2 0 i) (-nI 40) (nI 40) := by unfold hk; rw [ht]; rfl
        rw [if_neg (show ¬ b2i true = 0 by decide), f_X7_cell_at (by decide) _ hi, Option.bind_some, e, bnd_def]
        have e2 : f_X7_within (din T D y (nI x) - T.2 0 i) (-40) 40 = f_X7_within (din T D y (nI x) - T.2 0 i) (-nI 40) (nI 40) := rfl
        rw [e2]
        cases f_X7_within (din T D y (nI x) - T.2 0 i) (-nI 40) (nI 40) with
        | false =>
          rw [if_pos (show b2i false = 0 by decide), bnd_def, nI_1, if_neg (by decide)]
          rfl
        | true => rw [if_neg (show ¬ b2i true = 0 by decide), bnd_def, bnd_def, nI_1, nI_1, if_pos rfl])
  obtain ⟨c, h1, h2⟩ := hl
  rw [h2] at h1
  exact h1
def hj (T : Ob) (U L D y x i k : Nat) : Bool := decide (td U L k) && decide (din T D y (nI x) + (nI i - nI 40) = T.2 0 k)
theorem X8_meetsAll {M T : Ob} {f : Nat → Int32} {S U L N D : Nat} (hT : TK T S U L N D) (hM : MK M T S U L N D) {x y : Nat} (hy : y < 2 ^ 31) (h3 : f 3 = nI y) : f_X8_meetsAll (stR M 18 f) (nI x) = some (nI (fb_sm (fun i => fb_ct (hj T U L D y x i) 12) 81)) := by
  have mI := hM.2.2.2.2.2.1
  have hdin : nI x + nI x * dm T D y / 10 = din T D y (nI x) := rfl
  have hl := loopE (fun t i (c : Int32) => f_X8_meetsAll_5 (stR M 18 f) (nI x) t c (nI i - nI 40)) 0 81 (by omega) (by omega) (fun i c => c = nI (fb_sm (fun i => fb_ct (hj T U L D y x i) 12) i)) (fun c => some c) (nI 0) rfl
    (fun t c h => by
      show f_X8_meetsAll_5 (stR M 18 f) (nI x) (t + 1) c (nI 81 - nI 40) = _
      rw [f_X8_meetsAll_5, if_pos (show (40 : Int32) < nI 81 - nI 40 by decide)])
    (fun t i c hi h => by
      obtain ⟨m1, m2, m3⟩ := mo_1 i hi
      have hin := loopE (fun t' k (c' : Int32) => f_X8_meetsAll_14 (stR M 18 f) (nI x) (nI i - nI 40) (f_X8_meetsAll_5 (stR M 18 f) (nI x) t) t' c' (nI k)) 0 12 (by omega) (by omega) (fun k c' => c' = nI (fb_sm (fun i => fb_ct (hj T U L D y x i) 12) i + fb_ct (hj T U L D y x i) k)) (fun c' => f_X8_meetsAll_5 (stR M 18 f) (nI x) t c' (nI (i + 1) - nI 40)) c h
        (fun t' c' h' => by
          show f_X8_meetsAll_14 (stR M 18 f) (nI x) (nI i - nI 40) (f_X8_meetsAll_5 (stR M 18 f) (nI x) t) (t' + 1) c' (nI 12) = _
          rw [f_X8_meetsAll_14, if_pos (by decide), bnd_def, m2])
        (fun t' k c' hk1 h' => by
          obtain ⟨C, hC, e1, e2⟩ := many_at hT hM hk1
          have e3 : k - k / 6 * 6 = k % 6 := by omega
          refine ⟨_, ?_, rfl⟩
          show f_X8_meetsAll_14 (stR M 18 f) (nI x) (nI i - nI 40) (f_X8_meetsAll_5 (stR M 18 f) (nI x) t) (t' + 1) c' (nI k) = f_X8_meetsAll_14 (stR M 18 f) (nI x) (nI i - nI 40) (f_X8_meetsAll_5 (stR M 18 f) (nI x) t) t' (nI (fb_sm (fun i => fb_ct (hj T U L D y x i) 12) i + fb_ct (hj T U L D y x i) (k + 1))) (nI (k + 1))
          have hn : ¬ (12 : Int32) ≤ nI k := nI_ge (b := 12) hk1 (by omega)
          have k1 : nI k / (6 : Int32) = nI (k / 6) := pk_div (d := 6) (by omega) (by omega) (by omega)
          have k2 : nI k - nI k / (6 : Int32) * (6 : Int32) = nI (k % 6) := pk_rem (d := 6) (by omega) (by omega) (by omega)
          rw [f_X8_meetsAll_14, if_neg hn, k2, k1, if_neg (nI_in (by omega) (by omega)), nI_clamp (by omega), fb_ct_succ, h']
          unfold f_X8_meetsAll_73 f_X8_meetsAll_74
          have ee1 : (stR M 18 f).2 0 (k / 6) = nI C := e1
          rw [ee1]
          by_cases ht : td U L k
          · have hlt := e2.mp ht
            have hd : f_X8_dampOf (stR M 18 f) ((stR M 18 f).2 18 (3 : Int32).toNatClampNeg) = some (dm T D y) := by
              show f_X8_dampOf (stR M 18 f) (f 3) = _
              rw [h3]
              exact X8_dampOf hT (hM.slot f) hy
            have hi1 : (stR M 18 f).2 1 k = T.2 0 k := mI k hk1 ht
            rw [if_neg (nI_ge hlt (by omega)), hd, Option.bind_some, if_neg (nI_in hk1 (by omega)), nI_clamp (by omega), hi1, hdin]
            by_cases he : din T D y (nI x) + (nI i - nI 40) = T.2 0 k
            · have hj1 : hj T U L D y x i k = true := by unfold hj; rw [decide_eq_true ht, decide_eq_true he]; rfl
              rw [if_pos he, bnd_def, bnd_def, nI_1, hj1, if_pos rfl]
              show f_X8_meetsAll_14 _ _ _ _ _ (nI _ + nI 1) _ = _
              rw [nI_add, Nat.add_assoc]
            · have hj1 : hj T U L D y x i k = false := by unfold hj; rw [decide_eq_false he, Bool.and_false]
              rw [if_neg he, bnd_def, bnd_def, nI_1, hj1, if_neg (by decide)]
              show f_X8_meetsAll_14 _ _ _ _ _ (nI _ + nI 0) _ = _
              rw [nI_add, Nat.add_assoc]
          · have hlt : ¬ k % 6 < C := fun z => ht (e2.mpr z)
            have hj1 : hj T U L D y x i k = false := by unfold hj; rw [decide_eq_false ht]; rfl
            rw [if_pos (nI_le (by omega) (by omega)), bnd_def, bnd_def, nI_1, hj1, if_neg (by decide)]
            show f_X8_meetsAll_14 _ _ _ _ _ (nI _ + nI 0) _ = _
            rw [nI_add, Nat.add_assoc])
      obtain ⟨c', c1, c2⟩ := hin
      refine ⟨c', ?_, c2⟩
      show f_X8_meetsAll_5 (stR M 18 f) (nI x) (t + 1) c (nI i - nI 40) = _
      rw [f_X8_meetsAll_5, if_neg m1]
      exact c1)
  obtain ⟨c, h1, h2⟩ := hl
  rw [h2] at h1
  rw [f_X8_meetsAll]
  exact h1
theorem hj_one {X Y : Nat} (hX : X ≤ 78) (hY : Y ≤ 60) : fb_ct (fun i => decide (nI X + (nI i - nI 40) = nI Y)) 81 = if f_X7_within (nI X - nI Y) (-nI 40) (nI 40) = true then 1 else 0 := by
  have hw : f_X7_within (nI X - nI Y) (-nI 40) (nI 40) = true ↔ X ≤ Y + 40 ∧ Y ≤ X + 40 := by
    rw [wi_iff, pk_sub_toInt (by omega) (by omega), show (-nI 40).toInt = -40 by decide +kernel, show (nI 40).toInt = 40 by decide +kernel]
    omega
  have he : ∀ i, i < 81 → ((nI X + (nI i - nI 40) = nI Y) ↔ X + i = Y + 40) := by
    intro i hi
    have h1 : (nI i - nI 40).toInt = (i : Int) - 40 := pk_sub_toInt (by omega) (by omega)
    have h2 : (nI X).toInt = X := nI_toInt (by omega)
    have h3 : (nI X + (nI i - nI 40)).toInt = X + ((i : Int) - 40) := by rw [fb_addI (by omega) (by omega), h1, h2]
    rw [← Int32.toInt_inj, h3, nI_toInt (by omega)]
    omega
  by_cases hc : X ≤ Y + 40 ∧ Y ≤ X + 40
  · rw [if_pos (hw.mpr hc)]
    have h1 : fb_ct (fun i => decide (nI X + (nI i - nI 40) = nI Y)) 81 = fb_ct (fun i => decide (i = Y + 40 - X)) 81 := fb_ct_cong (fun i hi => decide_eq_decide.mpr (by rw [he i hi]; omega))
    rw [h1, ct_one _ (Y + 40 - X) (fun _ => rfl), if_pos (by omega)]
  · rw [if_neg (fun z => hc (hw.mp z))]
    exact fb_ct_zero (fun i hi => decide_eq_false (by rw [he i hi]; omega))
theorem hut_eq {T : Ob} {S U L N D : Nat} (hT : TK T S U L N D) {x y : Nat} (hx : x ≤ 60) : fb_sm (fun i => fb_ct (hj T U L D y x i) 12) 81 = fb_ct (hk T U L D y x) 12 := by
  obtain ⟨X, hX, eX⟩ := din_nat hT y hx
  have tI := hT.2.2.2.2.2.2.2.2.2.2.1
  have hsw := ct_swap (fun i k => hj T U L D y x i k) 81 12
  have e0 : ∀ n, n ≤ 12 → fb_sm (fun k => fb_ct (fun i => hj T U L D y x i k) 81) n = fb_ct (hk T U L D y x) n := by
    intro n hn
    induction n with
    | zero => rfl
    | succ n ih =>
      rw [fb_sm_succ, fb_ct_succ (hk T U L D y x) n, ih (by omega)]
      refine congrArg (fun z => fb_ct (hk T U L D y x) n + z) ?_
      by_cases ht : td U L n
      · obtain ⟨Y, hY, eY⟩ := tI n (by omega) ht
        have h1 : fb_ct (fun i => hj T U L D y x i n) 81 = fb_ct (fun i => decide (nI X + (nI i - nI 40) = nI Y)) 81 := fb_ct_cong (fun i _ => by unfold hj; rw [decide_eq_true ht, eX, eY, Bool.true_and])
        rw [h1, hj_one hX hY]
        unfold hk
        rw [decide_eq_true ht, eX, eY, Bool.true_and]
      · have h1 : fb_ct (fun i => hj T U L D y x i n) 81 = 0 := fb_ct_zero (fun i _ => by unfold hj; rw [decide_eq_false ht, Bool.false_and])
        rw [h1]
        unfold hk
        rw [decide_eq_false ht, Bool.false_and, if_neg (by decide)]
  exact hsw.trans (e0 12 (by omega))
theorem bm_y {v : Nat → Nat} {i b : Nat} (h : v i ≤ v b) : bm v i b = b := if_pos h
theorem bm_n {v : Nat → Nat} {i b : Nat} (h : ¬ v i ≤ v b) : bm v i b = i := if_neg h
theorem P_hut {Te To No As M : Ob} {Pa Ke : PS} (h : REL Te To No Pa Ke As M) (o7 : Ob) (v1 : Int32) : ∃ r, f_X7_hut o7 To No v1 = some r ∧ f_X8_hut M v1 = some r := by
  obtain ⟨n, S, U, L, N, D, y, a, k, q, hTe, hC, hA⟩ := h
  obtain ⟨M0, f, rfl⟩ : ∃ M0 f, M = stR M0 18 f := ⟨M, M.2 18, (stR_self M 18).symm⟩
  obtain ⟨hT, hS1, hN1, hM, hR, hPK, hy, ha, hPa, hk1, hKe⟩ := hC.out
  have h3 : f 3 = nI y := hR.2.2.2.1.trans hPK.1
  have p3 := hPK.1
  unfold f_X7_hut f_X8_hut
  rcases wi_or v1 (a := 0) (b := 1) (by omega) (by omega) with hw | ⟨u, -, hu, rfl⟩
  · refine ⟨-1, ?_, ?_⟩
    · simp (disch := omega) only [↓pk_rem, nl_0, nl_1, nl_2, nl_3, nl_4, nl_6, nl_7, nl_8, nl_9, nl_10, nl_11, nl_12, nl_20, nl_23, nl_24, nl_26, nl_32, nl_39, nl_40, nl_44, nl_48, nl_57, nl_59, nl_60, nl_61, nl_64, nl_81, nl_82, nl_99, nl_100, nl_126, nl_200, nl_208, nl_286, nl_287, nl_290, nl_312, nl_999, nl_6561, nl_9999, nI_add, pk_mul, pk_div, pk_sub, ev_leT, ev_leF, ev_ltT, ev_ltF, ev_eqT, ev_eqF, nI_clamp, nle_T, nle_F, nlt_F, or_false, false_or, or_self, if_true, if_false, bnd_def, Option.bind_some, st1s, st1n, st2, st3, st4s, st4n, eq_self, tf_1, tf_2, b2iT, b2iF, b2iE, ob_1, ob_2, f_X7_cell_at, f_X7_setCell_at, in_0, wi_at, in_0_1, in_0_2, in_0_4, in_0_8, in_0_9, in_0_10, in_0_40, in_0_99, in_1_20, in_1_60, in_0_9999, in_m99_99, in_32_126, in_48_57, hw]
    · simp (disch := omega) only [↓pk_rem, nl_0, nl_1, nl_2, nl_3, nl_4, nl_6, nl_7, nl_8, nl_9, nl_10, nl_11, nl_12, nl_20, nl_23, nl_24, nl_26, nl_32, nl_39, nl_40, nl_44, nl_48, nl_57, nl_59, nl_60, nl_61, nl_64, nl_81, nl_82, nl_99, nl_100, nl_126, nl_200, nl_208, nl_286, nl_287, nl_290, nl_312, nl_999, nl_6561, nl_9999, nI_add, pk_mul, pk_div, pk_sub, ev_leT, ev_leF, ev_ltT, ev_ltF, ev_eqT, ev_eqF, nI_clamp, nle_T, nle_F, nlt_F, or_false, false_or, or_self, if_true, if_false, bnd_def, Option.bind_some, st1s, st1n, st2, st3, st4s, st4n, eq_self, tf_1, tf_2, b2iT, b2iF, b2iE, ob_1, ob_2, f_X7_cell_at, f_X7_setCell_at, in_0, wi_at, in_0_1, in_0_2, in_0_4, in_0_8, in_0_9, in_0_10, in_0_40, in_0_99, in_1_20, in_1_60, in_0_9999, in_m99_99, in_32_126, in_48_57, hw]
  · generalize hV : (fun x => fb_ct (hk To U L D y x) 12) = V
    have hV2 : ∀ x, fb_ct (hk To U L D y x) 12 = V x := fun x => by rw [← hV]
    have hVl : ∀ x, V x ≤ 12 := fun x => by rw [← hV2]; exact fb_ct_le _ 12
    have e7 : ∀ x, f_X6_metFrom To (nI x) (No.1 3) = some (nI (V x)) := fun x => by rw [p3, ← hV2]; exact X7_metFrom hT (by omega)
    have e8 : ∀ x, x ≤ 60 → f_X8_meetsAll (stR M0 18 f) (nI x) = some (nI (V x)) := fun x hx => by rw [← hV2, ← hut_eq hT hx]; exact X8_meetsAll hT hM (by omega) h3
    have hb := bm_le V 60
    have h7 : f_X7_hut_18 To No (nI u) FU (-1 : Int32) (0 : Int32) (0 : Int32) = some (if u = 0 then nI (V (up (bm V) 1 60 0)) else nI (up (bm V) 1 60 0)) := by
      have hl := loopE (fun t i (s : Int32 × Int32) => f_X7_hut_18 To No (nI u) t s.1 s.2 (nI i)) 0 61 (by omega) (by omega) (fun i s => (i = 0 → s = (-1, 0)) ∧ (1 ≤ i → s = (nI (V (up (bm V) 1 (i - 1) 0)), nI (up (bm V) 1 (i - 1) 0)))) (fun s => if nI u = 0 then some s.1 else some s.2) (-1, 0) ⟨fun _ => rfl, fun z => by omega⟩
        (fun t s h => by
          show f_X7_hut_18 To No (nI u) (t + 1) s.1 s.2 (nI 61) = _
          rw [f_X7_hut_18, if_pos (by decide)])
        (fun t i s hi h => by
          have hn : ¬ (60 : Int32) < nI i := nI_nlt (a := 60) (by omega) (by omega)
          refine ⟨(nI (V (up (bm V) 1 (i + 1 - 1) 0)), nI (up (bm V) 1 (i + 1 - 1) 0)), ?_, fun z => absurd z (by omega), fun _ => rfl⟩
          show f_X7_hut_18 To No (nI u) (t + 1) s.1 s.2 (nI i) = f_X7_hut_18 To No (nI u) t (nI (V (up (bm V) 1 (i + 1 - 1) 0))) (nI (up (bm V) 1 (i + 1 - 1) 0)) (nI (i + 1))
          rw [f_X7_hut_18, if_neg hn, e7, Option.bind_some]
          unfold f_X7_hut_55
          rw [bnd_def, bnd_def, nI_1]
          rcases Nat.eq_zero_or_pos i with h0 | h0
          · subst h0
            rw [h.1 rfl]
            have hm : ¬ nI (V 0) ≤ (-1 : Int32) := fun z => by
              rw [Int32.le_iff_toInt_le, nI_toInt (show V 0 < 2 ^ 31 by have := hVl 0; omega), show (-1 : Int32).toInt = -1 by decide +kernel] at z
              omega
            rw [if_neg hm]
            rfl
          · rw [h.2 h0, Nat.add_sub_cancel]
            have e : up (bm V) 1 i 0 = bm V i (up (bm V) 1 (i - 1) 0) := by
              obtain ⟨m, rfl⟩ : ∃ m, i = m + 1 := ⟨i - 1, by omega⟩
              rw [up_succ, Nat.add_sub_cancel, Nat.add_comm 1 m]
            have v1 := hVl i
            have v2 := hVl (up (bm V) 1 (i - 1) 0)
            rw [e]
            show (if nI (V i) ≤ nI (V (up (bm V) 1 (i - 1) 0)) then _ else _) = _
            by_cases hc : V i ≤ V (up (bm V) 1 (i - 1) 0)
            · rw [if_pos (nI_le hc (by omega)), bm_y hc]
            · rw [if_neg (nI_ge (by omega) (by omega)), bm_n hc])
      obtain ⟨s, l1, l2⟩ := hl
      have l3 := l2.2 (by omega)
      rw [l3] at l1
      rw [show (0 : Int32) = nI 0 from rfl]
      refine l1.trans ?_
      rcases (show u = 0 ∨ u = 1 by omega) with rfl | rfl
      · rw [if_pos (show nI 0 = 0 from rfl), if_pos rfl]
      · rw [if_neg (show ¬ nI 1 = 0 by decide), if_neg (by omega)]
    have h8 : f_X8_hut_16 (stR M0 18 f) (nI u) FU (0 : Int32) (1 : Int32) = some (if u = 0 then nI (V (up (bm V) 1 60 0)) else nI (up (bm V) 1 60 0)) := by
      have hl := loopE (fun t i (b : Nat) => f_X8_hut_16 (stR M0 18 f) (nI u) t (nI b) (nI i)) 1 61 (by omega) (by omega) (fun i b => 1 ≤ i ∧ b = up (bm V) 1 (i - 1) 0) (fun b => if nI u = 0 then (f_X8_meetsAll (stR M0 18 f) (nI b)).bind fun q5 => some q5 else some (nI b)) 0 ⟨by omega, rfl⟩
        (fun t b h => by
          show f_X8_hut_16 (stR M0 18 f) (nI u) (t + 1) (nI b) (nI 61) = _
          rw [f_X8_hut_16, if_pos (show (60 : Int32) < nI 61 by decide)])
        (fun t i b hi h => by
          obtain ⟨i1, i2⟩ := h
          have hbl := bm_le V (i - 1)
          rw [← i2] at hbl
          have hn : ¬ (60 : Int32) < nI i := nI_nlt (a := 60) (by omega) (by omega)
          have v1 := hVl i
          have v2 := hVl b
          refine ⟨bm V i b, ?_, by omega, ?_⟩
          · show f_X8_hut_16 (stR M0 18 f) (nI u) (t + 1) (nI b) (nI i) = f_X8_hut_16 (stR M0 18 f) (nI u) t (nI (bm V i b)) (nI (i + 1))
            rw [f_X8_hut_16, if_neg hn, e8 i (by omega), Option.bind_some, e8 b (by omega), Option.bind_some]
            unfold f_X8_hut_40 bm
            by_cases hc : V i ≤ V b
            · rw [if_pos (nI_le hc (by omega)), if_pos hc, bnd_def, nI_1]
            · rw [if_neg (nI_ge (by omega) (by omega)), if_neg hc, bnd_def, nI_1]
          · rw [show i + 1 - 1 = (i - 1) + 1 by omega, up_succ, ← i2, show 1 + (i - 1) = i by omega])
      obtain ⟨b, l1, l2, l3⟩ := hl
      have l3' : up (bm V) 1 60 0 = b := l3.symm
      rw [l3'] at hb ⊢
      refine l1.trans ?_
      rcases (show u = 0 ∨ u = 1 by omega) with rfl | rfl
      · rw [if_pos (show nI 0 = 0 from rfl), e8 b hb, if_pos rfl]; rfl
      · rw [if_neg (show ¬ nI 1 = 0 by decide), if_neg (by omega)]
    refine ⟨if u = 0 then nI (V (up (bm V) 1 60 0)) else nI (up (bm V) 1 60 0), ?_, ?_⟩
    · simp (disch := omega) only [↓pk_rem, nl_0, nl_1, nl_2, nl_3, nl_4, nl_6, nl_7, nl_8, nl_9, nl_10, nl_11, nl_12, nl_20, nl_23, nl_24, nl_26, nl_32, nl_39, nl_40, nl_44, nl_48, nl_57, nl_59, nl_60, nl_61, nl_64, nl_81, nl_82, nl_99, nl_100, nl_126, nl_200, nl_208, nl_286, nl_287, nl_290, nl_312, nl_999, nl_6561, nl_9999, nI_add, pk_mul, pk_div, pk_sub, ev_leT, ev_leF, ev_ltT, ev_ltF, ev_eqT, ev_eqF, nI_clamp, nle_T, nle_F, nlt_F, or_false, false_or, or_self, if_true, if_false, bnd_def, Option.bind_some, st1s, st1n, st2, st3, st4s, st4n, eq_self, tf_1, tf_2, b2iT, b2iF, b2iE, ob_1, ob_2, f_X7_cell_at, f_X7_setCell_at, in_0, wi_at, in_0_1, in_0_2, in_0_4, in_0_8, in_0_9, in_0_10, in_0_40, in_0_99, in_1_20, in_1_60, in_0_9999, in_m99_99, in_32_126, in_48_57]
      exact h7
    · simp (disch := omega) only [↓pk_rem, nl_0, nl_1, nl_2, nl_3, nl_4, nl_6, nl_7, nl_8, nl_9, nl_10, nl_11, nl_12, nl_20, nl_23, nl_24, nl_26, nl_32, nl_39, nl_40, nl_44, nl_48, nl_57, nl_59, nl_60, nl_61, nl_64, nl_81, nl_82, nl_99, nl_100, nl_126, nl_200, nl_208, nl_286, nl_287, nl_290, nl_312, nl_999, nl_6561, nl_9999, nI_add, pk_mul, pk_div, pk_sub, ev_leT, ev_leF, ev_ltT, ev_ltF, ev_eqT, ev_eqF, nI_clamp, nle_T, nle_F, nlt_F, or_false, false_or, or_self, if_true, if_false, bnd_def, Option.bind_some, st1s, st1n, st2, st3, st4s, st4n, eq_self, tf_1, tf_2, b2iT, b2iF, b2iE, ob_1, ob_2, f_X7_cell_at, f_X7_setCell_at, in_0, wi_at, in_0_1, in_0_2, in_0_4, in_0_8, in_0_9, in_0_10, in_0_40, in_0_99, in_1_20, in_1_60, in_0_9999, in_m99_99, in_32_126, in_48_57]
      exact h8
