theorem loop2 {σ ρ ρ' : Type} (F : Nat → Nat → σ → Option ρ) (F' : Nat → Nat → σ → Option ρ') (i0 N : Nat) (h0 : i0 ≤ N) (hN : N < 100000) (I : Nat → σ → Prop) (K : σ → Option ρ) (K' : σ → Option ρ') (s : σ) (hI : I i0 s) (hend : ∀ t s, I N s → F (t + 1) N s = K s ∧ F' (t + 1) N s = K' s) (hstep : ∀ t i s, i < N → I i s → ∃ s', F (t + 1) i s = F t (i + 1) s' ∧ F' (t + 1) i s = F' t (i + 1) s' ∧ I (i + 1) s') : ∃ s', F FU i0 s = K s' ∧ F' FU i0 s = K' s' ∧ I N s' := by
  obtain ⟨s', h1, h2⟩ := loopE (fun t i s => some (F t i s, F' t i s)) i0 N h0 hN I (fun s => some (K s, K' s)) s hI
    (fun t s h => by
      obtain ⟨a, b⟩ := hend t s h
      show some (F (t + 1) N s, F' (t + 1) N s) = _
      rw [a, b])
    (fun t i s hi h => by
      obtain ⟨s', a, b, c⟩ := hstep t i s hi h
      refine ⟨s', ?_, c⟩
      show some (F (t + 1) i s, F' (t + 1) i s) = _
      rw [a, b])
  have h3 := Option.some.inj h1
  exact ⟨s', congrArg Prod.fst h3, congrArg Prod.snd h3, h2⟩
theorem cpl_lt {T : Ob} {S U L D y W : Nat} {sh ah x : Int32} (lU : U ≤ 6) (lL : L ≤ 6) (lS : S ≤ 7) : cpl (fU T U W x) (fL T L W x) (fS T S D y sh ah W x) < 2 ^ 19 := by
  cases hu : fU T U W x with
  | none =>
    cases hl : fL T L W x with
    | none => cases fS T S D y sh ah W x <;> exact (show 0 < 2 ^ 19 by decide)
    | some l =>
      have c2 := fst1_some hl
      cases hs : fS T S D y sh ah W x with
      | none => exact (show 0 < 2 ^ 19 by decide)
      | some s =>
        have c3 := fst1_some hs
        exact Nat.or_lt_two_pow (pwlt (by omega)) (pwlt (by omega))
  | some u =>
    have c1 := fst1_some hu
    cases hs : fS T S D y sh ah W x with
    | none =>
      cases hl : fL T L W x with
      | none => exact (show 0 < 2 ^ 19 by decide)
      | some l =>
        have c2 := fst1_some hl
        exact Nat.or_lt_two_pow (pwlt (by omega)) (pwlt (by omega))
    | some s =>
      have c3 := fst1_some hs
      cases fL T L W x <;> exact Nat.or_lt_two_pow (pwlt (by omega)) (pwlt (by omega))
theorem P_line {Te To No As M : Ob} {Pa Ke : PS} (h : REL Te To No Pa Ke As M) (o7 : Ob) (v1 : Int32) : ∃ r7 r8, f_X7_line o7 To No Pa v1 = some r7 ∧ f_X8_line M v1 = some r8 ∧ r7.1 = r8.1 ∧ REL Te To r7.2.1 r7.2.2 Ke As r8.2 := by
  have h0 := h
  obtain ⟨n, S, U, L, N, D, y, a, k, q, hTe, hC, hA⟩ := h
  obtain ⟨M0, f, rfl⟩ : ∃ M0 f, M = stR M0 18 f := ⟨M, M.2 18, (stR_self M 18).symm⟩
  obtain ⟨hT, hS1, hN1, hM, hR, hPK, hy, ha, hPa, hk, hKe⟩ := hC.out
  have lS := hT.2.2.2.2.2.1
  have lU := hT.2.2.2.2.2.2.2.2.1
  have lL := hT.2.2.2.2.2.2.2.2.2.1
  have la := hPa.2.1
  unfold f_X7_line f_X8_line
  cases hw : f_X7_within v1 (-nI 99) (nI 99) with
  | false =>
    refine ⟨(-1, No, Pa), (-1, stR M0 18 f), ?_, ?_, rfl, h0⟩
    · simp (disch := omega) only [↓pk_rem, nl_0, nl_1, nl_2, nl_3, nl_4, nl_6, nl_7, nl_8, nl_9, nl_10, nl_11, nl_12, nl_20, nl_23, nl_24, nl_26, nl_32, nl_39, nl_40, nl_44, nl_48, nl_57, nl_59, nl_60, nl_61, nl_64, nl_81, nl_82, nl_99, nl_100, nl_126, nl_200, nl_208, nl_286, nl_287, nl_290, nl_312, nl_999, nl_6561, nl_9999, nI_add, pk_mul, pk_div, pk_sub, ev_leT, ev_leF, ev_ltT, ev_ltF, ev_eqT, ev_eqF, nI_clamp, nle_T, nle_F, nlt_F, or_false, false_or, or_self, if_true, if_false, bnd_def, Option.bind_some, st1s, st1n, st2, st3, st4s, st4n, eq_self, tf_1, tf_2, b2iT, b2iF, b2iE, ob_1, ob_2, f_X7_cell_at, f_X7_setCell_at, in_0, wi_at, in_0_1, in_0_2, in_0_4, in_0_8, in_0_9, in_0_10, in_0_40, in_0_99, in_1_20, in_1_60, in_0_9999, in_m99_99, in_32_126, in_48_57, hw]
    · simp (disch := omega) only [↓pk_rem, nl_0, nl_1, nl_2, nl_3, nl_4, nl_6, nl_7, nl_8, nl_9, nl_10, nl_11, nl_12, nl_20, nl_23, nl_24, nl_26, nl_32, nl_39, nl_40, nl_44, nl_48, nl_57, nl_59, nl_60, nl_61, nl_64, nl_81, nl_82, nl_99, nl_100, nl_126, nl_200, nl_208, nl_286, nl_287, nl_290, nl_312, nl_999, nl_6561, nl_9999, nI_add, pk_mul, pk_div, pk_sub, ev_leT, ev_leF, ev_ltT, ev_ltF, ev_eqT, ev_eqF, nI_clamp, nle_T, nle_F, nlt_F, or_false, false_or, or_self, if_true, if_false, bnd_def, Option.bind_some, st1s, st1n, st2, st3, st4s, st4n, eq_self, tf_1, tf_2, b2iT, b2iF, b2iE, ob_1, ob_2, f_X7_cell_at, f_X7_setCell_at, in_0, wi_at, in_0_1, in_0_2, in_0_4, in_0_8, in_0_9, in_0_10, in_0_40, in_0_99, in_1_20, in_1_60, in_0_9999, in_m99_99, in_32_126, in_48_57, hw]
  | true =>
    obtain ⟨W, w1, w2, w3, W1, -, -, -, W5, -⟩ := hR.2.2.2.2.2.2
    obtain ⟨w, g1, -, -, k3, k4, k5⟩ := trial_both (To := To) (M := M0) (Tr := No) lS hR
    have k4' : RS S No g1 286 := by
      obtain ⟨g1', c1, c2, c3⟩ := X8_copies M0 f (a := 0) (b := 286) (by omega) (by omega) (by omega)
      rw [k3] at c1
      have e : g1 = g1' := by
        have h2 := congrArg (fun o : Ob => o.2 18) (Option.some.inj c1)
        simp only [st4s] at h2
        exact h2
      rw [e]
      exact hR.cong lS (fun j hj => c2 j hj)
    obtain ⟨g2, q1, q2, q3⟩ := X8_weds (M := M0) (f := g1) (b := 286) (by omega) hT hM (y := y) (by omega) hPK k4' W1 W5 v1
    have e7 := X7_coupleAt (P := No) hT (y := y) (by omega) hPK.1 W5 W1 v1
    have hlt := cpl_lt (T := To) (D := D) (y := y) (W := W) (sh := No.1 0) (ah := No.1 1) (x := v1) lU lL lS
    generalize cpl (fU To U W v1) (fL To L W v1) (fS To S D y (No.1 0) (No.1 1) W v1) = Z at q1 q2 e7 hlt
    by_cases hZ : Z = 0
    · subst hZ
      rw [decide_eq_true (show 0 = 0 from rfl)] at q1
      refine ⟨(-2, No, Pa), (-2, stR M0 18 g2), ?_, ?_, rfl, n, S, U, L, N, D, y, a, k, q, hTe, hC.trial (k5.trans q3), hA⟩
      · simp (disch := omega) only [↓pk_rem, nl_0, nl_1, nl_2, nl_3, nl_4, nl_6, nl_7, nl_8, nl_9, nl_10, nl_11, nl_12, nl_20, nl_23, nl_24, nl_26, nl_32, nl_39, nl_40, nl_44, nl_48, nl_57, nl_59, nl_60, nl_61, nl_64, nl_81, nl_82, nl_99, nl_100, nl_126, nl_200, nl_208, nl_286, nl_287, nl_290, nl_312, nl_999, nl_6561, nl_9999, nI_add, pk_mul, pk_div, pk_sub, ev_leT, ev_leF, ev_ltT, ev_ltF, ev_eqT, ev_eqF, nI_clamp, nle_T, nle_F, nlt_F, or_false, false_or, or_self, if_true, if_false, bnd_def, Option.bind_some, st1s, st1n, st2, st3, st4s, st4n, eq_self, tf_1, tf_2, b2iT, b2iF, b2iE, ob_1, ob_2, f_X7_cell_at, f_X7_setCell_at, in_0, wi_at, in_0_1, in_0_2, in_0_4, in_0_8, in_0_9, in_0_10, in_0_40, in_0_99, in_1_20, in_1_60, in_0_9999, in_m99_99, in_32_126, in_48_57, hw, e7]
      · simp (disch := omega) only [↓pk_rem, nl_0, nl_1, nl_2, nl_3, nl_4, nl_6, nl_7, nl_8, nl_9, nl_10, nl_11, nl_12, nl_20, nl_23, nl_24, nl_26, nl_32, nl_39, nl_40, nl_44, nl_48, nl_57, nl_59, nl_60, nl_61, nl_64, nl_81, nl_82, nl_99, nl_100, nl_126, nl_200, nl_208, nl_286, nl_287, nl_290, nl_312, nl_999, nl_6561, nl_9999, nI_add, pk_mul, pk_div, pk_sub, ev_leT, ev_leF, ev_ltT, ev_ltF, ev_eqT, ev_eqF, nI_clamp, nle_T, nle_F, nlt_F, or_false, false_or, or_self, if_true, if_false, bnd_def, Option.bind_some, st1s, st1n, st2, st3, st4s, st4n, eq_self, tf_1, tf_2, b2iT, b2iF, b2iE, ob_1, ob_2, f_X7_cell_at, f_X7_setCell_at, in_0, wi_at, in_0_1, in_0_2, in_0_4, in_0_8, in_0_9, in_0_10, in_0_40, in_0_99, in_1_20, in_1_60, in_0_9999, in_m99_99, in_32_126, in_48_57, hw, k3, q1, Bool.not_true]
    · rw [decide_eq_false hZ] at q1
      have f2 := k5.trans q3
      obtain ⟨r, g3, m, c1, c2, c3, c4⟩ := X_known (M := M0) (f := g2) lS ha (hPa.cong lS (fun j h1 h2 => f2 j (by omega))) (hR.frame lS f2 (by omega)) hPK hy
      obtain ⟨g4, d1, d2, d3⟩ := X8_copies (stF M0 19 (nI m)) g3 (a := 286) (b := 0) (by omega) (by omega) (by omega)
      have hR4 : RS S (stF No 4 (No.1 4 ||| nI Z)) g4 0 := (q2.cong (g := g3) (b := 286) lS (fun j hj => c4 _ (by omega))).cong lS (fun j hj => d2 j hj)
      have hwd := X8_wed (M := stF M0 19 (nI m)) (b := 0) (by omega) hR4
      rw [stR_stF] at d1 hwd
      have hwd2 : f_X8_wed (stF (stR M0 18 g4) 19 (nI m)) (nI 0) = some (f_J6_bitCount_0f7a4 (No.1 4 ||| nI Z)) := hwd
      refine ⟨(f_J6_bitCount_0f7a4 (No.1 4 ||| nI Z), stF No 4 (No.1 4 ||| nI Z), r), (f_J6_bitCount_0f7a4 (No.1 4 ||| nI Z), stF (stR M0 18 g4) 19 (nI m)), ?_, ?_, rfl, n, S, U, L, N, D, y, m, k, q, hTe, ?_, hA⟩
      · simp (disch := omega) only [↓pk_rem, nl_0, nl_1, nl_2, nl_3, nl_4, nl_6, nl_7, nl_8, nl_9, nl_10, nl_11, nl_12, nl_20, nl_23, nl_24, nl_26, nl_32, nl_39, nl_40, nl_44, nl_48, nl_57, nl_59, nl_60, nl_61, nl_64, nl_81, nl_82, nl_99, nl_100, nl_126, nl_200, nl_208, nl_286, nl_287, nl_290, nl_312, nl_999, nl_6561, nl_9999, nI_add, pk_mul, pk_div, pk_sub, ev_leT, ev_leF, ev_ltT, ev_ltF, ev_eqT, ev_eqF, nI_clamp, nle_T, nle_F, nlt_F, or_false, false_or, or_self, if_true, if_false, bnd_def, Option.bind_some, st1s, st1n, st2, st3, st4s, st4n, eq_self, tf_1, tf_2, b2iT, b2iF, b2iE, ob_1, ob_2, f_X7_cell_at, f_X7_setCell_at, in_0, wi_at, in_0_1, in_0_2, in_0_4, in_0_8, in_0_9, in_0_10, in_0_40, in_0_99, in_1_20, in_1_60, in_0_9999, in_m99_99, in_32_126, in_48_57, hw, e7, hZ, c1]
      · have n1 : f_X8_in v1.toInt64 (-99 : Int64) (99 : Int64) = true := (in_m99_99 v1).trans hw
        have n2 : f_X8_copies (stR M0 18 f) (0 : Int32) (286 : Int32) = some (stR M0 18 g1) := k3
        have n3 : f_X8_weds (stR M0 18 g1) (286 : Int32) v1 = some (true, stR M0 18 g2) := q1
        have n4 : f_X8_copies (stF (stR M0 18 g3) 19 (nI m)) (286 : Int32) (0 : Int32) = some (stF (stR M0 18 g4) 19 (nI m)) := d1
        have n5 : f_X8_wed (stF (stR M0 18 g4) 19 (nI m)) (0 : Int32) = some (f_J6_bitCount_0f7a4 (No.1 4 ||| nI Z)) := hwd2
        rw [n1, bnd_def, if_neg (show ¬ b2i true = 0 by decide), n2, Option.bind_some, n3, Option.bind_some, if_neg (show ¬ b2i (true, stR M0 18 g2).1 = 0 from (show ¬ b2i true = 0 by decide)), c2, Option.bind_some, n4, Option.bind_some, n5, Option.bind_some]
      · exact hC.act hR4 hPK hy (c3.cong lS (fun j h1 h2 => d3 j (by omega))) (fun j h1 h2 => ((d3 j (by omega)).trans (c4 j (by omega))).trans (f2 j (by omega)))
/-! a century -/
def SAME (M M' : Ob) : Prop := M'.2 = M.2 ∧ ∀ j, j ≠ 35 → M'.1 j = M.1 j
theorem SAME.refl (M : Ob) : SAME M M := ⟨rfl, fun _ _ => rfl⟩
theorem SAME.trans {A B C : Ob} (h1 : SAME A B) (h2 : SAME B C) : SAME A C := ⟨h2.1.trans h1.1, fun j hj => (h2.2 j hj).trans (h1.2 j hj)⟩
theorem MK.same {M M' T : Ob} {S U L N D : Nat} (h : MK M T S U L N D) (e : SAME M M') : MK M' T S U L N D := by
  obtain ⟨e1, e2⟩ := e
  unfold MK
  rw [e1, e2 2 (by omega), e2 5 (by omega), e2 7 (by omega)]
  exact h
theorem dr_x {z k : Nat} (hz : z < 2 ^ 31) (hk : k < 2 ^ 31) : ((7919 : Int64) * (nI z).toInt64 + (6151 : Int64) * (nI k).toInt64 + (1 : Int64)) = lN (7919 * z + 6151 * k + 1) := by
  rw [nI_l hz, nI_l hk, show (7919 : Int64) = lN 7919 from rfl, show (6151 : Int64) = lN 6151 from rfl, lN_mul, lN_mul, lN_add, lN_1]
theorem dr_y {x : Nat} (hx : x < 2 ^ 27) : ((lN x * lN x) - (lN x * lN x) / (65521 : Int64) * (65521 : Int64)).toInt32 = nI (x * x % 65521) := by
  have h : x * x < 2 ^ 27 * 2 ^ 27 := Nat.mul_lt_mul'' hx hx
  rw [lN_mul, show (65521 : Int64) = lN 65521 from rfl, pk_lRem (by omega) (by omega) (by omega), lN_i]
def dr (z k : Nat) : Nat := (7919 * z + 6151 * k + 1) * (7919 * z + 6151 * k + 1) % 65521
theorem X7_drawOf {z k : Nat} (hz : z ≤ 9999) (hk : k < 60) : f_X7_drawOf (nI z) (nI k) = nI (dr z k) := by
  unfold f_X7_drawOf
  rw [dr_x (by omega) (by omega), bnd_def, dr_y (by omega)]
  rfl
theorem act_both {T P M : Ob} (o7 : Ob) {f : Nat → Int32} {S U L N D y d : Nat} (hT : TK T S U L N D) (hN1 : 1 ≤ N) (hM : MK M T S U L N D) (hPK : PK P y) (hy : y ≤ 999) (hR : RS S P f 286) (hd : d < 65521) : ∃ Q y' M' g, f_X7_actByDraw o7 T P (nI d) = some Q ∧ f_X8_does (stR M 18 f) (nI 286) (nI d) = some (stR M' 18 g) ∧ RS S Q g 286 ∧ PK Q y' ∧ y' ≤ 999 ∧ FR f g 286 ∧ SAME M M' := by
  have lN := hT.2.2.2.2.2.2.1
  have hTN := hT.2.1
  have m5 := hM.2.1
  have p3 := hPK.1
  have r3 : f 289 = P.1 3 := hR.2.2.2.1
  have hmod : d / 8 % N < N := Nat.mod_lt _ (by omega)
  have e8 : d - d / 8 * 8 = d % 8 := by omega
  have e5 : (5 : Int32) = nI 5 := rfl
  have e64 : d / 64 - d / 64 / 2 * 2 = d / 64 % 2 := by omega
  have hw2 : d / 64 % 2 < 2 := by omega
  have eA : d / 8 - d / 8 / 10 * 10 = d / 8 % 10 := by omega
  have eB : d / 8 - d / 8 / 61 * 61 = d / 8 % 61 := by omega
  have e288 : 286 + 2 = 288 := rfl
  have eN : nI (d / 8) - nI (d / 8 / N * N) = nI (d / 8 % N) := by
    rw [pk_sub (Nat.div_mul_le_self _ _), Nat.mod_def, Nat.mul_comm]
  unfold f_X7_actByDraw f_X7_actByDraw_90 f_X8_does
  by_cases h4 : d % 8 < 4
  · obtain ⟨g, k1, k2, k3⟩ := X8_gives (M := M) (f := f) (b := 286) (w := d / 64 % 2) (by omega) hT hM hPK hR hmod hw2
    have hs := X7_shove T P (show d / 8 % N < 4 by omega) (d / 64 % 2)
    refine ⟨s_shove T (d / 8 % N) (d / 64 % 2) P, y, M, g, ?_, ?_, k2, s_shove_PK hT hPK hmod hw2, hy, k3, SAME.refl M⟩
    · have hb : ∀ c, c < 2 → d / 64 % 2 = c → (if nI (d / 64 % 2) = nI 1 then f_X5_shove P T (nI (d / 8 % N)) (nI 1) else f_X5_shove P T (nI (d / 8 % N)) (nI 0)) = some (s_shove T (d / 8 % N) (d / 64 % 2) P) := by
        intro c hc hcc
        rw [← hs]
        rcases (show c = 0 ∨ c = 1 by omega) with rfl | rfl
        · rw [hcc, if_neg (by decide)]
        · rw [hcc, if_pos rfl]
      have hb2 := hb _ hw2 rfl
      rcases (show d / 64 % 2 = 0 ∨ d / 64 % 2 = 1 by omega) with h2 | h2
      · rw [h2] at hs hb2 ⊢
        rcases (show d % 8 = 0 ∨ d % 8 = 1 ∨ d % 8 = 2 ∨ d % 8 = 3 by omega) with h8 | h8 | h8 | h8 <;> simp (disch := omega) only [↓pk_rem, nl_0, nl_1, nl_2, nl_3, nl_4, nl_6, nl_7, nl_8, nl_9, nl_10, nl_11, nl_12, nl_20, nl_23, nl_24, nl_26, nl_32, nl_39, nl_40, nl_44, nl_48, nl_57, nl_59, nl_60, nl_61, nl_64, nl_81, nl_82, nl_99, nl_100, nl_126, nl_200, nl_208, nl_286, nl_287, nl_290, nl_312, nl_999, nl_6561, nl_9999, nI_add, pk_mul, pk_div, pk_sub, ev_leT, ev_leF, ev_ltT, ev_ltF, ev_eqT, ev_eqF, nI_clamp, nle_T, nle_F, nlt_F, or_false, false_or, or_self, if_true, if_false, bnd_def, Option.bind_some, st1s, st1n, st2, st3, st4s, st4n, eq_self, tf_1, tf_2, b2iT, b2iF, b2iE, ob_1, ob_2, f_X7_cell_at, f_X7_setCell_at, in_0, wi_at, in_0_1, in_0_2, in_0_4, in_0_8, in_0_9, in_0_10, in_0_40, in_0_99, in_1_20, in_1_60, in_0_9999, in_m99_99, in_32_126, in_48_57, e8, h8, hTN, e64, h2, hs]
      · rw [h2] at hs hb2 ⊢
        rcases (show d % 8 = 0 ∨ d % 8 = 1 ∨ d % 8 = 2 ∨ d % 8 = 3 by omega) with h8 | h8 | h8 | h8 <;> simp (disch := omega) only [↓pk_rem, nl_0, nl_1, nl_2, nl_3, nl_4, nl_6, nl_7, nl_8, nl_9, nl_10, nl_11, nl_12, nl_20, nl_23, nl_24, nl_26, nl_32, nl_39, nl_40, nl_44, nl_48, nl_57, nl_59, nl_60, nl_61, nl_64, nl_81, nl_82, nl_99, nl_100, nl_126, nl_200, nl_208, nl_286, nl_287, nl_290, nl_312, nl_999, nl_6561, nl_9999, nI_add, pk_mul, pk_div, pk_sub, ev_leT, ev_leF, ev_ltT, ev_ltF, ev_eqT, ev_eqF, nI_clamp, nle_T, nle_F, nlt_F, or_false, false_or, or_self, if_true, if_false, bnd_def, Option.bind_some, st1s, st1n, st2, st3, st4s, st4n, eq_self, tf_1, tf_2, b2iT, b2iF, b2iE, ob_1, ob_2, f_X7_cell_at, f_X7_setCell_at, in_0, wi_at, in_0_1, in_0_2, in_0_4, in_0_8, in_0_9, in_0_10, in_0_40, in_0_99, in_1_20, in_1_60, in_0_9999, in_m99_99, in_32_126, in_48_57, e8, h8, hTN, e64, h2, hs]
    · simp (disch := omega) only [↓pk_rem, nl_0, nl_1, nl_2, nl_3, nl_4, nl_6, nl_7, nl_8, nl_9, nl_10, nl_11, nl_12, nl_20, nl_23, nl_24, nl_26, nl_32, nl_39, nl_40, nl_44, nl_48, nl_57, nl_59, nl_60, nl_61, nl_64, nl_81, nl_82, nl_99, nl_100, nl_126, nl_200, nl_208, nl_286, nl_287, nl_290, nl_312, nl_999, nl_6561, nl_9999, nI_add, pk_mul, pk_div, pk_sub, ev_leT, ev_leF, ev_ltT, ev_ltF, ev_eqT, ev_eqF, nI_clamp, nle_T, nle_F, nlt_F, or_false, false_or, or_self, if_true, if_false, bnd_def, Option.bind_some, st1s, st1n, st2, st3, st4s, st4n, eq_self, tf_1, tf_2, b2iT, b2iF, b2iE, ob_1, ob_2, f_X7_cell_at, f_X7_setCell_at, in_0, wi_at, in_0_1, in_0_2, in_0_4, in_0_8, in_0_9, in_0_10, in_0_40, in_0_99, in_1_20, in_1_60, in_0_9999, in_m99_99, in_32_126, in_48_57, e8, m5, e64, eN, k1]
  · by_cases h5 : d % 8 = 4
    · obtain ⟨r0, r1, r2, r3', r4, r5, r6⟩ := hR
      refine ⟨stF P 2 (nI (d / 8 % 10)), y, M, upd f 288 (nI (d / 8 % 10)), ?_, ?_, ⟨?_, ?_, ?_, ?_, fun s hs => ?_, fun s hs => ?_, ?_⟩, ⟨hPK.1, hPK.2.1, hPK.2.2.1, d / 8 % 10, by omega, rfl⟩, hy, fun j hj => pk_un (by omega), SAME.refl M⟩
      · simp (disch := omega) only [↓pk_rem, nl_0, nl_1, nl_2, nl_3, nl_4, nl_6, nl_7, nl_8, nl_9, nl_10, nl_11, nl_12, nl_20, nl_23, nl_24, nl_26, nl_32, nl_39, nl_40, nl_44, nl_48, nl_57, nl_59, nl_60, nl_61, nl_64, nl_81, nl_82, nl_99, nl_100, nl_126, nl_200, nl_208, nl_286, nl_287, nl_290, nl_312, nl_999, nl_6561, nl_9999, nI_add, pk_mul, pk_div, pk_sub, ev_leT, ev_leF, ev_ltT, ev_ltF, ev_eqT, ev_eqF, nI_clamp, nle_T, nle_F, nlt_F, or_false, false_or, or_self, if_true, if_false, bnd_def, Option.bind_some, st1s, st1n, st2, st3, st4s, st4n, eq_self, tf_1, tf_2, b2iT, b2iF, b2iE, ob_1, ob_2, f_X7_cell_at, f_X7_setCell_at, in_0, wi_at, in_0_1, in_0_2, in_0_4, in_0_8, in_0_9, in_0_10, in_0_40, in_0_99, in_1_20, in_1_60, in_0_9999, in_m99_99, in_32_126, in_48_57, e8, h5]
      · simp (disch := omega) only [↓pk_rem, nl_0, nl_1, nl_2, nl_3, nl_4, nl_6, nl_7, nl_8, nl_9, nl_10, nl_11, nl_12, nl_20, nl_23, nl_24, nl_26, nl_32, nl_39, nl_40, nl_44, nl_48, nl_57, nl_59, nl_60, nl_61, nl_64, nl_81, nl_82, nl_99, nl_100, nl_126, nl_200, nl_208, nl_286, nl_287, nl_290, nl_312, nl_999, nl_6561, nl_9999, nI_add, pk_mul, pk_div, pk_sub, ev_leT, ev_leF, ev_ltT, ev_ltF, ev_eqT, ev_eqF, nI_clamp, nle_T, nle_F, nlt_F, or_false, false_or, or_self, if_true, if_false, bnd_def, Option.bind_some, st1s, st1n, st2, st3, st4s, st4n, eq_self, tf_1, tf_2, b2iT, b2iF, b2iE, ob_1, ob_2, f_X7_cell_at, f_X7_setCell_at, in_0, wi_at, in_0_1, in_0_2, in_0_4, in_0_8, in_0_9, in_0_10, in_0_40, in_0_99, in_1_20, in_1_60, in_0_9999, in_m99_99, in_32_126, in_48_57, e8, h5, eA, e288, stR_stR]
      · rw [pk_un (by omega)]; exact r0
      · rw [pk_un (by omega)]; exact r1
      · exact pk_us
      · rw [pk_un (by omega)]; exact r3'
      · rw [pk_un (by omega)]; exact r4 s hs
      · rw [pk_un (by omega)]; exact r5 s hs
      · rw [pk_un (by omega), pk_un (by omega), pk_un (by omega)]; exact r6
    · by_cases h6 : d % 8 = 5
      · obtain ⟨W, w1, w2, w3, W1, -, -, -, W5, -⟩ := hR.2.2.2.2.2.2
        obtain ⟨g, q1, q2, q3⟩ := X8_weds (M := M) (f := f) (b := 286) (by omega) hT hM (y := y) (by omega) hPK hR W1 W5 (nI (d / 8 % 61))
        have e7 := X7_coupleAt (P := P) hT (y := y) (by omega) hPK.1 W5 W1 (nI (d / 8 % 61))
        refine ⟨_, y, stF M 35 (b2i (!decide (cpl (fU T U W (nI (d / 8 % 61))) (fL T L W (nI (d / 8 % 61))) (fS T S D y (P.1 0) (P.1 1) W (nI (d / 8 % 61))) = 0))), g, ?_, ?_, q2, hPK, hy, q3, ⟨rfl, fun j hj => st1n M hj _⟩⟩
        · simp (disch := omega) only [↓pk_rem, nl_0, nl_1, nl_2, nl_3, nl_4, nl_6, nl_7, nl_8, nl_9, nl_10, nl_11, nl_12, nl_20, nl_23, nl_24, nl_26, nl_32, nl_39, nl_40, nl_44, nl_48, nl_57, nl_59, nl_60, nl_61, nl_64, nl_81, nl_82, nl_99, nl_100, nl_126, nl_200, nl_208, nl_286, nl_287, nl_290, nl_312, nl_999, nl_6561, nl_9999, nI_add, pk_mul, pk_div, pk_sub, ev_leT, ev_leF, ev_ltT, ev_ltF, ev_eqT, ev_eqF, nI_clamp, nle_T, nle_F, nlt_F, or_false, false_or, or_self, if_true, if_false, bnd_def, Option.bind_some, st1s, st1n, st2, st3, st4s, st4n, eq_self, tf_1, tf_2, b2iT, b2iF, b2iE, ob_1, ob_2, f_X7_cell_at, f_X7_setCell_at, in_0, wi_at, in_0_1, in_0_2, in_0_4, in_0_8, in_0_9, in_0_10, in_0_40, in_0_99, in_1_20, in_1_60, in_0_9999, in_m99_99, in_32_126, in_48_57, e8, h6, e5, e7]
        · simp (disch := omega) only [↓pk_rem, nl_0, nl_1, nl_2, nl_3, nl_4, nl_6, nl_7, nl_8, nl_9, nl_10, nl_11, nl_12, nl_20, nl_23, nl_24, nl_26, nl_32, nl_39, nl_40, nl_44, nl_48, nl_57, nl_59, nl_60, nl_61, nl_64, nl_81, nl_82, nl_99, nl_100, nl_126, nl_200, nl_208, nl_286, nl_287, nl_290, nl_312, nl_999, nl_6561, nl_9999, nI_add, pk_mul, pk_div, pk_sub, ev_leT, ev_leF, ev_ltT, ev_ltF, ev_eqT, ev_eqF, nI_clamp, nle_T, nle_F, nlt_F, or_false, false_or, or_self, if_true, if_false, bnd_def, Option.bind_some, st1s, st1n, st2, st3, st4s, st4n, eq_self, tf_1, tf_2, b2iT, b2iF, b2iE, ob_1, ob_2, f_X7_cell_at, f_X7_setCell_at, in_0, wi_at, in_0_1, in_0_2, in_0_4, in_0_8, in_0_9, in_0_10, in_0_40, in_0_99, in_1_20, in_1_60, in_0_9999, in_m99_99, in_32_126, in_48_57, e8, h6, e5, eB, q1]
          rfl
      · by_cases hy9 : y < 999
        · obtain ⟨g, k1, k2, k3⟩ := X8_trades (M := M) (f := f) (b := 286) (by omega) hT hM (y := y) (by omega) hPK hR
          refine ⟨s_year T S D y P, y + 1, M, g, ?_, ?_, k2, s_year_PK hPK, by omega, k3, SAME.refl M⟩
          · have ht := X7_trade (n := 1) hT (show y + 1 < 100000 by omega) hPK
            have ht2 : f_X5_trade P T (nI 1) = some (s_year T S D y P) := ht
            simp (disch := omega) only [↓pk_rem, nl_0, nl_1, nl_2, nl_3, nl_4, nl_6, nl_7, nl_8, nl_9, nl_10, nl_11, nl_12, nl_20, nl_23, nl_24, nl_26, nl_32, nl_39, nl_40, nl_44, nl_48, nl_57, nl_59, nl_60, nl_61, nl_64, nl_81, nl_82, nl_99, nl_100, nl_126, nl_200, nl_208, nl_286, nl_287, nl_290, nl_312, nl_999, nl_6561, nl_9999, nI_add, pk_mul, pk_div, pk_sub, ev_leT, ev_leF, ev_ltT, ev_ltF, ev_eqT, ev_eqF, nI_clamp, nle_T, nle_F, nlt_F, or_false, false_or, or_self, if_true, if_false, bnd_def, Option.bind_some, st1s, st1n, st2, st3, st4s, st4n, eq_self, tf_1, tf_2, b2iT, b2iF, b2iE, ob_1, ob_2, f_X7_cell_at, f_X7_setCell_at, in_0, wi_at, in_0_1, in_0_2, in_0_4, in_0_8, in_0_9, in_0_10, in_0_40, in_0_99, in_1_20, in_1_60, in_0_9999, in_m99_99, in_32_126, in_48_57, e8, h5, h6, e5, p3, ht2]
          · simp (disch := omega) only [↓pk_rem, nl_0, nl_1, nl_2, nl_3, nl_4, nl_6, nl_7, nl_8, nl_9, nl_10, nl_11, nl_12, nl_20, nl_23, nl_24, nl_26, nl_32, nl_39, nl_40, nl_44, nl_48, nl_57, nl_59, nl_60, nl_61, nl_64, nl_81, nl_82, nl_99, nl_100, nl_126, nl_200, nl_208, nl_286, nl_287, nl_290, nl_312, nl_999, nl_6561, nl_9999, nI_add, pk_mul, pk_div, pk_sub, ev_leT, ev_leF, ev_ltT, ev_ltF, ev_eqT, ev_eqF, nI_clamp, nle_T, nle_F, nlt_F, or_false, false_or, or_self, if_true, if_false, bnd_def, Option.bind_some, st1s, st1n, st2, st3, st4s, st4n, eq_self, tf_1, tf_2, b2iT, b2iF, b2iE, ob_1, ob_2, f_X7_cell_at, f_X7_setCell_at, in_0, wi_at, in_0_1, in_0_2, in_0_4, in_0_8, in_0_9, in_0_10, in_0_40, in_0_99, in_1_20, in_1_60, in_0_9999, in_m99_99, in_32_126, in_48_57, e8, h5, h6, e5, r3, p3, k1]
        · refine ⟨P, y, M, f, ?_, ?_, hR, hPK, hy, FR.refl _ _, SAME.refl M⟩
          · simp (disch := omega) only [↓pk_rem, nl_0, nl_1, nl_2, nl_3, nl_4, nl_6, nl_7, nl_8, nl_9, nl_10, nl_11, nl_12, nl_20, nl_23, nl_24, nl_26, nl_32, nl_39, nl_40, nl_44, nl_48, nl_57, nl_59, nl_60, nl_61, nl_64, nl_81, nl_82, nl_99, nl_100, nl_126, nl_200, nl_208, nl_286, nl_287, nl_290, nl_312, nl_999, nl_6561, nl_9999, nI_add, pk_mul, pk_div, pk_sub, ev_leT, ev_leF, ev_ltT, ev_ltF, ev_eqT, ev_eqF, nI_clamp, nle_T, nle_F, nlt_F, or_false, false_or, or_self, if_true, if_false, bnd_def, Option.bind_some, st1s, st1n, st2, st3, st4s, st4n, eq_self, tf_1, tf_2, b2iT, b2iF, b2iE, ob_1, ob_2, f_X7_cell_at, f_X7_setCell_at, in_0, wi_at, in_0_1, in_0_2, in_0_4, in_0_8, in_0_9, in_0_10, in_0_40, in_0_99, in_1_20, in_1_60, in_0_9999, in_m99_99, in_32_126, in_48_57, e8, h5, h6, e5, p3]
          · simp (disch := omega) only [↓pk_rem, nl_0, nl_1, nl_2, nl_3, nl_4, nl_6, nl_7, nl_8, nl_9, nl_10, nl_11, nl_12, nl_20, nl_23, nl_24, nl_26, nl_32, nl_39, nl_40, nl_44, nl_48, nl_57, nl_59, nl_60, nl_61, nl_64, nl_81, nl_82, nl_99, nl_100, nl_126, nl_200, nl_208, nl_286, nl_287, nl_290, nl_312, nl_999, nl_6561, nl_9999, nI_add, pk_mul, pk_div, pk_sub, ev_leT, ev_leF, ev_ltT, ev_ltF, ev_eqT, ev_eqF, nI_clamp, nle_T, nle_F, nlt_F, or_false, false_or, or_self, if_true, if_false, bnd_def, Option.bind_some, st1s, st1n, st2, st3, st4s, st4n, eq_self, tf_1, tf_2, b2iT, b2iF, b2iE, ob_1, ob_2, f_X7_cell_at, f_X7_setCell_at, in_0, wi_at, in_0_1, in_0_2, in_0_4, in_0_8, in_0_9, in_0_10, in_0_40, in_0_99, in_1_20, in_1_60, in_0_9999, in_m99_99, in_32_126, in_48_57, e8, h5, h6, e5, r3, p3]
