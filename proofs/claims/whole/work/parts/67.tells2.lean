theorem X8_tells101 {T As M : Ob} {f : Nat → Int32} {q S U L N D y s l k : Nat} (hT : TK T S U L N D) (hM : MK M T S U L N D) (hA : AR As (stR M 18 f) q S U L) (hy : y < 2 ^ 31) (h3 : f 3 = nI y) (hs : s < S) (hl : l < 2) (hk : k < 6) (ht : td U L (6 * l + k)) (q3 x2 x3 x5 : Int32) (kL : Int32 → Int32 → Int32 → Option Int32) : f_X8_tells_101 (stR M 18 f) q3 x2 x3 x5 kL (nI s) (nI l) (nI k) FU (0 : Int32) (-40 : Int32) = bnd (f_X8_larger (nI (np T As D y q s (6 * l + k))) (q3 - nI (np T As D y q s (6 * l + k)))) fun q17 : Int32 => if x3 ≤ q17 then (f_X8_tells_198 x3 x5 kL q17 x2) else (f_X8_tells_198 x3 x5 kL q17 ((((100 : Int32) * nI s) + ((10 : Int32) * nI l)) + nI k)) := by
  have hlp := loopE (fun t i (c : Int32) => f_X8_tells_101 (stR M 18 f) q3 x2 x3 x5 kL (nI s) (nI l) (nI k) t c (nI i - nI 40)) 0 81 (by omega) (by omega) (fun i c => c = nI (fb_ct (pj T As D y q s (6 * l + k)) i)) (fun c => bnd (f_X8_larger c (q3 - c)) fun q17 : Int32 => if x3 ≤ q17 then (f_X8_tells_198 x3 x5 kL q17 x2) else (f_X8_tells_198 x3 x5 kL q17 ((((100 : Int32) * nI s) + ((10 : Int32) * nI l)) + nI k))) 0 rfl
    (fun t c h => by
      show f_X8_tells_101 (stR M 18 f) q3 x2 x3 x5 kL (nI s) (nI l) (nI k) (t + 1) c (nI 81 - nI 40) = _
      rw [f_X8_tells_101, if_pos (show (40 : Int32) < nI 81 - nI 40 by decide)])
    (fun t i c hi h => by
      obtain ⟨m1, m2, m3⟩ := mo_1 i hi
      have e1 : f_X8_isSo (stR M 18 f) (nI i - nI 40) (nI i - nI 40) = some (sp T As D y q i) := X8_isSo hT hM hA hy h3 _ _
      have e2 : f_X8_meets (stR M 18 f) (nI s) (nI l) (nI k) (nI i - nI 40) (nI i - nI 40) (dm T D y) = some (ax T D y s (6 * l + k) i) := X8_meets hT (hM.slot f) y hs _ _ (by omega) ht
      have hd : f_X8_dampOf (stR M 18 f) ((stR M 18 f).2 18 (3 : Int32).toNatClampNeg) = some (dm T D y) := by
        show f_X8_dampOf (stR M 18 f) (f 3) = _
        rw [h3]
        exact X8_dampOf hT (hM.slot f) hy
      refine ⟨nI (fb_ct (pj T As D y q s (6 * l + k)) (i + 1)), ?_, rfl⟩
      show f_X8_tells_101 (stR M 18 f) q3 x2 x3 x5 kL (nI s) (nI l) (nI k) (t + 1) c (nI i - nI 40) = f_X8_tells_101 (stR M 18 f) q3 x2 x3 x5 kL (nI s) (nI l) (nI k) t (nI (fb_ct (pj T As D y q s (6 * l + k)) (i + 1))) (nI (i + 1) - nI 40)
      rw [f_X8_tells_101, if_neg m1, e1, Option.bind_some, h, fb_ct_succ (pj T As D y q s (6 * l + k)) i]
      have hpj : pj T As D y q s (6 * l + k) i = (sp T As D y q i && ax T D y s (6 * l + k) i) := rfl
      rw [hpj]
      unfold f_X8_tells_152 f_X8_tells_153
      cases hsj : sp T As D y q i with
      | false =>
        rw [if_pos (show b2i false = 0 by decide), bnd_def, bnd_def, m2, Bool.false_and, if_neg (by decide)]
        show f_X8_tells_101 _ _ _ _ _ _ _ _ _ _ (nI _ + nI 0) _ = _
        rw [nI_add]
      | true =>
        rw [if_neg (show ¬ b2i true = 0 by decide), hd, Option.bind_some, e2, Option.bind_some, Bool.true_and]
        cases ax T D y s (6 * l + k) i with
        | false =>
          rw [if_pos (show b2i false = 0 by decide), bnd_def, bnd_def, m2, if_neg (by decide)]
          show f_X8_tells_101 _ _ _ _ _ _ _ _ _ _ (nI _ + nI 0) _ = _
          rw [nI_add]
        | true =>
          rw [if_neg (show ¬ b2i true = 0 by decide), bnd_def, bnd_def, m2, if_pos rfl]
          show f_X8_tells_101 _ _ _ _ _ _ _ _ _ _ (nI _ + nI 1) _ = _
          rw [nI_add])
  obtain ⟨c, h1, h2⟩ := hlp
  rw [h2] at h1
  exact h1
/-- one pair more looked at: the best so far, as code and part -/
def tst2 (T As : Ob) (U L D y q j : Nat) (st : Option (Nat × Nat)) : Option (Nat × Nat) :=
  if td U L (j % 12) ∧ hq As (j / 12) (j % 12) q = false then
    (match st with
    | none => some (100 * (j / 12) + 10 * (j % 12 / 6) + j % 6, gpN T As D y q (j / 12) (j % 12))
    | some cp => if cp.2 ≤ gpN T As D y q (j / 12) (j % 12) then some cp else some (100 * (j / 12) + 10 * (j % 12 / 6) + j % 6, gpN T As D y q (j / 12) (j % 12)))
  else st
def tw : Option (Nat × Nat) → Int32
  | none => -nI 4
  | some cp => nI cp.1
def tf (b : Nat) : Option (Nat × Nat) → Int32
  | none => nI b
  | some cp => nI cp.2
theorem up_tst2 (T As : Ob) (U L D y q : Nat) : ∀ n cp, n ≤ 84 → up (tst2 T As U L D y q) 0 n none = some cp → cp.1 ≤ 711 ∧ cp.2 ≤ 81
  | 0, cp, _, h => by cases h
  | n + 1, cp, hn, h => by
    rw [up_succ, Nat.zero_add] at h
    have hg := gpN_le T As D y q (n / 12) (n % 12)
    unfold tst2 at h
    by_cases hc : td U L (n % 12) ∧ hq As (n / 12) (n % 12) q = false
    · rw [if_pos hc] at h
      cases hu : up (tst2 T As U L D y q) 0 n none with
      | none =>
        unfold tst2 at hu
        rw [hu] at h
        cases h
        exact ⟨by show 100 * (n / 12) + 10 * (n % 12 / 6) + n % 6 ≤ 711; omega, hg⟩
      | some cp' =>
        have ih := up_tst2 T As U L D y q n cp' (by omega) hu
        unfold tst2 at hu
        rw [hu] at h
        by_cases hc2 : cp'.2 ≤ gpN T As D y q (n / 12) (n % 12)
        · have h' : (if cp'.2 ≤ gpN T As D y q (n / 12) (n % 12) then some cp' else some (100 * (n / 12) + 10 * (n % 12 / 6) + n % 6, gpN T As D y q (n / 12) (n % 12))) = some cp := h
          rw [if_pos hc2] at h'
          cases h'
          exact ih
        · have h' : (if cp'.2 ≤ gpN T As D y q (n / 12) (n % 12) then some cp' else some (100 * (n / 12) + 10 * (n % 12 / 6) + n % 6, gpN T As D y q (n / 12) (n % 12))) = some cp := h
          rw [if_neg hc2] at h'
          cases h'
          exact ⟨by show 100 * (n / 12) + 10 * (n % 12 / 6) + n % 6 ≤ 711; omega, hg⟩
    · rw [if_neg hc] at h
      exact up_tst2 T As U L D y q n cp (by omega) h
theorem smaller_at {a b : Nat} (ha : a < 2 ^ 31) (hb : b < 2 ^ 31) : f_X8_smaller (nI a) (nI b) = nI (min a b) := by
  unfold f_X8_smaller
  by_cases h : b ≤ a
  · rw [if_pos (nI_le h ha), Nat.min_eq_right h]
  · rw [if_neg (nI_ge (by omega) hb), Nat.min_eq_left (by omega)]
theorem P_tells {Te To No As M : Ob} {Pa Ke : PS} (h : REL Te To No Pa Ke As M) (o7 By : Ob) (v1 : Int32) : ∃ r7 r8, f_X7_tells o7 To No As By v1 = some r7 ∧ f_X8_tells M v1 = some r8 ∧ r7.1 = r8 := by
  obtain ⟨n, S, U, L, N, D, y, a, k, q, hTe, hC, hA⟩ := h
  obtain ⟨M0, f, rfl⟩ : ∃ M0 f, M = stR M0 18 f := ⟨M, M.2 18, (stR_self M 18).symm⟩
  obtain ⟨hT, hS1, hN1, hM, hR, hPK, hy, ha, hPa, hk1, hKe⟩ := hC.out
  have h3 : f 3 = nI y := hR.2.2.2.1.trans hPK.1
  have p3 := hPK.1
  have lS := hT.2.2.2.2.2.1
  have hTS := hT.1
  have m2 := hM.1
  have hy2 : y < 2 ^ 31 := by omega
  unfold f_X7_tells f_X8_tells
  rcases wi_or v1 (a := 0) (b := 1) (by omega) (by omega) with hw | ⟨u, -, hu, rfl⟩
  · refine ⟨(-1, By), -1, ?_, ?_, rfl⟩
    · simp (disch := omega) only [↓pk_rem, nl_0, nl_1, nl_2, nl_3, nl_4, nl_6, nl_7, nl_8, nl_9, nl_10, nl_11, nl_12, nl_20, nl_23, nl_24, nl_26, nl_32, nl_39, nl_40, nl_44, nl_48, nl_57, nl_59, nl_60, nl_61, nl_64, nl_81, nl_82, nl_99, nl_100, nl_126, nl_200, nl_208, nl_286, nl_287, nl_290, nl_312, nl_999, nl_6561, nl_9999, nI_add, pk_mul, pk_div, pk_sub, ev_leT, ev_leF, ev_ltT, ev_ltF, ev_eqT, ev_eqF, nI_clamp, nle_T, nle_F, nlt_F, or_false, false_or, or_self, if_true, if_false, bnd_def, Option.bind_some, st1s, st1n, st2, st3, st4s, st4n, eq_self, tf_1, tf_2, b2iT, b2iF, b2iE, ob_1, ob_2, f_X7_cell_at, f_X7_setCell_at, in_0, wi_at, in_0_1, in_0_2, in_0_4, in_0_8, in_0_9, in_0_10, in_0_40, in_0_99, in_1_20, in_1_60, in_0_9999, in_m99_99, in_32_126, in_48_57, hw]
    · simp (disch := omega) only [↓pk_rem, nl_0, nl_1, nl_2, nl_3, nl_4, nl_6, nl_7, nl_8, nl_9, nl_10, nl_11, nl_12, nl_20, nl_23, nl_24, nl_26, nl_32, nl_39, nl_40, nl_44, nl_48, nl_57, nl_59, nl_60, nl_61, nl_64, nl_81, nl_82, nl_99, nl_100, nl_126, nl_200, nl_208, nl_286, nl_287, nl_290, nl_312, nl_999, nl_6561, nl_9999, nI_add, pk_mul, pk_div, pk_sub, ev_leT, ev_leF, ev_ltT, ev_ltF, ev_eqT, ev_eqF, nI_clamp, nle_T, nle_F, nlt_F, or_false, false_or, or_self, if_true, if_false, bnd_def, Option.bind_some, st1s, st1n, st2, st3, st4s, st4n, eq_self, tf_1, tf_2, b2iT, b2iF, b2iE, ob_1, ob_2, f_X7_cell_at, f_X7_setCell_at, in_0, wi_at, in_0_1, in_0_2, in_0_4, in_0_8, in_0_9, in_0_10, in_0_40, in_0_99, in_1_20, in_1_60, in_0_9999, in_m99_99, in_32_126, in_48_57, hw]
  obtain ⟨r, r1, r2, r3, r4⟩ := X7_findSo (By := By) hT hA hy2
  have r1' : f_X1_findSo By To As (No.1 3) = some r := by rw [p3]; exact r1
  have e8 := X8_shifts hT hM hA hy2 h3 (u := 0) (by omega)
  rw [if_pos rfl] at e8
  have hcl := cw_le (sp To As D y q) 81
  generalize hF : tst2 To As U L D y q = F
  have hF2 : ∀ m cp, m ≤ 84 → up F 0 m none = some cp → cp.1 ≤ 711 ∧ cp.2 ≤ 81 := by rw [← hF]; exact up_tst2 To As U L D y q
  -- the end of both
  have hend : ∀ st : Option (Nat × Nat), (∀ cp, st = some cp → cp.1 ≤ 711 ∧ cp.2 ≤ 81) → f_X7_tells_166 (nI u) r (tw st) (tf 82 st) = some (if u = 0 then tw st else match st with | none => -nI 4 | some cp => nI cp.2, r) ∧ f_X8_tells_212 (nI u) (tw st) (tf 99 st) = some (if u = 0 then tw st else match st with | none => -nI 4 | some cp => nI cp.2) := by
    intro st hst
    unfold f_X7_tells_166 f_X8_tells_212
    cases st with
    | none =>
      have c1 : (tw none < 0) := by unfold tw; decide
      rcases (show u = 0 ∨ u = 1 by omega) with rfl | rfl
      · rw [if_pos (show nI 0 = 0 from rfl), if_pos c1, if_pos rfl]; exact ⟨rfl, rfl⟩
      · rw [if_neg (show ¬ nI 1 = 0 by decide), if_pos c1, if_pos (show tw none = -4 from rfl), if_neg (show ¬ 1 = 0 by omega)]; exact ⟨rfl, rfl⟩
    | some cp =>
      obtain ⟨b1, b2⟩ := hst cp rfl
      have c1 : ¬ (tw (some cp) < 0) := nI_pos (by omega)
      have c2 : ¬ (tw (some cp) = -4) := fun e => by
        have e' : nI cp.1 = -4 := e
        have := congrArg Int32.toInt e'
        rw [nI_toInt (by omega), show (-4 : Int32).toInt = -4 by decide +kernel] at this
        omega
      rw [if_neg c1, if_neg c2]
      rcases (show u = 0 ∨ u = 1 by omega) with rfl | rfl
      · rw [if_pos (show nI 0 = 0 from rfl), if_pos (show nI 0 = 0 from rfl), if_pos rfl]; exact ⟨rfl, rfl⟩
      · rw [if_neg (show ¬ nI 1 = 0 by decide), if_neg (show ¬ nI 1 = 0 by decide), if_neg (show ¬ 1 = 0 by omega)]; exact ⟨rfl, rfl⟩
  by_cases hz : cw (sp To As D y q) 81 = 0
  · -- no such shift
    obtain ⟨g1, g2⟩ := hend none (fun cp h => by cases h)
    refine ⟨(if u = 0 then tw none else -nI 4, r), if u = 0 then tw none else -nI 4, ?_, ?_, rfl⟩
    · simp (disch := omega) only [↓pk_rem, nl_0, nl_1, nl_2, nl_3, nl_4, nl_6, nl_7, nl_8, nl_9, nl_10, nl_11, nl_12, nl_20, nl_23, nl_24, nl_26, nl_32, nl_39, nl_40, nl_44, nl_48, nl_57, nl_59, nl_60, nl_61, nl_64, nl_81, nl_82, nl_99, nl_100, nl_126, nl_200, nl_208, nl_286, nl_287, nl_290, nl_312, nl_999, nl_6561, nl_9999, nI_add, pk_mul, pk_div, pk_sub, ev_leT, ev_leF, ev_ltT, ev_ltF, ev_eqT, ev_eqF, nI_clamp, nle_T, nle_F, nlt_F, or_false, false_or, or_self, if_true, if_false, bnd_def, Option.bind_some, st1s, st1n, st2, st3, st4s, st4n, eq_self, tf_1, tf_2, b2iT, b2iF, b2iE, ob_1, ob_2, f_X7_cell_at, f_X7_setCell_at, in_0, wi_at, in_0_1, in_0_2, in_0_4, in_0_8, in_0_9, in_0_10, in_0_40, in_0_99, in_1_20, in_1_60, in_0_9999, in_m99_99, in_32_126, in_48_57, r1']
      have hx : f_X7_tells_42 To No As (nI u) r FU (-nI 4) (nI 82) (nI 0) = f_X7_tells_166 (nI u) r (tw none) (tf 82 none) := by
        rw [FU_eq, f_X7_tells_42, hTS, r2, hz, if_neg (nI_ge (by omega) (by omega)), if_pos (by decide)]
        rfl
      exact hx.trans g1
    · simp (disch := omega) only [↓pk_rem, nl_0, nl_1, nl_2, nl_3, nl_4, nl_6, nl_7, nl_8, nl_9, nl_10, nl_11, nl_12, nl_20, nl_23, nl_24, nl_26, nl_32, nl_39, nl_40, nl_44, nl_48, nl_57, nl_59, nl_60, nl_61, nl_64, nl_81, nl_82, nl_99, nl_100, nl_126, nl_200, nl_208, nl_286, nl_287, nl_290, nl_312, nl_999, nl_6561, nl_9999, nI_add, pk_mul, pk_div, pk_sub, ev_leT, ev_leF, ev_ltT, ev_ltF, ev_eqT, ev_eqF, nI_clamp, nle_T, nle_F, nlt_F, or_false, false_or, or_self, if_true, if_false, bnd_def, Option.bind_some, st1s, st1n, st2, st3, st4s, st4n, eq_self, tf_1, tf_2, b2iT, b2iF, b2iE, ob_1, ob_2, f_X7_cell_at, f_X7_setCell_at, in_0, wi_at, in_0_1, in_0_2, in_0_4, in_0_8, in_0_9, in_0_10, in_0_40, in_0_99, in_1_20, in_1_60, in_0_9999, in_m99_99, in_32_126, in_48_57, e8]
      have hx : f_X8_tells_28 (stR M0 18 f) (nI u) (nI (cw (sp To As D y q) 81)) FU (-nI 4) (nI 99) (nI 0) = f_X8_tells_212 (nI u) (tw none) (tf 99 none) := by
        have e0 : (12 : Int32) * (stR M0 18 f).1 2 = nI (12 * S) := by
          show nI 12 * M0.1 2 = _
          rw [m2, pk_mul]
        rw [FU_eq, f_X8_tells_28, e0, hz, if_neg (nI_ge (by omega) (by omega)), if_pos (by decide)]
        rfl
      exact hx.trans g2
  have h7 : f_X7_tells_42 To No As (nI u) r FU (-4 : Int32) (82 : Int32) (0 : Int32) = f_X7_tells_166 (nI u) r (tw (up F 0 (12 * S) none)) (tf 82 (up F 0 (12 * S) none)) := by
    have hl := loopE (fun t i (st : Option (Nat × Nat)) => f_X7_tells_42 To No As (nI u) r t (tw st) (tf 82 st) (nI i)) 0 S (by omega) (by omega) (fun i st => st = up F 0 (12 * i) none) (fun st => f_X7_tells_166 (nI u) r (tw st) (tf 82 st)) none rfl
      (fun t st h => by
        show f_X7_tells_42 To No As (nI u) r (t + 1) (tw st) (tf 82 st) (nI S) = _
        rw [f_X7_tells_42, hTS, if_pos (nI_le (Nat.le_refl _) (by omega))])
      (fun t s st hs h => by
        have hin := loopE (fun t' o (st' : Option (Nat × Nat)) => f_X7_tells_67 To No As r (nI s) (f_X7_tells_42 To No As (nI u) r t) t' (tw st') (tf 82 st') (nI o)) 0 12 (by omega) (by omega) (fun o st' => st' = up F 0 (12 * s + o) none) (fun st' => f_X7_tells_42 To No As (nI u) r t (tw st') (tf 82 st') (nI (s + 1))) st h
          (fun t' st' h' => by
            show f_X7_tells_67 To No As r (nI s) (f_X7_tells_42 To No As (nI u) r t) (t' + 1) (tw st') (tf 82 st') (nI 12) = _
            rw [f_X7_tells_67, if_pos (by decide), bnd_def, nI_1])
          (fun t' o st' ho h' => by
            have hb := hF2 (12 * s + o)
            rw [← h'] at hb
            refine ⟨F (12 * s + o) st', ?_, by rw [← Nat.add_assoc, up_succ, Nat.zero_add, ← h']⟩
            show f_X7_tells_67 To No As r (nI s) (f_X7_tells_42 To No As (nI u) r t) (t' + 1) (tw st') (tf 82 st') (nI o) = f_X7_tells_67 To No As r (nI s) (f_X7_tells_42 To No As (nI u) r t) t' (tw (F (12 * s + o) st')) (tf 82 (F (12 * s + o) st')) (nI (o + 1))
            have hn : ¬ (12 : Int32) ≤ nI o := nI_ge (b := 12) ho (by omega)
            have d1 : (12 * s + o) / 12 = s := by omega
            have d2 : (12 * s + o) % 12 = o := by omega
            have d3 : (12 * s + o) % 6 = o % 6 := by omega
            rw [f_X7_tells_67, if_neg hn, X7_isTold hT ho, Option.bind_some, ← hF]
            unfold tst2 f_X7_tells_154
            rw [d1, d2, d3]
            by_cases ht : td U L o
            · rw [decide_eq_true ht, if_neg (show ¬ b2i true = 0 by decide), X7_holds hA (by omega) ho, Option.bind_some]
              cases hh : hq As s o q with
              | true =>
                rw [if_neg (show ¬ b2i true = 0 by decide), bnd_def, nI_1, if_neg (fun z => absurd z.2 (by decide))]
              | false =>
                have hg := gpN_le To As D y q s o
                have eg : f_X1_greaterPart r To (No.1 3) (nI s) (nI o) = some (nI (gpN To As D y q s o)) := by rw [p3]; exact X7_greaterPart hT hy2 (by omega) ho r2 r4
                have ecode : bnd (f_X7_landOf (nI o)) (fun q17 : Int32 => bnd (f_X7_kOf (nI o)) fun q18 : Int32 => bnd ((((100 : Int32) * nI s) + ((10 : Int32) * q17)) + q18) fun x19 : Int32 => bnd (nI o + (1 : Int32)) fun x11 : Int32 => f_X7_tells_67 To No As r (nI s) (f_X7_tells_42 To No As (nI u) r t) t' x19 (nI (gpN To As D y q s o)) x11) = f_X7_tells_67 To No As r (nI s) (f_X7_tells_42 To No As (nI u) r t) t' (nI (100 * s + 10 * (o / 6) + o % 6)) (nI (gpN To As D y q s o)) (nI (o + 1)) := by
                  unfold f_X7_landOf f_X7_kOf
                  by_cases h6 : o < 6
                  · have h6' : ¬ (6 : Int32) ≤ nI o := nI_ge (b := 6) h6 (by omega)
                    have c1 : 100 * s + 10 * 0 + o = 100 * s + 10 * (o / 6) + o % 6 := by omega
                    rw [if_neg h6', if_neg h6', bnd_def, bnd_def, bnd_def, bnd_def, nI_1, ← c1]
                    show f_X7_tells_67 _ _ _ _ _ _ _ (nI 100 * nI s + nI 10 * nI 0 + nI o) _ _ = _
                    rw [pk_mul, pk_mul, nI_add, nI_add]
                  · have h6' : (6 : Int32) ≤ nI o := nI_le (a := 6) (by omega) (by omega)
                    have c1 : 100 * s + 10 * 1 + (o - 6) = 100 * s + 10 * (o / 6) + o % 6 := by omega
                    rw [if_pos h6', if_pos h6', bnd_def, bnd_def, bnd_def, bnd_def, nI_1, ← c1]
                    show f_X7_tells_67 _ _ _ _ _ _ _ (nI 100 * nI s + nI 10 * nI 1 + (nI o - nI 6)) _ _ = _
                    rw [pk_sub (by omega), pk_mul, pk_mul, nI_add, nI_add]
                rw [if_pos (show b2i false = 0 by decide), eg, Option.bind_some, ecode, if_pos (show td U L o ∧ false = false from ⟨ht, rfl⟩)]
                cases st' with
                | none => rw [if_neg (show ¬ tf 82 none ≤ nI (gpN To As D y q s o) from nI_ge (by omega) (by omega))]; rfl
                | some cp =>
                  obtain ⟨b1, b2⟩ := hb cp (by omega) rfl
                  by_cases hcp : cp.2 ≤ gpN To As D y q s o
                  · rw [if_pos (show tf 82 (some cp) ≤ nI (gpN To As D y q s o) from nI_le hcp (by omega)), bnd_def, nI_1]
                    show _ = f_X7_tells_67 _ _ _ _ _ _ _ (tw (if cp.2 ≤ gpN To As D y q s o then some cp else _)) (tf 82 (if cp.2 ≤ gpN To As D y q s o then some cp else _)) _
                    rw [if_pos hcp]
                  · rw [if_neg (show ¬ tf 82 (some cp) ≤ nI (gpN To As D y q s o) from nI_ge (by omega) (by omega))]
                    show _ = f_X7_tells_67 _ _ _ _ _ _ _ (tw (if cp.2 ≤ gpN To As D y q s o then some cp else _)) (tf 82 (if cp.2 ≤ gpN To As D y q s o then some cp else _)) _
                    rw [if_neg hcp]
                    rfl
            · rw [decide_eq_false ht, if_pos (show b2i false = 0 by decide), bnd_def, nI_1, if_neg (fun z => ht z.1)])
        obtain ⟨st', c1, c2⟩ := hin
        refine ⟨st', ?_, c2⟩
        show f_X7_tells_42 To No As (nI u) r (t + 1) (tw st) (tf 82 st) (nI s) = _
        rw [f_X7_tells_42, hTS, if_neg (nI_ge hs (by omega)), r2, if_neg (nI_nle (by omega) (by omega))]
        exact c1)
    obtain ⟨st, l1, l2⟩ := hl
    rw [l2] at l1
    exact l1
  have h8 : f_X8_tells_28 (stR M0 18 f) (nI u) (nI (cw (sp To As D y q) 81)) FU (-4 : Int32) (99 : Int32) (0 : Int32) = f_X8_tells_212 (nI u) (tw (up F 0 (12 * S) none)) (tf 99 (up F 0 (12 * S) none)) := by
    have e0 : (12 : Int32) * (stR M0 18 f).1 2 = nI (12 * S) := by
      show nI 12 * M0.1 2 = _
      rw [m2, pk_mul]
    have hl := loopE (fun t i (st : Option (Nat × Nat)) => f_X8_tells_28 (stR M0 18 f) (nI u) (nI (cw (sp To As D y q) 81)) t (tw st) (tf 99 st) (nI i)) 0 (12 * S) (by omega) (by omega) (fun i st => st = up F 0 i none) (fun st => f_X8_tells_212 (nI u) (tw st) (tf 99 st)) none rfl
      (fun t st h => by
        show f_X8_tells_28 (stR M0 18 f) (nI u) (nI (cw (sp To As D y q) 81)) (t + 1) (tw st) (tf 99 st) (nI (12 * S)) = _
        rw [f_X8_tells_28, e0, if_pos (nI_le (Nat.le_refl _) (by omega))])
      (fun t j st hj h => by
        have hb := hF2 j
        rw [← h] at hb
        refine ⟨F j st, ?_, by rw [up_succ, Nat.zero_add, ← h]⟩
        show f_X8_tells_28 (stR M0 18 f) (nI u) (nI (cw (sp To As D y q) 81)) (t + 1) (tw st) (tf 99 st) (nI j) = f_X8_tells_28 (stR M0 18 f) (nI u) (nI (cw (sp To As D y q) 81)) t (tw (F j st)) (tf 99 (F j st)) (nI (j + 1))
        have k1 : nI j / (12 : Int32) = nI (j / 12) := pk_div (d := 12) (by omega) (by omega) (by omega)
        have k2 : nI j - nI j / (12 : Int32) * (12 : Int32) = nI (j % 12) := pk_rem (d := 12) (by omega) (by omega) (by omega)
        have k3 : nI j - nI j / (6 : Int32) * (6 : Int32) = nI (j % 6) := pk_rem (d := 6) (by omega) (by omega) (by omega)
        have k4 : nI (j % 12) / (6 : Int32) = nI (j % 12 / 6) := pk_div (d := 6) (by omega) (by omega) (by omega)
        obtain ⟨C, hC1, c1, c2⟩ := many_at hT hM (i := j % 12) (by omega)
        have c1' : (stR M0 18 f).2 0 (j % 12 / 6) = nI C := c1
        have c3 : j % 12 % 6 = j % 6 := by omega
        rw [c3] at c2
        rw [f_X8_tells_28, e0, if_neg (nI_ge hj (by omega)), if_neg (nI_nle (by omega) (by omega)), bnd_def, bnd_def, bnd_def, k2, k1, k3, k4, if_neg (nI_in (by omega) (by omega)), nI_clamp (by omega), c1', ← hF]
        unfold tst2
        by_cases ht : td U L (j % 12)
        · have hlt := c2.mp ht
          have d4 : 6 * (j % 12 / 6) + j % 6 = j % 12 := by omega
          have hask := X8_isAsked (s := j / 12) (l := j % 12 / 6) (k := j % 6) hA lS (by omega) (by omega) (by omega)
          rw [d4] at hask
          rw [if_neg (nI_ge hlt (by omega)), hask, Option.bind_some]
          cases hh : hq As (j / 12) (j % 12) q with
          | true =>
            unfold f_X8_tells_206
            rw [if_neg (show ¬ b2i true = 0 by decide), bnd_def, nI_1, if_neg (fun z => absurd z.2 (by decide))]
          | false =>
            have hg := gpN_le To As D y q (j / 12) (j % 12)
            have h101 := X8_tells101 hT hM hA hy2 h3 (s := j / 12) (l := j % 12 / 6) (k := j % 6) (by omega) (by omega) (by omega) (by rw [d4]; exact ht) (nI (cw (sp To As D y q) 81)) (tw st) (tf 99 st) (nI j) (f_X8_tells_28 (stR M0 18 f) (nI u) (nI (cw (sp To As D y q) 81)) t)
            rw [d4] at h101
            have hnl := np_le To As D y q (j / 12) (j % 12)
            have hmx : f_X8_larger (nI (np To As D y q (j / 12) (j % 12))) (nI (cw (sp To As D y q) 81) - nI (np To As D y q (j / 12) (j % 12))) = nI (gpN To As D y q (j / 12) (j % 12)) := by
              rw [pk_sub hnl, (max_at (by omega) (by omega)).1]
              rfl
            rw [if_pos (show b2i false = 0 by decide), h101, hmx, bnd_def, if_pos (show td U L (j % 12) ∧ false = false from ⟨ht, rfl⟩)]
            unfold f_X8_tells_198 f_X8_tells_206
            have ecode : ((((100 : Int32) * nI (j / 12)) + ((10 : Int32) * nI (j % 12 / 6))) + nI (j % 6)) = nI (100 * (j / 12) + 10 * (j % 12 / 6) + j % 6) := by
              show nI 100 * nI (j / 12) + nI 10 * nI (j % 12 / 6) + nI (j % 6) = _
              rw [pk_mul, pk_mul, nI_add, nI_add]
            rw [ecode, bnd_def, bnd_def, bnd_def, bnd_def, nI_1]
            cases st with
            | none =>
              rw [if_neg (show ¬ tf 99 none ≤ nI (gpN To As D y q (j / 12) (j % 12)) from nI_ge (by omega) (by omega)), show tf 99 none = nI 99 from rfl, smaller_at (by omega) (by omega), Nat.min_eq_left (by omega)]
              rfl
            | some cp =>
              obtain ⟨b1, b2⟩ := hb cp (by omega) rfl
              rw [show tf 99 (some cp) = nI cp.2 from rfl, smaller_at (by omega) (by omega)]
              show _ = f_X8_tells_28 _ _ _ _ (tw (if cp.2 ≤ gpN To As D y q (j / 12) (j % 12) then some cp else _)) (tf 99 (if cp.2 ≤ gpN To As D y q (j / 12) (j % 12) then some cp else _)) _
              by_cases hcp : cp.2 ≤ gpN To As D y q (j / 12) (j % 12)
              · rw [if_pos (nI_le hcp (by omega)), if_pos hcp, Nat.min_eq_right hcp]
                rfl
              · rw [if_neg (nI_ge (by omega) (by omega)), if_neg hcp, Nat.min_eq_left (by omega)]
                rfl
        · have hlt : ¬ j % 6 < C := fun z => ht (c2.mpr z)
          unfold f_X8_tells_206
          rw [if_pos (nI_le (by omega) (by omega)), bnd_def, nI_1, if_neg (fun z => ht z.1)])
    obtain ⟨st, l1, l2⟩ := hl
    rw [l2] at l1
    exact l1
  obtain ⟨g1, g2⟩ := hend (up F 0 (12 * S) none) (fun cp h => hF2 _ cp (by omega) h)
  refine ⟨(if u = 0 then tw (up F 0 (12 * S) none) else match up F 0 (12 * S) none with | none => -nI 4 | some cp => nI cp.2, r), if u = 0 then tw (up F 0 (12 * S) none) else match up F 0 (12 * S) none with | none => -nI 4 | some cp => nI cp.2, ?_, ?_, rfl⟩
  · simp (disch := omega) only [↓pk_rem, nl_0, nl_1, nl_2, nl_3, nl_4, nl_6, nl_7, nl_8, nl_9, nl_10, nl_11, nl_12, nl_20, nl_23, nl_24, nl_26, nl_32, nl_39, nl_40, nl_44, nl_48, nl_57, nl_59, nl_60, nl_61, nl_64, nl_81, nl_82, nl_99, nl_100, nl_126, nl_200, nl_208, nl_286, nl_287, nl_290, nl_312, nl_999, nl_6561, nl_9999, nI_add, pk_mul, pk_div, pk_sub, ev_leT, ev_leF, ev_ltT, ev_ltF, ev_eqT, ev_eqF, nI_clamp, nle_T, nle_F, nlt_F, or_false, false_or, or_self, if_true, if_false, bnd_def, Option.bind_some, st1s, st1n, st2, st3, st4s, st4n, eq_self, tf_1, tf_2, b2iT, b2iF, b2iE, ob_1, ob_2, f_X7_cell_at, f_X7_setCell_at, in_0, wi_at, in_0_1, in_0_2, in_0_4, in_0_8, in_0_9, in_0_10, in_0_40, in_0_99, in_1_20, in_1_60, in_0_9999, in_m99_99, in_32_126, in_48_57, r1']
    exact h7.trans g1
  · simp (disch := omega) only [↓pk_rem, nl_0, nl_1, nl_2, nl_3, nl_4, nl_6, nl_7, nl_8, nl_9, nl_10, nl_11, nl_12, nl_20, nl_23, nl_24, nl_26, nl_32, nl_39, nl_40, nl_44, nl_48, nl_57, nl_59, nl_60, nl_61, nl_64, nl_81, nl_82, nl_99, nl_100, nl_126, nl_200, nl_208, nl_286, nl_287, nl_290, nl_312, nl_999, nl_6561, nl_9999, nI_add, pk_mul, pk_div, pk_sub, ev_leT, ev_leF, ev_ltT, ev_ltF, ev_eqT, ev_eqF, nI_clamp, nle_T, nle_F, nlt_F, or_false, false_or, or_self, if_true, if_false, bnd_def, Option.bind_some, st1s, st1n, st2, st3, st4s, st4n, eq_self, tf_1, tf_2, b2iT, b2iF, b2iE, ob_1, ob_2, f_X7_cell_at, f_X7_setCell_at, in_0, wi_at, in_0_1, in_0_2, in_0_4, in_0_8, in_0_9, in_0_10, in_0_40, in_0_99, in_1_20, in_1_60, in_0_9999, in_m99_99, in_32_126, in_48_57, e8]
    exact h8.trans g2
