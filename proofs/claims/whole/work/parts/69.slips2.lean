/-- the class weighs -/
theorem X7_weigh {o7 : Ob} {n x : Nat} (hn : n ≤ 8) (hx : x ≤ 10) : ∃ r, f_X7_weighSlips o7 (nI n) (nI x) = some r ∧ ∀ d, d ≤ n → r.2 10 d = nI (lk x n d) := by
  have hmul : ∀ a, nI a * nI x = nI (a * x) := fun a => pk_mul a x
  have h10 : (10 : Int32) - nI x = nI (10 - x) := pk_sub (b := x) (a := 10) hx
  -- the rounds
  have h33 : ∀ o : Ob, (∀ d, d ≤ n → o.2 10 d = nI (lk x 0 d)) → ∃ r, f_X7_weighSlips_33 (nI n) (nI x) FU (1 : Int32) o = some r ∧ ∀ d, d ≤ n → r.2 10 d = nI (lk x n d) := by
    intro o ho
    refine loopE (fun t i (o1 : Ob) => f_X7_weighSlips_33 (nI n) (nI x) t (nI (i + 1)) o1) 0 n (by omega) (by omega) (fun i o1 => ∀ d, d ≤ n → o1.2 10 d = nI (lk x i d)) (fun o1 => some o1) o ho
      (fun t o1 h => by
        show f_X7_weighSlips_33 (nI n) (nI x) (t + 1) (nI (n + 1)) o1 = _
        rw [f_X7_weighSlips_33, if_pos (nI_lt (by omega) (by omega))])
      (fun t i o1 hi h => ?_)
    -- one round, from i + 1 down
    have hin := loopE (fun t' j (o2 : Ob) => f_X7_weighSlips_41 (nI x) (nI (i + 1)) (f_X7_weighSlips_33 (nI n) (nI x) t) t' (nI (i + 1 - j)) o2) 0 (i + 1) (by omega) (by omega) (fun j o2 => ∀ d, d ≤ n → o2.2 10 d = if i + 1 - j < d then nI (lk x (i + 1) d) else nI (lk x i d)) (fun o2 => f_X7_weighSlips_33 (nI n) (nI x) t (nI (i + 1 + 1)) (stR o2 10 (upd (o2.2 10) 0 (nI (lk x i 0 * x))))) o1
      (fun d hd => by
        by_cases hdi : i + 1 - 0 < d
        · rw [if_pos hdi, h d hd, lk_out x i d (by omega), lk_out x (i + 1) d (by omega)]
        · rw [if_neg hdi, h d hd])
      (fun t' o2 h2 => by
        show f_X7_weighSlips_41 (nI x) (nI (i + 1)) _ (t' + 1) (nI (i + 1 - (i + 1))) o2 = _
        have h0 := h2 0 (by omega)
        rw [if_neg (by omega)] at h0
        have hz : i + 1 - (i + 1) = 0 := by omega
        have c1 : f_X7_cell 9 (o2.2 10) (0 : Int32) = some (o2.2 10 0) := f_X7_cell_at (n := 9) (by decide) (o2.2 10) (j := 0) (by decide)
        have c2 : ∀ v, f_X7_setCell 9 (o2.2 10) (0 : Int32) v = some (upd (o2.2 10) 0 v) := fun v => f_X7_setCell_at (n := 9) (by decide) (o2.2 10) (j := 0) (by decide) v
        rw [f_X7_weighSlips_41, hz, if_pos (by decide), c1, Option.bind_some, c2, Option.bind_some, bnd_def, nI_1, h0, hmul])
      (fun t' j o2 hj h2 => by
        obtain ⟨m, hm⟩ : ∃ m, i + 1 - j = m + 1 := ⟨i - j, by omega⟩
        have hm2 : i + 1 - (j + 1) = m := by omega
        refine ⟨stR o2 10 (upd (o2.2 10) (m + 1) (nI (lk x (i + 1) (m + 1)))), ?_, fun d hd => ?_⟩
        · show f_X7_weighSlips_41 (nI x) (nI (i + 1)) _ (t' + 1) (nI (i + 1 - j)) o2 = f_X7_weighSlips_41 (nI x) (nI (i + 1)) _ t' (nI (i + 1 - (j + 1))) _
          have a1 := h2 (m + 1) (by omega)
          have a2 := h2 m (by omega)
          rw [if_neg (by omega)] at a1 a2
          have c1 : f_X7_cell 9 (o2.2 10) (nI (m + 1)) = some (o2.2 10 (m + 1)) := f_X7_cell_at (by decide) _ (by omega)
          have c2 : f_X7_cell 9 (o2.2 10) (nI m) = some (o2.2 10 m) := f_X7_cell_at (by decide) _ (by omega)
          have c3 : ∀ v, f_X7_setCell 9 (o2.2 10) (nI (m + 1)) v = some (upd (o2.2 10) (m + 1) v) := fun v => f_X7_setCell_at (by decide) _ (by omega) v
          rw [f_X7_weighSlips_41, hm, hm2, if_neg (nI_nle (by omega) (by omega)), c1, Option.bind_some, nI_pred, c2, Option.bind_some, a1, a2, h10, hmul, pk_mul, nI_add, c3, Option.bind_some, bnd_def, pk_m1]
          rfl
        · show upd (o2.2 10) (m + 1) _ d = _
          by_cases hd1 : d = m + 1
          · subst hd1
            rw [pk_us, if_pos (by omega)]
          · rw [pk_un hd1, h2 d hd]
            by_cases hd2 : i + 1 - j < d
            · rw [if_pos hd2, if_pos (by omega)]
            · rw [if_neg hd2, if_neg (by omega)])
    obtain ⟨o2, c1, c2⟩ := hin
    refine ⟨stR o2 10 (upd (o2.2 10) 0 (nI (lk x i 0 * x))), ?_, fun d hd => ?_⟩
    · show f_X7_weighSlips_33 (nI n) (nI x) (t + 1) (nI (i + 1)) o1 = _
      rw [f_X7_weighSlips_33, if_neg (nI_nlt (by omega) (by omega))]
      exact c1
    · show upd (o2.2 10) 0 (nI (lk x i 0 * x)) d = nI (lk x (i + 1) d)
      by_cases hd0 : d = 0
      · subst hd0
        rw [pk_us]
        rfl
      · rw [pk_un hd0, c2 d hd, if_pos (by omega)]
  have hl := loopE (fun t i (o1 : Ob) => f_X7_weighSlips_11 (nI n) (nI x) t (nI i) o1) 1 (n + 1) (by omega) (by omega) (fun i o1 => 1 ≤ i ∧ ∀ d, d < i → o1.2 10 d = nI (lk x 0 d)) (fun o1 => f_X7_weighSlips_33 (nI n) (nI x) FU (1 : Int32) o1) (stR o7 10 (upd (o7.2 10) 0 1)) ⟨by omega, fun d hd => by
      have hd0 : d = 0 := by omega
      subst hd0
      show upd (o7.2 10) 0 1 0 = _
      rw [pk_us]
      rfl⟩
    (fun t o1 h => by
      show f_X7_weighSlips_11 (nI n) (nI x) (t + 1) (nI (n + 1)) o1 = _
      rw [f_X7_weighSlips_11, if_pos (nI_lt (by omega) (by omega))])
    (fun t i o1 hi h => by
      obtain ⟨h1, h2⟩ := h
      refine ⟨stR o1 10 (upd (o1.2 10) i 0), ?_, by omega, fun d hd => ?_⟩
      · show f_X7_weighSlips_11 (nI n) (nI x) (t + 1) (nI i) o1 = f_X7_weighSlips_11 (nI n) (nI x) t (nI (i + 1)) _
        rw [f_X7_weighSlips_11, if_neg (nI_nlt (by omega) (by omega)), f_X7_setCell_at (by decide) _ (by omega), Option.bind_some, bnd_def, nI_1]
      · show upd (o1.2 10) i 0 d = _
        by_cases hdi : d = i
        · subst hdi
          rw [pk_us, lk, if_neg (by omega)]
          rfl
        · rw [pk_un hdi]
          exact h2 d (by omega))
  obtain ⟨o1, c1, -, c2⟩ := hl
  obtain ⟨r, d1, d2⟩ := h33 o1 (fun d hd => c2 d (by omega))
  refine ⟨r, ?_, d2⟩
  have e0 : f_X7_setCell 9 (o7.2 10) (0 : Int32) (1 : Int32) = some (upd (o7.2 10) 0 1) := f_X7_setCell_at (n := 9) (by decide) (o7.2 10) (j := 0) (by decide) 1
  rw [f_X7_weighSlips, e0, Option.bind_some]
  exact c1.trans d1
/-- the Stand behind d of the pushes -/
def shv (T : Ob) (p w d : Nat) (P : Ob) : Ob := up (fun _ Q => s_shove T p w Q) 0 d P
theorem shv_succ (T : Ob) (p w d : Nat) (P : Ob) : shv T p w (d + 1) P = s_shove T p w (shv T p w d P) := by
  unfold shv
  rw [up_succ]
theorem shv_PK {T P : Ob} {S U L N D y p w : Nat} (hT : TK T S U L N D) (hP : PK P y) (hp : p < N) (hw : w < 2) : ∀ d, PK (shv T p w d P) y
  | 0 => hP
  | d + 1 => by rw [shv_succ]; exact s_shove_PK hT (shv_PK hT hP hp hw d) hp hw
theorem shv_same {T P Q : Ob} {p w : Nat} (h : ∀ j, j < 3 → Q.1 j = P.1 j) : ∀ d j, j < 3 → (shv T p w d Q).1 j = (shv T p w d P).1 j
  | 0, j, hj => h j hj
  | d + 1, j, hj => by
    have ih := shv_same (T := T) (p := p) (w := w) h d
    have i0 := ih 0 (by omega)
    have i2 := ih 2 (by omega)
    rw [shv_succ, shv_succ]
    rcases (show j = 0 ∨ j = 1 ∨ j = 2 by omega) with rfl | rfl | rfl
    · show f_X7_shiftBehind ((shv T p w d Q).1 0) (if nI 0 < T.2 5 p - (shv T p w d Q).1 2 then T.2 5 p - (shv T p w d Q).1 2 else nI 0) (nI w) = f_X7_shiftBehind ((shv T p w d P).1 0) (if nI 0 < T.2 5 p - (shv T p w d P).1 2 then T.2 5 p - (shv T p w d P).1 2 else nI 0) (nI w)
      rw [i0, i2]
    · exact i0
    · show (if nI 0 < (shv T p w d Q).1 2 - nI 1 then (shv T p w d Q).1 2 - nI 1 else nI 0) = (if nI 0 < (shv T p w d P).1 2 - nI 1 then (shv T p w d P).1 2 - nI 1 else nI 0)
      rw [i2]
def sod (T As No : Ob) (D y q p w d : Nat) : Nat := if allq T As D y ((shv T p w d No).1 0) ((shv T p w d No).1 1) q = true then 1 else 0
theorem P_slips {Te To No As M : Ob} {Pa Ke : PS} (h : REL Te To No Pa Ke As M) (o7 Tr : Ob) (v1 v2 v3 v4 v5 : Int32) : ∃ r7 r8, f_X7_slips o7 To No Tr As v1 v2 v3 v4 v5 = some r7 ∧ f_X8_slips M v1 v2 v3 v4 v5 = some r8 ∧ r7.1 = r8.1 ∧ REL Te To No Pa Ke As r8.2 := by
  have h0 := h
  obtain ⟨n0, S, U, L, N, D, y, a, k, q, hTe, hC, hA⟩ := h
  obtain ⟨M0, f, rfl⟩ : ∃ M0 f, M = stR M0 18 f := ⟨M, M.2 18, (stR_self M 18).symm⟩
  obtain ⟨hT, hS1, hN1, hM, hR, hPK, hy, ha, hPa, hk, hKe⟩ := hC.out
  have lS := hT.2.2.2.2.2.1
  have lN := hT.2.2.2.2.2.2.1
  have hy2 : y < 2 ^ 31 := by omega
  unfold f_X7_slips f_X8_slips
  rcases push_or hT (hM.slot f) hN1 o7 v1 v2 with ⟨h1, h2⟩ | ⟨p, w, hp, hw, rfl, rfl, h1, h2⟩
  · refine ⟨(-1, o7, Tr), (-1, stR M0 18 f), ?_, ?_, rfl, h0⟩
    · simp (disch := omega) only [↓pk_rem, nl_0, nl_1, nl_2, nl_3, nl_4, nl_6, nl_7, nl_8, nl_9, nl_10, nl_11, nl_12, nl_20, nl_23, nl_24, nl_26, nl_32, nl_39, nl_40, nl_44, nl_48, nl_57, nl_59, nl_60, nl_61, nl_64, nl_81, nl_82, nl_99, nl_100, nl_126, nl_200, nl_208, nl_286, nl_287, nl_290, nl_312, nl_999, nl_6561, nl_9999, nI_add, pk_mul, pk_div, pk_sub, ev_leT, ev_leF, ev_ltT, ev_ltF, ev_eqT, ev_eqF, nI_clamp, nle_T, nle_F, nlt_F, or_false, false_or, or_self, if_true, if_false, bnd_def, Option.bind_some, st1s, st1n, st2, st3, st4s, st4n, eq_self, tf_1, tf_2, b2iT, b2iF, b2iE, ob_1, ob_2, f_X7_cell_at, f_X7_setCell_at, in_0, wi_at, in_0_1, in_0_2, in_0_4, in_0_8, in_0_9, in_0_10, in_0_40, in_0_99, in_1_20, in_1_60, in_0_9999, in_m99_99, in_32_126, in_48_57, h1]
    · simp (disch := omega) only [↓pk_rem, nl_0, nl_1, nl_2, nl_3, nl_4, nl_6, nl_7, nl_8, nl_9, nl_10, nl_11, nl_12, nl_20, nl_23, nl_24, nl_26, nl_32, nl_39, nl_40, nl_44, nl_48, nl_57, nl_59, nl_60, nl_61, nl_64, nl_81, nl_82, nl_99, nl_100, nl_126, nl_200, nl_208, nl_286, nl_287, nl_290, nl_312, nl_999, nl_6561, nl_9999, nI_add, pk_mul, pk_div, pk_sub, ev_leT, ev_leF, ev_ltT, ev_ltF, ev_eqT, ev_eqF, nI_clamp, nle_T, nle_F, nlt_F, or_false, false_or, or_self, if_true, if_false, bnd_def, Option.bind_some, st1s, st1n, st2, st3, st4s, st4n, eq_self, tf_1, tf_2, b2iT, b2iF, b2iE, ob_1, ob_2, f_X7_cell_at, f_X7_setCell_at, in_0, wi_at, in_0_1, in_0_2, in_0_4, in_0_8, in_0_9, in_0_10, in_0_40, in_0_99, in_1_20, in_1_60, in_0_9999, in_m99_99, in_32_126, in_48_57, h2]
  rcases wi_or v3 (a := 0) (b := 8) (by omega) (by omega) with hwx | ⟨n, -, hn, rfl⟩
  · refine ⟨(-1, o7, Tr), (-1, stR M0 18 f), ?_, ?_, rfl, h0⟩
    · simp (disch := omega) only [↓pk_rem, nl_0, nl_1, nl_2, nl_3, nl_4, nl_6, nl_7, nl_8, nl_9, nl_10, nl_11, nl_12, nl_20, nl_23, nl_24, nl_26, nl_32, nl_39, nl_40, nl_44, nl_48, nl_57, nl_59, nl_60, nl_61, nl_64, nl_81, nl_82, nl_99, nl_100, nl_126, nl_200, nl_208, nl_286, nl_287, nl_290, nl_312, nl_999, nl_6561, nl_9999, nI_add, pk_mul, pk_div, pk_sub, ev_leT, ev_leF, ev_ltT, ev_ltF, ev_eqT, ev_eqF, nI_clamp, nle_T, nle_F, nlt_F, or_false, false_or, or_self, if_true, if_false, bnd_def, Option.bind_some, st1s, st1n, st2, st3, st4s, st4n, eq_self, tf_1, tf_2, b2iT, b2iF, b2iE, ob_1, ob_2, f_X7_cell_at, f_X7_setCell_at, in_0, wi_at, in_0_1, in_0_2, in_0_4, in_0_8, in_0_9, in_0_10, in_0_40, in_0_99, in_1_20, in_1_60, in_0_9999, in_m99_99, in_32_126, in_48_57, h1, hwx]
    · simp (disch := omega) only [↓pk_rem, nl_0, nl_1, nl_2, nl_3, nl_4, nl_6, nl_7, nl_8, nl_9, nl_10, nl_11, nl_12, nl_20, nl_23, nl_24, nl_26, nl_32, nl_39, nl_40, nl_44, nl_48, nl_57, nl_59, nl_60, nl_61, nl_64, nl_81, nl_82, nl_99, nl_100, nl_126, nl_200, nl_208, nl_286, nl_287, nl_290, nl_312, nl_999, nl_6561, nl_9999, nI_add, pk_mul, pk_div, pk_sub, ev_leT, ev_leF, ev_ltT, ev_ltF, ev_eqT, ev_eqF, nI_clamp, nle_T, nle_F, nlt_F, or_false, false_or, or_self, if_true, if_false, bnd_def, Option.bind_some, st1s, st1n, st2, st3, st4s, st4n, eq_self, tf_1, tf_2, b2iT, b2iF, b2iE, ob_1, ob_2, f_X7_cell_at, f_X7_setCell_at, in_0, wi_at, in_0_1, in_0_2, in_0_4, in_0_8, in_0_9, in_0_10, in_0_40, in_0_99, in_1_20, in_1_60, in_0_9999, in_m99_99, in_32_126, in_48_57, h2, hwx]
  rcases wi_or v4 (a := 0) (b := 10) (by omega) (by omega) with hwx | ⟨x, -, hx, rfl⟩
  · refine ⟨(-1, o7, Tr), (-1, stR M0 18 f), ?_, ?_, rfl, h0⟩
    · simp (disch := omega) only [↓pk_rem, nl_0, nl_1, nl_2, nl_3, nl_4, nl_6, nl_7, nl_8, nl_9, nl_10, nl_11, nl_12, nl_20, nl_23, nl_24, nl_26, nl_32, nl_39, nl_40, nl_44, nl_48, nl_57, nl_59, nl_60, nl_61, nl_64, nl_81, nl_82, nl_99, nl_100, nl_126, nl_200, nl_208, nl_286, nl_287, nl_290, nl_312, nl_999, nl_6561, nl_9999, nI_add, pk_mul, pk_div, pk_sub, ev_leT, ev_leF, ev_ltT, ev_ltF, ev_eqT, ev_eqF, nI_clamp, nle_T, nle_F, nlt_F, or_false, false_or, or_self, if_true, if_false, bnd_def, Option.bind_some, st1s, st1n, st2, st3, st4s, st4n, eq_self, tf_1, tf_2, b2iT, b2iF, b2iE, ob_1, ob_2, f_X7_cell_at, f_X7_setCell_at, in_0, wi_at, in_0_1, in_0_2, in_0_4, in_0_8, in_0_9, in_0_10, in_0_40, in_0_99, in_1_20, in_1_60, in_0_9999, in_m99_99, in_32_126, in_48_57, h1, hwx]
    · simp (disch := omega) only [↓pk_rem, nl_0, nl_1, nl_2, nl_3, nl_4, nl_6, nl_7, nl_8, nl_9, nl_10, nl_11, nl_12, nl_20, nl_23, nl_24, nl_26, nl_32, nl_39, nl_40, nl_44, nl_48, nl_57, nl_59, nl_60, nl_61, nl_64, nl_81, nl_82, nl_99, nl_100, nl_126, nl_200, nl_208, nl_286, nl_287, nl_290, nl_312, nl_999, nl_6561, nl_9999, nI_add, pk_mul, pk_div, pk_sub, ev_leT, ev_leF, ev_ltT, ev_ltF, ev_eqT, ev_eqF, nI_clamp, nle_T, nle_F, nlt_F, or_false, false_or, or_self, if_true, if_false, bnd_def, Option.bind_some, st1s, st1n, st2, st3, st4s, st4n, eq_self, tf_1, tf_2, b2iT, b2iF, b2iE, ob_1, ob_2, f_X7_cell_at, f_X7_setCell_at, in_0, wi_at, in_0_1, in_0_2, in_0_4, in_0_8, in_0_9, in_0_10, in_0_40, in_0_99, in_1_20, in_1_60, in_0_9999, in_m99_99, in_32_126, in_48_57, h2, hwx]
  rcases wi_or v5 (a := 0) (b := 1) (by omega) (by omega) with hwx | ⟨u, -, hu, rfl⟩
  · refine ⟨(-1, o7, Tr), (-1, stR M0 18 f), ?_, ?_, rfl, h0⟩
    · simp (disch := omega) only [↓pk_rem, nl_0, nl_1, nl_2, nl_3, nl_4, nl_6, nl_7, nl_8, nl_9, nl_10, nl_11, nl_12, nl_20, nl_23, nl_24, nl_26, nl_32, nl_39, nl_40, nl_44, nl_48, nl_57, nl_59, nl_60, nl_61, nl_64, nl_81, nl_82, nl_99, nl_100, nl_126, nl_200, nl_208, nl_286, nl_287, nl_290, nl_312, nl_999, nl_6561, nl_9999, nI_add, pk_mul, pk_div, pk_sub, ev_leT, ev_leF, ev_ltT, ev_ltF, ev_eqT, ev_eqF, nI_clamp, nle_T, nle_F, nlt_F, or_false, false_or, or_self, if_true, if_false, bnd_def, Option.bind_some, st1s, st1n, st2, st3, st4s, st4n, eq_self, tf_1, tf_2, b2iT, b2iF, b2iE, ob_1, ob_2, f_X7_cell_at, f_X7_setCell_at, in_0, wi_at, in_0_1, in_0_2, in_0_4, in_0_8, in_0_9, in_0_10, in_0_40, in_0_99, in_1_20, in_1_60, in_0_9999, in_m99_99, in_32_126, in_48_57, h1, hwx]
    · simp (disch := omega) only [↓pk_rem, nl_0, nl_1, nl_2, nl_3, nl_4, nl_6, nl_7, nl_8, nl_9, nl_10, nl_11, nl_12, nl_20, nl_23, nl_24, nl_26, nl_32, nl_39, nl_40, nl_44, nl_48, nl_57, nl_59, nl_60, nl_61, nl_64, nl_81, nl_82, nl_99, nl_100, nl_126, nl_200, nl_208, nl_286, nl_287, nl_290, nl_312, nl_999, nl_6561, nl_9999, nI_add, pk_mul, pk_div, pk_sub, ev_leT, ev_leF, ev_ltT, ev_ltF, ev_eqT, ev_eqF, nI_clamp, nle_T, nle_F, nlt_F, or_false, false_or, or_self, if_true, if_false, bnd_def, Option.bind_some, st1s, st1n, st2, st3, st4s, st4n, eq_self, tf_1, tf_2, b2iT, b2iF, b2iE, ob_1, ob_2, f_X7_cell_at, f_X7_setCell_at, in_0, wi_at, in_0_1, in_0_2, in_0_4, in_0_8, in_0_9, in_0_10, in_0_40, in_0_99, in_1_20, in_1_60, in_0_9999, in_m99_99, in_32_126, in_48_57, h2, hwx]
  obtain ⟨r, rr1, rr2⟩ := X7_weigh (o7 := o7) hn hx
  obtain ⟨wc, k1, k2⟩ := X5_copy Tr No
  -- the sums
  generalize hAb : fb_sm (fun d => lk x n d * sod To As No D y q p w d) (n + 1) = AB
  have hpow : (10 : Nat) ^ n ≤ 10 ^ 8 := Nat.pow_le_pow_right (by decide) hn
  have hpow0 : 0 < (10 : Nat) ^ n := Nat.pos_of_ne_zero (by
    intro z
    have := Nat.pow_eq_zero.mp z
    omega)
  have hsumU : fb_sm (fun s => wt x s n * sod To As No D y q p w (dz s n)) (2 ^ n) = AB := by rw [← hAb]; exact sl_AB x n _
  have hsumA : fb_sm (fun s => wt x s n) (2 ^ n) = 10 ^ n := sl_all hx n
  have hbelow : fb_sm (fun d => lk x n d) (n + 1) = 10 ^ n := by
    have := sl_AB x n (fun _ => 1)
    simp only [Nat.mul_one] at this
    rw [← this, hsumA]
  have hsod : ∀ d, sod To As No D y q p w d ≤ 1 := fun d => by unfold sod; split <;> omega
  have hABle : AB ≤ 10 ^ n := by
    rw [← hAb, ← hbelow]
    exact fb_sm_mono (fun d _ => by have := Nat.mul_le_mul_left (lk x n d) (hsod d); omega)
  have h27 : (10 : Nat) ^ 8 < 2 ^ 27 := by decide
  have hgpos : 0 < Nat.gcd AB (10 ^ n) := Nat.gcd_pos_of_pos_right _ hpow0
  have hgle : Nat.gcd AB (10 ^ n) ≤ 10 ^ n := Nat.gcd_le_right _ hpow0
  -- the class
  have h7 : ∃ o, f_X7_slips_69 To As (nI p) (nI w) (nI n) (nI u) r FU (0 : Int32) (0 : Int32) (0 : Int32) wc = some (nI (if u = 0 then AB / Nat.gcd AB (10 ^ n) else 10 ^ n / Nat.gcd AB (10 ^ n)), r, o) := by
    have hl := loopE (fun t i (s : Int32 × Int32 × Ob) => f_X7_slips_69 To As (nI p) (nI w) (nI n) (nI u) r t s.1 s.2.1 (nI i) s.2.2) 0 (n + 1) (by omega) (by omega) (fun i s => s.1 = nI (fb_sm (fun d => lk x n d * sod To As No D y q p w d) i) ∧ s.2.1 = nI (fb_sm (fun d => lk x n d) i) ∧ s.2.2 = shv To p w i wc) (fun s => f_X7_slips_69 To As (nI p) (nI w) (nI n) (nI u) r 1 s.1 s.2.1 (nI (n + 1)) s.2.2) (0, 0, wc) ⟨rfl, rfl, rfl⟩
      (fun t s h => by
        show f_X7_slips_69 To As (nI p) (nI w) (nI n) (nI u) r (t + 1) s.1 s.2.1 (nI (n + 1)) s.2.2 = f_X7_slips_69 To As (nI p) (nI w) (nI n) (nI u) r (0 + 1) s.1 s.2.1 (nI (n + 1)) s.2.2
        rw [f_X7_slips_69, f_X7_slips_69, if_pos (nI_lt (by omega) (by omega)), if_pos (nI_lt (by omega) (by omega))])
      (fun t i s hi h => by
        obtain ⟨i1, i2, i3⟩ := h
        have hPi := shv_PK hT (hPK.eqs k2) hp hw i
        have hso := X7_allSo (P := shv To p w i wc) hT hA hy2 hPi.1
        have hsm := shv_same (T := To) (p := p) (w := w) (P := No) (Q := wc) (fun j hj => k2.1 j (by omega)) i
        rw [hsm 0 (by omega), hsm 1 (by omega)] at hso
        refine ⟨(nI (fb_sm (fun d => lk x n d * sod To As No D y q p w d) (i + 1)), nI (fb_sm (fun d => lk x n d) (i + 1)), shv To p w (i + 1) wc), ?_, rfl, rfl, rfl⟩
        show f_X7_slips_69 To As (nI p) (nI w) (nI n) (nI u) r (t + 1) s.1 s.2.1 (nI i) s.2.2 = f_X7_slips_69 To As (nI p) (nI w) (nI n) (nI u) r t (nI (fb_sm (fun d => lk x n d * sod To As No D y q p w d) (i + 1))) (nI (fb_sm (fun d => lk x n d) (i + 1))) (nI (i + 1)) (shv To p w (i + 1) wc)
        rw [f_X7_slips_69, if_neg (nI_nlt (by omega) (by omega)), f_X7_cell_at (by decide) _ (by omega), Option.bind_some, rr2 i (by omega), bnd_def, i3, hso, Option.bind_some, i1, i2]
        unfold f_X7_slips_118
        rw [X7_shove To _ (show p < 4 by omega) w, Option.bind_some, bnd_def, nI_1, ← shv_succ, nI_add, fb_sm_succ, fb_sm_succ]
        have e1 : sod To As No D y q p w i = if allq To As D y ((shv To p w i No).1 0) ((shv To p w i No).1 1) q = true then 1 else 0 := rfl
        rw [e1]
        cases allq To As D y ((shv To p w i No).1 0) ((shv To p w i No).1 1) q with
        | false =>
          rw [if_pos (show b2i false = 0 by decide), if_neg (by decide), Nat.mul_zero]
          rfl
        | true => rw [if_neg (show ¬ b2i true = 0 by decide), if_pos rfl, Nat.mul_one, bnd_def, Option.bind_some, bnd_def, nI_add])
    obtain ⟨s, l1, l2, l3, l4⟩ := hl
    refine ⟨s.2.2, l1.trans ?_⟩
    have hg := X7_gcd 27 (10 ^ n) AB 0 FU (by omega) (by omega) (by omega) (by omega) (by rw [FU_eq]; omega)
    have hg2 : f_X7_commonDivisor (nI AB) (nI (10 ^ n)) = some (nI (Nat.gcd AB (10 ^ n))) := by rw [Nat.gcd_comm]; exact hg
    rw [f_X7_slips_69, if_pos (nI_lt (by omega) (by omega)), l2, l3, hAb, hbelow, hg2, Option.bind_some, if_pos (show 0 < nI (Nat.gcd AB (10 ^ n)) from nI_lt (a := 0) hgpos (by omega))]
    have hne : ¬ nI (Nat.gcd AB (10 ^ n)) = 0 := nI_ne0 hgpos (by omega)
    rcases (show u = 0 ∨ u = 1 by omega) with rfl | rfl
    · rw [if_pos (show nI 0 = 0 from rfl), if_neg hne, pk_div (by omega) hgpos (by omega), if_pos rfl]
    · rw [if_neg (show ¬ nI 1 = 0 by decide), if_neg hne, pk_div (by omega) hgpos (by omega), if_neg (by omega)]
  -- the reference
  have h8 : ∃ g, f_X8_slips_56 (nI p) (nI w) (nI n) (nI x) (nI u) FU (0 : Int32) (0 : Int32) (0 : Int32) (stR M0 18 f) = some (nI (if u = 0 then AB / Nat.gcd AB (10 ^ n) else 10 ^ n / Nat.gcd AB (10 ^ n)), stR M0 18 g) ∧ FR f g 286 := by
    have h2n : (2 : Nat) ^ n ≤ 2 ^ 8 := Nat.pow_le_pow_right (by decide) hn
    have hone : (1 : Int32) <<< (nI n &&& 31) = nI (2 ^ n) := bb_one (by omega)
    have hl := loopE (fun t i (s : Int32 × Int32 × (Nat → Int32)) => f_X8_slips_56 (nI p) (nI w) (nI n) (nI x) (nI u) t s.1 s.2.1 (nI i) (stR M0 18 s.2.2)) 0 (2 ^ n) (Nat.zero_le _) (by omega) (fun i s => s.1 = nI (fb_sm (fun s => wt x s n * sod To As No D y q p w (dz s n)) i) ∧ s.2.1 = nI (fb_sm (fun s => wt x s n) i) ∧ FR f s.2.2 286) (fun s => f_X8_slips_189 (nI u) s.1 s.2.1 (stR M0 18 s.2.2) FU s.1 s.2.1) (0, 0, f) ⟨rfl, rfl, FR.refl _ _⟩
      (fun t s h => by
        show f_X8_slips_56 (nI p) (nI w) (nI n) (nI x) (nI u) (t + 1) s.1 s.2.1 (nI (2 ^ n)) (stR M0 18 s.2.2) = _
        rw [f_X8_slips_56, hone, if_pos (nI_le (Nat.le_refl _) (by omega))])
      (fun t i s hi h => by
        obtain ⟨i1, i2, i3⟩ := h
        obtain ⟨g0, c1, c2, c3⟩ := X8_copies M0 s.2.2 (a := 0) (b := 286) (by omega) (by omega) (by omega)
        have hR0 : RS S No g0 286 := (hR.frame lS i3 (by omega)).cong lS (fun j hj => c2 j hj)
        have hin := loopE (fun t' j (s' : Nat → Int32) => f_X8_slips_78 (nI p) (nI w) (nI n) (nI x) s.1 s.2.1 (nI i) (f_X8_slips_56 (nI p) (nI w) (nI n) (nI x) (nI u) t) t' (nI (wt x i j)) (nI j) (stR M0 18 s')) 0 n (by omega) (by omega) (fun j s' => RS S (shv To p w (dz i j) No) s' 286 ∧ FR f s' 286) (fun s' => f_X8_slips_56 (nI p) (nI w) (nI n) (nI x) (nI u) t (nI (fb_sm (fun s => wt x s n * sod To As No D y q p w (dz s n)) (i + 1))) (nI (fb_sm (fun s => wt x s n) (i + 1))) (nI (i + 1)) (stR M0 18 s')) g0 ⟨hR0, i3.trans c3⟩
          (fun t' s' h' => by
            obtain ⟨j1, j2⟩ := h'
            have hPi := shv_PK hT hPK hp hw (dz i n)
            have s3 : s' 3 = nI y := (j2 3 (by omega)).trans (hR.2.2.2.1.trans hPK.1)
            have e0 : s' 286 = (shv To p w (dz i n) No).1 0 := j1.1
            have e1 : s' 287 = (shv To p w (dz i n) No).1 1 := j1.2.1
            have hso := X8_isSo (f := s') hT hM hA hy2 s3 ((shv To p w (dz i n) No).1 0) ((shv To p w (dz i n) No).1 1)
            have hso2 : f_X8_isSo (stR M0 18 s') ((stR M0 18 s').2 18 (286 : Int32).toNatClampNeg) ((stR M0 18 s').2 18 (287 : Int32).toNatClampNeg) = some (allq To As D y ((shv To p w (dz i n) No).1 0) ((shv To p w (dz i n) No).1 1) q) := by
              show f_X8_isSo (stR M0 18 s') (s' 286) (s' 287) = _
              rw [e0, e1]
              exact hso
            show f_X8_slips_78 (nI p) (nI w) (nI n) (nI x) s.1 s.2.1 (nI i) (f_X8_slips_56 (nI p) (nI w) (nI n) (nI x) (nI u) t) (t' + 1) (nI (wt x i n)) (nI n) (stR M0 18 s') = _
            rw [f_X8_slips_78, if_pos (nI_le (Nat.le_refl _) (by omega)), bnd_def, hso2, Option.bind_some, i1, i2]
            unfold f_X8_slips_172
            rw [nI_add, fb_sm_succ, fb_sm_succ]
            have e2 : sod To As No D y q p w (dz i n) = if allq To As D y ((shv To p w (dz i n) No).1 0) ((shv To p w (dz i n) No).1 1) q = true then 1 else 0 := rfl
            rw [e2]
            cases allq To As D y ((shv To p w (dz i n) No).1 0) ((shv To p w (dz i n) No).1 1) q with
            | false =>
              rw [if_pos (show b2i false = 0 by decide), if_neg (by decide), Nat.mul_zero, Nat.add_zero, bnd_def, bnd_def, nI_1]
              show f_X8_slips_56 _ _ _ _ _ _ (nI _ + nI 0) _ _ _ = _
              rw [nI_add, Nat.add_zero]
            | true => rw [if_neg (show ¬ b2i true = 0 by decide), if_pos rfl, Nat.mul_one, bnd_def, bnd_def, nI_add, nI_1])
          (fun t' j s' hj h' => by
            obtain ⟨j1, j2⟩ := h'
            have hPi := shv_PK hT hPK hp hw (dz i j)
            have hhas := has_at (w := i) (k := j) (by omega) (by omega)
            have h10 : (10 : Int32) - nI x = nI (10 - x) := pk_sub (b := x) (a := 10) hx
            obtain ⟨g1, b1, b2, b3⟩ := X8_gives (M := M0) (f := s') (b := 286) (by omega) hT hM hPi j1 hp hw
            have b1' : f_X8_gives (stR M0 18 s') (286 : Int32) (nI p) (nI w) = some (stR M0 18 g1) := b1
            cases hbit : i.testBit j with
            | false =>
              rw [hbit] at hhas
              refine ⟨g1, ?_, ?_, j2.trans b3⟩
              · show f_X8_slips_78 (nI p) (nI w) (nI n) (nI x) s.1 s.2.1 (nI i) _ (t' + 1) (nI (wt x i j)) (nI j) (stR M0 18 s') = f_X8_slips_78 (nI p) (nI w) (nI n) (nI x) s.1 s.2.1 (nI i) _ t' (nI (wt x i (j + 1))) (nI (j + 1)) (stR M0 18 g1)
                rw [f_X8_slips_78, if_neg (nI_ge hj (by omega)), hhas, bnd_def, if_pos (show b2i false = 0 by decide)]
                unfold f_X8_slips_106 f_X8_slips_128
                rw [bnd_def, hhas, bnd_def, if_pos (show b2i false = 0 by decide), b1', Option.bind_some, bnd_def, nI_1, h10, pk_mul, wt, hbit, if_neg (by decide)]
              · rw [dz, hbit, if_neg (by decide), shv_succ]
                exact b2
            | true =>
              rw [hbit] at hhas
              refine ⟨s', ?_, ?_, j2⟩
              · show f_X8_slips_78 (nI p) (nI w) (nI n) (nI x) s.1 s.2.1 (nI i) _ (t' + 1) (nI (wt x i j)) (nI j) (stR M0 18 s') = f_X8_slips_78 (nI p) (nI w) (nI n) (nI x) s.1 s.2.1 (nI i) _ t' (nI (wt x i (j + 1))) (nI (j + 1)) (stR M0 18 s')
                rw [f_X8_slips_78, if_neg (nI_ge hj (by omega)), hhas, bnd_def, if_neg (show ¬ b2i true = 0 by decide)]
                unfold f_X8_slips_106 f_X8_slips_128
                rw [bnd_def, hhas, bnd_def, if_neg (show ¬ b2i true = 0 by decide), bnd_def, nI_1, pk_mul, wt, hbit, if_pos rfl]
              · rw [dz, hbit, if_pos rfl, Nat.add_zero]
                exact j1)
        obtain ⟨s', l1, l2, l3⟩ := hin
        refine ⟨(nI (fb_sm (fun s => wt x s n * sod To As No D y q p w (dz s n)) (i + 1)), nI (fb_sm (fun s => wt x s n) (i + 1)), s'), ?_, rfl, rfl, l3⟩
        show f_X8_slips_56 (nI p) (nI w) (nI n) (nI x) (nI u) (t + 1) s.1 s.2.1 (nI i) (stR M0 18 s.2.2) = _
        have c1' : f_X8_copies (stR M0 18 s.2.2) (0 : Int32) (286 : Int32) = some (stR M0 18 g0) := c1
        rw [f_X8_slips_56, hone, if_neg (nI_ge hi (by omega)), c1', Option.bind_some]
        exact l1)
    obtain ⟨s, l1, l2, l3, l4⟩ := hl
    refine ⟨s.2.2, l1.trans ?_, l4⟩
    rw [hsumU] at l2
    rw [hsumA] at l3
    rw [l2, l3, X8_gcd (nI u) (nI AB) (nI (10 ^ n)) (stR M0 18 s.2.2) 27 AB (10 ^ n) FU (by omega) (by omega) (by omega) (by rw [FU_eq]; omega), f_X8_slips_189, if_pos rfl]
    have hne : ¬ nI (Nat.gcd AB (10 ^ n)) = 0 := nI_ne0 hgpos (by omega)
    rcases (show u = 0 ∨ u = 1 by omega) with rfl | rfl
    · rw [if_pos (show nI 0 = 0 from rfl), if_neg hne, pk_div (by omega) hgpos (by omega), if_pos rfl]
    · rw [if_neg (show ¬ nI 1 = 0 by decide), if_neg hne, pk_div (by omega) hgpos (by omega), if_neg (by omega)]
  obtain ⟨o, c1⟩ := h7
  obtain ⟨g, c2, c3⟩ := h8
  refine ⟨(nI (if u = 0 then AB / Nat.gcd AB (10 ^ n) else 10 ^ n / Nat.gcd AB (10 ^ n)), r, o), (nI (if u = 0 then AB / Nat.gcd AB (10 ^ n) else 10 ^ n / Nat.gcd AB (10 ^ n)), stR M0 18 g), ?_, ?_, rfl, n0, S, U, L, N, D, y, a, k, q, hTe, hC.trial c3, hA⟩
  · simp (disch := omega) only [↓pk_rem, nl_0, nl_1, nl_2, nl_3, nl_4, nl_6, nl_7, nl_8, nl_9, nl_10, nl_11, nl_12, nl_20, nl_23, nl_24, nl_26, nl_32, nl_39, nl_40, nl_44, nl_48, nl_57, nl_59, nl_60, nl_61, nl_64, nl_81, nl_82, nl_99, nl_100, nl_126, nl_200, nl_208, nl_286, nl_287, nl_290, nl_312, nl_999, nl_6561, nl_9999, nI_add, pk_mul, pk_div, pk_sub, ev_leT, ev_leF, ev_ltT, ev_ltF, ev_eqT, ev_eqF, nI_clamp, nle_T, nle_F, nlt_F, or_false, false_or, or_self, if_true, if_false, bnd_def, Option.bind_some, st1s, st1n, st2, st3, st4s, st4n, eq_self, tf_1, tf_2, b2iT, b2iF, b2iE, ob_1, ob_2, f_X7_cell_at, f_X7_setCell_at, in_0, wi_at, in_0_1, in_0_2, in_0_4, in_0_8, in_0_9, in_0_10, in_0_40, in_0_99, in_1_20, in_1_60, in_0_9999, in_m99_99, in_32_126, in_48_57, h1, rr1, k1]
    exact c1
  · simp (disch := omega) only [↓pk_rem, nl_0, nl_1, nl_2, nl_3, nl_4, nl_6, nl_7, nl_8, nl_9, nl_10, nl_11, nl_12, nl_20, nl_23, nl_24, nl_26, nl_32, nl_39, nl_40, nl_44, nl_48, nl_57, nl_59, nl_60, nl_61, nl_64, nl_81, nl_82, nl_99, nl_100, nl_126, nl_200, nl_208, nl_286, nl_287, nl_290, nl_312, nl_999, nl_6561, nl_9999, nI_add, pk_mul, pk_div, pk_sub, ev_leT, ev_leF, ev_ltT, ev_ltF, ev_eqT, ev_eqF, nI_clamp, nle_T, nle_F, nlt_F, or_false, false_or, or_self, if_true, if_false, bnd_def, Option.bind_some, st1s, st1n, st2, st3, st4s, st4n, eq_self, tf_1, tf_2, b2iT, b2iF, b2iE, ob_1, ob_2, f_X7_cell_at, f_X7_setCell_at, in_0, wi_at, in_0_1, in_0_2, in_0_4, in_0_8, in_0_9, in_0_10, in_0_40, in_0_99, in_1_20, in_1_60, in_0_9999, in_m99_99, in_32_126, in_48_57, h2]
    exact c2
