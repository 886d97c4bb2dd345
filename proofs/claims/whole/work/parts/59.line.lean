theorem m4_lt : (-nI 4 < nI 0) = True := eq_true (by decide)
theorem X8_lowest {M : Ob} {f : Nat → Int32} {b C part : Nat} (hb : b + 26 ≤ 312) (x : Int32) (p : Nat → Bool) (pv : Nat → Int32) {w : Nat} (hw : w < 2 ^ 7) (hC : C ≤ 7) (hpart : part < 3)
    (hn : (if part = 0 then M.1 2 else M.2 0 (part - 1)) = nI C)
    (hv : ∀ k, k < C → part = 0 → f_X8_place (stR M 18 f) (nI b) (nI k) = some (pv k)) (hv2 : ∀ k, k < C → 0 < part → 6 * part - 6 + k < 12 ∧ M.2 1 (6 * part - 6 + k) = pv k)
    (hs : f (b + 23 + part) = nI w) (hp : ∀ k, k < C → p k = (decide (pv k = x) && !w.testBit k)) : f_X8_lowest (stR M 18 f) (nI b) (nI part) x = some (numI (fst1 p C)) := by
  have hstart : f_X8_lowest (stR M 18 f) (nI b) (nI part) x = f_X8_lowest_24 (stR M 18 f) (nI b) (nI part) x (nI C) FU 0 := by
    unfold f_X8_lowest f_X8_lowest_19
    by_cases h0 : part = 0
    · subst h0
      rw [if_pos rfl] at hn
      simp (disch := omega) only [↓pk_rem, nl_0, nl_1, nl_2, nl_3, nl_4, nl_6, nl_7, nl_8, nl_9, nl_10, nl_11, nl_12, nl_20, nl_23, nl_24, nl_26, nl_32, nl_39, nl_40, nl_44, nl_48, nl_57, nl_59, nl_60, nl_61, nl_64, nl_81, nl_82, nl_99, nl_100, nl_126, nl_200, nl_208, nl_286, nl_287, nl_290, nl_312, nl_999, nl_6561, nl_9999, nI_add, pk_mul, pk_div, pk_sub, ev_leT, ev_leF, ev_ltT, ev_ltF, ev_eqT, ev_eqF, nI_clamp, nle_T, nle_F, nlt_F, or_false, false_or, or_self, if_true, if_false, bnd_def, Option.bind_some, st1s, st1n, st2, st3, st4s, st4n, eq_self, tf_1, tf_2, b2iT, b2iF, b2iE, ob_1, ob_2, f_X7_cell_at, f_X7_setCell_at, in_0, wi_at, in_0_1, in_0_2, in_0_4, in_0_8, in_0_9, in_0_10, in_0_40, in_0_99, in_1_20, in_1_60, in_0_9999, in_m99_99, in_32_126, in_48_57, hn]
    · rw [if_neg h0] at hn
      simp (disch := omega) only [↓pk_rem, nl_0, nl_1, nl_2, nl_3, nl_4, nl_6, nl_7, nl_8, nl_9, nl_10, nl_11, nl_12, nl_20, nl_23, nl_24, nl_26, nl_32, nl_39, nl_40, nl_44, nl_48, nl_57, nl_59, nl_60, nl_61, nl_64, nl_81, nl_82, nl_99, nl_100, nl_126, nl_200, nl_208, nl_286, nl_287, nl_290, nl_312, nl_999, nl_6561, nl_9999, nI_add, pk_mul, pk_div, pk_sub, ev_leT, ev_leF, ev_ltT, ev_ltF, ev_eqT, ev_eqF, nI_clamp, nle_T, nle_F, nlt_F, or_false, false_or, or_self, if_true, if_false, bnd_def, Option.bind_some, st1s, st1n, st2, st3, st4s, st4n, eq_self, tf_1, tf_2, b2iT, b2iF, b2iE, ob_1, ob_2, f_X7_cell_at, f_X7_setCell_at, in_0, wi_at, in_0_1, in_0_2, in_0_4, in_0_8, in_0_9, in_0_10, in_0_40, in_0_99, in_1_20, in_1_60, in_0_9999, in_m99_99, in_32_126, in_48_57, hn]
  rw [hstart]
  refine loopP (fun t i (_ : Unit) => f_X8_lowest_24 (stR M 18 f) (nI b) (nI part) x (nI C) t (nI i)) 0 C (by omega) (by omega) (fun i _ => fst1 p i = none) (fun o => o = some (numI (fst1 p C))) () rfl
    (fun t _ h => by
      show f_X8_lowest_24 (stR M 18 f) (nI b) (nI part) x (nI C) (t + 1) (nI C) = _
      rw [f_X8_lowest_24, h]
      simp (disch := omega) only [↓pk_rem, nl_0, nl_1, nl_2, nl_3, nl_4, nl_6, nl_7, nl_8, nl_9, nl_10, nl_11, nl_12, nl_20, nl_23, nl_24, nl_26, nl_32, nl_39, nl_40, nl_44, nl_48, nl_57, nl_59, nl_60, nl_61, nl_64, nl_81, nl_82, nl_99, nl_100, nl_126, nl_200, nl_208, nl_286, nl_287, nl_290, nl_312, nl_999, nl_6561, nl_9999, nI_add, pk_mul, pk_div, pk_sub, ev_leT, ev_leF, ev_ltT, ev_ltF, ev_eqT, ev_eqF, nI_clamp, nle_T, nle_F, nlt_F, or_false, false_or, or_self, if_true, if_false, bnd_def, Option.bind_some, st1s, st1n, st2, st3, st4s, st4n, eq_self, tf_1, tf_2, b2iT, b2iF, b2iE, ob_1, ob_2, f_X7_cell_at, f_X7_setCell_at, in_0, wi_at, in_0_1, in_0_2, in_0_4, in_0_8, in_0_9, in_0_10, in_0_40, in_0_99, in_1_20, in_1_60, in_0_9999, in_m99_99, in_32_126, in_48_57]
      rfl)
    (fun t i _ hi h => ?_)
  have hcase : ∀ (A : Option Int32 → Prop), A (f_X8_lowest_60 (stR M 18 f) (nI b) (nI part) x (nI i) (f_X8_lowest_24 (stR M 18 f) (nI b) (nI part) x (nI C) t) (pv i)) → A (f_X8_lowest_24 (stR M 18 f) (nI b) (nI part) x (nI C) (t + 1) (nI i)) := by
    intro A hA
    rw [f_X8_lowest_24]
    by_cases h0 : part = 0
    · subst h0
      have e := hv i hi rfl
      rw [if_neg (nI_ge hi (by omega)), if_pos (show nI 0 = 0 from rfl), e]
      exact hA
    · obtain ⟨e0, e⟩ := hv2 i hi (by omega)
      have e2 : 6 * part - 6 + i = 6 * part - 6 + i := rfl
      simp (disch := omega) only [↓pk_rem, nl_0, nl_1, nl_2, nl_3, nl_4, nl_6, nl_7, nl_8, nl_9, nl_10, nl_11, nl_12, nl_20, nl_23, nl_24, nl_26, nl_32, nl_39, nl_40, nl_44, nl_48, nl_57, nl_59, nl_60, nl_61, nl_64, nl_81, nl_82, nl_99, nl_100, nl_126, nl_200, nl_208, nl_286, nl_287, nl_290, nl_312, nl_999, nl_6561, nl_9999, nI_add, pk_mul, pk_div, pk_sub, ev_leT, ev_leF, ev_ltT, ev_ltF, ev_eqT, ev_eqF, nI_clamp, nle_T, nle_F, nlt_F, or_false, false_or, or_self, if_true, if_false, bnd_def, Option.bind_some, st1s, st1n, st2, st3, st4s, st4n, eq_self, tf_1, tf_2, b2iT, b2iF, b2iE, ob_1, ob_2, f_X7_cell_at, f_X7_setCell_at, in_0, wi_at, in_0_1, in_0_2, in_0_4, in_0_8, in_0_9, in_0_10, in_0_40, in_0_99, in_1_20, in_1_60, in_0_9999, in_m99_99, in_32_126, in_48_57, e]
      exact hA
  have hq := hp i hi
  have hs2 := hs
  by_cases h2 : p i = true
  · left
    apply hcase (fun o => o = some (numI (fst1 p C)))
    show _ = some (numI (fst1 p C))
    rw [fst1_hit h h2 hi]
    rw [h2] at hq
    have hq2 := hq.symm
    simp only [Bool.and_eq_true, decide_eq_true_eq, Bool.not_eq_true'] at hq2
    unfold f_X8_lowest_60
    simp (disch := omega) only [↓pk_rem, nl_0, nl_1, nl_2, nl_3, nl_4, nl_6, nl_7, nl_8, nl_9, nl_10, nl_11, nl_12, nl_20, nl_23, nl_24, nl_26, nl_32, nl_39, nl_40, nl_44, nl_48, nl_57, nl_59, nl_60, nl_61, nl_64, nl_81, nl_82, nl_99, nl_100, nl_126, nl_200, nl_208, nl_286, nl_287, nl_290, nl_312, nl_999, nl_6561, nl_9999, nI_add, pk_mul, pk_div, pk_sub, ev_leT, ev_leF, ev_ltT, ev_ltF, ev_eqT, ev_eqF, nI_clamp, nle_T, nle_F, nlt_F, or_false, false_or, or_self, if_true, if_false, bnd_def, Option.bind_some, st1s, st1n, st2, st3, st4s, st4n, eq_self, tf_1, tf_2, b2iT, b2iF, b2iE, ob_1, ob_2, f_X7_cell_at, f_X7_setCell_at, in_0, wi_at, in_0_1, in_0_2, in_0_4, in_0_8, in_0_9, in_0_10, in_0_40, in_0_99, in_1_20, in_1_60, in_0_9999, in_m99_99, in_32_126, in_48_57, hq2.1, hs2, has_at, hq2.2]
    rfl
  · right
    refine ⟨(), ?_, fst1_step h h2⟩
    show f_X8_lowest_24 (stR M 18 f) (nI b) (nI part) x (nI C) (t + 1) (nI i) = f_X8_lowest_24 (stR M 18 f) (nI b) (nI part) x (nI C) t (nI (i + 1))
    apply hcase (fun o => o = _)
    unfold f_X8_lowest_60 f_X8_lowest_90
    by_cases h1 : pv i = x
    · have h3 : w.testBit i = true := by
        cases hb2 : w.testBit i with
        | true => rfl
        | false =>
          rw [hb2] at hq
          rw [hq] at h2
          simp [h1] at h2
      simp (disch := omega) only [↓pk_rem, nl_0, nl_1, nl_2, nl_3, nl_4, nl_6, nl_7, nl_8, nl_9, nl_10, nl_11, nl_12, nl_20, nl_23, nl_24, nl_26, nl_32, nl_39, nl_40, nl_44, nl_48, nl_57, nl_59, nl_60, nl_61, nl_64, nl_81, nl_82, nl_99, nl_100, nl_126, nl_200, nl_208, nl_286, nl_287, nl_290, nl_312, nl_999, nl_6561, nl_9999, nI_add, pk_mul, pk_div, pk_sub, ev_leT, ev_leF, ev_ltT, ev_ltF, ev_eqT, ev_eqF, nI_clamp, nle_T, nle_F, nlt_F, or_false, false_or, or_self, if_true, if_false, bnd_def, Option.bind_some, st1s, st1n, st2, st3, st4s, st4n, eq_self, tf_1, tf_2, b2iT, b2iF, b2iE, ob_1, ob_2, f_X7_cell_at, f_X7_setCell_at, in_0, wi_at, in_0_1, in_0_2, in_0_4, in_0_8, in_0_9, in_0_10, in_0_40, in_0_99, in_1_20, in_1_60, in_0_9999, in_m99_99, in_32_126, in_48_57, h1, hs2, has_at, h3]
    · simp (disch := omega) only [↓pk_rem, nl_0, nl_1, nl_2, nl_3, nl_4, nl_6, nl_7, nl_8, nl_9, nl_10, nl_11, nl_12, nl_20, nl_23, nl_24, nl_26, nl_32, nl_39, nl_40, nl_44, nl_48, nl_57, nl_59, nl_60, nl_61, nl_64, nl_81, nl_82, nl_99, nl_100, nl_126, nl_200, nl_208, nl_286, nl_287, nl_290, nl_312, nl_999, nl_6561, nl_9999, nI_add, pk_mul, pk_div, pk_sub, ev_leT, ev_leF, ev_ltT, ev_ltF, ev_eqT, ev_eqF, nI_clamp, nle_T, nle_F, nlt_F, or_false, false_or, or_self, if_true, if_false, bnd_def, Option.bind_some, st1s, st1n, st2, st3, st4s, st4n, eq_self, tf_1, tf_2, b2iT, b2iF, b2iE, ob_1, ob_2, f_X7_cell_at, f_X7_setCell_at, in_0, wi_at, in_0_1, in_0_2, in_0_4, in_0_8, in_0_9, in_0_10, in_0_40, in_0_99, in_1_20, in_1_60, in_0_9999, in_m99_99, in_32_126, in_48_57, h1]
/-- the bits of the two whom the line weds -/
def cpl : Option Nat → Option Nat → Option Nat → Nat
  | some u, _, some s => 2 ^ u ||| 2 ^ (12 + s)
  | none, some l, some s => 2 ^ (12 + s) ||| 2 ^ (6 + l)
  | some u, some l, none => 2 ^ u ||| 2 ^ (6 + l)
  | _, _, _ => 0
def fU (T : Ob) (U W : Nat) (x : Int32) : Option Nat := fst1 (uwl T W 0 x) U
def fL (T : Ob) (L W : Nat) (x : Int32) : Option Nat := fst1 (uwl T W 1 x) L
def fS (T : Ob) (S D y : Nat) (sh ah : Int32) (W : Nat) (x : Int32) : Option Nat := fst1 (uws T D y sh ah W x) S
theorem pw_ne {k : Nat} (hk : k < 19) : ¬ nI (2 ^ k) = 0 := by
  have h2 : (2 : Nat) ^ k < 2 ^ 31 := Nat.pow_lt_pow_right (by decide) (by omega)
  exact nI_ne0 (Nat.two_pow_pos k) h2
theorem pw_neN {k : Nat} (hk : k < 19) : (nI (2 ^ k) = nI 0) = False := eq_false (pw_ne hk)
theorem X7_coupleAt {P T : Ob} {W S U L N D y : Nat} (hT : TK T S U L N D) (hy : y < 2 ^ 31) (hP : P.1 3 = nI y) (hw : P.1 4 = nI W) (hW : W < 2 ^ 19) (x : Int32) : f_X5_coupleAt P T x = some (nI (cpl (fU T U W x) (fL T L W x) (fS T S D y (P.1 0) (P.1 1) W x))) := by
  have lU := hT.2.2.2.2.2.2.2.2.1
  have lL := hT.2.2.2.2.2.2.2.2.2.1
  have lS := hT.2.2.2.2.2.1
  have e1 := X7_unwedOfLand (P := P) (T := T) (l := 0) (by omega) lU hT.2.2.2.1 hw hW x
  have e2 := X7_unwedOfLand (P := P) (T := T) (l := 1) (by omega) lL hT.2.2.2.2.1 hw hW x
  have e3 := X7_unwedOfStrip (P := P) hT hy hP hw hW x
  unfold f_X5_coupleAt f_X5_coupleAt_39 f_X5_coupleAt_55
  have g1 : f_X5_unwedOfLand P T 0 x = some (bitI 0 (fU T U W x)) := e1
  have g2 : f_X5_unwedOfLand P T 1 x = some (bitI 6 (fL T L W x)) := e2
  have g3 : f_X5_unwedOfStrip P T x = some (bitI 12 (fS T S D y (P.1 0) (P.1 1) W x)) := e3
  rw [g1, g2, g3]
  cases hu : fU T U W x with
  | none =>
    cases hl : fL T L W x with
    | none =>
      cases hs : fS T S D y (P.1 0) (P.1 1) W x with
      | none => rfl
      | some s =>
        have c3 := fst1_some hs
        unfold bitI cpl
        simp (disch := omega) only [↓pk_rem, nl_0, nl_1, nl_2, nl_3, nl_4, nl_6, nl_7, nl_8, nl_9, nl_10, nl_11, nl_12, nl_20, nl_23, nl_24, nl_26, nl_32, nl_39, nl_40, nl_44, nl_48, nl_57, nl_59, nl_60, nl_61, nl_64, nl_81, nl_82, nl_99, nl_100, nl_126, nl_200, nl_208, nl_286, nl_287, nl_290, nl_312, nl_999, nl_6561, nl_9999, nI_add, pk_mul, pk_div, pk_sub, ev_leT, ev_leF, ev_ltT, ev_ltF, ev_eqT, ev_eqF, nI_clamp, nle_T, nle_F, nlt_F, or_false, false_or, or_self, if_true, if_false, bnd_def, Option.bind_some, st1s, st1n, st2, st3, st4s, st4n, eq_self, tf_1, tf_2, b2iT, b2iF, b2iE, ob_1, ob_2, f_X7_cell_at, f_X7_setCell_at, in_0, wi_at, in_0_1, in_0_2, in_0_4, in_0_8, in_0_9, in_0_10, in_0_40, in_0_99, in_1_20, in_1_60, in_0_9999, in_m99_99, in_32_126, in_48_57, pw_neN]
    | some l =>
      have c2 := fst1_some hl
      cases hs : fS T S D y (P.1 0) (P.1 1) W x with
      | none =>
        unfold bitI cpl
        simp (disch := omega) only [↓pk_rem, nl_0, nl_1, nl_2, nl_3, nl_4, nl_6, nl_7, nl_8, nl_9, nl_10, nl_11, nl_12, nl_20, nl_23, nl_24, nl_26, nl_32, nl_39, nl_40, nl_44, nl_48, nl_57, nl_59, nl_60, nl_61, nl_64, nl_81, nl_82, nl_99, nl_100, nl_126, nl_200, nl_208, nl_286, nl_287, nl_290, nl_312, nl_999, nl_6561, nl_9999, nI_add, pk_mul, pk_div, pk_sub, ev_leT, ev_leF, ev_ltT, ev_ltF, ev_eqT, ev_eqF, nI_clamp, nle_T, nle_F, nlt_F, or_false, false_or, or_self, if_true, if_false, bnd_def, Option.bind_some, st1s, st1n, st2, st3, st4s, st4n, eq_self, tf_1, tf_2, b2iT, b2iF, b2iE, ob_1, ob_2, f_X7_cell_at, f_X7_setCell_at, in_0, wi_at, in_0_1, in_0_2, in_0_4, in_0_8, in_0_9, in_0_10, in_0_40, in_0_99, in_1_20, in_1_60, in_0_9999, in_m99_99, in_32_126, in_48_57, pw_neN]
      | some s =>
        have c3 := fst1_some hs
        unfold bitI cpl
        simp (disch := omega) only [↓pk_rem, nl_0, nl_1, nl_2, nl_3, nl_4, nl_6, nl_7, nl_8, nl_9, nl_10, nl_11, nl_12, nl_20, nl_23, nl_24, nl_26, nl_32, nl_39, nl_40, nl_44, nl_48, nl_57, nl_59, nl_60, nl_61, nl_64, nl_81, nl_82, nl_99, nl_100, nl_126, nl_200, nl_208, nl_286, nl_287, nl_290, nl_312, nl_999, nl_6561, nl_9999, nI_add, pk_mul, pk_div, pk_sub, ev_leT, ev_leF, ev_ltT, ev_ltF, ev_eqT, ev_eqF, nI_clamp, nle_T, nle_F, nlt_F, or_false, false_or, or_self, if_true, if_false, bnd_def, Option.bind_some, st1s, st1n, st2, st3, st4s, st4n, eq_self, tf_1, tf_2, b2iT, b2iF, b2iE, ob_1, ob_2, f_X7_cell_at, f_X7_setCell_at, in_0, wi_at, in_0_1, in_0_2, in_0_4, in_0_8, in_0_9, in_0_10, in_0_40, in_0_99, in_1_20, in_1_60, in_0_9999, in_m99_99, in_32_126, in_48_57, pw_neN, fa_or]
  | some u =>
    have c1 := fst1_some hu
    cases hl : fL T L W x with
    | none =>
      cases hs : fS T S D y (P.1 0) (P.1 1) W x with
      | none =>
        unfold bitI cpl
        simp (disch := omega) only [↓pk_rem, nl_0, nl_1, nl_2, nl_3, nl_4, nl_6, nl_7, nl_8, nl_9, nl_10, nl_11, nl_12, nl_20, nl_23, nl_24, nl_26, nl_32, nl_39, nl_40, nl_44, nl_48, nl_57, nl_59, nl_60, nl_61, nl_64, nl_81, nl_82, nl_99, nl_100, nl_126, nl_200, nl_208, nl_286, nl_287, nl_290, nl_312, nl_999, nl_6561, nl_9999, nI_add, pk_mul, pk_div, pk_sub, ev_leT, ev_leF, ev_ltT, ev_ltF, ev_eqT, ev_eqF, nI_clamp, nle_T, nle_F, nlt_F, or_false, false_or, or_self, if_true, if_false, bnd_def, Option.bind_some, st1s, st1n, st2, st3, st4s, st4n, eq_self, tf_1, tf_2, b2iT, b2iF, b2iE, ob_1, ob_2, f_X7_cell_at, f_X7_setCell_at, in_0, wi_at, in_0_1, in_0_2, in_0_4, in_0_8, in_0_9, in_0_10, in_0_40, in_0_99, in_1_20, in_1_60, in_0_9999, in_m99_99, in_32_126, in_48_57, pw_neN]
      | some s =>
        have c3 := fst1_some hs
        unfold bitI cpl
        simp (disch := omega) only [↓pk_rem, nl_0, nl_1, nl_2, nl_3, nl_4, nl_6, nl_7, nl_8, nl_9, nl_10, nl_11, nl_12, nl_20, nl_23, nl_24, nl_26, nl_32, nl_39, nl_40, nl_44, nl_48, nl_57, nl_59, nl_60, nl_61, nl_64, nl_81, nl_82, nl_99, nl_100, nl_126, nl_200, nl_208, nl_286, nl_287, nl_290, nl_312, nl_999, nl_6561, nl_9999, nI_add, pk_mul, pk_div, pk_sub, ev_leT, ev_leF, ev_ltT, ev_ltF, ev_eqT, ev_eqF, nI_clamp, nle_T, nle_F, nlt_F, or_false, false_or, or_self, if_true, if_false, bnd_def, Option.bind_some, st1s, st1n, st2, st3, st4s, st4n, eq_self, tf_1, tf_2, b2iT, b2iF, b2iE, ob_1, ob_2, f_X7_cell_at, f_X7_setCell_at, in_0, wi_at, in_0_1, in_0_2, in_0_4, in_0_8, in_0_9, in_0_10, in_0_40, in_0_99, in_1_20, in_1_60, in_0_9999, in_m99_99, in_32_126, in_48_57, pw_neN, fa_or, Nat.zero_add]
    | some l =>
      have c2 := fst1_some hl
      cases hs : fS T S D y (P.1 0) (P.1 1) W x with
      | none =>
        unfold bitI cpl
        simp (disch := omega) only [↓pk_rem, nl_0, nl_1, nl_2, nl_3, nl_4, nl_6, nl_7, nl_8, nl_9, nl_10, nl_11, nl_12, nl_20, nl_23, nl_24, nl_26, nl_32, nl_39, nl_40, nl_44, nl_48, nl_57, nl_59, nl_60, nl_61, nl_64, nl_81, nl_82, nl_99, nl_100, nl_126, nl_200, nl_208, nl_286, nl_287, nl_290, nl_312, nl_999, nl_6561, nl_9999, nI_add, pk_mul, pk_div, pk_sub, ev_leT, ev_leF, ev_ltT, ev_ltF, ev_eqT, ev_eqF, nI_clamp, nle_T, nle_F, nlt_F, or_false, false_or, or_self, if_true, if_false, bnd_def, Option.bind_some, st1s, st1n, st2, st3, st4s, st4n, eq_self, tf_1, tf_2, b2iT, b2iF, b2iE, ob_1, ob_2, f_X7_cell_at, f_X7_setCell_at, in_0, wi_at, in_0_1, in_0_2, in_0_4, in_0_8, in_0_9, in_0_10, in_0_40, in_0_99, in_1_20, in_1_60, in_0_9999, in_m99_99, in_32_126, in_48_57, pw_neN, fa_or, Nat.zero_add]
      | some s =>
        have c3 := fst1_some hs
        unfold bitI cpl
        simp (disch := omega) only [↓pk_rem, nl_0, nl_1, nl_2, nl_3, nl_4, nl_6, nl_7, nl_8, nl_9, nl_10, nl_11, nl_12, nl_20, nl_23, nl_24, nl_26, nl_32, nl_39, nl_40, nl_44, nl_48, nl_57, nl_59, nl_60, nl_61, nl_64, nl_81, nl_82, nl_99, nl_100, nl_126, nl_200, nl_208, nl_286, nl_287, nl_290, nl_312, nl_999, nl_6561, nl_9999, nI_add, pk_mul, pk_div, pk_sub, ev_leT, ev_leF, ev_ltT, ev_ltF, ev_eqT, ev_eqF, nI_clamp, nle_T, nle_F, nlt_F, or_false, false_or, or_self, if_true, if_false, bnd_def, Option.bind_some, st1s, st1n, st2, st3, st4s, st4n, eq_self, tf_1, tf_2, b2iT, b2iF, b2iE, ob_1, ob_2, f_X7_cell_at, f_X7_setCell_at, in_0, wi_at, in_0_1, in_0_2, in_0_4, in_0_8, in_0_9, in_0_10, in_0_40, in_0_99, in_1_20, in_1_60, in_0_9999, in_m99_99, in_32_126, in_48_57, pw_neN, fa_or, Nat.zero_add]
theorem WR.or {w s u l : Int32} (h : WR w s u l) {Z A B C : Nat} (hZ : Z < 2 ^ 19) (hA : A < 2 ^ 7) (hB : B < 2 ^ 6) (hC : C < 2 ^ 6) (e1 : ∀ k, k < 6 → Z.testBit k = B.testBit k) (e2 : ∀ k, k < 6 → Z.testBit (6 + k) = C.testBit k) (e3 : ∀ k, k < 7 → Z.testBit (12 + k) = A.testBit k) : WR (w ||| nI Z) (s ||| nI A) (u ||| nI B) (l ||| nI C) := by
  obtain ⟨W, c, a, b, h1, h2, h3, h4, rfl, rfl, rfl, rfl, h5, h6, h7⟩ := h
  refine ⟨W ||| Z, c ||| A, a ||| B, b ||| C, Nat.or_lt_two_pow h1 hZ, Nat.or_lt_two_pow h2 hA, Nat.or_lt_two_pow h3 hB, Nat.or_lt_two_pow h4 hC, fa_or _ _, fa_or _ _, fa_or _ _, fa_or _ _, fun k hk => ?_, fun k hk => ?_, fun k hk => ?_⟩
  · rw [Nat.testBit_or, Nat.testBit_or, h5 k hk, e1 k hk]
  · rw [Nat.testBit_or, Nat.testBit_or, h6 k hk, e2 k hk]
  · rw [Nat.testBit_or, Nat.testBit_or, h7 k hk, e3 k hk]
theorem tb2 (a b j : Nat) : (2 ^ a ||| 2 ^ b).testBit j = (decide (a = j) || decide (b = j)) := by
  rw [Nat.testBit_or, Nat.testBit_two_pow, Nat.testBit_two_pow]
theorem pwlt {a b : Nat} (h : a < b) : 2 ^ a < 2 ^ b := Nat.pow_lt_pow_right (by decide) h
/-- the wed row of a Stand with two more in it -/
def ors (f : Nat → Int32) (b : Nat) (A B C : Int32) : Nat → Int32 := upd (upd (upd f (b + 23) (f (b + 23) ||| A)) (b + 24) (f (b + 24) ||| B)) (b + 25) (f (b + 25) ||| C)
theorem RS_ors {S : Nat} {P : Ob} {f : Nat → Int32} {b : Nat} (hS : S ≤ 7) (h : RS S P f b) {w A B C : Int32} (hw : WR (P.1 4 ||| w) (f (b + 23) ||| A) (f (b + 24) ||| B) (f (b + 25) ||| C)) : RS S (stF P 4 (P.1 4 ||| w)) (ors f b A B C) b ∧ FR f (ors f b A B C) b := by
  obtain ⟨r0, r1, r2, r3, r4, r5, r6⟩ := h
  unfold ors
  refine ⟨⟨?_, ?_, ?_, ?_, fun s hs => ?_, fun s hs => ?_, ?_⟩, fun j hj => ?_⟩
  · rw [pk_un (by omega), pk_un (by omega), pk_un (by omega)]; exact r0
  · rw [pk_un (by omega), pk_un (by omega), pk_un (by omega)]; exact r1
  · rw [pk_un (by omega), pk_un (by omega), pk_un (by omega)]; exact r2
  · rw [pk_un (by omega), pk_un (by omega), pk_un (by omega)]; exact r3
  · rw [pk_un (by omega), pk_un (by omega), pk_un (by omega)]; exact r4 s hs
  · rw [pk_un (by omega), pk_un (by omega), pk_un (by omega)]; exact r5 s hs
  · have e1 : upd (upd (upd f (b + 23) (f (b + 23) ||| A)) (b + 24) (f (b + 24) ||| B)) (b + 25) (f (b + 25) ||| C) (b + 23) = f (b + 23) ||| A := by
      rw [pk_un (by omega), pk_un (by omega), pk_us]
    have e2 : upd (upd (upd f (b + 23) (f (b + 23) ||| A)) (b + 24) (f (b + 24) ||| B)) (b + 25) (f (b + 25) ||| C) (b + 24) = f (b + 24) ||| B := by
      rw [pk_un (by omega), pk_us]
    rw [e1, e2, pk_us]
    exact hw
  · rw [pk_un (by omega), pk_un (by omega), pk_un (by omega)]
theorem w181 (M : Ob) (f u : Nat → Int32) {b : Nat} (hb : b + 26 ≤ 312) (F G H : Bool) (z : Int32) : f_X8_weds_181 (stR M 18 f) (nI b) F G H u z = some (F || G || H, stR M 18 (upd u (b + 25) (u (b + 25) ||| z))) := by
  have e25 : b + 23 + 2 = b + 25 := rfl
  unfold f_X8_weds_181
  simp (disch := omega) only [↓pk_rem, nl_0, nl_1, nl_2, nl_3, nl_4, nl_6, nl_7, nl_8, nl_9, nl_10, nl_11, nl_12, nl_20, nl_23, nl_24, nl_26, nl_32, nl_39, nl_40, nl_44, nl_48, nl_57, nl_59, nl_60, nl_61, nl_64, nl_81, nl_82, nl_99, nl_100, nl_126, nl_200, nl_208, nl_286, nl_287, nl_290, nl_312, nl_999, nl_6561, nl_9999, nI_add, pk_mul, pk_div, pk_sub, ev_leT, ev_leF, ev_ltT, ev_ltF, ev_eqT, ev_eqF, nI_clamp, nle_T, nle_F, nlt_F, or_false, false_or, or_self, if_true, if_false, bnd_def, Option.bind_some, st1s, st1n, st2, st3, st4s, st4n, eq_self, tf_1, tf_2, b2iT, b2iF, b2iE, ob_1, ob_2, f_X7_cell_at, f_X7_setCell_at, in_0, wi_at, in_0_1, in_0_2, in_0_4, in_0_8, in_0_9, in_0_10, in_0_40, in_0_99, in_1_20, in_1_60, in_0_9999, in_m99_99, in_32_126, in_48_57, e25, stR_stR]
  cases F <;> cases G <;> cases H <;> rfl
theorem w149 (o : Ob) (u : Nat → Int32) {b : Nat} (hb : b + 26 ≤ 312) (q3 : Int32) (F G H : Bool) (z : Int32) : f_X8_weds_149 o (nI b) q3 F G H u z = f_X8_weds_181 o (nI b) F G H (upd u (b + 24) (u (b + 24) ||| z)) (if (G || H) = true then (1 : Int32) <<< (q3 &&& 31) else 0) := by
  have e24 : b + 23 + 1 = b + 24 := rfl
  have e25 : b + 23 + 2 = b + 25 := rfl
  have i24 := nI_in (c := b + 24) (N := 312) (by omega) (by omega)
  have i25 := nI_in (c := b + 25) (N := 312) (by omega) (by omega)
  have j24 : nI b + (23 : Int32) + (1 : Int32) = nI (b + 24) := by simp (disch := omega) only [↓pk_rem, nl_0, nl_1, nl_2, nl_3, nl_4, nl_6, nl_7, nl_8, nl_9, nl_10, nl_11, nl_12, nl_20, nl_23, nl_24, nl_26, nl_32, nl_39, nl_40, nl_44, nl_48, nl_57, nl_59, nl_60, nl_61, nl_64, nl_81, nl_82, nl_99, nl_100, nl_126, nl_200, nl_208, nl_286, nl_287, nl_290, nl_312, nl_999, nl_6561, nl_9999, nI_add, pk_mul, pk_div, pk_sub, ev_leT, ev_leF, ev_ltT, ev_ltF, ev_eqT, ev_eqF, nI_clamp, nle_T, nle_F, nlt_F, or_false, false_or, or_self, if_true, if_false, bnd_def, Option.bind_some, st1s, st1n, st2, st3, st4s, st4n, eq_self, tf_1, tf_2, b2iT, b2iF, b2iE, ob_1, ob_2, f_X7_cell_at, f_X7_setCell_at, in_0, wi_at, in_0_1, in_0_2, in_0_4, in_0_8, in_0_9, in_0_10, in_0_40, in_0_99, in_1_20, in_1_60, in_0_9999, in_m99_99, in_32_126, in_48_57, e24]
  have j25 : nI b + (23 : Int32) + (2 : Int32) = nI (b + 25) := by simp (disch := omega) only [↓pk_rem, nl_0, nl_1, nl_2, nl_3, nl_4, nl_6, nl_7, nl_8, nl_9, nl_10, nl_11, nl_12, nl_20, nl_23, nl_24, nl_26, nl_32, nl_39, nl_40, nl_44, nl_48, nl_57, nl_59, nl_60, nl_61, nl_64, nl_81, nl_82, nl_99, nl_100, nl_126, nl_200, nl_208, nl_286, nl_287, nl_290, nl_312, nl_999, nl_6561, nl_9999, nI_add, pk_mul, pk_div, pk_sub, ev_leT, ev_leF, ev_ltT, ev_ltF, ev_eqT, ev_eqF, nI_clamp, nle_T, nle_F, nlt_F, or_false, false_or, or_self, if_true, if_false, bnd_def, Option.bind_some, st1s, st1n, st2, st3, st4s, st4n, eq_self, tf_1, tf_2, b2iT, b2iF, b2iE, ob_1, ob_2, f_X7_cell_at, f_X7_setCell_at, in_0, wi_at, in_0_1, in_0_2, in_0_4, in_0_8, in_0_9, in_0_10, in_0_40, in_0_99, in_1_20, in_1_60, in_0_9999, in_m99_99, in_32_126, in_48_57, e25]
  unfold f_X8_weds_149 f_X8_weds_173
  rw [j24, j25, if_neg i24, bnd_def, if_neg i25, nI_clamp (by omega)]
  cases G <;> cases H <;> simp [b2i_eq0]
theorem w117 (o : Ob) {b : Nat} (hb : b + 26 ≤ 312) (q2 q3 : Int32) (F G H : Bool) (z : Int32) : f_X8_weds_117 o (nI b) q2 q3 F G H z = f_X8_weds_149 o (nI b) q3 F G H (upd (o.2 18) (b + 23) (o.2 18 (b + 23) ||| z)) (if (F || H) = true then (1 : Int32) <<< (q2 &&& 31) else 0) := by
  have e24 : b + 23 + 1 = b + 24 := rfl
  have i23 := nI_in (c := b + 23) (N := 312) (by omega) (by omega)
  have i24 := nI_in (c := b + 24) (N := 312) (by omega) (by omega)
  have j23 : nI b + (23 : Int32) = nI (b + 23) := by simp (disch := omega) only [↓pk_rem, nl_0, nl_1, nl_2, nl_3, nl_4, nl_6, nl_7, nl_8, nl_9, nl_10, nl_11, nl_12, nl_20, nl_23, nl_24, nl_26, nl_32, nl_39, nl_40, nl_44, nl_48, nl_57, nl_59, nl_60, nl_61, nl_64, nl_81, nl_82, nl_99, nl_100, nl_126, nl_200, nl_208, nl_286, nl_287, nl_290, nl_312, nl_999, nl_6561, nl_9999, nI_add, pk_mul, pk_div, pk_sub, ev_leT, ev_leF, ev_ltT, ev_ltF, ev_eqT, ev_eqF, nI_clamp, nle_T, nle_F, nlt_F, or_false, false_or, or_self, if_true, if_false, bnd_def, Option.bind_some, st1s, st1n, st2, st3, st4s, st4n, eq_self, tf_1, tf_2, b2iT, b2iF, b2iE, ob_1, ob_2, f_X7_cell_at, f_X7_setCell_at, in_0, wi_at, in_0_1, in_0_2, in_0_4, in_0_8, in_0_9, in_0_10, in_0_40, in_0_99, in_1_20, in_1_60, in_0_9999, in_m99_99, in_32_126, in_48_57]
  have j24 : nI (b + 23) + (1 : Int32) = nI (b + 24) := by simp (disch := omega) only [↓pk_rem, nl_0, nl_1, nl_2, nl_3, nl_4, nl_6, nl_7, nl_8, nl_9, nl_10, nl_11, nl_12, nl_20, nl_23, nl_24, nl_26, nl_32, nl_39, nl_40, nl_44, nl_48, nl_57, nl_59, nl_60, nl_61, nl_64, nl_81, nl_82, nl_99, nl_100, nl_126, nl_200, nl_208, nl_286, nl_287, nl_290, nl_312, nl_999, nl_6561, nl_9999, nI_add, pk_mul, pk_div, pk_sub, ev_leT, ev_leF, ev_ltT, ev_ltF, ev_eqT, ev_eqF, nI_clamp, nle_T, nle_F, nlt_F, or_false, false_or, or_self, if_true, if_false, bnd_def, Option.bind_some, st1s, st1n, st2, st3, st4s, st4n, eq_self, tf_1, tf_2, b2iT, b2iF, b2iE, ob_1, ob_2, f_X7_cell_at, f_X7_setCell_at, in_0, wi_at, in_0_1, in_0_2, in_0_4, in_0_8, in_0_9, in_0_10, in_0_40, in_0_99, in_1_20, in_1_60, in_0_9999, in_m99_99, in_32_126, in_48_57, e24]
  unfold f_X8_weds_117 f_X8_weds_141
  rw [j23, j24, if_neg i23, bnd_def, if_neg i24, nI_clamp (by omega)]
  cases F <;> cases H <;> simp [b2i_eq0]
theorem w88 (o : Ob) {b : Nat} (hb : b + 26 ≤ 312) (q1 q2 q3 : Int32) (F G H : Bool) : f_X8_weds_88 o (nI b) q1 q2 q3 F G H = f_X8_weds_117 o (nI b) q2 q3 F G H (if (F || G) = true then (1 : Int32) <<< (q1 &&& 31) else 0) := by
  have i23 := nI_in (c := b + 23) (N := 312) (by omega) (by omega)
  have j23 : nI b + (23 : Int32) = nI (b + 23) := by simp (disch := omega) only [↓pk_rem, nl_0, nl_1, nl_2, nl_3, nl_4, nl_6, nl_7, nl_8, nl_9, nl_10, nl_11, nl_12, nl_20, nl_23, nl_24, nl_26, nl_32, nl_39, nl_40, nl_44, nl_48, nl_57, nl_59, nl_60, nl_61, nl_64, nl_81, nl_82, nl_99, nl_100, nl_126, nl_200, nl_208, nl_286, nl_287, nl_290, nl_312, nl_999, nl_6561, nl_9999, nI_add, pk_mul, pk_div, pk_sub, ev_leT, ev_leF, ev_ltT, ev_ltF, ev_eqT, ev_eqF, nI_clamp, nle_T, nle_F, nlt_F, or_false, false_or, or_self, if_true, if_false, bnd_def, Option.bind_some, st1s, st1n, st2, st3, st4s, st4n, eq_self, tf_1, tf_2, b2iT, b2iF, b2iE, ob_1, ob_2, f_X7_cell_at, f_X7_setCell_at, in_0, wi_at, in_0_1, in_0_2, in_0_4, in_0_8, in_0_9, in_0_10, in_0_40, in_0_99, in_1_20, in_1_60, in_0_9999, in_m99_99, in_32_126, in_48_57]
  unfold f_X8_weds_88 f_X8_weds_110
  rw [j23, if_neg i23]
  cases F <;> cases G <;> simp [b2i_eq0]
theorem weds_at {M : Ob} {f : Nat → Int32} {b : Nat} (hb : b + 26 ≤ 312) {x q1 q2 q3 : Int32} (l1 : f_X8_lowest (stR M 18 f) (nI b) (nI 0) x = some q1) (l2 : f_X8_lowest (stR M 18 f) (nI b) (nI 1) x = some q2) (l3 : f_X8_lowest (stR M 18 f) (nI b) (nI 2) x = some q3) (n1 n2 n3 : Bool) (h1 : (q1 < 0) ↔ n1 = true) (h2 : (q2 < 0) ↔ n2 = true) (h3 : (q3 < 0) ↔ n3 = true) {F G H : Bool} (hF : F = (!n2 && !n1)) (hG : G = (!F && !n1 && !n3)) (hH : H = (!F && !G && !n2 && !n3)) {A B C : Int32} (hA : (if (F || G) = true then (1 : Int32) <<< (q1 &&& 31) else 0) = A) (hB : (if (F || H) = true then (1 : Int32) <<< (q2 &&& 31) else 0) = B) (hC : (if (G || H) = true then (1 : Int32) <<< (q3 &&& 31) else 0) = C) : f_X8_weds (stR M 18 f) (nI b) x = some (F || G || H, stR M 18 (ors f b A B C)) := by
  have hmain : f_X8_weds_88 (stR M 18 f) (nI b) q1 q2 q3 F G H = some (F || G || H, stR M 18 (ors f b A B C)) := by
    rw [w88 _ hb, hA, w117 _ hb, hB, w149 _ _ hb, hC, w181 _ _ _ hb]
    unfold ors
    simp (disch := omega) only [↓pk_rem, nl_0, nl_1, nl_2, nl_3, nl_4, nl_6, nl_7, nl_8, nl_9, nl_10, nl_11, nl_12, nl_20, nl_23, nl_24, nl_26, nl_32, nl_39, nl_40, nl_44, nl_48, nl_57, nl_59, nl_60, nl_61, nl_64, nl_81, nl_82, nl_99, nl_100, nl_126, nl_200, nl_208, nl_286, nl_287, nl_290, nl_312, nl_999, nl_6561, nl_9999, nI_add, pk_mul, pk_div, pk_sub, ev_leT, ev_leF, ev_ltT, ev_ltF, ev_eqT, ev_eqF, nI_clamp, nle_T, nle_F, nlt_F, or_false, false_or, or_self, if_true, if_false, bnd_def, Option.bind_some, st1s, st1n, st2, st3, st4s, st4n, eq_self, tf_1, tf_2, b2iT, b2iF, b2iE, ob_1, ob_2, f_X7_cell_at, f_X7_setCell_at, in_0, wi_at, in_0_1, in_0_2, in_0_4, in_0_8, in_0_9, in_0_10, in_0_40, in_0_99, in_1_20, in_1_60, in_0_9999, in_m99_99, in_32_126, in_48_57, pk_un]
  rw [← hmain]
  have hw : f_X8_weds (stR M 18 f) (nI b) x = if q2 < 0 then (f_X8_weds_39 (stR M 18 f) (nI b) q1 q2 q3) else (if q1 < 0 then (f_X8_weds_39 (stR M 18 f) (nI b) q1 q2 q3) else (f_X8_weds_40 (stR M 18 f) (nI b) q1 q2 q3 true)) := by
    have l1' : f_X8_lowest (stR M 18 f) (nI b) 0 x = some q1 := l1
    have l2' : f_X8_lowest (stR M 18 f) (nI b) 1 x = some q2 := l2
    have l3' : f_X8_lowest (stR M 18 f) (nI b) 2 x = some q3 := l3
    unfold f_X8_weds
    rw [l1', l2', l3', Option.bind_some, Option.bind_some, Option.bind_some]
  rw [hw, hH, hG, hF]
  unfold f_X8_weds_39 f_X8_weds_40 f_X8_weds_60 f_X8_weds_61 f_X8_weds_87
  simp only [h1, h2, h3]
  cases n1 <;> cases n2 <;> cases n3 <;> simp [b2i_eq0]
theorem numI_n : (numI none < 0) ↔ true = true := ⟨fun _ => rfl, fun _ => by unfold numI; decide⟩
theorem numI_s {k : Nat} (hk : k < 2 ^ 31) : (numI (some k) < 0) ↔ false = true := ⟨fun h => absurd h (nI_pos hk), fun h => by cases h⟩
theorem or_0 (x : Int32) : x ||| nI 0 = x := by
  have h : nI 0 = 0 := rfl
  rw [h]
  simp
theorem X8_weds {M T P : Ob} {f : Nat → Int32} {S U L N D y b : Nat} (hb : b + 26 ≤ 312) (hT : TK T S U L N D) (hM : MK M T S U L N D) (hy : y < 2 ^ 31) (hP : PK P y) (hR : RS S P f b) {W : Nat} (hW : W < 2 ^ 19) (hPW : P.1 4 = nI W) (x : Int32) : ∃ g, f_X8_weds (stR M 18 f) (nI b) x = some (!decide (cpl (fU T U W x) (fL T L W x) (fS T S D y (P.1 0) (P.1 1) W x) = 0), stR M 18 g) ∧ RS S (stF P 4 (P.1 4 ||| nI (cpl (fU T U W x) (fL T L W x) (fS T S D y (P.1 0) (P.1 1) W x)))) g b ∧ FR f g b := by
  have lU := hT.2.2.2.2.2.2.2.2.1
  have lL := hT.2.2.2.2.2.2.2.2.2.1
  have lS := hT.2.2.2.2.2.1
  have hR0 := hR
  obtain ⟨r0, r1, r2, r3, r4, r5, W', w1, w2, w3, W1, W2, W3, W4, W5, W6, W7, W8, W9, W10, W11⟩ := hR
  have hWW : W' = W := (nI_eq (by omega) (by omega)).mp (W5.symm.trans hPW)
  subst hWW
  have mI := hM.2.2.2.2.2.1
  have q1 : f_X8_lowest (stR M 18 f) (nI b) (nI 0) x = some (numI (fS T S D y (P.1 0) (P.1 1) W' x)) :=
    X8_lowest (part := 0) hb x (uws T D y (P.1 0) (P.1 1) W' x) (fun k => pl T D y k (P.1 0) (P.1 1)) W2 lS (by omega) hM.1 (fun k hk _ => X8_place hb hT hM hy hP.1 hR0 hk) (fun k hk h => absurd h (by omega)) W6 (fun k hk => by unfold uws; rw [W11 k (by omega)])
  have q2 : f_X8_lowest (stR M 18 f) (nI b) (nI 1) x = some (numI (fU T U W' x)) :=
    X8_lowest (part := 1) hb x (uwl T W' 0 x) (fun k => T.2 0 (6 * 0 + k)) (w := w2) (by omega) (by omega) (by omega) hM.2.2.2.1 (fun k hk h => absurd h (by omega)) (fun k hk h => ⟨by omega, by rw [show 6 * 1 - 6 + k = 6 * 0 + k by omega]; exact mI _ (by omega) (Or.inl (by omega))⟩) W7 (fun k hk => by unfold uwl; rw [← W9 k (by omega), Nat.mul_zero, Nat.zero_add])
  have q3 : f_X8_lowest (stR M 18 f) (nI b) (nI 2) x = some (numI (fL T L W' x)) :=
    X8_lowest (part := 2) hb x (uwl T W' 1 x) (fun k => T.2 0 (6 * 1 + k)) (w := w3) (by omega) (by omega) (by omega) hM.2.2.2.2.1 (fun k hk h => absurd h (by omega)) (fun k hk h => ⟨by omega, mI _ (by omega) (Or.inr (by omega))⟩) W8 (fun k hk => by unfold uwl; rw [← W10 k (by omega)])
  have hWR : WR (P.1 4) (f (b + 23)) (f (b + 24)) (f (b + 25)) := ⟨W', w1, w2, w3, W1, W2, W3, W4, W5, W6, W7, W8, W9, W10, W11⟩
  have e24 : b + 23 + 1 = b + 24 := rfl
  have e25 : b + 23 + 2 = b + 25 := rfl
  -- what is to be shown, by what is or-ed in
  have fin : ∀ (A B C Z : Nat), Z < 2 ^ 19 → A < 2 ^ 7 → B < 2 ^ 6 → C < 2 ^ 6 → (∀ k, k < 6 → Z.testBit k = B.testBit k) → (∀ k, k < 6 → Z.testBit (6 + k) = C.testBit k) → (∀ k, k < 7 → Z.testBit (12 + k) = A.testBit k) → f_X8_weds (stR M 18 f) (nI b) x = some (!decide (Z = 0), stR M 18 (ors f b (nI A) (nI B) (nI C))) → ∃ g, f_X8_weds (stR M 18 f) (nI b) x = some (!decide (Z = 0), stR M 18 g) ∧ RS S (stF P 4 (P.1 4 ||| nI Z)) g b ∧ FR f g b := by
    intro A B C Z z1 z2 z3 z4 z5 z6 z7 z8
    obtain ⟨c1, c2⟩ := RS_ors lS hR0 (hWR.or z1 z2 z3 z4 z5 z6 z7)
    exact ⟨_, z8, c1, c2⟩
  have zero : f_X8_weds (stR M 18 f) (nI b) x = some (false, stR M 18 (ors f b (nI 0) (nI 0) (nI 0))) → ∃ g, f_X8_weds (stR M 18 f) (nI b) x = some (!decide ((0 : Nat) = 0), stR M 18 g) ∧ RS S (stF P 4 (P.1 4 ||| nI 0)) g b ∧ FR f g b := fun z => fin 0 0 0 0 (by decide) (by decide) (by decide) (by decide) (fun _ _ => rfl) (fun k _ => by rw [Nat.zero_testBit, Nat.zero_testBit]) (fun k _ => by rw [Nat.zero_testBit, Nat.zero_testBit]) z
  have pos : ∀ a b : Nat, ¬ 2 ^ a ||| 2 ^ b = 0 := fun a b h => by
    have h2 := Nat.two_pow_pos a
    have h3 : 2 ^ a ≤ 2 ^ a ||| 2 ^ b := Nat.left_le_or
    omega
  cases hu : fU T U W' x with
  | none =>
    cases hl : fL T L W' x with
    | none =>
      cases hs : fS T S D y (P.1 0) (P.1 1) W' x with
      | none =>
        exact zero (weds_at hb (by rw [q1, hs]) (by rw [q2, hu]) (by rw [q3, hl]) true true true numI_n numI_n numI_n (F := false) (G := false) (H := false) rfl rfl rfl rfl rfl rfl)
      | some s =>
        have c3 := fst1_some hs
        exact zero (weds_at hb (by rw [q1, hs]) (by rw [q2, hu]) (by rw [q3, hl]) false true true (numI_s (by omega)) numI_n numI_n (F := false) (G := false) (H := false) rfl rfl rfl rfl rfl rfl)
    | some l =>
      have c2 := fst1_some hl
      cases hs : fS T S D y (P.1 0) (P.1 1) W' x with
      | none =>
        exact zero (weds_at hb (by rw [q1, hs]) (by rw [q2, hu]) (by rw [q3, hl]) true true false numI_n numI_n (numI_s (by omega)) (F := false) (G := false) (H := false) rfl rfl rfl rfl rfl rfl)
      | some s =>
        have c3 := fst1_some hs
        refine fin (2 ^ s) 0 (2 ^ l) (2 ^ (12 + s) ||| 2 ^ (6 + l)) (Nat.or_lt_two_pow (pwlt (by omega)) (pwlt (by omega))) (pwlt (by omega)) (by decide) (pwlt (by omega)) (fun k hk => ?_) (fun k hk => ?_) (fun k hk => ?_) ?_
        · rw [tb2, Nat.zero_testBit, Bool.or_eq_false_iff]; exact ⟨decide_eq_false (by omega), decide_eq_false (by omega)⟩
        · rw [tb2, Nat.testBit_two_pow, decide_eq_false (show ¬ 12 + s = 6 + k by omega), Bool.false_or]; congr 1; exact propext ⟨fun h => by omega, fun h => by omega⟩
        · rw [tb2, Nat.testBit_two_pow, decide_eq_false (show ¬ 6 + l = 12 + k by omega), Bool.or_false]; congr 1; exact propext ⟨fun h => by omega, fun h => by omega⟩
        · rw [decide_eq_false (pos _ _)]; exact weds_at hb (by rw [q1, hs]) (by rw [q2, hu]) (by rw [q3, hl]) false true false (numI_s (by omega)) numI_n (numI_s (by omega)) (F := false) (G := true) (H := false) rfl rfl rfl (bb_one (by omega)) rfl (bb_one (by omega))
  | some u =>
    have c1 := fst1_some hu
    cases hs : fS T S D y (P.1 0) (P.1 1) W' x with
    | none =>
      cases hl : fL T L W' x with
      | none =>
        exact zero (weds_at hb (by rw [q1, hs]) (by rw [q2, hu]) (by rw [q3, hl]) true false true numI_n (numI_s (by omega)) numI_n (F := false) (G := false) (H := false) rfl rfl rfl rfl rfl rfl)
      | some l =>
        have c2 := fst1_some hl
        refine fin 0 (2 ^ u) (2 ^ l) (2 ^ u ||| 2 ^ (6 + l)) (Nat.or_lt_two_pow (pwlt (by omega)) (pwlt (by omega))) (by decide) (pwlt (by omega)) (pwlt (by omega)) (fun k hk => ?_) (fun k hk => ?_) (fun k hk => ?_) ?_
        · rw [tb2, Nat.testBit_two_pow, decide_eq_false (show ¬ 6 + l = k by omega), Bool.or_false]
        · rw [tb2, Nat.testBit_two_pow, decide_eq_false (show ¬ u = 6 + k by omega), Bool.false_or]; congr 1; exact propext ⟨fun h => by omega, fun h => by omega⟩
        · rw [tb2, Nat.zero_testBit, Bool.or_eq_false_iff]; exact ⟨decide_eq_false (by omega), decide_eq_false (by omega)⟩
        · rw [decide_eq_false (pos _ _)]; exact weds_at hb (by rw [q1, hs]) (by rw [q2, hu]) (by rw [q3, hl]) true false false numI_n (numI_s (by omega)) (numI_s (by omega)) (F := false) (G := false) (H := true) rfl rfl rfl rfl (bb_one (by omega)) (bb_one (by omega))
    | some s =>
      have c3 := fst1_some hs
      have hcpl : cpl (some u) (fL T L W' x) (some s) = 2 ^ u ||| 2 ^ (12 + s) := by cases fL T L W' x <;> rfl
      rw [hcpl]
      refine fin (2 ^ s) (2 ^ u) 0 (2 ^ u ||| 2 ^ (12 + s)) (Nat.or_lt_two_pow (pwlt (by omega)) (pwlt (by omega))) (pwlt (by omega)) (pwlt (by omega)) (by decide) (fun k hk => ?_) (fun k hk => ?_) (fun k hk => ?_) ?_
      · rw [tb2, Nat.testBit_two_pow, decide_eq_false (show ¬ 12 + s = k by omega), Bool.or_false]
      · rw [tb2, Nat.zero_testBit, Bool.or_eq_false_iff]; exact ⟨decide_eq_false (by omega), decide_eq_false (by omega)⟩
      · rw [tb2, Nat.testBit_two_pow, decide_eq_false (show ¬ u = 12 + k by omega), Bool.false_or]; congr 1; exact propext ⟨fun h => by omega, fun h => by omega⟩
      · cases hl : fL T L W' x with
        | none =>
          rw [decide_eq_false (pos _ _)]; exact weds_at hb (by rw [q1, hs]) (by rw [q2, hu]) (by rw [q3, hl]) false false true (numI_s (by omega)) (numI_s (by omega)) numI_n (F := true) (G := false) (H := false) rfl rfl rfl (bb_one (by omega)) (bb_one (by omega)) rfl
        | some l =>
          have c2 := fst1_some hl
          rw [decide_eq_false (pos _ _)]; exact weds_at hb (by rw [q1, hs]) (by rw [q2, hu]) (by rw [q3, hl]) false false false (numI_s (by omega)) (numI_s (by omega)) (numI_s (by omega)) (F := true) (G := false) (H := false) rfl rfl rfl (bb_one (by omega)) (bb_one (by omega)) rfl
