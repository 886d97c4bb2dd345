/-! what is asked -/
def allq (T As : Ob) (D y : Nat) (sh ah : Int32) : Nat → Bool
  | 0 => true
  | n + 1 => allq T As D y sh ah n && ag T D y (As.2 0 n).toNatClampNeg sh ah (As.2 1 n).toNatClampNeg
theorem allq_false {T As : Ob} {D y : Nat} {sh ah : Int32} {i : Nat} (h : allq T As D y sh ah i = false) : ∀ n, allq T As D y sh ah (i + n) = false
  | 0 => h
  | n + 1 => by
    rw [show i + (n + 1) = (i + n) + 1 by omega, allq, allq_false h n, Bool.false_and]
theorem ask_at {As M : Ob} {q S U L : Nat} (hA : AR As M q S U L) {i : Nat} (hi : i < q) : ∃ s l k, s < S ∧ l < 2 ∧ k < 6 ∧ td U L (6 * l + k) ∧ As.2 0 i = nI s ∧ As.2 1 i = nI (6 * l + k) ∧ M.2 27 i = nI s ∧ M.2 28 i = nI l ∧ M.2 29 i = nI k := hA.2.2.2 i hi
theorem allq_succ {T As M : Ob} {q S U L D y : Nat} (hA : AR As M q S U L) (hS : S ≤ 7) {i s o : Nat} (hs : s < S) (ho : o < 12) (e1 : As.2 0 i = nI s) (e2 : As.2 1 i = nI o) (sh ah : Int32) : allq T As D y sh ah (i + 1) = (allq T As D y sh ah i && ag T D y s sh ah o) := by
  rw [allq, e1, e2, nI_clamp (by omega), nI_clamp (by omega)]
theorem X7_allSo {T As P M : Ob} {q S U L N D y : Nat} (hT : TK T S U L N D) (hA : AR As M q S U L) (hy : y < 2 ^ 31) (hP : P.1 3 = nI y) : f_X0_allSo As T P = some (allq T As D y (P.1 0) (P.1 1) q) := by
  have lS := hT.2.2.2.2.2.1
  have lq := hA.2.2.1
  have ha := hA.1
  refine loopP (fun t i (_ : Unit) => f_X0_allSo_2 As T P t (nI i)) 0 q (by omega) (by omega) (fun i _ => allq T As D y (P.1 0) (P.1 1) i = true) (fun o => o = some (allq T As D y (P.1 0) (P.1 1) q)) () rfl
    (fun t _ h => by
      show f_X0_allSo_2 As T P (t + 1) (nI q) = _
      rw [f_X0_allSo_2, ha, if_pos (nI_le (Nat.le_refl _) (by omega)), h])
    (fun t i _ hi h => ?_)
  obtain ⟨s, l, k, hs, hl, hk, ht, e1, e2, -⟩ := ask_at hA hi
  have hsu := allq_succ (T := T) (D := D) (y := y) hA lS hs (show 6 * l + k < 12 by omega) e1 e2 (P.1 0) (P.1 1)
  have hpl := X7_placeOf (P := P) hT hy hP (show s < 7 by omega)
  have hag : f_X7_meet (T.2 2 s) (pl T D y s (P.1 0) (P.1 1) - T.2 0 (6 * l + k)) = ag T D y s (P.1 0) (P.1 1) (6 * l + k) := rfl
  rw [h, Bool.true_and] at hsu
  cases hv : ag T D y s (P.1 0) (P.1 1) (6 * l + k) with
  | false =>
    left
    show f_X0_allSo_2 As T P (t + 1) (nI i) = _
    have hf := allq_false (hsu.trans hv) (q - (i + 1))
    rw [show i + 1 + (q - (i + 1)) = q by omega] at hf
    rw [f_X0_allSo_2, hf]
    simp (disch := omega) only [↓pk_rem, nl_0, nl_1, nl_2, nl_3, nl_4, nl_6, nl_7, nl_8, nl_9, nl_10, nl_11, nl_12, nl_20, nl_23, nl_24, nl_26, nl_32, nl_39, nl_40, nl_44, nl_48, nl_57, nl_59, nl_60, nl_61, nl_64, nl_81, nl_82, nl_99, nl_100, nl_126, nl_200, nl_208, nl_286, nl_287, nl_290, nl_312, nl_999, nl_6561, nl_9999, nI_add, pk_mul, pk_div, pk_sub, ev_leT, ev_leF, ev_ltT, ev_ltF, ev_eqT, ev_eqF, nI_clamp, nle_T, nle_F, nlt_F, or_false, false_or, or_self, if_true, if_false, bnd_def, Option.bind_some, st1s, st1n, st2, st3, st4s, st4n, eq_self, tf_1, tf_2, b2iT, b2iF, b2iE, ob_1, ob_2, f_X7_cell_at, f_X7_setCell_at, in_0, wi_at, in_0_1, in_0_2, in_0_4, in_0_8, in_0_9, in_0_10, in_0_40, in_0_99, in_1_20, in_1_60, in_0_9999, in_m99_99, in_32_126, in_48_57, ha, e1, e2, hpl, hag, hv]
  | true =>
    right
    refine ⟨(), ?_, hsu.trans hv⟩
    show f_X0_allSo_2 As T P (t + 1) (nI i) = f_X0_allSo_2 As T P t (nI (i + 1))
    rw [f_X0_allSo_2]
    simp (disch := omega) only [↓pk_rem, nl_0, nl_1, nl_2, nl_3, nl_4, nl_6, nl_7, nl_8, nl_9, nl_10, nl_11, nl_12, nl_20, nl_23, nl_24, nl_26, nl_32, nl_39, nl_40, nl_44, nl_48, nl_57, nl_59, nl_60, nl_61, nl_64, nl_81, nl_82, nl_99, nl_100, nl_126, nl_200, nl_208, nl_286, nl_287, nl_290, nl_312, nl_999, nl_6561, nl_9999, nI_add, pk_mul, pk_div, pk_sub, ev_leT, ev_leF, ev_ltT, ev_ltF, ev_eqT, ev_eqF, nI_clamp, nle_T, nle_F, nlt_F, or_false, false_or, or_self, if_true, if_false, bnd_def, Option.bind_some, st1s, st1n, st2, st3, st4s, st4n, eq_self, tf_1, tf_2, b2iT, b2iF, b2iE, ob_1, ob_2, f_X7_cell_at, f_X7_setCell_at, in_0, wi_at, in_0_1, in_0_2, in_0_4, in_0_8, in_0_9, in_0_10, in_0_40, in_0_99, in_1_20, in_1_60, in_0_9999, in_m99_99, in_32_126, in_48_57, ha, e1, e2, hpl, hag, hv]
theorem X8_isSo {T As M : Ob} {f : Nat → Int32} {q S U L N D y : Nat} (hT : TK T S U L N D) (hM : MK M T S U L N D) (hA : AR As (stR M 18 f) q S U L) (hy : y < 2 ^ 31) (h3 : f 3 = nI y) (sh ah : Int32) : f_X8_isSo (stR M 18 f) sh ah = some (allq T As D y sh ah q) := by
  have lS := hT.2.2.2.2.2.1
  have lq := hA.2.2.1
  have ha : M.1 26 = nI q := hA.2.1
  have hl := loopE (fun t i (x : Bool) => f_X8_isSo_5 (stR M 18 f) sh ah t x (nI i)) 0 q (by omega) (by omega) (fun i x => x = allq T As D y sh ah i) (fun x => some x) true rfl
    (fun t x h => by
      show f_X8_isSo_5 (stR M 18 f) sh ah (t + 1) x (nI q) = _
      rw [f_X8_isSo_5]
      simp (disch := omega) only [↓pk_rem, nl_0, nl_1, nl_2, nl_3, nl_4, nl_6, nl_7, nl_8, nl_9, nl_10, nl_11, nl_12, nl_20, nl_23, nl_24, nl_26, nl_32, nl_39, nl_40, nl_44, nl_48, nl_57, nl_59, nl_60, nl_61, nl_64, nl_81, nl_82, nl_99, nl_100, nl_126, nl_200, nl_208, nl_286, nl_287, nl_290, nl_312, nl_999, nl_6561, nl_9999, nI_add, pk_mul, pk_div, pk_sub, ev_leT, ev_leF, ev_ltT, ev_ltF, ev_eqT, ev_eqF, nI_clamp, nle_T, nle_F, nlt_F, or_false, false_or, or_self, if_true, if_false, bnd_def, Option.bind_some, st1s, st1n, st2, st3, st4s, st4n, eq_self, tf_1, tf_2, b2iT, b2iF, b2iE, ob_1, ob_2, f_X7_cell_at, f_X7_setCell_at, in_0, wi_at, in_0_1, in_0_2, in_0_4, in_0_8, in_0_9, in_0_10, in_0_40, in_0_99, in_1_20, in_1_60, in_0_9999, in_m99_99, in_32_126, in_48_57, ha])
    (fun t i x hi h => by
      obtain ⟨s, l, k, hs, hl, hk, ht, e1, e2, e3, e4, e5⟩ := ask_at hA hi
      have e3' : M.2 27 i = nI s := e3
      have e4' : M.2 28 i = nI l := e4
      have e5' : M.2 29 i = nI k := e5
      have hsu := allq_succ (T := T) (D := D) (y := y) hA lS hs (show 6 * l + k < 12 by omega) e1 e2 sh ah
      have em := X8_meets hT (hM.slot f) y hs sh ah (l := l) (k := k) (by omega) ht
      refine ⟨_, ?_, rfl⟩
      show f_X8_isSo_5 (stR M 18 f) sh ah (t + 1) x (nI i) = f_X8_isSo_5 (stR M 18 f) sh ah t _ (nI (i + 1))
      rw [f_X8_isSo_5, hsu, ← h]
      unfold f_X8_isSo_62 f_X8_isSo_63
      cases x with
      | false => simp (disch := omega) only [↓pk_rem, nl_0, nl_1, nl_2, nl_3, nl_4, nl_6, nl_7, nl_8, nl_9, nl_10, nl_11, nl_12, nl_20, nl_23, nl_24, nl_26, nl_32, nl_39, nl_40, nl_44, nl_48, nl_57, nl_59, nl_60, nl_61, nl_64, nl_81, nl_82, nl_99, nl_100, nl_126, nl_200, nl_208, nl_286, nl_287, nl_290, nl_312, nl_999, nl_6561, nl_9999, nI_add, pk_mul, pk_div, pk_sub, ev_leT, ev_leF, ev_ltT, ev_ltF, ev_eqT, ev_eqF, nI_clamp, nle_T, nle_F, nlt_F, or_false, false_or, or_self, if_true, if_false, bnd_def, Option.bind_some, st1s, st1n, st2, st3, st4s, st4n, eq_self, tf_1, tf_2, b2iT, b2iF, b2iE, ob_1, ob_2, f_X7_cell_at, f_X7_setCell_at, in_0, wi_at, in_0_1, in_0_2, in_0_4, in_0_8, in_0_9, in_0_10, in_0_40, in_0_99, in_1_20, in_1_60, in_0_9999, in_m99_99, in_32_126, in_48_57, ha, Bool.false_and]
      | true =>
        cases hv : ag T D y s sh ah (6 * l + k) with
        | false => simp (disch := omega) only [↓pk_rem, nl_0, nl_1, nl_2, nl_3, nl_4, nl_6, nl_7, nl_8, nl_9, nl_10, nl_11, nl_12, nl_20, nl_23, nl_24, nl_26, nl_32, nl_39, nl_40, nl_44, nl_48, nl_57, nl_59, nl_60, nl_61, nl_64, nl_81, nl_82, nl_99, nl_100, nl_126, nl_200, nl_208, nl_286, nl_287, nl_290, nl_312, nl_999, nl_6561, nl_9999, nI_add, pk_mul, pk_div, pk_sub, ev_leT, ev_leF, ev_ltT, ev_ltF, ev_eqT, ev_eqF, nI_clamp, nle_T, nle_F, nlt_F, or_false, false_or, or_self, if_true, if_false, bnd_def, Option.bind_some, st1s, st1n, st2, st3, st4s, st4n, eq_self, tf_1, tf_2, b2iT, b2iF, b2iE, ob_1, ob_2, f_X7_cell_at, f_X7_setCell_at, in_0, wi_at, in_0_1, in_0_2, in_0_4, in_0_8, in_0_9, in_0_10, in_0_40, in_0_99, in_1_20, in_1_60, in_0_9999, in_m99_99, in_32_126, in_48_57, ha, e3', e4', e5', h3, X8_dampOf hT (hM.slot f), em, hv, Bool.true_and]
        | true => simp (disch := omega) only [↓pk_rem, nl_0, nl_1, nl_2, nl_3, nl_4, nl_6, nl_7, nl_8, nl_9, nl_10, nl_11, nl_12, nl_20, nl_23, nl_24, nl_26, nl_32, nl_39, nl_40, nl_44, nl_48, nl_57, nl_59, nl_60, nl_61, nl_64, nl_81, nl_82, nl_99, nl_100, nl_126, nl_200, nl_208, nl_286, nl_287, nl_290, nl_312, nl_999, nl_6561, nl_9999, nI_add, pk_mul, pk_div, pk_sub, ev_leT, ev_leF, ev_ltT, ev_ltF, ev_eqT, ev_eqF, nI_clamp, nle_T, nle_F, nlt_F, or_false, false_or, or_self, if_true, if_false, bnd_def, Option.bind_some, st1s, st1n, st2, st3, st4s, st4n, eq_self, tf_1, tf_2, b2iT, b2iF, b2iE, ob_1, ob_2, f_X7_cell_at, f_X7_setCell_at, in_0, wi_at, in_0_1, in_0_2, in_0_4, in_0_8, in_0_9, in_0_10, in_0_40, in_0_99, in_1_20, in_1_60, in_0_9999, in_m99_99, in_32_126, in_48_57, ha, e3', e4', e5', h3, X8_dampOf hT (hM.slot f), em, hv, Bool.true_and])
  obtain ⟨x, h1, h2⟩ := hl
  rw [f_X8_isSo]
  rw [h2] at h1
  exact h1
theorem add_sub_swap (a b c : Int32) : a - b + c = a + c - b := by
  rw [Int32.sub_eq_add_neg, Int32.sub_eq_add_neg, Int32.add_assoc, Int32.add_comm (-b) c, ← Int32.add_assoc]
theorem pl_same (T : Ob) (D y s : Nat) (x : Int32) : pl T D y s x x = din T D y (T.2 3 s) + x := by
  unfold pl
  rw [ite_self]
theorem X6_gap {T : Ob} {S U L N D : Nat} (hT : TK T S U L N D) {y : Nat} (hy : y < 2 ^ 31) {s o : Nat} (hs : s < 7) (ho : o < 12) : f_X6_gapUnshifted T (nI s) (nI o) (nI y) = some (din T D y (T.2 3 s) - T.2 0 o) := by
  unfold f_X6_gapUnshifted
  simp (disch := omega) only [↓pk_rem, nl_0, nl_1, nl_2, nl_3, nl_4, nl_6, nl_7, nl_8, nl_9, nl_10, nl_11, nl_12, nl_20, nl_23, nl_24, nl_26, nl_32, nl_39, nl_40, nl_44, nl_48, nl_57, nl_59, nl_60, nl_61, nl_64, nl_81, nl_82, nl_99, nl_100, nl_126, nl_200, nl_208, nl_286, nl_287, nl_290, nl_312, nl_999, nl_6561, nl_9999, nI_add, pk_mul, pk_div, pk_sub, ev_leT, ev_leF, ev_ltT, ev_ltF, ev_eqT, ev_eqF, nI_clamp, nle_T, nle_F, nlt_F, or_false, false_or, or_self, if_true, if_false, bnd_def, Option.bind_some, st1s, st1n, st2, st3, st4s, st4n, eq_self, tf_1, tf_2, b2iT, b2iF, b2iE, ob_1, ob_2, f_X7_cell_at, f_X7_setCell_at, in_0, wi_at, in_0_1, in_0_2, in_0_4, in_0_8, in_0_9, in_0_10, in_0_40, in_0_99, in_1_20, in_1_60, in_0_9999, in_m99_99, in_32_126, in_48_57, X6_dampInch hT]
theorem X7_allSoAt {T As M : Ob} (o0 : Ob) {q S U L N D y : Nat} (hT : TK T S U L N D) (hA : AR As M q S U L) (hy : y < 2 ^ 31) (x : Int32) : f_X1_allSoAt o0 T As x (nI y) = some (allq T As D y x x q) := by
  have lS := hT.2.2.2.2.2.1
  have lq := hA.2.2.1
  have ha := hA.1
  refine loopP (fun t i (_ : Unit) => f_X1_allSoAt_3 T As x (nI y) t (nI i)) 0 q (by omega) (by omega) (fun i _ => allq T As D y x x i = true) (fun o => o = some (allq T As D y x x q)) () rfl
    (fun t _ h => by
      show f_X1_allSoAt_3 T As x (nI y) (t + 1) (nI q) = _
      rw [f_X1_allSoAt_3, ha, if_pos (nI_le (Nat.le_refl _) (by omega)), h])
    (fun t i _ hi h => ?_)
  obtain ⟨s, l, k, hs, hl, hk, ht, e1, e2, -⟩ := ask_at hA hi
  have hsu := allq_succ (T := T) (D := D) (y := y) hA lS hs (show 6 * l + k < 12 by omega) e1 e2 x x
  have hgp := X6_gap hT hy (show s < 7 by omega) (show 6 * l + k < 12 by omega)
  have hag : f_X7_meet (T.2 2 s) (din T D y (T.2 3 s) - T.2 0 (6 * l + k) + x) = ag T D y s x x (6 * l + k) := by
    unfold ag
    rw [pl_same, add_sub_swap]
  rw [h, Bool.true_and] at hsu
  cases hv : ag T D y s x x (6 * l + k) with
  | false =>
    left
    show f_X1_allSoAt_3 T As x (nI y) (t + 1) (nI i) = _
    have hf := allq_false (hsu.trans hv) (q - (i + 1))
    rw [show i + 1 + (q - (i + 1)) = q by omega] at hf
    rw [f_X1_allSoAt_3, hf]
    simp (disch := omega) only [↓pk_rem, nl_0, nl_1, nl_2, nl_3, nl_4, nl_6, nl_7, nl_8, nl_9, nl_10, nl_11, nl_12, nl_20, nl_23, nl_24, nl_26, nl_32, nl_39, nl_40, nl_44, nl_48, nl_57, nl_59, nl_60, nl_61, nl_64, nl_81, nl_82, nl_99, nl_100, nl_126, nl_200, nl_208, nl_286, nl_287, nl_290, nl_312, nl_999, nl_6561, nl_9999, nI_add, pk_mul, pk_div, pk_sub, ev_leT, ev_leF, ev_ltT, ev_ltF, ev_eqT, ev_eqF, nI_clamp, nle_T, nle_F, nlt_F, or_false, false_or, or_self, if_true, if_false, bnd_def, Option.bind_some, st1s, st1n, st2, st3, st4s, st4n, eq_self, tf_1, tf_2, b2iT, b2iF, b2iE, ob_1, ob_2, f_X7_cell_at, f_X7_setCell_at, in_0, wi_at, in_0_1, in_0_2, in_0_4, in_0_8, in_0_9, in_0_10, in_0_40, in_0_99, in_1_20, in_1_60, in_0_9999, in_m99_99, in_32_126, in_48_57, ha, e1, e2, hgp, hag, hv]
  | true =>
    right
    refine ⟨(), ?_, hsu.trans hv⟩
    show f_X1_allSoAt_3 T As x (nI y) (t + 1) (nI i) = f_X1_allSoAt_3 T As x (nI y) t (nI (i + 1))
    rw [f_X1_allSoAt_3]
    simp (disch := omega) only [↓pk_rem, nl_0, nl_1, nl_2, nl_3, nl_4, nl_6, nl_7, nl_8, nl_9, nl_10, nl_11, nl_12, nl_20, nl_23, nl_24, nl_26, nl_32, nl_39, nl_40, nl_44, nl_48, nl_57, nl_59, nl_60, nl_61, nl_64, nl_81, nl_82, nl_99, nl_100, nl_126, nl_200, nl_208, nl_286, nl_287, nl_290, nl_312, nl_999, nl_6561, nl_9999, nI_add, pk_mul, pk_div, pk_sub, ev_leT, ev_leF, ev_ltT, ev_ltF, ev_eqT, ev_eqF, nI_clamp, nle_T, nle_F, nlt_F, or_false, false_or, or_self, if_true, if_false, bnd_def, Option.bind_some, st1s, st1n, st2, st3, st4s, st4n, eq_self, tf_1, tf_2, b2iT, b2iF, b2iE, ob_1, ob_2, f_X7_cell_at, f_X7_setCell_at, in_0, wi_at, in_0_1, in_0_2, in_0_4, in_0_8, in_0_9, in_0_10, in_0_40, in_0_99, in_1_20, in_1_60, in_0_9999, in_m99_99, in_32_126, in_48_57, ha, e1, e2, hgp, hag, hv]
/-! shifts -/
def xd (i : Nat) : Int32 := nI 40 - nI i
def xe (i : Nat) : Int32 := nI 80 - nI i
theorem xd_1 : ∀ i, i < 81 → xd i = nI (80 - i) - nI 40 ∧ ¬ xd i < -40 ∧ xd i + -1 = xd (i + 1) ∧ xd i + 40 = nI (80 - i) := by decide +kernel
theorem xe_1 : ∀ i, i < 81 → xe i = nI (80 - i) ∧ xe i + -1 = xe (i + 1) := by decide +kernel
/-- whether all that is asked is so at the shift (and 40) j -/
def sp (T As : Ob) (D y q : Nat) (j : Nat) : Bool := allq T As D y (nI j - nI 40) (nI j - nI 40) q
/-- from the top down: how many, the lowest -/
def cw (p : Nat → Bool) (i : Nat) : Nat := up (fun i c => if p (80 - i) = true then c + 1 else c) 0 i 0
def lw (p : Nat → Bool) (i : Nat) : Option Nat := up (fun i l => if p (80 - i) = true then some (80 - i) else l) 0 i none
theorem cw_succ (p : Nat → Bool) (i : Nat) : cw p (i + 1) = if p (80 - i) = true then cw p i + 1 else cw p i := by
  unfold cw
  rw [up_succ, Nat.zero_add]
theorem lw_succ (p : Nat → Bool) (i : Nat) : lw p (i + 1) = if p (80 - i) = true then some (80 - i) else lw p i := by
  unfold lw
  rw [up_succ, Nat.zero_add]
theorem cw_le (p : Nat → Bool) : ∀ i, cw p i ≤ i
  | 0 => Nat.le_refl _
  | i + 1 => by
    have := cw_le p i
    rw [cw_succ]
    split <;> omega
theorem lw_none (p : Nat → Bool) : ∀ i, lw p i = none ↔ cw p i = 0
  | 0 => ⟨fun _ => rfl, fun _ => rfl⟩
  | i + 1 => by
    rw [cw_succ, lw_succ]
    by_cases h : p (80 - i) = true
    · rw [if_pos h, if_pos h]
      exact ⟨fun z => (by cases z), fun z => (by omega)⟩
    · rw [if_neg h, if_neg h]
      exact lw_none p i
theorem lw_le (p : Nat → Bool) {j : Nat} : ∀ i, lw p i = some j → j ≤ 80
  | 0, h => by cases h
  | i + 1, h => by
    rw [lw_succ] at h
    by_cases hp : p (80 - i) = true
    · rw [if_pos hp] at h
      cases h
      omega
    · rw [if_neg hp] at h
      exact lw_le p i h
theorem X7_findSo {T As M By : Ob} {q S U L N D y : Nat} (hT : TK T S U L N D) (hA : AR As M q S U L) (hy : y < 2 ^ 31) : ∃ r, f_X1_findSo By T As (nI y) = some r ∧ r.1 1 = nI (cw (sp T As D y q) 81) ∧ (∀ j, lw (sp T As D y q) 81 = some j → r.1 2 = nI j) ∧ ∀ j, j < 81 → r.2 0 j = b2i (sp T As D y q j) := by
  have hl := loopE (fun t i (o : Ob) => f_X1_findSo_9 T As (nI y) t (xe i) o) 0 81 (by omega) (by omega) (fun i o => o.1 1 = nI (cw (sp T As D y q) i) ∧ (∀ j, lw (sp T As D y q) i = some j → o.1 2 = nI j) ∧ ∀ j, j < 81 → 80 - j < i → o.2 0 j = b2i (sp T As D y q j)) (fun o => some o) (stF By 1 (nI 0)) ⟨rfl, fun j h => (by cases h), fun j h1 h2 => absurd h2 (by omega)⟩
    (fun t o h => by
      show f_X1_findSo_9 T As (nI y) (t + 1) (xe 81) o = _
      rw [f_X1_findSo_9, if_pos (by decide)])
    (fun t i o hi h => by
      obtain ⟨i1, i2, i3⟩ := h
      obtain ⟨x1, x2⟩ := xe_1 i hi
      have e := X7_allSoAt o hT hA hy (nI (80 - i) - nI 40)
      have e' : f_X1_allSoAt o T As (nI (80 - i) - (40 : Int32)) (nI y) = some (sp T As D y q (80 - i)) := e
      have h81 : ¬ (81 : Int32) ≤ nI (80 - i) := nI_ge (b := 81) (by omega) (by omega)
      have hn : ¬ nI (80 - i) < 0 := nI_pos (by omega)
      have hb : vp_nar .boolean (b2i (sp T As D y q (80 - i))) = b2i (sp T As D y q (80 - i)) := b2i_narz _
      show ∃ s', f_X1_findSo_9 T As (nI y) (t + 1) (xe i) o = f_X1_findSo_9 T As (nI y) t (xe (i + 1)) s' ∧ _
      rw [← x2, x1, f_X1_findSo_9, if_neg hn, e', Option.bind_some, if_neg h81, if_neg (nI_in (by omega) (by omega)), bnd_def, hb, nI_clamp (by omega)]
      unfold f_X1_findSo_47 f_X1_findSo_68
      have hrow : ∀ j, j < 81 → 80 - j < i + 1 → upd (o.2 0) (80 - i) (b2i (sp T As D y q (80 - i))) j = b2i (sp T As D y q j) := by
        intro j h1 h2
        by_cases hj : j = 80 - i
        · rw [hj, pk_us]
        · rw [pk_un hj]
          exact i3 j h1 (by omega)
      cases hs : sp T As D y q (80 - i) with
      | false =>
        rw [hs] at hrow
        refine ⟨stR o 0 (upd (o.2 0) (80 - i) (b2i false)), ?_, ?_, ?_, hrow⟩
        · rw [if_pos (show b2i false = 0 by decide), bnd_def]
        · rw [cw_succ, hs, if_neg (by decide)]; exact i1
        · rw [lw_succ, hs, if_neg (by decide)]; exact i2
      | true =>
        rw [hs] at hrow
        refine ⟨stF (stF (stR o 0 (upd (o.2 0) (80 - i) (b2i true))) 1 (nI (cw (sp T As D y q) i + 1))) 2 (nI (80 - i)), ?_, ?_, ?_, hrow⟩
        · rw [if_neg (show ¬ b2i true = 0 by decide), bnd_def, bnd_def]
          show f_X1_findSo_9 T As (nI y) t _ (stF (stF _ 1 (o.1 1 + 1)) 2 _) = _
          rw [i1, nI_1]
        · rw [cw_succ, hs, if_pos rfl]; rfl
        · rw [lw_succ, hs, if_pos rfl]
          intro j hj
          cases hj
          rfl)
  obtain ⟨r, h1, h2, h3, h4⟩ := hl
  exact ⟨r, h1, h2, h3, fun j hj => h4 j hj (by omega)⟩
def lwI : Option Nat → Int32
  | none => -nI 4
  | some j => nI j
theorem X8_shifts {T As M : Ob} {f : Nat → Int32} {q S U L N D y : Nat} (hT : TK T S U L N D) (hM : MK M T S U L N D) (hA : AR As (stR M 18 f) q S U L) (hy : y < 2 ^ 31) (h3 : f 3 = nI y) {u : Nat} (hu : u < 2) : f_X8_shifts (stR M 18 f) (nI u) = some (if u = 0 then nI (cw (sp T As D y q) 81) else lwI (lw (sp T As D y q) 81)) := by
  have hl := loopE (fun t i (s : Int32 × Int32) => f_X8_shifts_21 (stR M 18 f) (nI u) t s.1 s.2 (xd i)) 0 81 (by omega) (by omega) (fun i s => s.1 = nI (cw (sp T As D y q) i) ∧ s.2 = lwI (lw (sp T As D y q) i)) (fun s => some (if u = 0 then s.1 else s.2)) (nI 0, -nI 4) ⟨rfl, rfl⟩
    (fun t s h => by
      show f_X8_shifts_21 (stR M 18 f) (nI u) (t + 1) s.1 s.2 (xd 81) = _
      rw [f_X8_shifts_21, if_pos (by decide)]
      rcases (show u = 0 ∨ u = 1 by omega) with rfl | rfl
      · rw [if_pos (show nI 0 = 0 from rfl), if_pos rfl]
      · rw [if_neg (show ¬ nI 1 = 0 by decide), if_neg (by omega)])
    (fun t i s hi h => by
      obtain ⟨i1, i2⟩ := h
      obtain ⟨x1, x2, x3, x4⟩ := xd_1 i hi
      have e := X8_isSo hT hM hA hy h3 (xd i) (xd i)
      rw [x1] at e
      have e' : f_X8_isSo (stR M 18 f) (xd i) (xd i) = some (sp T As D y q (80 - i)) := by rw [x1]; exact e
      refine ⟨(nI (cw (sp T As D y q) (i + 1)), lwI (lw (sp T As D y q) (i + 1))), ?_, ?_⟩
      · show f_X8_shifts_21 (stR M 18 f) (nI u) (t + 1) s.1 s.2 (xd i) = f_X8_shifts_21 (stR M 18 f) (nI u) t (nI (cw (sp T As D y q) (i + 1))) (lwI (lw (sp T As D y q) (i + 1))) (xd (i + 1))
        rw [f_X8_shifts_21, if_neg x2, e', Option.bind_some]
        unfold f_X8_shifts_45 f_X8_shifts_67
        rw [e', cw_succ, lw_succ, i1, i2]
        cases hs : sp T As D y q (80 - i) with
        | false =>
          rw [if_pos (show b2i false = 0 by decide), bnd_def, Option.bind_some, if_pos (show b2i false = 0 by decide), bnd_def, x3, if_neg (by decide), if_neg (by decide)]
          show f_X8_shifts_21 (stR M 18 f) (nI u) t (nI _ + nI 0) _ _ = _
          rw [nI_add, Nat.add_zero]
        | true =>
          rw [if_neg (show ¬ b2i true = 0 by decide), bnd_def, Option.bind_some, if_neg (show ¬ b2i true = 0 by decide), bnd_def, x3, x4, if_pos rfl, if_pos rfl]
          show f_X8_shifts_21 (stR M 18 f) (nI u) t (nI _ + nI 1) _ _ = _
          rw [nI_add]
          rfl
      · exact ⟨rfl, rfl⟩)
  obtain ⟨s, h1, h2, h4⟩ := hl
  rw [h2, h4] at h1
  unfold f_X8_shifts
  simp (disch := omega) only [↓pk_rem, nl_0, nl_1, nl_2, nl_3, nl_4, nl_6, nl_7, nl_8, nl_9, nl_10, nl_11, nl_12, nl_20, nl_23, nl_24, nl_26, nl_32, nl_39, nl_40, nl_44, nl_48, nl_57, nl_59, nl_60, nl_61, nl_64, nl_81, nl_82, nl_99, nl_100, nl_126, nl_200, nl_208, nl_286, nl_287, nl_290, nl_312, nl_999, nl_6561, nl_9999, nI_add, pk_mul, pk_div, pk_sub, ev_leT, ev_leF, ev_ltT, ev_ltF, ev_eqT, ev_eqF, nI_clamp, nle_T, nle_F, nlt_F, or_false, false_or, or_self, if_true, if_false, bnd_def, Option.bind_some, st1s, st1n, st2, st3, st4s, st4n, eq_self, tf_1, tf_2, b2iT, b2iF, b2iE, ob_1, ob_2, f_X7_cell_at, f_X7_setCell_at, in_0, wi_at, in_0_1, in_0_2, in_0_4, in_0_8, in_0_9, in_0_10, in_0_40, in_0_99, in_1_20, in_1_60, in_0_9999, in_m99_99, in_32_126, in_48_57]
  exact h1
theorem P_shifts {Te To No As M : Ob} {Pa Ke : PS} (h : REL Te To No Pa Ke As M) (o7 By : Ob) (v1 : Int32) : ∃ r7 r8, f_X7_shifts o7 To No As By v1 = some r7 ∧ f_X8_shifts M v1 = some r8 ∧ r7.1 = r8 := by
  obtain ⟨n, S, U, L, N, D, y, a, k, q, hTe, hC, hA⟩ := h
  obtain ⟨M0, f, rfl⟩ : ∃ M0 f, M = stR M0 18 f := ⟨M, M.2 18, (stR_self M 18).symm⟩
  obtain ⟨hT, hS1, hN1, hM, hR, hPK, hy, ha, hPa, hk, hKe⟩ := hC.out
  have h3 : f 3 = nI y := hR.2.2.2.1.trans hPK.1
  rcases wi_or v1 (a := 0) (b := 1) (by omega) (by omega) with hw | ⟨u, -, hu, rfl⟩
  · refine ⟨(-1, By), -1, ?_, ?_, rfl⟩
    · unfold f_X7_shifts; simp (disch := omega) only [↓pk_rem, nl_0, nl_1, nl_2, nl_3, nl_4, nl_6, nl_7, nl_8, nl_9, nl_10, nl_11, nl_12, nl_20, nl_23, nl_24, nl_26, nl_32, nl_39, nl_40, nl_44, nl_48, nl_57, nl_59, nl_60, nl_61, nl_64, nl_81, nl_82, nl_99, nl_100, nl_126, nl_200, nl_208, nl_286, nl_287, nl_290, nl_312, nl_999, nl_6561, nl_9999, nI_add, pk_mul, pk_div, pk_sub, ev_leT, ev_leF, ev_ltT, ev_ltF, ev_eqT, ev_eqF, nI_clamp, nle_T, nle_F, nlt_F, or_false, false_or, or_self, if_true, if_false, bnd_def, Option.bind_some, st1s, st1n, st2, st3, st4s, st4n, eq_self, tf_1, tf_2, b2iT, b2iF, b2iE, ob_1, ob_2, f_X7_cell_at, f_X7_setCell_at, in_0, wi_at, in_0_1, in_0_2, in_0_4, in_0_8, in_0_9, in_0_10, in_0_40, in_0_99, in_1_20, in_1_60, in_0_9999, in_m99_99, in_32_126, in_48_57, hw]
    · unfold f_X8_shifts; simp (disch := omega) only [↓pk_rem, nl_0, nl_1, nl_2, nl_3, nl_4, nl_6, nl_7, nl_8, nl_9, nl_10, nl_11, nl_12, nl_20, nl_23, nl_24, nl_26, nl_32, nl_39, nl_40, nl_44, nl_48, nl_57, nl_59, nl_60, nl_61, nl_64, nl_81, nl_82, nl_99, nl_100, nl_126, nl_200, nl_208, nl_286, nl_287, nl_290, nl_312, nl_999, nl_6561, nl_9999, nI_add, pk_mul, pk_div, pk_sub, ev_leT, ev_leF, ev_ltT, ev_ltF, ev_eqT, ev_eqF, nI_clamp, nle_T, nle_F, nlt_F, or_false, false_or, or_self, if_true, if_false, bnd_def, Option.bind_some, st1s, st1n, st2, st3, st4s, st4n, eq_self, tf_1, tf_2, b2iT, b2iF, b2iE, ob_1, ob_2, f_X7_cell_at, f_X7_setCell_at, in_0, wi_at, in_0_1, in_0_2, in_0_4, in_0_8, in_0_9, in_0_10, in_0_40, in_0_99, in_1_20, in_1_60, in_0_9999, in_m99_99, in_32_126, in_48_57, hw]
  · obtain ⟨r, r1, r2, r3, r4⟩ := X7_findSo (By := By) hT hA (show y < 2 ^ 31 by omega)
    have e8 := X8_shifts hT hM hA (show y < 2 ^ 31 by omega) h3 (show u < 2 by omega)
    have hcl := cw_le (sp To As D y q) 81
    have hln := lw_none (sp To As D y q) 81
    have r1' : f_X1_findSo By To As (No.1 3) = some r := by rw [hPK.1]; exact r1
    unfold f_X7_shifts
    rcases (show u = 0 ∨ u = 1 by omega) with rfl | rfl
    · refine ⟨(nI (cw (sp To As D y q) 81), r), _, ?_, e8, rfl⟩
      simp (disch := omega) only [↓pk_rem, nl_0, nl_1, nl_2, nl_3, nl_4, nl_6, nl_7, nl_8, nl_9, nl_10, nl_11, nl_12, nl_20, nl_23, nl_24, nl_26, nl_32, nl_39, nl_40, nl_44, nl_48, nl_57, nl_59, nl_60, nl_61, nl_64, nl_81, nl_82, nl_99, nl_100, nl_126, nl_200, nl_208, nl_286, nl_287, nl_290, nl_312, nl_999, nl_6561, nl_9999, nI_add, pk_mul, pk_div, pk_sub, ev_leT, ev_leF, ev_ltT, ev_ltF, ev_eqT, ev_eqF, nI_clamp, nle_T, nle_F, nlt_F, or_false, false_or, or_self, if_true, if_false, bnd_def, Option.bind_some, st1s, st1n, st2, st3, st4s, st4n, eq_self, tf_1, tf_2, b2iT, b2iF, b2iE, ob_1, ob_2, f_X7_cell_at, f_X7_setCell_at, in_0, wi_at, in_0_1, in_0_2, in_0_4, in_0_8, in_0_9, in_0_10, in_0_40, in_0_99, in_1_20, in_1_60, in_0_9999, in_m99_99, in_32_126, in_48_57, r1', r2]
    · cases hlw : lw (sp To As D y q) 81 with
      | none =>
        have h0 := hln.mp hlw
        rw [hlw] at e8
        refine ⟨(-4, r), _, ?_, e8, rfl⟩
        simp (disch := omega) only [↓pk_rem, nl_0, nl_1, nl_2, nl_3, nl_4, nl_6, nl_7, nl_8, nl_9, nl_10, nl_11, nl_12, nl_20, nl_23, nl_24, nl_26, nl_32, nl_39, nl_40, nl_44, nl_48, nl_57, nl_59, nl_60, nl_61, nl_64, nl_81, nl_82, nl_99, nl_100, nl_126, nl_200, nl_208, nl_286, nl_287, nl_290, nl_312, nl_999, nl_6561, nl_9999, nI_add, pk_mul, pk_div, pk_sub, ev_leT, ev_leF, ev_ltT, ev_ltF, ev_eqT, ev_eqF, nI_clamp, nle_T, nle_F, nlt_F, or_false, false_or, or_self, if_true, if_false, bnd_def, Option.bind_some, st1s, st1n, st2, st3, st4s, st4n, eq_self, tf_1, tf_2, b2iT, b2iF, b2iE, ob_1, ob_2, f_X7_cell_at, f_X7_setCell_at, in_0, wi_at, in_0_1, in_0_2, in_0_4, in_0_8, in_0_9, in_0_10, in_0_40, in_0_99, in_1_20, in_1_60, in_0_9999, in_m99_99, in_32_126, in_48_57, r1', r2, h0]
      | some j =>
        have h0 : ¬ cw (sp To As D y q) 81 = 0 := fun z => by rw [hln.mpr z] at hlw; cases hlw
        rw [hlw] at e8
        have r3' := r3 j hlw
        refine ⟨(nI j, r), _, ?_, e8, rfl⟩
        simp (disch := omega) only [↓pk_rem, nl_0, nl_1, nl_2, nl_3, nl_4, nl_6, nl_7, nl_8, nl_9, nl_10, nl_11, nl_12, nl_20, nl_23, nl_24, nl_26, nl_32, nl_39, nl_40, nl_44, nl_48, nl_57, nl_59, nl_60, nl_61, nl_64, nl_81, nl_82, nl_99, nl_100, nl_126, nl_200, nl_208, nl_286, nl_287, nl_290, nl_312, nl_999, nl_6561, nl_9999, nI_add, pk_mul, pk_div, pk_sub, ev_leT, ev_leF, ev_ltT, ev_ltF, ev_eqT, ev_eqF, nI_clamp, nle_T, nle_F, nlt_F, or_false, false_or, or_self, if_true, if_false, bnd_def, Option.bind_some, st1s, st1n, st2, st3, st4s, st4n, eq_self, tf_1, tf_2, b2iT, b2iF, b2iE, ob_1, ob_2, f_X7_cell_at, f_X7_setCell_at, in_0, wi_at, in_0_1, in_0_2, in_0_4, in_0_8, in_0_9, in_0_10, in_0_40, in_0_99, in_1_20, in_1_60, in_0_9999, in_m99_99, in_32_126, in_48_57, r1', r2, r3']
