/-! what is told, how it stands: the class's against the reference's -/
abbrev td (U L k : Nat) : Prop := k < U ∨ (6 ≤ k ∧ k < 6 + L)
def TK (T : Ob) (S U L N D : Nat) : Prop := T.1 8 = nI S ∧ T.1 9 = nI N ∧ T.1 10 = nI D ∧ T.2 1 0 = nI U ∧ T.2 1 1 = nI L ∧ S ≤ 7 ∧ N ≤ 4 ∧ D ≤ 8 ∧ U ≤ 6 ∧ L ≤ 6 ∧ (∀ k, k < 12 → td U L k → ∃ x, x ≤ 60 ∧ T.2 0 k = nI x) ∧ (∀ k, k < 12 → ¬ td U L k → T.2 0 k = -1000) ∧ (∀ s, s < S → ∃ x, x ≤ 3 ∧ T.2 2 s = nI x) ∧ (∀ s, s < S → ∃ x, x ≤ 60 ∧ T.2 3 s = nI x) ∧ (∀ s, s < S → ∃ x, x ≤ 99 ∧ T.2 4 s = nI x) ∧ (∀ p, p < N → ∃ x, 1 ≤ x ∧ x ≤ 20 ∧ T.2 5 p = nI x) ∧ (∀ d, d < D → ∃ x, x ≤ 3 ∧ T.2 6 d = nI x)
def MK (M T : Ob) (S U L N D : Nat) : Prop := M.1 2 = nI S ∧ M.1 5 = nI N ∧ M.1 7 = nI D ∧ M.2 0 0 = nI U ∧ M.2 0 1 = nI L ∧ (∀ k, k < 12 → td U L k → M.2 1 k = T.2 0 k) ∧ (∀ s, s < S → M.2 3 s = T.2 2 s) ∧ (∀ s, s < S → M.2 4 s = T.2 3 s) ∧ (∀ p, p < N → M.2 6 p = T.2 5 p) ∧ (∀ d, d < D → M.2 8 d = T.2 6 d)
theorem MK.slot {M T : Ob} {S U L N D : Nat} (h : MK M T S U L N D) (f : Nat → Int32) : MK (stR M 18 f) T S U L N D := h
def SH (x : Int32) : Prop := ∃ a, a ≤ 80 ∧ x = nI a - nI 40
theorem SH.int {x : Int32} (h : SH x) : -40 ≤ x.toInt ∧ x.toInt ≤ 40 := by
  obtain ⟨a, ha, rfl⟩ := h
  rw [pk_sub_toInt (by omega) (by omega)]
  omega
def WR (w s u l : Int32) : Prop := ∃ W c a b : Nat, W < 2 ^ 19 ∧ c < 2 ^ 7 ∧ a < 2 ^ 6 ∧ b < 2 ^ 6 ∧ w = nI W ∧ s = nI c ∧ u = nI a ∧ l = nI b ∧ (∀ k, k < 6 → W.testBit k = a.testBit k) ∧ (∀ k, k < 6 → W.testBit (6 + k) = b.testBit k) ∧ (∀ k, k < 7 → W.testBit (12 + k) = c.testBit k)
def RS (S : Nat) (P : Ob) (f : Nat → Int32) (b : Nat) : Prop := f b = P.1 0 ∧ f (b + 1) = P.1 1 ∧ f (b + 2) = P.1 2 ∧ f (b + 3) = P.1 3 ∧ (∀ s, s < S → f (b + 4 + s) = P.2 5 s) ∧ (∀ k, k < 12 → f (b + 11 + k) = P.2 6 k) ∧ WR (P.1 4) (f (b + 23)) (f (b + 24)) (f (b + 25))
def PK (P : Ob) (y : Nat) : Prop := P.1 3 = nI y ∧ SH (P.1 0) ∧ SH (P.1 1) ∧ ∃ c, c ≤ 9 ∧ P.1 2 = nI c
/-- nothing but the room at b is changed -/
def FR (f g : Nat → Int32) (b : Nat) : Prop := ∀ j, ¬ (b ≤ j ∧ j < b + 26) → g j = f j
theorem FR.refl (f : Nat → Int32) (b : Nat) : FR f f b := fun _ _ => rfl
theorem FR.trans {f g h : Nat → Int32} {b : Nat} (h1 : FR f g b) (h2 : FR g h b) : FR f h b := fun j hj => (h2 j hj).trans (h1 j hj)
theorem RS.cong {S : Nat} {P : Ob} {f g : Nat → Int32} {a b : Nat} (hS : S ≤ 7) (h : RS S P f a) (e : ∀ j, j < 26 → g (b + j) = f (a + j)) : RS S P g b := by
  obtain ⟨h0, h1, h2, h3, h4, h5, h6⟩ := h
  refine ⟨(e 0 (by omega)).trans h0, (e 1 (by omega)).trans h1, (e 2 (by omega)).trans h2, (e 3 (by omega)).trans h3, fun s hs => ?_, fun k hk => ?_, ?_⟩
  · rw [Nat.add_assoc, e (4 + s) (by omega), ← Nat.add_assoc]; exact h4 s hs
  · rw [Nat.add_assoc, e (11 + k) (by omega), ← Nat.add_assoc]; exact h5 k hk
  · rw [e 23 (by omega), e 24 (by omega), e 25 (by omega)]; exact h6
theorem RS.frame {S : Nat} {P : Ob} {f g : Nat → Int32} {a b : Nat} (hS : S ≤ 7) (h : RS S P f a) (hf : FR f g b) (hab : a + 26 ≤ b ∨ b + 26 ≤ a) : RS S P g a :=
  h.cong hS (fun j hj => hf (a + j) (by omega))
/-! damp, place, whom one is against -/
def dm (T : Ob) (D y : Nat) : Int32 := if D = 0 then nI 0 else T.2 6 (y % D)
theorem dm_le {T : Ob} {S U L N D : Nat} (hT : TK T S U L N D) (y : Nat) : ∃ x, x ≤ 3 ∧ dm T D y = nI x := by
  obtain ⟨-, -, -, -, -, -, -, -, -, -, -, -, -, -, -, -, h⟩ := hT
  unfold dm
  by_cases h0 : D = 0
  · rw [if_pos h0]; exact ⟨0, by omega, rfl⟩
  · rw [if_neg h0]; exact h _ (Nat.mod_lt _ (by omega))
theorem X7_dampOf {T : Ob} {S U L N D : Nat} (hT : TK T S U L N D) {y : Nat} (hy : y < 2 ^ 31) : f_X6_dampOf T (nI y) = some (dm T D y) := by
  obtain ⟨hS, hN, hD, hU, hL, lS, lN, lD, lU, lL, tI, tX, tK, tO, tG, tP, tW⟩ := hT
  unfold f_X6_dampOf dm
  rw [hD]
  rcases Nat.eq_zero_or_pos D with h0 | h0
  · subst h0
    simp (disch := omega) only [↓pk_rem, nl_0, nl_1, nl_2, nl_3, nl_4, nl_6, nl_7, nl_8, nl_9, nl_10, nl_11, nl_12, nl_20, nl_23, nl_24, nl_26, nl_32, nl_39, nl_40, nl_44, nl_48, nl_57, nl_59, nl_60, nl_61, nl_64, nl_81, nl_82, nl_99, nl_100, nl_126, nl_200, nl_208, nl_286, nl_287, nl_290, nl_312, nl_999, nl_6561, nl_9999, nI_add, pk_mul, pk_div, pk_sub, ev_leT, ev_leF, ev_ltT, ev_ltF, ev_eqT, ev_eqF, nI_clamp, nle_T, nle_F, nlt_F, or_false, false_or, or_self, if_true, if_false, bnd_def, Option.bind_some, st1s, st1n, st2, st3, st4s, st4n, eq_self, tf_1, tf_2, b2iT, b2iF, b2iE, ob_1, ob_2, f_X7_cell_at, f_X7_setCell_at, in_0, wi_at, in_0_1, in_0_2, in_0_4, in_0_8, in_0_9, in_0_10, in_0_40, in_0_99, in_1_20, in_1_60, in_0_9999, in_m99_99, in_32_126, in_48_57]
  · have hm : y % D < D := Nat.mod_lt _ h0
    rw [if_neg (show ¬ D = 0 by omega)]
    simp (disch := omega) only [↓pk_rem, nl_0, nl_1, nl_2, nl_3, nl_4, nl_6, nl_7, nl_8, nl_9, nl_10, nl_11, nl_12, nl_20, nl_23, nl_24, nl_26, nl_32, nl_39, nl_40, nl_44, nl_48, nl_57, nl_59, nl_60, nl_61, nl_64, nl_81, nl_82, nl_99, nl_100, nl_126, nl_200, nl_208, nl_286, nl_287, nl_290, nl_312, nl_999, nl_6561, nl_9999, nI_add, pk_mul, pk_div, pk_sub, ev_leT, ev_leF, ev_ltT, ev_ltF, ev_eqT, ev_eqF, nI_clamp, nle_T, nle_F, nlt_F, or_false, false_or, or_self, if_true, if_false, bnd_def, Option.bind_some, st1s, st1n, st2, st3, st4s, st4n, eq_self, tf_1, tf_2, b2iT, b2iF, b2iE, ob_1, ob_2, f_X7_cell_at, f_X7_setCell_at, in_0, wi_at, in_0_1, in_0_2, in_0_4, in_0_8, in_0_9, in_0_10, in_0_40, in_0_99, in_1_20, in_1_60, in_0_9999, in_m99_99, in_32_126, in_48_57]
theorem X8_dampOf {M T : Ob} {S U L N D : Nat} (hT : TK T S U L N D) (hM : MK M T S U L N D) {y : Nat} (hy : y < 2 ^ 31) : f_X8_dampOf M (nI y) = some (dm T D y) := by
  obtain ⟨hS, hN, hD, hU, hL, lS, lN, lD, lU, lL, tI, tX, tK, tO, tG, tP, tW⟩ := hT
  obtain ⟨m2, m5, m7, m00, m01, mI, mK, mO, mP, mW⟩ := hM
  unfold f_X8_dampOf dm
  rw [m7]
  rcases Nat.eq_zero_or_pos D with h0 | h0
  · subst h0
    simp (disch := omega) only [↓pk_rem, nl_0, nl_1, nl_2, nl_3, nl_4, nl_6, nl_7, nl_8, nl_9, nl_10, nl_11, nl_12, nl_20, nl_23, nl_24, nl_26, nl_32, nl_39, nl_40, nl_44, nl_48, nl_57, nl_59, nl_60, nl_61, nl_64, nl_81, nl_82, nl_99, nl_100, nl_126, nl_200, nl_208, nl_286, nl_287, nl_290, nl_312, nl_999, nl_6561, nl_9999, nI_add, pk_mul, pk_div, pk_sub, ev_leT, ev_leF, ev_ltT, ev_ltF, ev_eqT, ev_eqF, nI_clamp, nle_T, nle_F, nlt_F, or_false, false_or, or_self, if_true, if_false, bnd_def, Option.bind_some, st1s, st1n, st2, st3, st4s, st4n, eq_self, tf_1, tf_2, b2iT, b2iF, b2iE, ob_1, ob_2, f_X7_cell_at, f_X7_setCell_at, in_0, wi_at, in_0_1, in_0_2, in_0_4, in_0_8, in_0_9, in_0_10, in_0_40, in_0_99, in_1_20, in_1_60, in_0_9999, in_m99_99, in_32_126, in_48_57]
  · have hm : y % D < D := Nat.mod_lt _ h0
    rw [if_neg (show ¬ D = 0 by omega)]
    simp (disch := omega) only [↓pk_rem, nl_0, nl_1, nl_2, nl_3, nl_4, nl_6, nl_7, nl_8, nl_9, nl_10, nl_11, nl_12, nl_20, nl_23, nl_24, nl_26, nl_32, nl_39, nl_40, nl_44, nl_48, nl_57, nl_59, nl_60, nl_61, nl_64, nl_81, nl_82, nl_99, nl_100, nl_126, nl_200, nl_208, nl_286, nl_287, nl_290, nl_312, nl_999, nl_6561, nl_9999, nI_add, pk_mul, pk_div, pk_sub, ev_leT, ev_leF, ev_ltT, ev_ltF, ev_eqT, ev_eqF, nI_clamp, nle_T, nle_F, nlt_F, or_false, false_or, or_self, if_true, if_false, bnd_def, Option.bind_some, st1s, st1n, st2, st3, st4s, st4n, eq_self, tf_1, tf_2, b2iT, b2iF, b2iE, ob_1, ob_2, f_X7_cell_at, f_X7_setCell_at, in_0, wi_at, in_0_1, in_0_2, in_0_4, in_0_8, in_0_9, in_0_10, in_0_40, in_0_99, in_1_20, in_1_60, in_0_9999, in_m99_99, in_32_126, in_48_57]
    rw [mW _ hm]
def din (T : Ob) (D y : Nat) (c : Int32) : Int32 := c + c * dm T D y / nI 10
theorem X6_dampInch {T : Ob} {S U L N D : Nat} (hT : TK T S U L N D) {y : Nat} (hy : y < 2 ^ 31) (c : Int32) : f_X6_dampInch T c (nI y) = some (din T D y c) := by
  rw [f_X6_dampInch, X7_dampOf hT hy]
  rfl
def pl (T : Ob) (D y s : Nat) (sh ah : Int32) : Int32 := din T D y (T.2 3 s) + (if T.2 2 s = nI 3 then ah else sh)
theorem X7_placeOf {T P : Ob} {S U L N D : Nat} (hT : TK T S U L N D) {y : Nat} (hy : y < 2 ^ 31) (hP : P.1 3 = nI y) {s : Nat} (hs : s < 7) : f_X5_placeOf P T (nI s) = some (pl T D y s (P.1 0) (P.1 1)) := by
  have ec : ∀ f, f_X7_cell 7 f (nI s) = some (f s) := fun f => f_X7_cell_at (by decide) f hs
  unfold f_X5_placeOf f_X5_placeOf_23 pl
  simp (disch := omega) only [↓pk_rem, nl_0, nl_1, nl_2, nl_3, nl_4, nl_6, nl_7, nl_8, nl_9, nl_10, nl_11, nl_12, nl_20, nl_23, nl_24, nl_26, nl_32, nl_39, nl_40, nl_44, nl_48, nl_57, nl_59, nl_60, nl_61, nl_64, nl_81, nl_82, nl_99, nl_100, nl_126, nl_200, nl_208, nl_286, nl_287, nl_290, nl_312, nl_999, nl_6561, nl_9999, nI_add, pk_mul, pk_div, pk_sub, ev_leT, ev_leF, ev_ltT, ev_ltF, ev_eqT, ev_eqF, nI_clamp, nle_T, nle_F, nlt_F, or_false, false_or, or_self, if_true, if_false, bnd_def, Option.bind_some, st1s, st1n, st2, st3, st4s, st4n, eq_self, tf_1, tf_2, b2iT, b2iF, b2iE, ob_1, ob_2, f_X7_cell_at, f_X7_setCell_at, in_0, wi_at, in_0_1, in_0_2, in_0_4, in_0_8, in_0_9, in_0_10, in_0_40, in_0_99, in_1_20, in_1_60, in_0_9999, in_m99_99, in_32_126, in_48_57, ec, hP, X6_dampInch hT hy]
  by_cases h : T.2 2 s = nI 3
  · rw [if_pos h, if_pos h]
  · rw [if_neg h, if_neg h]
theorem X8_placeBy {M T : Ob} {S U L N D : Nat} (hT : TK T S U L N D) (hM : MK M T S U L N D) (y : Nat) {s : Nat} (hs : s < S) (sh ah : Int32) : f_X8_placeBy M (nI s) sh ah (dm T D y) = some (pl T D y s sh ah) := by
  obtain ⟨hS, hN, hD, hU, hL, lS, lN, lD, lU, lL, tI, tX, tK, tO, tG, tP, tW⟩ := hT
  obtain ⟨m2, m5, m7, m00, m01, mI, mK, mO, mP, mW⟩ := hM
  unfold f_X8_placeBy pl din
  simp (disch := omega) only [↓pk_rem, nl_0, nl_1, nl_2, nl_3, nl_4, nl_6, nl_7, nl_8, nl_9, nl_10, nl_11, nl_12, nl_20, nl_23, nl_24, nl_26, nl_32, nl_39, nl_40, nl_44, nl_48, nl_57, nl_59, nl_60, nl_61, nl_64, nl_81, nl_82, nl_99, nl_100, nl_126, nl_200, nl_208, nl_286, nl_287, nl_290, nl_312, nl_999, nl_6561, nl_9999, nI_add, pk_mul, pk_div, pk_sub, ev_leT, ev_leF, ev_ltT, ev_ltF, ev_eqT, ev_eqF, nI_clamp, nle_T, nle_F, nlt_F, or_false, false_or, or_self, if_true, if_false, bnd_def, Option.bind_some, st1s, st1n, st2, st3, st4s, st4n, eq_self, tf_1, tf_2, b2iT, b2iF, b2iE, ob_1, ob_2, f_X7_cell_at, f_X7_setCell_at, in_0, wi_at, in_0_1, in_0_2, in_0_4, in_0_8, in_0_9, in_0_10, in_0_40, in_0_99, in_1_20, in_1_60, in_0_9999, in_m99_99, in_32_126, in_48_57, mK s hs, mO s hs]
  by_cases h : T.2 2 s = nI 3
  · rw [if_pos h, if_pos h]
  · rw [if_neg h, if_neg h]
theorem din_nat {T : Ob} {S U L N D : Nat} (hT : TK T S U L N D) (y : Nat) {c : Nat} (hc : c ≤ 60) : ∃ x, x ≤ 78 ∧ din T D y (nI c) = nI x := by
  obtain ⟨q, hq, e⟩ := dm_le hT y
  have h : c * q ≤ 60 * 3 := Nat.mul_le_mul hc hq
  refine ⟨c + c * q / 10, by omega, ?_⟩
  unfold din
  rw [e, pk_mul, pk_div (by omega) (by omega) (by omega), nI_add]
theorem pl_le {T : Ob} {S U L N D : Nat} (hT : TK T S U L N D) (y : Nat) {s : Nat} (hs : s < S) {sh ah : Int32} (h1 : SH sh) (h2 : SH ah) : -40 ≤ (pl T D y s sh ah).toInt ∧ (pl T D y s sh ah).toInt ≤ 118 := by
  obtain ⟨c, hc, e⟩ := hT.2.2.2.2.2.2.2.2.2.2.2.2.2.1 s hs
  obtain ⟨x, hx, e2⟩ := din_nat hT y hc
  unfold pl
  rw [e, e2]
  have h3 : SH (if T.2 2 s = nI 3 then ah else sh) := by
    by_cases h : T.2 2 s = nI 3
    · rw [if_pos h]; exact h2
    · rw [if_neg h]; exact h1
  obtain ⟨h4, h5⟩ := h3.int
  have h6 := nI_toInt (n := x) (by omega)
  rw [fb_addI (by omega) (by omega)]
  omega
def ag (T : Ob) (D y s : Nat) (sh ah : Int32) (k : Nat) : Bool := f_X7_meet (T.2 2 s) (pl T D y s sh ah - T.2 0 k)
theorem ag_un {T : Ob} {S U L N D : Nat} (hT : TK T S U L N D) (y : Nat) {s : Nat} (hs : s < S) {sh ah : Int32} (h1 : SH sh) (h2 : SH ah) {k : Nat} (hk : k < 12) (hn : ¬ td U L k) : ag T D y s sh ah k = false := by
  have h3 := hT.2.2.2.2.2.2.2.2.2.2.2.1 k hk hn
  obtain ⟨h4, h5⟩ := pl_le hT y hs h1 h2
  unfold ag
  apply meet_far
  have e : (-1000 : Int32).toInt = -1000 := by decide +kernel
  rw [h3, fb_subI (by omega) (by omega)]
  omega
def ab (T : Ob) (D y s : Nat) (sh ah : Int32) : Nat := nbits (ag T D y s sh ah) 12
theorem ab_lt (T : Ob) (D y s : Nat) (sh ah : Int32) : ab T D y s sh ah < 2 ^ 12 := nbits_lt _ 12
theorem X7_againstBits {T P : Ob} {S U L N D : Nat} (hT : TK T S U L N D) {y : Nat} (hy : y < 2 ^ 31) (hP : P.1 3 = nI y) {s : Nat} (hs : s < 7) : f_X5_againstBits P T (nI s) = some (nI (ab T D y s (P.1 0) (P.1 1))) := by
  rw [f_X5_againstBits_eq P T hs (X7_placeOf hT hy hP hs), abits_nI]
  rfl
theorem many_at {M T : Ob} {S U L N D : Nat} (hT : TK T S U L N D) (hM : MK M T S U L N D) {i : Nat} (hi : i < 12) : ∃ C, C ≤ 6 ∧ M.2 0 (i / 6) = nI C ∧ (td U L i ↔ i % 6 < C) := by
  obtain ⟨hS, hN, hD, hU, hL, lS, lN, lD, lU, lL, tI, tX, tK, tO, tG, tP, tW⟩ := hT
  obtain ⟨m2, m5, m7, m00, m01, mI, mK, mO, mP, mW⟩ := hM
  by_cases h : i < 6
  · refine ⟨U, lU, ?_, ?_⟩
    · rw [show i / 6 = 0 by omega, m00]
    · omega
  · refine ⟨L, lL, ?_, ?_⟩
    · rw [show i / 6 = 1 by omega, m01]
    · omega
theorem X8_meets {M T : Ob} {S U L N D : Nat} (hT : TK T S U L N D) (hM : MK M T S U L N D) (y : Nat) {s : Nat} (hs : s < S) (sh ah : Int32) {l k : Nat} (hk : 6 * l + k < 12) (ht : td U L (6 * l + k)) : f_X8_meets M (nI s) (nI l) (nI k) sh ah (dm T D y) = some (ag T D y s sh ah (6 * l + k)) := by
  have lS := hT.2.2.2.2.2.1
  have e := X8_placeBy hT hM y hs sh ah
  obtain ⟨m2, m5, m7, m00, m01, mI, mK, mO, mP, mW⟩ := hM
  unfold f_X8_meets ag
  rw [e, meet_eq]
  simp (disch := omega) only [↓pk_rem, nl_0, nl_1, nl_2, nl_3, nl_4, nl_6, nl_7, nl_8, nl_9, nl_10, nl_11, nl_12, nl_20, nl_23, nl_24, nl_26, nl_32, nl_39, nl_40, nl_44, nl_48, nl_57, nl_59, nl_60, nl_61, nl_64, nl_81, nl_82, nl_99, nl_100, nl_126, nl_200, nl_208, nl_286, nl_287, nl_290, nl_312, nl_999, nl_6561, nl_9999, nI_add, pk_mul, pk_div, pk_sub, ev_leT, ev_leF, ev_ltT, ev_ltF, ev_eqT, ev_eqF, nI_clamp, nle_T, nle_F, nlt_F, or_false, false_or, or_self, if_true, if_false, bnd_def, Option.bind_some, st1s, st1n, st2, st3, st4s, st4n, eq_self, tf_1, tf_2, b2iT, b2iF, b2iE, ob_1, ob_2, f_X7_cell_at, f_X7_setCell_at, in_0, wi_at, in_0_1, in_0_2, in_0_4, in_0_8, in_0_9, in_0_10, in_0_40, in_0_99, in_1_20, in_1_60, in_0_9999, in_m99_99, in_32_126, in_48_57, mK s hs, mI _ hk ht]
theorem bb_oneN {k : Nat} (hk : k < 31) : nI 1 <<< (nI k &&& 31) = nI (2 ^ k) := bb_one hk
theorem X8_againstBy {M T : Ob} {S U L N D : Nat} (hT : TK T S U L N D) (hM : MK M T S U L N D) (y : Nat) {s : Nat} (hs : s < S) {sh ah : Int32} (h1 : SH sh) (h2 : SH ah) : f_X8_againstBy M (nI s) sh ah (dm T D y) = some (nI (ab T D y s sh ah)) := by
  have h := loopE (fun t i (x : Int32) => f_X8_againstBy_6 M (nI s) sh ah (dm T D y) t x (nI i)) 0 12 (by omega) (by omega) (fun i x => x = nI (nbits (ag T D y s sh ah) i)) (fun x => some x) 0 rfl
    (fun t x _ => by
      show f_X8_againstBy_6 M (nI s) sh ah (dm T D y) (t + 1) x (nI 12) = some x
      rw [f_X8_againstBy_6, if_pos (by decide)])
    (fun t i x hi hx => by
      refine ⟨_, ?_, rfl⟩
      show f_X8_againstBy_6 M (nI s) sh ah (dm T D y) (t + 1) x (nI i) = f_X8_againstBy_6 M (nI s) sh ah (dm T D y) t _ (nI (i + 1))
      obtain ⟨C, hC, e1, e2⟩ := many_at hT hM hi
      have e3 : i - i / 6 * 6 = i % 6 := by omega
      have e4 : 6 * (i / 6) + i % 6 = i := by omega
      rw [f_X8_againstBy_6]
      unfold f_X8_againstBy_62 f_X8_againstBy_63
      by_cases ht : td U L i
      · have hlt := e2.mp ht
        have em : f_X8_meets M (nI s) (nI (i / 6)) (nI (i % 6)) sh ah (dm T D y) = some (ag T D y s sh ah i) := by
          have := X8_meets hT hM y hs sh ah (l := i / 6) (k := i % 6) (by omega) (by rw [e4]; exact ht)
          rw [e4] at this
          exact this
        simp (disch := omega) only [↓pk_rem, nl_0, nl_1, nl_2, nl_3, nl_4, nl_6, nl_7, nl_8, nl_9, nl_10, nl_11, nl_12, nl_20, nl_23, nl_24, nl_26, nl_32, nl_39, nl_40, nl_44, nl_48, nl_57, nl_59, nl_60, nl_61, nl_64, nl_81, nl_82, nl_99, nl_100, nl_126, nl_200, nl_208, nl_286, nl_287, nl_290, nl_312, nl_999, nl_6561, nl_9999, nI_add, pk_mul, pk_div, pk_sub, ev_leT, ev_leF, ev_ltT, ev_ltF, ev_eqT, ev_eqF, nI_clamp, nle_T, nle_F, nlt_F, or_false, false_or, or_self, if_true, if_false, bnd_def, Option.bind_some, st1s, st1n, st2, st3, st4s, st4n, eq_self, tf_1, tf_2, b2iT, b2iF, b2iE, ob_1, ob_2, f_X7_cell_at, f_X7_setCell_at, in_0, wi_at, in_0_1, in_0_2, in_0_4, in_0_8, in_0_9, in_0_10, in_0_40, in_0_99, in_1_20, in_1_60, in_0_9999, in_m99_99, in_32_126, in_48_57, e1, e3, em, hx]
        rw [nbits]
        cases hA : ag T D y s sh ah i with
        | false => simp (disch := omega) only [↓pk_rem, nl_0, nl_1, nl_2, nl_3, nl_4, nl_6, nl_7, nl_8, nl_9, nl_10, nl_11, nl_12, nl_20, nl_23, nl_24, nl_26, nl_32, nl_39, nl_40, nl_44, nl_48, nl_57, nl_59, nl_60, nl_61, nl_64, nl_81, nl_82, nl_99, nl_100, nl_126, nl_200, nl_208, nl_286, nl_287, nl_290, nl_312, nl_999, nl_6561, nl_9999, nI_add, pk_mul, pk_div, pk_sub, ev_leT, ev_leF, ev_ltT, ev_ltF, ev_eqT, ev_eqF, nI_clamp, nle_T, nle_F, nlt_F, or_false, false_or, or_self, if_true, if_false, bnd_def, Option.bind_some, st1s, st1n, st2, st3, st4s, st4n, eq_self, tf_1, tf_2, b2iT, b2iF, b2iE, ob_1, ob_2, f_X7_cell_at, f_X7_setCell_at, in_0, wi_at, in_0_1, in_0_2, in_0_4, in_0_8, in_0_9, in_0_10, in_0_40, in_0_99, in_1_20, in_1_60, in_0_9999, in_m99_99, in_32_126, in_48_57, fa_or]
        | true => simp (disch := omega) only [↓pk_rem, nl_0, nl_1, nl_2, nl_3, nl_4, nl_6, nl_7, nl_8, nl_9, nl_10, nl_11, nl_12, nl_20, nl_23, nl_24, nl_26, nl_32, nl_39, nl_40, nl_44, nl_48, nl_57, nl_59, nl_60, nl_61, nl_64, nl_81, nl_82, nl_99, nl_100, nl_126, nl_200, nl_208, nl_286, nl_287, nl_290, nl_312, nl_999, nl_6561, nl_9999, nI_add, pk_mul, pk_div, pk_sub, ev_leT, ev_leF, ev_ltT, ev_ltF, ev_eqT, ev_eqF, nI_clamp, nle_T, nle_F, nlt_F, or_false, false_or, or_self, if_true, if_false, bnd_def, Option.bind_some, st1s, st1n, st2, st3, st4s, st4n, eq_self, tf_1, tf_2, b2iT, b2iF, b2iE, ob_1, ob_2, f_X7_cell_at, f_X7_setCell_at, in_0, wi_at, in_0_1, in_0_2, in_0_4, in_0_8, in_0_9, in_0_10, in_0_40, in_0_99, in_1_20, in_1_60, in_0_9999, in_m99_99, in_32_126, in_48_57, bb_oneN, fa_or]
      · have hlt : ¬ i % 6 < C := fun z => ht (e2.mpr z)
        have hA := ag_un hT y hs h1 h2 hi ht
        simp (disch := omega) only [↓pk_rem, nl_0, nl_1, nl_2, nl_3, nl_4, nl_6, nl_7, nl_8, nl_9, nl_10, nl_11, nl_12, nl_20, nl_23, nl_24, nl_26, nl_32, nl_39, nl_40, nl_44, nl_48, nl_57, nl_59, nl_60, nl_61, nl_64, nl_81, nl_82, nl_99, nl_100, nl_126, nl_200, nl_208, nl_286, nl_287, nl_290, nl_312, nl_999, nl_6561, nl_9999, nI_add, pk_mul, pk_div, pk_sub, ev_leT, ev_leF, ev_ltT, ev_ltF, ev_eqT, ev_eqF, nI_clamp, nle_T, nle_F, nlt_F, or_false, false_or, or_self, if_true, if_false, bnd_def, Option.bind_some, st1s, st1n, st2, st3, st4s, st4n, eq_self, tf_1, tf_2, b2iT, b2iF, b2iE, ob_1, ob_2, f_X7_cell_at, f_X7_setCell_at, in_0, wi_at, in_0_1, in_0_2, in_0_4, in_0_8, in_0_9, in_0_10, in_0_40, in_0_99, in_1_20, in_1_60, in_0_9999, in_m99_99, in_32_126, in_48_57, e1, e3, hx, fa_or]
        rw [nbits, hA]
        simp)
  obtain ⟨x, h3, h4⟩ := h
  rw [f_X8_againstBy]
  rw [h4] at h3
  exact h3
theorem X8_place {M T P : Ob} {f : Nat → Int32} {b : Nat} (hb : b + 26 ≤ 312) {S U L N D : Nat} (hT : TK T S U L N D) (hM : MK M T S U L N D) {y : Nat} (hy : y < 2 ^ 31) (hP : P.1 3 = nI y) (hR : RS S P f b) {s : Nat} (hs : s < S) : f_X8_place (stR M 18 f) (nI b) (nI s) = some (pl T D y s (P.1 0) (P.1 1)) := by
  obtain ⟨r0, r1, r2, r3, r4, r5, r6⟩ := hR
  unfold f_X8_place
  simp (disch := omega) only [↓pk_rem, nl_0, nl_1, nl_2, nl_3, nl_4, nl_6, nl_7, nl_8, nl_9, nl_10, nl_11, nl_12, nl_20, nl_23, nl_24, nl_26, nl_32, nl_39, nl_40, nl_44, nl_48, nl_57, nl_59, nl_60, nl_61, nl_64, nl_81, nl_82, nl_99, nl_100, nl_126, nl_200, nl_208, nl_286, nl_287, nl_290, nl_312, nl_999, nl_6561, nl_9999, nI_add, pk_mul, pk_div, pk_sub, ev_leT, ev_leF, ev_ltT, ev_ltF, ev_eqT, ev_eqF, nI_clamp, nle_T, nle_F, nlt_F, or_false, false_or, or_self, if_true, if_false, bnd_def, Option.bind_some, st1s, st1n, st2, st3, st4s, st4n, eq_self, tf_1, tf_2, b2iT, b2iF, b2iE, ob_1, ob_2, f_X7_cell_at, f_X7_setCell_at, in_0, wi_at, in_0_1, in_0_2, in_0_4, in_0_8, in_0_9, in_0_10, in_0_40, in_0_99, in_1_20, in_1_60, in_0_9999, in_m99_99, in_32_126, in_48_57, r0, r1, r3, hP, X8_dampOf hT (hM.slot f) hy, X8_placeBy hT (hM.slot f) y hs]
theorem X8_againstIn {M T P : Ob} {f : Nat → Int32} {b : Nat} (hb : b + 26 ≤ 312) {S U L N D : Nat} (hT : TK T S U L N D) (hM : MK M T S U L N D) {y : Nat} (hy : y < 2 ^ 31) (hP : PK P y) (hR : RS S P f b) {s : Nat} (hs : s < S) : f_X8_againstIn (stR M 18 f) (nI b) (nI s) = some (nI (ab T D y s (P.1 0) (P.1 1))) := by
  obtain ⟨r0, r1, r2, r3, r4, r5, r6⟩ := hR
  obtain ⟨p3, p0, p1, p2⟩ := hP
  unfold f_X8_againstIn
  simp (disch := omega) only [↓pk_rem, nl_0, nl_1, nl_2, nl_3, nl_4, nl_6, nl_7, nl_8, nl_9, nl_10, nl_11, nl_12, nl_20, nl_23, nl_24, nl_26, nl_32, nl_39, nl_40, nl_44, nl_48, nl_57, nl_59, nl_60, nl_61, nl_64, nl_81, nl_82, nl_99, nl_100, nl_126, nl_200, nl_208, nl_286, nl_287, nl_290, nl_312, nl_999, nl_6561, nl_9999, nI_add, pk_mul, pk_div, pk_sub, ev_leT, ev_leF, ev_ltT, ev_ltF, ev_eqT, ev_eqF, nI_clamp, nle_T, nle_F, nlt_F, or_false, false_or, or_self, if_true, if_false, bnd_def, Option.bind_some, st1s, st1n, st2, st3, st4s, st4n, eq_self, tf_1, tf_2, b2iT, b2iF, b2iE, ob_1, ob_2, f_X7_cell_at, f_X7_setCell_at, in_0, wi_at, in_0_1, in_0_2, in_0_4, in_0_8, in_0_9, in_0_10, in_0_40, in_0_99, in_1_20, in_1_60, in_0_9999, in_m99_99, in_32_126, in_48_57, r0, r1, r3, p3, X8_dampOf hT (hM.slot f) hy, X8_againstBy hT (hM.slot f) y hs p0 p1]
