/-! Stands copied, piles, pushes -/
def EQS (r o : Ob) : Prop := (∀ j, j < 5 → r.1 j = o.1 j) ∧ (∀ k, k < 7 → r.2 5 k = o.2 5 k) ∧ (∀ k, k < 12 → r.2 6 k = o.2 6 k)
theorem EQS.refl (o : Ob) : EQS o o := ⟨fun _ _ => rfl, fun _ _ => rfl, fun _ _ => rfl⟩
theorem RS.eqs {S : Nat} {P Q : Ob} {f : Nat → Int32} {b : Nat} (hS : S ≤ 7) (h : RS S P f b) (e : EQS Q P) : RS S Q f b := by
  obtain ⟨h0, h1, h2, h3, h4, h5, h6⟩ := h
  obtain ⟨e1, e2, e3⟩ := e
  refine ⟨h0.trans (e1 0 (by omega)).symm, h1.trans (e1 1 (by omega)).symm, h2.trans (e1 2 (by omega)).symm, h3.trans (e1 3 (by omega)).symm, fun s hs => (h4 s hs).trans (e2 s (by omega)).symm, fun k hk => (h5 k hk).trans (e3 k hk).symm, ?_⟩
  rw [e1 4 (by omega)]
  exact h6
theorem PK.eqs {P Q : Ob} {y : Nat} (h : PK P y) (e : EQS Q P) : PK Q y := by
  obtain ⟨h3, h0, h1, h2⟩ := h
  obtain ⟨e1, -, -⟩ := e
  exact ⟨(e1 3 (by omega)).trans h3, by rw [e1 0 (by omega)]; exact h0, by rw [e1 1 (by omega)]; exact h1, by rw [e1 2 (by omega)]; exact h2⟩
theorem copyCells_at {n : Nat} (hn : n < 100000) (f g : Nat → Int32) : ∃ h, f_X7_copyCells n f n g = some h ∧ ∀ k, k < n → h k = f k :=
  loopE (fun t i g => f_X7_copyCells_2 n f n t (nI i) g) 0 n (by omega) hn (fun i g => ∀ k, k < i → g k = f k) (fun g => some g) g (fun k hk => absurd hk (by omega))
    (fun t g _ => by
      show f_X7_copyCells_2 n f n (t + 1) (nI n) g = some g
      rw [f_X7_copyCells_2, if_pos (show Int32.ofNat n ≤ nI n from nI_le (Nat.le_refl _) (by omega))])
    (fun t i g hi hg => by
      refine ⟨upd g i (f i), ?_, fun k hk => ?_⟩
      · show f_X7_copyCells_2 n f n (t + 1) (nI i) g = f_X7_copyCells_2 n f n t (nI (i + 1)) _
        have h1 : ¬ Int32.ofNat n ≤ nI i := nI_ge hi (by omega)
        have h2 := nI_in hi (show n < 2 ^ 31 by omega)
        rw [f_X7_copyCells_2, if_neg h1, if_neg h1, if_neg h2, if_neg h2, bnd_def, bnd_def, nI_1, nI_clamp (by omega)]
      · by_cases h : k = i
        · subst h; exact pk_us
        · rw [pk_un h]; exact hg k (by omega))
theorem X5_copy (r o : Ob) : ∃ q, f_X5_copy r o = some q ∧ EQS q o := by
  obtain ⟨h1, e1, e2⟩ := copyCells_at (n := 7) (by omega) (o.2 5) (r.2 5)
  obtain ⟨h2, e3, e4⟩ := copyCells_at (n := 12) (by omega) (o.2 6) (r.2 6)
  unfold f_X5_copy
  simp only [bnd_def, e1, e3, Option.bind_some]
  refine ⟨_, rfl, fun j hj => ?_, fun k hk => ?_, fun k hk => ?_⟩
  · rcases (show j = 0 ∨ j = 1 ∨ j = 2 ∨ j = 3 ∨ j = 4 by omega) with rfl | rfl | rfl | rfl | rfl <;> rfl
  · exact e2 k hk
  · exact e4 k hk
theorem X8_copies (M : Ob) (f : Nat → Int32) {a b : Nat} (ha : a + 26 ≤ 312) (hb : b + 26 ≤ 312) (hab : a + 26 ≤ b ∨ b + 26 ≤ a) : ∃ g, f_X8_copies (stR M 18 f) (nI a) (nI b) = some (stR M 18 g) ∧ (∀ j, j < 26 → g (b + j) = f (a + j)) ∧ FR f g b :=
  loopE (fun t i g => f_X8_copies_2 (nI a) (nI b) t (nI i) (stR M 18 g)) 0 26 (by omega) (by omega) (fun i g => (∀ j, j < i → g (b + j) = f (a + j)) ∧ ∀ j, ¬ (b ≤ j ∧ j < b + i) → g j = f j) (fun g => some (stR M 18 g)) f ⟨fun k hk => absurd hk (by omega), fun _ _ => rfl⟩
    (fun t g _ => by
      show f_X8_copies_2 (nI a) (nI b) (t + 1) (nI 26) (stR M 18 g) = some (stR M 18 g)
      rw [f_X8_copies_2, if_pos (by decide)])
    (fun t i g hi hg => by
      refine ⟨upd g (b + i) (g (a + i)), ?_, fun j hj => ?_, fun j hj => ?_⟩
      · show f_X8_copies_2 (nI a) (nI b) (t + 1) (nI i) (stR M 18 g) = f_X8_copies_2 (nI a) (nI b) t (nI (i + 1)) _
        rw [f_X8_copies_2]
        simp (disch := omega) only [↓pk_rem, nl_0, nl_1, nl_2, nl_3, nl_4, nl_6, nl_7, nl_8, nl_9, nl_10, nl_11, nl_12, nl_20, nl_23, nl_24, nl_26, nl_32, nl_39, nl_40, nl_44, nl_48, nl_57, nl_59, nl_60, nl_61, nl_64, nl_81, nl_82, nl_99, nl_100, nl_126, nl_200, nl_208, nl_286, nl_287, nl_290, nl_312, nl_999, nl_6561, nl_9999, nI_add, pk_mul, pk_div, pk_sub, ev_leT, ev_leF, ev_ltT, ev_ltF, ev_eqT, ev_eqF, nI_clamp, nle_T, nle_F, nlt_F, or_false, false_or, or_self, if_true, if_false, bnd_def, Option.bind_some, st1s, st1n, st2, st3, st4s, st4n, eq_self, tf_1, tf_2, b2iT, b2iF, b2iE, ob_1, ob_2, f_X7_cell_at, f_X7_setCell_at, in_0, wi_at, in_0_1, in_0_2, in_0_4, in_0_8, in_0_9, in_0_10, in_0_40, in_0_99, in_1_20, in_1_60, in_0_9999, in_m99_99, in_32_126, in_48_57, stR_stR]
      · by_cases h : j = i
        · subst h
          rw [pk_us]
          exact hg.2 _ (by omega)
        · rw [pk_un (by omega)]
          exact hg.1 j (by omega)
      · rw [pk_un (by omega)]
        exact hg.2 j (by omega))
theorem stF_stF (o : Ob) (k : Nat) (v w : Int32) : stF (stF o k v) k w = stF o k w := by
  unfold stF
  congr 1
  funext j
  by_cases h : j = k
  · subst h; simp only [nbq_y, cond_true]
  · simp only [nbq_n h, cond_false]
theorem X8_known_lt (M : Ob) (f : Nat → Int32) {n : Nat} (hM : M.1 19 = nI n) (hn : n < 8) : ∃ g, f_X8_known (stR M 18 f) = some (stF (stR M 18 g) 19 (nI (n + 1))) ∧ (∀ j, j < 26 → g (26 * (n + 1) + j) = f j) ∧ FR f g (26 * (n + 1)) := by
  obtain ⟨g, e1, e2, e3⟩ := X8_copies (stF M 19 (nI (n + 1))) f (a := 0) (b := 26 * (n + 1)) (by omega) (by omega) (by omega)
  refine ⟨g, ?_, fun j hj => by rw [e2 j hj, Nat.zero_add], e3⟩
  unfold f_X8_known f_X8_known_46
  rw [stR_stF] at e1
  have e4 : (n + 1) * 26 = 26 * (n + 1) := Nat.mul_comm _ _
  simp (disch := omega) only [↓pk_rem, nl_0, nl_1, nl_2, nl_3, nl_4, nl_6, nl_7, nl_8, nl_9, nl_10, nl_11, nl_12, nl_20, nl_23, nl_24, nl_26, nl_32, nl_39, nl_40, nl_44, nl_48, nl_57, nl_59, nl_60, nl_61, nl_64, nl_81, nl_82, nl_99, nl_100, nl_126, nl_200, nl_208, nl_286, nl_287, nl_290, nl_312, nl_999, nl_6561, nl_9999, nI_add, pk_mul, pk_div, pk_sub, ev_leT, ev_leF, ev_ltT, ev_ltF, ev_eqT, ev_eqF, nI_clamp, nle_T, nle_F, nlt_F, or_false, false_or, or_self, if_true, if_false, bnd_def, Option.bind_some, st1s, st1n, st2, st3, st4s, st4n, eq_self, tf_1, tf_2, b2iT, b2iF, b2iE, ob_1, ob_2, f_X7_cell_at, f_X7_setCell_at, in_0, wi_at, in_0_1, in_0_2, in_0_4, in_0_8, in_0_9, in_0_10, in_0_40, in_0_99, in_1_20, in_1_60, in_0_9999, in_m99_99, in_32_126, in_48_57, hM, e4, e1]
  rfl
theorem X8_known_8 (M : Ob) (f : Nat → Int32) (hM : M.1 19 = nI 8) : ∃ g, f_X8_known (stR M 18 f) = some (stF (stR M 18 g) 19 (nI 8)) ∧ (∀ j, j < 26 → g (208 + j) = f j) ∧ (∀ j, 26 ≤ j → j < 208 → g j = f (j + 26)) ∧ ∀ j, (j < 26 ∨ 234 ≤ j) → g j = f j := by
  have h := loopE (fun t i g => f_X8_known_12 t (nI i) (stR M 18 g)) 26 208 (by omega) (by omega) (fun i g => 26 ≤ i ∧ (∀ j, 26 ≤ j → j < i → g j = f (j + 26)) ∧ ∀ j, ¬ (26 ≤ j ∧ j < i) → g j = f j) (fun g => f_X8_known_46 (stF (stR M 18 g) 19 (nI 7))) f ⟨Nat.le_refl _, fun k hk h2 => absurd hk (by omega), fun _ _ => rfl⟩
    (fun t g _ => by
      show f_X8_known_12 (t + 1) (nI 208) (stR M 18 g) = f_X8_known_46 (stF (stR M 18 g) 19 (7 : Int32))
      rw [f_X8_known_12, if_pos (by decide)])
    (fun t i g hi hg => by
      obtain ⟨h26, hg1, hg2⟩ := hg
      refine ⟨upd g i (g (i + 26)), ?_, by omega, fun j hj hj2 => ?_, fun j hj => ?_⟩
      · show f_X8_known_12 (t + 1) (nI i) (stR M 18 g) = f_X8_known_12 t (nI (i + 1)) _
        rw [f_X8_known_12]
        simp (disch := omega) only [↓pk_rem, nl_0, nl_1, nl_2, nl_3, nl_4, nl_6, nl_7, nl_8, nl_9, nl_10, nl_11, nl_12, nl_20, nl_23, nl_24, nl_26, nl_32, nl_39, nl_40, nl_44, nl_48, nl_57, nl_59, nl_60, nl_61, nl_64, nl_81, nl_82, nl_99, nl_100, nl_126, nl_200, nl_208, nl_286, nl_287, nl_290, nl_312, nl_999, nl_6561, nl_9999, nI_add, pk_mul, pk_div, pk_sub, ev_leT, ev_leF, ev_ltT, ev_ltF, ev_eqT, ev_eqF, nI_clamp, nle_T, nle_F, nlt_F, or_false, false_or, or_self, if_true, if_false, bnd_def, Option.bind_some, st1s, st1n, st2, st3, st4s, st4n, eq_self, tf_1, tf_2, b2iT, b2iF, b2iE, ob_1, ob_2, f_X7_cell_at, f_X7_setCell_at, in_0, wi_at, in_0_1, in_0_2, in_0_4, in_0_8, in_0_9, in_0_10, in_0_40, in_0_99, in_1_20, in_1_60, in_0_9999, in_m99_99, in_32_126, in_48_57, stR_stR]
      · by_cases h : j = i
        · subst h
          rw [pk_us]
          exact hg2 _ (by omega)
        · rw [pk_un h]
          exact hg1 j hj (by omega)
      · rw [pk_un (by omega)]
        exact hg2 j (by omega))
  obtain ⟨g1, e1, -, e2, e3⟩ := h
  obtain ⟨g, c1, c2, c3⟩ := X8_copies (stF M 19 (nI 8)) g1 (a := 0) (b := 208) (by omega) (by omega) (by omega)
  refine ⟨g, ?_, fun j hj => ?_, fun j hj hj2 => ?_, fun j hj => ?_⟩
  · unfold f_X8_known
    rw [stR_stF] at c1
    simp (disch := omega) only [↓pk_rem, nl_0, nl_1, nl_2, nl_3, nl_4, nl_6, nl_7, nl_8, nl_9, nl_10, nl_11, nl_12, nl_20, nl_23, nl_24, nl_26, nl_32, nl_39, nl_40, nl_44, nl_48, nl_57, nl_59, nl_60, nl_61, nl_64, nl_81, nl_82, nl_99, nl_100, nl_126, nl_200, nl_208, nl_286, nl_287, nl_290, nl_312, nl_999, nl_6561, nl_9999, nI_add, pk_mul, pk_div, pk_sub, ev_leT, ev_leF, ev_ltT, ev_ltF, ev_eqT, ev_eqF, nI_clamp, nle_T, nle_F, nlt_F, or_false, false_or, or_self, if_true, if_false, bnd_def, Option.bind_some, st1s, st1n, st2, st3, st4s, st4n, eq_self, tf_1, tf_2, b2iT, b2iF, b2iE, ob_1, ob_2, f_X7_cell_at, f_X7_setCell_at, in_0, wi_at, in_0_1, in_0_2, in_0_4, in_0_8, in_0_9, in_0_10, in_0_40, in_0_99, in_1_20, in_1_60, in_0_9999, in_m99_99, in_32_126, in_48_57, hM, eq_self, e1]
    unfold f_X8_known_46
    simp (disch := omega) only [↓pk_rem, nl_0, nl_1, nl_2, nl_3, nl_4, nl_6, nl_7, nl_8, nl_9, nl_10, nl_11, nl_12, nl_20, nl_23, nl_24, nl_26, nl_32, nl_39, nl_40, nl_44, nl_48, nl_57, nl_59, nl_60, nl_61, nl_64, nl_81, nl_82, nl_99, nl_100, nl_126, nl_200, nl_208, nl_286, nl_287, nl_290, nl_312, nl_999, nl_6561, nl_9999, nI_add, pk_mul, pk_div, pk_sub, ev_leT, ev_leF, ev_ltT, ev_ltF, ev_eqT, ev_eqF, nI_clamp, nle_T, nle_F, nlt_F, or_false, false_or, or_self, if_true, if_false, bnd_def, Option.bind_some, st1s, st1n, st2, st3, st4s, st4n, eq_self, tf_1, tf_2, b2iT, b2iF, b2iE, ob_1, ob_2, f_X7_cell_at, f_X7_setCell_at, in_0, wi_at, in_0_1, in_0_2, in_0_4, in_0_8, in_0_9, in_0_10, in_0_40, in_0_99, in_1_20, in_1_60, in_0_9999, in_m99_99, in_32_126, in_48_57, stF_stF, c1]
    rfl
  · rw [c2 j hj, Nat.zero_add, e3 j (by omega)]
  · rw [c3 j (by omega), e2 j hj hj2]
  · rw [c3 j (by omega), e3 j (by omega)]
/-! piles -/
theorem stU_at (st : Nat → Ob) (k i : Nat) (o : Ob) : stU st k o i = if i = k then o else st i := by
  unfold stU
  by_cases h : i = k
  · subst h; rw [if_pos rfl]; simp only [nbq_y, cond_true]
  · rw [if_neg h]; simp only [nbq_n h, cond_false]
/-- a pile of n Stands, its rooms against those of the reference from the number z on -/
def PR (cap z S : Nat) (q : PS) (f : Nat → Int32) (n : Nat) : Prop := q.1.1 1 = nI n ∧ n ≤ cap ∧ (∀ j, j < cap → q.2.1 j < cap) ∧ (∀ i j, i < cap → j < cap → q.2.1 i = q.2.1 j → i = j) ∧ ∀ i, i < n → RS S (q.2.2 (q.2.1 i)) f (26 * (z + i)) ∧ ∃ y, y ≤ 999 ∧ PK (q.2.2 (q.2.1 i)) y
theorem PR.ok {cap z S n : Nat} {q : PS} {f : Nat → Int32} (hc : cap < 2 ^ 31) (h : PR cap z S q f n) : pOK cap q ∧ (q.1.1 1).toNatClampNeg = n := by
  obtain ⟨h1, h2, h3, h4, h5⟩ := h
  have e : (q.1.1 1).toNatClampNeg = n := by rw [h1, nI_clamp (by omega)]
  refine ⟨⟨h3, ?_, by omega⟩, e⟩
  rw [h1]
  exact nI_pos (by omega)
theorem PR.cong {cap z S n : Nat} {q : PS} {f g : Nat → Int32} (hS : S ≤ 7) (h : PR cap z S q f n) (e : ∀ j, 26 * z ≤ j → j < 26 * (z + n) → g j = f j) : PR cap z S q g n := by
  obtain ⟨h1, h2, h3, h4, h5⟩ := h
  exact ⟨h1, h2, h3, h4, fun i hi => ⟨(h5 i hi).1.cong hS (fun j hj => e _ (by omega) (by omega)), (h5 i hi).2⟩⟩
theorem PR.put {cap z S n : Nat} {q : PS} {f g : Nat → Int32} {P : Ob} {y : Nat} (rot : (Nat → Nat) → Nat → Nat) (hc : cap < 2 ^ 31) (hS : S ≤ 7) (h : PR cap z S q f n) (hn : n < cap) (hR : RS S P f 0) (hP : PK P y) (hy : y ≤ 999) (e1 : ∀ j, j < 26 → g (26 * (z + n) + j) = f j) (e2 : ∀ j, 26 * z ≤ j → j < 26 * (z + n) → g j = f j) : ∃ r, f_X3_put cap rot q P = some r ∧ PR cap z S r g (n + 1) := by
  obtain ⟨hk, hn2⟩ := h.ok hc
  obtain ⟨h1, h2, h3, h4, h5⟩ := h
  obtain ⟨w, w1, w2⟩ := X5_copy (q.2.2 (q.2.1 n)) P
  refine ⟨(stF q.1 1 (nI (n + 1)), q.2.1, stU q.2.2 (q.2.1 n) w), ?_, rfl, hn, h3, h4, fun i hi => ?_⟩
  · unfold f_X3_put
    rw [if_pos hk, hn2, if_pos hn, w1]
    rfl
  · show RS S (stU q.2.2 (q.2.1 n) w (q.2.1 i)) g (26 * (z + i)) ∧ ∃ y, y ≤ 999 ∧ PK (stU q.2.2 (q.2.1 n) w (q.2.1 i)) y
    by_cases hin : i = n
    · subst hin
      rw [stU_at, if_pos rfl]
      exact ⟨(hR.eqs hS w2).cong hS (fun j hj => by rw [e1 j hj, Nat.zero_add]), y, hy, hP.eqs w2⟩
    · have hne : ¬ q.2.1 i = q.2.1 n := fun e => hin (h4 i n (by omega) hn e)
      rw [stU_at, if_neg hne]
      exact ⟨(h5 i (by omega)).1.cong hS (fun j hj => e2 _ (by omega) (by omega)), (h5 i (by omega)).2⟩
theorem rot8_at (pf : Nat → Nat) : ∀ j, j < 8 → rot8 pf j = pf (if j = 7 then 0 else j + 1) := by
  intro j hj
  rcases (show j = 0 ∨ j = 1 ∨ j = 2 ∨ j = 3 ∨ j = 4 ∨ j = 5 ∨ j = 6 ∨ j = 7 by omega) with rfl | rfl | rfl | rfl | rfl | rfl | rfl | rfl <;> simp [rot8, va_up]
theorem PR.putFull {z S : Nat} {q : PS} {f g : Nat → Int32} {P : Ob} {y : Nat} (hS : S ≤ 7) (h : PR 8 z S q f 8) (hR : RS S P f 0) (hP : PK P y) (hy : y ≤ 999) (e1 : ∀ j, j < 26 → g (26 * (z + 7) + j) = f j) (e2 : ∀ j, 26 * z ≤ j → j < 26 * (z + 7) → g j = f (j + 26)) : ∃ r, f_X3_put 8 rot8 q P = some r ∧ PR 8 z S r g 8 := by
  obtain ⟨hk, hn2⟩ := h.ok (by omega)
  obtain ⟨h1, h2, h3, h4, h5⟩ := h
  obtain ⟨w, w1, w2⟩ := X5_copy (q.2.2 (rot8 q.2.1 7)) P
  have hr := rot8_at q.2.1
  refine ⟨(stF q.1 1 (nI 8), rot8 q.2.1, stU q.2.2 (rot8 q.2.1 7) w), ?_, rfl, by omega, fun j hj => ?_, fun i j hi hj e => ?_, fun i hi => ?_⟩
  · unfold f_X3_put
    rw [if_pos hk, hn2, if_neg (show ¬ 8 < 8 by omega)]
    show (f_X5_copy (q.2.2 (rot8 q.2.1 7)) P).bind _ = _
    rw [w1]
    rfl
  · show rot8 q.2.1 j < 8
    rw [hr j hj]
    exact h3 _ (by split <;> omega)
  · have e' : rot8 q.2.1 i = rot8 q.2.1 j := e
    rw [hr i hi, hr j hj] at e'
    have := h4 _ _ (by split <;> omega) (by split <;> omega) e'
    split at this <;> split at this <;> omega
  · show RS S (stU q.2.2 (rot8 q.2.1 7) w (rot8 q.2.1 i)) g (26 * (z + i)) ∧ ∃ y, y ≤ 999 ∧ PK (stU q.2.2 (rot8 q.2.1 7) w (rot8 q.2.1 i)) y
    by_cases hin : i = 7
    · subst hin
      rw [stU_at, if_pos rfl]
      exact ⟨(hR.eqs hS w2).cong hS (fun j hj => by rw [e1 j hj, Nat.zero_add]), y, hy, hP.eqs w2⟩
    · rw [hr 7 (by omega), if_pos rfl, hr i hi, if_neg hin]
      have hne : ¬ q.2.1 (i + 1) = q.2.1 0 := fun e => absurd (h4 (i + 1) 0 (by omega) (by omega) e) (by omega)
      rw [stU_at, if_neg hne]
      exact ⟨(h5 (i + 1) (by omega)).1.cong hS (fun j hj => by rw [e2 _ (by omega) (by omega)]; congr 1; omega), (h5 (i + 1) (by omega)).2⟩
/-- what can be undone, put by the class and by the reference -/
theorem X_known {M : Ob} {S n : Nat} {q : PS} {f : Nat → Int32} {P : Ob} {y : Nat} (hS : S ≤ 7) (hM : M.1 19 = nI n) (h : PR 8 1 S q f n) (hR : RS S P f 0) (hP : PK P y) (hy : y ≤ 999) : ∃ r g m, f_X3_put 8 rot8 q P = some r ∧ f_X8_known (stR M 18 f) = some (stF (stR M 18 g) 19 (nI m)) ∧ PR 8 1 S r g m ∧ ∀ j, (j < 26 ∨ 234 ≤ j) → g j = f j := by
  have hn := h.2.1
  by_cases h8 : n = 8
  · subst h8
    obtain ⟨g, e1, e2, e3, e4⟩ := X8_known_8 M f hM
    obtain ⟨r, r1, r2⟩ := h.putFull hS hR hP hy (g := g) (fun j hj => e2 j hj) (fun j hj hj2 => e3 j (by omega) (by omega))
    exact ⟨r, g, 8, r1, e1, r2, e4⟩
  · obtain ⟨g, e1, e2, e3⟩ := X8_known_lt M f hM (by omega)
    obtain ⟨r, r1, r2⟩ := h.put rot8 (by omega) hS (by omega) hR hP hy (g := g) (fun j hj => by rw [show 26 * (1 + n) + j = 26 * (n + 1) + j by omega]; exact e2 j hj) (fun j hj hj2 => e3 j (by omega))
    exact ⟨r, g, n + 1, r1, e1, r2, fun j hj => e3 j (by omega)⟩
