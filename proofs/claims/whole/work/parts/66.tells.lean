/-! tells -/
/-- whether the pair is asked -/
def hq (As : Ob) (s o : Nat) : Nat → Bool
  | 0 => false
  | n + 1 => hq As s o n || (decide (As.2 0 n = nI s) && decide (As.2 1 n = nI o))
theorem hq_true {As : Ob} {s o i : Nat} (h : hq As s o i = true) : ∀ n, hq As s o (i + n) = true
  | 0 => h
  | n + 1 => by
    rw [show i + (n + 1) = (i + n) + 1 by omega, hq, hq_true h n, Bool.true_or]
theorem X7_holds {As M : Ob} {q S U L s o : Nat} (hA : AR As M q S U L) (hs : s < 7) (ho : o < 12) : f_X0_holds As (nI s) (nI o) = some (hq As s o q) := by
  have ha := hA.1
  have lq := hA.2.2.1
  refine loopP (fun t i (_ : Unit) => f_X0_holds_2 As (nI s) (nI o) t (nI i)) 0 q (by omega) (by omega) (fun i _ => hq As s o i = false) (fun r => r = some (hq As s o q)) () rfl
    (fun t _ h => by
      show f_X0_holds_2 As (nI s) (nI o) (t + 1) (nI q) = _
      rw [f_X0_holds_2, ha, if_pos (nI_le (Nat.le_refl _) (by omega)), h])
    (fun t i _ hi h => ?_)
  by_cases hc : As.2 0 i = nI s ∧ As.2 1 i = nI o
  · left
    show f_X0_holds_2 As (nI s) (nI o) (t + 1) (nI i) = _
    have h1 : hq As s o (i + 1) = true := by rw [hq, decide_eq_true hc.1, decide_eq_true hc.2, Bool.and_true, Bool.or_true]
    have h2 := hq_true h1 (q - (i + 1))
    rw [show i + 1 + (q - (i + 1)) = q by omega] at h2
    rw [f_X0_holds_2, ha, if_neg (nI_ge hi (by omega)), f_X7_cell_at (by decide) _ (by omega), Option.bind_some, if_pos hc.1, f_X7_cell_at (by decide) _ (by omega), Option.bind_some, if_pos hc.2, h2]
  · right
    have h1 : hq As s o (i + 1) = false := by
      rw [hq, h, Bool.false_or]
      by_cases h0 : As.2 0 i = nI s
      · rw [decide_eq_false (show ¬ As.2 1 i = nI o from fun z => hc ⟨h0, z⟩), Bool.and_false]
      · rw [decide_eq_false h0, Bool.false_and]
    refine ⟨(), ?_, h1⟩
    show f_X0_holds_2 As (nI s) (nI o) (t + 1) (nI i) = f_X0_holds_2 As (nI s) (nI o) t (nI (i + 1))
    rw [f_X0_holds_2, ha, if_neg (nI_ge hi (by omega)), f_X7_cell_at (by decide) _ (by omega), Option.bind_some]
    unfold f_X0_holds_36
    by_cases h0 : As.2 0 i = nI s
    · rw [if_pos h0, f_X7_cell_at (by decide) _ (by omega), Option.bind_some, if_neg (show ¬ As.2 1 i = nI o from fun z => hc ⟨h0, z⟩), bnd_def, nI_1]
    · rw [if_neg h0, bnd_def, nI_1]
theorem X8_isAsked {As M : Ob} {f : Nat → Int32} {q S U L s l k : Nat} (hA : AR As (stR M 18 f) q S U L) (hS : S ≤ 7) (hs : s < 7) (hl : l < 2) (hk : k < 6) : f_X8_isAsked (stR M 18 f) (nI s) (nI l) (nI k) = some (hq As s (6 * l + k) q) := by
  have ha : M.1 26 = nI q := hA.2.1
  have lq := hA.2.2.1
  have hl := loopE (fun t i (x : Bool) => f_X8_isAsked_6 (stR M 18 f) (nI s) (nI l) (nI k) t x (nI i)) 0 q (by omega) (by omega) (fun i x => x = hq As s (6 * l + k) i) (fun x => some x) false rfl
    (fun t x h => by
      show f_X8_isAsked_6 (stR M 18 f) (nI s) (nI l) (nI k) (t + 1) x (nI q) = _
      rw [f_X8_isAsked_6]
      simp (disch := omega) only [↓pk_rem, nl_0, nl_1, nl_2, nl_3, nl_4, nl_6, nl_7, nl_8, nl_9, nl_10, nl_11, nl_12, nl_20, nl_23, nl_24, nl_26, nl_32, nl_39, nl_40, nl_44, nl_48, nl_57, nl_59, nl_60, nl_61, nl_64, nl_81, nl_82, nl_99, nl_100, nl_126, nl_200, nl_208, nl_286, nl_287, nl_290, nl_312, nl_999, nl_6561, nl_9999, nI_add, pk_mul, pk_div, pk_sub, ev_leT, ev_leF, ev_ltT, ev_ltF, ev_eqT, ev_eqF, nI_clamp, nle_T, nle_F, nlt_F, or_false, false_or, or_self, if_true, if_false, bnd_def, Option.bind_some, st1s, st1n, st2, st3, st4s, st4n, eq_self, tf_1, tf_2, b2iT, b2iF, b2iE, ob_1, ob_2, f_X7_cell_at, f_X7_setCell_at, in_0, wi_at, in_0_1, in_0_2, in_0_4, in_0_8, in_0_9, in_0_10, in_0_40, in_0_99, in_1_20, in_1_60, in_0_9999, in_m99_99, in_32_126, in_48_57, ha])
    (fun t i x hi h => by
      obtain ⟨s', l', k', hs', hl', hk', ht', e1, e2, e3, e4, e5⟩ := ask_at hA hi
      have e3' : M.2 27 i = nI s' := e3
      have e4' : M.2 28 i = nI l' := e4
      have e5' : M.2 29 i = nI k' := e5
      refine ⟨hq As s (6 * l + k) (i + 1), ?_, rfl⟩
      show f_X8_isAsked_6 (stR M 18 f) (nI s) (nI l) (nI k) (t + 1) x (nI i) = f_X8_isAsked_6 (stR M 18 f) (nI s) (nI l) (nI k) t (hq As s (6 * l + k) (i + 1)) (nI (i + 1))
      have d0 : decide (As.2 0 i = nI s) = decide (s' = s) := by rw [e1]; exact decide_eq_decide.mpr (nI_eq (by omega) (by omega))
      have d1 : decide (As.2 1 i = nI (6 * l + k)) = decide (6 * l' + k' = 6 * l + k) := by rw [e2]; exact decide_eq_decide.mpr (nI_eq (by omega) (by omega))
      rw [f_X8_isAsked_6, hq, d0, d1, ← h]
      unfold f_X8_isAsked_53 f_X8_isAsked_57 f_X8_isAsked_58
      cases x with
      | true => simp (disch := omega) only [↓pk_rem, nl_0, nl_1, nl_2, nl_3, nl_4, nl_6, nl_7, nl_8, nl_9, nl_10, nl_11, nl_12, nl_20, nl_23, nl_24, nl_26, nl_32, nl_39, nl_40, nl_44, nl_48, nl_57, nl_59, nl_60, nl_61, nl_64, nl_81, nl_82, nl_99, nl_100, nl_126, nl_200, nl_208, nl_286, nl_287, nl_290, nl_312, nl_999, nl_6561, nl_9999, nI_add, pk_mul, pk_div, pk_sub, ev_leT, ev_leF, ev_ltT, ev_ltF, ev_eqT, ev_eqF, nI_clamp, nle_T, nle_F, nlt_F, or_false, false_or, or_self, if_true, if_false, bnd_def, Option.bind_some, st1s, st1n, st2, st3, st4s, st4n, eq_self, tf_1, tf_2, b2iT, b2iF, b2iE, ob_1, ob_2, f_X7_cell_at, f_X7_setCell_at, in_0, wi_at, in_0_1, in_0_2, in_0_4, in_0_8, in_0_9, in_0_10, in_0_40, in_0_99, in_1_20, in_1_60, in_0_9999, in_m99_99, in_32_126, in_48_57, ha, Bool.true_or]
      | false =>
        by_cases c0 : s' = s
        · by_cases c1 : l' = l
          · by_cases c2 : k' = k
            · have hd : decide (6 * l' + k' = 6 * l + k) = true := decide_eq_true (by omega)
              rw [decide_eq_true c0, hd]
              simp (disch := omega) only [↓pk_rem, nl_0, nl_1, nl_2, nl_3, nl_4, nl_6, nl_7, nl_8, nl_9, nl_10, nl_11, nl_12, nl_20, nl_23, nl_24, nl_26, nl_32, nl_39, nl_40, nl_44, nl_48, nl_57, nl_59, nl_60, nl_61, nl_64, nl_81, nl_82, nl_99, nl_100, nl_126, nl_200, nl_208, nl_286, nl_287, nl_290, nl_312, nl_999, nl_6561, nl_9999, nI_add, pk_mul, pk_div, pk_sub, ev_leT, ev_leF, ev_ltT, ev_ltF, ev_eqT, ev_eqF, nI_clamp, nle_T, nle_F, nlt_F, or_false, false_or, or_self, if_true, if_false, bnd_def, Option.bind_some, st1s, st1n, st2, st3, st4s, st4n, eq_self, tf_1, tf_2, b2iT, b2iF, b2iE, ob_1, ob_2, f_X7_cell_at, f_X7_setCell_at, in_0, wi_at, in_0_1, in_0_2, in_0_4, in_0_8, in_0_9, in_0_10, in_0_40, in_0_99, in_1_20, in_1_60, in_0_9999, in_m99_99, in_32_126, in_48_57, ha, e3', e4', e5', Bool.or_true, Bool.and_true]
            · have hd : decide (6 * l' + k' = 6 * l + k) = false := decide_eq_false (by omega)
              rw [hd]
              simp (disch := omega) only [↓pk_rem, nl_0, nl_1, nl_2, nl_3, nl_4, nl_6, nl_7, nl_8, nl_9, nl_10, nl_11, nl_12, nl_20, nl_23, nl_24, nl_26, nl_32, nl_39, nl_40, nl_44, nl_48, nl_57, nl_59, nl_60, nl_61, nl_64, nl_81, nl_82, nl_99, nl_100, nl_126, nl_200, nl_208, nl_286, nl_287, nl_290, nl_312, nl_999, nl_6561, nl_9999, nI_add, pk_mul, pk_div, pk_sub, ev_leT, ev_leF, ev_ltT, ev_ltF, ev_eqT, ev_eqF, nI_clamp, nle_T, nle_F, nlt_F, or_false, false_or, or_self, if_true, if_false, bnd_def, Option.bind_some, st1s, st1n, st2, st3, st4s, st4n, eq_self, tf_1, tf_2, b2iT, b2iF, b2iE, ob_1, ob_2, f_X7_cell_at, f_X7_setCell_at, in_0, wi_at, in_0_1, in_0_2, in_0_4, in_0_8, in_0_9, in_0_10, in_0_40, in_0_99, in_1_20, in_1_60, in_0_9999, in_m99_99, in_32_126, in_48_57, ha, e3', e4', e5', Bool.or_false, Bool.and_false]
          · have hd : decide (6 * l' + k' = 6 * l + k) = false := decide_eq_false (by omega)
            rw [hd]
            simp (disch := omega) only [↓pk_rem, nl_0, nl_1, nl_2, nl_3, nl_4, nl_6, nl_7, nl_8, nl_9, nl_10, nl_11, nl_12, nl_20, nl_23, nl_24, nl_26, nl_32, nl_39, nl_40, nl_44, nl_48, nl_57, nl_59, nl_60, nl_61, nl_64, nl_81, nl_82, nl_99, nl_100, nl_126, nl_200, nl_208, nl_286, nl_287, nl_290, nl_312, nl_999, nl_6561, nl_9999, nI_add, pk_mul, pk_div, pk_sub, ev_leT, ev_leF, ev_ltT, ev_ltF, ev_eqT, ev_eqF, nI_clamp, nle_T, nle_F, nlt_F, or_false, false_or, or_self, if_true, if_false, bnd_def, Option.bind_some, st1s, st1n, st2, st3, st4s, st4n, eq_self, tf_1, tf_2, b2iT, b2iF, b2iE, ob_1, ob_2, f_X7_cell_at, f_X7_setCell_at, in_0, wi_at, in_0_1, in_0_2, in_0_4, in_0_8, in_0_9, in_0_10, in_0_40, in_0_99, in_1_20, in_1_60, in_0_9999, in_m99_99, in_32_126, in_48_57, ha, e3', e4', e5', Bool.or_false, Bool.and_false]
        · rw [decide_eq_false c0]
          simp (disch := omega) only [↓pk_rem, nl_0, nl_1, nl_2, nl_3, nl_4, nl_6, nl_7, nl_8, nl_9, nl_10, nl_11, nl_12, nl_20, nl_23, nl_24, nl_26, nl_32, nl_39, nl_40, nl_44, nl_48, nl_57, nl_59, nl_60, nl_61, nl_64, nl_81, nl_82, nl_99, nl_100, nl_126, nl_200, nl_208, nl_286, nl_287, nl_290, nl_312, nl_999, nl_6561, nl_9999, nI_add, pk_mul, pk_div, pk_sub, ev_leT, ev_leF, ev_ltT, ev_ltF, ev_eqT, ev_eqF, nI_clamp, nle_T, nle_F, nlt_F, or_false, false_or, or_self, if_true, if_false, bnd_def, Option.bind_some, st1s, st1n, st2, st3, st4s, st4n, eq_self, tf_1, tf_2, b2iT, b2iF, b2iE, ob_1, ob_2, f_X7_cell_at, f_X7_setCell_at, in_0, wi_at, in_0_1, in_0_2, in_0_4, in_0_8, in_0_9, in_0_10, in_0_40, in_0_99, in_1_20, in_1_60, in_0_9999, in_m99_99, in_32_126, in_48_57, ha, e3', e4', e5', Bool.or_false, Bool.false_and])
  obtain ⟨x, h1, h2⟩ := hl
  rw [f_X8_isAsked]
  rw [h2] at h1
  exact h1
/-- at how many of the shifts that are so the pair is against one another -/
def pj (T As : Ob) (D y q s o : Nat) (j : Nat) : Bool := sp T As D y q j && ax T D y s o j
theorem sm_ct (P : Nat → Bool) : ∀ n, fb_sm (fun j => if P j = true then 1 else 0) n = fb_ct P n
  | 0 => rfl
  | n + 1 => by rw [fb_sm_succ, fb_ct_succ, sm_ct P n]
theorem cw_ct (p : Nat → Bool) : ∀ i, i ≤ 81 → cw p i + fb_ct p (81 - i) = fb_ct p 81
  | 0, _ => by show 0 + _ = _; rw [Nat.zero_add]
  | i + 1, h => by
    rw [← cw_ct p i (by omega), cw_succ, show 81 - i = (81 - (i + 1)) + 1 by omega, fb_ct_succ p (81 - (i + 1)), show 81 - (i + 1) = 80 - i by omega]
    split <;> omega
theorem ct_sub {p q : Nat → Bool} : ∀ {n : Nat}, (∀ k, k < n → p k = true → q k = true) → fb_ct p n ≤ fb_ct q n
  | 0, _ => Nat.le_refl _
  | n + 1, h => by
    have h1 := ct_sub (p := p) (q := q) (n := n) (fun k hk => h k (by omega))
    rw [fb_ct_succ, fb_ct_succ]
    cases hp : p n with
    | false => rw [if_neg (by decide)]; omega
    | true => rw [h n (by omega) hp, if_pos rfl]; omega
def np (T As : Ob) (D y q s o : Nat) : Nat := fb_ct (pj T As D y q s o) 81
theorem np_le (T As : Ob) (D y q s o : Nat) : np T As D y q s o ≤ cw (sp T As D y q) 81 := by
  have h1 := cw_ct (sp T As D y q) 81 (Nat.le_refl _)
  have h2 : fb_ct (sp T As D y q) (81 - 81) = 0 := rfl
  have h3 : np T As D y q s o ≤ fb_ct (sp T As D y q) 81 := ct_sub (fun k _ h => by
    unfold pj at h
    rw [Bool.and_eq_true] at h
    exact h.1)
  omega
theorem max_at {a b : Nat} (ha : a < 2 ^ 31) (hb : b < 2 ^ 31) : f_X8_larger (nI a) (nI b) = nI (max a b) ∧ (if nI a < nI b then nI b else nI a) = nI (max a b) := by
  unfold f_X8_larger
  by_cases h : b ≤ a
  · rw [if_pos (nI_le h ha), if_neg (nI_nlt h ha), Nat.max_eq_left h]
    exact ⟨rfl, rfl⟩
  · rw [if_neg (nI_ge (by omega) hb), if_pos (nI_lt (by omega) hb), Nat.max_eq_right (by omega)]
    exact ⟨rfl, rfl⟩
def gpN (T As : Ob) (D y q s o : Nat) : Nat := max (np T As D y q s o) (cw (sp T As D y q) 81 - np T As D y q s o)
theorem gpN_le (T As : Ob) (D y q s o : Nat) : gpN T As D y q s o ≤ 81 := by
  have h1 := np_le T As D y q s o
  have h2 := cw_le (sp T As D y q) 81
  unfold gpN
  omega
theorem X7_greaterPart {T As r : Ob} {q S U L N D y s o : Nat} (hT : TK T S U L N D) (hy : y < 2 ^ 31) (hs : s < 7) (ho : o < 12) (r1 : r.1 1 = nI (cw (sp T As D y q) 81)) (r4 : ∀ j, j < 81 → r.2 0 j = b2i (sp T As D y q j)) : f_X1_greaterPart r T (nI y) (nI s) (nI o) = some (nI (gpN T As D y q s o)) := by
  have hcl := cw_le (sp T As D y q) 81
  have hnl := np_le T As D y q s o
  unfold f_X1_greaterPart
  rw [f_X7_cell_at (by decide) _ hs, Option.bind_some, X6_gap hT hy hs ho, Option.bind_some]
  generalize hG : din T D y (T.2 3 s) - T.2 0 o = G
  have hax : ∀ j, ax T D y s o j = f_X7_meet (T.2 2 s) (G + (nI j - nI 40)) := fun j => by rw [ax_eq, hG]
  generalize T.2 2 s = k at hax
  have hsum : ∀ (p : Nat → Nat → Bool), (∀ i j, p i j = ((f_X7_meet k (nI i - nI 1) && decide (nI i - nI 1 = G + (nI j - nI 40))) && sp T As D y q j)) → fb_sm (fun i => fb_ct (fun j => p i j) 81) 4 = np T As D y q s o := by
    intro p hp
    rw [ct_swap p 4 81]
    unfold np
    rw [← sm_ct]
    refine fb_sm_cong (fun j hj => ?_)
    unfold pj
    rw [hax]
    cases hsj : sp T As D y q j with
    | false =>
      rw [Bool.false_and, if_neg (by decide)]
      exact fb_ct_zero (fun i _ => by rw [hp, hsj, Bool.and_false])
    | true =>
      rw [Bool.true_and, ← met4]
      exact fb_ct_cong (fun i _ => by rw [hp, hsj, Bool.and_true])
  have hl := loopE (fun t i (c : Int32) => f_X1_greaterPart_26 r k G t c (nI i - nI 1)) 0 4 (by omega) (by omega) (fun i c => c = nI (fb_sm (fun i => fb_ct (fun j => (f_X7_meet k (nI i - nI 1) && decide (nI i - nI 1 = G + (nI j - nI 40))) && sp T As D y q j) 81) i)) (fun c => bnd (if c < (r.1 1 - c) then (r.1 1 - c) else c) fun q4 : Int32 => some q4) 0 rfl
    (fun t c h => by
      show f_X1_greaterPart_26 r k G (t + 1) c (nI 4 - nI 1) = _
      rw [f_X1_greaterPart_26, if_pos (by decide)])
    (fun t i c hi h => by
      obtain ⟨m1, m2⟩ := mi_1 i hi
      refine ⟨_, ?_, rfl⟩
      show f_X1_greaterPart_26 r k G (t + 1) c (nI i - nI 1) = f_X1_greaterPart_26 r k G t (nI (fb_sm _ (i + 1))) (nI (i + 1) - nI 1)
      rw [f_X1_greaterPart_26, if_neg m1, fb_sm_succ, h, bnd_def, bnd_def]
      unfold f_X1_greaterPart_80
      rw [bnd_def, m2]
      cases hm : f_X7_meet k (nI i - nI 1) with
      | false =>
        rw [if_pos (show b2i false = 0 by decide)]
        have hz : fb_ct (fun j => (false && decide (nI i - nI 1 = G + (nI j - nI 40))) && sp T As D y q j) 81 = 0 := fb_ct_zero (fun j _ => by rw [Bool.false_and, Bool.false_and])
        rw [hz]
        rfl
      | true =>
        rw [if_neg (show ¬ b2i true = 0 by decide)]
        rcases pk_ix (nI i - nI 1 - G + 40) (n := 81) (by omega) with hx | hx | ⟨j0, hj0, hx⟩
        · have hz : fb_ct (fun j => (true && decide (nI i - nI 1 = G + (nI j - nI 40))) && sp T As D y q j) 81 = 0 := fb_ct_zero (fun j hj => by
            have hne : ¬ nI i - nI 1 = G + (nI j - nI 40) := fun e => out_ne (n := 81) (by omega) (Or.inl hx) hj ((i_move _ _ _ _).mpr e)
            rw [decide_eq_false hne, Bool.and_false, Bool.false_and])
          rw [if_pos hx, hz]
          rfl
        · have hz : fb_ct (fun j => (true && decide (nI i - nI 1 = G + (nI j - nI 40))) && sp T As D y q j) 81 = 0 := fb_ct_zero (fun j hj => by
            have hne : ¬ nI i - nI 1 = G + (nI j - nI 40) := fun e => out_ne (n := 81) (by omega) (Or.inr hx) hj ((i_move _ _ _ _).mpr e)
            rw [decide_eq_false hne, Bool.and_false, Bool.false_and])
          by_cases hx0 : nI i - nI 1 - G + 40 < 0
          · rw [if_pos hx0, hz]
            rfl
          · rw [if_neg hx0, if_pos (show (81 : Int32) ≤ nI i - nI 1 - G + 40 from hx), hz]
            rfl
        · have he : ∀ j, j < 81 → (nI i - nI 1 = G + (nI j - nI 40) ↔ j = j0) := fun j hj => by
            constructor
            · intro e
              have h2 : nI i - nI 1 - G + 40 = nI j := (i_move _ _ _ _).mpr e
              rw [hx] at h2
              exact ((nI_eq (by omega) (by omega)).mp h2).symm
            · intro e
              subst e
              exact (i_move (nI i - nI 1) G (nI 40) (nI j)).mp hx
          have hn0 : ¬ nI j0 < 0 := nI_pos (by omega)
          have hn1 : ¬ (81 : Int32) ≤ nI j0 := nI_ge (b := 81) hj0 (by omega)
          rw [hx, if_neg hn0, if_neg hn1, if_neg (nI_in hj0 (by omega)), nI_clamp (by omega), r4 j0 hj0]
          cases hsj : sp T As D y q j0 with
          | false =>
            have hz : fb_ct (fun j => (true && decide (nI i - nI 1 = G + (nI j - nI 40))) && sp T As D y q j) 81 = 0 := fb_ct_zero (fun j hj => by
              by_cases hjj : j = j0
              · subst hjj; rw [hsj, Bool.and_false]
              · rw [decide_eq_false (fun e => hjj ((he j hj).mp e)), Bool.and_false, Bool.false_and])
            rw [if_pos (show b2i false = 0 by decide), hz]
            rfl
          | true =>
            have hz : fb_ct (fun j => (true && decide (nI i - nI 1 = G + (nI j - nI 40))) && sp T As D y q j) 81 = 1 := by
              rw [fb_ct_cong (q := fun j => decide (j = j0)) (fun j hj => by
                rw [Bool.true_and]
                by_cases hjj : j = j0
                · subst hjj; rw [hsj, Bool.and_true]; exact decide_eq_decide.mpr (he j hj)
                · rw [decide_eq_false (fun e => hjj ((he j hj).mp e)), decide_eq_false hjj, Bool.false_and]), ct_one _ j0 (fun _ => rfl), if_pos hj0]
            rw [if_neg (show ¬ b2i true = 0 by decide), hz, bnd_def, bnd_def, nI_1])
  obtain ⟨c, h1, h2⟩ := hl
  rw [hsum _ (fun _ _ => rfl)] at h2
  rw [h2, r1, pk_sub hnl, (max_at (by omega) (by omega)).2, bnd_def] at h1
  exact h1
