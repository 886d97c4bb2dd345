/-- the sum of f k, k < n -/
def fb_sm (f : Nat → Nat) : Nat → Nat
  | 0 => 0
  | n + 1 => fb_sm f n + f n
theorem fb_sm_succ (f : Nat → Nat) (n : Nat) : fb_sm f (n + 1) = fb_sm f n + f n := rfl
theorem fb_sm_cong {f g : Nat → Nat} : ∀ {n : Nat}, (∀ k, k < n → f k = g k) → fb_sm f n = fb_sm g n
  | 0, _ => rfl
  | n + 1, h => by rw [fb_sm_succ, fb_sm_succ, h n (by omega), fb_sm_cong (fun k hk => h k (by omega))]
theorem fb_sm_add (f g : Nat → Nat) : ∀ n, fb_sm (fun k => f k + g k) n = fb_sm f n + fb_sm g n
  | 0 => rfl
  | n + 1 => by
    rw [fb_sm_succ, fb_sm_succ, fb_sm_succ, fb_sm_add f g n]
    omega
theorem fb_sm_le {f : Nat → Nat} {c : Nat} : ∀ {n : Nat}, (∀ k, k < n → f k ≤ c) → fb_sm f n ≤ n * c
  | 0, _ => by show 0 ≤ _; omega
  | n + 1, h => by
    have h1 := fb_sm_le (f := f) (c := c) (n := n) (fun k hk => h k (by omega))
    have h2 := h n (by omega)
    rw [fb_sm_succ, Nat.succ_mul]
    omega
/-- counts over two rows, either way -/
theorem ct_swap (p : Nat → Nat → Bool) (m : Nat) : ∀ n, fb_sm (fun i => fb_ct (fun k => p i k) n) m = fb_sm (fun k => fb_ct (fun i => p i k) m) n
  | 0 => by
    have h : ∀ m, fb_sm (fun i => fb_ct (fun k => p i k) 0) m = 0 := by
      intro m
      induction m with
      | zero => rfl
      | succ m ih => rw [fb_sm_succ, ih]; rfl
    exact h m
  | n + 1 => by
    have h : ∀ m, fb_ct (fun i => p i n) m = fb_sm (fun i => if p i n = true then 1 else 0) m := by
      intro m
      induction m with
      | zero => rfl
      | succ m ih => rw [fb_sm_succ, fb_ct_succ, ih]
    rw [fb_sm_succ, ← ct_swap p m n, h m, ← fb_sm_add]
    rfl
theorem ct_one (P : Nat → Bool) (m : Nat) (hP : ∀ i, P i = decide (i = m)) : ∀ n, fb_ct P n = if m < n then 1 else 0
  | 0 => by rw [if_neg (by omega)]; rfl
  | n + 1 => by
    rw [fb_ct_succ, ct_one P m hP n, hP]
    by_cases h : n = m
    · rw [if_neg (show ¬ m < n by omega), if_pos (show m < n + 1 by omega), if_pos (decide_eq_true h)]
    · rw [if_neg (show ¬ decide (n = m) = true by rw [decide_eq_false h]; decide)]
      by_cases h2 : m < n
      · rw [if_pos h2, if_pos (show m < n + 1 by omega)]
      · rw [if_neg h2, if_neg (show ¬ m < n + 1 by omega)]
theorem i_move (a g c x : Int32) : a - g + c = x ↔ a = g + (x - c) := by
  constructor
  · intro h
    rw [← h, Int32.add_sub_cancel, Int32.add_comm, Int32.sub_add_cancel]
  · intro h
    rw [h, Int32.add_comm g, Int32.add_sub_cancel, Int32.sub_add_cancel]
/-- of -1 to 2 one at most is g -/
theorem met4 (k g : Int32) : fb_ct (fun i => f_X7_meet k (nI i - nI 1) && decide (nI i - nI 1 = g)) 4 = if f_X7_meet k g = true then 1 else 0 := by
  have e : ∀ P : Nat → Bool, fb_ct P 4 = 0 + (if P 0 = true then 1 else 0) + (if P 1 = true then 1 else 0) + (if P 2 = true then 1 else 0) + (if P 3 = true then 1 else 0) := fun P => rfl
  rw [e]
  have c0 : nI 0 - nI 1 = -1 := by decide
  have c1 : nI 1 - nI 1 = 0 := by decide
  have c2 : nI 2 - nI 1 = 1 := by decide
  have c3 : nI 3 - nI 1 = 2 := by decide
  simp only [c0, c1, c2, c3]
  by_cases h0 : g = -1
  · subst h0
    have d1 : ¬ ((0 : Int32) = -1) := by decide
    have d2 : ¬ ((1 : Int32) = -1) := by decide
    have d3 : ¬ ((2 : Int32) = -1) := by decide
    cases hm : f_X7_meet k (-1) <;> simp [d1, d2, d3]
  · by_cases h1 : g = 0
    · subst h1
      have d1 : ¬ ((-1 : Int32) = 0) := by decide
      have d2 : ¬ ((1 : Int32) = 0) := by decide
      have d3 : ¬ ((2 : Int32) = 0) := by decide
      cases hm : f_X7_meet k 0 <;> simp [d1, d2, d3]
    · by_cases h2 : g = 1
      · subst h2
        have d1 : ¬ ((-1 : Int32) = 1) := by decide
        have d2 : ¬ ((0 : Int32) = 1) := by decide
        have d3 : ¬ ((2 : Int32) = 1) := by decide
        cases hm : f_X7_meet k 1 <;> simp [d1, d2, d3]
      · by_cases h3 : g = 2
        · subst h3
          have d1 : ¬ ((-1 : Int32) = 2) := by decide
          have d2 : ¬ ((0 : Int32) = 2) := by decide
          have d3 : ¬ ((1 : Int32) = 2) := by decide
          cases hm : f_X7_meet k 2 <;> simp [d1, d2, d3]
        · have hm : f_X7_meet k g = false := by
            unfold f_X7_meet f_X7_meet_19
            simp only [h0, h1, h2, h3, if_false, ite_self]
          have d0 : ¬ (-1 = g) := fun e => h0 e.symm
          have d1 : ¬ (0 = g) := fun e => h1 e.symm
          have d2 : ¬ (1 = g) := fun e => h2 e.symm
          have d3 : ¬ (2 = g) := fun e => h3 e.symm
          rw [hm]
          simp [d0, d1, d2, d3]
def ax (T : Ob) (D y s o j : Nat) : Bool := ag T D y s (nI j - nI 40) (nI j - nI 40) o
theorem ax_eq (T : Ob) (D y s o j : Nat) : ax T D y s o j = f_X7_meet (T.2 2 s) (din T D y (T.2 3 s) - T.2 0 o + (nI j - nI 40)) := by
  unfold ax ag
  rw [pl_same, add_sub_swap]
theorem cell_out {n : Nat} {f : Nat → Int32} {x : Int32} (h : x < 0 ∨ nI n ≤ x) : f_X7_cell n f x = some 0 := by
  unfold f_X7_cell
  by_cases h1 : x < 0
  · rw [if_pos h1]
  · rw [if_neg h1, if_pos (show Int32.ofNat n ≤ x from h.resolve_left h1)]
theorem setCell_out {n : Nat} {f : Nat → Int32} {x v : Int32} (h : x < 0 ∨ nI n ≤ x) : f_X7_setCell n f x v = some f := by
  unfold f_X7_setCell
  by_cases h1 : x < 0
  · rw [if_pos h1]
  · rw [if_neg h1, if_pos (show Int32.ofNat n ≤ x from h.resolve_left h1)]
theorem out_ne {n : Nat} (hn : n < 2 ^ 31) {x : Int32} (h : x < 0 ∨ nI n ≤ x) {j : Nat} (hj : j < n) : ¬ x = nI j := fun e => by
  rw [e] at h
  rcases h with h | h
  · exact nI_pos (by omega) h
  · exact nI_ge hj hn h
theorem mi_1 : ∀ i, i < 4 → ¬ (2 : Int32) < nI i - nI 1 ∧ nI i - nI 1 + 1 = nI (i + 1) - nI 1 := by decide +kernel
/-- one of the strip, one of a land: their pairs added to the row -/
theorem X7_fp66 (k G x46 : Int32) (kL : Int32 → Ob → Option Ob) (o : Ob) : ∃ o', f_X1_findPairs_66 k x46 kL G FU (-1 : Int32) o = kL (x46 + 1) o' ∧ o'.1 = o.1 ∧ ∀ j, j < 81 → o'.2 3 j = o.2 3 j + nI (if f_X7_meet k (G + (nI j - nI 40)) = true then 1 else 0) := by
  have hl := loopE (fun t i (o1 : Ob) => f_X1_findPairs_66 k x46 kL G t (nI i - nI 1) o1) 0 4 (by omega) (by omega) (fun i o1 => o1.1 = o.1 ∧ ∀ j, j < 81 → o1.2 3 j = o.2 3 j + nI (fb_ct (fun i => f_X7_meet k (nI i - nI 1) && decide (nI i - nI 1 = G + (nI j - nI 40))) i)) (fun o1 => kL (x46 + 1) o1) o ⟨rfl, fun j _ => (Int32.add_zero _).symm⟩
    (fun t o1 h => by
      show f_X1_findPairs_66 k x46 kL G (t + 1) (nI 4 - nI 1) o1 = _
      rw [f_X1_findPairs_66, if_pos (by decide), bnd_def])
    (fun t i o1 hi h => by
      obtain ⟨i1, i2⟩ := h
      obtain ⟨m1, m2⟩ := mi_1 i hi
      show ∃ s', f_X1_findPairs_66 k x46 kL G (t + 1) (nI i - nI 1) o1 = f_X1_findPairs_66 k x46 kL G t (nI (i + 1) - nI 1) s' ∧ _
      rw [f_X1_findPairs_66, if_neg m1]
      unfold f_X1_findPairs_112
      rw [bnd_def, m2]
      cases hm : f_X7_meet k (nI i - nI 1) with
      | false =>
        refine ⟨o1, ?_, i1, fun j hj => ?_⟩
        · rw [if_pos (show b2i false = 0 by decide), bnd_def]
        · rw [i2 j hj, fb_ct_succ, hm, Bool.false_and, if_neg (by decide), Nat.add_zero]
      | true =>
        rw [if_neg (show ¬ b2i true = 0 by decide), bnd_def]
        rcases pk_ix (nI i - nI 1 - G + 40) (n := 81) (by omega) with hx | hx | ⟨j0, hj0, hx⟩
        · refine ⟨stR o1 3 (o1.2 3), ?_, i1, fun j hj => ?_⟩
          · rw [cell_out (Or.inl hx), Option.bind_some, setCell_out (Or.inl hx), Option.bind_some, bnd_def]
          · have hne : ¬ nI i - nI 1 = G + (nI j - nI 40) := fun e => out_ne (n := 81) (by omega) (Or.inl hx) hj ((i_move _ _ _ _).mpr e)
            show o1.2 3 j = _
            rw [i2 j hj, fb_ct_succ, decide_eq_false hne, Bool.and_false, if_neg (by decide), Nat.add_zero]
        · refine ⟨stR o1 3 (o1.2 3), ?_, i1, fun j hj => ?_⟩
          · rw [cell_out (Or.inr hx), Option.bind_some, setCell_out (Or.inr hx), Option.bind_some, bnd_def]
          · have hne : ¬ nI i - nI 1 = G + (nI j - nI 40) := fun e => out_ne (n := 81) (by omega) (Or.inr hx) hj ((i_move _ _ _ _).mpr e)
            show o1.2 3 j = _
            rw [i2 j hj, fb_ct_succ, decide_eq_false hne, Bool.and_false, if_neg (by decide), Nat.add_zero]
        · refine ⟨stR o1 3 (upd (o1.2 3) j0 (o1.2 3 j0 + 1)), ?_, i1, fun j hj => ?_⟩
          · rw [hx, f_X7_cell_at (by decide) _ hj0, Option.bind_some, f_X7_setCell_at (by decide) _ hj0, Option.bind_some, bnd_def]
          · show upd (o1.2 3) j0 (o1.2 3 j0 + 1) j = _
            rw [fb_ct_succ, hm, Bool.true_and]
            by_cases hjj : j = j0
            · subst hjj
              rw [pk_us, i2 j hj, if_pos (decide_eq_true ((i_move (nI i - nI 1) G (nI 40) (nI j)).mp hx)), ← nI_add, ← Int32.add_assoc]
              rfl
            · have hne : ¬ nI i - nI 1 = G + (nI j - nI 40) := fun e => by
                have h1 := (i_move _ _ _ _).mpr e
                have h2 : nI i - nI 1 - G + 40 = nI j := h1
                rw [hx] at h2
                exact hjj ((nI_eq (by omega) (by omega)).mp h2).symm
              rw [pk_un hjj, i2 j hj, decide_eq_false hne, if_neg (by decide), Nat.add_zero])
  obtain ⟨o', h1, h2, h3⟩ := hl
  refine ⟨o', h1, h2, fun j hj => ?_⟩
  rw [h3 j hj, met4]
/-- how many pairs at the shift (and 40) j -/
def pn (T : Ob) (S D y j : Nat) : Nat := fb_sm (fun s => fb_ct (fun o => ax T D y s o j) 12) S
theorem X7_findPairs {T By : Ob} {S U L N D y : Nat} (hT : TK T S U L N D) (hy : y < 2 ^ 31) : ∃ r, f_X1_findPairs By T (nI y) = some r ∧ ∀ j, j < 81 → r.2 3 j = nI (pn T S D y j) := by
  have lS := hT.2.2.2.2.2.1
  have hTS := hT.1
  have h25 : ∀ o : Ob, (∀ j, j < 81 → o.2 3 j = nI 0) → ∃ r, f_X1_findPairs_25 T (nI y) FU (0 : Int32) o = some r ∧ ∀ j, j < 81 → r.2 3 j = nI (pn T S D y j) := by
    intro o ho
    refine loopE (fun t i (o1 : Ob) => f_X1_findPairs_25 T (nI y) t (nI i) o1) 0 S (by omega) (by omega) (fun i o1 => ∀ j, j < 81 → o1.2 3 j = nI (fb_sm (fun s => fb_ct (fun o => ax T D y s o j) 12) i)) (fun o1 => some o1) o ho
      (fun t o1 h => by
        show f_X1_findPairs_25 T (nI y) (t + 1) (nI S) o1 = _
        rw [f_X1_findPairs_25, hTS, if_pos (nI_le (Nat.le_refl _) (by omega))])
      (fun t s o1 hs h => ?_)
    have hin := loopE (fun t' i (o2 : Ob) => f_X1_findPairs_46 T (nI y) (nI s) (f_X1_findPairs_25 T (nI y) t) (T.2 2 s) t' (nI i) o2) 0 12 (by omega) (by omega) (fun i o2 => ∀ j, j < 81 → o2.2 3 j = nI (fb_sm (fun s => fb_ct (fun o => ax T D y s o j) 12) s + fb_ct (fun o => ax T D y s o j) i)) (fun o2 => f_X1_findPairs_25 T (nI y) t (nI (s + 1)) o2) o1 h
      (fun t' o2 h2 => by
        show f_X1_findPairs_46 T (nI y) (nI s) _ (T.2 2 s) (t' + 1) (nI 12) o2 = _
        rw [f_X1_findPairs_46, if_pos (by decide), bnd_def, nI_1])
      (fun t' i o2 hi h2 => by
        obtain ⟨o3, c1, c2, c3⟩ := X7_fp66 (T.2 2 s) (din T D y (T.2 3 s) - T.2 0 i) (nI i) (f_X1_findPairs_46 T (nI y) (nI s) (f_X1_findPairs_25 T (nI y) t) (T.2 2 s) t') o2
        refine ⟨o3, ?_, fun j hj => ?_⟩
        · show f_X1_findPairs_46 T (nI y) (nI s) _ (T.2 2 s) (t' + 1) (nI i) o2 = f_X1_findPairs_46 T (nI y) (nI s) _ (T.2 2 s) t' (nI (i + 1)) o3
          have hn : ¬ (12 : Int32) ≤ nI i := nI_ge (b := 12) hi (by omega)
          rw [f_X1_findPairs_46, if_neg hn, X6_gap hT hy (by omega) hi, Option.bind_some, c1, nI_1]
        · rw [c3 j hj, h2 j hj, nI_add, fb_ct_succ, ax_eq, Nat.add_assoc])
    obtain ⟨o2, c1, c2⟩ := hin
    refine ⟨o2, ?_, c2⟩
    show f_X1_findPairs_25 T (nI y) (t + 1) (nI s) o1 = _
    rw [f_X1_findPairs_25, hTS, if_neg (nI_ge hs (by omega)), f_X7_cell_at (by decide) _ (by omega), Option.bind_some]
    exact c1
  have hl := loopE (fun t i (o1 : Ob) => f_X1_findPairs_2 T (nI y) t (nI i) o1) 0 81 (by omega) (by omega) (fun i o1 => ∀ j, j < i → o1.2 3 j = nI 0) (fun o1 => f_X1_findPairs_25 T (nI y) FU (0 : Int32) o1) By (fun j hj => absurd hj (by omega))
    (fun t o1 h => by
      show f_X1_findPairs_2 T (nI y) (t + 1) (nI 81) o1 = _
      rw [f_X1_findPairs_2, if_pos (by decide)])
    (fun t i o1 hi h => by
      refine ⟨stR o1 3 (upd (o1.2 3) i 0), ?_, fun j hj => ?_⟩
      · show f_X1_findPairs_2 T (nI y) (t + 1) (nI i) o1 = f_X1_findPairs_2 T (nI y) t (nI (i + 1)) _
        have hn : ¬ (81 : Int32) ≤ nI i := nI_ge (b := 81) hi (by omega)
        rw [f_X1_findPairs_2, if_neg hn, f_X7_setCell_at (by decide) _ hi, Option.bind_some, bnd_def, nI_1]
      · show upd (o1.2 3) i 0 j = nI 0
        by_cases hj2 : j = i
        · subst hj2; rw [pk_us]; rfl
        · rw [pk_un hj2]; exact h j (by omega))
  obtain ⟨o1, c1, c2⟩ := hl
  obtain ⟨r, d1, d2⟩ := h25 o1 c2
  exact ⟨r, by rw [f_X1_findPairs]; exact c1.trans d1, d2⟩
theorem nbits_ct (P : Nat → Bool) : f_J6_bitCount_0f7a4 (nI (nbits P 12)) = nI (fb_ct P 12) := by
  have h := nbits_lt P 12
  rw [bitCount_at (by omega), ct_zero_from h (by omega)]
  congr 1
  exact fb_ct_cong (fun k hk => by rw [nbits_bit]; simp [hk])
theorem s_pairs_at (T : Ob) (S D y j : Nat) : s_pairs T S D y (nI j - nI 40) (nI j - nI 40) = nI (pn T S D y j) := by
  have h : ∀ n, up (fun s x => x + f_J6_bitCount_0f7a4 (nI (ab T D y s (nI j - nI 40) (nI j - nI 40)))) 0 n (nI 0) = nI (fb_sm (fun s => fb_ct (fun o => ax T D y s o j) 12) n) := by
    intro n
    induction n with
    | zero => rfl
    | succ n ih =>
      rw [up_succ, Nat.zero_add, ih, fb_sm_succ, ← nI_add]
      unfold ab
      rw [nbits_ct]
      rfl
  exact h S
theorem pn_le (T : Ob) {S : Nat} (D y j : Nat) (hS : S ≤ 7) : pn T S D y j ≤ 84 := by
  have h := fb_sm_le (f := fun s => fb_ct (fun o => ax T D y s o j) 12) (c := 12) (n := S) (fun k _ => fb_ct_le _ 12)
  have : S * 12 ≤ 7 * 12 := Nat.mul_le_mul_right 12 hS
  unfold pn
  omega
/-- the first of the most -/
def bm (v : Nat → Nat) (i b : Nat) : Nat := if v i ≤ v b then b else i
theorem bm_le (v : Nat → Nat) : ∀ m, up (bm v) 1 m 0 ≤ m
  | 0 => Nat.le_refl _
  | m + 1 => by
    have h := bm_le v m
    rw [up_succ]
    unfold bm at *
    split <;> omega
theorem mo_1 : ∀ i, i < 81 → ¬ (40 : Int32) < nI i - nI 40 ∧ nI i - nI 40 + 1 = nI (i + 1) - nI 40 ∧ nI i - nI 40 + 40 = nI i := by decide +kernel
theorem P_most {Te To No As M : Ob} {Pa Ke : PS} (h : REL Te To No Pa Ke As M) (o7 By : Ob) (v1 : Int32) : ∃ r7 r8, f_X7_most o7 To No By v1 = some r7 ∧ f_X8_most M v1 = some r8 ∧ r7.1 = r8 := by
  obtain ⟨n, S, U, L, N, D, y, a, k, q, hTe, hC, hA⟩ := h
  obtain ⟨M0, f, rfl⟩ : ∃ M0 f, M = stR M0 18 f := ⟨M, M.2 18, (stR_self M 18).symm⟩
  obtain ⟨hT, hS1, hN1, hM, hR, hPK, hy, ha, hPa, hk, hKe⟩ := hC.out
  have h3 : f 3 = nI y := hR.2.2.2.1.trans hPK.1
  have lS := hT.2.2.2.2.2.1
  unfold f_X7_most f_X8_most
  rcases wi_or v1 (a := 0) (b := 1) (by omega) (by omega) with hw | ⟨u, -, hu, rfl⟩
  · refine ⟨(-1, By), -1, ?_, ?_, rfl⟩
    · simp (disch := omega) only [↓pk_rem, nl_0, nl_1, nl_2, nl_3, nl_4, nl_6, nl_7, nl_8, nl_9, nl_10, nl_11, nl_12, nl_20, nl_23, nl_24, nl_26, nl_32, nl_39, nl_40, nl_44, nl_48, nl_57, nl_59, nl_60, nl_61, nl_64, nl_81, nl_82, nl_99, nl_100, nl_126, nl_200, nl_208, nl_286, nl_287, nl_290, nl_312, nl_999, nl_6561, nl_9999, nI_add, pk_mul, pk_div, pk_sub, ev_leT, ev_leF, ev_ltT, ev_ltF, ev_eqT, ev_eqF, nI_clamp, nle_T, nle_F, nlt_F, or_false, false_or, or_self, if_true, if_false, bnd_def, Option.bind_some, st1s, st1n, st2, st3, st4s, st4n, eq_self, tf_1, tf_2, b2iT, b2iF, b2iE, ob_1, ob_2, f_X7_cell_at, f_X7_setCell_at, in_0, wi_at, in_0_1, in_0_2, in_0_4, in_0_8, in_0_9, in_0_10, in_0_40, in_0_99, in_1_20, in_1_60, in_0_9999, in_m99_99, in_32_126, in_48_57, hw]
    · simp (disch := omega) only [↓pk_rem, nl_0, nl_1, nl_2, nl_3, nl_4, nl_6, nl_7, nl_8, nl_9, nl_10, nl_11, nl_12, nl_20, nl_23, nl_24, nl_26, nl_32, nl_39, nl_40, nl_44, nl_48, nl_57, nl_59, nl_60, nl_61, nl_64, nl_81, nl_82, nl_99, nl_100, nl_126, nl_200, nl_208, nl_286, nl_287, nl_290, nl_312, nl_999, nl_6561, nl_9999, nI_add, pk_mul, pk_div, pk_sub, ev_leT, ev_leF, ev_ltT, ev_ltF, ev_eqT, ev_eqF, nI_clamp, nle_T, nle_F, nlt_F, or_false, false_or, or_self, if_true, if_false, bnd_def, Option.bind_some, st1s, st1n, st2, st3, st4s, st4n, eq_self, tf_1, tf_2, b2iT, b2iF, b2iE, ob_1, ob_2, f_X7_cell_at, f_X7_setCell_at, in_0, wi_at, in_0_1, in_0_2, in_0_4, in_0_8, in_0_9, in_0_10, in_0_40, in_0_99, in_1_20, in_1_60, in_0_9999, in_m99_99, in_32_126, in_48_57, hw]
  · obtain ⟨r, r1, r2⟩ := X7_findPairs (By := By) hT (show y < 2 ^ 31 by omega)
    have r1' : f_X1_findPairs By To (No.1 3) = some r := by rw [hPK.1]; exact r1
    have hb := bm_le (pn To S D y) 80
    have hpl := fun j => pn_le To (S := S) D y j lS
    have h7 : f_X1_lowestOfMostPairs r = some (nI (up (bm (pn To S D y)) 1 80 0)) := by
      have hl := loopE (fun t i (b : Nat) => f_X1_lowestOfMostPairs_4 r t (nI b) (nI i)) 1 81 (by omega) (by omega) (fun i b => 1 ≤ i ∧ b = up (bm (pn To S D y)) 1 (i - 1) 0) (fun b => some (nI b)) 0 ⟨by omega, rfl⟩
        (fun t b h => by
          show f_X1_lowestOfMostPairs_4 r (t + 1) (nI b) (nI 81) = _
          rw [f_X1_lowestOfMostPairs_4, if_pos (by decide)])
        (fun t i b hi h => by
          obtain ⟨i1, i2⟩ := h
          have hbl := bm_le (pn To S D y) (i - 1)
          rw [← i2] at hbl
          refine ⟨bm (pn To S D y) i b, ?_, by omega, ?_⟩
          · show f_X1_lowestOfMostPairs_4 r (t + 1) (nI b) (nI i) = f_X1_lowestOfMostPairs_4 r t (nI (bm (pn To S D y) i b)) (nI (i + 1))
            have hn : ¬ (81 : Int32) ≤ nI i := nI_ge (b := 81) hi (by omega)
            have p1 := hpl i
            have p2 := hpl b
            unfold bm
            rw [f_X1_lowestOfMostPairs_4, if_neg hn, f_X7_cell_at (by decide) _ hi, Option.bind_some, f_X7_cell_at (by decide) _ (by omega), Option.bind_some, r2 i hi, r2 b (by omega)]
            unfold f_X1_lowestOfMostPairs_31
            by_cases hc : pn To S D y i ≤ pn To S D y b
            · rw [if_pos (nI_le hc (by omega)), if_pos hc, bnd_def, nI_1]
            · rw [if_neg (nI_ge (by omega) (by omega)), if_neg hc, bnd_def, nI_1]
          · rw [show i + 1 - 1 = (i - 1) + 1 by omega, up_succ, ← i2, show 1 + (i - 1) = i by omega])
      obtain ⟨b, l1, l2, l3⟩ := hl
      rw [l3] at l1
      exact l1
    have hpr : ∀ i, i < 81 → f_X8_pairs (stR M0 18 f) (nI i - nI 40) (nI i - nI 40) = some (nI (pn To S D y i)) := by
      intro i hi
      rw [X8_pairs hT hM (show y < 2 ^ 31 by omega) h3 ⟨i, by omega, rfl⟩ ⟨i, by omega, rfl⟩, s_pairs_at]
    have h8 : f_X8_most_18 (stR M0 18 f) (nI u) FU (-40 : Int32) (-39 : Int32) = some (if u = 0 then nI (pn To S D y (up (bm (pn To S D y)) 1 80 0)) else nI (up (bm (pn To S D y)) 1 80 0)) := by
      have hl := loopE (fun t i (b : Nat) => f_X8_most_18 (stR M0 18 f) (nI u) t (nI b - nI 40) (nI i - nI 40)) 1 81 (by omega) (by omega) (fun i b => 1 ≤ i ∧ b = up (bm (pn To S D y)) 1 (i - 1) 0) (fun b => f_X8_most_18 (stR M0 18 f) (nI u) 1 (nI b - nI 40) (nI 81 - nI 40)) 0 ⟨by omega, rfl⟩
        (fun t b h => by
          show f_X8_most_18 (stR M0 18 f) (nI u) (t + 1) (nI b - nI 40) (nI 81 - nI 40) = f_X8_most_18 (stR M0 18 f) (nI u) (0 + 1) (nI b - nI 40) (nI 81 - nI 40)
          rw [f_X8_most_18, f_X8_most_18, if_pos (show (40 : Int32) < nI 81 - nI 40 by decide), if_pos (show (40 : Int32) < nI 81 - nI 40 by decide)])
        (fun t i b hi h => by
          obtain ⟨i1, i2⟩ := h
          have hbl := bm_le (pn To S D y) (i - 1)
          rw [← i2] at hbl
          obtain ⟨m1, m2, m3⟩ := mo_1 i hi
          refine ⟨bm (pn To S D y) i b, ?_, by omega, ?_⟩
          · show f_X8_most_18 (stR M0 18 f) (nI u) (t + 1) (nI b - nI 40) (nI i - nI 40) = f_X8_most_18 (stR M0 18 f) (nI u) t (nI (bm (pn To S D y) i b) - nI 40) (nI (i + 1) - nI 40)
            have p1 := hpl i
            have p2 := hpl b
            rw [f_X8_most_18, if_neg m1, hpr i hi, Option.bind_some, hpr b (by omega), Option.bind_some]
            unfold bm f_X8_most_44
            by_cases hc : pn To S D y i ≤ pn To S D y b
            · rw [if_pos (nI_le hc (by omega)), if_pos hc, bnd_def, m2]
            · rw [if_neg (nI_ge (by omega) (by omega)), if_neg hc, bnd_def, m2]
          · rw [show i + 1 - 1 = (i - 1) + 1 by omega, up_succ, ← i2, show 1 + (i - 1) = i by omega])
      obtain ⟨b, l1, l2, l3⟩ := hl
      have hb2 : b ≤ 80 := by rw [l3]; exact hb
      have l3' : up (bm (pn To S D y)) 1 80 0 = b := l3.symm
      rw [l3']
      have hfin : f_X8_most_18 (stR M0 18 f) (nI u) 1 (nI b - nI 40) (nI 81 - nI 40) = some (if u = 0 then nI (pn To S D y b) else nI b) := by
        rw [f_X8_most_18, if_pos (show (40 : Int32) < nI 81 - nI 40 by decide)]
        rcases (show u = 0 ∨ u = 1 by omega) with rfl | rfl
        · rw [if_pos (show nI 0 = 0 from rfl), hpr b (by omega), if_pos rfl]; rfl
        · rw [if_neg (show ¬ nI 1 = 0 by decide), (mo_1 b (by omega)).2.2, if_neg (by omega)]
      exact l1.trans hfin
    rcases (show u = 0 ∨ u = 1 by omega) with rfl | rfl
    · refine ⟨(nI (pn To S D y (up (bm (pn To S D y)) 1 80 0)), r), nI (pn To S D y (up (bm (pn To S D y)) 1 80 0)), ?_, ?_, rfl⟩
      · simp (disch := omega) only [↓pk_rem, nl_0, nl_1, nl_2, nl_3, nl_4, nl_6, nl_7, nl_8, nl_9, nl_10, nl_11, nl_12, nl_20, nl_23, nl_24, nl_26, nl_32, nl_39, nl_40, nl_44, nl_48, nl_57, nl_59, nl_60, nl_61, nl_64, nl_81, nl_82, nl_99, nl_100, nl_126, nl_200, nl_208, nl_286, nl_287, nl_290, nl_312, nl_999, nl_6561, nl_9999, nI_add, pk_mul, pk_div, pk_sub, ev_leT, ev_leF, ev_ltT, ev_ltF, ev_eqT, ev_eqF, nI_clamp, nle_T, nle_F, nlt_F, or_false, false_or, or_self, if_true, if_false, bnd_def, Option.bind_some, st1s, st1n, st2, st3, st4s, st4n, eq_self, tf_1, tf_2, b2iT, b2iF, b2iE, ob_1, ob_2, f_X7_cell_at, f_X7_setCell_at, in_0, wi_at, in_0_1, in_0_2, in_0_4, in_0_8, in_0_9, in_0_10, in_0_40, in_0_99, in_1_20, in_1_60, in_0_9999, in_m99_99, in_32_126, in_48_57, r1', h7, r2]
      · simp (disch := omega) only [↓pk_rem, nl_0, nl_1, nl_2, nl_3, nl_4, nl_6, nl_7, nl_8, nl_9, nl_10, nl_11, nl_12, nl_20, nl_23, nl_24, nl_26, nl_32, nl_39, nl_40, nl_44, nl_48, nl_57, nl_59, nl_60, nl_61, nl_64, nl_81, nl_82, nl_99, nl_100, nl_126, nl_200, nl_208, nl_286, nl_287, nl_290, nl_312, nl_999, nl_6561, nl_9999, nI_add, pk_mul, pk_div, pk_sub, ev_leT, ev_leF, ev_ltT, ev_ltF, ev_eqT, ev_eqF, nI_clamp, nle_T, nle_F, nlt_F, or_false, false_or, or_self, if_true, if_false, bnd_def, Option.bind_some, st1s, st1n, st2, st3, st4s, st4n, eq_self, tf_1, tf_2, b2iT, b2iF, b2iE, ob_1, ob_2, f_X7_cell_at, f_X7_setCell_at, in_0, wi_at, in_0_1, in_0_2, in_0_4, in_0_8, in_0_9, in_0_10, in_0_40, in_0_99, in_1_20, in_1_60, in_0_9999, in_m99_99, in_32_126, in_48_57]
        exact h8
    · refine ⟨(nI (up (bm (pn To S D y)) 1 80 0), r), nI (up (bm (pn To S D y)) 1 80 0), ?_, ?_, rfl⟩
      · simp (disch := omega) only [↓pk_rem, nl_0, nl_1, nl_2, nl_3, nl_4, nl_6, nl_7, nl_8, nl_9, nl_10, nl_11, nl_12, nl_20, nl_23, nl_24, nl_26, nl_32, nl_39, nl_40, nl_44, nl_48, nl_57, nl_59, nl_60, nl_61, nl_64, nl_81, nl_82, nl_99, nl_100, nl_126, nl_200, nl_208, nl_286, nl_287, nl_290, nl_312, nl_999, nl_6561, nl_9999, nI_add, pk_mul, pk_div, pk_sub, ev_leT, ev_leF, ev_ltT, ev_ltF, ev_eqT, ev_eqF, nI_clamp, nle_T, nle_F, nlt_F, or_false, false_or, or_self, if_true, if_false, bnd_def, Option.bind_some, st1s, st1n, st2, st3, st4s, st4n, eq_self, tf_1, tf_2, b2iT, b2iF, b2iE, ob_1, ob_2, f_X7_cell_at, f_X7_setCell_at, in_0, wi_at, in_0_1, in_0_2, in_0_4, in_0_8, in_0_9, in_0_10, in_0_40, in_0_99, in_1_20, in_1_60, in_0_9999, in_m99_99, in_32_126, in_48_57, r1', h7]
      · simp (disch := omega) only [↓pk_rem, nl_0, nl_1, nl_2, nl_3, nl_4, nl_6, nl_7, nl_8, nl_9, nl_10, nl_11, nl_12, nl_20, nl_23, nl_24, nl_26, nl_32, nl_39, nl_40, nl_44, nl_48, nl_57, nl_59, nl_60, nl_61, nl_64, nl_81, nl_82, nl_99, nl_100, nl_126, nl_200, nl_208, nl_286, nl_287, nl_290, nl_312, nl_999, nl_6561, nl_9999, nI_add, pk_mul, pk_div, pk_sub, ev_leT, ev_leF, ev_ltT, ev_ltF, ev_eqT, ev_eqF, nI_clamp, nle_T, nle_F, nlt_F, or_false, false_or, or_self, if_true, if_false, bnd_def, Option.bind_some, st1s, st1n, st2, st3, st4s, st4n, eq_self, tf_1, tf_2, b2iT, b2iF, b2iE, ob_1, ob_2, f_X7_cell_at, f_X7_setCell_at, in_0, wi_at, in_0_1, in_0_2, in_0_4, in_0_8, in_0_9, in_0_10, in_0_40, in_0_99, in_1_20, in_1_60, in_0_9999, in_m99_99, in_32_126, in_48_57]
        exact h8
