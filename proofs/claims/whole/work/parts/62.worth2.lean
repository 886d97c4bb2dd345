theorem X8_gb27 {M T w : Ob} {g : Nat → Int32} {S U L N D y n : Nat} (hT : TK T S U L N D) (hM : MK M T S U L N D) (hyn : y + n < 100000) (hP : PK w y) (hR : RS S w g 286) : ∃ g', f_X8_goodsBy_27 (nI n) FU 0 (stR M 18 g) = some (s_goods (s_years T S D y n w) S, stR M 18 g') ∧ FR g g' 286 := by
  have hl := loopE (fun t i g2 => f_X8_goodsBy_27 (nI n) t (nI i) (stR M 18 g2)) 0 n (by omega) (by omega) (fun i g2 => RS S (s_years T S D y i w) g2 286 ∧ FR g g2 286) (fun g2 => (f_X8_goods (stR M 18 g2) (nI 286)).bind fun q3 => some (q3, stR M 18 g2)) g ⟨hR, FR.refl _ _⟩
    (fun t g2 hg => by
      show f_X8_goodsBy_27 (nI n) (t + 1) (nI n) (stR M 18 g2) = (f_X8_goods (stR M 18 g2) 286).bind fun q3 => some (q3, stR M 18 g2)
      rw [f_X8_goodsBy_27, if_pos (nI_le (Nat.le_refl _) (by omega))])
    (fun t i g2 hi hg => by
      obtain ⟨g3, c3, c4, c5⟩ := X8_trades (M := M) (f := g2) (b := 286) (by omega) hT hM (y := y + i) (by omega) (s_years_PK hP i) hg.1
      refine ⟨g3, ?_, ?_, hg.2.trans c5⟩
      · show f_X8_goodsBy_27 (nI n) (t + 1) (nI i) (stR M 18 g2) = f_X8_goodsBy_27 (nI n) t (nI (i + 1)) _
        have c3' : f_X8_trades (stR M 18 g2) 286 = some (stR M 18 g3) := c3
        rw [f_X8_goodsBy_27, if_neg (nI_ge hi (by omega)), c3', Option.bind_some, bnd_def, nI_1]
      · unfold s_years
        rw [up_succ, Nat.zero_add]
        exact c4)
  obtain ⟨g2, l1, l2, l3⟩ := hl
  refine ⟨g2, ?_, l3⟩
  rw [X8_goods (by omega) hT hM l2, Option.bind_some] at l1
  exact l1
/-- found: 0 none, j + 1 the push j -/
def pI : Nat → Int32
  | 0 => -nI 1
  | j + 1 => nI j
def gvP (T : Ob) (S D y n : Nat) (P : Ob) : Nat → Ob
  | 0 => s_years T S D y n P
  | j + 1 => s_years T S D y n (s_shove T (j / 2) (j % 2) P)
theorem X8_goodsBy {M T No w : Ob} {f : Nat → Int32} {S U L N D y n c : Nat} (hT : TK T S U L N D) (hM : MK M T S U L N D) (hyn : y + n < 100000) (hP : PK No y) (hR : RS S No f 0) (hw : EQS w No) (hc : c ≤ 2 * N) : ∃ g, f_X8_goodsBy (stR M 18 f) (pI c) (nI n) = some (s_goods (gvP T S D y n w c) S, stR M 18 g) ∧ FR f g 286 := by
  have lS := hT.2.2.2.2.2.1
  have lN := hT.2.2.2.2.2.2.1
  obtain ⟨g, c1, c2, c3⟩ := X8_copies M f (a := 0) (b := 286) (by omega) (by omega) (by omega)
  have hR1 : RS S w g 286 := (hR.eqs lS hw).cong lS (fun j hj => c2 j hj)
  have c1' : f_X8_copies (stR M 18 f) (0 : Int32) (286 : Int32) = some (stR M 18 g) := c1
  unfold f_X8_goodsBy f_X8_goodsBy_25
  cases c with
  | zero =>
    obtain ⟨g2, d1, d2⟩ := X8_gb27 hT hM hyn (hP.eqs hw) hR1
    refine ⟨g2, ?_, c3.trans d2⟩
    rw [c1', Option.bind_some, if_pos (show pI 0 < 0 by decide)]
    exact d1
  | succ j =>
    have hj : j / 2 < N := by omega
    obtain ⟨g1, b1, b2, b3⟩ := X8_gives (M := M) (f := g) (b := 286) (p := j / 2) (w := j % 2) (by omega) hT hM (hP.eqs hw) hR1 hj (by omega)
    obtain ⟨g2, d1, d2⟩ := X8_gb27 hT hM hyn (s_shove_PK hT (hP.eqs hw) hj (show j % 2 < 2 by omega)) b2
    refine ⟨g2, ?_, (c3.trans b3).trans d2⟩
    rw [c1', Option.bind_some, if_neg (show ¬ pI (j + 1) < 0 from nI_pos (by omega))]
    have e1 : nI j / (2 : Int32) = nI (j / 2) := pk_div (d := 2) (by omega) (by omega) (by omega)
    have e2 : nI j - nI j / (2 : Int32) * (2 : Int32) = nI (j % 2) := pk_rem (d := 2) (by omega) (by omega) (by omega)
    show (f_X8_gives (stR M 18 g) (286 : Int32) (nI j / (2 : Int32)) (nI j - nI j / (2 : Int32) * (2 : Int32))).bind _ = _
    rw [e2, e1]
    have b1' : f_X8_gives (stR M 18 g) (286 : Int32) (nI (j / 2)) (nI (j % 2)) = some (stR M 18 g1) := b1
    rw [b1', Option.bind_some]
    exact d1
/-- .. and it is the same for each Stand that is as it stands now -/
theorem gv_eq {M T No w : Ob} {f : Nat → Int32} {S U L N D y n c : Nat} (hT : TK T S U L N D) (hM : MK M T S U L N D) (hyn : y + n < 100000) (hP : PK No y) (hR : RS S No f 0) (hw : EQS w No) (hc : c ≤ 2 * N) : s_goods (gvP T S D y n w c) S = s_goods (gvP T S D y n No c) S := by
  obtain ⟨g, a1, -⟩ := X8_goodsBy (M := M) hT hM hyn hP hR hw hc
  obtain ⟨g', b1, -⟩ := X8_goodsBy (M := M) hT hM hyn hP hR (EQS.refl No) hc
  rw [a1] at b1
  exact congrArg Prod.fst (Option.some.inj b1)
def bst (v : Nat → Int32) (j c : Nat) : Nat := if v (j + 1) ≤ v c then c else j + 1
theorem bst_le (v : Nat → Int32) : ∀ (m : Nat), up (bst v) 0 m 0 ≤ m
  | 0 => Nat.le_refl _
  | m + 1 => by
    have h := bst_le v m
    rw [up_succ, Nat.zero_add]
    unfold bst at *
    split <;> omega
def whI : Nat → Int32
  | 0 => nI 99
  | j + 1 => nI (10 * (j / 2) + j % 2)
theorem up_two {σ : Type} (s : Nat → σ → σ) (m : Nat) (x : σ) : up s 0 (2 * (m + 1)) x = s (2 * m + 1) (s (2 * m) (up s 0 (2 * m) x)) := by
  rw [show 2 * (m + 1) = (2 * m + 1) + 1 by omega, up_succ, up_succ, Nat.zero_add, Nat.zero_add]
theorem P_worth {Te To No As M : Ob} {Pa Ke : PS} (h : REL Te To No Pa Ke As M) (o7 Tr : Ob) (v1 v2 : Int32) : ∃ r7 r8, f_X7_worth o7 To No Tr v1 v2 = some r7 ∧ f_X8_worth M v1 v2 = some r8 ∧ r7.1 = r8.1 ∧ REL Te To No Pa Ke As r8.2 := by
  have h0 := h
  obtain ⟨n, S, U, L, N, D, y, a, k, q, hTe, hC, hA⟩ := h
  obtain ⟨M0, f, rfl⟩ : ∃ M0 f, M = stR M0 18 f := ⟨M, M.2 18, (stR_self M 18).symm⟩
  obtain ⟨hT, hS1, hN1, hM, hR, hPK, hy, ha, hPa, hk, hKe⟩ := hC.out
  have lS := hT.2.2.2.2.2.1
  have lN := hT.2.2.2.2.2.2.1
  have hTN := hT.2.1
  have m5 := hM.2.1
  unfold f_X7_worth f_X8_worth
  rcases wi_or v1 (a := 1) (b := 20) (by omega) (by omega) with hw | ⟨c, hc1, hc, rfl⟩
  · refine ⟨(-1, Tr), (-1, stR M0 18 f), ?_, ?_, rfl, h0⟩
    · simp (disch := omega) only [↓pk_rem, nl_0, nl_1, nl_2, nl_3, nl_4, nl_6, nl_7, nl_8, nl_9, nl_10, nl_11, nl_12, nl_20, nl_23, nl_24, nl_26, nl_32, nl_39, nl_40, nl_44, nl_48, nl_57, nl_59, nl_60, nl_61, nl_64, nl_81, nl_82, nl_99, nl_100, nl_126, nl_200, nl_208, nl_286, nl_287, nl_290, nl_312, nl_999, nl_6561, nl_9999, nI_add, pk_mul, pk_div, pk_sub, ev_leT, ev_leF, ev_ltT, ev_ltF, ev_eqT, ev_eqF, nI_clamp, nle_T, nle_F, nlt_F, or_false, false_or, or_self, if_true, if_false, bnd_def, Option.bind_some, st1s, st1n, st2, st3, st4s, st4n, eq_self, tf_1, tf_2, b2iT, b2iF, b2iE, ob_1, ob_2, f_X7_cell_at, f_X7_setCell_at, in_0, wi_at, in_0_1, in_0_2, in_0_4, in_0_8, in_0_9, in_0_10, in_0_40, in_0_99, in_1_20, in_1_60, in_0_9999, in_m99_99, in_32_126, in_48_57, hw]
    · simp (disch := omega) only [↓pk_rem, nl_0, nl_1, nl_2, nl_3, nl_4, nl_6, nl_7, nl_8, nl_9, nl_10, nl_11, nl_12, nl_20, nl_23, nl_24, nl_26, nl_32, nl_39, nl_40, nl_44, nl_48, nl_57, nl_59, nl_60, nl_61, nl_64, nl_81, nl_82, nl_99, nl_100, nl_126, nl_200, nl_208, nl_286, nl_287, nl_290, nl_312, nl_999, nl_6561, nl_9999, nI_add, pk_mul, pk_div, pk_sub, ev_leT, ev_leF, ev_ltT, ev_ltF, ev_eqT, ev_eqF, nI_clamp, nle_T, nle_F, nlt_F, or_false, false_or, or_self, if_true, if_false, bnd_def, Option.bind_some, st1s, st1n, st2, st3, st4s, st4n, eq_self, tf_1, tf_2, b2iT, b2iF, b2iE, ob_1, ob_2, f_X7_cell_at, f_X7_setCell_at, in_0, wi_at, in_0_1, in_0_2, in_0_4, in_0_8, in_0_9, in_0_10, in_0_40, in_0_99, in_1_20, in_1_60, in_0_9999, in_m99_99, in_32_126, in_48_57, hw]
  rcases wi_or v2 (a := 0) (b := 1) (by omega) (by omega) with hw | ⟨u, -, hu, rfl⟩
  · refine ⟨(-1, Tr), (-1, stR M0 18 f), ?_, ?_, rfl, h0⟩
    · simp (disch := omega) only [↓pk_rem, nl_0, nl_1, nl_2, nl_3, nl_4, nl_6, nl_7, nl_8, nl_9, nl_10, nl_11, nl_12, nl_20, nl_23, nl_24, nl_26, nl_32, nl_39, nl_40, nl_44, nl_48, nl_57, nl_59, nl_60, nl_61, nl_64, nl_81, nl_82, nl_99, nl_100, nl_126, nl_200, nl_208, nl_286, nl_287, nl_290, nl_312, nl_999, nl_6561, nl_9999, nI_add, pk_mul, pk_div, pk_sub, ev_leT, ev_leF, ev_ltT, ev_ltF, ev_eqT, ev_eqF, nI_clamp, nle_T, nle_F, nlt_F, or_false, false_or, or_self, if_true, if_false, bnd_def, Option.bind_some, st1s, st1n, st2, st3, st4s, st4n, eq_self, tf_1, tf_2, b2iT, b2iF, b2iE, ob_1, ob_2, f_X7_cell_at, f_X7_setCell_at, in_0, wi_at, in_0_1, in_0_2, in_0_4, in_0_8, in_0_9, in_0_10, in_0_40, in_0_99, in_1_20, in_1_60, in_0_9999, in_m99_99, in_32_126, in_48_57, hw]
    · simp (disch := omega) only [↓pk_rem, nl_0, nl_1, nl_2, nl_3, nl_4, nl_6, nl_7, nl_8, nl_9, nl_10, nl_11, nl_12, nl_20, nl_23, nl_24, nl_26, nl_32, nl_39, nl_40, nl_44, nl_48, nl_57, nl_59, nl_60, nl_61, nl_64, nl_81, nl_82, nl_99, nl_100, nl_126, nl_200, nl_208, nl_286, nl_287, nl_290, nl_312, nl_999, nl_6561, nl_9999, nI_add, pk_mul, pk_div, pk_sub, ev_leT, ev_leF, ev_ltT, ev_ltF, ev_eqT, ev_eqF, nI_clamp, nle_T, nle_F, nlt_F, or_false, false_or, or_self, if_true, if_false, bnd_def, Option.bind_some, st1s, st1n, st2, st3, st4s, st4n, eq_self, tf_1, tf_2, b2iT, b2iF, b2iE, ob_1, ob_2, f_X7_cell_at, f_X7_setCell_at, in_0, wi_at, in_0_1, in_0_2, in_0_4, in_0_8, in_0_9, in_0_10, in_0_40, in_0_99, in_1_20, in_1_60, in_0_9999, in_m99_99, in_32_126, in_48_57, hw]
  have hyn : y + c < 100000 := by omega
  -- the value of each choice
  have hv : ∀ w j, EQS w No → j ≤ 2 * N → s_goods (gvP To S D y c w j) S = s_goods (gvP To S D y c No j) S := fun w j hw hj => gv_eq hT hM hyn hPK hR hw hj
  generalize hV : (fun j => s_goods (gvP To S D y c No j) S) = V
  have hV2 : ∀ j, s_goods (gvP To S D y c No j) S = V j := fun j => by rw [← hV]
  -- the class
  obtain ⟨w, k1, k2⟩ := X5_copy Tr No
  have h7 : ∃ o, f_X7_worth_63 To No (nI c) (nI u) FU (99 : Int32) (V 0) (0 : Int32) (s_years To S D y c w) = some (if u = 0 then whI (up (bst V) 0 (2 * N) 0) else V (up (bst V) 0 (2 * N) 0), o) := by
    have hl := loopE (fun t i (s : Nat × Ob) => f_X7_worth_63 To No (nI c) (nI u) t (whI s.1) (V s.1) (nI i) s.2) 0 N (by omega) (by omega) (fun i s => s.1 = up (bst V) 0 (2 * i) 0) (fun s => some (if u = 0 then whI s.1 else V s.1, s.2)) (0, s_years To S D y c w) rfl
      (fun t s hs => by
        show f_X7_worth_63 To No (nI c) (nI u) (t + 1) (whI s.1) (V s.1) (nI N) s.2 = _
        rw [f_X7_worth_63, hTN, if_pos (nI_le (Nat.le_refl _) (by omega))]
        rcases (show u = 0 ∨ u = 1 by omega) with rfl | rfl
        · rw [if_pos (show nI 0 = 0 from rfl), if_pos rfl]
        · rw [if_neg (show ¬ nI 1 = 0 by decide), if_neg (by omega)])
      (fun t p s hp hs => by
        have hin := loopE (fun t' i (s' : Nat × Ob) => f_X7_worth_78 To No (nI c) (nI p) (f_X7_worth_63 To No (nI c) (nI u) t) t' (whI s'.1) (V s'.1) (nI i) s'.2) 0 2 (by omega) (by omega) (fun i s' => s'.1 = up (fun i => bst V (2 * p + i)) 0 i s.1) (fun s' => f_X7_worth_63 To No (nI c) (nI u) t (whI s'.1) (V s'.1) (nI (p + 1)) s'.2) s rfl
          (fun t' s' hs' => by
            show f_X7_worth_78 To No (nI c) (nI p) _ (t' + 1) (whI s'.1) (V s'.1) (nI 2) s'.2 = _
            rw [f_X7_worth_78, if_pos (by decide), bnd_def, nI_1])
          (fun t' i s' hi hs' => by
            obtain ⟨w1, j1, j2⟩ := X5_copy s'.2 No
            have hPw := s_shove_PK (w := i) hT (hPK.eqs j2) hp hi
            have e1 := X7_shove To w1 (show p < 4 by omega) i
            have e2 := X7_trade hT hyn hPw
            have e3 := X7_allGoods (s_years To S D y c (s_shove To p i w1)) hT
            have e4 : s_goods (s_years To S D y c (s_shove To p i w1)) S = V (2 * p + i + 1) := by
              rw [← hV2, ← hv w1 _ j2 (by omega)]
              show _ = s_goods (s_years To S D y c (s_shove To ((2 * p + i) / 2) ((2 * p + i) % 2) w1)) S
              rw [show (2 * p + i) / 2 = p by omega, show (2 * p + i) % 2 = i by omega]
            refine ⟨(bst V (2 * p + i) s'.1, s_years To S D y c (s_shove To p i w1)), ?_, ?_⟩
            · show f_X7_worth_78 To No (nI c) (nI p) (f_X7_worth_63 To No (nI c) (nI u) t) (t' + 1) (whI s'.1) (V s'.1) (nI i) s'.2 = f_X7_worth_78 To No (nI c) (nI p) (f_X7_worth_63 To No (nI c) (nI u) t) t' (whI (bst V (2 * p + i) s'.1)) (V (bst V (2 * p + i) s'.1)) (nI (i + 1)) _
              have hn : ¬ (1 : Int32) < nI i := nI_nlt (a := 1) (show i ≤ 1 by omega) (by omega)
              unfold bst
              rw [f_X7_worth_78, if_neg hn, j1, Option.bind_some, e1, Option.bind_some, e2, Option.bind_some, e3, Option.bind_some, e4]
              unfold f_X7_worth_155
              by_cases hcmp : V (2 * p + i + 1) ≤ V s'.1
              · rw [if_pos hcmp, if_pos hcmp, bnd_def, nI_1]
              · rw [if_neg hcmp, if_neg hcmp, bnd_def, bnd_def, nI_1]
                have ex : (10 : Int32) * nI p + nI i = whI (2 * p + i + 1) := by
                  show nI 10 * nI p + nI i = nI (10 * ((2 * p + i) / 2) + (2 * p + i) % 2)
                  rw [pk_mul, nI_add, show (2 * p + i) / 2 = p by omega, show (2 * p + i) % 2 = i by omega]
                rw [ex]
            · rw [up_succ, Nat.zero_add, ← hs'])
        obtain ⟨s', l1, l2⟩ := hin
        refine ⟨s', ?_, ?_⟩
        · show f_X7_worth_63 To No (nI c) (nI u) (t + 1) (whI s.1) (V s.1) (nI p) s.2 = _
          rw [f_X7_worth_63, hTN, if_neg (nI_ge hp (by omega))]
          exact l1
        · rw [l2, up_two, ← hs]
          rfl)
    obtain ⟨s, l1, l2⟩ := hl
    rw [l2] at l1
    exact ⟨s.2, l1⟩
  -- the reference
  have h8 : ∃ g, f_X8_worth_29 (nI c) (nI u) FU (-1 : Int32) (0 : Int32) (stR M0 18 f) = some (if u = 0 then whI (up (bst V) 0 (2 * N) 0) else V (up (bst V) 0 (2 * N) 0), stR M0 18 g) ∧ FR f g 286 := by
    have hgb : ∀ (g : Nat → Int32) (j : Nat), FR f g 286 → j ≤ 2 * N → ∃ g', f_X8_goodsBy (stR M0 18 g) (pI j) (nI c) = some (V j, stR M0 18 g') ∧ FR f g' 286 := by
      intro g j hg hj
      obtain ⟨g', b1, b2⟩ := X8_goodsBy (M := M0) hT hM hyn hPK (hR.frame lS hg (by omega)) (EQS.refl No) hj
      rw [hV2] at b1
      exact ⟨g', b1, hg.trans b2⟩
    have hl := loopP (fun t i (s : Nat × (Nat → Int32)) => f_X8_worth_29 (nI c) (nI u) t (pI s.1) (nI i) (stR M0 18 s.2)) 0 (2 * N) (by omega) (by omega) (fun i s => s.1 = up (bst V) 0 i 0 ∧ FR f s.2 286) (fun o => ∃ g, o = some (if u = 0 then whI (up (bst V) 0 (2 * N) 0) else V (up (bst V) 0 (2 * N) 0), stR M0 18 g) ∧ FR f g 286) (0, f) ⟨rfl, FR.refl _ _⟩
      (fun t s hs => by
        obtain ⟨i1, i2⟩ := hs
        have hle := bst_le V (2 * N)
        rw [← i1] at hle
        obtain ⟨g', b1, b2⟩ := hgb s.2 s.1 i2 hle
        show ∃ g, f_X8_worth_29 (nI c) (nI u) (t + 1) (pI s.1) (nI (2 * N)) (stR M0 18 s.2) = _ ∧ _
        have e0 : (2 : Int32) * (stR M0 18 s.2).1 5 = nI (2 * N) := by
          show nI 2 * M0.1 5 = _
          rw [m5, pk_mul]
        rw [f_X8_worth_29, e0, if_pos (nI_le (Nat.le_refl _) (by omega)), ← i1]
        rcases (show u = 0 ∨ u = 1 by omega) with rfl | rfl
        · refine ⟨s.2, ?_, i2⟩
          rw [if_neg (show ¬ nI 0 = 1 by decide), if_pos rfl]
          cases hs1 : s.1 with
          | zero => rfl
          | succ j =>
            have e1 : nI j / (2 : Int32) = nI (j / 2) := pk_div (d := 2) (by omega) (by omega) (by omega)
            have e2 : nI j - nI j / (2 : Int32) * (2 : Int32) = nI (j % 2) := pk_rem (d := 2) (by omega) (by omega) (by omega)
            show (if 0 ≤ nI j then some ((10 : Int32) * (nI j / (2 : Int32)) + (nI j - nI j / (2 : Int32) * (2 : Int32)), stR M0 18 s.2) else some (99, stR M0 18 s.2)) = some (nI (10 * (j / 2) + j % 2), stR M0 18 s.2)
            rw [if_pos (nI_pos' (by omega)), e2, e1]
            show some (nI 10 * nI (j / 2) + nI (j % 2), _) = _
            rw [pk_mul, nI_add]
        · refine ⟨g', ?_, b2⟩
          rw [if_pos (show nI 1 = 1 from rfl), b1, if_neg (by omega)]
          rfl)
      (fun t i s hi hs => by
        obtain ⟨i1, i2⟩ := hs
        have hle := bst_le V i
        rw [← i1] at hle
        obtain ⟨g1, b1, b2⟩ := hgb s.2 (i + 1) i2 (by omega)
        obtain ⟨g2, b3, b4⟩ := hgb g1 s.1 b2 (by omega)
        refine Or.inr ⟨(bst V i s.1, g2), ?_, ?_, b4⟩
        · show f_X8_worth_29 (nI c) (nI u) (t + 1) (pI s.1) (nI i) (stR M0 18 s.2) = f_X8_worth_29 (nI c) (nI u) t (pI (bst V i s.1)) (nI (i + 1)) (stR M0 18 g2)
          have e0 : (2 : Int32) * (stR M0 18 s.2).1 5 = nI (2 * N) := by
            show nI 2 * M0.1 5 = _
            rw [m5, pk_mul]
          have b1' : f_X8_goodsBy (stR M0 18 s.2) (nI i) (nI c) = some (V (i + 1), stR M0 18 g1) := b1
          rw [f_X8_worth_29, e0, if_neg (nI_ge hi (by omega)), b1', Option.bind_some]
          show (f_X8_goodsBy (stR M0 18 g1) (pI s.1) (nI c)).bind _ = _
          rw [b3, Option.bind_some]
          unfold f_X8_worth_62 bst
          by_cases hcmp : V (i + 1) ≤ V s.1
          · rw [if_pos hcmp, if_pos hcmp, bnd_def, nI_1]
          · rw [if_neg hcmp, if_neg hcmp, bnd_def, nI_1]
            rfl
        · rw [up_succ, Nat.zero_add, ← i1])
    exact hl
  obtain ⟨o, c1⟩ := h7
  obtain ⟨g, c2, c3⟩ := h8
  have e0 : s_goods (s_years To S D y c w) S = V 0 := by
    rw [← hV2, ← hv w 0 k2 (by omega)]
    rfl
  refine ⟨(if u = 0 then whI (up (bst V) 0 (2 * N) 0) else V (up (bst V) 0 (2 * N) 0), o), (if u = 0 then whI (up (bst V) 0 (2 * N) 0) else V (up (bst V) 0 (2 * N) 0), stR M0 18 g), ?_, ?_, rfl, n, S, U, L, N, D, y, a, k, q, hTe, hC.trial c3, hA⟩
  · simp (disch := omega) only [↓pk_rem, nl_0, nl_1, nl_2, nl_3, nl_4, nl_6, nl_7, nl_8, nl_9, nl_10, nl_11, nl_12, nl_20, nl_23, nl_24, nl_26, nl_32, nl_39, nl_40, nl_44, nl_48, nl_57, nl_59, nl_60, nl_61, nl_64, nl_81, nl_82, nl_99, nl_100, nl_126, nl_200, nl_208, nl_286, nl_287, nl_290, nl_312, nl_999, nl_6561, nl_9999, nI_add, pk_mul, pk_div, pk_sub, ev_leT, ev_leF, ev_ltT, ev_ltF, ev_eqT, ev_eqF, nI_clamp, nle_T, nle_F, nlt_F, or_false, false_or, or_self, if_true, if_false, bnd_def, Option.bind_some, st1s, st1n, st2, st3, st4s, st4n, eq_self, tf_1, tf_2, b2iT, b2iF, b2iE, ob_1, ob_2, f_X7_cell_at, f_X7_setCell_at, in_0, wi_at, in_0_1, in_0_2, in_0_4, in_0_8, in_0_9, in_0_10, in_0_40, in_0_99, in_1_20, in_1_60, in_0_9999, in_m99_99, in_32_126, in_48_57, k1, X7_trade hT hyn (hPK.eqs k2), X7_allGoods (s_years To S D y c w) hT, e0]
    exact c1
  · simp (disch := omega) only [↓pk_rem, nl_0, nl_1, nl_2, nl_3, nl_4, nl_6, nl_7, nl_8, nl_9, nl_10, nl_11, nl_12, nl_20, nl_23, nl_24, nl_26, nl_32, nl_39, nl_40, nl_44, nl_48, nl_57, nl_59, nl_60, nl_61, nl_64, nl_81, nl_82, nl_99, nl_100, nl_126, nl_200, nl_208, nl_286, nl_287, nl_290, nl_312, nl_999, nl_6561, nl_9999, nI_add, pk_mul, pk_div, pk_sub, ev_leT, ev_leF, ev_ltT, ev_ltF, ev_eqT, ev_eqF, nI_clamp, nle_T, nle_F, nlt_F, or_false, false_or, or_self, if_true, if_false, bnd_def, Option.bind_some, st1s, st1n, st2, st3, st4s, st4n, eq_self, tf_1, tf_2, b2iT, b2iF, b2iE, ob_1, ob_2, f_X7_cell_at, f_X7_setCell_at, in_0, wi_at, in_0_1, in_0_2, in_0_4, in_0_8, in_0_9, in_0_10, in_0_40, in_0_99, in_1_20, in_1_60, in_0_9999, in_m99_99, in_32_126, in_48_57]
    exact c2
