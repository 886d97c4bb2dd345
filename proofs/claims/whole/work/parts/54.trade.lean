theorem X3_take0 {cap z S : Nat} {q : PS} {f : Nat → Int32} (hc : cap < 2 ^ 31) (h : PR cap z S q f 0) (P : Ob) : f_X3_take cap q P = some (false, q, P) := by
  obtain ⟨hk, hn2⟩ := h.ok hc
  unfold f_X3_take
  rw [if_pos hk, if_pos hn2]
theorem X3_take {cap z S n : Nat} {q : PS} {f : Nat → Int32} (hc : cap < 2 ^ 31) (h : PR cap z S q f (n + 1)) (P : Ob) : ∃ w, f_X3_take cap q P = some (true, (stF q.1 1 (nI n), q.2), w) ∧ EQS w (q.2.2 (q.2.1 n)) ∧ PR cap z S (stF q.1 1 (nI n), q.2) f n := by
  obtain ⟨hk, hn2⟩ := h.ok hc
  obtain ⟨h1, h2, h3, h4, h5⟩ := h
  obtain ⟨w, w1, w2⟩ := X5_copy P (q.2.2 (q.2.1 n))
  refine ⟨w, ?_, w2, rfl, by omega, h3, h4, fun i hi => h5 i (by omega)⟩
  unfold f_X3_take
  rw [if_pos hk, hn2, if_neg (show ¬ n + 1 = 0 by omega), Nat.add_sub_cancel, w1]
  rfl
/-! a push -/
theorem inc_at {q c : Nat} (hq : q ≤ 20) (hc : c ≤ 9) : (if nI 0 < nI q - nI c then nI q - nI c else nI 0) = nI (q - c) := by
  by_cases h : c < q
  · rw [pk_sub (by omega), if_pos (nI_lt (by omega) (by omega))]
  · by_cases h2 : q = c
    · subst h2
      rw [pk_sub (Nat.le_refl _), Nat.sub_self, if_neg (by decide)]
    · have h3 := pk_sneg (a := q) (b := c) (by omega) (by omega)
      rw [if_neg (fun z => by
        rw [Int32.lt_iff_toInt_lt] at h3 z
        have e0 : (nI 0).toInt = 0 := by decide +kernel
        have e1 : (0 : Int32).toInt = 0 := by decide +kernel
        omega), show q - c = 0 by omega]
theorem larger_at (d : Int32) : f_X8_larger (nI 0) d = if nI 0 < d then d else nI 0 := by
  unfold f_X8_larger
  by_cases h : nI 0 < d
  · rw [if_pos h, if_neg (fun z => by rw [Int32.lt_iff_toInt_lt] at h; rw [Int32.le_iff_toInt_le] at z; omega)]
  · rw [if_neg h, if_pos (by rw [Int32.lt_iff_toInt_lt] at h; rw [Int32.le_iff_toInt_le]; omega)]
/-- where a push of j inches brings the shift (and 40) a -/
def mv (a j w : Nat) : Nat := if w = 0 then min 80 (a + j) else a - j
theorem mv_le {a : Nat} (j w : Nat) (ha : a ≤ 80) : mv a j w ≤ 80 := by
  unfold mv
  split <;> omega
theorem sh_dec : ∀ w, w < 2 → ∀ a, a < 81 → ∀ j, j < 21 → f_X8_pushed (nI a - nI 40) (nI j) (nI w) = nI (mv a j w) - nI 40 ∧ f_X7_shiftBehind (nI a - nI 40) (nI j) (nI w) = nI (mv a j w) - nI 40 := by decide +kernel
theorem sh_both {x : Int32} (hx : SH x) {j w : Nat} (hj : j ≤ 20) (hw : w < 2) : f_X8_pushed x (nI j) (nI w) = f_X7_shiftBehind x (nI j) (nI w) ∧ SH (f_X7_shiftBehind x (nI j) (nI w)) := by
  obtain ⟨a, ha, rfl⟩ := hx
  obtain ⟨h1, h2⟩ := sh_dec w hw a (by omega) j (by omega)
  rw [h1, h2]
  exact ⟨rfl, _, mv_le j w ha, rfl⟩
/-- the Stand behind a push -/
def s_shove (T : Ob) (p w : Nat) (P : Ob) : Ob := stF (stF (stF P 0 (f_X7_shiftBehind (P.1 0) (if nI 0 < T.2 5 p - P.1 2 then T.2 5 p - P.1 2 else nI 0) (nI w))) 1 (P.1 0)) 2 (if nI 0 < P.1 2 - nI 1 then P.1 2 - nI 1 else nI 0)
theorem X7_shove (T P : Ob) {p : Nat} (hp : p < 4) (w : Nat) : f_X5_shove P T (nI p) (nI w) = some (s_shove T p w P) := by
  unfold f_X5_shove
  rw [f_X7_cell_at (by decide) _ hp]
  rfl
theorem s_shove_PK {T P : Ob} {S U L N D y p w : Nat} (hT : TK T S U L N D) (hP : PK P y) (hp : p < N) (hw : w < 2) : PK (s_shove T p w P) y := by
  obtain ⟨q, q1, q2, e⟩ := hT.2.2.2.2.2.2.2.2.2.2.2.2.2.2.2.1 p hp
  obtain ⟨h3, h0, h1, c, hc, h2⟩ := hP
  refine ⟨h3, ?_, h0, c - 1, by omega, ?_⟩
  · show SH (f_X7_shiftBehind (P.1 0) (if nI 0 < T.2 5 p - P.1 2 then T.2 5 p - P.1 2 else nI 0) (nI w))
    rw [e, h2, inc_at (by omega) hc]
    exact (sh_both h0 (by omega) hw).2
  · show (if nI 0 < P.1 2 - nI 1 then P.1 2 - nI 1 else nI 0) = nI (c - 1)
    rw [h2]
    exact inc_at (by omega) (by omega)
theorem X8_gives {M T P : Ob} {f : Nat → Int32} {S U L N D y p w b : Nat} (hb : b + 26 ≤ 312) (hT : TK T S U L N D) (hM : MK M T S U L N D) (hP : PK P y) (hR : RS S P f b) (hp : p < N) (hw : w < 2) : ∃ g, f_X8_gives (stR M 18 f) (nI b) (nI p) (nI w) = some (stR M 18 g) ∧ RS S (s_shove T p w P) g b ∧ FR f g b := by
  obtain ⟨q, q1, q2, e⟩ := hT.2.2.2.2.2.2.2.2.2.2.2.2.2.2.2.1 p hp
  have lN := hT.2.2.2.2.2.2.1
  obtain ⟨h3, h0, h1, c, hc, h2⟩ := hP
  obtain ⟨r0, r1, r2, r3, r4, r5, r6⟩ := hR
  obtain ⟨m2, m5, m7, m00, m01, mI, mK, mO, mP, mW⟩ := hM
  have e1 : f_X8_larger (nI 0) (T.2 5 p - P.1 2) = nI (q - c) := by rw [larger_at, e, h2, inc_at (by omega) hc]
  have e2 : f_X8_larger (nI 0) (P.1 2 - nI 1) = nI (c - 1) := by rw [larger_at, h2, inc_at (by omega) (by omega)]
  have e3 := (sh_both h0 (j := q - c) (by omega) hw).1
  refine ⟨upd (upd (upd f (b + 1) (P.1 0)) b (f_X7_shiftBehind (P.1 0) (nI (q - c)) (nI w))) (b + 2) (nI (c - 1)), ?_, ⟨?_, ?_, ?_, ?_, fun s hs => ?_, fun k hk => ?_, ?_⟩, fun j hj => ?_⟩
  · unfold f_X8_gives
    simp (disch := omega) only [↓pk_rem, nl_0, nl_1, nl_2, nl_3, nl_4, nl_6, nl_7, nl_8, nl_9, nl_10, nl_11, nl_12, nl_20, nl_23, nl_24, nl_26, nl_32, nl_39, nl_40, nl_44, nl_48, nl_57, nl_59, nl_60, nl_61, nl_64, nl_81, nl_82, nl_99, nl_100, nl_126, nl_200, nl_208, nl_286, nl_287, nl_290, nl_312, nl_999, nl_6561, nl_9999, nI_add, pk_mul, pk_div, pk_sub, ev_leT, ev_leF, ev_ltT, ev_ltF, ev_eqT, ev_eqF, nI_clamp, nle_T, nle_F, nlt_F, or_false, false_or, or_self, if_true, if_false, bnd_def, Option.bind_some, st1s, st1n, st2, st3, st4s, st4n, eq_self, tf_1, tf_2, b2iT, b2iF, b2iE, ob_1, ob_2, f_X7_cell_at, f_X7_setCell_at, in_0, wi_at, in_0_1, in_0_2, in_0_4, in_0_8, in_0_9, in_0_10, in_0_40, in_0_99, in_1_20, in_1_60, in_0_9999, in_m99_99, in_32_126, in_48_57, pk_us, pk_un, mP p hp, r0, r2, e1, e3, stR_stR, e2]
  · rw [pk_un (by omega), pk_us]
    show _ = f_X7_shiftBehind (P.1 0) (if nI 0 < T.2 5 p - P.1 2 then T.2 5 p - P.1 2 else nI 0) (nI w)
    rw [e, h2, inc_at (by omega) hc]
  · rw [pk_un (by omega), pk_un (by omega), pk_us]
    rfl
  · rw [pk_us]
    show _ = (if nI 0 < P.1 2 - nI 1 then P.1 2 - nI 1 else nI 0)
    rw [h2, inc_at (by omega) (by omega)]
  · rw [pk_un (by omega), pk_un (by omega), pk_un (by omega)]
    exact r3
  · rw [pk_un (by omega), pk_un (by omega), pk_un (by omega)]
    exact r4 s hs
  · rw [pk_un (by omega), pk_un (by omega), pk_un (by omega)]
    exact r5 k hk
  · rw [pk_un (by omega), pk_un (by omega), pk_un (by omega), pk_un (by omega), pk_un (by omega), pk_un (by omega), pk_un (by omega), pk_un (by omega), pk_un (by omega)]
    exact r6
  · rw [pk_un (by omega), pk_un (by omega), pk_un (by omega)]
/-! a year -/
/-- one of the lands has its turn with one of the strip: what is left, what they have -/
def tst (B k : Nat) (s : Int32 × (Nat → Int32)) : Int32 × (Nat → Int32) := if B.testBit k = true ∧ ¬ s.1 ≤ nI 0 then (s.1 - nI 1, upd s.2 k (s.2 k + nI 1)) else s
theorem tst_id (B k : Nat) (s : Int32 × (Nat → Int32)) (h : s.1 ≤ nI 0) : tst B k s = s := if_neg (fun z => z.2 h)
theorem tst_pos {B k : Nat} {s : Int32 × (Nat → Int32)} (h : B.testBit k = true) (h2 : ¬ s.1 ≤ nI 0) : tst B k s = (s.1 - nI 1, upd s.2 k (s.2 k + nI 1)) := if_pos ⟨h, h2⟩
theorem up_tst_id (B : Nat) (s : Int32 × (Nat → Int32)) (h : s.1 ≤ nI 0) : ∀ (n i : Nat), up (tst B) i n s = s
  | 0, _ => rfl
  | n + 1, i => by
    show up (tst B) (i + 1) n (tst B i s) = s
    rw [tst_id B i s h]
    exact up_tst_id B s h n (i + 1)
def tlast (B : Nat) (x : Int32) : Int32 := if B % 64 = 0 then x else if B / 64 = 0 then x else if x + nI 3 < nI 99 then x + nI 3 else nI 99
def tres (P : Ob) (s B : Nat) : Int32 × (Nat → Int32) := up (tst B) 0 12 (P.2 5 s, P.2 6)
def s_tradeOf (P : Ob) (s B : Nat) : Ob := stR (stR P 6 (tres P s B).2) 5 (upd (P.2 5) s (tlast B (tres P s B).1))
theorem m1_sub (x : Int32) : x + -1 = x - nI 1 := by
  rw [Int32.sub_eq_add_neg]
  rfl
theorem and_4032 {B : Nat} (hB : B < 4096) : B &&& 4032 = 64 * (B / 64) := by
  have h := land_split 6 (x := B / 64) (y := B % 64) (X := 63) (Y := 0) (by omega) (by decide)
  rw [show 2 ^ 6 * (B / 64) + B % 64 = B by omega, Nat.and_zero] at h
  have h2 : B / 64 &&& 63 = B / 64 % 2 ^ 6 := Nat.and_two_pow_sub_one_eq_mod _ 6
  rw [h2] at h
  show B &&& (2 ^ 6 * 63 + 0) = _
  rw [h]
  omega
theorem X7_tradeOf_62 (o : Ob) {s B : Nat} (hs : s < 7) (hB : B < 4096) (x : Int32) : f_X5_tradeOf_62 (nI s) (nI B) x o = some (stR o 5 (upd (o.2 5) s (tlast B x))) := by
  unfold f_X5_tradeOf_62 f_X5_tradeOf_86 tlast
  rw [pk_andN (by omega) 6 (by decide +kernel), show (4032 : Int32) = nI 4032 from rfl, fa_and, and_4032 hB, f_X7_setCell_at (by decide) _ hs, show 2 ^ 6 = 64 from rfl]
  by_cases h1 : B % 64 = 0
  · rw [if_pos h1, h1, if_pos (show nI 0 = 0 from rfl)]
    rfl
  · rw [if_neg h1, if_neg (nI_ne0 (by omega) (by omega))]
    by_cases h2 : B / 64 = 0
    · rw [if_pos h2, h2, if_pos (show nI (64 * 0) = 0 from rfl)]
      rfl
    · rw [if_neg h2, if_neg (nI_ne0 (by omega) (by omega)), bnd_def, f_X7_setCell_at (by decide) _ hs]
      rfl
theorem X7_tradeOf (P : Ob) {s B : Nat} (hs : s < 7) (hB : B < 4096) : f_X5_tradeOf P (nI s) (nI B) = some (s_tradeOf P s B) := by
  unfold f_X5_tradeOf
  rw [f_X7_cell_at (by decide) _ hs, Option.bind_some]
  have h := loopP (fun t i (z : Int32 × (Nat → Int32)) => f_X5_tradeOf_12 (nI s) (nI B) t z.1 (nI i) (stR P 6 z.2)) 0 12 (by omega) (by omega) (fun i z => up (tst B) i (12 - i) z = tres P s B) (fun o => o = some (s_tradeOf P s B)) (P.2 5 s, P.2 6) rfl
    (fun t z hz => by
      show f_X5_tradeOf_12 (nI s) (nI B) (t + 1) z.1 (nI 12) (stR P 6 z.2) = _
      have hz2 : z = tres P s B := hz
      rw [f_X5_tradeOf_12, if_pos (by decide), X7_tradeOf_62 _ hs hB, hz2]
      rfl)
    (fun t i z hi hz => by
      show f_X5_tradeOf_12 (nI s) (nI B) (t + 1) z.1 (nI i) (stR P 6 z.2) = _ ∨ ∃ s', f_X5_tradeOf_12 (nI s) (nI B) (t + 1) z.1 (nI i) (stR P 6 z.2) = f_X5_tradeOf_12 (nI s) (nI B) t s'.1 (nI (i + 1)) (stR P 6 s'.2) ∧ up (tst B) (i + 1) (12 - (i + 1)) s' = tres P s B
      rw [f_X5_tradeOf_12, if_neg (show ¬ (12 : Int32) ≤ nI i from nI_ge hi (by decide))]
      by_cases hl : z.1 ≤ 0
      · refine Or.inl ?_
        have hz2 : z = tres P s B := (up_tst_id B z hl _ _).symm.trans hz
        rw [if_pos hl, X7_tradeOf_62 _ hs hB, hz2]
        rfl
      · refine Or.inr ⟨tst B i z, ?_, ?_⟩
        · rw [if_neg hl, bnd_def, bitOf_at (by omega) (by omega)]
          unfold tst f_X5_tradeOf_56
          cases hb : B.testBit i with
          | false =>
            rw [if_neg (show ¬ b2i false = 1 by decide), if_neg (fun z => absurd z.1 (by decide)), bnd_def, nI_1]
          | true =>
            rw [if_pos (show b2i true = 1 by decide), if_pos ⟨rfl, hl⟩, bnd_def, m1_sub]
            show (f_X7_cell 12 z.2 (nI i)).bind _ = _
            rw [f_X7_cell_at (by decide) _ hi, Option.bind_some]
            show (f_X7_setCell 12 z.2 (nI i) _).bind _ = _
            rw [f_X7_setCell_at (by decide) _ hi, Option.bind_some, bnd_def, nI_1, stR_stR]
            rfl
        · rw [← hz, show 12 - i = (12 - (i + 1)) + 1 by omega]
          rfl)
  rw [stR_self] at h
  exact h
theorem smaller99 (v : Int32) : f_X8_smaller (nI 99) v = if v < nI 99 then v else nI 99 := by
  unfold f_X8_smaller
  by_cases h : v < nI 99
  · rw [if_pos h, if_pos (by rw [Int32.lt_iff_toInt_lt] at h; rw [Int32.le_iff_toInt_le]; omega)]
  · rw [if_neg h]
    by_cases h2 : v ≤ nI 99
    · rw [if_pos h2]
      rw [Int32.lt_iff_toInt_lt] at h
      rw [Int32.le_iff_toInt_le] at h2
      exact Int32.toInt_inj.mp (by omega)
    · rw [if_neg h2]
theorem X8_tr20 {M Q : Ob} {g : Nat → Int32} {S b s B : Nat} (kL : Int32 → Ob → Option Ob) (hb : b + 26 ≤ 312) (hS : S ≤ 7) (hs : s < S) (hB : B < 4096) (hR : RS S Q g b) : ∃ g', f_X8_trades_20 (nI b) (nI s) kL (nI B) FU 0 (stR M 18 g) = kL (nI (s + 1)) (stR M 18 g') ∧ RS S (s_tradeOf Q s B) g' b ∧ FR g g' b := by
  obtain ⟨r0, r1, r2, r3, r4, r5, r6⟩ := hR
  have h := loopE (fun t i g1 => f_X8_trades_20 (nI b) (nI s) kL (nI B) t (nI i) (stR M 18 g1)) 0 12 (by omega) (by omega)
    (fun i g1 => g1 (b + 4 + s) = (up (tst B) 0 i (Q.2 5 s, Q.2 6)).1 ∧ (∀ k, k < 12 → g1 (b + 11 + k) = (up (tst B) 0 i (Q.2 5 s, Q.2 6)).2 k) ∧ ∀ j, j ≠ b + 4 + s → ¬ (b + 11 ≤ j ∧ j < b + 23) → g1 j = g j)
    (fun g1 => kL (nI (s + 1)) (stR M 18 (upd g1 (b + 4 + s) (tlast B (g1 (b + 4 + s)))))) g ⟨r4 s hs, r5, fun _ _ _ => rfl⟩
    (fun t g1 hg => by
      show f_X8_trades_20 (nI b) (nI s) kL (nI B) (t + 1) (nI 12) (stR M 18 g1) = _
      rw [f_X8_trades_20]
      unfold f_X8_trades_103 f_X8_trades_104 f_X8_trades_150 tlast
      by_cases h1 : B % 64 = 0
      · simp (disch := omega) only [↓pk_rem, nl_0, nl_1, nl_2, nl_3, nl_4, nl_6, nl_7, nl_8, nl_9, nl_10, nl_11, nl_12, nl_20, nl_23, nl_24, nl_26, nl_32, nl_39, nl_40, nl_44, nl_48, nl_57, nl_59, nl_60, nl_61, nl_64, nl_81, nl_82, nl_99, nl_100, nl_126, nl_200, nl_208, nl_286, nl_287, nl_290, nl_312, nl_999, nl_6561, nl_9999, nI_add, pk_mul, pk_div, pk_sub, ev_leT, ev_leF, ev_ltT, ev_ltF, ev_eqT, ev_eqF, nI_clamp, nle_T, nle_F, nlt_F, or_false, false_or, or_self, if_true, if_false, bnd_def, Option.bind_some, st1s, st1n, st2, st3, st4s, st4n, eq_self, tf_1, tf_2, b2iT, b2iF, b2iE, ob_1, ob_2, f_X7_cell_at, f_X7_setCell_at, in_0, wi_at, in_0_1, in_0_2, in_0_4, in_0_8, in_0_9, in_0_10, in_0_40, in_0_99, in_1_20, in_1_60, in_0_9999, in_m99_99, in_32_126, in_48_57, stR_stR, h1]
      · by_cases h2 : B / 64 = 0
        · simp (disch := omega) only [↓pk_rem, nl_0, nl_1, nl_2, nl_3, nl_4, nl_6, nl_7, nl_8, nl_9, nl_10, nl_11, nl_12, nl_20, nl_23, nl_24, nl_26, nl_32, nl_39, nl_40, nl_44, nl_48, nl_57, nl_59, nl_60, nl_61, nl_64, nl_81, nl_82, nl_99, nl_100, nl_126, nl_200, nl_208, nl_286, nl_287, nl_290, nl_312, nl_999, nl_6561, nl_9999, nI_add, pk_mul, pk_div, pk_sub, ev_leT, ev_leF, ev_ltT, ev_ltF, ev_eqT, ev_eqF, nI_clamp, nle_T, nle_F, nlt_F, or_false, false_or, or_self, if_true, if_false, bnd_def, Option.bind_some, st1s, st1n, st2, st3, st4s, st4n, eq_self, tf_1, tf_2, b2iT, b2iF, b2iE, ob_1, ob_2, f_X7_cell_at, f_X7_setCell_at, in_0, wi_at, in_0_1, in_0_2, in_0_4, in_0_8, in_0_9, in_0_10, in_0_40, in_0_99, in_1_20, in_1_60, in_0_9999, in_m99_99, in_32_126, in_48_57, stR_stR, h1, h2]
        · simp (disch := omega) only [↓pk_rem, nl_0, nl_1, nl_2, nl_3, nl_4, nl_6, nl_7, nl_8, nl_9, nl_10, nl_11, nl_12, nl_20, nl_23, nl_24, nl_26, nl_32, nl_39, nl_40, nl_44, nl_48, nl_57, nl_59, nl_60, nl_61, nl_64, nl_81, nl_82, nl_99, nl_100, nl_126, nl_200, nl_208, nl_286, nl_287, nl_290, nl_312, nl_999, nl_6561, nl_9999, nI_add, pk_mul, pk_div, pk_sub, ev_leT, ev_leF, ev_ltT, ev_ltF, ev_eqT, ev_eqF, nI_clamp, nle_T, nle_F, nlt_F, or_false, false_or, or_self, if_true, if_false, bnd_def, Option.bind_some, st1s, st1n, st2, st3, st4s, st4n, eq_self, tf_1, tf_2, b2iT, b2iF, b2iE, ob_1, ob_2, f_X7_cell_at, f_X7_setCell_at, in_0, wi_at, in_0_1, in_0_2, in_0_4, in_0_8, in_0_9, in_0_10, in_0_40, in_0_99, in_1_20, in_1_60, in_0_9999, in_m99_99, in_32_126, in_48_57, stR_stR, h1, h2, smaller99])
    (fun t i g1 hi hg => by
      obtain ⟨g2, g3, g4⟩ := hg
      show ∃ s', f_X8_trades_20 (nI b) (nI s) kL (nI B) (t + 1) (nI i) (stR M 18 g1) = f_X8_trades_20 (nI b) (nI s) kL (nI B) t (nI (i + 1)) (stR M 18 s') ∧ _
      rw [f_X8_trades_20]
      unfold f_X8_trades_79
      rw [up_succ, Nat.zero_add]
      have e3 := g3 i hi
      by_cases hc : B.testBit i = true ∧ ¬ g1 (b + 4 + s) ≤ nI 0
      · obtain ⟨c1, c2⟩ := hc
        refine ⟨upd (upd g1 (b + 4 + s) (g1 (b + 4 + s) - nI 1)) (b + 11 + i) (g1 (b + 11 + i) + nI 1), ?_, ?_, fun k hk => ?_, fun j hj hj2 => ?_⟩
        · simp (disch := omega) only [↓pk_rem, nl_0, nl_1, nl_2, nl_3, nl_4, nl_6, nl_7, nl_8, nl_9, nl_10, nl_11, nl_12, nl_20, nl_23, nl_24, nl_26, nl_32, nl_39, nl_40, nl_44, nl_48, nl_57, nl_59, nl_60, nl_61, nl_64, nl_81, nl_82, nl_99, nl_100, nl_126, nl_200, nl_208, nl_286, nl_287, nl_290, nl_312, nl_999, nl_6561, nl_9999, nI_add, pk_mul, pk_div, pk_sub, ev_leT, ev_leF, ev_ltT, ev_ltF, ev_eqT, ev_eqF, nI_clamp, nle_T, nle_F, nlt_F, or_false, false_or, or_self, if_true, if_false, bnd_def, Option.bind_some, st1s, st1n, st2, st3, st4s, st4n, eq_self, tf_1, tf_2, b2iT, b2iF, b2iE, ob_1, ob_2, f_X7_cell_at, f_X7_setCell_at, in_0, wi_at, in_0_1, in_0_2, in_0_4, in_0_8, in_0_9, in_0_10, in_0_40, in_0_99, in_1_20, in_1_60, in_0_9999, in_m99_99, in_32_126, in_48_57, has_at, c1, c2, stR_stR, pk_us, pk_un]
        · rw [tst_pos c1 (by rw [← g2]; exact c2), pk_un (by omega), pk_us, g2]
        · rw [tst_pos c1 (by rw [← g2]; exact c2)]
          show _ = upd (up (tst B) 0 i (Q.2 5 s, Q.2 6)).2 i ((up (tst B) 0 i (Q.2 5 s, Q.2 6)).2 i + nI 1) k
          by_cases hki : k = i
          · subst hki
            rw [pk_us, pk_us, e3]
          · rw [pk_un (by omega), pk_un (by omega), pk_un hki]
            exact g3 k hk
        · rw [pk_un (by omega), pk_un hj]
          exact g4 j hj hj2
      · refine ⟨g1, ?_, ?_⟩
        · cases c1 : B.testBit i with
          | false => simp (disch := omega) only [↓pk_rem, nl_0, nl_1, nl_2, nl_3, nl_4, nl_6, nl_7, nl_8, nl_9, nl_10, nl_11, nl_12, nl_20, nl_23, nl_24, nl_26, nl_32, nl_39, nl_40, nl_44, nl_48, nl_57, nl_59, nl_60, nl_61, nl_64, nl_81, nl_82, nl_99, nl_100, nl_126, nl_200, nl_208, nl_286, nl_287, nl_290, nl_312, nl_999, nl_6561, nl_9999, nI_add, pk_mul, pk_div, pk_sub, ev_leT, ev_leF, ev_ltT, ev_ltF, ev_eqT, ev_eqF, nI_clamp, nle_T, nle_F, nlt_F, or_false, false_or, or_self, if_true, if_false, bnd_def, Option.bind_some, st1s, st1n, st2, st3, st4s, st4n, eq_self, tf_1, tf_2, b2iT, b2iF, b2iE, ob_1, ob_2, f_X7_cell_at, f_X7_setCell_at, in_0, wi_at, in_0_1, in_0_2, in_0_4, in_0_8, in_0_9, in_0_10, in_0_40, in_0_99, in_1_20, in_1_60, in_0_9999, in_m99_99, in_32_126, in_48_57, has_at, c1]
          | true =>
            have c2 : g1 (b + 4 + s) ≤ nI 0 := by
              rcases Classical.em (g1 (b + 4 + s) ≤ nI 0) with z | z
              · exact z
              · exact absurd ⟨c1, z⟩ hc
            simp (disch := omega) only [↓pk_rem, nl_0, nl_1, nl_2, nl_3, nl_4, nl_6, nl_7, nl_8, nl_9, nl_10, nl_11, nl_12, nl_20, nl_23, nl_24, nl_26, nl_32, nl_39, nl_40, nl_44, nl_48, nl_57, nl_59, nl_60, nl_61, nl_64, nl_81, nl_82, nl_99, nl_100, nl_126, nl_200, nl_208, nl_286, nl_287, nl_290, nl_312, nl_999, nl_6561, nl_9999, nI_add, pk_mul, pk_div, pk_sub, ev_leT, ev_leF, ev_ltT, ev_ltF, ev_eqT, ev_eqF, nI_clamp, nle_T, nle_F, nlt_F, or_false, false_or, or_self, if_true, if_false, bnd_def, Option.bind_some, st1s, st1n, st2, st3, st4s, st4n, eq_self, tf_1, tf_2, b2iT, b2iF, b2iE, ob_1, ob_2, f_X7_cell_at, f_X7_setCell_at, in_0, wi_at, in_0_1, in_0_2, in_0_4, in_0_8, in_0_9, in_0_10, in_0_40, in_0_99, in_1_20, in_1_60, in_0_9999, in_m99_99, in_32_126, in_48_57, has_at, c1, c2]
        · have e : tst B i (up (tst B) 0 i (Q.2 5 s, Q.2 6)) = up (tst B) 0 i (Q.2 5 s, Q.2 6) := if_neg (by rw [← g2]; exact hc)
          rw [e]
          exact ⟨g2, g3, g4⟩)
  obtain ⟨g1, h1, h2, h3, h4⟩ := h
  refine ⟨_, h1, ⟨?_, ?_, ?_, ?_, fun k hk => ?_, fun k hk => ?_, ?_⟩, fun j hj => ?_⟩
  · rw [pk_un (by omega), h4 _ (by omega) (by omega)]; exact r0
  · rw [pk_un (by omega), h4 _ (by omega) (by omega)]; exact r1
  · rw [pk_un (by omega), h4 _ (by omega) (by omega)]; exact r2
  · rw [pk_un (by omega), h4 _ (by omega) (by omega)]; exact r3
  · show _ = upd (Q.2 5) s (tlast B (tres Q s B).1) k
    by_cases hks : k = s
    · subst hks
      rw [pk_us, pk_us, h2]
      rfl
    · rw [pk_un (by omega), pk_un hks, h4 _ (by omega) (by omega)]
      exact r4 k hk
  · rw [pk_un (by omega)]
    exact h3 k hk
  · rw [pk_un (by omega), pk_un (by omega), pk_un (by omega), h4 _ (by omega) (by omega), h4 _ (by omega) (by omega), h4 _ (by omega) (by omega)]
    exact r6
  · rw [pk_un (by omega), h4 _ (by omega) (by omega)]
def ystep (T : Ob) (D y s : Nat) (P : Ob) : Ob := s_tradeOf P s (ab T D y s (P.1 0) (P.1 1))
def s_strips (T : Ob) (S D y : Nat) (P : Ob) : Ob := up (ystep T D y) 0 S P
def s_year (T : Ob) (S D y : Nat) (P : Ob) : Ob := stF (s_strips T S D y P) 3 (nI (y + 1))
theorem strips_1 (T : Ob) (D y : Nat) (P : Ob) : ∀ n, (up (ystep T D y) 0 n P).1 = P.1
  | 0 => rfl
  | n + 1 => by rw [up_succ]; exact strips_1 T D y P n
theorem s_year_PK {T P : Ob} {S D y : Nat} (hP : PK P y) : PK (s_year T S D y P) (y + 1) := by
  obtain ⟨h3, h0, h1, h2⟩ := hP
  have e := strips_1 T D y P S
  refine ⟨rfl, ?_, ?_, ?_⟩
  · show SH ((s_strips T S D y P).1 0)
    unfold s_strips; rw [e]; exact h0
  · show SH ((s_strips T S D y P).1 1)
    unfold s_strips; rw [e]; exact h1
  · show ∃ c, c ≤ 9 ∧ (s_strips T S D y P).1 2 = nI c
    unfold s_strips; rw [e]; exact h2
theorem X7_year {T P : Ob} {S U L N D y : Nat} (hT : TK T S U L N D) (hy : y < 100000) (hP : PK P y) (kL : Int32 → Ob → Option Ob) (x : Int32) : f_X5_trade_10 T x kL FU 0 P = kL (x + 1) (s_year T S D y P) := by
  have hS := hT.1
  have lS := hT.2.2.2.2.2.1
  have h3 := hP.1
  have h := loopE (fun t i Q => f_X5_trade_10 T x kL t (nI i) Q) 0 S (by omega) (by omega) (fun i Q => Q = up (ystep T D y) 0 i P) (fun Q => kL (x + 1) (stF Q 3 (Q.1 3 + 1))) P rfl
    (fun t Q hQ => by
      show f_X5_trade_10 T x kL (t + 1) (nI S) Q = _
      rw [f_X5_trade_10, hS, if_pos (nI_le (Nat.le_refl _) (by omega)), bnd_def, bnd_def])
    (fun t i Q hi hQ => by
      refine ⟨_, ?_, rfl⟩
      show f_X5_trade_10 T x kL (t + 1) (nI i) Q = f_X5_trade_10 T x kL t (nI (i + 1)) _
      have e1 : Q.1 = P.1 := by rw [hQ]; exact strips_1 T D y P i
      rw [f_X5_trade_10, hS, if_neg (nI_ge hi (by omega)), X7_againstBits hT (y := y) (by omega) (by rw [e1]; exact h3) (by omega), Option.bind_some, X7_tradeOf Q (by omega) (ab_lt _ _ _ _ _ _), Option.bind_some, bnd_def, nI_1, up_succ, Nat.zero_add, ← hQ]
      rfl)
  obtain ⟨Q, h1, h2⟩ := h
  have e1 : Q.1 3 + 1 = nI (y + 1) := by rw [h2, strips_1, h3, nI_1]
  rw [e1, h2] at h1
  exact h1
theorem X8_trades {M T P : Ob} {f : Nat → Int32} {S U L N D y b : Nat} (hb : b + 26 ≤ 312) (hT : TK T S U L N D) (hM : MK M T S U L N D) (hy : y < 100000) (hP : PK P y) (hR : RS S P f b) : ∃ g, f_X8_trades (stR M 18 f) (nI b) = some (stR M 18 g) ∧ RS S (s_year T S D y P) g b ∧ FR f g b := by
  have lS := hT.2.2.2.2.2.1
  have hm := hM.1
  have h := loopE (fun t i g => f_X8_trades_2 (nI b) t (nI i) (stR M 18 g)) 0 S (by omega) (by omega) (fun i g => RS S (up (ystep T D y) 0 i P) g b ∧ FR f g b) (fun g => some (stR M 18 (upd g (b + 3) (g (b + 3) + nI 1)))) f ⟨hR, FR.refl f b⟩
    (fun t g hg => by
      show f_X8_trades_2 (nI b) (t + 1) (nI S) (stR M 18 g) = _
      rw [f_X8_trades_2]
      simp (disch := omega) only [↓pk_rem, nl_0, nl_1, nl_2, nl_3, nl_4, nl_6, nl_7, nl_8, nl_9, nl_10, nl_11, nl_12, nl_20, nl_23, nl_24, nl_26, nl_32, nl_39, nl_40, nl_44, nl_48, nl_57, nl_59, nl_60, nl_61, nl_64, nl_81, nl_82, nl_99, nl_100, nl_126, nl_200, nl_208, nl_286, nl_287, nl_290, nl_312, nl_999, nl_6561, nl_9999, nI_add, pk_mul, pk_div, pk_sub, ev_leT, ev_leF, ev_ltT, ev_ltF, ev_eqT, ev_eqF, nI_clamp, nle_T, nle_F, nlt_F, or_false, false_or, or_self, if_true, if_false, bnd_def, Option.bind_some, st1s, st1n, st2, st3, st4s, st4n, eq_self, tf_1, tf_2, b2iT, b2iF, b2iE, ob_1, ob_2, f_X7_cell_at, f_X7_setCell_at, in_0, wi_at, in_0_1, in_0_2, in_0_4, in_0_8, in_0_9, in_0_10, in_0_40, in_0_99, in_1_20, in_1_60, in_0_9999, in_m99_99, in_32_126, in_48_57, stR_stR, hm])
    (fun t i g hi hg => by
      obtain ⟨g1, g2⟩ := hg
      show ∃ s', f_X8_trades_2 (nI b) (t + 1) (nI i) (stR M 18 g) = f_X8_trades_2 (nI b) t (nI (i + 1)) (stR M 18 s') ∧ _
      have e1 := strips_1 T D y P i
      have hQ : PK (up (ystep T D y) 0 i P) y := by
        unfold PK
        rw [e1]
        exact hP
      obtain ⟨g', c1, c2, c3⟩ := X8_tr20 (M := M) (f_X8_trades_2 (nI b) t) hb lS hi (ab_lt T D y i ((up (ystep T D y) 0 i P).1 0) ((up (ystep T D y) 0 i P).1 1)) g1
      refine ⟨g', ?_, ?_, g2.trans c3⟩
      · have hm2 : (stR M 18 g).1 2 = nI S := hm
        rw [f_X8_trades_2, hm2, if_neg (nI_ge hi (by omega)), X8_againstIn hb hT hM (by omega) hQ g1 hi, Option.bind_some]
        exact c1
      · rw [up_succ, Nat.zero_add]
        exact c2)
  obtain ⟨g, h1, h2, h3⟩ := h
  refine ⟨_, h1, ?_, fun j hj => ?_⟩
  · obtain ⟨r0, r1, r2, r3, r4, r5, r6⟩ := h2
    have e1 := strips_1 T D y P S
    refine ⟨?_, ?_, ?_, ?_, fun k hk => ?_, fun k hk => ?_, ?_⟩
    · rw [pk_un (by omega)]; exact r0
    · rw [pk_un (by omega)]; exact r1
    · rw [pk_un (by omega)]; exact r2
    · rw [pk_us, r3, e1, hP.1]; exact nI_add y 1
    · rw [pk_un (by omega)]; exact r4 k hk
    · rw [pk_un (by omega)]; exact r5 k hk
    · rw [pk_un (by omega), pk_un (by omega), pk_un (by omega)]; exact r6
  · rw [pk_un (by omega)]; exact h3 j hj
/-- n years from the year y on -/
def s_years (T : Ob) (S D y n : Nat) (P : Ob) : Ob := up (fun i P => s_year T S D (y + i) P) 0 n P
theorem s_years_PK {T P : Ob} {S D y : Nat} (hP : PK P y) : ∀ n, PK (s_years T S D y n P) (y + n)
  | 0 => hP
  | n + 1 => by
    unfold s_years
    rw [up_succ, Nat.zero_add]
    exact s_year_PK (s_years_PK hP n)
theorem X7_trade {T P : Ob} {S U L N D y n : Nat} (hT : TK T S U L N D) (hy : y + n < 100000) (hP : PK P y) : f_X5_trade P T (nI n) = some (s_years T S D y n P) := by
  have h := loopE (fun t i Q => f_X5_trade_2 T (nI n) t (nI i) Q) 0 n (by omega) (by omega) (fun i Q => Q = s_years T S D y i P) (fun Q => some Q) P rfl
    (fun t Q hQ => by
      show f_X5_trade_2 T (nI n) (t + 1) (nI n) Q = _
      rw [f_X5_trade_2, if_pos (nI_le (Nat.le_refl _) (by omega))])
    (fun t i Q hi hQ => by
      refine ⟨_, ?_, rfl⟩
      show f_X5_trade_2 T (nI n) (t + 1) (nI i) Q = f_X5_trade_2 T (nI n) t (nI (i + 1)) _
      rw [f_X5_trade_2, if_neg (nI_ge hi (by omega)), X7_year hT (y := y + i) (by omega) (by rw [hQ]; exact s_years_PK hP i), nI_1, hQ]
      unfold s_years
      rw [up_succ, Nat.zero_add])
  obtain ⟨Q, h1, h2⟩ := h
  rw [h2] at h1
  exact h1
/-! sums -/
def s_goods (P : Ob) (S : Nat) : Int32 := up (fun s x => x + P.2 5 s) 0 S (nI 0)
theorem X7_allGoods {T : Ob} (P : Ob) {S U L N D : Nat} (hT : TK T S U L N D) : f_X5_allGoods P T = some (s_goods P S) := by
  have hS := hT.1
  have lS := hT.2.2.2.2.2.1
  have h := loopE (fun t i x => f_X5_allGoods_4 P T t x (nI i)) 0 S (by omega) (by omega) (fun i x => x = up (fun s x => x + P.2 5 s) 0 i (nI 0)) (fun x => some x) 0 rfl
    (fun t x hx => by
      show f_X5_allGoods_4 P T (t + 1) x (nI S) = _
      rw [f_X5_allGoods_4, hS, if_pos (nI_le (Nat.le_refl _) (by omega))])
    (fun t i x hi hx => by
      refine ⟨_, ?_, rfl⟩
      show f_X5_allGoods_4 P T (t + 1) x (nI i) = f_X5_allGoods_4 P T t _ (nI (i + 1))
      rw [f_X5_allGoods_4, hS, if_neg (nI_ge hi (by omega)), f_X7_cell_at (by decide) _ (by omega), Option.bind_some, bnd_def, bnd_def, nI_1, up_succ, Nat.zero_add, ← hx])
  obtain ⟨Q, h1, h2⟩ := h
  rw [h2] at h1
  exact h1
theorem X8_goods {M T P : Ob} {f : Nat → Int32} {S U L N D b : Nat} (hb : b + 26 ≤ 312) (hT : TK T S U L N D) (hM : MK M T S U L N D) (hR : RS S P f b) : f_X8_goods (stR M 18 f) (nI b) = some (s_goods P S) := by
  have lS := hT.2.2.2.2.2.1
  have hm := hM.1
  obtain ⟨r0, r1, r2, r3, r4, r5, r6⟩ := hR
  have h := loopE (fun t i x => f_X8_goods_4 (stR M 18 f) (nI b) t x (nI i)) 0 S (by omega) (by omega) (fun i x => x = up (fun s x => x + P.2 5 s) 0 i (nI 0)) (fun x => some x) 0 rfl
    (fun t x hx => by
      show f_X8_goods_4 (stR M 18 f) (nI b) (t + 1) x (nI S) = _
      rw [f_X8_goods_4]
      simp (disch := omega) only [↓pk_rem, nl_0, nl_1, nl_2, nl_3, nl_4, nl_6, nl_7, nl_8, nl_9, nl_10, nl_11, nl_12, nl_20, nl_23, nl_24, nl_26, nl_32, nl_39, nl_40, nl_44, nl_48, nl_57, nl_59, nl_60, nl_61, nl_64, nl_81, nl_82, nl_99, nl_100, nl_126, nl_200, nl_208, nl_286, nl_287, nl_290, nl_312, nl_999, nl_6561, nl_9999, nI_add, pk_mul, pk_div, pk_sub, ev_leT, ev_leF, ev_ltT, ev_ltF, ev_eqT, ev_eqF, nI_clamp, nle_T, nle_F, nlt_F, or_false, false_or, or_self, if_true, if_false, bnd_def, Option.bind_some, st1s, st1n, st2, st3, st4s, st4n, eq_self, tf_1, tf_2, b2iT, b2iF, b2iE, ob_1, ob_2, f_X7_cell_at, f_X7_setCell_at, in_0, wi_at, in_0_1, in_0_2, in_0_4, in_0_8, in_0_9, in_0_10, in_0_40, in_0_99, in_1_20, in_1_60, in_0_9999, in_m99_99, in_32_126, in_48_57, hm])
    (fun t i x hi hx => by
      refine ⟨_, ?_, rfl⟩
      show f_X8_goods_4 (stR M 18 f) (nI b) (t + 1) x (nI i) = f_X8_goods_4 (stR M 18 f) (nI b) t _ (nI (i + 1))
      rw [f_X8_goods_4, up_succ, Nat.zero_add, ← hx]
      simp (disch := omega) only [↓pk_rem, nl_0, nl_1, nl_2, nl_3, nl_4, nl_6, nl_7, nl_8, nl_9, nl_10, nl_11, nl_12, nl_20, nl_23, nl_24, nl_26, nl_32, nl_39, nl_40, nl_44, nl_48, nl_57, nl_59, nl_60, nl_61, nl_64, nl_81, nl_82, nl_99, nl_100, nl_126, nl_200, nl_208, nl_286, nl_287, nl_290, nl_312, nl_999, nl_6561, nl_9999, nI_add, pk_mul, pk_div, pk_sub, ev_leT, ev_leF, ev_ltT, ev_ltF, ev_eqT, ev_eqF, nI_clamp, nle_T, nle_F, nlt_F, or_false, false_or, or_self, if_true, if_false, bnd_def, Option.bind_some, st1s, st1n, st2, st3, st4s, st4n, eq_self, tf_1, tf_2, b2iT, b2iF, b2iE, ob_1, ob_2, f_X7_cell_at, f_X7_setCell_at, in_0, wi_at, in_0_1, in_0_2, in_0_4, in_0_8, in_0_9, in_0_10, in_0_40, in_0_99, in_1_20, in_1_60, in_0_9999, in_m99_99, in_32_126, in_48_57, hm, eq_self, r4 i hi])
  obtain ⟨Q, h1, h2⟩ := h
  rw [h2] at h1
  exact h1
