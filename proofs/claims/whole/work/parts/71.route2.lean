theorem kW {W t j : Nat} (h : j < W) : (W * t + j) / W = t ∧ (W * t + j) % W = j := by
  constructor
  · rw [Nat.mul_add_div (by omega), Nat.div_eq_of_lt h, Nat.add_zero]
  · rw [Nat.mul_add_mod, Nat.mod_eq_of_lt h]
/-- a row of pushes was found: by the pair K -/
def FND (T As : Ob) (D y q W : Nat) (A C Dp : Nat → Nat) (Q K : Nat) (o : Ob) : Prop := K / W < Q ∧ Dp (K / W) < 9 ∧ gl T As D y q (gc T A W K) = true ∧ o.1 7 = nI (Dp (K / W) + 1) ∧ o.2 6 (Dp (K / W)) = nI (mc (K % W)) ∧ ∀ i, i < Dp (K / W) → o.2 6 i = nI (mc (C (anc C W (K / W) (Dp (K / W) - 1 - i)) % W))
def LR (T As : Ob) (D y q W a0 t : Nat) (r : Option (Bool × Ob × Ob)) : Prop := (∃ o st A C Dp Q, r = some (false, o, st) ∧ st.1 3 = nI y ∧ TBL T As D y q W a0 A C Dp Q (W * (t + 1)) ∧ XT o W A C Dp Q ∧ t < Q) ∨ (∃ o st A C Dp Q K, r = some (true, o, st) ∧ TBL T As D y q W a0 A C Dp Q K ∧ FND T As D y q W A C Dp Q K o)
/-- the state as the pair K is looked at -/
def LI (T As : Ob) (D y q W a0 t K : Nat) (o st : Ob) : Prop := st.1 3 = nI y ∧ ∃ A C Dp Q, TBL T As D y q W a0 A C Dp Q K ∧ XT o W A C Dp Q ∧ t < Q ∧ Dp t < 9 ∧ st.1 1 = nI (A t) - nI 40
theorem X7_try {T As M : Ob} {q S U L N D y a0 t p w : Nat} (hT : TK T S U L N D) (hA : AR As M q S U L) (hy : y < 2 ^ 31) (hp : p < N) (hw : w < 2) {o st : Ob} (h : LI T As D y q (2 * N) a0 t (2 * N * t + (2 * p + w)) o st) (x18 : Int32) (kL : Int32 → Ob → Ob → Option (Bool × Ob × Ob)) (n : Nat) : LR T As D y q (2 * N) a0 t (f_X4_leave_30 T As (nI t) (nI p) kL (n + 1) (nI w) o st) ∨ ∃ o' st', f_X4_leave_30 T As (nI t) (nI p) kL (n + 1) (nI w) o st = f_X4_leave_30 T As (nI t) (nI p) kL n (nI (w + 1)) o' st' ∧ LI T As D y q (2 * N) a0 t (2 * N * t + (2 * p + w) + 1) o' st' := by
  obtain ⟨s3, A, C, Dp, Q, hB, hX, htQ, hDt, s1⟩ := h
  have hQ81 := hB.Q_le
  have hA80 := hB.2.2.2.2.1 t htQ
  have lN := hT.2.2.2.2.2.2.1
  obtain ⟨inc, i1, i2, i3⟩ := hT.2.2.2.2.2.2.2.2.2.2.2.2.2.2.2.1 p hp
  obtain ⟨k1, k2⟩ := kW (W := 2 * N) (t := t) (j := 2 * p + w) (by omega)
  have hK : (2 * N * t + (2 * p + w)) / (2 * N) = t := k1
  have hK2 : (2 * N * t + (2 * p + w)) % (2 * N) = 2 * p + w := k2
  generalize hKK : 2 * N * t + (2 * p + w) = K at *
  have j1 : (2 * p + w) / 2 = p := by omega
  have j2 : (2 * p + w) % 2 = w := by omega
  have hsg : sg T (A t) (2 * p + w) = mv (A t) inc w := by
    unfold sg
    rw [j1, j2, i3, nI_clamp (by omega)]
  have hsgl : sg T (A t) (2 * p + w) ≤ 80 := sg_le T _ hA80
  have hq7 : f_X7_shiftBehind (st.1 1) (T.2 5 p) (nI w) = nI (sg T (A t) (2 * p + w)) - nI 40 := by
    rw [s1, i3, (sh_dec w hw (A t) (by omega) inc (by omega)).2, hsg]
  have hgc : gc T A (2 * N) K = 81 * sg T (A t) (2 * p + w) + A t := by
    unfold gc
    rw [hK, hK2]
  have hgl : gl T As D y q (gc T A (2 * N) K) = allq T As D y (nI (sg T (A t) (2 * p + w)) - nI 40) (nI (A t) - nI 40) q := by
    unfold gl
    rw [hgc, show (81 * sg T (A t) (2 * p + w) + A t) / 81 = sg T (A t) (2 * p + w) by omega, show (81 * sg T (A t) (2 * p + w) + A t) % 81 = A t by omega]
  have hso : f_X0_allSo As T (stF st 0 (nI (sg T (A t) (2 * p + w)) - nI 40)) = some (gl T As D y q (gc T A (2 * N) K)) := by
    rw [hgl, X7_allSo (P := stF st 0 (nI (sg T (A t) (2 * p + w)) - nI 40)) hT hA hy s3]
    show some (allq T As D y _ (st.1 1) q) = _
    rw [s1]
    rfl
  have hn : ¬ (1 : Int32) < nI w := nI_nlt (a := 1) (by omega) (by omega)
  have hmc : (10 : Int32) * nI p + nI w = nI (mc (2 * p + w)) := by
    unfold mc
    rw [j1, j2, show (10 : Int32) = nI 10 from rfl, pk_mul, nI_add]
  have hcell : f_X7_cell 4 (T.2 5) (nI p) = some (T.2 5 p) := f_X7_cell_at (by decide) _ (by omega)
  rw [f_X4_leave_30, if_neg hn, hcell, Option.bind_some, hq7, bnd_def, hso, Option.bind_some, hmc]
  cases hg : gl T As D y q (gc T A (2 * N) K) with
  | true =>
    left
    rw [if_neg (show ¬ b2i true = 0 by decide)]
    obtain ⟨o', w1, w2, w3, w4⟩ := X7_writeRow hB hX htQ hDt (nI (mc (2 * p + w)))
    refine Or.inr ⟨o', stF st 0 (nI (sg T (A t) (2 * p + w)) - nI 40), A, C, Dp, Q, K, ?_, hB, ?_⟩
    · rw [w1, Option.bind_some]
    · unfold FND
      rw [hK, hK2]
      exact ⟨htQ, hDt, hg, w2, w3, w4⟩
  | false =>
    right
    rw [if_pos (show b2i false = 0 by decide)]
    have c1 : f_X7_cell 81 (o.2 3) (nI t) = some (nI (Dp t)) := by rw [f_X7_cell_at (by decide) _ (by omega), (hX.2.1 t htQ).2.2.2]
    have hnew : (∀ s, s < Q → A s ≠ sg T (A t) (2 * p + w)) → Q < 81 := by
      intro hs
      have := TBL.new hB hg (by rw [hK]; exact htQ) (by rw [hK]; exact hDt) (by rw [hK, hK2]; exact hs)
      have := this.Q_le
      omega
    obtain ⟨o', e1, e2, e3, e4⟩ := X7_come (K := K) hX (show sg T (A t) (2 * p + w) < 81 by omega) hnew (Dp t + 1)
    rw [hK, hK2] at e1
    refine ⟨o', stF st 0 (nI (sg T (A t) (2 * p + w)) - nI 40), ?_, s3, ?_⟩
    · rw [c1, Option.bind_some, nI_1, e1, Option.bind_some, bnd_def, nI_1]
    · by_cases hs : ∀ s, s < Q → A s ≠ sg T (A t) (2 * p + w)
      · have hB2 := TBL.new hB hg (by rw [hK]; exact htQ) (by rw [hK]; exact hDt) (by rw [hK, hK2]; exact hs)
        rw [hK, hK2] at hB2
        refine ⟨_, _, _, _, hB2, e3 hs, by omega, ?_, ?_⟩
        · rw [ext_n _ _ (by omega)]; exact hDt
        · rw [ext_n _ _ (by omega)]; exact s1
      · have hs2 : ∃ s, s < Q ∧ A s = sg T (A t) (2 * p + w) := by
          rcases Classical.em (∃ s, s < Q ∧ A s = sg T (A t) (2 * p + w)) with z | z
          · exact z
          · exact absurd (fun s h1 h2 => z ⟨s, h1, h2⟩) hs
        rw [e2 hs2]
        exact ⟨A, C, Dp, Q, TBL.seen hB hg (by rw [hK]; exact htQ) (by rw [hK]; exact hDt) (by rw [hK, hK2]; exact hs2), hX, htQ, hDt, s1⟩
theorem X7_leave {T As M : Ob} {q S U L N D y a0 t : Nat} (hT : TK T S U L N D) (hN1 : 1 ≤ N) (hA : AR As M q S U L) (hy : y < 2 ^ 31) {o st : Ob} {A C Dp : Nat → Nat} {Q : Nat} (s3 : st.1 3 = nI y) (hB : TBL T As D y q (2 * N) a0 A C Dp Q (2 * N * t)) (hX : XT o (2 * N) A C Dp Q) (htQ : t < Q) (hDt : Dp t < 9) : LR T As D y q (2 * N) a0 t (f_X4_leave o T st As (nI t)) := by
  have hQ81 := hB.Q_le
  have hTN := hT.2.1
  have lN := hT.2.2.2.2.2.2.1
  have c1 : f_X7_cell 81 (o.2 0) (nI t) = some (nI (A t)) := by rw [f_X7_cell_at (by decide) _ (by omega), (hX.2.1 t htQ).1]
  unfold f_X4_leave
  rw [c1, Option.bind_some, bnd_def]
  refine loopP (fun n p (z : Ob × Ob) => f_X4_leave_18 T As (nI t) n (nI p) z.1 z.2) 0 N (by omega) (by omega) (fun p z => LI T As D y q (2 * N) a0 t (2 * N * t + 2 * p) z.1 z.2) (LR T As D y q (2 * N) a0 t) (o, stF st 1 (nI (A t) - nI 40)) ⟨s3, A, C, Dp, Q, hB, hX, htQ, hDt, rfl⟩
    (fun n z hz => by
      obtain ⟨z3, A', C', Dp', Q', hB', hX', htQ', hDt', z1⟩ := hz
      show LR T As D y q (2 * N) a0 t (f_X4_leave_18 T As (nI t) (n + 1) (nI N) z.1 z.2)
      rw [f_X4_leave_18, hTN, if_pos (nI_le (Nat.le_refl _) (by omega))]
      refine Or.inl ⟨z.1, z.2, A', C', Dp', Q', rfl, z3, ?_, hX', htQ'⟩
      rw [Nat.mul_succ]
      exact hB')
    (fun n p z hp hz => ?_)
  show LR T As D y q (2 * N) a0 t (f_X4_leave_18 T As (nI t) (n + 1) (nI p) z.1 z.2) ∨ ∃ z' : Ob × Ob, f_X4_leave_18 T As (nI t) (n + 1) (nI p) z.1 z.2 = f_X4_leave_18 T As (nI t) n (nI (p + 1)) z'.1 z'.2 ∧ LI T As D y q (2 * N) a0 t (2 * N * t + 2 * (p + 1)) z'.1 z'.2
  rw [f_X4_leave_18, hTN, if_neg (nI_ge hp (by omega))]
  refine loopP (fun n' w (z : Ob × Ob) => f_X4_leave_30 T As (nI t) (nI p) (f_X4_leave_18 T As (nI t) n) n' (nI w) z.1 z.2) 0 2 (by omega) (by omega) (fun w z => LI T As D y q (2 * N) a0 t (2 * N * t + (2 * p + w)) z.1 z.2) (fun r => LR T As D y q (2 * N) a0 t r ∨ ∃ z' : Ob × Ob, r = f_X4_leave_18 T As (nI t) n (nI (p + 1)) z'.1 z'.2 ∧ LI T As D y q (2 * N) a0 t (2 * N * t + 2 * (p + 1)) z'.1 z'.2) z hz
    (fun n' z' hz' => by
      refine Or.inr ⟨z', ?_, hz'⟩
      show f_X4_leave_30 T As (nI t) (nI p) (f_X4_leave_18 T As (nI t) n) (n' + 1) (nI 2) z'.1 z'.2 = _
      rw [f_X4_leave_30, if_pos (by decide), bnd_def, nI_1])
    (fun n' w z' hw hz' => ?_)
  rcases X7_try hT hA hy hp hw hz' 0 (f_X4_leave_18 T As (nI t) n) n' with h | ⟨o', st', h1, h2⟩
  · exact Or.inl (Or.inl h)
  · exact Or.inr ⟨(o', st'), h1, h2⟩
/-- what the class's search comes to -/
def FR7 (T As : Ob) (D y q W a0 : Nat) (r : Option (Bool × Ob × Ob)) : Prop := ∃ o st A C Dp Q K, TBL T As D y q W a0 A C Dp Q K ∧ ((r = some (false, o, st) ∧ ∃ P, K = W * P ∧ P ≤ Q ∧ (P = Q ∨ 9 ≤ Dp P)) ∨ (r = some (true, o, st) ∧ FND T As D y q W A C Dp Q K o))
theorem X7_clear (o : Ob) : ∃ o', f_X4_clear o = some o' ∧ o'.1 5 = nI 0 ∧ (∀ a, a < 81 → o'.2 4 a = 0) := by
  have hb1 : vp_nar .boolean (0 : Int32) = 0 := b2i_narz false
  have hl := loopE (fun t i (o1 : Ob) => f_X4_clear_7 t (nI i) o1) 0 81 (by omega) (by omega) (fun i o1 => o1.1 5 = nI 0 ∧ ∀ a, a < i → o1.2 4 a = 0) (fun o1 => some o1) (stF o 5 (nI 0)) ⟨rfl, fun a h => absurd h (by omega)⟩
    (fun t o1 h => by
      show f_X4_clear_7 (t + 1) (nI 81) o1 = _
      rw [f_X4_clear_7, if_pos (by decide)])
    (fun t i o1 hi h => by
      obtain ⟨h1, h2⟩ := h
      have hn : ¬ (81 : Int32) ≤ nI i := nI_ge (b := 81) hi (by omega)
      refine ⟨stR o1 4 (upd (o1.2 4) i 0), ?_, h1, fun a ha => ?_⟩
      · show f_X4_clear_7 (t + 1) (nI i) o1 = f_X4_clear_7 t (nI (i + 1)) _
        rw [f_X4_clear_7, if_neg hn, if_neg (nI_in hi (by omega)), nI_clamp (by omega), bnd_def, hb1, bnd_def, nI_1]
      · show upd (o1.2 4) i 0 a = 0
        by_cases hai : a = i
        · subst hai; exact pk_us
        · rw [pk_un hai]; exact h2 a (by omega))
  obtain ⟨o', h1, h2, h3⟩ := hl
  exact ⟨o', h1, h2, h3⟩
theorem X7_find {T As M o st : Ob} {q S U L N D y a0 b0 : Nat} (hT : TK T S U L N D) (hN1 : 1 ≤ N) (hA : AR As M q S U L) (hy : y < 2 ^ 31) (s3 : st.1 3 = nI y) (ha0 : a0 ≤ 80) (hb0 : b0 ≤ 80) (s0 : st.1 0 = nI a0 - nI 40) (s1 : st.1 1 = nI b0 - nI 40) : (gl T As D y q (81 * a0 + b0) = true ∧ f_X4_find o T st As = some (true, stF o 7 (nI 0), st)) ∨ (gl T As D y q (81 * a0 + b0) = false ∧ FR7 T As D y q (2 * N) a0 (f_X4_find o T st As)) := by
  have hgl : gl T As D y q (81 * a0 + b0) = allq T As D y (nI a0 - nI 40) (nI b0 - nI 40) q := by
    unfold gl
    rw [show (81 * a0 + b0) / 81 = a0 by omega, show (81 * a0 + b0) % 81 = b0 by omega]
  have hso := X7_allSo (P := st) hT hA hy s3
  rw [s0, s1, ← hgl] at hso
  unfold f_X4_find
  rw [hso, Option.bind_some]
  cases hg : gl T As D y q (81 * a0 + b0) with
  | true =>
    left
    rw [if_neg (show ¬ b2i true = 0 by decide)]
    exact ⟨rfl, rfl⟩
  | false =>
    right
    rw [if_pos (show b2i false = 0 by decide)]
    refine ⟨rfl, ?_⟩
    obtain ⟨o1, c1, c2, c3⟩ := X7_clear (stF o 7 0)
    rw [c1, Option.bind_some, s0]
    have hX0 : XT o1 (2 * N) (fun _ => 0) (fun _ => 0) (fun _ => 0) 0 := ⟨c2, fun t ht => absurd ht (by omega), fun a ha => ⟨fun _ t ht => absurd ht (by omega), fun _ => c3 a ha⟩⟩
    obtain ⟨o2, e1, e2, e3, e4⟩ := X7_come (K := 0) hX0 (show a0 < 81 by omega) (fun _ => by omega) 0
    have e1' : f_X4_come o1 (nI a0 - nI 40) 0 0 0 = some o2 := by
      rw [Nat.zero_div, Nat.zero_mod] at e1
      exact e1
    have hX1 := e3 (fun t ht => absurd ht (by omega))
    rw [e1', Option.bind_some]
    have hB0 : TBL T As D y q (2 * N) a0 (ext (fun _ => 0) 0 a0) (ext (fun _ => 0) 0 0) (ext (fun _ => 0) 0 0) (0 + 1) (2 * N * 0) := by
      refine ⟨by omega, rfl, rfl, rfl, fun t ht => ?_, fun s t h1 h2 _ => by omega, fun s h1 h2 => by omega, fun s t h1 h2 h3 => by omega, fun c hc => ?_, fun c hc => ?_, fun c hc => ?_⟩
      · have : t = 0 := by omega
        subst this
        exact ha0
      · rw [Nat.mul_zero] at hc; omega
      · rw [Nat.mul_zero] at hc; omega
      · rw [Nat.mul_zero] at hc; omega
    refine loopP (fun n t (z : Ob × Ob) => f_X4_find_34 T As n (nI t) z.1 z.2) 0 81 (by omega) (by omega) (fun t z => z.2.1 3 = nI y ∧ ∃ A C Dp Q, TBL T As D y q (2 * N) a0 A C Dp Q (2 * N * t) ∧ XT z.1 (2 * N) A C Dp Q ∧ t ≤ Q) (FR7 T As D y q (2 * N) a0) (o2, st) ⟨s3, _, _, _, _, hB0, hX1, by omega⟩
      (fun n z hz => by
        obtain ⟨z3, A, C, Dp, Q, hB, hX, htQ⟩ := hz
        have hQ := hB.Q_le
        show FR7 T As D y q (2 * N) a0 (f_X4_find_34 T As (n + 1) (nI 81) z.1 z.2)
        rw [f_X4_find_34, if_pos (by decide)]
        exact ⟨z.1, z.2, A, C, Dp, Q, 2 * N * 81, hB, Or.inl ⟨rfl, 81, rfl, htQ, Or.inl (by omega)⟩⟩)
      (fun n t z ht hz => ?_)
    obtain ⟨z3, A, C, Dp, Q, hB, hX, htQ⟩ := hz
    have hQ := hB.Q_le
    have hn : ¬ (81 : Int32) ≤ nI t := nI_ge (b := 81) ht (by omega)
    show FR7 T As D y q (2 * N) a0 (f_X4_find_34 T As (n + 1) (nI t) z.1 z.2) ∨ ∃ z' : Ob × Ob, f_X4_find_34 T As (n + 1) (nI t) z.1 z.2 = f_X4_find_34 T As n (nI (t + 1)) z'.1 z'.2 ∧ _
    rw [f_X4_find_34, if_neg hn, hX.1]
    by_cases hQt : Q ≤ t
    · left
      rw [if_pos (nI_le hQt (by omega))]
      exact ⟨z.1, z.2, A, C, Dp, Q, 2 * N * t, hB, Or.inl ⟨rfl, t, rfl, htQ, Or.inl (by omega)⟩⟩
    · have c4 : f_X7_cell 81 (z.1.2 3) (nI t) = some (nI (Dp t)) := by rw [f_X7_cell_at (by decide) _ (by omega), (hX.2.1 t (by omega)).2.2.2]
      have hDl : Dp t < 2 ^ 31 := by
        rcases Nat.eq_zero_or_pos t with z0 | z0
        · rw [z0, hB.2.2.2.1]; decide
        · obtain ⟨b1, b2, b3, b4⟩ := hB.2.2.2.2.2.2.1 t z0 (by omega)
          have := (hB.2.2.2.2.2.2.2.2.2.2 (C t) b1).2
          omega
      rw [if_neg (nI_ge (by omega) (by omega)), c4, Option.bind_some]
      by_cases hD9 : Dp t < 9
      · rw [if_pos (show nI (Dp t) < 9 from nI_lt (b := 9) hD9 (by omega))]
        rcases X7_leave hT hN1 hA hy z3 hB hX (show t < Q by omega) hD9 with ⟨o', st', A', C', Dp', Q', l1, l2, l3, l4, l5⟩ | ⟨o', st', A', C', Dp', Q', K', l1, l2, l3⟩
        · right
          refine ⟨(o', st'), ?_, l2, A', C', Dp', Q', l3, l4, by omega⟩
          rw [l1, Option.bind_some, if_pos (show b2i (false, o', st').1 = 0 from (show b2i false = 0 by decide)), bnd_def, nI_1]
        · left
          rw [l1, Option.bind_some, if_neg (show ¬ b2i (true, o', st').1 = 0 from (show ¬ b2i true = 0 by decide))]
          exact ⟨o', st', A', C', Dp', Q', K', l2, Or.inr ⟨rfl, l3⟩⟩
      · left
        rw [if_neg (show ¬ nI (Dp t) < 9 from nI_nlt (b := 9) (by omega) hDl)]
        exact ⟨z.1, z.2, A, C, Dp, Q, 2 * N * t, hB, Or.inl ⟨rfl, t, rfl, htQ, Or.inr (by omega)⟩⟩
