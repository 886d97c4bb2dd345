/-! meeting: the class goes through the shifts -/
theorem fb_holes : ∀ (m n : Nat) (f : Nat → Nat), (∀ i, i < n → f i < m) → (∀ i j, i < j → j < n → f i ≠ f j) → n ≤ m := by
  intro m
  induction m with
  | zero =>
    intro n f h1 _
    rcases Nat.eq_zero_or_pos n with h | h
    · omega
    · exact absurd (h1 0 h) (Nat.not_lt_zero _)
  | succ m ih =>
    intro n f h1 h2
    by_cases hx : ∃ i, i < n ∧ f i = m
    · obtain ⟨a, ha, hfa⟩ := hx
      have hg := ih (n - 1) (fun i => if i < a then f i else f (i + 1)) (by
        intro i hi
        by_cases q : i < a
        · simp only [if_pos q]
          have b1 := h1 i (by omega)
          have b2 := h2 i a q ha
          omega
        · simp only [if_neg q]
          have b1 := h1 (i + 1) (by omega)
          have b2 := h2 a (i + 1) (by omega) (by omega)
          omega) (by
        intro i j hij hj
        by_cases q : i < a
        · by_cases r : j < a
          · simp only [if_pos q, if_pos r]
            exact h2 i j hij (by omega)
          · simp only [if_pos q, if_neg r]
            exact h2 i (j + 1) (by omega) (by omega)
        · have r : ¬ j < a := by omega
          simp only [if_neg q, if_neg r]
          exact h2 (i + 1) (j + 1) (by omega) (by omega))
      omega
    · have hg := ih n f (fun i hi => by
        have b1 := h1 i hi
        have b2 : f i ≠ m := fun e => hx ⟨i, hi, e⟩
        omega) h2
      omega
/-- two of them in one place -/
def mc (j : Nat) : Nat := 10 * (j / 2) + j % 2
def sg (T : Ob) (a j : Nat) : Nat := mv a (T.2 5 (j / 2)).toNatClampNeg (j % 2)
theorem sg_le (T : Ob) {a : Nat} (j : Nat) (ha : a ≤ 80) : sg T a j ≤ 80 := mv_le _ _ ha
/-- whether all that is asked is so at the shift c / 81 and that ahead c % 81 (with 40 more) -/
def gl (T As : Ob) (D y q c : Nat) : Bool := allq T As D y (nI (c / 81) - nI 40) (nI (c % 81) - nI 40) q
def gc (T : Ob) (A : Nat → Nat) (W c : Nat) : Nat := 81 * sg T (A (c / W)) (c % W) + A (c / W)
def ext (f : Nat → Nat) (n v : Nat) : Nat → Nat := fun t => if t = n then v else f t
theorem ext_s (f : Nat → Nat) (n v : Nat) : ext f n v n = v := if_pos rfl
theorem ext_n (f : Nat → Nat) {n t : Nat} (v : Nat) (h : t ≠ n) : ext f n v t = f t := if_neg h
/-- the shifts that were come to: which (A), by which pair of a shift before and a move (C), how far (Dp); all pairs below K are done -/
def TBL (T As : Ob) (D y q W a0 : Nat) (A C Dp : Nat → Nat) (Q K : Nat) : Prop := 0 < Q ∧ A 0 = a0 ∧ C 0 = 0 ∧ Dp 0 = 0 ∧ (∀ t, t < Q → A t ≤ 80) ∧ (∀ s t, s < Q → t < Q → A s = A t → s = t) ∧ (∀ s, 0 < s → s < Q → C s < K ∧ C s / W < s ∧ A s = sg T (A (C s / W)) (C s % W) ∧ Dp s = Dp (C s / W) + 1) ∧ (∀ s t, 0 < s → s < t → t < Q → C s < C t) ∧ (∀ c, c < K → ∃ s, s < Q ∧ A s = sg T (A (c / W)) (c % W) ∧ (s = 0 ∨ C s ≤ c)) ∧ (∀ c, c < K → gl T As D y q (gc T A W c) = false) ∧ (∀ c, c < K → c / W < Q ∧ Dp (c / W) < 9)
def XT (o : Ob) (W : Nat) (A C Dp : Nat → Nat) (Q : Nat) : Prop := o.1 5 = nI Q ∧ (∀ t, t < Q → o.2 0 t = nI (A t) ∧ o.2 1 t = nI (C t / W) ∧ o.2 2 t = nI (mc (C t % W)) ∧ o.2 3 t = nI (Dp t)) ∧ ∀ a, a < 81 → (o.2 4 a = 0 ↔ ∀ t, t < Q → A t ≠ a)
theorem TBL.Q_le {T As : Ob} {D y q W a0 : Nat} {A C Dp : Nat → Nat} {Q K : Nat} (h : TBL T As D y q W a0 A C Dp Q K) : Q ≤ 81 := by
  obtain ⟨h1, h2, h2c, h3, h4, h5, -⟩ := h
  exact fb_holes 81 Q A (fun i hi => by have := h4 i hi; omega) (fun i j hij hj e => by have := h5 i j (by omega) hj e; omega)
theorem TBL.seen {T As : Ob} {D y q W a0 : Nat} {A C Dp : Nat → Nat} {Q K : Nat} (h : TBL T As D y q W a0 A C Dp Q K) (hg : gl T As D y q (gc T A W K) = false) (hK : K / W < Q) (hD : Dp (K / W) < 9) (hs : ∃ s, s < Q ∧ A s = sg T (A (K / W)) (K % W)) : TBL T As D y q W a0 A C Dp Q (K + 1) := by
  obtain ⟨h1, h2, h2c, h3, h4, h5, h6, h7, h8, h9, h10⟩ := h
  refine ⟨h1, h2, h2c, h3, h4, h5, fun s s1 s2 => ?_, h7, fun c hc => ?_, fun c hc => ?_, fun c hc => ?_⟩
  · obtain ⟨a, b⟩ := h6 s s1 s2
    exact ⟨by omega, b⟩
  · by_cases hcK : c = K
    · subst hcK
      obtain ⟨s, s1, s2⟩ := hs
      refine ⟨s, s1, s2, ?_⟩
      rcases Nat.eq_zero_or_pos s with z | z
      · exact Or.inl z
      · exact Or.inr (Nat.le_of_lt (h6 s z s1).1)
    · exact h8 c (by omega)
  · by_cases hcK : c = K
    · subst hcK; exact hg
    · exact h9 c (by omega)
  · by_cases hcK : c = K
    · subst hcK; exact ⟨hK, hD⟩
    · exact h10 c (by omega)
theorem TBL.new {T As : Ob} {D y q W a0 : Nat} {A C Dp : Nat → Nat} {Q K : Nat} (h : TBL T As D y q W a0 A C Dp Q K) (hg : gl T As D y q (gc T A W K) = false) (hK : K / W < Q) (hD : Dp (K / W) < 9) (hs : ∀ s, s < Q → A s ≠ sg T (A (K / W)) (K % W)) : TBL T As D y q W a0 (ext A Q (sg T (A (K / W)) (K % W))) (ext C Q K) (ext Dp Q (Dp (K / W) + 1)) (Q + 1) (K + 1) := by
  obtain ⟨h1, h2, h2c, h3, h4, h5, h6, h7, h8, h9, h10⟩ := h
  have hA : ∀ t, t < Q → ext A Q (sg T (A (K / W)) (K % W)) t = A t := fun t ht => ext_n _ _ (by omega)
  have hC : ∀ t, t < Q → ext C Q K t = C t := fun t ht => ext_n _ _ (by omega)
  have hDp : ∀ t, t < Q → ext Dp Q (Dp (K / W) + 1) t = Dp t := fun t ht => ext_n _ _ (by omega)
  have hcW : ∀ c, c < K → c / W < Q := fun c hc => (h10 c hc).1
  refine ⟨by omega, (hA 0 h1).trans h2, (hC 0 h1).trans h2c, (hDp 0 h1).trans h3, fun t ht => ?_, fun s t hs1 ht e => ?_, fun s s1 s2 => ?_, fun s t s1 s2 s3 => ?_, fun c hc => ?_, fun c hc => ?_, fun c hc => ?_⟩
  · by_cases htQ : t = Q
    · subst htQ; rw [ext_s]; exact sg_le T _ (h4 _ hK)
    · rw [hA t (by omega)]; exact h4 t (by omega)
  · by_cases hsQ : s = Q
    · by_cases htQ : t = Q
      · omega
      · subst hsQ
        rw [ext_s, hA t (by omega)] at e
        exact absurd e.symm (hs t (by omega))
    · by_cases htQ : t = Q
      · subst htQ
        rw [ext_s, hA s (by omega)] at e
        exact absurd e (hs s (by omega))
      · rw [hA s (by omega), hA t (by omega)] at e
        exact h5 s t (by omega) (by omega) e
  · by_cases hsQ : s = Q
    · subst hsQ
      rw [ext_s, ext_s, ext_s, hA _ hK, hDp _ hK]
      exact ⟨by omega, hK, rfl, rfl⟩
    · obtain ⟨a, b, c, d⟩ := h6 s s1 (by omega)
      rw [hC s (by omega), hA s (by omega), hDp s (by omega), hA _ (by omega), hDp _ (by omega)]
      exact ⟨by omega, b, c, d⟩
  · by_cases htQ : t = Q
    · subst htQ
      rw [ext_s, hC s (by omega)]
      exact (h6 s s1 (by omega)).1
    · rw [hC s (by omega), hC t (by omega)]
      exact h7 s t s1 s2 (by omega)
  · by_cases hcK : c = K
    · subst hcK
      refine ⟨Q, by omega, ?_, Or.inr ?_⟩
      · rw [ext_s, hA _ hK]
      · rw [ext_s]; exact Nat.le_refl _
    · obtain ⟨s, s1, s2, s3⟩ := h8 c (by omega)
      refine ⟨s, by omega, ?_, ?_⟩
      · rw [hA s s1, hA _ (hcW c (by omega))]; exact s2
      · rw [hC s s1]; exact s3
  · by_cases hcK : c = K
    · subst hcK
      unfold gc
      rw [hA _ hK]
      exact hg
    · unfold gc
      rw [hA _ (hcW c (by omega))]
      exact h9 c (by omega)
  · by_cases hcK : c = K
    · subst hcK
      rw [hDp _ hK]
      exact ⟨by omega, hD⟩
    · obtain ⟨a, b⟩ := h10 c (by omega)
      rw [hDp _ a]
      exact ⟨by omega, b⟩
theorem sub40 (a : Nat) : nI a - nI 40 + 40 = nI a := Int32.sub_add_cancel _ _
/-- a shift is come to -/
theorem X7_come {o : Ob} {W : Nat} {A C Dp : Nat → Nat} {Q a K : Nat} (hX : XT o W A C Dp Q) (ha : a < 81) (hQ : (∀ t, t < Q → A t ≠ a) → Q < 81) (d : Nat) : ∃ o', f_X4_come o (nI a - nI 40) (nI (K / W)) (nI (mc (K % W))) (nI d) = some o' ∧ ((∃ t, t < Q ∧ A t = a) → o' = o) ∧ ((∀ t, t < Q → A t ≠ a) → XT o' W (ext A Q a) (ext C Q K) (ext Dp Q d) (Q + 1)) ∧ o'.2 6 = o.2 6 := by
  obtain ⟨x1, x2, x3⟩ := hX
  have hn0 : ¬ nI a < 0 := nI_pos (by omega)
  have hn1 : ¬ (81 : Int32) ≤ nI a := nI_ge (b := 81) ha (by omega)
  unfold f_X4_come
  rw [sub40, bnd_def, if_neg hn0, if_neg hn1, if_neg (nI_in ha (by omega)), nI_clamp (by omega)]
  by_cases hz : o.2 4 a = 0
  · have hall := (x3 a ha).mp hz
    have hQ1 := hQ hall
    have hb1 : vp_nar .boolean (1 : Int32) = 1 := b2i_narz true
    refine ⟨stR (stR (stR (stR (stR (stF o 5 (nI (Q + 1))) 0 (upd (o.2 0) Q (nI a))) 1 (upd (o.2 1) Q (nI (K / W)))) 2 (upd (o.2 2) Q (nI (mc (K % W))))) 3 (upd (o.2 3) Q (nI d))) 4 (upd (o.2 4) a 1), ?_, fun h => ?_, fun _ => ⟨rfl, fun t ht => ?_, fun b hb => ?_⟩, rfl⟩
    · rw [if_pos hz, if_neg (show ¬ (nI a < 0 ∨ 81 ≤ a) from fun z => z.elim hn0 (by omega)), bnd_def, hb1, x1, f_X7_setCell_at (by decide) _ hQ1, Option.bind_some, f_X7_setCell_at (by decide) _ hQ1, Option.bind_some, f_X7_setCell_at (by decide) _ hQ1, Option.bind_some, f_X7_setCell_at (by decide) _ hQ1, Option.bind_some, bnd_def, nI_1]
    · obtain ⟨t, t1, t2⟩ := h
      exact absurd t2 (hall t t1)
    · show upd (o.2 0) Q (nI a) t = nI (ext A Q a t) ∧ upd (o.2 1) Q (nI (K / W)) t = nI (ext C Q K t / W) ∧ upd (o.2 2) Q (nI (mc (K % W))) t = nI (mc (ext C Q K t % W)) ∧ upd (o.2 3) Q (nI d) t = nI (ext Dp Q d t)
      by_cases htQ : t = Q
      · subst htQ
        rw [pk_us, pk_us, pk_us, pk_us, ext_s, ext_s, ext_s]
        exact ⟨rfl, rfl, rfl, rfl⟩
      · rw [pk_un htQ, pk_un htQ, pk_un htQ, pk_un htQ, ext_n _ _ htQ, ext_n _ _ htQ, ext_n _ _ htQ]
        exact x2 t (by omega)
    · show (upd (o.2 4) a 1 b = 0 ↔ _)
      by_cases hba : b = a
      · subst hba
        rw [pk_us]
        constructor
        · intro z; exact absurd z (by decide)
        · intro z; exact absurd (ext_s A Q b) (z Q (by omega))
      · rw [pk_un hba, x3 b hb]
        constructor
        · intro z t ht
          by_cases htQ : t = Q
          · subst htQ; rw [ext_s]; exact fun e => hba e.symm
          · rw [ext_n _ _ htQ]; exact z t (by omega)
        · intro z t ht
          have := z t (by omega)
          rw [ext_n _ _ (by omega)] at this
          exact this
  · refine ⟨o, by rw [if_neg hz], fun _ => rfl, fun h => absurd ((x3 a ha).mpr h) hz, rfl⟩
/-- the shifts on the way to s, last first -/
def anc (C : Nat → Nat) (W s : Nat) : Nat → Nat
  | 0 => s
  | n + 1 => C (anc C W s n) / W
theorem anc_at {T As : Ob} {D y q W a0 : Nat} {A C Dp : Nat → Nat} {Q K : Nat} (h : TBL T As D y q W a0 A C Dp Q K) {s : Nat} (hs : s < Q) : ∀ n, n ≤ Dp s → anc C W s n < Q ∧ Dp (anc C W s n) = Dp s - n
  | 0, _ => ⟨hs, rfl⟩
  | n + 1, hn => by
    obtain ⟨a1, a2⟩ := anc_at h hs n (by omega)
    obtain ⟨h1, h2, h2c, h3, h4, h5, h6, -⟩ := h
    have hpos : 0 < anc C W s n := by
      rcases Nat.eq_zero_or_pos (anc C W s n) with z | z
      · rw [z, h3] at a2; omega
      · exact z
    obtain ⟨b1, b2, b3, b4⟩ := h6 _ hpos a1
    refine ⟨?_, ?_⟩
    · show C (anc C W s n) / W < Q
      omega
    · show Dp (C (anc C W s n) / W) = _
      omega
theorem iv_1 : ∀ d, d < 9 → nI (d + 1) - (2 : Int32) = nI d - nI 1 ∧ nI (d + 1) - (1 : Int32) = nI d ∧ nI d - nI (d + 1) < 0 := by decide +kernel
theorem iv_2 : ∀ d, d < 9 → ∀ m, m < d → nI d - nI (m + 1) = nI (d - 1 - m) ∧ nI d - nI (m + 1) + -1 = nI d - nI (m + 1 + 1) := by decide +kernel
theorem X7_writeRow {T As o : Ob} {D y q W a0 : Nat} {A C Dp : Nat → Nat} {Q K : Nat} (h : TBL T As D y q W a0 A C Dp Q K) (hX : XT o W A C Dp Q) {s : Nat} (hs : s < Q) (hD : Dp s < 9) (last : Int32) : ∃ o', f_X4_writeRow o (nI s) last = some o' ∧ o'.1 7 = nI (Dp s + 1) ∧ o'.2 6 (Dp s) = last ∧ ∀ i, i < Dp s → o'.2 6 i = nI (mc (C (anc C W s (Dp s - 1 - i)) % W)) := by
  have hQ := h.Q_le
  obtain ⟨x1, x2, x3⟩ := hX
  obtain ⟨v1, v2, v3⟩ := iv_1 (Dp s) hD
  have hl := loopE (fun t m (o1 : Ob) => f_X4_writeRow_38 t (nI (anc C W s m)) (nI (Dp s) - nI (m + 1)) o1) 0 (Dp s) (by omega) (by omega) (fun m o1 => o1.1 7 = nI (Dp s + 1) ∧ o1.2 1 = o.2 1 ∧ o1.2 2 = o.2 2 ∧ o1.2 6 (Dp s) = last ∧ ∀ i, i < Dp s → Dp s - m ≤ i → o1.2 6 i = nI (mc (C (anc C W s (Dp s - 1 - i)) % W))) (fun o1 => some o1) (stR (stF o 7 (nI (Dp s + 1))) 6 (upd (o.2 6) (Dp s) last)) ⟨rfl, rfl, rfl, pk_us, fun i h1 h2 => by omega⟩
    (fun t o1 h1 => by
      show f_X4_writeRow_38 (t + 1) (nI (anc C W s (Dp s))) (nI (Dp s) - nI (Dp s + 1)) o1 = _
      rw [f_X4_writeRow_38, if_pos v3])
    (fun t m o1 hm h1 => by
      obtain ⟨i0, i1, i2, i3, i4⟩ := h1
      obtain ⟨w1, w2⟩ := iv_2 (Dp s) hD m hm
      obtain ⟨a1, a2⟩ := anc_at h hs m (by omega)
      obtain ⟨r1, r2, r3, r4⟩ := x2 _ a1
      refine ⟨stR o1 6 (upd (o1.2 6) (Dp s - 1 - m) (nI (mc (C (anc C W s m) % W)))), ?_, i0, i1, i2, ?_, fun i hi1 hi2 => ?_⟩
      · show f_X4_writeRow_38 (t + 1) (nI (anc C W s m)) (nI (Dp s) - nI (m + 1)) o1 = f_X4_writeRow_38 t (nI (anc C W s (m + 1))) (nI (Dp s) - nI (m + 1 + 1)) _
        have c1 : f_X7_cell 81 (o1.2 2) (nI (anc C W s m)) = some (nI (mc (C (anc C W s m) % W))) := by rw [i2, f_X7_cell_at (by decide) _ (by omega), r3]
        have c2 : f_X7_cell 81 (o1.2 1) (nI (anc C W s m)) = some (nI (C (anc C W s m) / W)) := by rw [i1, f_X7_cell_at (by decide) _ (by omega), r2]
        have c3 : ¬ nI (Dp s) - nI (m + 1) < 0 := by rw [w1]; exact nI_pos (by omega)
        rw [f_X4_writeRow_38, if_neg c3, c1, Option.bind_some, w2, w1, f_X7_setCell_at (by decide) _ (by omega), Option.bind_some, c2, Option.bind_some, bnd_def]
        rfl
      · show upd (o1.2 6) (Dp s - 1 - m) _ (Dp s) = last
        rw [pk_un (by omega)]
        exact i3
      · show upd (o1.2 6) (Dp s - 1 - m) _ i = _
        by_cases hii : i = Dp s - 1 - m
        · subst hii
          rw [pk_us, show Dp s - 1 - (Dp s - 1 - m) = m by omega]
        · rw [pk_un hii]
          exact i4 i hi1 (by omega))
  obtain ⟨o', c1, c2, c3, c4, c5, c6⟩ := hl
  refine ⟨o', ?_, c2, c5, fun i hi => c6 i hi (by omega)⟩
  obtain ⟨r1, r2, r3, r4⟩ := x2 s hs
  have d1 : f_X7_cell 81 (o.2 3) (nI s) = some (nI (Dp s)) := by rw [f_X7_cell_at (by decide) _ (by omega), r4]
  rw [f_X4_writeRow, d1, Option.bind_some, nI_1, bnd_def, v2, v1, f_X7_setCell_at (by decide) _ hD, Option.bind_some, bnd_def]
  exact c1
