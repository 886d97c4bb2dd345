theorem gc_div {T : Ob} {A : Nat → Nat} {W c : Nat} (h : A (c / W) ≤ 80) : gc T A W c / 81 = sg T (A (c / W)) (c % W) ∧ gc T A W c % 81 = A (c / W) ∧ gc T A W c < 6561 := by
  have := sg_le T (c % W) h
  unfold gc
  omega
theorem div_lt_W {c W k : Nat} (hW : 0 < W) : c / W < k ↔ c < W * k := by
  rw [Nat.div_lt_iff_lt_mul hW, Nat.mul_comm]
def rep (T : Ob) (A C : Nat → Nat) (W x0 s : Nat) : Nat := if s = 0 then x0 else gc T A W (C s)
theorem TBL.mono {T As : Ob} {D y q W a0 : Nat} {A C Dp : Nat → Nat} {Q K : Nat} (h : TBL T As D y q W a0 A C Dp Q K) : ∀ (n s t : Nat), t ≤ n → t < Q → s ≤ t → Dp s ≤ Dp t
  | 0, s, t, hn, _, hs => by
    have h1 : s = 0 := by omega
    have h2 : t = 0 := by omega
    rw [h1, h2]
    exact Nat.le_refl _
  | n + 1, s, t, hn, ht, hs => by
    rcases Nat.eq_zero_or_pos s with h0 | h0
    · rw [h0, h.2.2.2.1]; exact Nat.zero_le _
    · by_cases hst : s = t
      · rw [hst]; exact Nat.le_refl _
      · obtain ⟨b1, b2, b3, b4⟩ := h.2.2.2.2.2.2.1 s h0 (by omega)
        obtain ⟨c1, c2, c3, c4⟩ := h.2.2.2.2.2.2.1 t (by omega) ht
        have hC := h.2.2.2.2.2.2.2.1 s t h0 (by omega) ht
        have hd : C s / W ≤ C t / W := Nat.div_le_div_right (Nat.le_of_lt hC)
        have ih := TBL.mono h n (C s / W) (C t / W) (by omega) (by omega) hd
        omega
def MI (T As : Ob) (D y q W x0 : Nat) (A C Dp : Nat → Nat) (Q : Nat) (M0 : Ob) (qq : Nat) (o : Ob) (R : Nat) (st dp E : Nat → Nat) (k : Nat) : Prop := QI o R st dp ∧ SQ M0 o ∧ qq ≤ R ∧ k ≤ Q ∧ 0 < R ∧ st 0 = x0 ∧ dp 0 = 0 ∧ (∀ i, 0 < i → i < R → E i < W * k ∧ Dp (E i / W) < 9 ∧ st i = gc T A W (E i) ∧ dp i = Dp (E i / W) + 1 ∧ o.2 32 (st i) = nI (E i % W) ∧ o.2 33 (st i) = nI (rep T A C W x0 (E i / W))) ∧ (∀ i j, 0 < i → i < j → j < R → E i < E j) ∧ (∀ c, c < W * k → Dp (c / W) < 9 → ∃ i, i < R ∧ st i = gc T A W c ∧ (i = 0 ∨ E i ≤ c)) ∧ (∀ i, i < qq → ∃ s, s < k ∧ st i / 81 = A s) ∧ (∀ s, s < k → ∃ i, i < qq ∧ st i = rep T A C W x0 s) ∧ (∀ i, i < qq → gl T As D y q (st i) = false)
def FC (T As : Ob) (D y q W : Nat) (A Dp : Nat → Nat) (Q K : Nat) : Prop := (K / W < Q ∧ Dp (K / W) < 9 ∧ gl T As D y q (gc T A W K) = true) ∨ ∃ P, K = W * P ∧ P ≤ Q ∧ (P = Q ∨ 9 ≤ Dp P)
section
variable {T As M0 o : Ob} {D y q W x0 a0 : Nat} {A C Dp : Nat → Nat} {Q K qq R k : Nat} {st dp E : Nat → Nat}
/-- where a shift that is next stands in the queue -/
theorem MI.inq (hW : 0 < W) (h : TBL T As D y q W a0 A C Dp Q K) (hM : MI T As D y q W x0 A C Dp Q M0 qq o R st dp E k) {s : Nat} (h0 : 0 < s) (hs : s < Q) (hsk : s ≤ k) : ∃ i, i < R ∧ st i = gc T A W (C s) ∧ (i = 0 ∨ E i ≤ C s) ∧ st i / 81 = A s := by
  obtain ⟨b1, b2, b3, b4⟩ := h.2.2.2.2.2.2.1 s h0 hs
  have hD := (h.2.2.2.2.2.2.2.2.2.2 (C s) b1).2
  obtain ⟨i, i1, i2, i3⟩ := hM.2.2.2.2.2.2.2.2.2.1 (C s) ((div_lt_W hW).mp (by omega)) hD
  refine ⟨i, i1, i2, i3, ?_⟩
  rw [i2, (gc_div (h.2.2.2.2.1 _ (by omega))).1, b3]
/-- and that it has not been left yet -/
theorem MI.inq_late (hW : 0 < W) (h : TBL T As D y q W a0 A C Dp Q K) (hM : MI T As D y q W x0 A C Dp Q M0 qq o R st dp E k) (h0 : 0 < k) (hk : k < Q) : ∃ i, i < R ∧ qq ≤ i ∧ st i = gc T A W (C k) ∧ (i = 0 ∨ E i ≤ C k) := by
  obtain ⟨i, i1, i2, i3, i4⟩ := hM.inq hW h h0 hk (Nat.le_refl _)
  refine ⟨i, i1, ?_, i2, i3⟩
  rcases Nat.lt_or_ge i qq with z | z
  · obtain ⟨s', s1, s2⟩ := hM.2.2.2.2.2.2.2.2.2.2.1 i z
    have := h.2.2.2.2.2.1 s' k (by omega) hk (by rw [← s2, i4])
    omega
  · exact z
/-- the next in the queue, where no pair is beyond K: a shift that was left, or the next one -/
theorem MI.which (hW : 0 < W) (h : TBL T As D y q W a0 A C Dp Q K) (hM : MI T As D y q W x0 A C Dp Q M0 qq o R st dp E k) (hq0 : 0 < qq) (hqR : qq < R) (hc : E qq < K) : (∃ s, s < k ∧ st qq / 81 = A s ∧ (s = 0 ∨ C s ≤ E qq)) ∨ (0 < k ∧ k < Q ∧ st qq / 81 = A k ∧ st qq = rep T A C W x0 k ∧ dp qq = Dp k) := by
  have hMM := hM
  obtain ⟨m1, m2, m3, m4, m5, m6, m7, m8, m9, m10, m11, m12, m13⟩ := hM
  obtain ⟨e1, e2, e3, e4, e5, e6⟩ := m8 qq hq0 hqR
  have hek : E qq / W < k := (div_lt_W hW).mpr e1
  have hA := h.2.2.2.2.1 (E qq / W) (by omega)
  obtain ⟨s, s1, s2, s3⟩ := h.2.2.2.2.2.2.2.2.1 (E qq) hc
  have hsA : st qq / 81 = A s := by rw [e3, (gc_div hA).1, s2]
  have hk0 : 0 < k := Nat.lt_of_le_of_lt (Nat.zero_le _) hek
  by_cases hsk : s < k
  · exact Or.inl ⟨s, hsk, hsA, s3⟩
  · right
    have hkQ : k < Q := by omega
    obtain ⟨i, i1, i2, i3, i4⟩ := hMM.inq_late hW h hk0 hkQ
    have hi0 : 0 < i := by omega
    have hE : E i ≤ C k := i4.resolve_left (by omega)
    have hCs : C s ≤ E qq := s3.resolve_left (by omega)
    have hs : s = k := by
      rcases Nat.lt_or_ge k s with z | z
      · have hC := h.2.2.2.2.2.2.2.1 k s hk0 z s1
        rcases Nat.lt_or_ge qq i with z2 | z2
        · have := m9 qq i hq0 z2 i1
          omega
        · have : i = qq := by omega
          rw [this] at hE
          omega
      · omega
    subst hs
    have hiq : i = qq := by
      rcases Nat.lt_or_ge qq i with z2 | z2
      · have := m9 qq i hq0 z2 i1
        omega
      · omega
    subst hiq
    have hEk : E i = C s := by omega
    obtain ⟨b1, b2, b3, b4⟩ := h.2.2.2.2.2.2.1 s hk0 hkQ
    refine ⟨hk0, hkQ, hsA, ?_, ?_⟩
    · unfold rep
      rw [if_neg (by omega)]
      exact i3
    · rw [e4, hEk, b4]
/-- a pair that is beyond K: then it is K, and what is asked is so there -/
theorem MI.goal (hW : 0 < W) (h : TBL T As D y q W a0 A C Dp Q K) (hF : FC T As D y q W A Dp Q K) (hM : MI T As D y q W x0 A C Dp Q M0 qq o R st dp E k) (hx : gl T As D y q x0 = false) (hq0 : 0 < qq) (hqR : qq < R) (hc : K ≤ E qq) : E qq = K ∧ gl T As D y q (gc T A W K) = true ∧ K / W < Q := by
  obtain ⟨m1, m2, m3, m4, m5, m6, m7, m8, m9, m10, m11, m12, m13⟩ := hM
  obtain ⟨e1, e2, e3, e4, e5, e6⟩ := m8 qq hq0 hqR
  rcases hF with ⟨f1, f2, f3⟩ | ⟨P, p1, p2, p3⟩
  · obtain ⟨i, i1, i2, i3⟩ := m10 K (by omega) f2
    have hi0 : ¬ i = 0 := fun z => by
      rw [z, m6] at i2
      rw [← i2, hx] at f3
      cases f3
    have hE := i3.resolve_left hi0
    have hiq : ¬ i < qq := fun z => by
      have := m13 i z
      rw [i2, f3] at this
      cases this
    have hiq2 : i = qq := by
      rcases Nat.lt_or_ge qq i with z2 | z2
      · have := m9 qq i hq0 z2 i1
        omega
      · omega
    subst hiq2
    exact ⟨by omega, f3, f1⟩
  · exfalso
    have hek : E qq / W < k := (div_lt_W hW).mpr e1
    have hPE : P ≤ E qq / W := by
      have : W * P / W ≤ E qq / W := Nat.div_le_div_right (by omega)
      rw [Nat.mul_div_cancel_left _ hW] at this
      exact this
    rcases p3 with p3 | p3
    · omega
    · have := h.mono (E qq / W) P (E qq / W) (Nat.le_refl _) (by omega) hPE
      omega
theorem cd_gc {x s j : Nat} (hj : j < W) (hx : x / 81 = A s) : cd T x j = gc T A W (W * s + j) := by
  obtain ⟨k1, k2⟩ := kW (W := W) (t := s) hj
  unfold cd gc
  rw [k1, k2, hx]
theorem MI.step_new {S U L N : Nat} (hT : TK T S U L N D) (hN1 : 1 ≤ N) (hMo : MK M0 T S U L N D) (hWN : W = 2 * N) (hM : MI T As D y q W x0 A C Dp Q M0 qq o R st dp E k) (hqR : qq < R) (hg : gl T As D y q (st qq) = false) (hkQ : k < Q) (hA : st qq / 81 = A k) (hr : st qq = rep T A C W x0 k) (hd : dp qq = Dp k) (qv yv : Int32) (kL : Int32 → Int32 → Ob → Option (Int32 × Ob)) : ∃ o' R' st' dp' E', f_X8_meeting_113 qv kL (nI (st qq)) yv FU (0 : Int32) o = kL yv (qv + 1) o' ∧ MI T As D y q W x0 A C Dp Q M0 (qq + 1) o' R' st' dp' E' (k + 1) := by
  have lN := hT.2.2.2.2.2.2.1
  have hW : 0 < W := by omega
  obtain ⟨m1, m2, m3, m4, m5, m6, m7, m8, m9, m10, m11, m12, m13⟩ := hM
  have hd9 := (m1.2.1 qq hqR).2.2.2
  have hWk : W * (k + 1) = W * k + W := Nat.mul_succ W k
  by_cases hD : Dp k < 9
  · obtain ⟨o', R', st', dp', jj, c1, p1, p2, p3, p4, p5, p6, p7⟩ := X8_expand hT (hMo.sq m2) m1 hD ⟨qq, hqR, rfl, hd⟩ qv yv kL
    rw [← hWN] at p4 p6
    have hEo : ∀ i, i < R → (if i < R then E i else W * k + jj i) = E i := fun i hi => if_pos hi
    have hEn : ∀ i, R ≤ i → (if i < R then E i else W * k + jj i) = W * k + jj i := fun i hi => if_neg (by omega)
    refine ⟨o', R', st', dp', fun i => if i < R then E i else W * k + jj i, c1, p1, m2.trans p7, by omega, by omega, by omega, (p3 0 m5).1.trans m6, (p3 0 m5).2.1.trans m7, fun i h1 h2 => ?_, fun i j h1 h2 h3 => ?_, fun c hc hDc => ?_, fun i hi => ?_, fun s hs => ?_, fun i hi => ?_⟩
    · by_cases hiR : i < R
      · obtain ⟨e1, e2, e3, e4, e5, e6⟩ := m8 i h1 hiR
        obtain ⟨g1, g2, g3, g4⟩ := p3 i hiR
        simp only [hEo i hiR]
        rw [g1, g2, g3, g4]
        exact ⟨by omega, e2, e3, e4, e5, e6⟩
      · obtain ⟨g1, g2, g3, g4, g5⟩ := p4 i (by omega) h2
        obtain ⟨w1, w2⟩ := kW (W := W) (t := k) g1
        simp only [hEn i (by omega)]
        rw [w1, w2, g3, ← hr]
        exact ⟨by omega, hD, g2.trans (cd_gc g1 hA), rfl, g4, g5⟩
    · by_cases hjR : j < R
      · simp only [hEo i (by omega), hEo j hjR]
        exact m9 i j h1 h2 hjR
      · by_cases hiR : i < R
        · simp only [hEo i hiR, hEn j (by omega)]
          have := (m8 i h1 hiR).1
          omega
        · simp only [hEn i (by omega), hEn j (by omega)]
          have := p5 i j (by omega) h2 h3
          omega
    · by_cases hck : c < W * k
      · obtain ⟨i, i1, i2, i3⟩ := m10 c hck hDc
        refine ⟨i, by omega, (p3 i i1).1.trans i2, ?_⟩
        simp only [hEo i i1]
        exact i3
      · obtain ⟨j', hj'⟩ : ∃ j', c = W * k + j' := ⟨c - W * k, by omega⟩
        have hjW : j' < W := by omega
        obtain ⟨i, i1, i2, i3⟩ := p6 j' hjW
        refine ⟨i, i1, ?_, ?_⟩
        · rw [i2, hj']; exact cd_gc hjW hA
        · by_cases hiR : i < R
          · rcases Nat.eq_zero_or_pos i with z | z
            · exact Or.inl z
            · right
              simp only [hEo i hiR]
              have := (m8 i z hiR).1
              omega
          · right
            simp only [hEn i (by omega)]
            have := i3 (by omega)
            omega
    · rw [(p3 i (by omega)).1]
      by_cases hiq : i = qq
      · subst hiq; exact ⟨k, by omega, hA⟩
      · obtain ⟨s, s1, s2⟩ := m11 i (by omega)
        exact ⟨s, by omega, s2⟩
    · by_cases hsk : s = k
      · subst hsk
        exact ⟨qq, by omega, (p3 qq hqR).1.trans hr⟩
      · obtain ⟨i, i1, i2⟩ := m12 s (by omega)
        exact ⟨i, by omega, (p3 i (by omega)).1.trans i2⟩
    · rw [(p3 i (by omega)).1]
      by_cases hiq : i = qq
      · subst hiq; exact hg
      · exact m13 i (by omega)
  · have hD9 : Dp k = 9 := by omega
    have hf := (m1.2.1 qq hqR).2.2.1
    rw [hd, hD9] at hf
    refine ⟨o, R, st, dp, E, X8_noexp hN1 lN (hMo.sq m2).2.1 (m1.2.1 qq hqR).1 hf qv yv kL, m1, m2, by omega, by omega, m5, m6, m7, fun i h1 h2 => ?_, m9, fun c hc hDc => ?_, fun i hi => ?_, fun s hs => ?_, fun i hi => ?_⟩
    · obtain ⟨e1, e2⟩ := m8 i h1 h2
      exact ⟨by omega, e2⟩
    · by_cases hck : c < W * k
      · exact m10 c hck hDc
      · obtain ⟨j', hj'⟩ : ∃ j', c = W * k + j' := ⟨c - W * k, by omega⟩
        have hjW : j' < W := by omega
        rw [hj', (kW hjW).1] at hDc
        omega
    · by_cases hiq : i = qq
      · subst hiq; exact ⟨k, by omega, hA⟩
      · obtain ⟨s, s1, s2⟩ := m11 i (by omega)
        exact ⟨s, by omega, s2⟩
    · by_cases hsk : s = k
      · subst hsk
        exact ⟨qq, by omega, hr⟩
      · obtain ⟨i, i1, i2⟩ := m12 s (by omega)
        exact ⟨i, by omega, i2⟩
    · by_cases hiq : i = qq
      · subst hiq; exact hg
      · exact m13 i (by omega)
theorem MI.step_old {S U L N : Nat} (hT : TK T S U L N D) (hN1 : 1 ≤ N) (hMo : MK M0 T S U L N D) (hWN : W = 2 * N) (h : TBL T As D y q W a0 A C Dp Q K) (hM : MI T As D y q W x0 A C Dp Q M0 qq o R st dp E k) (hq0 : 0 < qq) (hqR : qq < R) (hg : gl T As D y q (st qq) = false) {s : Nat} (hs : s < k) (hA : st qq / 81 = A s) (hC : s = 0 ∨ C s ≤ E qq) (qv yv : Int32) (kL : Int32 → Int32 → Ob → Option (Int32 × Ob)) : ∃ o' R' st' dp' E', f_X8_meeting_113 qv kL (nI (st qq)) yv FU (0 : Int32) o = kL yv (qv + 1) o' ∧ MI T As D y q W x0 A C Dp Q M0 (qq + 1) o' R' st' dp' E' k := by
  have lN := hT.2.2.2.2.2.2.1
  have hW : 0 < W := by omega
  obtain ⟨m1, m2, m3, m4, m5, m6, m7, m8, m9, m10, m11, m12, m13⟩ := hM
  have hd9 := (m1.2.1 qq hqR).2.2.2
  obtain ⟨e1, e2, e3, e4, e5, e6⟩ := m8 qq hq0 hqR
  have hek : E qq / W < k := (div_lt_W hW).mpr e1
  have h11 : ∀ i, i < qq + 1 → ∃ s, s < k ∧ st i / 81 = A s := fun i hi => by
    by_cases hiq : i = qq
    · subst hiq; exact ⟨s, hs, hA⟩
    · exact m11 i (by omega)
  have h12 : ∀ s, s < k → ∃ i, i < qq + 1 ∧ st i = rep T A C W x0 s := fun s hs => by
    obtain ⟨i, i1, i2⟩ := m12 s hs
    exact ⟨i, by omega, i2⟩
  have h13 : ∀ i, i < qq + 1 → gl T As D y q (st i) = false := fun i hi => by
    by_cases hiq : i = qq
    · subst hiq; exact hg
    · exact m13 i (by omega)
  by_cases hD : dp qq < 9
  · obtain ⟨o', R', st', dp', jj, c1, p1, p2, p3, p4, p5, p6, p7⟩ := X8_expand hT (hMo.sq m2) m1 hD ⟨qq, hqR, rfl, rfl⟩ qv yv kL
    rw [← hWN] at p4 p6
    have hDs : Dp s < 9 := by
      rcases hC with z | z
      · rw [z, h.2.2.2.1]; omega
      · rcases Nat.eq_zero_or_pos s with z0 | z0
        · rw [z0, h.2.2.2.1]; omega
        · obtain ⟨b1, b2, b3, b4⟩ := h.2.2.2.2.2.2.1 s z0 (by omega)
          have := h.mono (E qq / W) (C s / W) (E qq / W) (Nat.le_refl _) (by omega) (Nat.div_le_div_right z)
          omega
    have hRR : R' = R := by
      rcases Nat.lt_or_ge R R' with z | z
      · exfalso
        obtain ⟨g1, g2, -⟩ := p4 R (Nat.le_refl _) z
        have hlt : W * s + jj R < W * k := by
          have h1 : W * (s + 1) ≤ W * k := Nat.mul_le_mul_left W hs
          rw [Nat.mul_succ] at h1
          omega
        obtain ⟨i, i1, i2, -⟩ := m10 (W * s + jj R) hlt (by rw [(kW g1).1]; exact hDs)
        have h2 : st' i = st' R := by rw [(p3 i i1).1, i2, g2, cd_gc g1 hA]
        have := p1.2.2.1 i R (by omega) z h2
        omega
      · omega
    subst hRR
    refine ⟨o', R', st', dp', E, c1, p1, m2.trans p7, by omega, m4, m5, (p3 0 m5).1.trans m6, (p3 0 m5).2.1.trans m7, fun i h1 h2 => ?_, m9, fun c hc hDc => ?_, fun i hi => ?_, fun s hs => ?_, fun i hi => ?_⟩
    · obtain ⟨g1, g2, g3, g4⟩ := p3 i h2
      rw [g1, g2, g3, g4]
      exact m8 i h1 h2
    · obtain ⟨i, i1, i2, i3⟩ := m10 c hc hDc
      exact ⟨i, i1, (p3 i i1).1.trans i2, i3⟩
    · rw [(p3 i (by omega)).1]; exact h11 i hi
    · obtain ⟨i, i1, i2⟩ := h12 s hs
      exact ⟨i, i1, (p3 i (by omega)).1.trans i2⟩
    · rw [(p3 i (by omega)).1]; exact h13 i hi
  · have hf := (m1.2.1 qq hqR).2.2.1
    rw [show dp qq = 9 by omega] at hf
    exact ⟨o, R, st, dp, E, X8_noexp hN1 lN (hMo.sq m2).2.1 (m1.2.1 qq hqR).1 hf qv yv kL, m1, m2, by omega, m4, m5, m6, m7, m8, m9, m10, h11, h12, h13⟩
end
