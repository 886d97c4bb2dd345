def WD (T : Ob) (W x0 : Nat) (A C Dp : Nat → Nat) (K : Nat) (o : Ob) : Prop := o.2 30 (gc T A W K) = nI (Dp (K / W) + 1) ∧ o.2 32 (gc T A W K) = nI (K % W) ∧ o.2 33 (gc T A W K) = nI (rep T A C W x0 (K / W)) ∧ ∀ s, 0 < s → s ≤ K / W → o.2 32 (rep T A C W x0 s) = nI (C s % W) ∧ o.2 33 (rep T A C W x0 s) = nI (rep T A C W x0 (C s / W))
theorem mt73_goal (v1 i : Int32) (t : Nat) {x : Nat} (hx : x < 2 ^ 31) (o : Ob) : f_X8_meeting_73 v1 (t + 1) (nI x) i o = f_X8_meeting_223 v1 (nI x) o := by
  rw [f_X8_meeting_73, if_pos (nI_pos' hx), ite_self]
theorem X8_isGoal {T As M0 o : Ob} {q S U L N D y x : Nat} (hT : TK T S U L N D) (hM : MK M0 T S U L N D) (hA : AR As M0 q S U L) (hy : y < 2 ^ 31) (h3 : M0.2 18 3 = nI y) (e : SQ M0 o) (hx : x < 6561) : f_X8_isGoal o (nI x) = some (gl T As D y q x) := by
  have hMo := hM.sq e
  have hAo := hA.sq e
  have h3o : o.2 18 3 = nI y := by rw [e.2 18 (by omega)]; exact h3
  have h := X8_isSo (M := o) (f := o.2 18) hT hMo (by rw [stR_self]; exact hAo) hy h3o (nI (x / 81) - nI 40) (nI (x % 81) - nI 40)
  rw [stR_self] at h
  have e1 : nI x / (81 : Int32) = nI (x / 81) := pk_div (d := 81) (by omega) (by omega) (by omega)
  have e2 : nI x - nI x / (81 : Int32) * (81 : Int32) = nI (x % 81) := pk_rem (d := 81) (by omega) (by omega) (by omega)
  unfold f_X8_isGoal
  rw [e2, e1]
  show (f_X8_isSo o (nI (x / 81) - nI 40) (nI (x % 81) - nI 40)).bind _ = _
  rw [h]
  rfl
section
variable {T As M0 o : Ob} {D y q W x0 a0 : Nat} {A C Dp : Nat → Nat} {Q K qq R k : Nat} {st dp E : Nat → Nat}
theorem rep_lt (h : TBL T As D y q W a0 A C Dp Q K) (hx : x0 < 6561) {s : Nat} (hs : s < Q) : rep T A C W x0 s < 6561 := by
  unfold rep
  by_cases h0 : s = 0
  · rw [if_pos h0]; exact hx
  · rw [if_neg h0]
    obtain ⟨b1, b2, b3, b4⟩ := h.2.2.2.2.2.2.1 s (by omega) hs
    exact (gc_div (h.2.2.2.2.1 _ (by omega))).2.2
/-- the row that the reference tells, as the class's table has it -/
theorem X8_walk (h : TBL T As D y q W a0 A C Dp Q K) (hx : x0 < 6561) (hKQ : K / W < Q) (hD9 : Dp (K / W) < 9) (hW8 : W ≤ 8) (hW : 0 < W) (hd : WD T W x0 A C Dp K o) {kk : Nat} (hk : kk ≤ Dp (K / W)) : f_X8_meeting_223 (nI kk) (nI (gc T A W K)) o = some (nI (if kk = Dp (K / W) then mc (K % W) else mc (C (anc C W (K / W) (Dp (K / W) - 1 - kk)) % W)), o) := by
  obtain ⟨d1, d2, d3, d4⟩ := hd
  have hgc := (gc_div (T := T) (W := W) (c := K) (h.2.2.2.2.1 _ hKQ)).2.2
  generalize hdd : Dp (K / W) = d at *
  have hlast : ∀ x j : Nat, x < 6561 → j < W → o.2 32 x = nI j → f_X8_meeting_270 (nI kk) o 1 (nI x) (nI (kk + 1)) = some (nI (mc j), o) := by
    intro x j hx1 hj he
    have e2 : nI j / (2 : Int32) = nI (j / 2) := pk_div (d := 2) (by omega) (by omega) (by omega)
    have e3 : nI j - nI j / (2 : Int32) * (2 : Int32) = nI (j % 2) := pk_rem (d := 2) (by omega) (by omega) (by omega)
    rw [f_X8_meeting_270, nI_1, if_pos (nI_le (Nat.le_refl _) (by omega)), if_neg (nI_in hx1 (by omega)), if_neg (nI_in hx1 (by omega)), nI_clamp (by omega), he, e3, e2]
    show some (nI 10 * nI (j / 2) + nI (j % 2), o) = _
    rw [pk_mul, nI_add]
    rfl
  have hw := loopE (fun t m (_ : Unit) => f_X8_meeting_270 (nI kk) o t (nI (if m = 0 then gc T A W K else rep T A C W x0 (anc C W (K / W) (m - 1)))) (nI (d + 1 - m))) 0 (d - kk) (by omega) (by omega) (fun _ _ => True) (fun _ => some (nI (if kk = d then mc (K % W) else mc (C (anc C W (K / W) (d - 1 - kk)) % W)), o)) () trivial
    (fun t _ _ => by
      show f_X8_meeting_270 (nI kk) o (t + 1) (nI (if d - kk = 0 then gc T A W K else rep T A C W x0 (anc C W (K / W) (d - kk - 1)))) (nI (d + 1 - (d - kk))) = _
      rw [show d + 1 - (d - kk) = kk + 1 by omega]
      have hone : ∀ x : Int32, f_X8_meeting_270 (nI kk) o (t + 1) x (nI (kk + 1)) = f_X8_meeting_270 (nI kk) o (0 + 1) x (nI (kk + 1)) := fun x => by
        rw [f_X8_meeting_270, f_X8_meeting_270, nI_1, if_pos (nI_le (Nat.le_refl _) (by omega)), if_pos (nI_le (Nat.le_refl _) (by omega))]
      rw [hone]
      by_cases hkd : kk = d
      · rw [if_pos (show d - kk = 0 by omega), if_pos hkd]
        exact hlast _ _ hgc (Nat.mod_lt _ hW) d2
      · rw [if_neg (show ¬ d - kk = 0 by omega), if_neg hkd, show d - kk - 1 = d - 1 - kk by omega]
        obtain ⟨a1, a2⟩ := anc_at h hKQ (d - 1 - kk) (by omega)
        have hs0 : 0 < anc C W (K / W) (d - 1 - kk) := by
          rcases Nat.eq_zero_or_pos (anc C W (K / W) (d - 1 - kk)) with z | z
          · rw [z, h.2.2.2.1, hdd] at a2; omega
          · exact z
        have hle : anc C W (K / W) (d - 1 - kk) ≤ K / W := by
          rcases Nat.lt_or_ge (K / W) (anc C W (K / W) (d - 1 - kk)) with z | z
          · have hle2 : ∀ n, n ≤ d → anc C W (K / W) n ≤ K / W := by
              intro n
              induction n with
              | zero => intro _; exact Nat.le_refl _
              | succ n ih =>
                intro hn
                obtain ⟨c1, c2⟩ := anc_at h hKQ n (by omega)
                have hc0 : 0 < anc C W (K / W) n := by
                  rcases Nat.eq_zero_or_pos (anc C W (K / W) n) with z | z
                  · rw [z, h.2.2.2.1, hdd] at c2; omega
                  · exact z
                have := (h.2.2.2.2.2.2.1 _ hc0 c1).2.1
                have := ih (by omega)
                show C (anc C W (K / W) n) / W ≤ K / W
                omega
            have := hle2 (d - 1 - kk) (by omega)
            omega
          · exact z
        exact hlast _ _ (rep_lt h hx a1) (Nat.mod_lt _ hW) (d4 _ hs0 hle).1)
    (fun t m _ hm _ => by
      refine ⟨(), ?_, trivial⟩
      show f_X8_meeting_270 (nI kk) o (t + 1) (nI (if m = 0 then gc T A W K else rep T A C W x0 (anc C W (K / W) (m - 1)))) (nI (d + 1 - m)) = f_X8_meeting_270 (nI kk) o t (nI (if m + 1 = 0 then gc T A W K else rep T A C W x0 (anc C W (K / W) (m + 1 - 1)))) (nI (d + 1 - (m + 1)))
      obtain ⟨r, hr⟩ : ∃ r, d + 1 - m = r + 1 := ⟨d - m, by omega⟩
      rw [show d + 1 - (m + 1) = r by omega, hr, if_neg (show ¬ m + 1 = 0 by omega), Nat.add_sub_cancel, f_X8_meeting_270, nI_1, if_neg (nI_ge (by omega) (by omega))]
      rcases Nat.eq_zero_or_pos m with z | z
      · subst z
        rw [if_pos rfl, if_neg (nI_in hgc (by omega)), nI_clamp (by omega), d3, bnd_def, bnd_def, pk_m1]
        rfl
      · rw [if_neg (show ¬ m = 0 by omega)]
        obtain ⟨a1, a2⟩ := anc_at h hKQ (m - 1) (by omega)
        have hs0 : 0 < anc C W (K / W) (m - 1) := by
          rcases Nat.eq_zero_or_pos (anc C W (K / W) (m - 1)) with z | z
          · rw [z, h.2.2.2.1, hdd] at a2; omega
          · exact z
        have hle : anc C W (K / W) (m - 1) ≤ K / W := by
          have hle2 : ∀ n, n ≤ d → anc C W (K / W) n ≤ K / W := by
            intro n
            induction n with
            | zero => intro _; exact Nat.le_refl _
            | succ n ih =>
              intro hn
              obtain ⟨c1, c2⟩ := anc_at h hKQ n (by omega)
              have hc0 : 0 < anc C W (K / W) n := by
                rcases Nat.eq_zero_or_pos (anc C W (K / W) n) with z | z
                · rw [z, h.2.2.2.1, hdd] at c2; omega
                · exact z
              have := (h.2.2.2.2.2.2.1 _ hc0 c1).2.1
              have := ih (by omega)
              show C (anc C W (K / W) n) / W ≤ K / W
              omega
          exact hle2 (m - 1) (by omega)
        have hrl := rep_lt h hx a1
        rw [if_neg (nI_in hrl (by omega)), nI_clamp (by omega), (d4 _ hs0 hle).2, bnd_def, bnd_def, pk_m1]
        have e : anc C W (K / W) m = C (anc C W (K / W) (m - 1)) / W := by
          obtain ⟨m', rfl⟩ : ∃ m', m = m' + 1 := ⟨m - 1, by omega⟩
          rfl
        rw [e])
  obtain ⟨-, w1, -⟩ := hw
  rw [if_pos rfl, Nat.sub_zero] at w1
  unfold f_X8_meeting_223
  rw [if_neg (nI_pos (by omega)), if_pos (nI_pos' (by omega)), if_neg (nI_in hgc (by omega)), nI_clamp (by omega), d1, if_pos (nI_lt (by omega) (by omega)), if_neg (show ¬ (nI (gc T A W K) < 0 ∨ 6561 ≤ gc T A W K) from fun z => z.elim (nI_pos (by omega)) (by omega)), bnd_def]
  exact w1
/-- the queue is at its end: then nothing was found -/
theorem MI.fin (hW : 0 < W) (h : TBL T As D y q W a0 A C Dp Q K) (hM : MI T As D y q W x0 A C Dp Q M0 qq o R st dp E k) (hqR : R ≤ qq) : ¬ (K / W < Q ∧ Dp (K / W) < 9 ∧ gl T As D y q (gc T A W K) = true) := by
  intro ⟨f1, f2, f3⟩
  have hMM := hM
  obtain ⟨m1, m2, m3, m4, m5, m6, m7, m8, m9, m10, m11, m12, m13⟩ := hM
  have hk0 : 0 < k := by
    obtain ⟨s, s1, -⟩ := m11 0 (by omega)
    exact Nat.lt_of_le_of_lt (Nat.zero_le _) s1
  have hkK : K / W < k := by
    rcases Nat.lt_or_ge (K / W) k with z | z
    · exact z
    · obtain ⟨i, i1, i2, -⟩ := hMM.inq_late hW h hk0 (by omega)
      omega
  obtain ⟨i, i1, i2, -⟩ := m10 K ((div_lt_W hW).mp hkK) f2
  have := m13 i (by omega)
  rw [i2, f3] at this
  cases this
/-- what is found, as the queue has it -/
theorem MI.data (hW : 0 < W) (h : TBL T As D y q W a0 A C Dp Q K) (hx0 : x0 / 81 = A 0) (hM : MI T As D y q W x0 A C Dp Q M0 qq o R st dp E k) (hq0 : 0 < qq) (hqR : qq < R) (hE : E qq = K) {o' : Ob} (hfar : o'.2 30 (st qq) = nI (dp qq)) (hsame : ∀ i, i < R → o'.2 32 (st i) = o.2 32 (st i) ∧ o'.2 33 (st i) = o.2 33 (st i)) : WD T W x0 A C Dp K o' := by
  have hMM := hM
  obtain ⟨m1, m2, m3, m4, m5, m6, m7, m8, m9, m10, m11, m12, m13⟩ := hM
  obtain ⟨e1, e2, e3, e4, e5, e6⟩ := m8 qq hq0 hqR
  have hek : K / W < k := by rw [← hE]; exact (div_lt_W hW).mpr e1
  obtain ⟨s1, s2⟩ := hsame qq hqR
  rw [hE] at e3 e4 e5 e6
  refine ⟨?_, ?_, ?_, fun s h0 hs => ?_⟩
  · rw [← e3, hfar, e4]
  · rw [← e3, s1, e5]
  · rw [← e3, s2, e6]
  · obtain ⟨b1, b2, b3, b4⟩ := h.2.2.2.2.2.2.1 s h0 (by omega)
    obtain ⟨i, i1, i2, i3, i4⟩ := hMM.inq hW h h0 (by omega) (by omega)
    have hi0 : ¬ i = 0 := fun z => by
      rw [z, m6, hx0] at i4
      have := h.2.2.2.2.2.1 0 s h.1 (by omega) i4
      omega
    have hEi := i3.resolve_left hi0
    have hEi2 : E i = C s := by
      rcases Nat.lt_or_ge (E i) (C s) with z | z
      · obtain ⟨s', t1, t2, t3⟩ := h.2.2.2.2.2.2.2.2.1 (E i) (by omega)
        obtain ⟨g1, g2, g3, g4⟩ := m8 i (by omega) i1
        have hAi := h.2.2.2.2.1 (E i / W) ((h.2.2.2.2.2.2.2.2.2.2 (E i) (by omega)).1)
        have h81 : st i / 81 = A s' := by rw [g3, (gc_div hAi).1, t2]
        have hss := h.2.2.2.2.2.1 s' s t1 (by omega) (by rw [← h81, i4])
        subst hss
        have := t3.resolve_left (by omega)
        omega
      · omega
    obtain ⟨g1, g2, g3, g4, g5, g6⟩ := m8 i (by omega) i1
    have hrep : rep T A C W x0 s = st i := by
      unfold rep
      rw [if_neg (by omega)]
      exact i2.symm
    rw [hrep, (hsame i i1).1, (hsame i i1).2, g5, g6, hEi2]
    exact ⟨rfl, rfl⟩
end
theorem X8_search {T As M0 o : Ob} {S U L N D y q x0 a0 K Q : Nat} {A C Dp : Nat → Nat} (hT : TK T S U L N D) (hN1 : 1 ≤ N) (hMo : MK M0 T S U L N D) (hA : AR As M0 q S U L) (hy : y < 2 ^ 31) (h3 : M0.2 18 3 = nI y) (h : TBL T As D y q (2 * N) a0 A C Dp Q K) (hF : FC T As D y q (2 * N) A Dp Q K) (hx : gl T As D y q x0 = false) (hx0 : x0 / 81 = A 0) (hQI : QI o 1 (fun _ => x0) (fun _ => 0)) (hSQ : SQ M0 o) (v1 : Int32) : (∃ o', f_X8_meeting_73 v1 FU (-4 : Int32) (0 : Int32) o = f_X8_meeting_223 v1 (nI (gc T A (2 * N) K)) o' ∧ SQ M0 o' ∧ WD T (2 * N) x0 A C Dp K o' ∧ K / (2 * N) < Q ∧ Dp (K / (2 * N)) < 9 ∧ gl T As D y q (gc T A (2 * N) K) = true) ∨ (∃ o', f_X8_meeting_73 v1 FU (-4 : Int32) (0 : Int32) o = f_X8_meeting_223 v1 (-4 : Int32) o' ∧ SQ M0 o' ∧ ¬ (K / (2 * N) < Q ∧ Dp (K / (2 * N)) < 9 ∧ gl T As D y q (gc T A (2 * N) K) = true)) := by
  have lN := hT.2.2.2.2.2.2.1
  have hW : 0 < 2 * N := by omega
  have hend : ∀ t qq o, (∃ R st dp E k, MI T As D y q (2 * N) x0 A C Dp Q M0 qq o R st dp E k ∧ R ≤ qq) → (∃ o', f_X8_meeting_73 v1 (t + 1) (-4 : Int32) (nI qq) o = f_X8_meeting_223 v1 (nI (gc T A (2 * N) K)) o' ∧ SQ M0 o' ∧ WD T (2 * N) x0 A C Dp K o' ∧ K / (2 * N) < Q ∧ Dp (K / (2 * N)) < 9 ∧ gl T As D y q (gc T A (2 * N) K) = true) ∨ (∃ o', f_X8_meeting_73 v1 (t + 1) (-4 : Int32) (nI qq) o = f_X8_meeting_223 v1 (-4 : Int32) o' ∧ SQ M0 o' ∧ ¬ (K / (2 * N) < Q ∧ Dp (K / (2 * N)) < 9 ∧ gl T As D y q (gc T A (2 * N) K) = true)) := by
    intro t qq o ⟨R, st, dp, E, k, hM, hR⟩
    have hRl := hM.1.R_le
    have hqq : qq = R := by have := hM.2.2.1; omega
    subst hqq
    right
    refine ⟨o, ?_, hM.2.1, hM.fin hW h (Nat.le_refl _)⟩
    rw [f_X8_meeting_73, hM.1.1, if_pos (nI_le (Nat.le_refl _) (by omega))]
  refine loopQ (fun t qq (o : Ob) => f_X8_meeting_73 v1 t (-4 : Int32) (nI qq) o) 0 6561 (by omega) (by omega) (fun qq o => ∃ R st dp E k, MI T As D y q (2 * N) x0 A C Dp Q M0 qq o R st dp E k) (fun r => (∃ o', r = f_X8_meeting_223 v1 (nI (gc T A (2 * N) K)) o' ∧ SQ M0 o' ∧ WD T (2 * N) x0 A C Dp K o' ∧ K / (2 * N) < Q ∧ Dp (K / (2 * N)) < 9 ∧ gl T As D y q (gc T A (2 * N) K) = true) ∨ (∃ o', r = f_X8_meeting_223 v1 (-4 : Int32) o' ∧ SQ M0 o' ∧ ¬ (K / (2 * N) < Q ∧ Dp (K / (2 * N)) < 9 ∧ gl T As D y q (gc T A (2 * N) K) = true))) o
    ⟨1, fun _ => x0, fun _ => 0, fun _ => 0, 0, hQI, hSQ, by omega, by omega, by omega, rfl, rfl, fun i h1 h2 => by omega, fun i j h1 h2 h3 => by omega, fun c hc => absurd hc (by omega), fun i hi => absurd hi (by omega), fun s hs => absurd hs (by omega), fun i hi => absurd hi (by omega)⟩
    (fun t o ho => by
      obtain ⟨R, st, dp, E, k, hM⟩ := ho
      exact hend t 6561 o ⟨R, st, dp, E, k, hM, hM.1.R_le⟩)
    (fun t qq o ht hq ho => ?_)
  obtain ⟨R, st, dp, E, k, hM⟩ := ho
  have hRl := hM.1.R_le
  rcases Nat.lt_or_ge qq R with hqR | hqR
  · obtain ⟨hxl, hqu, hfar, hdp9⟩ := hM.1.2.1 qq hqR
    have hgoal := X8_isGoal (x := st qq) hT hMo hA hy h3 hM.2.1 hxl
    obtain ⟨t, rfl⟩ : ∃ z, t = z + 1 := ⟨t - 1, by omega⟩
    have hbeg : ∀ g, gl T As D y q (st qq) = g → f_X8_meeting_73 v1 (t + 1 + 1) (-4 : Int32) (nI qq) o = f_X8_meeting_113 (nI qq) (f_X8_meeting_73 v1 (t + 1)) (nI (st qq)) (if g = true then nI (st qq) else -4) FU 0 o := by
      intro g hg
      rw [f_X8_meeting_73, hM.1.1, if_neg (nI_ge hqR (by omega)), if_neg (show ¬ (0 : Int32) ≤ -4 by decide), if_neg (nI_in (by omega) (by omega)), nI_clamp (by omega), hqu, bnd_def, hgoal, hg, Option.bind_some]
      unfold f_X8_meeting_109
      cases g with
      | false => rw [if_pos (show b2i false = 0 by decide), if_neg (by decide)]
      | true => rw [if_neg (show ¬ b2i true = 0 by decide), if_pos rfl]
    cases hg : gl T As D y q (st qq) with
    | false =>
      right
      have hb := hbeg false hg
      rw [if_neg (by decide)] at hb
      show ∃ s', f_X8_meeting_73 v1 (t + 1 + 1) (-4 : Int32) (nI qq) o = f_X8_meeting_73 v1 (t + 1) (-4 : Int32) (nI (qq + 1)) s' ∧ _
      rw [hb]
      rcases Nat.eq_zero_or_pos qq with hq0 | hq0
      · subst hq0
        have hk0 : k = 0 := by
          rcases Nat.eq_zero_or_pos k with z | z
          · exact z
          · obtain ⟨i, i1, -⟩ := hM.2.2.2.2.2.2.2.2.2.2.2.1 0 z
            omega
        subst hk0
        have hst0 : st 0 = x0 := hM.2.2.2.2.2.1
        obtain ⟨o', R', st', dp', E', c1, c2⟩ := hM.step_new hT hN1 hMo rfl hqR hg h.1 (by rw [hst0, hx0]) (by rw [hst0]; rfl) (by rw [hM.2.2.2.2.2.2.1, h.2.2.2.1]) (nI 0) (-4) (f_X8_meeting_73 v1 (t + 1))
        exact ⟨o', by rw [c1, nI_1], R', st', dp', E', 0 + 1, c2⟩
      · have hEK : E qq < K := by
          rcases Nat.lt_or_ge (E qq) K with z | z
          · exact z
          · obtain ⟨a1, a2, a3⟩ := hM.goal hW h hF hx hq0 hqR z
            have := (hM.2.2.2.2.2.2.2.1 qq hq0 hqR).2.2.1
            rw [a1] at this
            rw [← this, hg] at a2
            cases a2
        rcases hM.which hW h hq0 hqR hEK with ⟨s, s1, s2, s3⟩ | ⟨k0, k1, k2, k3, k4⟩
        · obtain ⟨o', R', st', dp', E', c1, c2⟩ := hM.step_old hT hN1 hMo rfl h hq0 hqR hg s1 s2 s3 (nI qq) (-4) (f_X8_meeting_73 v1 (t + 1))
          exact ⟨o', by rw [c1, nI_1], R', st', dp', E', k, c2⟩
        · obtain ⟨o', R', st', dp', E', c1, c2⟩ := hM.step_new hT hN1 hMo rfl hqR hg k1 k2 k3 k4 (nI qq) (-4) (f_X8_meeting_73 v1 (t + 1))
          exact ⟨o', by rw [c1, nI_1], R', st', dp', E', k + 1, c2⟩
    | true =>
      left
      have hb := hbeg true hg
      rw [if_pos rfl] at hb
      show (∃ o', f_X8_meeting_73 v1 (t + 1 + 1) (-4 : Int32) (nI qq) o = _ ∧ _) ∨ _
      rw [hb]
      left
      have hq0 : 0 < qq := by
        rcases Nat.eq_zero_or_pos qq with z | z
        · rw [z, hM.2.2.2.2.2.1, hx] at hg; cases hg
        · exact z
      have hEK : K ≤ E qq := by
        rcases Nat.lt_or_ge (E qq) K with z | z
        · have := h.2.2.2.2.2.2.2.2.2.1 (E qq) z
          rw [← (hM.2.2.2.2.2.2.2.1 qq hq0 hqR).2.2.1, hg] at this
          cases this
        · exact z
      obtain ⟨a1, a2, a3⟩ := hM.goal hW h hF hx hq0 hqR hEK
      obtain ⟨e1, e2, e3, e4, e5, e6⟩ := hM.2.2.2.2.2.2.2.1 qq hq0 hqR
      have hfound : K / (2 * N) < Q ∧ Dp (K / (2 * N)) < 9 ∧ gl T As D y q (gc T A (2 * N) K) = true := ⟨a3, by rw [← a1]; exact e2, a2⟩
      have hstK : st qq = gc T A (2 * N) K := by rw [e3, a1]
      by_cases hD : dp qq < 9
      · obtain ⟨o', R', st', dp', jj, c1, p1, p2, p3, p4, p5, p6, p7⟩ := X8_expand hT (hMo.sq hM.2.1) hM.1 hD ⟨qq, hqR, rfl, rfl⟩ (nI qq) (nI (st qq)) (f_X8_meeting_73 v1 (t + 1))
        refine ⟨o', ?_, hM.2.1.trans p7, hM.data hW h hx0 hq0 hqR a1 ?_ (fun i hi => (p3 i hi).2.2), hfound⟩
        · rw [c1, mt73_goal v1 _ t (by omega), hstK]
        · have := (p1.2.1 qq (by omega)).2.2.1
          rw [(p3 qq hqR).1, (p3 qq hqR).2.1] at this
          exact this
      · have hf := hfar
        rw [show dp qq = 9 by omega] at hf
        have c1 := X8_noexp hN1 lN (hMo.sq hM.2.1).2.1 hxl hf (nI qq) (nI (st qq)) (f_X8_meeting_73 v1 (t + 1))
        refine ⟨o, ?_, hM.2.1, hM.data hW h hx0 hq0 hqR a1 hfar (fun i hi => ⟨rfl, rfl⟩), hfound⟩
        rw [c1, mt73_goal v1 _ t (by omega), hstK]
  · left
    exact hend t qq o ⟨R, st, dp, E, k, hM, hqR⟩
