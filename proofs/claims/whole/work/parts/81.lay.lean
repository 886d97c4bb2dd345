theorem X7_clearT (T : Ob) : ∃ o, f_X6_clear T = some o ∧ TK o 0 0 0 0 0 := by
  have hl := loopE (fun t i (o : Ob) => f_X6_clear_2 t (nI i) o) 0 12 (by omega) (by omega) (fun i o => ∀ k, k < i → o.2 0 k = -1000) (fun o => some (stR (stF (stF (stF o 8 (0 : Int32)) 9 (0 : Int32)) 10 (0 : Int32)) 1 (upd (upd (o.2 1) 0 0) 1 0))) T (fun k hk => absurd hk (by omega))
    (fun t o h => by
      have c1 : ∀ f : Nat → Int32, f_X7_setCell 2 f (0 : Int32) (0 : Int32) = some (upd f 0 0) := fun f => f_X7_setCell_at (n := 2) (by decide) f (j := 0) (by decide) 0
      have c2 : ∀ f : Nat → Int32, f_X7_setCell 2 f (1 : Int32) (0 : Int32) = some (upd f 1 0) := fun f => f_X7_setCell_at (n := 2) (by decide) f (j := 1) (by decide) 0
      show f_X6_clear_2 (t + 1) (nI 12) o = _
      rw [f_X6_clear_2, if_pos (by decide), c1, Option.bind_some, c2, Option.bind_some])
    (fun t i o hi h => by
      have hn : ¬ (12 : Int32) ≤ nI i := nI_ge (b := 12) hi (by omega)
      refine ⟨stR o 0 (upd (o.2 0) i (-1000)), ?_, fun k hk => ?_⟩
      · show f_X6_clear_2 (t + 1) (nI i) o = f_X6_clear_2 t (nI (i + 1)) _
        rw [f_X6_clear_2, if_neg hn, f_X7_setCell_at (by decide) _ hi, Option.bind_some, bnd_def, nI_1]
      · show upd (o.2 0) i (-1000) k = -1000
        by_cases hk2 : k = i
        · subst hk2; exact pk_us
        · rw [pk_un hk2]; exact h k (by omega))
  obtain ⟨o, h1, h2⟩ := hl
  refine ⟨_, h1, rfl, rfl, rfl, ?_, ?_, by omega, by omega, by omega, by omega, by omega, fun k hk ht => by omega, fun k hk ht => h2 k hk, fun s hs => absurd hs (by omega), fun s hs => absurd hs (by omega), fun s hs => absurd hs (by omega), fun s hs => absurd hs (by omega), fun s hs => absurd hs (by omega)⟩
  · show upd (upd (o.2 1) 0 0) 1 0 0 = nI 0
    rw [pk_un (by omega), pk_us]; rfl
  · show upd (upd (o.2 1) 0 0) 1 0 1 = nI 0
    rw [pk_us]; rfl
theorem X8_clears (M : Ob) : ∃ o, f_X8_clears M = some o ∧ FM M o ∧ o.1 11 = nI 0 ∧ o.1 14 = nI 0 ∧ o.1 16 = nI 0 ∧ o.2 9 0 = nI 0 ∧ o.2 9 1 = nI 0 ∧ (∀ j, 286 ≤ j → j < 312 → o.2 18 j = nI 0) ∧ ∀ k, k < 8 → o.2 17 k = nI 0 := by
  have hin : ∀ o1 : Ob, ∃ o2, f_X8_clears_52 FU (0 : Int32) o1 = some o2 ∧ o2.1 = o1.1 ∧ (∀ k, k ≠ 18 → o2.2 k = o1.2 k) ∧ FR (o1.2 18) (o2.2 18) 286 ∧ ∀ j, 286 ≤ j → j < 312 → o2.2 18 j = nI 0 := by
    intro o1
    have hl := loopE (fun t i (o : Ob) => f_X8_clears_52 t (nI i) o) 0 26 (by omega) (by omega) (fun i o => o.1 = o1.1 ∧ (∀ k, k ≠ 18 → o.2 k = o1.2 k) ∧ FR (o1.2 18) (o.2 18) 286 ∧ ∀ j, 286 ≤ j → j < 286 + i → o.2 18 j = nI 0) (fun o => some o) o1 ⟨rfl, fun _ _ => rfl, FR.refl _ _, fun j h1 h2 => by omega⟩
      (fun t o h => by
        show f_X8_clears_52 (t + 1) (nI 26) o = _
        rw [f_X8_clears_52, if_pos (by decide)])
      (fun t i o hi h => by
        obtain ⟨a1, a2, a3, a4⟩ := h
        refine ⟨stR o 18 (upd (o.2 18) (286 + i) (nI 0)), ?_, a1, fun k hk => (st4n o hk _).trans (a2 k hk), fun j hj => ?_, fun j h1 h2 => ?_⟩
        · show f_X8_clears_52 (t + 1) (nI i) o = f_X8_clears_52 t (nI (i + 1)) _
          rw [f_X8_clears_52]
          simp (disch := omega) only [↓pk_rem, nl_0, nl_1, nl_2, nl_3, nl_4, nl_6, nl_7, nl_8, nl_9, nl_10, nl_11, nl_12, nl_20, nl_23, nl_24, nl_26, nl_32, nl_39, nl_40, nl_44, nl_48, nl_57, nl_59, nl_60, nl_61, nl_64, nl_81, nl_82, nl_99, nl_100, nl_126, nl_200, nl_208, nl_286, nl_287, nl_290, nl_312, nl_999, nl_6561, nl_9999, nI_add, pk_mul, pk_div, pk_sub, ev_leT, ev_leF, ev_ltT, ev_ltF, ev_eqT, ev_eqF, nI_clamp, nle_T, nle_F, nlt_F, or_false, false_or, or_self, if_true, if_false, bnd_def, Option.bind_some, st1s, st1n, st2, st3, st4s, st4n, eq_self, tf_1, tf_2, b2iT, b2iF, b2iE, ob_1, ob_2, f_X7_cell_at, f_X7_setCell_at, in_0, wi_at, in_0_1, in_0_2, in_0_4, in_0_8, in_0_9, in_0_10, in_0_40, in_0_99, in_1_20, in_1_60, in_0_9999, in_m99_99, in_32_126, in_48_57]
        · show upd (o.2 18) (286 + i) (nI 0) j = _
          rw [pk_un (by omega)]; exact a3 j hj
        · show upd (o.2 18) (286 + i) (nI 0) j = nI 0
          by_cases hj : j = 286 + i
          · subst hj; exact pk_us
          · rw [pk_un hj]; exact a4 j h1 (by omega))
    obtain ⟨o2, h1, h2, h3, h4, h5⟩ := hl
    exact ⟨o2, h1, h2, h3, h4, fun j j1 j2 => h5 j j1 (by omega)⟩
  have hl := loopE (fun t i (o : Ob) => f_X8_clears_31 t (nI i) o) 0 8 (by omega) (by omega) (fun i o => FM M o ∧ o.1 11 = nI 0 ∧ o.1 14 = nI 0 ∧ o.1 16 = nI 0 ∧ o.2 9 0 = nI 0 ∧ o.2 9 1 = nI 0 ∧ ∀ k, k < i → o.2 17 k = nI 0) (fun o => f_X8_clears_52 FU (0 : Int32) o) (stR (stF (stF (stF M 11 (nI 0)) 14 (nI 0)) 16 (nI 0)) 9 (upd (upd (M.2 9) 0 (nI 0)) 1 (nI 0))) ⟨((FM.f M (k := 11) (by omega) _).trans (FM.f _ (k := 14) (by omega) _)).trans ((FM.f _ (k := 16) (by omega) _).trans (FM.r _ (by omega) _)), rfl, rfl, rfl, (pk_un (by omega) : upd (upd (M.2 9) 0 (nI 0)) 1 (nI 0) 0 = _).trans pk_us, (pk_us : upd (upd (M.2 9) 0 (nI 0)) 1 (nI 0) 1 = _), fun k hk => absurd hk (by omega)⟩
    (fun t o h => by
      show f_X8_clears_31 (t + 1) (nI 8) o = _
      rw [f_X8_clears_31, if_pos (by decide)])
    (fun t i o hi h => by
      obtain ⟨a1, a2, a3, a4, a5, a6, a7⟩ := h
      refine ⟨stR o 17 (upd (o.2 17) i (nI 0)), ?_, a1.trans (FM.r o (by omega) _), a2, a3, a4, a5, a6, fun k hk => ?_⟩
      · show f_X8_clears_31 (t + 1) (nI i) o = f_X8_clears_31 t (nI (i + 1)) _
        rw [f_X8_clears_31]
        simp (disch := omega) only [↓pk_rem, nl_0, nl_1, nl_2, nl_3, nl_4, nl_6, nl_7, nl_8, nl_9, nl_10, nl_11, nl_12, nl_20, nl_23, nl_24, nl_26, nl_32, nl_39, nl_40, nl_44, nl_48, nl_57, nl_59, nl_60, nl_61, nl_64, nl_81, nl_82, nl_99, nl_100, nl_126, nl_200, nl_208, nl_286, nl_287, nl_290, nl_312, nl_999, nl_6561, nl_9999, nI_add, pk_mul, pk_div, pk_sub, ev_leT, ev_leF, ev_ltT, ev_ltF, ev_eqT, ev_eqF, nI_clamp, nle_T, nle_F, nlt_F, or_false, false_or, or_self, if_true, if_false, bnd_def, Option.bind_some, st1s, st1n, st2, st3, st4s, st4n, eq_self, tf_1, tf_2, b2iT, b2iF, b2iE, ob_1, ob_2, f_X7_cell_at, f_X7_setCell_at, in_0, wi_at, in_0_1, in_0_2, in_0_4, in_0_8, in_0_9, in_0_10, in_0_40, in_0_99, in_1_20, in_1_60, in_0_9999, in_m99_99, in_32_126, in_48_57]
      · show upd (o.2 17) i (nI 0) k = nI 0
        by_cases hk2 : k = i
        · subst hk2; exact pk_us
        · rw [pk_un hk2]; exact a7 k (by omega))
  obtain ⟨o1, c1, b1, b2, b3, b4, b5, b6, b7⟩ := hl
  obtain ⟨o2, d1, d2, d3, d4, d5⟩ := hin o1
  refine ⟨o2, ?_, b1.trans ⟨fun k _ _ _ _ _ _ => by rw [d2], fun k _ _ _ _ _ _ h18 => d3 k h18, d4⟩, by rw [d2]; exact b2, by rw [d2]; exact b3, by rw [d2]; exact b4, by rw [d3 9 (by omega)]; exact b5, by rw [d3 9 (by omega)]; exact b6, d5, fun k hk => by rw [d3 17 (by omega)]; exact b7 k hk⟩
  unfold f_X8_clears
  rw [bnd_def, bnd_def]
  exact c1.trans d1
theorem TX.fm {Te M M' : Ob} {n : Nat} (h : TX Te M n) (e : FM M M') : TX Te M' n := by
  obtain ⟨t1, t2, t3, t4⟩ := h
  refine ⟨t1, (e.1 21 (by omega) (by omega) (by omega) (by omega) (by omega) (by omega)).trans t2, t3, fun j hj => ?_⟩
  rw [e.2.1 22 (by omega) (by omega) (by omega) (by omega) (by omega) (by omega) (by omega)]
  exact t4 j hj
theorem BADx {T Te M : Ob} {n p : Nat} {kL : Ob → Option (Bool × Ob)} (h : BAD T Te M n p kL) : (∃ f, f_X6_endOfItem T Te (nI p) = some (-4, stR T 7 f)) ∨ (∃ f o'' e, e < 1000 ∧ f_X6_endOfItem T Te (nI p) = some (nI e, stR T 7 f) ∧ f_X6_addItem (stR T 7 f) (nI (lt Te n p)) = some (false, o'')) := h.1
/-- a text read by both -/
theorem read_both {Te M : Ob} {n : Nat} (h : TX Te M n) (Dr : Ob) : ∃ T' M', (∃ p, p < n ∧ f_X6_read Dr Te = some (nI p, T') ∧ f_X8_reads M = some (false, M') ∧ M'.1 24 = nI p ∧ FM M M') ∨ (f_X6_read Dr Te = some (-4, T') ∧ f_X8_reads M = some (true, M') ∧ FM M M' ∧ ∃ S U L N D, DR T' M' S U L N D) := by
  have hn := h.2.2.1
  obtain ⟨T0, c1, c2⟩ := X7_clearT Dr
  obtain ⟨M0, d1, d2, d3, d4, d5, d6, d7, d8, d9⟩ := X8_clears M
  have hD0 : DR T0 M0 0 0 0 0 0 := ⟨c2, d3, d4, d5, d6, d7, fun k hk ht => by omega, fun s hs => absurd hs (by omega), fun s hs => absurd hs (by omega), fun s hs => absurd hs (by omega), fun j j1 j2 _ => d8 j j1 j2⟩
  have hpair := loopQ (fun t i (s : Nat × Ob × Ob) => some (f_X6_read_8 Te t (nI s.1) (nI i) s.2.1, f_X8_reads_14 t s.2.2)) 0 201 (by omega) (by omega) (fun i s => i ≤ s.1 ∧ s.1 ≤ n ∧ s.2.2.1 23 = nI s.1 ∧ s.2.2.1 25 = nI 0 ∧ FM M s.2.2 ∧ ∃ S U L N D, DR s.2.1 s.2.2 S U L N D) (fun r => ∃ T' M', (∃ p, p < n ∧ r = some (some (nI p, T'), some (false, M')) ∧ M'.1 24 = nI p ∧ FM M M') ∨ (r = some (some (-4, T'), some (true, M')) ∧ FM M M' ∧ ∃ S U L N D, DR T' M' S U L N D)) (0, T0, stF (stF M0 23 (nI 0)) 25 (nI 0)) ⟨by omega, by omega, rfl, rfl, d2.trans ((FM.f23 _ _).trans (FM.f25 _ _)), 0, 0, 0, 0, 0, hD0⟩
    (fun t s hs => by
      have := hs.1
      have := hs.2.1
      omega)
    (fun t i s ht hi hs => ?_)
  · rcases hpair with ⟨T', M', ⟨p, hp, hr, h24, hF⟩ | ⟨hr, hF, hDD⟩⟩
    · have hr' := Option.some.inj hr
      refine ⟨T', M', Or.inl ⟨p, hp, ?_, ?_, h24, hF⟩⟩
      · unfold f_X6_read
        rw [c1, Option.bind_some]
        exact congrArg Prod.fst hr'
      · unfold f_X8_reads
        rw [d1, Option.bind_some]
        exact congrArg Prod.snd hr'
    · have hr' := Option.some.inj hr
      refine ⟨T', M', Or.inr ⟨?_, ?_, hF, hDD⟩⟩
      · unfold f_X6_read
        rw [c1, Option.bind_some]
        exact congrArg Prod.fst hr'
      · unfold f_X8_reads
        rw [d1, Option.bind_some]
        exact congrArg Prod.snd hr'
  · obtain ⟨p, T, Mi⟩ := s
    obtain ⟨s1, s2, s3, s4, s5, S, U, L, N, D, s6⟩ := hs
    have hTX := h.fm s5
    have h21 : Mi.1 21 = nI n := hTX.2.1
    have s1' : i ≤ p := s1
    have s2' : p ≤ n := s2
    have s3' : Mi.1 23 = nI p := s3
    have s4' : Mi.1 25 = nI 0 := s4
    show (∃ T' M', (∃ p', p' < n ∧ some (f_X6_read_8 Te (t + 1) (nI p) (nI i) T, f_X8_reads_14 (t + 1) Mi) = some (some (nI p', T'), some (false, M')) ∧ M'.1 24 = nI p' ∧ FM M M') ∨ (some (f_X6_read_8 Te (t + 1) (nI p) (nI i) T, f_X8_reads_14 (t + 1) Mi) = some (some (-4, T'), some (true, M')) ∧ FM M M' ∧ ∃ S U L N D, DR T' M' S U L N D)) ∨ ∃ s' : Nat × Ob × Ob, some (f_X6_read_8 Te (t + 1) (nI p) (nI i) T, f_X8_reads_14 (t + 1) Mi) = some (f_X6_read_8 Te t (nI s'.1) (nI (i + 1)) s'.2.1, f_X8_reads_14 t s'.2.2) ∧ _
    have h98 : ∀ o : Ob, o.1 25 = nI 0 → f_X8_reads_98 o = some (true, o) := fun o ho => by unfold f_X8_reads_98; rw [ho, if_pos (show nI 0 = 0 from rfl)]
    have h98' : ∀ o : Ob, o.1 25 = nI 1 → f_X8_reads_98 o = some (false, o) := fun o ho => by unfold f_X8_reads_98; rw [ho, if_neg (show ¬ nI 1 = 0 by decide)]
    by_cases hpn : p = n
    · left
      subst hpn
      refine ⟨T, Mi, Or.inr ⟨?_, s5, S, U, L, N, D, s6⟩⟩
      have e7 : f_X6_read_8 Te (t + 1) (nI p) (nI i) T = some (-4, T) := by
        rw [f_X6_read_8, h.1]
        by_cases hi2 : (200 : Int32) ≤ nI i
        · rw [if_pos hi2]
        · rw [if_neg hi2, if_pos (nI_le (Nat.le_refl _) (by omega))]
      have e8 : f_X8_reads_14 (t + 1) Mi = some (true, Mi) := by
        rw [f_X8_reads_14, h21, s3', if_pos (nI_le (Nat.le_refl _) (by omega)), h98 Mi s4']
      rw [e7, e8]
    · have hpl : p < n := by omega
      have hi2 : ¬ (200 : Int32) ≤ nI i := nI_ge (b := 200) (by omega) (by omega)
      have h7 : f_X6_read_8 Te (t + 1) (nI p) (nI i) T = (f_X6_endOfItem T Te (nI p)).bind fun q4 : Int32 × Ob => if q4.1 = (-4 : Int32) then (some (nI p, q4.2)) else ((f_X2_letterAt Te (nI p)).bind fun q6 : Int32 => (f_X6_addItem q4.2 q6).bind fun q7 : Bool × Ob => if (b2i q7.1) = 0 then (some (nI p, q7.2)) else (bnd (nI i + (1 : Int32)) fun x9 : Int32 => (f_X6_read_8 Te t) q4.1 x9 q7.2)) := by
        rw [f_X6_read_8, h.1, if_neg hi2, if_neg (nI_ge hpl (by omega))]
      have h8 : f_X8_reads_14 (t + 1) Mi = E8 Mi p (f_X8_reads_14 t) := by
        rw [f_X8_reads_14, h21, s3', if_neg (nI_ge hpl (by omega)), s4', if_pos (show nI 0 = 0 from rfl), bnd_def, nI_1]
        unfold E8 TL
        rfl
      have hlet := X7_letterAt h (show p < 1000 by omega)
      have hne4 : ∀ e : Nat, e < 1000 → ¬ nI e = -4 := fun e he z => by
        have := congrArg Int32.toInt z
        rw [nI_toInt (by omega), show (-4 : Int32).toInt = -4 by decide +kernel] at this
        omega
      rcases item_both hTX hpl s3' s4' s6 (f_X8_reads_14 t) with hB | ⟨f, o'', e, M', S', U', L', N', D', g1, g2, g3, g4, g5, g6, g7, g8, g9⟩
      · left
        obtain ⟨hb7, M', b1, b2, b3, b4⟩ := hB
        obtain ⟨t', rfl⟩ : ∃ z, t = z + 1 := ⟨t - 1, by omega⟩
        have hr8 : f_X8_reads_14 (t' + 1) M' = some (false, M') := by
          rw [f_X8_reads_14]
          by_cases hx : M'.1 21 ≤ M'.1 23
          · rw [if_pos hx, h98' M' b2]
          · rw [if_neg hx, b2, if_neg (show ¬ nI 1 = 0 by decide), h98' M' b2]
        rcases hb7 with ⟨f, e1⟩ | ⟨f, o'', e, e0, e1, e2⟩
        · refine ⟨stR T 7 f, M', Or.inl ⟨p, hpl, ?_, b3, s5.trans b4⟩⟩
          rw [h7, e1, Option.bind_some, if_pos rfl, h8, b1, hr8]
        · refine ⟨o'', M', Or.inl ⟨p, hpl, ?_, b3, s5.trans b4⟩⟩
          rw [h7, e1, Option.bind_some, if_neg (hne4 e e0), hlet, Option.bind_some, e2, Option.bind_some, if_pos (show b2i (false, o'').1 = 0 from (show b2i false = 0 by decide)), h8, b1, hr8]
      · right
        refine ⟨(e, o'', M'), ?_, by show i + 1 ≤ e; omega, g9, g5, g4, s5.trans g6, S', U', L', N', D', g7⟩
        rw [h7, g1, Option.bind_some, if_neg (hne4 e (by omega)), hlet, Option.bind_some, g2, Option.bind_some, if_neg (show ¬ b2i (true, o'').1 = 0 from (show ¬ b2i true = 0 by decide)), bnd_def, nI_1, h8, g3]
/-- the relation behind a reading that leaves what is laid alone -/
theorem REL.fm {Te To No As M M' : Ob} {Pa Ke : PS} (h : REL Te To No Pa Ke As M) (e : FM M M') : REL Te To No Pa Ke As M' := by
  obtain ⟨n, S, U, L, N, D, y, a, k, q, hTe, ⟨hT, hS1, hN1, hM, hR, hPK, hy, ha, hPa, hk, hKe⟩, hA⟩ := h
  have lS := hT.2.2.2.2.2.1
  have la := hPa.2.1
  have lk := hKe.2.1
  obtain ⟨e1, e2, e3⟩ := id e
  refine ⟨n, S, U, L, N, D, y, a, k, q, hTe.fm e, ⟨hT, hS1, hN1, ?_, hR.frame lS e3 (by omega), hPK, hy, ?_, hPa.cong lS (fun j h1 h2 => e3 j (by omega)), ?_, hKe.cong lS (fun j h1 h2 => e3 j (by omega))⟩, ?_⟩
  · unfold MK
    rw [e1 2 (by omega) (by omega) (by omega) (by omega) (by omega) (by omega), e1 5 (by omega) (by omega) (by omega) (by omega) (by omega) (by omega), e1 7 (by omega) (by omega) (by omega) (by omega) (by omega) (by omega), e2 0 (by omega) (by omega) (by omega) (by omega) (by omega) (by omega) (by omega), e2 1 (by omega) (by omega) (by omega) (by omega) (by omega) (by omega) (by omega), e2 3 (by omega) (by omega) (by omega) (by omega) (by omega) (by omega) (by omega), e2 4 (by omega) (by omega) (by omega) (by omega) (by omega) (by omega) (by omega), e2 6 (by omega) (by omega) (by omega) (by omega) (by omega) (by omega) (by omega), e2 8 (by omega) (by omega) (by omega) (by omega) (by omega) (by omega) (by omega)]
    exact hM
  · rw [e1 19 (by omega) (by omega) (by omega) (by omega) (by omega) (by omega)]; exact ha
  · rw [e1 20 (by omega) (by omega) (by omega) (by omega) (by omega) (by omega)]; exact hk
  · unfold AR
    rw [e1 26 (by omega) (by omega) (by omega) (by omega) (by omega) (by omega), e2 27 (by omega) (by omega) (by omega) (by omega) (by omega) (by omega) (by omega), e2 28 (by omega) (by omega) (by omega) (by omega) (by omega) (by omega) (by omega), e2 29 (by omega) (by omega) (by omega) (by omega) (by omega) (by omega) (by omega)]
    exact hA
theorem P_fault {Te To No As M : Ob} {Pa Ke : PS} (h : REL Te To No Pa Ke As M) (o7 Dr : Ob) : ∃ r7 r8, f_X7_fault o7 Te Dr = some r7 ∧ f_X8_fault M = some r8 ∧ r7.1 = r8.1 ∧ REL Te To No Pa Ke As r8.2 := by
  have hh := h
  obtain ⟨n, S, U, L, N, D, y, a, k, q, hTe, -, -⟩ := h
  obtain ⟨T', M', ⟨p, hp, h1, h2, h3, h4⟩ | ⟨h1, h2, h3, -⟩⟩ := read_both hTe Dr
  · refine ⟨(nI p, T'), (nI p, M'), ?_, ?_, rfl, hh.fm h4⟩
    · unfold f_X7_fault; rw [h1]; rfl
    · unfold f_X8_fault
      rw [h2, Option.bind_some, if_pos (show b2i (false, M').1 = 0 from (show b2i false = 0 by decide))]
      show some (M'.1 24, M') = _
      rw [h3]
  · refine ⟨(-4, T'), (-4, M'), ?_, ?_, rfl, hh.fm h3⟩
    · unfold f_X7_fault; rw [h1]; rfl
    · unfold f_X8_fault
      rw [h2, Option.bind_some, if_neg (show ¬ b2i (true, M').1 = 0 from (show ¬ b2i true = 0 by decide))]
