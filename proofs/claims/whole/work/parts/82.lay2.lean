/-- what is laid -/
def SG (M M' : Ob) : Prop := (∀ k, k ≠ 2 → k ≠ 5 → k ≠ 7 → M'.1 k = M.1 k) ∧ (∀ k, k ≠ 0 → k ≠ 1 → k ≠ 3 → k ≠ 4 → k ≠ 6 → k ≠ 8 → k ≠ 18 → M'.2 k = M.2 k)
theorem X8_settles (M : Ob) : ∃ o, f_X8_settles M = some o ∧ SG M o ∧ o.1 2 = M.1 11 ∧ o.1 5 = M.1 14 ∧ o.1 7 = M.1 16 ∧ o.2 0 0 = M.2 9 0 ∧ o.2 0 1 = M.2 9 1 ∧ (∀ k, k < 12 → o.2 1 k = M.2 10 k) ∧ (∀ k, k < 7 → o.2 3 k = M.2 12 k ∧ o.2 4 k = M.2 13 k) ∧ (∀ k, k < 4 → o.2 6 k = M.2 15 k) ∧ (∀ k, k < 8 → o.2 8 k = M.2 17 k) ∧ (∀ j, j < 26 → o.2 18 j = M.2 18 (286 + j)) ∧ FR (M.2 18) (o.2 18) 0 := by
  have h139 : ∀ o1 : Ob, ∃ o2, f_X8_settles_139 FU (0 : Int32) o1 = some o2 ∧ o2.1 = o1.1 ∧ (∀ k, k ≠ 8 → k ≠ 18 → o2.2 k = o1.2 k) ∧ (∀ k, k < 8 → o2.2 8 k = o1.2 17 k) ∧ (∀ j, j < 26 → o2.2 18 j = o1.2 18 (286 + j)) ∧ FR (o1.2 18) (o2.2 18) 0 := by
    intro o1
    have hl := loopE (fun t i (o : Ob) => f_X8_settles_139 t (nI i) o) 0 8 (by omega) (by omega) (fun i o => o.1 = o1.1 ∧ (∀ k, k ≠ 8 → o.2 k = o1.2 k) ∧ ∀ k, k < i → o.2 8 k = o1.2 17 k) (fun o => (f_X8_copies o (nI 286) (nI 0)).bind fun q10 : Ob => some q10) o1 ⟨rfl, fun _ _ => rfl, fun k hk => absurd hk (by omega)⟩
      (fun t o h => by
        show f_X8_settles_139 (t + 1) (nI 8) o = (f_X8_copies o 286 0).bind fun q10 : Ob => some q10
        rw [f_X8_settles_139, if_pos (by decide)])
      (fun t i o hi h => by
        obtain ⟨a1, a2, a3⟩ := h
        have e17 := a2 17 (by omega)
        refine ⟨stR o 8 (upd (o.2 8) i (o.2 17 i)), ?_, a1, fun k hk => (st4n o hk _).trans (a2 k hk), fun k hk => ?_⟩
        · show f_X8_settles_139 (t + 1) (nI i) o = f_X8_settles_139 t (nI (i + 1)) _
          rw [f_X8_settles_139]
          simp (disch := omega) only [↓pk_rem, nl_0, nl_1, nl_2, nl_3, nl_4, nl_6, nl_7, nl_8, nl_9, nl_10, nl_11, nl_12, nl_20, nl_23, nl_24, nl_26, nl_32, nl_39, nl_40, nl_44, nl_48, nl_57, nl_59, nl_60, nl_61, nl_64, nl_81, nl_82, nl_99, nl_100, nl_126, nl_200, nl_208, nl_286, nl_287, nl_290, nl_312, nl_999, nl_6561, nl_9999, nI_add, pk_mul, pk_div, pk_sub, ev_leT, ev_leF, ev_ltT, ev_ltF, ev_eqT, ev_eqF, nI_clamp, nle_T, nle_F, nlt_F, or_false, false_or, or_self, if_true, if_false, bnd_def, Option.bind_some, st1s, st1n, st2, st3, st4s, st4n, eq_self, tf_1, tf_2, b2iT, b2iF, b2iE, ob_1, ob_2, f_X7_cell_at, f_X7_setCell_at, in_0, wi_at, in_0_1, in_0_2, in_0_4, in_0_8, in_0_9, in_0_10, in_0_40, in_0_99, in_1_20, in_1_60, in_0_9999, in_m99_99, in_32_126, in_48_57]
        · show upd (o.2 8) i (o.2 17 i) k = _
          by_cases hk2 : k = i
          · subst hk2; rw [pk_us, e17]
          · rw [pk_un hk2]; exact a3 k (by omega))
    obtain ⟨o2, c1, c2, c3, c4⟩ := hl
    obtain ⟨g, d1, d2, d3⟩ := X8_copies o2 (o2.2 18) (a := 286) (b := 0) (by omega) (by omega) (by omega)
    rw [stR_self] at d1
    refine ⟨stR o2 18 g, ?_, c2, fun k k8 k18 => (st4n o2 k18 _).trans (c3 k k8), c4, fun j hj => ?_, ?_⟩
    · refine Eq.trans c1 ?_
      rw [d1]; rfl
    · show g j = _
      have := d2 j hj
      rw [Nat.zero_add] at this
      rw [this, c3 18 (by omega)]
    · show FR (o1.2 18) g 0
      rw [← c3 18 (by omega)]
      exact d3
  have h114 : ∀ o1 : Ob, ∃ o2, f_X8_settles_114 FU (0 : Int32) o1 = some o2 ∧ o2.1 = o1.1 ∧ (∀ k, k ≠ 6 → k ≠ 8 → k ≠ 18 → o2.2 k = o1.2 k) ∧ (∀ k, k < 4 → o2.2 6 k = o1.2 15 k) ∧ (∀ k, k < 8 → o2.2 8 k = o1.2 17 k) ∧ (∀ j, j < 26 → o2.2 18 j = o1.2 18 (286 + j)) ∧ FR (o1.2 18) (o2.2 18) 0 := by
    intro o1
    have hl := loopE (fun t i (o : Ob) => f_X8_settles_114 t (nI i) o) 0 4 (by omega) (by omega) (fun i o => o.1 = o1.1 ∧ (∀ k, k ≠ 6 → o.2 k = o1.2 k) ∧ ∀ k, k < i → o.2 6 k = o1.2 15 k) (fun o => f_X8_settles_139 FU (0 : Int32) o) o1 ⟨rfl, fun _ _ => rfl, fun k hk => absurd hk (by omega)⟩
      (fun t o h => by
        show f_X8_settles_114 (t + 1) (nI 4) o = _
        rw [f_X8_settles_114, if_pos (by decide)])
      (fun t i o hi h => by
        obtain ⟨a1, a2, a3⟩ := h
        have e17 := a2 15 (by omega)
        refine ⟨stR o 6 (upd (o.2 6) i (o.2 15 i)), ?_, a1, fun k hk => (st4n o hk _).trans (a2 k hk), fun k hk => ?_⟩
        · show f_X8_settles_114 (t + 1) (nI i) o = f_X8_settles_114 t (nI (i + 1)) _
          rw [f_X8_settles_114]
          simp (disch := omega) only [↓pk_rem, nl_0, nl_1, nl_2, nl_3, nl_4, nl_6, nl_7, nl_8, nl_9, nl_10, nl_11, nl_12, nl_20, nl_23, nl_24, nl_26, nl_32, nl_39, nl_40, nl_44, nl_48, nl_57, nl_59, nl_60, nl_61, nl_64, nl_81, nl_82, nl_99, nl_100, nl_126, nl_200, nl_208, nl_286, nl_287, nl_290, nl_312, nl_999, nl_6561, nl_9999, nI_add, pk_mul, pk_div, pk_sub, ev_leT, ev_leF, ev_ltT, ev_ltF, ev_eqT, ev_eqF, nI_clamp, nle_T, nle_F, nlt_F, or_false, false_or, or_self, if_true, if_false, bnd_def, Option.bind_some, st1s, st1n, st2, st3, st4s, st4n, eq_self, tf_1, tf_2, b2iT, b2iF, b2iE, ob_1, ob_2, f_X7_cell_at, f_X7_setCell_at, in_0, wi_at, in_0_1, in_0_2, in_0_4, in_0_8, in_0_9, in_0_10, in_0_40, in_0_99, in_1_20, in_1_60, in_0_9999, in_m99_99, in_32_126, in_48_57]
        · show upd (o.2 6) i (o.2 15 i) k = _
          by_cases hk2 : k = i
          · subst hk2; rw [pk_us, e17]
          · rw [pk_un hk2]; exact a3 k (by omega))
    obtain ⟨o2, c1, c2, c3, c4⟩ := hl
    obtain ⟨o3, d1, d2, d3, d4, d5, d6⟩ := h139 o2
    refine ⟨o3, c1.trans d1, d2.trans c2, fun k k6 k8 k18 => (d3 k k8 k18).trans (c3 k k6), fun k hk => ?_, fun k hk => ?_, fun j hj => ?_, ?_⟩
    · rw [d3 6 (by omega) (by omega)]; exact c4 k hk
    · rw [d4 k hk, c3 17 (by omega)]
    · rw [d5 j hj, c3 18 (by omega)]
    · rw [← c3 18 (by omega)]; exact d6
  have h76 : ∀ o1 : Ob, ∃ o2, f_X8_settles_76 FU (0 : Int32) o1 = some o2 ∧ o2.1 = o1.1 ∧ (∀ k, k ≠ 3 → k ≠ 4 → k ≠ 6 → k ≠ 8 → k ≠ 18 → o2.2 k = o1.2 k) ∧ (∀ k, k < 7 → o2.2 3 k = o1.2 12 k ∧ o2.2 4 k = o1.2 13 k) ∧ (∀ k, k < 4 → o2.2 6 k = o1.2 15 k) ∧ (∀ k, k < 8 → o2.2 8 k = o1.2 17 k) ∧ (∀ j, j < 26 → o2.2 18 j = o1.2 18 (286 + j)) ∧ FR (o1.2 18) (o2.2 18) 0 := by
    intro o1
    have hl := loopE (fun t i (o : Ob) => f_X8_settles_76 t (nI i) o) 0 7 (by omega) (by omega) (fun i o => o.1 = o1.1 ∧ (∀ k, k ≠ 3 → k ≠ 4 → o.2 k = o1.2 k) ∧ ∀ k, k < i → o.2 3 k = o1.2 12 k ∧ o.2 4 k = o1.2 13 k) (fun o => f_X8_settles_114 FU (0 : Int32) o) o1 ⟨rfl, fun _ _ _ => rfl, fun k hk => absurd hk (by omega)⟩
      (fun t o h => by
        show f_X8_settles_76 (t + 1) (nI 7) o = _
        rw [f_X8_settles_76, if_pos (by decide)])
      (fun t i o hi h => by
        obtain ⟨a1, a2, a3⟩ := h
        have e12 := a2 12 (by omega) (by omega)
        have e13 := a2 13 (by omega) (by omega)
        refine ⟨stR (stR o 3 (upd (o.2 3) i (o.2 12 i))) 4 (upd (o.2 4) i (o.2 13 i)), ?_, a1, fun k k3 k4 => ((st4n _ k4 _).trans (st4n o k3 _)).trans (a2 k k3 k4), fun k hk => ?_⟩
        · show f_X8_settles_76 (t + 1) (nI i) o = f_X8_settles_76 t (nI (i + 1)) _
          rw [f_X8_settles_76]
          simp (disch := omega) only [↓pk_rem, nl_0, nl_1, nl_2, nl_3, nl_4, nl_6, nl_7, nl_8, nl_9, nl_10, nl_11, nl_12, nl_20, nl_23, nl_24, nl_26, nl_32, nl_39, nl_40, nl_44, nl_48, nl_57, nl_59, nl_60, nl_61, nl_64, nl_81, nl_82, nl_99, nl_100, nl_126, nl_200, nl_208, nl_286, nl_287, nl_290, nl_312, nl_999, nl_6561, nl_9999, nI_add, pk_mul, pk_div, pk_sub, ev_leT, ev_leF, ev_ltT, ev_ltF, ev_eqT, ev_eqF, nI_clamp, nle_T, nle_F, nlt_F, or_false, false_or, or_self, if_true, if_false, bnd_def, Option.bind_some, st1s, st1n, st2, st3, st4s, st4n, eq_self, tf_1, tf_2, b2iT, b2iF, b2iE, ob_1, ob_2, f_X7_cell_at, f_X7_setCell_at, in_0, wi_at, in_0_1, in_0_2, in_0_4, in_0_8, in_0_9, in_0_10, in_0_40, in_0_99, in_1_20, in_1_60, in_0_9999, in_m99_99, in_32_126, in_48_57]
        · show upd (o.2 3) i (o.2 12 i) k = _ ∧ upd (o.2 4) i (o.2 13 i) k = _
          by_cases hk2 : k = i
          · subst hk2; rw [pk_us, pk_us, e12, e13]; exact ⟨rfl, rfl⟩
          · rw [pk_un hk2, pk_un hk2]; exact a3 k (by omega))
    obtain ⟨o2, c1, c2, c3, c4⟩ := hl
    obtain ⟨o3, d1, d2, d3, d4, d5, d6, d7⟩ := h114 o2
    refine ⟨o3, c1.trans d1, d2.trans c2, fun k k3 k4 k6 k8 k18 => (d3 k k6 k8 k18).trans (c3 k k3 k4), fun k hk => ?_, fun k hk => ?_, fun k hk => ?_, fun j hj => ?_, ?_⟩
    · rw [d3 3 (by omega) (by omega) (by omega), d3 4 (by omega) (by omega) (by omega)]; exact c4 k hk
    · rw [d4 k hk, c3 15 (by omega) (by omega)]
    · rw [d5 k hk, c3 17 (by omega) (by omega)]
    · rw [d6 j hj, c3 18 (by omega) (by omega)]
    · rw [← c3 18 (by omega) (by omega)]; exact d7
  have hl := loopE (fun t i (o : Ob) => f_X8_settles_50 t (nI i) o) 0 12 (by omega) (by omega) (fun i o => o.1 = (stF (stF (stF M 2 (M.1 11)) 5 (M.1 14)) 7 (M.1 16)).1 ∧ (∀ k, k ≠ 0 → k ≠ 1 → o.2 k = M.2 k) ∧ o.2 0 = upd (upd (M.2 0) 0 (M.2 9 0)) 1 (M.2 9 1) ∧ ∀ k, k < i → o.2 1 k = M.2 10 k) (fun o => f_X8_settles_76 FU (0 : Int32) o) (stR (stF (stF (stF M 2 (M.1 11)) 5 (M.1 14)) 7 (M.1 16)) 0 (upd (upd (M.2 0) 0 (M.2 9 0)) 1 (M.2 9 1))) ⟨rfl, fun k k0 _ => st4n _ k0 _, st4s _ _ _, fun k hk => absurd hk (by omega)⟩
    (fun t o h => by
      show f_X8_settles_50 (t + 1) (nI 12) o = _
      rw [f_X8_settles_50, if_pos (by decide)])
    (fun t i o hi h => by
      obtain ⟨a1, a2, a3, a4⟩ := h
      have e10 := a2 10 (by omega) (by omega)
      refine ⟨stR o 1 (upd (o.2 1) i (o.2 10 i)), ?_, a1, fun k k0 k1 => (st4n o k1 _).trans (a2 k k0 k1), (st4n o (by omega) _).trans a3, fun k hk => ?_⟩
      · show f_X8_settles_50 (t + 1) (nI i) o = f_X8_settles_50 t (nI (i + 1)) _
        rw [f_X8_settles_50]
        simp (disch := omega) only [↓pk_rem, nl_0, nl_1, nl_2, nl_3, nl_4, nl_6, nl_7, nl_8, nl_9, nl_10, nl_11, nl_12, nl_20, nl_23, nl_24, nl_26, nl_32, nl_39, nl_40, nl_44, nl_48, nl_57, nl_59, nl_60, nl_61, nl_64, nl_81, nl_82, nl_99, nl_100, nl_126, nl_200, nl_208, nl_286, nl_287, nl_290, nl_312, nl_999, nl_6561, nl_9999, nI_add, pk_mul, pk_div, pk_sub, ev_leT, ev_leF, ev_ltT, ev_ltF, ev_eqT, ev_eqF, nI_clamp, nle_T, nle_F, nlt_F, or_false, false_or, or_self, if_true, if_false, bnd_def, Option.bind_some, st1s, st1n, st2, st3, st4s, st4n, eq_self, tf_1, tf_2, b2iT, b2iF, b2iE, ob_1, ob_2, f_X7_cell_at, f_X7_setCell_at, in_0, wi_at, in_0_1, in_0_2, in_0_4, in_0_8, in_0_9, in_0_10, in_0_40, in_0_99, in_1_20, in_1_60, in_0_9999, in_m99_99, in_32_126, in_48_57]
      · show upd (o.2 1) i (o.2 10 i) k = _
        by_cases hk2 : k = i
        · subst hk2; rw [pk_us, e10]
        · rw [pk_un hk2]; exact a4 k (by omega))
  obtain ⟨o1, c1, c2, c3, c4, c5⟩ := hl
  obtain ⟨o2, d1, d2, d3, d4, d5, d6, d7, d8⟩ := h76 o1
  have e1 : o2.1 = (stF (stF (stF M 2 (M.1 11)) 5 (M.1 14)) 7 (M.1 16)).1 := d2.trans c2
  refine ⟨o2, ?_, ⟨fun k k2 k5 k7 => ?_, fun k k0 k1 k3 k4 k6 k8 k18 => (d3 k k3 k4 k6 k8 k18).trans (c3 k k0 k1)⟩, by rw [e1]; rfl, by rw [e1]; rfl, by rw [e1]; rfl, ?_, ?_, fun k hk => ?_, fun k hk => ?_, fun k hk => ?_, fun k hk => ?_, fun j hj => ?_, ?_⟩
  · unfold f_X8_settles
    rw [bnd_def, bnd_def, bnd_def, bnd_def, bnd_def]
    exact c1.trans d1
  · rw [e1, st1n _ k7, st1n _ k5, st1n _ k2]
  · rw [d3 0 (by omega) (by omega) (by omega) (by omega) (by omega), c4, pk_un (by omega), pk_us]
  · rw [d3 0 (by omega) (by omega) (by omega) (by omega) (by omega), c4, pk_us]
  · rw [d3 1 (by omega) (by omega) (by omega) (by omega) (by omega)]; exact c5 k hk
  · rw [(d4 k hk).1, (d4 k hk).2, c3 12 (by omega) (by omega), c3 13 (by omega) (by omega)]; exact ⟨rfl, rfl⟩
  · rw [d5 k hk, c3 15 (by omega) (by omega)]
  · rw [d6 k hk, c3 17 (by omega) (by omega)]
  · rw [d7 j hj, c3 18 (by omega) (by omega)]
  · rw [← c3 18 (by omega) (by omega)]; exact d8
theorem X5_begin (P T : Ob) : ∃ o, f_X5_begin P T = some o ∧ o.1 0 = nI 0 ∧ o.1 1 = nI 0 ∧ o.1 2 = nI 0 ∧ o.1 3 = nI 0 ∧ o.1 4 = nI 0 ∧ (∀ s, s < 7 → o.2 5 s = T.2 4 s) ∧ ∀ k, k < 12 → o.2 6 k = nI 0 := by
  obtain ⟨g, c1, c2⟩ := copyCells_at (n := 7) (by omega) (T.2 4) (P.2 5)
  have hl := loopE (fun t i (o : Ob) => f_X5_begin_38 t (nI i) o) 0 12 (by omega) (by omega) (fun i o => o.1 0 = nI 0 ∧ o.1 1 = nI 0 ∧ o.1 2 = nI 0 ∧ o.1 3 = nI 0 ∧ o.1 4 = nI 0 ∧ (∀ s, s < 7 → o.2 5 s = T.2 4 s) ∧ ∀ k, k < i → o.2 6 k = nI 0) (fun o => some o) (stR (stF (stF (stF (stF (stF P 0 (0 : Int32)) 1 (0 : Int32)) 2 (0 : Int32)) 3 (0 : Int32)) 4 (0 : Int32)) 5 g) ⟨rfl, rfl, rfl, rfl, rfl, c2, fun k hk => absurd hk (by omega)⟩
    (fun t o h => by
      show f_X5_begin_38 (t + 1) (nI 12) o = _
      rw [f_X5_begin_38, if_pos (by decide)])
    (fun t i o hi h => by
      obtain ⟨a1, a2, a3, a4, a5, a6, a7⟩ := h
      have hn : ¬ (12 : Int32) ≤ nI i := nI_ge (b := 12) hi (by omega)
      refine ⟨stR o 6 (upd (o.2 6) i 0), ?_, a1, a2, a3, a4, a5, a6, fun k hk => ?_⟩
      · show f_X5_begin_38 (t + 1) (nI i) o = f_X5_begin_38 t (nI (i + 1)) _
        rw [f_X5_begin_38, if_neg hn, f_X7_setCell_at (by decide) _ hi, Option.bind_some, bnd_def, nI_1]
      · show upd (o.2 6) i 0 k = nI 0
        by_cases hk2 : k = i
        · subst hk2; rw [pk_us]; rfl
        · rw [pk_un hk2]; exact a7 k (by omega))
  obtain ⟨o, d1, d2⟩ := hl
  refine ⟨o, ?_, d2⟩
  unfold f_X5_begin
  rw [c1, Option.bind_some]
  exact d1
theorem SH0 : SH (nI 0) := ⟨40, by omega, by decide⟩
theorem WR0 : WR (nI 0) (nI 0) (nI 0) (nI 0) := ⟨0, 0, 0, 0, by decide, by decide, by decide, by decide, rfl, rfl, rfl, rfl, fun k _ => by rw [Nat.zero_testBit], fun k _ => by rw [Nat.zero_testBit, Nat.zero_testBit], fun k _ => by rw [Nat.zero_testBit, Nat.zero_testBit]⟩
/-- a draft laid -/
theorem lay_core {T Mr Ms Nw : Ob} {S U L N D : Nat} (hD : DR T Mr S U L N D) (hS1 : 1 ≤ S) (hN1 : 1 ≤ N) (s2 : Ms.1 2 = Mr.1 11) (s5 : Ms.1 5 = Mr.1 14) (s7 : Ms.1 7 = Mr.1 16) (s00 : Ms.2 0 0 = Mr.2 9 0) (s01 : Ms.2 0 1 = Mr.2 9 1) (s1 : ∀ k, k < 12 → Ms.2 1 k = Mr.2 10 k) (s3 : ∀ k, k < 7 → Ms.2 3 k = Mr.2 12 k ∧ Ms.2 4 k = Mr.2 13 k) (s6 : ∀ k, k < 4 → Ms.2 6 k = Mr.2 15 k) (s8 : ∀ k, k < 8 → Ms.2 8 k = Mr.2 17 k) (s18 : ∀ j, j < 26 → Ms.2 18 j = Mr.2 18 (286 + j)) (b0 : Nw.1 0 = nI 0) (b1 : Nw.1 1 = nI 0) (b2 : Nw.1 2 = nI 0) (b3 : Nw.1 3 = nI 0) (b4 : Nw.1 4 = nI 0) (b5 : ∀ s, s < 7 → Nw.2 5 s = T.2 4 s) (b6 : ∀ k, k < 12 → Nw.2 6 k = nI 0) : TK T S U L N D ∧ MK Ms T S U L N D ∧ RS S Nw (Ms.2 18) 0 ∧ PK Nw 0 := by
  obtain ⟨hT, h11, h14, h16, h90, h91, h10, h12, h15, h17, h18⟩ := hD
  have lS := hT.2.2.2.2.2.1
  have lN := hT.2.2.2.2.2.2.1
  have lD := hT.2.2.2.2.2.2.2.1
  refine ⟨hT, ⟨s2.trans h11, s5.trans h14, s7.trans h16, s00.trans h90, s01.trans h91, fun k hk ht => (s1 k hk).trans (h10 k hk ht), fun s hs => (s3 s (by omega)).1.trans (h12 s hs).1, fun s hs => (s3 s (by omega)).2.trans (h12 s hs).2.1, fun p hp => (s6 p (by omega)).trans (h15 p hp), fun d hd => (s8 d (by omega)).trans (h17 d hd)⟩, ⟨?_, ?_, ?_, ?_, fun s hs => ?_, fun k hk => ?_, ?_⟩, b3, by rw [b0]; exact SH0, by rw [b1]; exact SH0, 0, by omega, b2⟩
  · rw [s18 0 (by omega), h18 _ (by omega) (by omega) (by omega), b0]
  · rw [s18 (0 + 1) (by omega), h18 _ (by omega) (by omega) (by omega), b1]
  · rw [s18 (0 + 2) (by omega), h18 _ (by omega) (by omega) (by omega), b2]
  · rw [s18 (0 + 3) (by omega), h18 _ (by omega) (by omega) (by omega), b3]
  · rw [s18 (0 + 4 + s) (by omega), show 286 + (0 + 4 + s) = 290 + s by omega, (h12 s hs).2.2, b5 s (by omega)]
  · rw [s18 (0 + 11 + k) (by omega), h18 _ (by omega) (by omega) (by omega), b6 k hk]
  · rw [s18 (0 + 23) (by omega), s18 (0 + 24) (by omega), s18 (0 + 25) (by omega), h18 _ (by omega) (by omega) (by omega), h18 _ (by omega) (by omega) (by omega), h18 _ (by omega) (by omega) (by omega), b4]
    exact WR0
theorem P_lay {Te To No As M : Ob} {Pa Ke : PS} (h : REL Te To No Pa Ke As M) (o7 Dr : Ob) : ∃ r7 r8, f_X7_lay o7 Te To Dr No Pa.1 Ke.1 As = some r7 ∧ f_X8_lay M = some r8 ∧ r7.1 = r8.1 ∧ REL Te (bif r7.2.1 then r7.2.2.1 else To) r7.2.2.2.1 (r7.2.2.2.2.1, Pa.2) (r7.2.2.2.2.2.1, Ke.2) r7.2.2.2.2.2.2 r8.2 := by
  have hh := h
  obtain ⟨n, S, U, L, N, D, y, a, k, q, hTe, ⟨hT, hS1, hN1, hM, hR, hPK, hy, ha, hPa, hk, hKe⟩, hA⟩ := h
  obtain ⟨T', M', ⟨p, hp, h1, h2, h3, h4⟩ | ⟨h1, h2, h3, S', U', L', N', D', hD⟩⟩ := read_both hTe Dr
  · have hn := hTe.2.2.1
    have hne4 : ¬ nI p = -4 := fun z => by
      have := congrArg Int32.toInt z
      rw [nI_toInt (by omega), show (-4 : Int32).toInt = -4 by decide +kernel] at this
      omega
    refine ⟨(-2, false, T', No, Pa.1, Ke.1, As), (-2, M'), ?_, ?_, rfl, hh.fm h4⟩
    · unfold f_X7_lay; rw [h1, Option.bind_some, if_neg hne4]
    · unfold f_X8_lay
      rw [h2, Option.bind_some, if_pos (show b2i (false, M').1 = 0 from (show b2i false = 0 by decide))]
  · have hT8 : T'.1 8 = nI S' := hD.1.1
    have hT9 : T'.1 9 = nI N' := hD.1.2.1
    have lS := hD.1.2.2.2.2.2.1
    have lN := hD.1.2.2.2.2.2.2.1
    have hM11 : M'.1 11 = nI S' := hD.2.1
    have hM14 : M'.1 14 = nI N' := hD.2.2.1
    unfold f_X7_lay f_X8_lay
    rw [h1, h2, Option.bind_some, Option.bind_some, if_pos rfl, if_neg (show ¬ b2i (true, M').1 = 0 from (show ¬ b2i true = 0 by decide))]
    show ∃ r7 r8, (if T'.1 8 = 0 then _ else (if T'.1 9 = 0 then _ else _)) = some r7 ∧ (if M'.1 11 = 0 then _ else (if M'.1 14 = 0 then _ else _)) = some r8 ∧ _
    rw [hT8, hT9, hM11, hM14]
    rcases Nat.eq_zero_or_pos S' with z | z
    · subst z
      refine ⟨(-2, false, T', No, Pa.1, Ke.1, As), (-2, M'), ?_, ?_, rfl, hh.fm h3⟩
      · rw [if_pos (show nI 0 = 0 from rfl)]
      · rw [if_pos (show nI 0 = 0 from rfl)]
    rw [if_neg (show ¬ nI S' = 0 from nI_ne0 z (by omega)), if_neg (show ¬ nI S' = 0 from nI_ne0 z (by omega))]
    rcases Nat.eq_zero_or_pos N' with z2 | z2
    · subst z2
      refine ⟨(-2, false, T', No, Pa.1, Ke.1, As), (-2, M'), ?_, ?_, rfl, hh.fm h3⟩
      · rw [if_pos (show nI 0 = 0 from rfl)]
      · rw [if_pos (show nI 0 = 0 from rfl)]
    rw [if_neg (show ¬ nI N' = 0 from nI_ne0 z2 (by omega)), if_neg (show ¬ nI N' = 0 from nI_ne0 z2 (by omega))]
    obtain ⟨Ms, c1, c2, s2, s5, s7, s00, s01, s1, s3, s6, s8, s18, sF⟩ := X8_settles M'
    obtain ⟨Nw, d1, b0, b1, b2, b3, b4, b5, b6⟩ := X5_begin No T'
    obtain ⟨t1, t2, t3, t4⟩ := lay_core hD z z2 s2 s5 s7 s00 s01 s1 s3 s6 s8 s18 b0 b1 b2 b3 b4 b5 b6
    have hTe2 := hTe.fm h3
    refine ⟨(nI S', true, T', Nw, stF Pa.1 1 (nI 0), stF Ke.1 1 (nI 0), stF As 2 (nI 0)), (nI S', stF (stF (stF Ms 19 (nI 0)) 20 (nI 0)) 26 (nI 0)), ?_, ?_, rfl, n, S', U', L', N', D', 0, 0, 0, 0, ?_, ?_, ?_⟩
    · rw [d1, Option.bind_some]
      rfl
    · rw [c1, Option.bind_some, s2, hM11]
      rfl
    · refine ⟨hTe2.1, (c2.1 21 (by omega) (by omega) (by omega)).trans hTe2.2.1, hTe2.2.2.1, fun j hj => ?_⟩
      show ∃ c, 32 ≤ c ∧ c ≤ 126 ∧ Te.2 0 j = nI c ∧ Ms.2 22 j = nI c
      rw [c2.2 22 (by omega) (by omega) (by omega) (by omega) (by omega) (by omega) (by omega)]
      exact hTe2.2.2.2 j hj
    · exact ⟨t1, z, z2, t2, t3, t4, by omega, rfl, ⟨rfl, by omega, hPa.2.2.1, hPa.2.2.2.1, fun i hi => absurd hi (by omega)⟩, rfl, ⟨rfl, by omega, hKe.2.2.1, hKe.2.2.2.1, fun i hi => absurd hi (by omega)⟩⟩
    · exact ⟨rfl, rfl, by omega, fun i hi => absurd hi (by omega)⟩
