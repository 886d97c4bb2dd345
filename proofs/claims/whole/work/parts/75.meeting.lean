theorem REL.sq {Te To No As M M' : Ob} {Pa Ke : PS} (h : REL Te To No Pa Ke As M) (e : SQ M M') : REL Te To No Pa Ke As M' := by
  obtain ⟨n, S, U, L, N, D, y, a, k, q, ⟨t1, t2, t3, t4⟩, ⟨hT, hS1, hN1, hM, hR, hPK, hy, ha, hPa, hk, hKe⟩, hA⟩ := h
  have e18 := e.2 18 (by omega)
  have e22 := e.2 22 (by omega)
  refine ⟨n, S, U, L, N, D, y, a, k, q, ⟨t1, (e.1 21 (by omega)).trans t2, t3, fun j hj => ?_⟩, ⟨hT, hS1, hN1, hM.sq e, ?_, hPK, hy, (e.1 19 (by omega)).trans ha, ?_, (e.1 20 (by omega)).trans hk, ?_⟩, hA.sq e⟩
  · rw [e22]; exact t4 j hj
  · rw [e18]; exact hR
  · rw [e18]; exact hPa
  · rw [e18]; exact hKe
theorem v_or {v : Int32} (h : (-1 : Int32) ≤ v) : v = -1 ∨ ∃ kk, kk < 2 ^ 31 ∧ v = nI kk := by
  by_cases h0 : v < 0
  · left
    rw [Int32.le_iff_toInt_le] at h
    rw [Int32.lt_iff_toInt_lt] at h0
    have e1 : (-1 : Int32).toInt = -1 := by decide +kernel
    have e0 : (0 : Int32).toInt = 0 := by decide +kernel
    exact Int32.toInt_inj.mp (by omega)
  · obtain ⟨j, hj, e⟩ := nI_of h0
    exact Or.inr ⟨j, hj, e⟩
theorem X8_meetStart {T M : Ob} {S U L N D a0 b0 : Nat} (hT : TK T S U L N D) (v1 : Int32) (hv : (-1 : Int32) ≤ v1) (ha : a0 ≤ 80) (hb : b0 ≤ 80) (h0 : M.2 18 0 = nI a0 - nI 40) (h1 : M.2 18 1 = nI b0 - nI 40) : ∃ o, f_X8_meeting M v1 = f_X8_meeting_73 v1 FU (-4 : Int32) (0 : Int32) o ∧ SQ M o ∧ QI o 1 (fun _ => 81 * a0 + b0) (fun _ => 0) := by
  have hl := loopE (fun t i (o : Ob) => f_X8_meeting_9 v1 t (nI i) o) 0 6561 (by omega) (by omega) (fun i o => SQ M o ∧ ∀ c, c < i → o.2 30 c = -nI 4) (fun o => f_X8_meeting_73 v1 FU (-4 : Int32) (0 : Int32) (stR (stR (stF o 34 (1 : Int32)) 30 (upd (o.2 30) (81 * a0 + b0) 0)) 31 (upd (o.2 31) 0 (nI (81 * a0 + b0))))) M ⟨SQ.refl M, fun c hc => absurd hc (by omega)⟩
    (fun t o h => by
      have e18 := h.1.2 18 (by omega)
      have es : f_X8_state (nI a0 - nI 40) (nI b0 - nI 40) = nI (81 * a0 + b0) := by
        unfold f_X8_state
        rw [sub40, show (81 : Int32) = nI 81 from rfl, pk_mul, Int32.add_assoc, sub40, nI_add]
      have s0 : o.2 18 (0 : Int32).toNatClampNeg = nI a0 - nI 40 := by rw [e18]; exact h0
      have s1 : o.2 18 (1 : Int32).toNatClampNeg = nI b0 - nI 40 := by rw [e18]; exact h1
      have u0 : ∀ f : Nat → Int32, upd f (0 : Int32).toNatClampNeg (nI (81 * a0 + b0)) (0 : Int32).toNatClampNeg = nI (81 * a0 + b0) := fun f => pk_us
      show f_X8_meeting_9 v1 (t + 1) (nI 6561) o = _
      rw [f_X8_meeting_9, if_pos (by decide), s0, s1, es, bnd_def, bnd_def, u0, if_neg (nI_in (by omega) (by omega)), bnd_def, nI_clamp (by omega)]
      rfl)
    (fun t i o hi h => by
      obtain ⟨a1, a2⟩ := h
      have hn : ¬ (6561 : Int32) ≤ nI i := nI_ge (b := 6561) hi (by omega)
      refine ⟨stR o 30 (upd (o.2 30) i (-4)), ?_, a1.trans ⟨fun k _ => rfl, fun k hk => st4n o (by omega) _⟩, fun c hc => ?_⟩
      · show f_X8_meeting_9 v1 (t + 1) (nI i) o = f_X8_meeting_9 v1 t (nI (i + 1)) _
        rw [f_X8_meeting_9, if_neg hn, if_neg (nI_in hi (by omega)), nI_clamp (by omega), bnd_def, bnd_def, nI_1]
      · show upd (o.2 30) i (-4) c = -nI 4
        by_cases hci : c = i
        · subst hci; rw [pk_us]; rfl
        · rw [pk_un hci]; exact a2 c (by omega))
  obtain ⟨o, c1, c2, c3⟩ := hl
  refine ⟨stR (stR (stF o 34 (1 : Int32)) 30 (upd (o.2 30) (81 * a0 + b0) 0)) 31 (upd (o.2 31) 0 (nI (81 * a0 + b0))), ?_, ?_, ⟨rfl, fun i hi => ?_, fun i j hi hj _ => by omega, fun c hc hn => ?_⟩⟩
  · unfold f_X8_meeting
    rw [if_pos hv]
    exact c1
  · exact c2.trans ⟨fun k hk => st1n o hk _, fun k hk => by rw [st4n _ (by omega), st4n _ (by omega)]; rfl⟩
  · have hi0 : i = 0 := by omega
    subst hi0
    show 81 * a0 + b0 < 6561 ∧ upd (o.2 31) 0 (nI (81 * a0 + b0)) 0 = nI (81 * a0 + b0) ∧ upd (o.2 30) (81 * a0 + b0) 0 (81 * a0 + b0) = nI 0 ∧ 0 ≤ 9
    rw [pk_us, pk_us]
    exact ⟨by omega, rfl, rfl, by omega⟩
  · have := hn 0 (by omega)
    show upd (o.2 30) (81 * a0 + b0) 0 c = -nI 4
    rw [pk_un (fun e => this e.symm)]
    exact c3 c hc
theorem X8_startGoal {T As M0 o : Ob} {S U L N D y q x0 : Nat} (hT : TK T S U L N D) (hMo : MK M0 T S U L N D) (hA : AR As M0 q S U L) (hy : y < 2 ^ 31) (h3 : M0.2 18 3 = nI y) (hx : gl T As D y q x0 = true) (hxl : x0 < 6561) (hQI : QI o 1 (fun _ => x0) (fun _ => 0)) (hSQ : SQ M0 o) (v1 : Int32) : ∃ o', f_X8_meeting_73 v1 FU (-4 : Int32) (0 : Int32) o = f_X8_meeting_223 v1 (nI x0) o' ∧ SQ M0 o' ∧ o'.2 30 x0 = nI 0 := by
  obtain ⟨o', R', st', dp', jj, c1, p1, p2, p3, p4, p5, p6, p7⟩ := X8_expand hT (hMo.sq hSQ) hQI (show (0 : Nat) < 9 by omega) ⟨0, by omega, rfl, rfl⟩ (nI 0) (nI x0) (f_X8_meeting_73 v1 (99998 + 1))
  have hgoal := X8_isGoal (x := x0) hT hMo hA hy h3 hSQ hxl
  rw [hx] at hgoal
  have hqu : o.2 31 (0 : Int32).toNatClampNeg = nI x0 := (hQI.2.1 0 (by omega)).2.1
  refine ⟨o', ?_, hSQ.trans p7, ?_⟩
  · have hb : f_X8_meeting_73 v1 (99998 + 1 + 1) (-4 : Int32) (nI 0) o = f_X8_meeting_113 (nI 0) (f_X8_meeting_73 v1 (99998 + 1)) (nI x0) (nI x0) FU 0 o := by
      rw [f_X8_meeting_73, hQI.1, if_neg (show ¬ nI 1 ≤ nI 0 by decide), if_neg (show ¬ (0 : Int32) ≤ -4 by decide), if_neg (nI_in (by omega) (by omega)), nI_clamp (show 0 < 2 ^ 31 by omega)]
      have hqu' : o.2 31 0 = nI x0 := hqu
      rw [hqu', bnd_def, hgoal, Option.bind_some, if_neg (show ¬ b2i true = 0 by decide)]
      rfl
    have hb' : f_X8_meeting_73 v1 FU (-4 : Int32) (0 : Int32) o = f_X8_meeting_73 v1 (99998 + 1 + 1) (-4 : Int32) (nI 0) o := rfl
    rw [hb', hb, c1, mt73_goal v1 _ 99998 (by omega)]
  · have := (p1.2.1 0 (by omega)).2.2.1
    rw [(p3 0 (by omega)).1, (p3 0 (by omega)).2.1] at this
    exact this
theorem P_meeting {Te To No As M : Ob} {Pa Ke : PS} (h : REL Te To No Pa Ke As M) (o7 Tr Ro : Ob) (v1 : Int32) : ∃ r7 r8, f_X7_meeting o7 To No Tr As Ro v1 = some r7 ∧ f_X8_meeting M v1 = some r8 ∧ r7.1 = r8.1 ∧ REL Te To No Pa Ke As r8.2 := by
  have hh := h
  obtain ⟨n, S, U, L, N, D, y, a, k, q, hTe, ⟨hT, hS1, hN1, hM, hR, hPK, hy, ha, hPa, hk, hKe⟩, hA⟩ := h
  have lN := hT.2.2.2.2.2.2.1
  have hW : 0 < 2 * N := by omega
  have hy2 : y < 2 ^ 31 := by omega
  unfold f_X7_meeting
  by_cases hv : (-1 : Int32) ≤ v1
  · rw [if_pos hv]
    obtain ⟨w, k1, k2⟩ := X5_copy Tr No
    obtain ⟨hp3, ⟨a0, ha0, hpa⟩, ⟨b0, hb0, hpb⟩, -⟩ := id hPK
    have s0 : M.2 18 0 = nI a0 - nI 40 := hR.1.trans hpa
    have s1 : M.2 18 1 = nI b0 - nI 40 := hR.2.1.trans hpb
    have h3 : M.2 18 3 = nI y := hR.2.2.2.1.trans hp3
    have hx0l : 81 * a0 + b0 < 6561 := by omega
    have hx0d : (81 * a0 + b0) / 81 = a0 := by omega
    obtain ⟨o, c1, c2, c3⟩ := X8_meetStart hT v1 hv ha0 hb0 s0 s1
    rw [k1, Option.bind_some, c1]
    rcases X7_find (o := Ro) (st := w) hT hN1 hA hy2 ((k2.1 3 (by omega)).trans hp3) ha0 hb0 ((k2.1 0 (by omega)).trans hpa) ((k2.1 1 (by omega)).trans hpb) with ⟨g1, g2⟩ | ⟨g1, of, st, A, C, Dp, Q, K, hB, hres⟩
    · obtain ⟨o', d1, d2, d3⟩ := X8_startGoal hT hM hA hy2 h3 g1 hx0l c3 c2 v1
      rw [g2, Option.bind_some, d1, if_neg (show ¬ b2i (true, stF Ro 7 (nI 0), w).1 = 0 from (show ¬ b2i true = 0 by decide))]
      unfold f_X8_meeting_223 f_X8_meeting_231
      rw [if_neg (nI_pos (by omega)), if_pos (nI_pos' (by omega)), if_neg (nI_in hx0l (by omega)), nI_clamp (by omega), d3]
      rcases v_or hv with rfl | ⟨kk, hkk, rfl⟩
      · refine ⟨(nI 0, w, stF Ro 7 (nI 0)), (nI 0, o'), ?_, ?_, rfl, hh.sq d2⟩
        · rw [if_pos rfl]; rfl
        · rw [if_neg (show ¬ (0 : Int32) ≤ -1 by decide), if_neg (show ¬ (nI (81 * a0 + b0) < 0 ∨ 6561 ≤ 81 * a0 + b0) from fun z => z.elim (nI_pos (by omega)) (by omega))]
      · have hne : ¬ nI kk = -1 := fun e => by
          have := congrArg Int32.toInt e
          rw [nI_toInt hkk, show (-1 : Int32).toInt = -1 by decide +kernel] at this
          omega
        refine ⟨(-4, w, stF Ro 7 (nI 0)), (-4, o'), ?_, ?_, rfl, hh.sq d2⟩
        · rw [if_neg hne]
          show (if nI 0 ≤ nI kk then _ else _) = _
          rw [if_pos (show nI 0 ≤ nI kk from nI_pos' hkk)]
        · rw [if_pos (nI_pos' hkk), if_neg (show ¬ nI kk < nI 0 from nI_pos hkk)]
    · have hA0 : A 0 = a0 := hB.2.1
      have hFC : FC To As D y q (2 * N) A Dp Q K := by
        rcases hres with ⟨-, P, p1, p2, p3⟩ | ⟨-, f1, f2, f3, -⟩
        · exact Or.inr ⟨P, p1, p2, p3⟩
        · exact Or.inl ⟨f1, f2, f3⟩
      have hs := X8_search hT hN1 hM hA hy2 h3 hB hFC g1 (by rw [hx0d, hA0]) c3 c2 v1
      rcases hs with ⟨o', e1, e2, e3, e4, e5, e6⟩ | ⟨o', e1, e2, e3⟩
      · -- found
        have hgcl := (gc_div (T := To) (W := 2 * N) (c := K) (hB.2.2.2.2.1 _ e4)).2.2
        rcases hres with ⟨hr, P, p1, p2, p3⟩ | ⟨hr, f1, f2, f3, f4, f5, f6⟩
        · exfalso
          have hKP : K / (2 * N) = P := by rw [p1, Nat.mul_div_cancel_left _ hW]
          rw [hKP] at e4 e5
          rcases p3 with p3 | p3
          · omega
          · omega
        · rw [hr, Option.bind_some, e1, if_neg (show ¬ b2i (true, of, st).1 = 0 from (show ¬ b2i true = 0 by decide))]
          rcases v_or hv with rfl | ⟨kk, hkk, rfl⟩
          · refine ⟨(nI (Dp (K / (2 * N)) + 1), st, of), (nI (Dp (K / (2 * N)) + 1), o'), ?_, ?_, rfl, hh.sq e2⟩
            · rw [if_pos rfl]
              show some (of.1 7, st, of) = _
              rw [f4]
            · unfold f_X8_meeting_223 f_X8_meeting_231
              rw [if_neg (nI_pos (by omega)), if_neg (show ¬ (0 : Int32) ≤ -1 by decide), if_pos (nI_pos' (by omega)), if_neg (nI_in hgcl (by omega)), nI_clamp (by omega), e3.1]
          · have hne : ¬ nI kk = -1 := fun e => by
              have := congrArg Int32.toInt e
              rw [nI_toInt hkk, show (-1 : Int32).toInt = -1 by decide +kernel] at this
              omega
            by_cases hkd : kk ≤ Dp (K / (2 * N))
            · have hw8 := X8_walk hB hx0l e4 e5 (show 2 * N ≤ 8 by omega) hW e3 hkd
              refine ⟨(nI (if kk = Dp (K / (2 * N)) then mc (K % (2 * N)) else mc (C (anc C (2 * N) (K / (2 * N)) (Dp (K / (2 * N)) - 1 - kk)) % (2 * N))), st, of), _, ?_, hw8, rfl, hh.sq e2⟩
              rw [if_neg hne]
              show (if of.1 7 ≤ nI kk then _ else (f_X7_cell 9 (of.2 6) (nI kk)).bind _) = _
              rw [f4, if_neg (nI_ge (by omega) (by omega)), f_X7_cell_at (by decide) _ (by omega), Option.bind_some]
              by_cases hke : kk = Dp (K / (2 * N))
              · rw [if_pos hke, hke, f5]
              · rw [if_neg hke, f6 kk (by omega)]
            · refine ⟨(-4, st, of), (-4, o'), ?_, ?_, rfl, hh.sq e2⟩
              · rw [if_neg hne]
                show (if of.1 7 ≤ nI kk then _ else _) = _
                rw [f4, if_pos (nI_le (by omega) hkk)]
              · unfold f_X8_meeting_223
                rw [if_neg (nI_pos (by omega)), if_pos (nI_pos' hkk), if_neg (nI_in hgcl (by omega)), nI_clamp (by omega), e3.1, if_neg (nI_nlt (by omega) hkk)]
      · -- not found
        rcases hres with ⟨hr, -⟩ | ⟨hr, f1, f2, f3, -⟩
        · rw [hr, Option.bind_some, e1, if_pos (show b2i (false, of, st).1 = 0 from (show b2i false = 0 by decide))]
          refine ⟨(-4, st, of), (-4, o'), rfl, ?_, rfl, hh.sq e2⟩
          unfold f_X8_meeting_223 f_X8_meeting_231
          rw [if_pos (show (-4 : Int32) < 0 by decide), if_neg (show ¬ (0 : Int32) ≤ -4 by decide)]
        · exact absurd ⟨f1, f2, f3⟩ e3
  · refine ⟨(-1, Tr, Ro), (-1, M), by rw [if_neg hv], ?_, rfl, hh⟩
    unfold f_X8_meeting
    rw [if_neg hv]
