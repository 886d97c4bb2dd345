/-! meeting: the reference goes through pairs of shifts -/
theorem loopQ0 {σ ρ : Type} (F : Nat → Nat → σ → Option ρ) (N : Nat) (I : Nat → σ → Prop) (P : Option ρ → Prop) (hend : ∀ t s, I N s → P (F (t + 1) N s)) (hstep : ∀ t i s, 0 < t → i < N → I i s → P (F (t + 1) i s) ∨ ∃ s', F (t + 1) i s = F t (i + 1) s' ∧ I (i + 1) s') :
    ∀ (n i t : Nat) (s : σ), i + n = N → n < t → I i s → P (F t i s)
  | 0, i, t, s, h, ht, h1 => by
    rw [Nat.add_zero] at h
    subst h
    obtain ⟨t, rfl⟩ : ∃ z, t = z + 1 := ⟨t - 1, by omega⟩
    exact hend t s h1
  | n + 1, i, t, s, h, ht, h1 => by
    obtain ⟨t, rfl⟩ : ∃ z, t = z + 1 := ⟨t - 1, by omega⟩
    rcases hstep t i s (by omega) (by omega) h1 with h2 | ⟨s', h2, h3⟩
    · exact h2
    · rw [h2]
      exact loopQ0 F N I P hend hstep n (i + 1) t s' (by omega) (by omega) h3
theorem loopQ {σ ρ : Type} (F : Nat → Nat → σ → Option ρ) (i0 N : Nat) (h0 : i0 ≤ N) (hN : N < 100000) (I : Nat → σ → Prop) (P : Option ρ → Prop) (s : σ) (hI : I i0 s) (hend : ∀ t s, I N s → P (F (t + 1) N s)) (hstep : ∀ t i s, 0 < t → i < N → I i s → P (F (t + 1) i s) ∨ ∃ s', F (t + 1) i s = F t (i + 1) s' ∧ I (i + 1) s') : P (F FU i0 s) :=
  loopQ0 F N I P hend hstep (N - i0) i0 FU s (by omega) (by rw [FU_eq]; omega) hI
def SQ (o o' : Ob) : Prop := (∀ k, k ≠ 34 → o'.1 k = o.1 k) ∧ ∀ k, ¬ (30 ≤ k ∧ k ≤ 33) → o'.2 k = o.2 k
theorem SQ.refl (o : Ob) : SQ o o := ⟨fun _ _ => rfl, fun _ _ => rfl⟩
theorem SQ.trans {a b c : Ob} (h1 : SQ a b) (h2 : SQ b c) : SQ a c := ⟨fun k hk => (h2.1 k hk).trans (h1.1 k hk), fun k hk => (h2.2 k hk).trans (h1.2 k hk)⟩
theorem MK.sq {M M' T : Ob} {S U L N D : Nat} (h : MK M T S U L N D) (e : SQ M M') : MK M' T S U L N D := by
  obtain ⟨e1, e2⟩ := e
  unfold MK
  rw [e1 2 (by omega), e1 5 (by omega), e1 7 (by omega), e2 0 (by omega), e2 1 (by omega), e2 3 (by omega), e2 4 (by omega), e2 6 (by omega), e2 8 (by omega)]
  exact h
theorem AR.sq {As M M' : Ob} {q S U L : Nat} (h : AR As M q S U L) (e : SQ M M') : AR As M' q S U L := by
  obtain ⟨e1, e2⟩ := e
  unfold AR
  rw [e1 26 (by omega), e2 27 (by omega), e2 28 (by omega), e2 29 (by omega)]
  exact h
/-- the queue: R states st, each dp far -/
def QI (o : Ob) (R : Nat) (st dp : Nat → Nat) : Prop := o.1 34 = nI R ∧ (∀ i, i < R → st i < 6561 ∧ o.2 31 i = nI (st i) ∧ o.2 30 (st i) = nI (dp i) ∧ dp i ≤ 9) ∧ (∀ i j, i < R → j < R → st i = st j → i = j) ∧ ∀ c, c < 6561 → (∀ i, i < R → st i ≠ c) → o.2 30 c = -nI 4
theorem QI.R_le {o : Ob} {R : Nat} {st dp : Nat → Nat} (h : QI o R st dp) : R ≤ 6561 := by
  obtain ⟨h1, h2, h3, h4⟩ := h
  exact fb_holes 6561 R st (fun i hi => (h2 i hi).1) (fun i j hij hj e => by have := h3 i j (by omega) hj e; omega)
def cd (T : Ob) (x j : Nat) : Nat := 81 * sg T (x / 81) j + x / 81
theorem cd_lt (T : Ob) {x : Nat} (j : Nat) (hx : x < 6561) : cd T x j < 6561 := by
  have := sg_le T (a := x / 81) j (by omega)
  unfold cd
  omega
/-- from x, d far, the moves below j are given -/
def XP (T : Ob) (x d j : Nat) (o0 : Ob) (R : Nat) (st dp : Nat → Nat) (o : Ob) (R' : Nat) (st' dp' jj : Nat → Nat) : Prop := QI o R' st' dp' ∧ R ≤ R' ∧ (∀ i, i < R → st' i = st i ∧ dp' i = dp i ∧ o.2 32 (st i) = o0.2 32 (st i) ∧ o.2 33 (st i) = o0.2 33 (st i)) ∧ (∀ i, R ≤ i → i < R' → jj i < j ∧ st' i = cd T x (jj i) ∧ dp' i = d + 1 ∧ o.2 32 (st' i) = nI (jj i) ∧ o.2 33 (st' i) = nI x) ∧ (∀ i i', R ≤ i → i < i' → i' < R' → jj i < jj i') ∧ (∀ j', j' < j → ∃ i, i < R' ∧ st' i = cd T x j' ∧ (R ≤ i → jj i ≤ j')) ∧ SQ o0 o
theorem X8_behindPush {T M : Ob} {S U L N D x j : Nat} (hT : TK T S U L N D) (hM : MK M T S U L N D) (hx : x < 6561) (hj : j < 2 * N) : f_X8_behindPush M (nI x) (nI j) = some (nI (cd T x j)) := by
  have lN := hT.2.2.2.2.2.2.1
  obtain ⟨inc, i1, i2, i3⟩ := hT.2.2.2.2.2.2.2.2.2.2.2.2.2.2.2.1 (j / 2) (by omega)
  have mP := hM.2.2.2.2.2.2.2.2.1 (j / 2) (by omega)
  have e1 : nI x / (81 : Int32) = nI (x / 81) := pk_div (d := 81) (by omega) (by omega) (by omega)
  have e2 : nI j / (2 : Int32) = nI (j / 2) := pk_div (d := 2) (by omega) (by omega) (by omega)
  have e3 : nI j - nI j / (2 : Int32) * (2 : Int32) = nI (j % 2) := pk_rem (d := 2) (by omega) (by omega) (by omega)
  have e4 := (sh_dec (j % 2) (by omega) (x / 81) (by omega) inc (by omega)).1
  unfold f_X8_behindPush
  rw [e3, e2, e1, bnd_def, if_neg (nI_in (by omega) (by omega)), nI_clamp (by omega), mP, i3, show nI (x / 81) - (40 : Int32) = nI (x / 81) - nI 40 from rfl, e4, bnd_def, bnd_def]
  unfold f_X8_state cd sg
  rw [i3, nI_clamp (by omega), sub40, show (81 : Int32) = nI 81 from rfl, pk_mul, Int32.add_assoc, sub40, nI_add]
theorem X8_expand {T : Ob} {S U L N D x d R : Nat} {st dp : Nat → Nat} (hT : TK T S U L N D) {o0 : Ob} (hM : MK o0 T S U L N D) (hQ : QI o0 R st dp) (hd : d < 9) (hxi : ∃ i, i < R ∧ st i = x ∧ dp i = d) (q yv : Int32) (kL : Int32 → Int32 → Ob → Option (Int32 × Ob)) : ∃ o R' st' dp' jj, f_X8_meeting_113 q kL (nI x) yv FU (0 : Int32) o0 = kL yv (q + 1) o ∧ XP T x d (2 * N) o0 R st dp o R' st' dp' jj := by
  have lN := hT.2.2.2.2.2.2.1
  obtain ⟨i0, hi0, hx0, hd0⟩ := hxi
  have hx : x < 6561 := by rw [← hx0]; exact (hQ.2.1 i0 hi0).1
  have hl := loopE (fun t j (o : Ob) => f_X8_meeting_113 q kL (nI x) yv t (nI j) o) 0 (2 * N) (by omega) (by omega) (fun j o => ∃ R' st' dp' jj, XP T x d j o0 R st dp o R' st' dp' jj) (fun o => kL yv (q + 1) o) o0
    ⟨R, st, dp, fun _ => 0, hQ, Nat.le_refl _, fun i _ => ⟨rfl, rfl, rfl, rfl⟩, fun i h1 h2 => by omega, fun i i' h1 h2 h3 => by omega, fun j' h => absurd h (by omega), SQ.refl _⟩
    (fun t o h => by
      obtain ⟨R', st', dp', jj, p1, p2, p3, p4, p5, p6, p7⟩ := h
      have hm := (hM.sq p7).2.1
      show f_X8_meeting_113 q kL (nI x) yv (t + 1) (nI (2 * N)) o = _
      rw [f_X8_meeting_113, hm, show (2 : Int32) = nI 2 from rfl, pk_mul, if_pos (nI_le (Nat.le_refl _) (by omega))]
      rfl)
    (fun t j o hj h => by
      obtain ⟨R', st', dp', jj, p1, p2, p3, p4, p5, p6, p7⟩ := h
      have hMo := hM.sq p7
      have hm := hMo.2.1
      have hbp := X8_behindPush hT hMo hx hj
      have hR' := p1.R_le
      obtain ⟨q1, q2, q3, q4⟩ := id p1
      have hcl := cd_lt T j hx
      have hfx : o.2 30 x = nI d := by
        have := (q2 i0 (by omega)).2.2.1
        rw [(p3 i0 hi0).1, (p3 i0 hi0).2.1, hx0, hd0] at this
        exact this
      have h9 : ¬ (9 : Int32) ≤ nI d := nI_ge (b := 9) hd (by omega)
      show ∃ s', f_X8_meeting_113 q kL (nI x) yv (t + 1) (nI j) o = f_X8_meeting_113 q kL (nI x) yv t (nI (j + 1)) s' ∧ _
      rw [f_X8_meeting_113, hm, show (2 : Int32) = nI 2 from rfl, pk_mul, if_neg (nI_ge hj (by omega)), if_neg (nI_in hx (by omega)), nI_clamp (show x < 2 ^ 31 by omega), hfx, if_neg h9, hbp, Option.bind_some, if_neg (nI_in hcl (by omega)), nI_clamp (show cd T x j < 2 ^ 31 by omega)]
      unfold f_X8_meeting_211
      by_cases hin : ∃ i, i < R' ∧ st' i = cd T x j
      · obtain ⟨i, hi, hic⟩ := hin
        have hfy := (q2 i hi).2.2
        rw [hic] at hfy
        refine ⟨o, ?_, R', st', dp', jj, p1, p2, p3, fun i' h1 h2 => ?_, p5, fun j' hj' => ?_, p7⟩
        · rw [hfy.1, if_pos (nI_pos' (by have := hfy.2; omega)), bnd_def, nI_1]
        · obtain ⟨a, b⟩ := p4 i' h1 h2
          exact ⟨by omega, b⟩
        · by_cases hjj : j' = j
          · subst hjj
            refine ⟨i, hi, hic, fun hRi => ?_⟩
            have := (p4 i hRi hi).1
            omega
          · exact p6 j' (by omega)
      · have hnot : ∀ i, i < R' → st' i ≠ cd T x j := fun i hi e => hin ⟨i, hi, e⟩
        have hfy := q4 (cd T x j) hcl hnot
        have hRlt : R' < 6561 := by
          have := fb_holes 6561 (R' + 1) (ext st' R' (cd T x j)) (fun i hi => by
            by_cases hiR : i = R'
            · subst hiR; rw [ext_s]; exact hcl
            · rw [ext_n _ _ hiR]; exact (q2 i (by omega)).1) (fun i i2 hii hi2 e => by
            rw [ext_n _ _ (show i ≠ R' by omega)] at e
            by_cases hiR : i2 = R'
            · subst hiR; rw [ext_s] at e; exact hnot i (by omega) e
            · rw [ext_n _ _ hiR] at e
              have := q3 i i2 (by omega) (by omega) e
              omega)
          omega
        have hst : ∀ i, i < R' → st' i ≠ cd T x j := hnot
        refine ⟨stR (stR (stR (stR (stF o 34 (nI (R' + 1))) 30 (upd (o.2 30) (cd T x j) (nI (d + 1)))) 31 (upd (o.2 31) R' (nI (cd T x j)))) 32 (upd (o.2 32) (cd T x j) (nI j))) 33 (upd (o.2 33) (cd T x j) (nI x)), ?_, R' + 1, ext st' R' (cd T x j), ext dp' R' (d + 1), ext jj R' j, ⟨rfl, fun i hi => ?_, fun i i2 hi hi2 e => ?_, fun c hc hcn => ?_⟩, by omega, fun i hi => ?_, fun i h1 h2 => ?_, fun i i' h1 h2 h3 => ?_, fun j' hj' => ?_, ?_⟩
        · rw [hfy, if_neg (show ¬ 0 ≤ -nI 4 by decide), if_neg (show ¬ (nI x < 0 ∨ 6561 ≤ x) from fun z => z.elim (nI_pos (by omega)) (by omega)), if_neg (show ¬ (nI (cd T x j) < 0 ∨ 6561 ≤ cd T x j) from fun z => z.elim (nI_pos (by omega)) (by omega)), nI_1, bnd_def, if_neg (show ¬ (nI (cd T x j) < 0 ∨ 6561 ≤ cd T x j) from fun z => z.elim (nI_pos (by omega)) (by omega)), bnd_def, if_neg (show ¬ (nI (cd T x j) < 0 ∨ 6561 ≤ cd T x j) from fun z => z.elim (nI_pos (by omega)) (by omega)), bnd_def, q1, if_neg (nI_in hRlt (by omega)), bnd_def, bnd_def, nI_1, bnd_def, nI_1, nI_clamp (by omega)]
        · show ext st' R' (cd T x j) i < 6561 ∧ upd (o.2 31) R' (nI (cd T x j)) i = nI (ext st' R' (cd T x j) i) ∧ upd (o.2 30) (cd T x j) (nI (d + 1)) (ext st' R' (cd T x j) i) = nI (ext dp' R' (d + 1) i) ∧ ext dp' R' (d + 1) i ≤ 9
          by_cases hiR : i = R'
          · subst hiR
            rw [ext_s, ext_s, pk_us, pk_us]
            exact ⟨hcl, rfl, rfl, by omega⟩
          · obtain ⟨a, b, c, e⟩ := q2 i (by omega)
            rw [ext_n _ _ hiR, ext_n _ _ hiR, pk_un hiR, pk_un (hst i (by omega))]
            exact ⟨a, b, c, e⟩
        · by_cases hiR : i = R'
          · by_cases hiR2 : i2 = R'
            · omega
            · subst hiR
              rw [ext_s, ext_n _ _ hiR2] at e
              exact absurd e.symm (hst i2 (by omega))
          · by_cases hiR2 : i2 = R'
            · subst hiR2
              rw [ext_s, ext_n _ _ hiR] at e
              exact absurd e (hst i (by omega))
            · rw [ext_n _ _ hiR, ext_n _ _ hiR2] at e
              exact q3 i i2 (by omega) (by omega) e
        · have h1 := hcn R' (by omega)
          rw [ext_s] at h1
          show upd (o.2 30) (cd T x j) (nI (d + 1)) c = -nI 4
          rw [pk_un (fun e => h1 e.symm)]
          exact q4 c hc (fun i hi => by have := hcn i (by omega); rw [ext_n _ _ (show i ≠ R' by omega)] at this; exact this)
        · show ext st' R' (cd T x j) i = st i ∧ ext dp' R' (d + 1) i = dp i ∧ upd (o.2 32) (cd T x j) (nI j) (st i) = o0.2 32 (st i) ∧ upd (o.2 33) (cd T x j) (nI x) (st i) = o0.2 33 (st i)
          obtain ⟨a, b, c, e⟩ := p3 i hi
          have hne := hst i (by omega)
          rw [a] at hne
          rw [ext_n _ _ (show i ≠ R' by omega), ext_n _ _ (show i ≠ R' by omega), pk_un hne, pk_un hne]
          exact ⟨a, b, c, e⟩
        · show ext jj R' j i < j + 1 ∧ ext st' R' (cd T x j) i = cd T x (ext jj R' j i) ∧ ext dp' R' (d + 1) i = d + 1 ∧ upd (o.2 32) (cd T x j) (nI j) (ext st' R' (cd T x j) i) = nI (ext jj R' j i) ∧ upd (o.2 33) (cd T x j) (nI x) (ext st' R' (cd T x j) i) = nI x
          by_cases hiR : i = R'
          · subst hiR
            rw [ext_s, ext_s, ext_s, pk_us, pk_us]
            exact ⟨by omega, rfl, rfl, rfl, rfl⟩
          · obtain ⟨a, b, c, e, f⟩ := p4 i h1 (by omega)
            have hne := hst i (by omega)
            rw [ext_n _ _ hiR, ext_n _ _ hiR, ext_n _ _ hiR, pk_un hne, pk_un hne]
            exact ⟨by omega, b, c, e, f⟩
        · by_cases hiR : i' = R'
          · subst hiR
            rw [ext_s, ext_n _ _ (show i ≠ i' by omega)]
            exact (p4 i h1 (by omega)).1
          · rw [ext_n _ _ hiR, ext_n _ _ (show i ≠ R' by omega)]
            exact p5 i i' h1 h2 (by omega)
        · by_cases hjj : j' = j
          · subst hjj
            exact ⟨R', by omega, ext_s _ _ _, fun _ => by rw [ext_s]; omega⟩
          · obtain ⟨i, a, b, c⟩ := p6 j' (by omega)
            refine ⟨i, by omega, ?_, fun h => ?_⟩
            · rw [ext_n _ _ (show i ≠ R' by omega)]; exact b
            · rw [ext_n _ _ (show i ≠ R' by omega)]; exact c h
        · refine p7.trans ⟨fun k hk => st1n o hk _, fun k hk => ?_⟩
          rw [st4n _ (by omega), st4n _ (by omega), st4n _ (by omega), st4n _ (by omega)]
          rfl)
  obtain ⟨o, h1, R', st', dp', jj, h2⟩ := hl
  exact ⟨o, R', st', dp', jj, h1, h2⟩
theorem X8_noexp {o0 : Ob} {x N : Nat} (hN1 : 1 ≤ N) (hN : N ≤ 4) (hm : o0.1 5 = nI N) (hx : x < 6561) (hd : o0.2 30 x = nI 9) (q yv : Int32) (kL : Int32 → Int32 → Ob → Option (Int32 × Ob)) : f_X8_meeting_113 q kL (nI x) yv FU (0 : Int32) o0 = kL yv (q + 1) o0 := by
  rw [FU_eq, f_X8_meeting_113, hm, show (2 : Int32) * nI N = nI (2 * N) from pk_mul 2 N, if_neg (show ¬ nI (2 * N) ≤ 0 from nI_nle (by omega) (by omega)), if_neg (nI_in hx (by omega)), nI_clamp (by omega), hd, if_pos (show (9 : Int32) ≤ nI 9 by decide)]
  rfl
