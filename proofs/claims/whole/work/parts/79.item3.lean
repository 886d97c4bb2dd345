/-- the class's draft against the reference's new numbers -/
def DR (T M : Ob) (S U L N D : Nat) : Prop := TK T S U L N D ∧ M.1 11 = nI S ∧ M.1 14 = nI N ∧ M.1 16 = nI D ∧ M.2 9 0 = nI U ∧ M.2 9 1 = nI L ∧ (∀ k, k < 12 → td U L k → M.2 10 k = T.2 0 k) ∧ (∀ s, s < S → M.2 12 s = T.2 2 s ∧ M.2 13 s = T.2 3 s ∧ M.2 18 (290 + s) = T.2 4 s) ∧ (∀ p, p < N → M.2 15 p = T.2 5 p) ∧ (∀ d, d < D → M.2 17 d = T.2 6 d) ∧ ∀ j, 286 ≤ j → j < 312 → ¬ (290 ≤ j ∧ j < 290 + S) → M.2 18 j = nI 0
theorem TK.land {T : Ob} {S U L N D l v : Nat} (h : TK T S U L N D) (hl : l < 2) (hc : (if l = 0 then U else L) < 6) (hv : v ≤ 60) : TK (stR (stR T 0 (upd (T.2 0) (6 * l + (if l = 0 then U else L)) (nI v))) 1 (upd (T.2 1) l (nI ((if l = 0 then U else L) + 1)))) S (if l = 0 then U + 1 else U) (if l = 0 then L else L + 1) N D := by
  obtain ⟨hS, hN, hD, hU, hL, lS, lN, lD, lU, lL, tI, tX, tK, tO, tG, tP, tW⟩ := h
  rcases (show l = 0 ∨ l = 1 by omega) with rfl | rfl
  · simp only [if_true, Nat.mul_zero, Nat.zero_add] at *
    refine ⟨hS, hN, hD, (show upd (T.2 1) 0 (nI (U + 1)) 0 = nI (U + 1) from pk_us), (show upd (T.2 1) 0 (nI (U + 1)) 1 = nI L from (pk_un (by omega)).trans hL), lS, lN, lD, by omega, lL, fun k hk ht => ?_, fun k hk ht => ?_, tK, tO, tG, tP, tW⟩
    · show ∃ x, x ≤ 60 ∧ upd (T.2 0) U (nI v) k = nI x
      by_cases hkU : k = U
      · subst hkU; exact ⟨v, hv, pk_us⟩
      · rw [pk_un hkU]; exact tI k hk (by omega)
    · show upd (T.2 0) U (nI v) k = -1000
      rw [pk_un (by omega)]
      exact tX k hk (by omega)
  · simp only [show ¬ (1 : Nat) = 0 by omega, if_false, Nat.mul_one] at *
    refine ⟨hS, hN, hD, (show upd (T.2 1) 1 (nI (L + 1)) 0 = nI U from (pk_un (by omega)).trans hU), (show upd (T.2 1) 1 (nI (L + 1)) 1 = nI (L + 1) from pk_us), lS, lN, lD, lU, by omega, fun k hk ht => ?_, fun k hk ht => ?_, tK, tO, tG, tP, tW⟩
    · show ∃ x, x ≤ 60 ∧ upd (T.2 0) (6 + L) (nI v) k = nI x
      by_cases hkU : k = 6 + L
      · subst hkU; exact ⟨v, hv, pk_us⟩
      · rw [pk_un hkU]; exact tI k hk (by omega)
    · show upd (T.2 0) (6 + L) (nI v) k = -1000
      rw [pk_un (by omega)]
      exact tX k hk (by omega)
theorem DR.land {T M : Ob} {S U L N D l v : Nat} (h : DR T M S U L N D) (hl : l < 2) (hc : (if l = 0 then U else L) < 6) (hv : v ≤ 60) : DR (stR (stR T 0 (upd (T.2 0) (6 * l + (if l = 0 then U else L)) (nI v))) 1 (upd (T.2 1) l (nI ((if l = 0 then U else L) + 1)))) (stR (stR M 9 (upd (M.2 9) l (nI ((if l = 0 then U else L) + 1)))) 10 (upd (M.2 10) (6 * l + (if l = 0 then U else L)) (nI v))) S (if l = 0 then U + 1 else U) (if l = 0 then L else L + 1) N D := by
  obtain ⟨hT, h11, h14, h16, h90, h91, h10, h12, h15, h17, h18⟩ := h
  have hU := hT.2.2.2.2.2.2.2.2.1
  refine ⟨hT.land hl hc hv, h11, h14, h16, ?_, ?_, fun k hk ht => ?_, h12, h15, h17, h18⟩
  · show upd (M.2 9) l _ 0 = _
    rcases (show l = 0 ∨ l = 1 by omega) with rfl | rfl
    · rw [pk_us, if_pos rfl, if_pos rfl]
    · rw [pk_un (by omega), if_neg (by omega)]; exact h90
  · show upd (M.2 9) l _ 1 = _
    rcases (show l = 0 ∨ l = 1 by omega) with rfl | rfl
    · rw [pk_un (by omega), if_pos rfl]; exact h91
    · rw [pk_us, if_neg (by omega), if_neg (by omega)]
  · show upd (M.2 10) (6 * l + (if l = 0 then U else L)) (nI v) k = upd (T.2 0) (6 * l + (if l = 0 then U else L)) (nI v) k
    by_cases hk2 : k = 6 * l + (if l = 0 then U else L)
    · rw [hk2, pk_us, pk_us]
    · rw [pk_un hk2, pk_un hk2]
      refine h10 k hk ?_
      rcases (show l = 0 ∨ l = 1 by omega) with rfl | rfl
      · simp only [if_true] at ht hk2
        omega
      · simp only [show ¬ (1 : Nat) = 0 by omega, if_false] at ht hk2
        omega
theorem DR.push {T M : Ob} {S U L N D v : Nat} (h : DR T M S U L N D) (hc : N < 4) (h1 : 1 ≤ v) (hv : v ≤ 20) : DR (stR (stF T 9 (nI (N + 1))) 5 (upd (T.2 5) N (nI v))) (stR (stF M 14 (nI (N + 1))) 15 (upd (M.2 15) N (nI v))) S U L (N + 1) D := by
  obtain ⟨⟨hS, hN, hD, hU, hL, lS, lN, lD, lU, lL, tI, tX, tK, tO, tG, tP, tW⟩, h11, h14, h16, h90, h91, h10, h12, h15, h17, h18⟩ := h
  refine ⟨⟨hS, rfl, hD, hU, hL, lS, by omega, lD, lU, lL, tI, tX, tK, tO, tG, fun p hp => ?_, tW⟩, h11, rfl, h16, h90, h91, h10, h12, fun p hp => ?_, h17, h18⟩
  · show ∃ x, 1 ≤ x ∧ x ≤ 20 ∧ upd (T.2 5) N (nI v) p = nI x
    by_cases hpN : p = N
    · subst hpN; exact ⟨v, h1, hv, pk_us⟩
    · rw [pk_un hpN]; exact tP p (by omega)
  · show upd (M.2 15) N (nI v) p = upd (T.2 5) N (nI v) p
    by_cases hpN : p = N
    · subst hpN; rw [pk_us, pk_us]
    · rw [pk_un hpN, pk_un hpN]; exact h15 p (by omega)
theorem DR.damp {T M : Ob} {S U L N D v : Nat} (h : DR T M S U L N D) (hc : D < 8) (hv : v ≤ 3) : DR (stR (stF T 10 (nI (D + 1))) 6 (upd (T.2 6) D (nI v))) (stR (stF M 16 (nI (D + 1))) 17 (upd (M.2 17) D (nI v))) S U L N (D + 1) := by
  obtain ⟨⟨hS, hN, hD, hU, hL, lS, lN, lD, lU, lL, tI, tX, tK, tO, tG, tP, tW⟩, h11, h14, h16, h90, h91, h10, h12, h15, h17, h18⟩ := h
  refine ⟨⟨hS, hN, rfl, hU, hL, lS, lN, by omega, lU, lL, tI, tX, tK, tO, tG, tP, fun p hp => ?_⟩, h11, h14, rfl, h90, h91, h10, h12, h15, fun p hp => ?_, h18⟩
  · show ∃ x, x ≤ 3 ∧ upd (T.2 6) D (nI v) p = nI x
    by_cases hpN : p = D
    · subst hpN; exact ⟨v, hv, pk_us⟩
    · rw [pk_un hpN]; exact tW p (by omega)
  · show upd (M.2 17) D (nI v) p = upd (T.2 6) D (nI v) p
    by_cases hpN : p = D
    · subst hpN; rw [pk_us, pk_us]
    · rw [pk_un hpN, pk_un hpN]; exact h17 p (by omega)
theorem DR.strip {T M : Ob} {S U L N D a b c : Nat} (h : DR T M S U L N D) (hc : S < 7) (ha : a ≤ 3) (hb : b ≤ 60) (hg : c ≤ 99) : DR (stR (stR (stR (stF T 8 (nI (S + 1))) 2 (upd (T.2 2) S (nI a))) 3 (upd (T.2 3) S (nI b))) 4 (upd (T.2 4) S (nI c))) (stR (stR (stR (stF M 11 (nI (S + 1))) 12 (upd (M.2 12) S (nI a))) 13 (upd (M.2 13) S (nI b))) 18 (upd (M.2 18) (290 + S) (nI c))) (S + 1) U L N D := by
  obtain ⟨⟨hS, hN, hD, hU, hL, lS, lN, lD, lU, lL, tI, tX, tK, tO, tG, tP, tW⟩, h11, h14, h16, h90, h91, h10, h12, h15, h17, h18⟩ := h
  refine ⟨⟨rfl, hN, hD, hU, hL, by omega, lN, lD, lU, lL, tI, tX, fun s hs => ?_, fun s hs => ?_, fun s hs => ?_, tP, tW⟩, rfl, h14, h16, h90, h91, h10, fun s hs => ?_, h15, h17, fun j j1 j2 j3 => ?_⟩
  · show ∃ x, x ≤ 3 ∧ upd (T.2 2) S (nI a) s = nI x
    by_cases hsS : s = S
    · subst hsS; exact ⟨a, ha, pk_us⟩
    · rw [pk_un hsS]; exact tK s (by omega)
  · show ∃ x, x ≤ 60 ∧ upd (T.2 3) S (nI b) s = nI x
    by_cases hsS : s = S
    · subst hsS; exact ⟨b, hb, pk_us⟩
    · rw [pk_un hsS]; exact tO s (by omega)
  · show ∃ x, x ≤ 99 ∧ upd (T.2 4) S (nI c) s = nI x
    by_cases hsS : s = S
    · subst hsS; exact ⟨c, hg, pk_us⟩
    · rw [pk_un hsS]; exact tG s (by omega)
  · show upd (M.2 12) S (nI a) s = upd (T.2 2) S (nI a) s ∧ upd (M.2 13) S (nI b) s = upd (T.2 3) S (nI b) s ∧ upd (M.2 18) (290 + S) (nI c) (290 + s) = upd (T.2 4) S (nI c) s
    by_cases hsS : s = S
    · subst hsS; rw [pk_us, pk_us, pk_us, pk_us, pk_us, pk_us]; exact ⟨rfl, rfl, rfl⟩
    · rw [pk_un hsS, pk_un hsS, pk_un hsS, pk_un hsS, pk_un (show 290 + s ≠ 290 + S by omega), pk_un hsS]; exact h12 s (by omega)
  · show upd (M.2 18) (290 + S) (nI c) j = nI 0
    rw [pk_un (by omega)]
    exact h18 j j1 j2 (by omega)
/-- behind an item: the letter that ends it -/
def TL (kL : Ob → Option (Bool × Ob)) (q8 : Ob) : Option (Bool × Ob) := if (q8.1 25) = 0 then ((f_X8_next q8).bind fun q11 : Int32 => if q11 = (59 : Int32) then (f_X8_reads_82 kL q8 false) else (f_X8_reads_77 kL q8)) else (f_X8_reads_77 kL q8)
theorem TL_bad {q8 : Ob} (h : q8.1 25 = nI 1) (kL : Ob → Option (Bool × Ob)) : TL kL q8 = kL (stF (stF q8 23 (q8.1 23 + 1)) 25 (nI 1)) := by
  unfold TL f_X8_reads_77 f_X8_reads_82
  rw [h, if_neg (show ¬ nI 1 = 0 by decide), bnd_def]
  rfl
theorem TL_at {Te M0 : Ob} {n k : Nat} (h : TX Te M0 n) (hk : k < 1000) {q8 : Ob} (h1 : q8.1 21 = nI n) (h2 : q8.1 23 = nI k) (h3 : q8.2 22 = M0.2 22) (h25 : q8.1 25 = nI 0) (kL : Ob → Option (Bool × Ob)) : TL kL q8 = kL (stF (stF q8 23 (nI (k + 1))) 25 (if lt Te n k = 59 then nI 0 else nI 1)) := by
  have h59 := nx_is (c := 59) (k := k) h (by omega) (by omega)
  unfold TL f_X8_reads_77 f_X8_reads_82
  rw [h25, if_pos (show nI 0 = 0 from rfl), X8_next h hk q8 h1 h2 h3, Option.bind_some]
  by_cases hl : lt Te n k = 59
  · rw [if_pos (show nx Te n k = 59 from h59.mpr hl), if_pos hl, bnd_def, h2, nI_1]; rfl
  · rw [if_neg (show ¬ nx Te n k = 59 from fun z => hl (h59.mp z)), if_neg hl, bnd_def, h2, nI_1]; rfl
/-- an item read by the reference, what comes behind given -/
def E8 (M : Ob) (p : Nat) (kL : Ob → Option (Bool × Ob)) : Option (Bool × Ob) := (f_X8_next (stF M 24 (nI p))).bind fun q6 : Int32 => (f_X8_item (stF (stF M 23 (nI (p + 1))) 24 (nI p)) q6).bind fun q8 : Ob => TL kL q8
def BAD (T Te M : Ob) (n p : Nat) (kL : Ob → Option (Bool × Ob)) : Prop := ((∃ f, f_X6_endOfItem T Te (nI p) = some (-4, stR T 7 f)) ∨ (∃ f o'' e, e < 1000 ∧ f_X6_endOfItem T Te (nI p) = some (nI e, stR T 7 f) ∧ f_X6_addItem (stR T 7 f) (nI (lt Te n p)) = some (false, o''))) ∧ ∃ M', E8 M p kL = kL M' ∧ M'.1 25 = nI 1 ∧ M'.1 24 = nI p ∧ FM M M'
def GOOD (T Te M : Ob) (n p : Nat) (kL : Ob → Option (Bool × Ob)) : Prop := ∃ f o'' e M' S U L N D, f_X6_endOfItem T Te (nI p) = some (nI e, stR T 7 f) ∧ f_X6_addItem (stR T 7 f) (nI (lt Te n p)) = some (true, o'') ∧ E8 M p kL = kL M' ∧ M'.1 25 = nI 0 ∧ M'.1 23 = nI e ∧ FM M M' ∧ DR o'' M' S U L N D ∧ p < e ∧ e ≤ n
theorem E8_bad {Te M : Ob} {n p : Nat} (h : TX Te M n) (hp : p < n) (h2 : M.1 23 = nI p) (kL : Ob → Option (Bool × Ob)) (hw : WRONG (stF (stF M 23 (nI (p + 1))) 24 (nI p)) (f_X8_item (stF (stF M 23 (nI (p + 1))) 24 (nI p)) (nI (lt Te n p)))) : ∃ M', E8 M p kL = kL M' ∧ M'.1 25 = nI 1 ∧ M'.1 24 = nI p ∧ FM M M' := by
  have hn := h.2.2.1
  obtain ⟨q8, q1, q2, q3, q4⟩ := hw
  have hnx : f_X8_next (stF M 24 (nI p)) = some (nI (lt Te n p)) := (X8_next h (by omega) (stF M 24 (nI p)) h.2.1 h2 rfl).trans (by unfold nx; rw [if_pos hp])
  refine ⟨stF (stF q8 23 (q8.1 23 + 1)) 25 (nI 1), ?_, rfl, q4, (((FM.f23 M _).trans (FM.f24 _ _)).trans q3).trans ((FM.f23 _ _).trans (FM.f25 _ _))⟩
  unfold E8
  rw [hnx, Option.bind_some, q1, Option.bind_some, TL_bad q2]
theorem E8_at {Te M G : Ob} {n p k : Nat} (h : TX Te M n) (hp : p < n) (hk : k < 1000) (h2 : M.1 23 = nI p) (kL : Ob → Option (Bool × Ob)) (hG : f_X8_item (stF (stF M 23 (nI (p + 1))) 24 (nI p)) (nI (lt Te n p)) = some G) (g1 : G.1 23 = nI k) (g2 : G.1 25 = nI 0) (gF : FM (stF (stF M 23 (nI (p + 1))) 24 (nI p)) G) : E8 M p kL = kL (stF (stF G 23 (nI (k + 1))) 25 (if lt Te n k = 59 then nI 0 else nI 1)) := by
  have hn := h.2.2.1
  have hnx : f_X8_next (stF M 24 (nI p)) = some (nI (lt Te n p)) := (X8_next h (by omega) (stF M 24 (nI p)) h.2.1 h2 rfl).trans (by unfold nx; rw [if_pos hp])
  have g21 : G.1 21 = nI n := (gF.1 21 (by omega) (by omega) (by omega) (by omega) (by omega) (by omega)).trans h.2.1
  have g22 : G.2 22 = M.2 22 := gF.2.1 22 (by omega) (by omega) (by omega) (by omega) (by omega) (by omega) (by omega)
  unfold E8
  rw [hnx, Option.bind_some, hG, Option.bind_some, TL_at h hk g21 g1 g22 g2]
/-- an item of one number -/
theorem item1 {T Te M G T' : Ob} {n p lo hi S U L N D : Nat} (h : TX Te M n) (hp : p < n) (h2 : M.1 23 = nI p) (hs : ¬ lt Te n p = 115) (kL : Ob → Option (Bool × Ob)) (A : Prop) (g1 : G.1 23 = nI (p + 1 + nf Te n (p + 1))) (g2 : G.1 25 = nI 0) (g3 : G.1 24 = nI p) (gF : FM (stF (stF M 23 (nI (p + 1))) 24 (nI p)) G)
    (H8 : (A ∧ nok Te n (p + 1) lo hi = true ∧ f_X8_item (stF (stF M 23 (nI (p + 1))) 24 (nI p)) (nI (lt Te n p)) = some G) ∨ (¬ (A ∧ nok Te n (p + 1) lo hi = true) ∧ WRONG (stF (stF M 23 (nI (p + 1))) 24 (nI p)) (f_X8_item (stF (stF M 23 (nI (p + 1))) 24 (nI p)) (nI (lt Te n p)))))
    (a1 : A → lo ≤ vl Te n (p + 1) → vl Te n (p + 1) ≤ hi → f_X6_addItem (stR T 7 (upd (T.2 7) 0 (nI (vl Te n (p + 1))))) (nI (lt Te n p)) = some (true, T') ∧ DR T' G S U L N D)
    (a2 : ¬ (A ∧ lo ≤ vl Te n (p + 1) ∧ vl Te n (p + 1) ≤ hi) → ∃ o'', f_X6_addItem (stR T 7 (upd (T.2 7) 0 (nI (vl Te n (p + 1))))) (nI (lt Te n p)) = some (false, o'')) : BAD T Te M n p kL ∨ GOOD T Te M n p kL := by
  have hn := h.2.2.1
  have hf := nf_le Te n (p + 1)
  have hFM : FM M (stF (stF M 23 (nI (p + 1))) 24 (nI p)) := (FM.f23 M _).trans (FM.f24 _ _)
  have hnok : nok Te n (p + 1) lo hi = true ↔ (nf Te n (p + 1) = 1 ∨ nf Te n (p + 1) = 2) ∧ lo ≤ vl Te n (p + 1) ∧ vl Te n (p + 1) ≤ hi := by
    unfold nok
    rw [decide_eq_true_eq]
  rcases X7_end1 h (show p < 700 by omega) hs T with ⟨b1, b2⟩ | ⟨b1, b2⟩
  · by_cases hc : A ∧ lo ≤ vl Te n (p + 1) ∧ vl Te n (p + 1) ≤ hi
    · right
      obtain ⟨t1, t2⟩ := a1 hc.1 hc.2.1 hc.2.2
      rcases H8 with ⟨-, -, hG⟩ | ⟨hn', -⟩
      · have hE := E8_at h hp (show p + 1 + nf Te n (p + 1) < 1000 by omega) h2 kL hG g1 g2 gF
        rw [if_pos b1.2] at hE
        have hkn : p + 1 + nf Te n (p + 1) < n := by
          rcases Nat.lt_or_ge (p + 1 + nf Te n (p + 1)) n with z | z
          · exact z
          · have := b1.2; rw [lt_out (Nat.not_lt.mpr z)] at this; omega
        exact ⟨_, T', _, _, S, U, L, N, D, b2, t1, hE, rfl, rfl, (hFM.trans gF).trans ((FM.f23 _ _).trans (FM.f25 _ _)), t2, by omega, by omega⟩
      · exact absurd ⟨hc.1, hnok.mpr ⟨b1.1, hc.2⟩⟩ hn'
    · left
      obtain ⟨o'', t1⟩ := a2 hc
      refine ⟨Or.inr ⟨_, o'', _, by omega, b2, t1⟩, ?_⟩
      rcases H8 with ⟨hA, hk, -⟩ | ⟨-, hw⟩
      · exact absurd ⟨hA, (hnok.mp hk).2⟩ hc
      · exact E8_bad h hp h2 kL hw
  · left
    refine ⟨Or.inl b2, ?_⟩
    rcases H8 with ⟨hA, hk, hG⟩ | ⟨-, hw⟩
    · have hE := E8_at h hp (show p + 1 + nf Te n (p + 1) < 1000 by omega) h2 kL hG g1 g2 gF
      rw [if_neg (fun z => b1 ⟨(hnok.mp hk).1, z⟩)] at hE
      exact ⟨_, hE, rfl, g3, (hFM.trans gF).trans ((FM.f23 _ _).trans (FM.f25 _ _))⟩
    · exact E8_bad h hp h2 kL hw
