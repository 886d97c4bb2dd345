/-- a number of one or two figures with c behind it -/
def gk (Te : Ob) (n k c : Nat) : Prop := (nf Te n k = 1 ∨ nf Te n k = 2) ∧ lt Te n (k + nf Te n k) = c
theorem dg_ne {Te : Ob} {n k c : Nat} (h : dg Te n k = true) (hc : c < 48 ∨ 57 < c) : ¬ lt Te n k = c := by
  have := dg_le h
  omega
theorem nf_1 {Te : Ob} {n k : Nat} : nf Te n k = 1 ↔ dg Te n k = true ∧ dg Te n (k + 1) = false := by
  unfold nf
  cases dg Te n k <;> cases dg Te n (k + 1) <;> cases dg Te n (k + 2) <;> simp
theorem nf_2 {Te : Ob} {n k : Nat} : nf Te n k = 2 ↔ dg Te n k = true ∧ dg Te n (k + 1) = true ∧ dg Te n (k + 2) = false := by
  unfold nf
  cases dg Te n k <;> cases dg Te n (k + 1) <;> cases dg Te n (k + 2) <;> simp
theorem nf_le (Te : Ob) (n k : Nat) : nf Te n k ≤ 3 := by
  unfold nf
  cases dg Te n k <;> cases dg Te n (k + 1) <;> cases dg Te n (k + 2) <;> simp
/-- one number of an item, as the class reads it -/
theorem X7_eStep {Te M : Ob} {n k w i : Nat} (h : TX Te M n) (hk : k < 800) (hw : w = 1 ∨ w = 3) (hi : i < w) (o : Ob) (t : Nat) : (gk Te n k (if i = w - 1 then 59 else 44) ∧ f_X6_endOfItem_24 Te (nI w) (t + 1) (nI k) (nI i) o = f_X6_endOfItem_24 Te (nI w) t (nI (k + nf Te n k + 1)) (nI (i + 1)) (stR o 7 (upd (o.2 7) i (nI (vl Te n k))))) ∨ (¬ gk Te n k (if i = w - 1 then 59 else 44) ∧ ∃ f, f_X6_endOfItem_24 Te (nI w) (t + 1) (nI k) (nI i) o = some (-4, stR o 7 f)) := by
  have hc : (if i = w - 1 then 59 else 44) < 48 ∨ 57 < (if i = w - 1 then 59 else 44) := by split <;> omega
  have hc2 : (if i = w - 1 then 59 else 44) < 2 ^ 31 := by split <;> omega
  have e91 : ∀ (q : Int32) (kL : Int32 → Int32 → Ob → Option (Int32 × Ob)) (u : Nat → Int32) (x8 q9 : Int32), (if (nI w - (1 : Int32)) ≤ nI i then (f_X6_endOfItem_91 (nI i) o kL u x8 q9 (59 : Int32)) else (f_X6_endOfItem_91 (nI i) o kL u x8 q9 (44 : Int32))) = f_X6_endOfItem_91 (nI i) o kL u x8 q9 (nI (if i = w - 1 then 59 else 44)) := by
    intro q kL u x8 q9
    rw [show (1 : Int32) = nI 1 from rfl, pk_sub (by omega)]
    by_cases hi1 : i = w - 1
    · rw [if_pos (nI_le (by omega) (by omega)), if_pos hi1]; rfl
    · rw [if_neg (nI_ge (by omega) (by omega)), if_neg hi1]; rfl
  have hfig := X7_figuresAt h (show k < 900 by omega)
  rw [f_X6_endOfItem_24, if_neg (nI_ge hi (by omega)), hfig, Option.bind_some]
  by_cases d0 : dg Te n k = true
  · rw [if_pos d0]
    -- the number and the letter behind it
    have main : ∀ f v, (f = 1 ∨ f = 2) → f_X2_numberAt Te (nI k) (nI f) = some (nI v) → (gk Te n k (if i = w - 1 then 59 else 44) ↔ lt Te n (k + f) = (if i = w - 1 then 59 else 44)) → (lt Te n (k + f) = (if i = w - 1 then 59 else 44) → nf Te n k = f ∧ vl Te n k = v) → (gk Te n k (if i = w - 1 then 59 else 44) ∧ (if nI f = 0 then (some ((-4 : Int32), o)) else ((f_X2_numberAt Te (nI k) (nI f)).bind fun q6 : Int32 => (f_X7_setCell 3 (o.2 7) (nI i) q6).bind fun q7 : (Nat → Int32) => bnd (nI k + nI f) fun x8 : Int32 => (f_X2_letterAt Te x8).bind fun q9 : Int32 => if (nI w - (1 : Int32)) ≤ nI i then (f_X6_endOfItem_91 (nI i) o (f_X6_endOfItem_24 Te (nI w) t) q7 x8 q9 (59 : Int32)) else (f_X6_endOfItem_91 (nI i) o (f_X6_endOfItem_24 Te (nI w) t) q7 x8 q9 (44 : Int32)))) = f_X6_endOfItem_24 Te (nI w) t (nI (k + nf Te n k + 1)) (nI (i + 1)) (stR o 7 (upd (o.2 7) i (nI (vl Te n k))))) ∨ (¬ gk Te n k (if i = w - 1 then 59 else 44) ∧ ∃ f', (if nI f = 0 then (some ((-4 : Int32), o)) else ((f_X2_numberAt Te (nI k) (nI f)).bind fun q6 : Int32 => (f_X7_setCell 3 (o.2 7) (nI i) q6).bind fun q7 : (Nat → Int32) => bnd (nI k + nI f) fun x8 : Int32 => (f_X2_letterAt Te x8).bind fun q9 : Int32 => if (nI w - (1 : Int32)) ≤ nI i then (f_X6_endOfItem_91 (nI i) o (f_X6_endOfItem_24 Te (nI w) t) q7 x8 q9 (59 : Int32)) else (f_X6_endOfItem_91 (nI i) o (f_X6_endOfItem_24 Te (nI w) t) q7 x8 q9 (44 : Int32)))) = some (-4, stR o 7 f')) := by
      intro f v hf hnum hiff hval
      have hll := lt_le h (k + f)
      rw [if_neg (show ¬ nI f = 0 from nI_ne0 (by omega) (by omega)), hnum, Option.bind_some, f_X7_setCell_at (by decide) _ (by omega), Option.bind_some, nI_add, bnd_def, X7_letterAt h (by omega), Option.bind_some, e91 0]
      unfold f_X6_endOfItem_91
      by_cases hl : lt Te n (k + f) = (if i = w - 1 then 59 else 44)
      · left
        obtain ⟨v1, v2⟩ := hval hl
        refine ⟨hiff.mpr hl, ?_⟩
        rw [if_pos (show nI (lt Te n (k + f)) = nI (if i = w - 1 then 59 else 44) by rw [hl]), bnd_def, bnd_def, nI_1, nI_1, v1, v2]
      · right
        refine ⟨fun z => hl (hiff.mp z), upd (o.2 7) i (nI v), ?_⟩
        rw [if_neg (show ¬ nI (lt Te n (k + f)) = nI (if i = w - 1 then 59 else 44) from fun z => hl ((nI_eq (by omega) hc2).mp z))]
    by_cases d1 : dg Te n (k + 1) = true
    · rw [if_pos d1]
      refine main 2 (10 * (lt Te n k - 48) + (lt Te n (k + 1) - 48)) (Or.inr rfl) ?_ ?_ ?_
      · rw [X7_numberAt h (by omega) d0 (Or.inr ⟨rfl, d1⟩), if_neg (by omega)]
      · constructor
        · intro ⟨a, b⟩
          rcases a with a | a
          · have := (nf_1.mp a).2; rw [d1] at this; cases this
          · rw [a] at b; exact b
        · intro b
          have d2 : dg Te n (k + 2) = false := by
            cases hd : dg Te n (k + 2) with
            | false => rfl
            | true => exact absurd b (dg_ne hd hc)
          have hnf := nf_2.mpr ⟨d0, d1, d2⟩
          exact ⟨Or.inr hnf, by rw [hnf]; exact b⟩
      · intro b
        have d2 : dg Te n (k + 2) = false := by
          cases hd : dg Te n (k + 2) with
          | false => rfl
          | true => exact absurd b (dg_ne hd hc)
        refine ⟨nf_2.mpr ⟨d0, d1, d2⟩, ?_⟩
        unfold vl
        rw [if_pos d1, d2, if_neg (by decide)]
    · rw [if_neg d1]
      have d1' : dg Te n (k + 1) = false := by cases hd : dg Te n (k + 1) with | false => rfl | true => exact absurd hd d1
      have hnf := nf_1.mpr ⟨d0, d1'⟩
      refine main 1 (lt Te n k - 48) (Or.inl rfl) ?_ ?_ ?_
      · rw [X7_numberAt h (by omega) d0 (Or.inl ⟨rfl, d1'⟩), if_pos rfl]
      · constructor
        · intro ⟨a, b⟩; rw [hnf] at b; exact b
        · intro b; exact ⟨Or.inl hnf, by rw [hnf]; exact b⟩
      · intro _
        refine ⟨hnf, ?_⟩
        unfold vl
        rw [d1', if_neg (by decide)]
  · right
    rw [if_neg d0, if_pos (show nI 0 = 0 from rfl)]
    have d0' : dg Te n k = false := by cases hd : dg Te n k with | false => rfl | true => exact absurd hd d0
    refine ⟨fun z => ?_, o.2 7, by rw [stR_self]⟩
    rcases z.1 with a | a
    · have := (nf_1.mp a).1; rw [d0'] at this; cases this
    · have := (nf_2.mp a).1; rw [d0'] at this; cases this
/-- the end of an item of one number -/
theorem X7_end1 {Te M : Ob} {n p : Nat} (h : TX Te M n) (hp : p < 700) (hs : ¬ lt Te n p = 115) (o : Ob) : (gk Te n (p + 1) 59 ∧ f_X6_endOfItem o Te (nI p) = some (nI (p + 1 + nf Te n (p + 1) + 1), stR o 7 (upd (o.2 7) 0 (nI (vl Te n (p + 1)))))) ∨ (¬ gk Te n (p + 1) 59 ∧ ∃ f, f_X6_endOfItem o Te (nI p) = some (-4, stR o 7 f)) := by
  have hl := lt_le h p
  have hne : ¬ nI (lt Te n p) = 115 := fun e => hs ((nI_eq (b := 115) (by omega) (by omega)).mp e)
  have hstart : f_X6_endOfItem o Te (nI p) = f_X6_endOfItem_24 Te (nI 1) (99999 + 1) (nI (p + 1)) (nI 0) o := by
    unfold f_X6_endOfItem f_X6_endOfItem_15
    rw [X7_letterAt h (by omega), Option.bind_some, if_neg hne, bnd_def, nI_1]
    rfl
  rw [hstart]
  rcases X7_eStep h (show p + 1 < 800 by omega) (Or.inl rfl) (show 0 < 1 by omega) o 99999 with ⟨a, b⟩ | ⟨a, b⟩
  · left
    refine ⟨a, ?_⟩
    rw [b]
    have : f_X6_endOfItem_24 Te (nI 1) (99998 + 1) (nI (p + 1 + nf Te n (p + 1) + 1)) (nI (0 + 1)) (stR o 7 (upd (o.2 7) 0 (nI (vl Te n (p + 1))))) = some (nI (p + 1 + nf Te n (p + 1) + 1), stR o 7 (upd (o.2 7) 0 (nI (vl Te n (p + 1))))) := by
      rw [f_X6_endOfItem_24, if_pos (nI_le (by omega) (by omega))]
    exact this
  · exact Or.inr ⟨a, b⟩
/-- the end of an item of three -/
theorem X7_end3 {Te M : Ob} {n p : Nat} (h : TX Te M n) (hp : p < 700) (hs : lt Te n p = 115) (o : Ob) : (∃ k2 k3, k2 = p + 1 + nf Te n (p + 1) + 1 ∧ k3 = k2 + nf Te n k2 + 1 ∧ gk Te n (p + 1) 44 ∧ gk Te n k2 44 ∧ gk Te n k3 59 ∧ f_X6_endOfItem o Te (nI p) = some (nI (k3 + nf Te n k3 + 1), stR o 7 (upd (upd (upd (o.2 7) 0 (nI (vl Te n (p + 1)))) 1 (nI (vl Te n k2))) 2 (nI (vl Te n k3))))) ∨ ((∀ k2 k3, k2 = p + 1 + nf Te n (p + 1) + 1 → k3 = k2 + nf Te n k2 + 1 → ¬ (gk Te n (p + 1) 44 ∧ gk Te n k2 44 ∧ gk Te n k3 59)) ∧ ∃ f, f_X6_endOfItem o Te (nI p) = some (-4, stR o 7 f)) := by
  have hstart : f_X6_endOfItem o Te (nI p) = f_X6_endOfItem_24 Te (nI 3) (99999 + 1) (nI (p + 1)) (nI 0) o := by
    unfold f_X6_endOfItem f_X6_endOfItem_15
    rw [X7_letterAt h (by omega), Option.bind_some, hs, if_pos (show nI 115 = 115 from rfl), bnd_def, nI_1]
    rfl
  have f1 := nf_le Te n (p + 1)
  rw [hstart]
  rcases X7_eStep h (show p + 1 < 800 by omega) (Or.inr rfl) (show 0 < 3 by omega) o 99999 with ⟨a, b⟩ | ⟨a, b⟩
  · have f2 := nf_le Te n (p + 1 + nf Te n (p + 1) + 1)
    rcases X7_eStep h (show p + 1 + nf Te n (p + 1) + 1 < 800 by omega) (Or.inr rfl) (show 0 + 1 < 3 by omega) (stR o 7 (upd (o.2 7) 0 (nI (vl Te n (p + 1))))) 99998 with ⟨a2, b2⟩ | ⟨a2, b2⟩
    · rcases X7_eStep h (show p + 1 + nf Te n (p + 1) + 1 + nf Te n (p + 1 + nf Te n (p + 1) + 1) + 1 < 800 by omega) (Or.inr rfl) (show 0 + 1 + 1 < 3 by omega) (stR (stR o 7 (upd (o.2 7) 0 (nI (vl Te n (p + 1))))) 7 (upd ((stR o 7 (upd (o.2 7) 0 (nI (vl Te n (p + 1))))).2 7) (0 + 1) (nI (vl Te n (p + 1 + nf Te n (p + 1) + 1))))) 99997 with ⟨a3, b3⟩ | ⟨a3, b3⟩
      · left
        refine ⟨_, _, rfl, rfl, a, a2, a3, ?_⟩
        have hend : ∀ e o', f_X6_endOfItem_24 Te (nI 3) (99996 + 1) e (nI (0 + 1 + 1 + 1)) o' = some (e, o') := fun e o' => by
          rw [f_X6_endOfItem_24, if_pos (nI_le (by omega) (by omega))]
        refine (b.trans (b2.trans (b3.trans (hend _ _)))).trans ?_
        rw [stR_stR, stR_stR]
        rfl
      · right
        refine ⟨fun k2 k3 h2 h3 z => ?_, ?_⟩
        · subst h2; subst h3
          exact a3 z.2.2
        · obtain ⟨f, b3⟩ := b3
          refine ⟨f, (b.trans (b2.trans b3)).trans ?_⟩
          rw [stR_stR, stR_stR]
    · right
      refine ⟨fun k2 k3 h2 h3 z => ?_, ?_⟩
      · subst h2
        exact a2 z.2.1
      · obtain ⟨f, b2⟩ := b2
        refine ⟨f, (b.trans b2).trans ?_⟩
        rw [stR_stR]
  · right
    exact ⟨fun k2 k3 h2 h3 z => a z.1, b⟩
