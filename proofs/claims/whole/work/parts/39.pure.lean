theorem bnd_def {α β : Type} (x : α) (K : α → β) : bnd x K = K x := rfl
def s_X7_cell (n : Nat) (f : Nat → Int32) (i : Int32) : Int32 := if i < 0 ∨ n ≤ i.toNatClampNeg then 0 else f i.toNatClampNeg
theorem f_X7_cell_eq {n : Nat} (hn : n < 2 ^ 31) (f : Nat → Int32) (i : Int32) : f_X7_cell n f i = some (s_X7_cell n f i) := by
  unfold f_X7_cell s_X7_cell
  by_cases h1 : i < 0
  · rw [if_pos h1, if_pos (Or.inl h1)]
  · rw [if_neg h1]
    by_cases h2 : n ≤ i.toNatClampNeg
    · rw [if_pos ((ge_ofNat hn h1).mpr h2), if_pos (Or.inr h2)]
    · have h4 : ¬ (i < 0 ∨ n ≤ i.toNatClampNeg) := fun h => h.elim h1 h2
      rw [if_neg (fun h => h2 ((ge_ofNat hn h1).mp h)), if_neg h4, if_neg h4]
theorem f_X7_cell_at {n : Nat} (hn : n < 2 ^ 31) (f : Nat → Int32) {j : Nat} (hj : j < n) : f_X7_cell n f (nI j) = some (f j) := by
  rw [f_X7_cell_eq hn, s_X7_cell, if_neg (fun h => h.elim (nI_pos (by omega)) (by rw [nI_clamp (by omega)]; omega)), nI_clamp (by omega)]
def s_X7_setCell (n : Nat) (f : Nat → Int32) (i : Int32) (x : Int32) : Nat → Int32 := if i < 0 ∨ n ≤ i.toNatClampNeg then f else upd f i.toNatClampNeg x
theorem f_X7_setCell_eq {n : Nat} (hn : n < 2 ^ 31) (f : Nat → Int32) (i x : Int32) : f_X7_setCell n f i x = some (s_X7_setCell n f i x) := by
  unfold f_X7_setCell s_X7_setCell
  by_cases h1 : i < 0
  · rw [if_pos h1, if_pos (Or.inl h1)]
  · rw [if_neg h1]
    by_cases h2 : n ≤ i.toNatClampNeg
    · rw [if_pos ((ge_ofNat hn h1).mpr h2), if_pos (Or.inr h2)]
    · have h4 : ¬ (i < 0 ∨ n ≤ i.toNatClampNeg) := fun h => h.elim h1 h2
      rw [if_neg (fun h => h2 ((ge_ofNat hn h1).mp h)), if_neg h4, if_neg h4]
      rfl
theorem f_X7_setCell_at {n : Nat} (hn : n < 2 ^ 31) (f : Nat → Int32) {j : Nat} (hj : j < n) (x : Int32) : f_X7_setCell n f (nI j) x = some (upd f j x) := by
  rw [f_X7_setCell_eq hn, s_X7_setCell, if_neg (fun h => h.elim (nI_pos (by omega)) (by rw [nI_clamp (by omega)]; omega)), nI_clamp (by omega)]
/-- the turns i, i + 1, .. (n of them) of a counting loop -/
def up {σ : Type} (step : Nat → σ → σ) : Nat → Nat → σ → σ
  | _, 0, s => s
  | i, n + 1, s => up step (i + 1) n (step i s)
theorem up_inv {σ : Type} {step : Nat → σ → σ} (I : Nat → σ → Prop) {N : Nat} (hI : ∀ i s, i < N → I i s → I (i + 1) (step i s)) : ∀ (n i : Nat) (s : σ), i + n = N → I i s → I N (up step i n s)
  | 0, i, s, h, h1 => by rw [Nat.add_zero] at h; subst h; exact h1
  | n + 1, i, s, h, h1 => up_inv I hI n (i + 1) (step i s) (by omega) (hI i s (by omega) h1)
theorem up_congr {σ : Type} {s1 s2 : Nat → σ → σ} (I : Nat → σ → Prop) {N : Nat} (hI : ∀ i s, i < N → I i s → I (i + 1) (s1 i s)) (he : ∀ i s, i < N → I i s → s1 i s = s2 i s) : ∀ (n i : Nat) (s : σ), i + n = N → I i s → up s1 i n s = up s2 i n s
  | 0, _, _, _, _ => rfl
  | n + 1, i, s, h, h1 => by
    show up s1 (i + 1) n (s1 i s) = up s2 (i + 1) n (s2 i s)
    rw [← he i s (by omega) h1]
    exact up_congr I hI he n (i + 1) (s1 i s) (by omega) (hI i s (by omega) h1)
/-- a loop that counts to N, with an invariant -/
theorem loopN {σ ρ : Type} (F : Nat → Nat → σ → Option ρ) (N : Nat) (step : Nat → σ → σ) (K : σ → Option ρ) (I : Nat → σ → Prop) (hend : ∀ t s, I N s → F (t + 1) N s = K s) (hstep : ∀ t i s, i < N → I i s → F (t + 1) i s = F t (i + 1) (step i s) ∧ I (i + 1) (step i s)) :
    ∀ (n i t : Nat) (s : σ), i + n = N → n < t → I i s → F t i s = K (up step i n s)
  | 0, i, t, s, h, ht, h1 => by
    rw [Nat.add_zero] at h
    subst h
    obtain ⟨t, rfl⟩ : ∃ z, t = z + 1 := ⟨t - 1, by omega⟩
    exact hend t s h1
  | n + 1, i, t, s, h, ht, h1 => by
    obtain ⟨t, rfl⟩ : ∃ z, t = z + 1 := ⟨t - 1, by omega⟩
    obtain ⟨h2, h3⟩ := hstep t i s (by omega) h1
    rw [h2]
    exact loopN F N step K I hend hstep n (i + 1) t (step i s) (by omega) (by omega) h3
theorem loopFU {σ ρ : Type} (F : Nat → Nat → σ → Option ρ) (N : Nat) (hN : N < 100000) (step : Nat → σ → σ) (K : σ → Option ρ) (I : Nat → σ → Prop) (hend : ∀ t s, I N s → F (t + 1) N s = K s) (hstep : ∀ t i s, i < N → I i s → F (t + 1) i s = F t (i + 1) (step i s) ∧ I (i + 1) (step i s)) (s : σ) (h0 : I 0 s) : F FU 0 s = K (up step 0 N s) :=
  loopN F N step K I hend hstep N 0 FU s (by omega) (by rw [FU_eq]; exact hN) h0
/-- whom one is against, as the class's loop has it: bits of a row of answers -/
def abits (P : Nat → Bool) : Int32 := up (fun i b => if P i = true then b ||| (1 <<< (nI i &&& 31)) else b) 0 12 0
theorem f_X5_againstBits_eq (o0 o1 : Ob) {s : Nat} (hs : s < 7) {pl : Int32} (hp : f_X5_placeOf o0 o1 (nI s) = some pl) : f_X5_againstBits o0 o1 (nI s) = some (abits (fun k => f_X7_meet ((o1.2 2) s) (pl - (o1.2 0) k))) := by
  rw [f_X5_againstBits, f_X7_cell_at (by decide) _ hs, Option.bind_some, hp, Option.bind_some]
  have h := loopFU (fun t i b => f_X5_againstBits_23 o1 ((o1.2 2) s) pl t b (nI i)) 12 (by decide) (fun i b => if f_X7_meet ((o1.2 2) s) (pl - (o1.2 0) i) = true then b ||| (1 <<< (nI i &&& 31)) else b) (fun b => some b) (fun _ _ => True)
    (fun t b _ => by
      show f_X5_againstBits_23 o1 _ pl (t + 1) b (nI 12) = some b
      rw [f_X5_againstBits_23, if_pos (by decide)])
    (fun t i b hi _ => by
      refine ⟨?_, trivial⟩
      show f_X5_againstBits_23 o1 _ pl (t + 1) b (nI i) = f_X5_againstBits_23 o1 _ pl t _ (nI (i + 1))
      rw [f_X5_againstBits_23, if_neg (show ¬ (12 : Int32) ≤ nI i from nI_ge hi (by decide)), f_X7_cell_at (by decide) _ hi, Option.bind_some, bnd_def]
      cases hm : f_X7_meet ((o1.2 2) s) (pl - (o1.2 0) i) with
      | false =>
        rw [if_pos (by decide), f_X5_againstBits_58, bnd_def, nI_1]
        simp
      | true =>
        rw [if_neg (by decide), bnd_def, f_X5_againstBits_58, bnd_def, nI_1]
        simp)
    0 trivial
  exact h
