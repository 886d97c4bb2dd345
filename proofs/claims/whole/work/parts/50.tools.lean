/-! phase 2: tools -/
theorem nl_0 : (0 : Int32) = nI 0 := rfl
theorem nl_1 : (1 : Int32) = nI 1 := rfl
theorem nl_2 : (2 : Int32) = nI 2 := rfl
theorem nl_3 : (3 : Int32) = nI 3 := rfl
theorem nl_4 : (4 : Int32) = nI 4 := rfl
theorem nl_6 : (6 : Int32) = nI 6 := rfl
theorem nl_7 : (7 : Int32) = nI 7 := rfl
theorem nl_8 : (8 : Int32) = nI 8 := rfl
theorem nl_9 : (9 : Int32) = nI 9 := rfl
theorem nl_10 : (10 : Int32) = nI 10 := rfl
theorem nl_11 : (11 : Int32) = nI 11 := rfl
theorem nl_12 : (12 : Int32) = nI 12 := rfl
theorem nl_20 : (20 : Int32) = nI 20 := rfl
theorem nl_23 : (23 : Int32) = nI 23 := rfl
theorem nl_24 : (24 : Int32) = nI 24 := rfl
theorem nl_26 : (26 : Int32) = nI 26 := rfl
theorem nl_32 : (32 : Int32) = nI 32 := rfl
theorem nl_39 : (39 : Int32) = nI 39 := rfl
theorem nl_40 : (40 : Int32) = nI 40 := rfl
theorem nl_44 : (44 : Int32) = nI 44 := rfl
theorem nl_48 : (48 : Int32) = nI 48 := rfl
theorem nl_57 : (57 : Int32) = nI 57 := rfl
theorem nl_59 : (59 : Int32) = nI 59 := rfl
theorem nl_60 : (60 : Int32) = nI 60 := rfl
theorem nl_61 : (61 : Int32) = nI 61 := rfl
theorem nl_64 : (64 : Int32) = nI 64 := rfl
theorem nl_81 : (81 : Int32) = nI 81 := rfl
theorem nl_82 : (82 : Int32) = nI 82 := rfl
theorem nl_99 : (99 : Int32) = nI 99 := rfl
theorem nl_100 : (100 : Int32) = nI 100 := rfl
theorem nl_126 : (126 : Int32) = nI 126 := rfl
theorem nl_200 : (200 : Int32) = nI 200 := rfl
theorem nl_208 : (208 : Int32) = nI 208 := rfl
theorem nl_286 : (286 : Int32) = nI 286 := rfl
theorem nl_287 : (287 : Int32) = nI 287 := rfl
theorem nl_290 : (290 : Int32) = nI 290 := rfl
theorem nl_312 : (312 : Int32) = nI 312 := rfl
theorem nl_999 : (999 : Int32) = nI 999 := rfl
theorem nl_6561 : (6561 : Int32) = nI 6561 := rfl
theorem nl_9999 : (9999 : Int32) = nI 9999 := rfl
theorem ev_leT {a b : Nat} (h : a ≤ b) (hb : b < 2 ^ 31) : (nI a ≤ nI b) = True := eq_true (nI_le h hb)
theorem ev_leF {a b : Nat} (h : b < a) (ha : a < 2 ^ 31) : (nI a ≤ nI b) = False := eq_false (nI_ge h ha)
theorem ev_ltT {a b : Nat} (h : a < b) (hb : b < 2 ^ 31) : (nI a < nI b) = True := eq_true (nI_lt h hb)
theorem ev_ltF {a b : Nat} (h : b ≤ a) (ha : a < 2 ^ 31) : (nI a < nI b) = False := eq_false (nI_nlt h ha)
theorem ev_eqT {a b : Nat} (h : a = b) : (nI a = nI b) = True := eq_true (by rw [h])
theorem ev_eqF {a b : Nat} (h : ¬ a = b) (ha : a < 2 ^ 31) (hb : b < 2 ^ 31) : (nI a = nI b) = False := eq_false (fun z => h ((nI_eq ha hb).mp z))
theorem nle_T {a b : Nat} (h : a ≤ b) : (a ≤ b) = True := eq_true h
theorem nle_F {a b : Nat} (h : b < a) : (a ≤ b) = False := eq_false (Nat.not_le.mpr h)
theorem nlt_F {a b : Nat} (h : b ≤ a) : (a < b) = False := eq_false (Nat.not_lt.mpr h)
theorem nbq_n {j k : Nat} (h : ¬ j = k) : Nat.beq j k = false := by
  cases h2 : Nat.beq j k with
  | false => rfl
  | true => exact absurd (Nat.eq_of_beq_eq_true h2) h
theorem nbq_y (k : Nat) : Nat.beq k k = true := Nat.beq_refl k
theorem st1 (o : Ob) (k j : Nat) (v : Int32) : (stF o k v).1 j = if j = k then v else o.1 j := by
  unfold stF
  by_cases h : j = k
  · subst h; rw [if_pos rfl]; simp only [nbq_y, cond_true]
  · rw [if_neg h]; simp only [nbq_n h, cond_false]
theorem st2 (o : Ob) (k : Nat) (v : Int32) : (stF o k v).2 = o.2 := rfl
theorem st3 (o : Ob) (k : Nat) (f : Nat → Int32) : (stR o k f).1 = o.1 := rfl
theorem st4 (o : Ob) (k j : Nat) (f : Nat → Int32) : (stR o k f).2 j = if j = k then f else o.2 j := by
  unfold stR
  by_cases h : j = k
  · subst h; rw [if_pos rfl]; simp only [nbq_y, cond_true]
  · rw [if_neg h]; simp only [nbq_n h, cond_false]
theorem st1s (o : Ob) (k : Nat) (v : Int32) : (stF o k v).1 k = v := by rw [st1, if_pos rfl]
theorem st1n (o : Ob) {k j : Nat} (h : j ≠ k) (v : Int32) : (stF o k v).1 j = o.1 j := by rw [st1, if_neg h]
theorem st4s (o : Ob) (k : Nat) (f : Nat → Int32) : (stR o k f).2 k = f := by rw [st4, if_pos rfl]
theorem st4n (o : Ob) {k j : Nat} (h : j ≠ k) (f : Nat → Int32) : (stR o k f).2 j = o.2 j := by rw [st4, if_neg h]
theorem tf_1 : (true = false) = False := eq_false (by decide)
theorem tf_2 : (false = true) = False := eq_false (by decide)
theorem b2iT : b2i true = nI 1 := rfl
theorem b2iF : b2i false = nI 0 := rfl
theorem b2iE (b : Bool) : (b2i b = nI 0) = (b = false) := by cases b <;> decide
theorem ob_1 (a : Nat → Int32) (b : Nat → Nat → Int32) : ((a, b) : Ob).1 = a := rfl
theorem ob_2 (a : Nat → Int32) (b : Nat → Nat → Int32) : ((a, b) : Ob).2 = b := rfl
theorem stR_stR (o : Ob) (k : Nat) (f g : Nat → Int32) : stR (stR o k f) k g = stR o k g := by
  unfold stR
  congr 1
  funext j
  by_cases h : j = k
  · subst h; simp only [nbq_y, cond_true]
  · simp only [nbq_n h, cond_false]
theorem stR_self (o : Ob) (k : Nat) : stR o k (o.2 k) = o := by
  unfold stR
  have h : (fun j => bif Nat.beq j k then o.2 k else o.2 j) = o.2 := by
    funext j
    by_cases h : j = k
    · subst h; simp only [nbq_y, cond_true]
    · simp only [nbq_n h, cond_false]
  rw [h]
theorem stR_stF (o : Ob) (k j : Nat) (f : Nat → Int32) (v : Int32) : stR (stF o j v) k f = stF (stR o k f) j v := rfl
/-- a loop from i0 up to N (i0, N below 100000): what holds of every way out holds of it -/
theorem loopP0 {σ ρ : Type} (F : Nat → Nat → σ → Option ρ) (N : Nat) (I : Nat → σ → Prop) (P : Option ρ → Prop) (hend : ∀ t s, I N s → P (F (t + 1) N s)) (hstep : ∀ t i s, i < N → I i s → P (F (t + 1) i s) ∨ ∃ s', F (t + 1) i s = F t (i + 1) s' ∧ I (i + 1) s') :
    ∀ (n i t : Nat) (s : σ), i + n = N → n < t → I i s → P (F t i s)
  | 0, i, t, s, h, ht, h1 => by
    rw [Nat.add_zero] at h
    subst h
    obtain ⟨t, rfl⟩ : ∃ z, t = z + 1 := ⟨t - 1, by omega⟩
    exact hend t s h1
  | n + 1, i, t, s, h, ht, h1 => by
    obtain ⟨t, rfl⟩ : ∃ z, t = z + 1 := ⟨t - 1, by omega⟩
    rcases hstep t i s (by omega) h1 with h2 | ⟨s', h2, h3⟩
    · exact h2
    · rw [h2]
      exact loopP0 F N I P hend hstep n (i + 1) t s' (by omega) (by omega) h3
theorem loopP {σ ρ : Type} (F : Nat → Nat → σ → Option ρ) (i0 N : Nat) (h0 : i0 ≤ N) (hN : N < 100000) (I : Nat → σ → Prop) (P : Option ρ → Prop) (s : σ) (hI : I i0 s) (hend : ∀ t s, I N s → P (F (t + 1) N s)) (hstep : ∀ t i s, i < N → I i s → P (F (t + 1) i s) ∨ ∃ s', F (t + 1) i s = F t (i + 1) s' ∧ I (i + 1) s') : P (F FU i0 s) :=
  loopP0 F N I P hend hstep (N - i0) i0 FU s (by omega) (by rw [FU_eq]; omega) hI
/-- the same, no way out but the end -/
theorem loopE {σ ρ : Type} (F : Nat → Nat → σ → Option ρ) (i0 N : Nat) (h0 : i0 ≤ N) (hN : N < 100000) (I : Nat → σ → Prop) (K : σ → Option ρ) (s : σ) (hI : I i0 s) (hend : ∀ t s, I N s → F (t + 1) N s = K s) (hstep : ∀ t i s, i < N → I i s → ∃ s', F (t + 1) i s = F t (i + 1) s' ∧ I (i + 1) s') : ∃ s', F FU i0 s = K s' ∧ I N s' :=
  loopP F i0 N h0 hN I (fun o => ∃ s', o = K s' ∧ I N s') s hI (fun t s h => ⟨s, hend t s h, h⟩) (fun t i s hi h => Or.inr (hstep t i s hi h))
/-- the same as loopFU, from i0 on -/
theorem loopG {σ ρ : Type} (F : Nat → Nat → σ → Option ρ) (i0 N : Nat) (h0 : i0 ≤ N) (hN : N < 100000) (step : Nat → σ → σ) (K : σ → Option ρ) (I : Nat → σ → Prop) (hend : ∀ t s, I N s → F (t + 1) N s = K s) (hstep : ∀ t i s, i < N → I i s → F (t + 1) i s = F t (i + 1) (step i s) ∧ I (i + 1) (step i s)) (s : σ) (hI : I i0 s) : F FU i0 s = K (up step i0 (N - i0) s) :=
  loopN F N step K I hend hstep (N - i0) i0 FU s (by omega) (by rw [FU_eq]; omega) hI
theorem up_succ {σ : Type} (step : Nat → σ → σ) : ∀ (n i : Nat) (s : σ), up step i (n + 1) s = step (i + n) (up step i n s)
  | 0, i, s => rfl
  | n + 1, i, s => by
    show up step (i + 1) (n + 1) (step i s) = step (i + (n + 1)) (up step (i + 1) n (step i s))
    rw [up_succ step n (i + 1) (step i s), show i + 1 + n = i + (n + 1) by omega]
/-! ranges -/
theorem wi_iff (v a b : Int32) : f_X7_within v a b = true ↔ a.toInt ≤ v.toInt ∧ v.toInt ≤ b.toInt := by
  unfold f_X7_within
  by_cases h1 : v < a
  · rw [if_pos h1]
    rw [Int32.lt_iff_toInt_lt] at h1
    constructor
    · intro h; cases h
    · intro h; omega
  · rw [if_neg h1]
    rw [Int32.lt_iff_toInt_lt] at h1
    by_cases h2 : b < v
    · rw [if_pos h2]
      rw [Int32.lt_iff_toInt_lt] at h2
      constructor
      · intro h; cases h
      · intro h; omega
    · rw [if_neg h2]
      rw [Int32.lt_iff_toInt_lt] at h2
      constructor
      · intro _; omega
      · intro _; rfl
theorem in_iff (v a b : Int64) : f_X8_in v a b = true ↔ a.toInt ≤ v.toInt ∧ v.toInt ≤ b.toInt := by
  unfold f_X8_in
  by_cases h1 : lg_cmp v a < 0
  · rw [if_pos h1]
    rw [lg_cmp_lt, Int64.lt_iff_toInt_lt] at h1
    constructor
    · intro h; cases h
    · intro h; omega
  · rw [if_neg h1]
    rw [lg_cmp_lt, Int64.lt_iff_toInt_lt] at h1
    by_cases h2 : 0 < lg_cmp v b
    · rw [if_pos h2]
      rw [lg_cmp_gt, Int64.lt_iff_toInt_lt] at h2
      constructor
      · intro h; cases h
      · intro h; omega
    · rw [if_neg h2]
      rw [lg_cmp_gt, Int64.lt_iff_toInt_lt] at h2
      constructor
      · intro _; omega
      · intro _; rfl
theorem in_eq (v a b : Int32) : f_X8_in v.toInt64 a.toInt64 b.toInt64 = f_X7_within v a b := by
  rw [Bool.eq_iff_iff, in_iff, wi_iff, Int32.toInt_toInt64, Int32.toInt_toInt64, Int32.toInt_toInt64]
theorem wi_lit {v : Int32} {a b : Nat} (hb : b < 2 ^ 31) (ha : a ≤ b) (h : f_X7_within v (nI a) (nI b) = true) : ∃ j, a ≤ j ∧ j ≤ b ∧ v = nI j := by
  rw [wi_iff, nI_toInt (by omega), nI_toInt hb] at h
  refine ⟨v.toInt.toNat, by omega, by omega, Int32.toInt_inj.mp ?_⟩
  rw [nI_toInt (by omega)]
  omega
theorem wi_at {j a b : Nat} (hb : b < 2 ^ 31) (h1 : a ≤ j) (h2 : j ≤ b) : f_X7_within (nI j) (nI a) (nI b) = true := by
  rw [wi_iff, nI_toInt (by omega), nI_toInt hb, nI_toInt (by omega)]
  omega
/-- one of n: 0 to n - 1 -/
theorem wi_cnt (v : Int32) {n : Nat} (hn : n < 2 ^ 31) : f_X7_within v (nI 0) (nI n - nI 1) = false ∨ ∃ j, j < n ∧ v = nI j ∧ f_X7_within v (nI 0) (nI n - nI 1) = true := by
  cases h : f_X7_within v (nI 0) (nI n - nI 1) with
  | false => exact Or.inl rfl
  | true =>
    refine Or.inr ?_
    rcases Nat.eq_zero_or_pos n with h0 | h0
    · subst h0
      rw [wi_iff, show (nI 0).toInt = 0 from rfl, show (nI 0 - nI 1).toInt = -1 by decide +kernel] at h
      omega
    · rw [pk_sub h0] at h
      obtain ⟨j, h1, h2, h3⟩ := wi_lit (by omega) (by omega) h
      exact ⟨j, by omega, h3, rfl⟩
theorem wi_cntT {j n : Nat} (hn : n < 2 ^ 31) (h : j < n) : f_X7_within (nI j) (nI 0) (nI n - nI 1) = true := by
  rw [pk_sub (by omega)]
  exact wi_at (by omega) (by omega) (by omega)
theorem wi_cntF {j n : Nat} (hn : n < 2 ^ 31) (hj : j < 2 ^ 31) (h : n ≤ j) : f_X7_within (nI j) (nI 0) (nI n - nI 1) = false := by
  rcases wi_cnt (nI j) hn with h1 | ⟨i, h1, h2, -⟩
  · exact h1
  · have := (nI_eq hj (by omega)).mp h2
    omega
theorem meet_eq : f_X8_isAgainst = f_X7_meet := rfl
theorem fb_rng (x : Int32) : -2147483648 ≤ x.toInt ∧ x.toInt < 2147483648 := by
  have h1 := Int32.le_toInt x
  have h2 := Int32.toInt_lt x
  omega
theorem fb_bmod {z : Int} (h1 : -2147483648 ≤ z) (h2 : z < 2147483648) : z.bmod (2 ^ 32) = z := by
  rw [Int.bmod_eq_of_le (by omega) (by omega)]
theorem fb_addI {x y : Int32} (h1 : -2147483648 ≤ x.toInt + y.toInt) (h2 : x.toInt + y.toInt < 2147483648) : (x + y).toInt = x.toInt + y.toInt := by
  rw [Int32.toInt_add, fb_bmod h1 h2]
theorem fb_subI {x y : Int32} (h1 : -2147483648 ≤ x.toInt - y.toInt) (h2 : x.toInt - y.toInt < 2147483648) : (x - y).toInt = x.toInt - y.toInt := by
  rw [Int32.toInt_sub, fb_bmod h1 h2]
theorem meet_far {k g : Int32} (h : 2 < g.toInt) : f_X7_meet k g = false := by
  have h0 : ¬ g = 0 := fun e => by rw [e] at h; exact absurd h (by decide +kernel)
  have h1 : ¬ g = 1 := fun e => by rw [e] at h; exact absurd h (by decide +kernel)
  have h2 : ¬ g = 2 := fun e => by rw [e] at h; exact absurd h (by decide +kernel)
  have h3 : ¬ g = -1 := fun e => by rw [e] at h; exact absurd h (by decide +kernel)
  unfold f_X7_meet f_X7_meet_19
  simp only [h0, h1, h2, h3, if_false, ite_self]
theorem in_0 (v b : Int32) : f_X8_in v.toInt64 (0 : Int64) b.toInt64 = f_X7_within v (nI 0) b := in_eq v (nI 0) b
theorem in_m99_99 (v : Int32) : f_X8_in v.toInt64 (-99 : Int64) (99 : Int64) = f_X7_within v (-nI 99) (nI 99) := in_eq v (-nI 99) (nI 99)
theorem in_0_1 (v : Int32) : f_X8_in v.toInt64 (0 : Int64) (1 : Int64) = f_X7_within v (nI 0) (nI 1) := in_eq v (nI 0) (nI 1)
theorem in_0_2 (v : Int32) : f_X8_in v.toInt64 (0 : Int64) (2 : Int64) = f_X7_within v (nI 0) (nI 2) := in_eq v (nI 0) (nI 2)
theorem in_0_4 (v : Int32) : f_X8_in v.toInt64 (0 : Int64) (4 : Int64) = f_X7_within v (nI 0) (nI 4) := in_eq v (nI 0) (nI 4)
theorem in_0_8 (v : Int32) : f_X8_in v.toInt64 (0 : Int64) (8 : Int64) = f_X7_within v (nI 0) (nI 8) := in_eq v (nI 0) (nI 8)
theorem in_0_9 (v : Int32) : f_X8_in v.toInt64 (0 : Int64) (9 : Int64) = f_X7_within v (nI 0) (nI 9) := in_eq v (nI 0) (nI 9)
theorem in_0_10 (v : Int32) : f_X8_in v.toInt64 (0 : Int64) (10 : Int64) = f_X7_within v (nI 0) (nI 10) := in_eq v (nI 0) (nI 10)
theorem in_0_40 (v : Int32) : f_X8_in v.toInt64 (0 : Int64) (40 : Int64) = f_X7_within v (nI 0) (nI 40) := in_eq v (nI 0) (nI 40)
theorem in_0_99 (v : Int32) : f_X8_in v.toInt64 (0 : Int64) (99 : Int64) = f_X7_within v (nI 0) (nI 99) := in_eq v (nI 0) (nI 99)
theorem in_1_20 (v : Int32) : f_X8_in v.toInt64 (1 : Int64) (20 : Int64) = f_X7_within v (nI 1) (nI 20) := in_eq v (nI 1) (nI 20)
theorem in_1_60 (v : Int32) : f_X8_in v.toInt64 (1 : Int64) (60 : Int64) = f_X7_within v (nI 1) (nI 60) := in_eq v (nI 1) (nI 60)
theorem in_0_9999 (v : Int32) : f_X8_in v.toInt64 (0 : Int64) (9999 : Int64) = f_X7_within v (nI 0) (nI 9999) := in_eq v (nI 0) (nI 9999)
theorem in_32_126 (v : Int32) : f_X8_in v.toInt64 (32 : Int64) (126 : Int64) = f_X7_within v (nI 32) (nI 126) := in_eq v (nI 32) (nI 126)
theorem in_48_57 (v : Int32) : f_X8_in v.toInt64 (48 : Int64) (57 : Int64) = f_X7_within v (nI 48) (nI 57) := in_eq v (nI 48) (nI 57)
theorem wi_or (v : Int32) {a b : Nat} (hb : b < 2 ^ 31) (ha : a ≤ b) : f_X7_within v (nI a) (nI b) = false ∨ ∃ j, a ≤ j ∧ j ≤ b ∧ v = nI j := by
  cases h : f_X7_within v (nI a) (nI b) with
  | false => exact Or.inl rfl
  | true => exact Or.inr (wi_lit hb ha h)
