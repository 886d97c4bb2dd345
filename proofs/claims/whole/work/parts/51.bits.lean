/-! bits and their counts -/
theorem fa_and (a b : Nat) : nI a &&& nI b = nI (a &&& b) := by
  apply Int32.toBitVec_inj.1
  show BitVec.ofNat 32 a &&& BitVec.ofNat 32 b = BitVec.ofNat 32 (a &&& b)
  apply BitVec.eq_of_getLsbD_eq
  intro i hi
  simp [hi]
theorem fa_or (a b : Nat) : nI a ||| nI b = nI (a ||| b) := by
  apply Int32.toBitVec_inj.1
  show BitVec.ofNat 32 a ||| BitVec.ofNat 32 b = BitVec.ofNat 32 (a ||| b)
  apply BitVec.eq_of_getLsbD_eq
  intro i hi
  simp [hi]
theorem s_l : ∀ n, n < 32 → ((nI n &&& 31).toBitVec.smod 32).toNat = n := by decide +kernel
theorem bb_shr {w k : Nat} (hw : w < 2 ^ 31) (hk : k < 32) : nI w >>> (nI k &&& 31) = nI (w / 2 ^ k) := pk_shrN hw _ k (s_l k hk)
theorem bb_one {k : Nat} (hk : k < 31) : (1 : Int32) <<< (nI k &&& 31) = nI (2 ^ k) := by
  have h2 : (2 : Nat) ^ k < 2 ^ 31 := Nat.pow_lt_pow_right (by decide) hk
  have h := pk_shlN (n := 1) (nI k &&& 31) k (s_l k (by omega)) (by omega)
  rw [Nat.one_mul] at h
  exact h
theorem bb_and1 {w : Nat} (hw : w < 2 ^ 31) : nI w &&& 1 = nI (w % 2) := pk_andN (by omega) 1 (by decide +kernel)
theorem bb_bit {w k : Nat} (hw : w < 2 ^ 31) (hk : k < 31) : (nI w >>> (nI k &&& 31)) &&& 1 = b2i (w.testBit k) := by
  have h1 : w / 2 ^ k ≤ w := Nat.div_le_self _ _
  rw [bb_shr hw (by omega), bb_and1 (by omega), ← Nat.toNat_testBit]
  cases w.testBit k <;> rfl
theorem bitOf_at {w k : Nat} (hw : w < 2 ^ 31) (hk : k < 31) : f_X7_bitOf (nI w) (nI k) = b2i (w.testBit k) := bb_bit hw hk
theorem has_at {w k : Nat} (hw : w < 2 ^ 31) (hk : k < 31) : f_X8_has (nI w) (nI k) = w.testBit k := by
  unfold f_X8_has
  rw [bb_bit hw hk]
  cases w.testBit k <;> decide
/-- how many k < n have p k -/
def fb_ct (p : Nat → Bool) : Nat → Nat
  | 0 => 0
  | n + 1 => fb_ct p n + (if p n then 1 else 0)
theorem fb_ct_succ (p : Nat → Bool) (n : Nat) : fb_ct p (n + 1) = fb_ct p n + (if p n then 1 else 0) := rfl
theorem fb_ct_le (p : Nat → Bool) : ∀ n, fb_ct p n ≤ n
  | 0 => Nat.le_refl _
  | n + 1 => by
    have := fb_ct_le p n
    rw [fb_ct_succ]
    by_cases h : p n = true <;> simp [h] <;> omega
theorem fb_ct_cong {p q : Nat → Bool} : ∀ {n : Nat}, (∀ k, k < n → p k = q k) → fb_ct p n = fb_ct q n
  | 0, _ => rfl
  | n + 1, h => by rw [fb_ct_succ, fb_ct_succ, h n (by omega), fb_ct_cong (fun k hk => h k (by omega))]
theorem fb_ct_split (p : Nat → Bool) (m : Nat) : ∀ n, fb_ct p (m + n) = fb_ct p m + fb_ct (fun k => p (m + k)) n
  | 0 => rfl
  | n + 1 => by
    rw [← Nat.add_assoc, fb_ct_succ, fb_ct_split p m n, fb_ct_succ]
    omega
theorem fb_ct_zero {p : Nat → Bool} : ∀ {n : Nat}, (∀ k, k < n → p k = false) → fb_ct p n = 0
  | 0, _ => rfl
  | n + 1, h => by rw [fb_ct_succ, fb_ct_zero (fun k hk => h k (by omega)), h n (by omega)]; rfl
/-- a row of answers as bits -/
def nbits (P : Nat → Bool) : Nat → Nat
  | 0 => 0
  | n + 1 => nbits P n ||| (if P n then 2 ^ n else 0)
theorem nbits_bit (P : Nat → Bool) (k : Nat) : ∀ n, (nbits P n).testBit k = (decide (k < n) && P k)
  | 0 => by simp [nbits]
  | n + 1 => by
    rw [nbits, Nat.testBit_or, nbits_bit P k n]
    by_cases h : P n = true
    · rw [if_pos h, Nat.testBit_two_pow]
      by_cases h2 : k = n
      · subst h2; simp [h]
      · have h3 : ¬ n = k := fun e => h2 e.symm
        by_cases h4 : k < n
        · simp [h3, h4, show k < n + 1 by omega]
        · simp [h3, h4, show ¬ k < n + 1 by omega]
    · rw [if_neg h, Nat.zero_testBit, Bool.or_false]
      by_cases h2 : k = n
      · subst h2; simp [h]
      · by_cases h4 : k < n
        · simp [h4, show k < n + 1 by omega]
        · simp [h4, show ¬ k < n + 1 by omega]
theorem nbits_lt (P : Nat → Bool) : ∀ n, nbits P n < 2 ^ n
  | 0 => by show (0 : Nat) < 1; decide
  | n + 1 => by
    rw [nbits]
    refine Nat.or_lt_two_pow (Nat.lt_trans (nbits_lt P n) (Nat.pow_lt_pow_right (by decide) (by omega))) ?_
    by_cases h : P n = true
    · rw [if_pos h]; exact Nat.pow_lt_pow_right (by decide) (by omega)
    · rw [if_neg h]; exact Nat.two_pow_pos _
theorem nbits_cong {P Q : Nat → Bool} : ∀ {n : Nat}, (∀ k, k < n → P k = Q k) → nbits P n = nbits Q n
  | 0, _ => rfl
  | n + 1, h => by rw [nbits, nbits, h n (by omega), nbits_cong (fun k hk => h k (by omega))]
theorem abits_up (P : Nat → Bool) : ∀ n, n ≤ 12 → up (fun i b => if P i = true then b ||| (1 <<< (nI i &&& 31)) else b) 0 n 0 = nI (nbits P n)
  | 0, _ => rfl
  | n + 1, h => by
    rw [up_succ, abits_up P n (by omega), Nat.zero_add, nbits]
    by_cases hp : P n = true
    · rw [if_pos hp, if_pos hp, bb_one (by omega), fa_or]
    · rw [if_neg hp, if_neg hp, Nat.or_zero]
theorem abits_nI (P : Nat → Bool) : abits P = nI (nbits P 12) := abits_up P 12 (by omega)
/-! bits of the reference -/
theorem bits_at {w : Nat} (hw : w < 2 ^ 31) : f_X8_bits (nI w) = some (nI (fb_ct (fun k => w.testBit k) 12)) := by
  have h := loopE (fun t i (x : Int32) => f_X8_bits_4 (nI w) t x (nI i)) 0 12 (by omega) (by omega) (fun i x => x = nI (fb_ct (fun k => w.testBit k) i)) (fun x => some x) 0 rfl
    (fun t x _ => by
      show f_X8_bits_4 (nI w) (t + 1) x (nI 12) = some x
      rw [f_X8_bits_4, if_pos (by decide)])
    (fun t i x hi hx => by
      refine ⟨_, ?_, rfl⟩
      show f_X8_bits_4 (nI w) (t + 1) x (nI i) = f_X8_bits_4 (nI w) t _ (nI (i + 1))
      rw [f_X8_bits_4, if_neg (show ¬ (12 : Int32) ≤ nI i from nI_ge hi (by decide)), bnd_def, bnd_def, nI_1, bb_bit hw (by omega), hx, fb_ct_succ]
      congr 1
      cases w.testBit i <;> exact nI_add _ _)
  obtain ⟨x, h1, h2⟩ := h
  rw [f_X8_bits]
  rw [h2] at h1
  exact h1
/-! the JDK's count -/
theorem land_split (k : Nat) {x y X Y : Nat} (hy : y < 2 ^ k) (hY : Y < 2 ^ k) : (2 ^ k * x + y) &&& (2 ^ k * X + Y) = 2 ^ k * (x &&& X) + (y &&& Y) := by
  apply Nat.eq_of_testBit_eq
  intro j
  rw [Nat.testBit_and, Nat.testBit_two_pow_mul_add _ hy, Nat.testBit_two_pow_mul_add _ hY, Nat.testBit_two_pow_mul_add _ (Nat.lt_of_le_of_lt Nat.and_le_left hy)]
  by_cases h : j < k
  · rw [if_pos h, if_pos h, if_pos h, Nat.testBit_and]
  · rw [if_neg h, if_neg h, if_neg h, Nat.testBit_and]
def pa (w : Nat) : Nat := w - (w / 2 &&& 1431655765)
def pb (w : Nat) : Nat := (w &&& 858993459) + (w / 4 &&& 858993459)
def pc (w : Nat) : Nat := (w + w / 16) &&& 252645135
theorem pq_small (x X Y : Nat) (hx : x < 2 ^ 24) (hY : Y < 2 ^ 24) : x &&& (2 ^ 24 * X + Y) = x &&& Y := by
  have h := land_split 24 (x := 0) (X := X) hx hY
  rw [Nat.mul_zero, Nat.zero_add, Nat.zero_and, Nat.mul_zero, Nat.zero_add] at h
  exact h
theorem pa_lo : ∀ a, a < 256 → ∀ c, c < 2 → (a / 2 + 128 * c) &&& 85 = a / 2 &&& 1431655765 := by decide +kernel
theorem pa_split {a b : Nat} (ha : a < 256) (hb : b < 2 ^ 23) : pa (256 * b + a) = 256 * pa b + pa a := by
  unfold pa
  have e1 : (256 * b + a) / 2 = 2 ^ 8 * (b / 2) + (a / 2 + 128 * (b % 2)) := by omega
  have e2 : (256 * b + a) / 2 &&& 1431655765 = 2 ^ 8 * (b / 2 &&& 5592405) + ((a / 2 + 128 * (b % 2)) &&& 85) := by
    rw [e1]
    exact land_split 8 (X := 5592405) (Y := 85) (by omega) (by decide)
  have e3 : b / 2 &&& 1431655765 = b / 2 &&& 5592405 := pq_small (b / 2) 85 5592405 (by omega) (by decide)
  have e4 : b / 2 &&& 5592405 ≤ b / 2 := Nat.and_le_left
  have e5 : a / 2 &&& 1431655765 ≤ a / 2 := Nat.and_le_left
  rw [e2, pa_lo a ha (b % 2) (by omega), e3]
  omega
theorem pb_lo : ∀ a, a < 256 → ∀ c, c < 4 → (a / 4 + 64 * c) &&& 51 = a / 4 &&& 858993459 := by decide +kernel
theorem pb_lo2 : ∀ a, a < 256 → a &&& 51 = a &&& 858993459 := by decide +kernel
theorem pb_split {a b : Nat} (ha : a < 256) (hb : b < 2 ^ 23) : pb (256 * b + a) = 256 * pb b + pb a := by
  unfold pb
  have e1 : (256 * b + a) / 4 = 2 ^ 8 * (b / 4) + (a / 4 + 64 * (b % 4)) := by omega
  have e2 : (256 * b + a) / 4 &&& 858993459 = 2 ^ 8 * (b / 4 &&& 3355443) + ((a / 4 + 64 * (b % 4)) &&& 51) := by
    rw [e1]
    exact land_split 8 (X := 3355443) (Y := 51) (by omega) (by decide)
  have e6 : (256 * b + a) &&& 858993459 = 2 ^ 8 * (b &&& 3355443) + (a &&& 51) := land_split 8 (x := b) (X := 3355443) (Y := 51) ha (by decide)
  have e3 : b / 4 &&& 858993459 = b / 4 &&& 3355443 := pq_small (b / 4) 51 3355443 (by omega) (by decide)
  have e4 : b &&& 858993459 = b &&& 3355443 := pq_small b 51 3355443 (by omega) (by decide)
  rw [e2, e6, pb_lo a ha (b % 4) (by omega), pb_lo2 a ha, e3, e4]
  omega
theorem pc_lo : ∀ a, a < 256 → a &&& 15 = a &&& 252645135 := by decide +kernel
theorem pc_lo3 : ∀ x, x < 16 → ∀ y, y < 16 → (16 * y + x) &&& 15 = x := by decide +kernel
theorem pc_split {a b : Nat} (ha1 : a % 16 + a / 16 < 16) (ha : a < 256) (hh : a / 16 + b % 16 < 16) (hb : b < 2 ^ 20) : pc (256 * b + a) = 256 * pc b + pc a := by
  unfold pc
  have e1 : 256 * b + a + (256 * b + a) / 16 = 2 ^ 8 * (b + b / 16) + (16 * (a / 16 + b % 16) + (a % 16 + a / 16)) := by omega
  have e2 : (256 * b + a + (256 * b + a) / 16) &&& 252645135 = 2 ^ 8 * ((b + b / 16) &&& 986895) + ((16 * (a / 16 + b % 16) + (a % 16 + a / 16)) &&& 15) := by
    rw [e1]
    exact land_split 8 (X := 986895) (Y := 15) (by omega) (by decide)
  have e3 : (b + b / 16) &&& 252645135 = (b + b / 16) &&& 986895 := pq_small (b + b / 16) 15 986895 (by omega) (by decide)
  have e4 : (a + a / 16) &&& 252645135 = (a + a / 16) &&& 15 := (pc_lo (a + a / 16) (by omega)).symm
  have e5 : a + a / 16 = 16 * (a / 16) + (a % 16 + a / 16) := by omega
  rw [e2, e3, e4, pc_lo3 _ ha1 _ hh, e5, pc_lo3 _ ha1 _ (by omega)]
theorem us1 {n : Nat} (hn : n < 2 ^ 32) : ((nI n).toUInt32 >>> ((1 : Int32).toUInt32 &&& Int32.toUInt32 31)).toInt32 = nI (n / 2) := pk_ushrN hn 1 1 (by decide +kernel)
theorem us2 {n : Nat} (hn : n < 2 ^ 32) : ((nI n).toUInt32 >>> ((2 : Int32).toUInt32 &&& Int32.toUInt32 31)).toInt32 = nI (n / 4) := pk_ushrN hn 2 2 (by decide +kernel)
theorem us4 {n : Nat} (hn : n < 2 ^ 32) : ((nI n).toUInt32 >>> ((4 : Int32).toUInt32 &&& Int32.toUInt32 31)).toInt32 = nI (n / 16) := pk_ushrN hn 4 4 (by decide +kernel)
theorem us8 {n : Nat} (hn : n < 2 ^ 32) : ((nI n).toUInt32 >>> ((8 : Int32).toUInt32 &&& Int32.toUInt32 31)).toInt32 = nI (n / 256) := pk_ushrN hn 8 8 (by decide +kernel)
theorem us16 {n : Nat} (hn : n < 2 ^ 32) : ((nI n).toUInt32 >>> ((16 : Int32).toUInt32 &&& Int32.toUInt32 31)).toInt32 = nI (n / 65536) := pk_ushrN hn 16 16 (by decide +kernel)
theorem pa_le (w : Nat) : pa w ≤ w := Nat.sub_le _ _
theorem pb_le (w : Nat) : pb w ≤ 1717986918 := by
  have h1 : w &&& 858993459 ≤ 858993459 := Nat.and_le_right
  have h2 : w / 4 &&& 858993459 ≤ 858993459 := Nat.and_le_right
  unfold pb
  omega
theorem pc_le (w : Nat) : pc w ≤ 252645135 := Nat.and_le_right
theorem bitCount_nat {w : Nat} (hw : w < 2 ^ 31) : f_J6_bitCount_0f7a4 (nI w) = nI ((pc (pb (pa w)) + pc (pb (pa w)) / 256 + (pc (pb (pa w)) + pc (pb (pa w)) / 256) / 65536) % 64) := by
  have h1 := pa_le w
  have h2 := pb_le (pa w)
  have h3 := pc_le (pb (pa w))
  have e1 : nI w - (nI (w / 2) &&& (1431655765 : Int32)) = nI (pa w) := by
    rw [show (1431655765 : Int32) = nI 1431655765 from rfl, fa_and, pk_sub (Nat.le_trans Nat.and_le_left (Nat.div_le_self _ _))]
    rfl
  have e2 : (nI (pa w) &&& (858993459 : Int32)) + (nI (pa w / 4) &&& (858993459 : Int32)) = nI (pb (pa w)) := by
    rw [show (858993459 : Int32) = nI 858993459 from rfl, fa_and, fa_and, nI_add]
    rfl
  have e3 : (nI (pb (pa w)) + nI (pb (pa w) / 16)) &&& (252645135 : Int32) = nI (pc (pb (pa w))) := by
    rw [show (252645135 : Int32) = nI 252645135 from rfl, nI_add, fa_and]
    rfl
  rw [f_J6_bitCount_0f7a4, bnd_def, us1 (by omega), e1, bnd_def, us2 (by omega), e2, bnd_def, us4 (by omega), e3, bnd_def, us8 (by omega), nI_add, bnd_def, us16 (by omega), nI_add]
  exact pk_andN (by omega) 6 (by decide +kernel)
theorem pp_lo : ∀ a, a < 256 → pc (pb (pa a)) = fb_ct (fun k => a.testBit k) 8 ∧ pb (pa a) % 16 + pb (pa a) / 16 < 16 ∧ pb (pa a) / 16 ≤ 4 ∧ pb (pa a) < 256 ∧ pa a < 256 := by decide +kernel
theorem pp_hi0 : ∀ u, u < 32 → ∀ v, v < 64 → pc (pb (pa (64 * u + v))) % 256 + pc (pb (pa (64 * u + v))) / 256 = fb_ct (fun k => (64 * u + v).testBit k) 11 ∧ pc (pb (pa (64 * u + v))) % 256 ≤ 8 ∧ pc (pb (pa (64 * u + v))) / 256 ≤ 3 ∧ pb (pa (64 * u + v)) % 16 ≤ 4 ∧ pb (pa (64 * u + v)) < 2 ^ 20 := by decide +kernel
theorem pp_hi {b : Nat} (hb : b < 2048) : pc (pb (pa b)) % 256 + pc (pb (pa b)) / 256 = fb_ct (fun k => b.testBit k) 11 ∧ pc (pb (pa b)) % 256 ≤ 8 ∧ pc (pb (pa b)) / 256 ≤ 3 ∧ pb (pa b) % 16 ≤ 4 ∧ pb (pa b) < 2 ^ 20 := by
  have h := pp_hi0 (b / 64) (by omega) (b % 64) (by omega)
  rw [show 64 * (b / 64) + b % 64 = b by omega] at h
  exact h
theorem pop_sum {A p q : Nat} (hA : A ≤ 8) (hp : p ≤ 8) (hq : q ≤ 3) : ((256 * (256 * q + p) + A) + (256 * (256 * q + p) + A) / 256 + ((256 * (256 * q + p) + A) + (256 * (256 * q + p) + A) / 256) / 65536) % 64 = A + (p + q) := by
  have h1 : (256 * (256 * q + p) + A) / 256 = 256 * q + p := by omega
  rw [h1]
  have h2 : (256 * (256 * q + p) + A + (256 * q + p)) / 65536 = q := by omega
  rw [h2]
  omega
theorem bitCount_at {w : Nat} (hw : w < 2 ^ 19) : f_J6_bitCount_0f7a4 (nI w) = nI (fb_ct (fun k => w.testBit k) 19) := by
  rw [bitCount_nat (by omega)]
  obtain ⟨a1, a2, a3, a4, a5⟩ := pp_lo (w % 256) (by omega)
  obtain ⟨b1, b2, b3, b4, b5⟩ := pp_hi (b := w / 256) (by omega)
  have hpa := pa_le (w / 256)
  have e : pc (pb (pa w)) = 256 * pc (pb (pa (w / 256))) + pc (pb (pa (w % 256))) := by
    have e0 : w = 256 * (w / 256) + w % 256 := by omega
    have e1 : pa w = 256 * pa (w / 256) + pa (w % 256) := by
      have := pa_split (a := w % 256) (b := w / 256) (by omega) (by omega)
      rw [← e0] at this
      exact this
    rw [e1, pb_split a5 (by omega), pc_split a2 a4 (by omega) b5]
  have c1 : fb_ct (fun k => (w % 256).testBit k) 8 = fb_ct (fun k => w.testBit k) 8 := fb_ct_cong (fun k hk => by
    show (w % 2 ^ 8).testBit k = _
    rw [Nat.testBit_mod_two_pow]
    simp [hk])
  have c2 : fb_ct (fun k => (w / 256).testBit k) 11 = fb_ct (fun k => w.testBit (8 + k)) 11 := fb_ct_cong (fun k hk => by
    show (w / 2 ^ 8).testBit k = _
    rw [Nat.testBit_div_two_pow]
    first | rfl | rw [Nat.add_comm])
  have c3 : fb_ct (fun k => w.testBit k) 19 = fb_ct (fun k => w.testBit k) 8 + fb_ct (fun k => w.testBit (8 + k)) 11 := fb_ct_split (fun k => w.testBit k) 8 11
  have c4 := fb_ct_le (fun k => w.testBit k) 8
  rw [c1] at a1
  rw [c2] at b1
  rw [e, a1, c3]
  rw [a1] at e
  congr 1
  generalize pc (pb (pa (w / 256))) = B at b1 b2 b3 e ⊢
  have hB : B = 256 * (B / 256) + B % 256 := by omega
  rw [hB, pop_sum c4 b2 b3, b1]
theorem ct_small {w m : Nat} (hw : w < 2 ^ m) (n : Nat) : fb_ct (fun k => w.testBit k) (m + n) = fb_ct (fun k => w.testBit k) m := by
  rw [fb_ct_split, fb_ct_zero (n := n) (fun k _ => Nat.testBit_lt_two_pow (Nat.lt_of_lt_of_le hw (Nat.pow_le_pow_right (by decide) (by omega)))), Nat.add_zero]
/-- of twelve bits both counts say the same -/
theorem bits_bitCount {w : Nat} (hw : w < 2 ^ 12) : f_X8_bits (nI w) = some (f_J6_bitCount_0f7a4 (nI w)) := by
  rw [bits_at (by omega), bitCount_at (by omega), ct_small (m := 12) hw 7]
