/-! slips: the two ways of weighing say the same -/
theorem fb_sm_mul (c : Nat) (f : Nat → Nat) : ∀ n, fb_sm (fun k => c * f k) n = c * fb_sm f n
  | 0 => rfl
  | n + 1 => by rw [fb_sm_succ, fb_sm_succ, fb_sm_mul c f n, Nat.mul_add]
theorem fb_sm_split (f : Nat → Nat) (m : Nat) : ∀ n, fb_sm f (m + n) = fb_sm f m + fb_sm (fun k => f (m + k)) n
  | 0 => rfl
  | n + 1 => by
    rw [← Nat.add_assoc, fb_sm_succ, fb_sm_split f m n, fb_sm_succ]
    omega
theorem fb_sm_shift (f : Nat → Nat) : ∀ n, fb_sm f (n + 1) = f 0 + fb_sm (fun k => f (k + 1)) n
  | 0 => by show 0 + f 0 = f 0 + 0; omega
  | n + 1 => by
    rw [fb_sm_succ, fb_sm_shift f n, fb_sm_succ]
    omega
theorem fb_sm_mono {f g : Nat → Nat} : ∀ {n : Nat}, (∀ k, k < n → f k ≤ g k) → fb_sm f n ≤ fb_sm g n
  | 0, _ => Nat.le_refl _
  | n + 1, h => by
    have h1 := fb_sm_mono (f := f) (g := g) (n := n) (fun k hk => h k (by omega))
    have h2 := h n (by omega)
    rw [fb_sm_succ, fb_sm_succ]
    omega
/-- the class's row of weights behind g of them -/
def lk (x : Nat) : Nat → Nat → Nat
  | 0, d => if d = 0 then 1 else 0
  | g + 1, 0 => lk x g 0 * x
  | g + 1, d + 1 => lk x g (d + 1) * x + lk x g d * (10 - x)
theorem lk_out (x : Nat) : ∀ g d, g < d → lk x g d = 0
  | 0, d, h => if_neg (by omega)
  | g + 1, 0, h => by omega
  | g + 1, d + 1, h => by
    rw [lk, lk_out x g (d + 1) (by omega), lk_out x g d (by omega), Nat.zero_mul, Nat.zero_mul]
/-- the reference's weight of a set, how many it lets be done -/
def wt (x s : Nat) : Nat → Nat
  | 0 => 1
  | k + 1 => wt x s k * (if s.testBit k = true then x else 10 - x)
def dz (s : Nat) : Nat → Nat
  | 0 => 0
  | k + 1 => dz s k + (if s.testBit k = true then 0 else 1)
theorem wt_cong {x s s' : Nat} : ∀ {n : Nat}, (∀ k, k < n → s.testBit k = s'.testBit k) → wt x s n = wt x s' n
  | 0, _ => rfl
  | n + 1, h => by rw [wt, wt, wt_cong (fun k hk => h k (by omega)), h n (by omega)]
theorem dz_cong {s s' : Nat} : ∀ {n : Nat}, (∀ k, k < n → s.testBit k = s'.testBit k) → dz s n = dz s' n
  | 0, _ => rfl
  | n + 1, h => by rw [dz, dz, dz_cong (fun k hk => h k (by omega)), h n (by omega)]
theorem dz_le (s : Nat) : ∀ n, dz s n ≤ n
  | 0 => Nat.le_refl _
  | n + 1 => by
    have := dz_le s n
    rw [dz]
    split <;> omega
theorem sl_A (x : Nat) (n : Nat) (g : Nat → Nat) : fb_sm (fun s => wt x s (n + 1) * g (dz s (n + 1))) (2 ^ (n + 1)) = (10 - x) * fb_sm (fun s => wt x s n * g (dz s n + 1)) (2 ^ n) + x * fb_sm (fun s => wt x s n * g (dz s n)) (2 ^ n) := by
  rw [Nat.pow_succ, Nat.mul_two, fb_sm_split, ← fb_sm_mul, ← fb_sm_mul]
  congr 1
  · refine fb_sm_cong (fun s hs => ?_)
    have hb : s.testBit n = false := Nat.testBit_lt_two_pow hs
    show wt x s (n + 1) * g (dz s (n + 1)) = (10 - x) * (wt x s n * g (dz s n + 1))
    rw [wt, dz, hb, if_neg (by decide), if_neg (by decide), Nat.mul_comm (wt x s n), Nat.mul_assoc]
  · refine fb_sm_cong (fun s hs => ?_)
    have hb : (2 ^ n + s).testBit n = true := by
      rw [Nat.testBit_two_pow_add_eq, Nat.testBit_lt_two_pow hs]
      rfl
    have hc : ∀ k, k < n → (2 ^ n + s).testBit k = s.testBit k := fun k hk => Nat.testBit_two_pow_add_gt hk s
    show wt x (2 ^ n + s) (n + 1) * g (dz (2 ^ n + s) (n + 1)) = x * (wt x s n * g (dz s n))
    rw [wt, dz, hb, if_pos rfl, if_pos rfl, wt_cong hc, dz_cong hc, Nat.add_zero, Nat.mul_comm (wt x s n), Nat.mul_assoc]
theorem sl_B (x : Nat) (n : Nat) (g : Nat → Nat) : fb_sm (fun d => lk x (n + 1) d * g d) (n + 2) = (10 - x) * fb_sm (fun d => lk x n d * g (d + 1)) (n + 1) + x * fb_sm (fun d => lk x n d * g d) (n + 1) := by
  have h1 : fb_sm (fun d => lk x n d * g d) (n + 2) = fb_sm (fun d => lk x n d * g d) (n + 1) := by
    rw [fb_sm_succ, lk_out x n (n + 1) (by omega), Nat.zero_mul, Nat.add_zero]
  rw [← h1, fb_sm_shift, fb_sm_shift (fun d => lk x n d * g d)]
  have h2 : fb_sm (fun k => lk x (n + 1) (k + 1) * g (k + 1)) (n + 1) = fb_sm (fun k => x * (lk x n (k + 1) * g (k + 1)) + (10 - x) * (lk x n k * g (k + 1))) (n + 1) := by
    refine fb_sm_cong (fun k _ => ?_)
    show (lk x n (k + 1) * x + lk x n k * (10 - x)) * g (k + 1) = _
    rw [Nat.add_mul, Nat.mul_comm (lk x n (k + 1)) x, Nat.mul_comm (lk x n k) (10 - x), Nat.mul_assoc, Nat.mul_assoc]
  have h3 : lk x (n + 1) 0 * g 0 = x * (lk x n 0 * g 0) := by
    show lk x n 0 * x * g 0 = _
    rw [Nat.mul_comm (lk x n 0) x, Nat.mul_assoc]
  rw [h2, fb_sm_add (fun k => x * (lk x n (k + 1) * g (k + 1))) (fun k => (10 - x) * (lk x n k * g (k + 1))), fb_sm_mul, fb_sm_mul, h3, Nat.mul_add]
  omega
theorem sl_AB (x : Nat) : ∀ (n : Nat) (g : Nat → Nat), fb_sm (fun s => wt x s n * g (dz s n)) (2 ^ n) = fb_sm (fun d => lk x n d * g d) (n + 1)
  | 0, g => rfl
  | n + 1, g => by
    rw [sl_A, sl_B, sl_AB x n g, sl_AB x n (fun d => g (d + 1))]
theorem sl_all {x : Nat} (hx : x ≤ 10) : ∀ n, fb_sm (fun s => wt x s n) (2 ^ n) = 10 ^ n
  | 0 => rfl
  | n + 1 => by
    have h := sl_A x n (fun _ => 1)
    simp only [Nat.mul_one] at h
    rw [h, sl_all hx n, ← Nat.add_mul, show 10 - x + x = 10 by omega, Nat.pow_succ, Nat.mul_comm]
/-! the common divisor -/
theorem gcd_step (a b : Nat) : Nat.gcd a b = Nat.gcd b (a % b) := by rw [Nat.gcd_comm a b, Nat.gcd_rec b a, Nat.gcd_comm]
theorem mod_half {l r : Nat} (h0 : 0 < r) (h : r < l) : 2 * (l % r) < l := by
  by_cases h2 : 2 * r ≤ l
  · have := Nat.mod_lt l h0
    omega
  · have h3 : l % r = l - r := by
      rw [Nat.mod_eq_sub_mod (by omega), Nat.mod_eq_of_lt (by omega)]
    omega
theorem X7_gcd : ∀ (k g l s t : Nat), g < 2 ^ 31 → l < 2 ^ k → k ≤ 30 → s + 2 * k ≤ 64 → 2 * k < t → f_X7_commonDivisor_7 t (nI g) (nI l) (nI s) = some (nI (Nat.gcd g l))
  | 0, g, l, s, t, hg, hl, _, hs, ht => by
    obtain ⟨t, rfl⟩ : ∃ z, t = z + 1 := ⟨t - 1, by omega⟩
    have h0 : l = 0 := by have : l < 1 := hl; omega
    subst h0
    rw [f_X7_commonDivisor_7, if_pos (show nI 0 = 0 from rfl), ite_self, Nat.gcd_zero_right]
  | k + 1, g, l, s, t, hg, hl, hk, hs, ht => by
    obtain ⟨t, rfl⟩ : ∃ z, t = z + 1 + 1 := ⟨t - 2, by omega⟩
    have h31 : (2 : Nat) ^ (k + 1) ≤ 2 ^ 30 := Nat.pow_le_pow_right (by decide) hk
    have hn : ¬ (64 : Int32) ≤ nI s := nI_ge (b := 64) (by omega) (by omega)
    have hn2 : ¬ (64 : Int32) ≤ nI (s + 1) := nI_ge (b := 64) (by omega) (by omega)
    rcases Nat.eq_zero_or_pos l with h0 | h0
    · subst h0
      rw [f_X7_commonDivisor_7, if_pos (show nI 0 = 0 from rfl), ite_self, Nat.gcd_zero_right]
    · have hl1 : ¬ nI l = 0 := nI_ne0 h0 (by omega)
      have hr := Nat.mod_lt g h0
      rw [f_X7_commonDivisor_7, if_neg hn, if_neg hl1, if_neg hl1, bnd_def, bnd_def, pk_rem hg h0 (by omega), nI_1, gcd_step g l]
      rcases Nat.eq_zero_or_pos (g % l) with h1 | h1
      · rw [h1, f_X7_commonDivisor_7, if_pos (show nI 0 = 0 from rfl), ite_self, Nat.gcd_zero_right]
      · have hr1 : ¬ nI (g % l) = 0 := nI_ne0 h1 (by omega)
        have hh := mod_half h1 hr
        have hp : (2 : Nat) ^ (k + 1) = 2 ^ k * 2 := Nat.pow_succ 2 k
        rw [f_X7_commonDivisor_7, if_neg hn2, if_neg hr1, if_neg hr1, bnd_def, bnd_def, pk_rem (by omega) h1 (by omega), nI_1, gcd_step l (g % l)]
        exact X7_gcd k (g % l) (l % (g % l)) (s + 1 + 1) t (by omega) (by omega) (by omega) (by omega) (by omega)
theorem X8_gcd (v5 x6 x7 : Int32) (o : Ob) : ∀ (k a b t : Nat), a < 2 ^ 31 → b < 2 ^ k → k ≤ 30 → 2 * k < t → f_X8_slips_189 v5 x6 x7 o t (nI a) (nI b) = f_X8_slips_189 v5 x6 x7 o 1 (nI (Nat.gcd a b)) 0
  | 0, a, b, t, ha, hb, _, ht => by
    obtain ⟨t, rfl⟩ : ∃ z, t = z + 1 := ⟨t - 1, by omega⟩
    have h0 : b = 0 := by have : b < 1 := hb; omega
    subst h0
    rw [Nat.gcd_zero_right, f_X8_slips_189, f_X8_slips_189, if_pos (show nI 0 = 0 from rfl), if_pos rfl]
  | k + 1, a, b, t, ha, hb, hk, ht => by
    obtain ⟨t, rfl⟩ : ∃ z, t = z + 1 + 1 := ⟨t - 2, by omega⟩
    have h31 : (2 : Nat) ^ (k + 1) ≤ 2 ^ 30 := Nat.pow_le_pow_right (by decide) hk
    rcases Nat.eq_zero_or_pos b with h0 | h0
    · subst h0
      rw [Nat.gcd_zero_right, f_X8_slips_189, f_X8_slips_189, if_pos (show nI 0 = 0 from rfl), if_pos rfl]
    · have hl1 : ¬ nI b = 0 := nI_ne0 h0 (by omega)
      have hr := Nat.mod_lt a h0
      rw [gcd_step a b, f_X8_slips_189, if_neg hl1, if_neg hl1, bnd_def, pk_rem ha h0 (by omega)]
      rcases Nat.eq_zero_or_pos (a % b) with h1 | h1
      · rw [h1, Nat.gcd_zero_right, f_X8_slips_189, f_X8_slips_189, if_pos (show nI 0 = 0 from rfl), if_pos rfl]
      · have hr1 : ¬ nI (a % b) = 0 := nI_ne0 h1 (by omega)
        have hh := mod_half h1 hr
        have hp : (2 : Nat) ^ (k + 1) = 2 ^ k * 2 := Nat.pow_succ 2 k
        rw [gcd_step b (a % b), f_X8_slips_189, if_neg hr1, if_neg hr1, bnd_def, pk_rem (by omega) h1 (by omega)]
        exact X8_gcd v5 x6 x7 o k (a % b) (b % (a % b)) t (by omega) (by omega) (by omega) (by omega)
