/-! letters and numbers -/
/-- the letter at a place, 0 behind the last one -/
def lt (Te : Ob) (n k : Nat) : Nat := if k < n then (Te.2 0 k).toNatClampNeg else 0
def dg (Te : Ob) (n k : Nat) : Bool := decide (48 ≤ lt Te n k ∧ lt Te n k ≤ 57)
theorem lt_le {Te M : Ob} {n : Nat} (h : TX Te M n) (k : Nat) : lt Te n k ≤ 126 := by
  unfold lt
  by_cases hk : k < n
  · obtain ⟨c, c1, c2, c3, c4⟩ := h.2.2.2 k hk
    rw [if_pos hk, c3, nI_clamp (by omega)]
    exact c2
  · rw [if_neg hk]; omega
theorem lt_in {Te M : Ob} {n k : Nat} (h : TX Te M n) (hk : k < n) : 32 ≤ lt Te n k ∧ Te.2 0 k = nI (lt Te n k) ∧ M.2 22 k = nI (lt Te n k) := by
  obtain ⟨c, c1, c2, c3, c4⟩ := h.2.2.2 k hk
  unfold lt
  rw [if_pos hk, c3, nI_clamp (by omega)]
  exact ⟨c1, rfl, c4⟩
theorem lt_out {Te : Ob} {n k : Nat} (hk : ¬ k < n) : lt Te n k = 0 := if_neg hk
theorem X7_letterAt {Te M : Ob} {n k : Nat} (h : TX Te M n) (hk : k < 1000) : f_X2_letterAt Te (nI k) = some (nI (lt Te n k)) := by
  have hn := h.2.2.1
  unfold f_X2_letterAt
  rw [h.1]
  by_cases hkn : k < n
  · rw [if_neg (nI_ge hkn (by omega)), f_X7_cell_at (by decide) _ (by omega), Option.bind_some, (lt_in h hkn).2.1]
  · rw [if_pos (nI_le (by omega) (by omega)), lt_out hkn]
    rfl
def nx (Te : Ob) (n k : Nat) : Int32 := if k < n then nI (lt Te n k) else -1
theorem X8_next {Te M : Ob} {n k : Nat} (h : TX Te M n) (hk : k < 1000) (o : Ob) (h1 : o.1 21 = nI n) (h2 : o.1 23 = nI k) (h3 : o.2 22 = M.2 22) : f_X8_next o = some (nx Te n k) := by
  have hn := h.2.2.1
  unfold f_X8_next nx
  rw [h1, h2, h3]
  by_cases hkn : k < n
  · rw [if_neg (nI_ge hkn (by omega)), if_pos hkn, if_neg (nI_in (by omega) (by omega)), nI_clamp (by omega), (lt_in h hkn).2.2]
  · rw [if_pos (nI_le (by omega) (by omega)), if_neg hkn]
theorem nx_is {Te M : Ob} {n k c : Nat} (h : TX Te M n) (hc : 0 < c) (hc2 : c < 2 ^ 31) : nx Te n k = nI c ↔ lt Te n k = c := by
  have hl := lt_le h k
  unfold nx
  by_cases hkn : k < n
  · rw [if_pos hkn]
    exact nI_eq (by omega) hc2
  · rw [if_neg hkn, lt_out hkn]
    constructor
    · intro e
      have := congrArg Int32.toInt e
      rw [nI_toInt hc2, show (-1 : Int32).toInt = -1 by decide +kernel] at this
      omega
    · intro e; omega
theorem nx_fig {Te M : Ob} {n k : Nat} (h : TX Te M n) : f_X7_within (nx Te n k) (nI 48) (nI 57) = dg Te n k := by
  have hl := lt_le h k
  unfold nx dg
  rw [Bool.eq_iff_iff, wi_iff, decide_eq_true_eq, nI_toInt (show 48 < 2 ^ 31 by omega), nI_toInt (show 57 < 2 ^ 31 by omega)]
  by_cases hkn : k < n
  · rw [if_pos hkn, nI_toInt (by omega)]
    omega
  · rw [if_neg hkn, lt_out hkn, show (-1 : Int32).toInt = -1 by decide +kernel]
    omega
theorem X7_isFigureAt {Te M : Ob} {n k : Nat} (h : TX Te M n) (hk : k < 1000) : f_X2_isFigureAt Te (nI k) = some (dg Te n k) := by
  have hl := lt_le h k
  unfold f_X2_isFigureAt dg
  rw [X7_letterAt h hk, Option.bind_some]
  by_cases h1 : 48 ≤ lt Te n k
  · rw [if_neg (show ¬ nI (lt Te n k) < 48 from nI_nlt (b := 48) h1 (by omega))]
    by_cases h2 : lt Te n k ≤ 57
    · rw [if_neg (show ¬ (57 : Int32) < nI (lt Te n k) from nI_nlt (a := 57) h2 (by omega)), decide_eq_true ⟨h1, h2⟩]
    · rw [if_pos (show (57 : Int32) < nI (lt Te n k) from nI_lt (a := 57) (by omega) (by omega)), decide_eq_false (fun z => h2 z.2)]
  · rw [if_pos (show nI (lt Te n k) < 48 from nI_lt (b := 48) (by omega) (by omega)), decide_eq_false (fun z => h1 z.1)]
/-- the figures at a place: how many (3 for more than two), what they say -/
def nf (Te : Ob) (n k : Nat) : Nat := if dg Te n k = true then (if dg Te n (k + 1) = true then (if dg Te n (k + 2) = true then 3 else 2) else 1) else 0
def vl (Te : Ob) (n k : Nat) : Nat := if dg Te n (k + 1) = true then (if dg Te n (k + 2) = true then 100 * (lt Te n k - 48) + 10 * (lt Te n (k + 1) - 48) + (lt Te n (k + 2) - 48) else 10 * (lt Te n k - 48) + (lt Te n (k + 1) - 48)) else lt Te n k - 48
theorem dg_le {Te : Ob} {n k : Nat} (h : dg Te n k = true) : 48 ≤ lt Te n k ∧ lt Te n k ≤ 57 := by
  unfold dg at h
  exact of_decide_eq_true h
theorem X7_figuresAt {Te M : Ob} {n k : Nat} (h : TX Te M n) (hk : k < 900) : f_X2_figuresAt Te (nI k) = some (nI (if dg Te n k = true then (if dg Te n (k + 1) = true then 2 else 1) else 0)) := by
  unfold f_X2_figuresAt
  rw [X7_isFigureAt h (by omega), Option.bind_some, nI_1, X7_isFigureAt h (by omega)]
  cases dg Te n k with
  | false => rw [if_pos (show b2i false = 0 by decide), if_neg (by decide)]; rfl
  | true =>
    rw [if_neg (show ¬ b2i true = 0 by decide), Option.bind_some, if_pos rfl]
    cases dg Te n (k + 1) with
    | false => rw [if_pos (show b2i false = 0 by decide), if_neg (by decide)]; rfl
    | true => rw [if_neg (show ¬ b2i true = 0 by decide), if_pos rfl]; rfl
theorem X7_numberAt {Te M : Ob} {n k f : Nat} (h : TX Te M n) (hk : k < 900) (hd : dg Te n k = true) (hf : (f = 1 ∧ dg Te n (k + 1) = false) ∨ (f = 2 ∧ dg Te n (k + 1) = true)) : f_X2_numberAt Te (nI k) (nI f) = some (nI (if f = 1 then lt Te n k - 48 else 10 * (lt Te n k - 48) + (lt Te n (k + 1) - 48))) := by
  have h1 := dg_le hd
  unfold f_X2_numberAt
  rw [X7_letterAt h (by omega), Option.bind_some, show (48 : Int32) = nI 48 from rfl, pk_sub h1.1, bnd_def]
  rcases hf with ⟨rfl, -⟩ | ⟨rfl, h2⟩
  · rw [if_pos (show nI 1 = 1 from rfl), if_pos rfl]
  · have h3 := dg_le h2
    rw [if_neg (show ¬ nI 2 = 1 by decide), nI_1, X7_letterAt h (by omega), Option.bind_some, show (10 : Int32) = nI 10 from rfl, pk_mul, nI_add, pk_sub (by omega), if_neg (by omega)]
    congr 2
    omega
theorem X8_numStep {Te M : Ob} {n k : Nat} (h : TX Te M n) (hk : k < 900) {o : Ob} (h1 : o.1 21 = nI n) (h2 : o.1 23 = nI k) (h3 : o.2 22 = M.2 22) (lo hi : Int32) (t v c : Nat) (hc : c ≤ 3) : f_X8_number_5 lo hi (t + 1) (nI v) (nI c) o = if dg Te n k = true ∧ c < 3 then f_X8_number_5 lo hi t (nI (10 * v + (lt Te n k - 48))) (nI (c + 1)) (stF o 23 (nI (k + 1))) else f_X8_number_57 lo hi (nI v) (nI c) o := by
  have hnx := X8_next h (show k < 1000 by omega) o h1 h2 h3
  have hin : f_X8_in (nx Te n k).toInt64 (48 : Int64) (57 : Int64) = dg Te n k := (in_48_57 _).trans (nx_fig h)
  rw [f_X8_number_5, hnx, Option.bind_some, hin, bnd_def]
  cases hd : dg Te n k with
  | false => rw [if_pos (show b2i false = 0 by decide), if_neg (fun z => absurd z.1 (by decide))]
  | true =>
    have h4 := dg_le hd
    rw [if_neg (show ¬ b2i true = 0 by decide)]
    by_cases hc3 : c < 3
    · have hkn : k < n := by
        rcases Nat.lt_or_ge k n with z | z
        · exact z
        · rw [lt_out (Nat.not_lt.mpr z)] at h4; omega
      have hnx2 : nx Te n k = nI (lt Te n k) := if_pos hkn
      rw [if_neg (show ¬ (3 : Int32) ≤ nI c from nI_ge (b := 3) hc3 (by omega)), if_pos ⟨rfl, hc3⟩, Option.bind_some, bnd_def, bnd_def, bnd_def, hnx2, h2, nI_1, nI_1, show (10 : Int32) = nI 10 from rfl, show (48 : Int32) = nI 48 from rfl, pk_mul, nI_add, pk_sub (by omega), show 10 * v + lt Te n k - 48 = 10 * v + (lt Te n k - 48) by omega]
    · rw [if_pos (show (3 : Int32) ≤ nI c from nI_le (a := 3) (by omega) (by omega)), if_neg (fun z => hc3 z.2)]
theorem st23 {o : Ob} {n k : Nat} {M : Ob} (h1 : o.1 21 = nI n) (h3 : o.2 22 = M.2 22) : (stF o 23 (nI k)).1 21 = nI n ∧ (stF o 23 (nI k)).1 23 = nI k ∧ (stF o 23 (nI k)).2 22 = M.2 22 := ⟨h1, rfl, h3⟩
/-- whether a number is one of one or two figures between lo and hi -/
def nok (Te : Ob) (n k lo hi : Nat) : Bool := decide ((nf Te n k = 1 ∨ nf Te n k = 2) ∧ lo ≤ vl Te n k ∧ vl Te n k ≤ hi)
theorem X8_number57 {o : Ob} (h25 : o.1 25 = nI 0) {lo hi v c : Nat} (hv : v < 2 ^ 31) (hhi : hi < 2 ^ 31) (hlo : lo ≤ hi) (hc : c ≤ 3) : f_X8_number_57 (nI lo) (nI hi) (nI v) (nI c) o = some (if (c = 1 ∨ c = 2) ∧ lo ≤ v ∧ v ≤ hi then nI v else nI 0, stF o 25 (if (c = 1 ∨ c = 2) ∧ lo ≤ v ∧ v ≤ hi then nI 0 else nI 1)) := by
  have hin : f_X8_in (nI v).toInt64 (nI lo).toInt64 (nI hi).toInt64 = decide (lo ≤ v ∧ v ≤ hi) := by
    rw [in_eq, Bool.eq_iff_iff, wi_iff, nI_toInt hv, nI_toInt hhi, nI_toInt (by omega), decide_eq_true_eq]
    omega
  unfold f_X8_number_57 f_X8_number_88 f_X8_number_93
  rw [h25, if_pos (show nI 0 = 0 from rfl), hin, bnd_def]
  rcases (show c = 0 ∨ c = 1 ∨ c = 2 ∨ c = 3 by omega) with rfl | rfl | rfl | rfl
  · rw [if_pos (show nI 0 = 0 from rfl), if_neg (show ¬ b2i true = 0 by decide), if_neg (fun z => by omega), if_neg (fun z => by omega)]; rfl
  · by_cases hb : lo ≤ v ∧ v ≤ hi
    · rw [if_neg (show ¬ nI 1 = 0 by decide), if_neg (show ¬ (2 : Int32) < nI 1 by decide), decide_eq_true hb, if_neg (show ¬ b2i true = 0 by decide), if_pos (show b2i false = 0 by decide), if_pos ⟨Or.inl rfl, hb⟩, if_pos ⟨Or.inl rfl, hb⟩]; rfl
    · rw [if_neg (show ¬ nI 1 = 0 by decide), if_neg (show ¬ (2 : Int32) < nI 1 by decide), decide_eq_false hb, if_pos (show b2i false = 0 by decide), if_neg (show ¬ b2i true = 0 by decide), if_neg (fun z => hb z.2), if_neg (fun z => hb z.2)]; rfl
  · by_cases hb : lo ≤ v ∧ v ≤ hi
    · rw [if_neg (show ¬ nI 2 = 0 by decide), if_neg (show ¬ (2 : Int32) < nI 2 by decide), decide_eq_true hb, if_neg (show ¬ b2i true = 0 by decide), if_pos (show b2i false = 0 by decide), if_pos ⟨Or.inr rfl, hb⟩, if_pos ⟨Or.inr rfl, hb⟩]; rfl
    · rw [if_neg (show ¬ nI 2 = 0 by decide), if_neg (show ¬ (2 : Int32) < nI 2 by decide), decide_eq_false hb, if_pos (show b2i false = 0 by decide), if_neg (show ¬ b2i true = 0 by decide), if_neg (fun z => hb z.2), if_neg (fun z => hb z.2)]; rfl
  · rw [if_neg (show ¬ nI 3 = 0 by decide), if_pos (show (2 : Int32) < nI 3 by decide), if_neg (show ¬ b2i true = 0 by decide), if_neg (fun z => by omega), if_neg (fun z => by omega)]; rfl
theorem X8_number {Te M : Ob} {n k : Nat} (h : TX Te M n) (hk : k < 800) {o : Ob} (h1 : o.1 21 = nI n) (h2 : o.1 23 = nI k) (h3 : o.2 22 = M.2 22) (h25 : o.1 25 = nI 0) {lo hi : Nat} (hlo : lo ≤ hi) (hhi : hi < 2 ^ 31) : f_X8_number o (nI lo) (nI hi) = some (if nok Te n k lo hi = true then nI (vl Te n k) else nI 0, stF (stF o 23 (nI (k + nf Te n k))) 25 (if nok Te n k lo hi = true then nI 0 else nI 1)) := by
  have hF : f_X8_number o (nI lo) (nI hi) = f_X8_number_5 (nI lo) (nI hi) (99996 + 1 + 1 + 1 + 1) (nI 0) (nI 0) o := rfl
  have hnok : ∀ c v, nf Te n k = c → ((c = 1 ∨ c = 2) → vl Te n k = v) → (if (c = 1 ∨ c = 2) ∧ lo ≤ v ∧ v ≤ hi then nI v else nI 0) = (if nok Te n k lo hi = true then nI (vl Te n k) else nI 0) ∧ (if (c = 1 ∨ c = 2) ∧ lo ≤ v ∧ v ≤ hi then nI 0 else nI 1) = (if nok Te n k lo hi = true then nI 0 else nI 1) := by
    intro c v hc hv
    have he : ((c = 1 ∨ c = 2) ∧ lo ≤ v ∧ v ≤ hi) ↔ nok Te n k lo hi = true := by
      unfold nok
      rw [decide_eq_true_eq, hc]
      constructor
      · intro ⟨a, b⟩; rw [hv a]; exact ⟨a, b⟩
      · intro ⟨a, b⟩; rw [hv a] at b; exact ⟨a, b⟩
    by_cases hd : nok Te n k lo hi = true
    · rw [if_pos (he.mpr hd), if_pos (he.mpr hd), if_pos hd, if_pos hd, hv (he.mpr hd).1]
      exact ⟨rfl, rfl⟩
    · rw [if_neg (fun z => hd (he.mp z)), if_neg (fun z => hd (he.mp z)), if_neg hd, if_neg hd]
      exact ⟨rfl, rfl⟩
  have b0 := lt_le h k
  have b1 := lt_le h (k + 1)
  have b2 := lt_le h (k + 1 + 1)
  rw [hF, X8_numStep h (by omega) h1 h2 h3 _ _ _ 0 0 (by omega)]
  by_cases d0 : dg Te n k = true
  · obtain ⟨u1, u2, u3⟩ := st23 (k := k + 1) h1 h3
    rw [if_pos ⟨d0, by omega⟩, X8_numStep h (by omega) u1 u2 u3 _ _ _ _ _ (by omega)]
    by_cases d1 : dg Te n (k + 1) = true
    · rw [if_pos ⟨d1, by omega⟩, stF_stF]
      obtain ⟨w1, w2, w3⟩ := st23 (k := k + 1 + 1) h1 h3
      rw [X8_numStep h (by omega) w1 w2 w3 _ _ _ _ _ (by omega)]
      by_cases d2 : dg Te n (k + 2) = true
      · rw [if_pos ⟨d2, by omega⟩, stF_stF]
        obtain ⟨x1, x2, x3⟩ := st23 (k := k + 1 + 1 + 1) h1 h3
        have hnf : nf Te n k = 3 := by unfold nf; rw [if_pos d0, if_pos d1, if_pos d2]
        rw [X8_numStep h (by omega) x1 x2 x3 _ _ _ _ _ (by omega), if_neg (fun z => by omega), X8_number57 (o := stF o 23 (nI (k + 1 + 1 + 1))) h25 (by omega) hhi hlo (by omega)]
        obtain ⟨y1, y2⟩ := hnok 3 (10 * (10 * (10 * 0 + (lt Te n k - 48)) + (lt Te n (k + 1) - 48)) + (lt Te n (k + 1 + 1) - 48)) hnf (fun z => by omega)
        rw [show (0 : Nat) + 1 + 1 + 1 = 3 from rfl, y1, y2, hnf]
      · rw [if_neg (fun z => d2 z.1)]
        have hnf : nf Te n k = 2 := by unfold nf; rw [if_pos d0, if_pos d1, if_neg d2]
        have hvl : vl Te n k = 10 * (lt Te n k - 48) + (lt Te n (k + 1) - 48) := by unfold vl; rw [if_pos d1, if_neg d2]
        rw [X8_number57 (o := stF o 23 (nI (k + 1 + 1))) h25 (by omega) hhi hlo (by omega)]
        obtain ⟨y1, y2⟩ := hnok 2 (10 * (10 * 0 + (lt Te n k - 48)) + (lt Te n (k + 1) - 48)) hnf (fun _ => by omega)
        rw [show (0 : Nat) + 1 + 1 = 2 from rfl, y1, y2, hnf]
    · rw [if_neg (fun z => d1 z.1)]
      have hnf : nf Te n k = 1 := by unfold nf; rw [if_pos d0, if_neg d1]
      have hvl : vl Te n k = lt Te n k - 48 := by unfold vl; rw [if_neg d1]
      rw [X8_number57 (o := stF o 23 (nI (k + 1))) h25 (by omega) hhi hlo (by omega)]
      obtain ⟨y1, y2⟩ := hnok 1 (10 * 0 + (lt Te n k - 48)) hnf (fun _ => by omega)
      rw [show (0 : Nat) + 1 = 1 from rfl, y1, y2, hnf]
  · rw [if_neg (fun z => d0 z.1)]
    have hnf : nf Te n k = 0 := by unfold nf; rw [if_neg d0]
    have hst : o = stF o 23 (nI (k + 0)) := by
      rw [Nat.add_zero, ← h2]
      unfold stF
      have hf : (fun j => bif Nat.beq j 23 then o.1 23 else o.1 j) = o.1 := by
        funext j
        by_cases hj : j = 23
        · subst hj; rfl
        · simp only [nbq_n hj, cond_false]
      rw [hf]
    rw [X8_number57 (o := o) h25 (by omega) hhi hlo (by omega)]
    obtain ⟨y1, y2⟩ := hnok 0 0 hnf (fun z => by omega)
    rw [y1, y2, hnf, ← hst]
