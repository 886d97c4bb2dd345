/-! items, as the reference reads them -/
def FM (M M' : Ob) : Prop := (∀ k, k ≠ 11 → k ≠ 14 → k ≠ 16 → k ≠ 23 → k ≠ 24 → k ≠ 25 → M'.1 k = M.1 k) ∧ (∀ k, k ≠ 9 → k ≠ 10 → k ≠ 12 → k ≠ 13 → k ≠ 15 → k ≠ 17 → k ≠ 18 → M'.2 k = M.2 k) ∧ FR (M.2 18) (M'.2 18) 286
theorem FM.refl (M : Ob) : FM M M := ⟨fun _ _ _ _ _ _ _ => rfl, fun _ _ _ _ _ _ _ _ => rfl, FR.refl _ _⟩
theorem FM.trans {a b c : Ob} (h1 : FM a b) (h2 : FM b c) : FM a c := ⟨fun k a1 a2 a3 a4 a5 a6 => (h2.1 k a1 a2 a3 a4 a5 a6).trans (h1.1 k a1 a2 a3 a4 a5 a6), fun k a1 a2 a3 a4 a5 a6 a7 => (h2.2.1 k a1 a2 a3 a4 a5 a6 a7).trans (h1.2.1 k a1 a2 a3 a4 a5 a6 a7), h1.2.2.trans h2.2.2⟩
theorem FM.f (M : Ob) {k : Nat} (h : k = 11 ∨ k = 14 ∨ k = 16 ∨ k = 23 ∨ k = 24 ∨ k = 25) (v : Int32) : FM M (stF M k v) := ⟨fun j a1 a2 a3 a4 a5 a6 => st1n M (by omega) v, fun _ _ _ _ _ _ _ _ => rfl, FR.refl _ _⟩
theorem FM.f23 (M : Ob) (v : Int32) : FM M (stF M 23 v) := FM.f M (by omega) v
theorem FM.f24 (M : Ob) (v : Int32) : FM M (stF M 24 v) := FM.f M (by omega) v
theorem FM.f25 (M : Ob) (v : Int32) : FM M (stF M 25 v) := FM.f M (by omega) v
theorem FM.r (M : Ob) {k : Nat} (h : k = 9 ∨ k = 10 ∨ k = 12 ∨ k = 13 ∨ k = 15 ∨ k = 17) (f : Nat → Int32) : FM M (stR M k f) := ⟨fun _ _ _ _ _ _ _ => rfl, fun j a1 a2 a3 a4 a5 a6 a7 => st4n M (by omega) f, by rw [st4n M (by omega) f]; exact FR.refl _ _⟩
theorem FM.s (M : Ob) {f : Nat → Int32} (h : FR (M.2 18) f 286) : FM M (stR M 18 f) := ⟨fun _ _ _ _ _ _ _ => rfl, fun j a1 a2 a3 a4 a5 a6 a7 => st4n M a7 f, by rw [st4s]; exact h⟩
/-- where the reference stands in the text -/
def AT (Te M0 M o : Ob) (n k : Nat) : Prop := o.1 21 = nI n ∧ o.1 23 = nI k ∧ o.2 22 = M0.2 22 ∧ o.1 25 = nI 0
/-- the item is wrong -/
def WRONG (o : Ob) (r : Option Ob) : Prop := ∃ q8, r = some q8 ∧ q8.1 25 = nI 1 ∧ FM o q8 ∧ q8.1 24 = o.1 24
theorem vl_le {Te M : Ob} {n : Nat} (h : TX Te M n) (k : Nat) : vl Te n k < 10000 := by
  have b0 := lt_le h k
  have b1 := lt_le h (k + 1)
  have b2 := lt_le h (k + 2)
  unfold vl
  split
  · split <;> omega
  · omega
section
variable {Te M0 : Ob} {n k : Nat}
theorem num0 {o : Ob} (h : TX Te M0 n) (hk : k < 800) (h1 : o.1 21 = nI n) (h2 : o.1 23 = nI k) (h3 : o.2 22 = M0.2 22) {lo hi : Nat} (hlo : lo ≤ hi) (hhi : hi < 2 ^ 31) : (nok Te n k lo hi = true ∧ f_X8_number (stF o 25 (nI 0)) (nI lo) (nI hi) = some (nI (vl Te n k), stF (stF (stF o 25 (nI 0)) 23 (nI (k + nf Te n k))) 25 (nI 0))) ∨ (nok Te n k lo hi = false ∧ ∃ v, f_X8_number (stF o 25 (nI 0)) (nI lo) (nI hi) = some (v, stF (stF (stF o 25 (nI 0)) 23 (nI (k + nf Te n k))) 25 (nI 1))) := by
  have hnum := X8_number (o := stF o 25 (nI 0)) h hk h1 h2 h3 rfl hlo hhi
  cases hn : nok Te n k lo hi with
  | true =>
    left
    rw [hn, if_pos rfl, if_pos rfl] at hnum
    exact ⟨rfl, hnum⟩
  | false =>
    right
    rw [hn, if_neg (by decide), if_neg (by decide)] at hnum
    exact ⟨rfl, _, hnum⟩
theorem FM.num (o : Ob) (a b c : Int32) : FM o (stF (stF (stF o 25 a) 23 b) 25 c) := ((FM.f o (by omega) a).trans (FM.f _ (by omega) b)).trans (FM.f _ (by omega) c)
theorem X8_landItem {o : Ob} (h : TX Te M0 n) (hk : k < 800) (h1 : o.1 21 = nI n) (h2 : o.1 23 = nI k) (h3 : o.2 22 = M0.2 22) {l c : Nat} (hl : l < 2) (hc : c ≤ 6) (hm : o.2 9 l = nI c) : (c < 6 ∧ nok Te n k 0 60 = true ∧ f_X8_landItem o (nI l) = some (stR (stR (stF (stF (stF o 25 (nI 0)) 23 (nI (k + nf Te n k))) 25 (nI 0)) 9 (upd (o.2 9) l (nI (c + 1)))) 10 (upd (o.2 10) (6 * l + c) (nI (vl Te n k))))) ∨ (¬ (c < 6 ∧ nok Te n k 0 60 = true) ∧ WRONG o (f_X8_landItem o (nI l))) := by
  unfold f_X8_landItem
  rw [if_neg (nI_in hl (by omega)), nI_clamp (by omega), hm]
  by_cases hc6 : c = 6
  · right
    subst hc6
    refine ⟨fun z => by omega, stF o 25 (nI 1), ?_, rfl, FM.f o (by omega) _, rfl⟩
    rw [if_pos (show nI 6 = 6 from rfl)]
    unfold f_X8_landItem_17 f_X8_landItem_38
    rw [if_neg (show ¬ b2i true = 0 by decide), if_neg (show ¬ (stF o 25 (b2i true)).1 25 = 0 from (show ¬ b2i true = 0 by decide))]
    rfl
  · have hne : ¬ nI c = 6 := fun e => hc6 ((nI_eq (b := 6) (by omega) (by omega)).mp e)
    rw [if_neg hne]
    unfold f_X8_landItem_17
    rw [if_pos (show b2i false = 0 by decide)]
    rcases num0 h hk h1 h2 h3 (lo := 0) (hi := 60) (by omega) (by omega) with ⟨a, b⟩ | ⟨a, v, b⟩
    · left
      refine ⟨by omega, a, ?_⟩
      have b' : f_X8_number (stF o 25 (b2i false)) 0 60 = _ := b
      rw [b', Option.bind_some]
      unfold f_X8_landItem_38
      rw [if_pos (show (stF (stF (stF o 25 (nI 0)) 23 (nI (k + nf Te n k))) 25 (nI 0)).1 25 = 0 from rfl)]
      unfold f_X8_sits
      have hrow : (stF (stF (stF o 25 (nI 0)) 23 (nI (k + nf Te n k))) 25 (nI 0)).2 = o.2 := rfl
      have hix : (6 : Int32) * nI l + nI c = nI (6 * l + c) := by rw [show (6 : Int32) = nI 6 from rfl, pk_mul, nI_add]
      rw [hrow, if_neg (nI_in hl (by omega)), nI_clamp (show l < 2 ^ 31 by omega), hm, hix, if_neg (nI_in (by omega) (by omega)), bnd_def, if_neg (show ¬ (nI l < 0 ∨ 2 ≤ l) from fun z => z.elim (nI_pos (by omega)) (by omega)), if_neg (show ¬ (nI l < 0 ∨ 2 ≤ l) from fun z => z.elim (nI_pos (by omega)) (by omega)), bnd_def, nI_1, nI_clamp (by omega)]
      rfl
    · right
      refine ⟨fun z => (by rw [a] at z; exact absurd z.2 (by decide)), stF (stF (stF o 25 (nI 0)) 23 (nI (k + nf Te n k))) 25 (nI 1), ?_, rfl, FM.num o _ _ _, rfl⟩
      have b' : f_X8_number (stF o 25 (b2i false)) 0 60 = _ := b
      rw [b', Option.bind_some]
      unfold f_X8_landItem_38
      rw [if_neg (show ¬ (stF (stF (stF o 25 (nI 0)) 23 (nI (k + nf Te n k))) 25 (nI 1)).1 25 = 0 from (show ¬ nI 1 = 0 by decide))]
theorem X8_pushItem {o : Ob} (h : TX Te M0 n) (hk : k < 800) (h1 : o.1 21 = nI n) (h2 : o.1 23 = nI k) (h3 : o.2 22 = M0.2 22) {c : Nat} (hc : c ≤ 4) (hm : o.1 14 = nI c) : (c < 4 ∧ nok Te n k 1 20 = true ∧ (if o.1 14 = (4 : Int32) then f_X8_item_61 o true else f_X8_item_61 o false) = some (stR (stF (stF (stF (stF o 25 (nI 0)) 23 (nI (k + nf Te n k))) 25 (nI 0)) 14 (nI (c + 1))) 15 (upd (o.2 15) c (nI (vl Te n k))))) ∨ (¬ (c < 4 ∧ nok Te n k 1 20 = true) ∧ WRONG o (if o.1 14 = (4 : Int32) then f_X8_item_61 o true else f_X8_item_61 o false)) := by
  have hbad : ∀ v o', o'.1 25 = nI 1 → o'.1 14 = nI c → FM o o' → o'.1 24 = o.1 24 → WRONG o (f_X8_item_82 v o') := by
    intro v o' g1 g2 g3 g4
    unfold f_X8_item_82 f_X8_item_102
    rw [g1, if_neg (show ¬ nI 1 = 0 by decide), if_neg (show ¬ ((0 : Int32) < 0 ∨ 4 ≤ (0 : Int32).toNatClampNeg) by decide), bnd_def, if_neg (show ¬ nI 1 = 0 by decide), bnd_def]
    exact ⟨_, rfl, g1, (g3.trans (FM.f o' (by omega) _)).trans (FM.r _ (by omega) _), g4⟩
  rw [hm]
  by_cases hc4 : c = 4
  · right
    subst hc4
    refine ⟨fun z => by omega, ?_⟩
    rw [if_pos (show nI 4 = 4 from rfl)]
    unfold f_X8_item_61
    rw [if_neg (show ¬ b2i true = 0 by decide)]
    exact hbad _ _ rfl hm (FM.f o (by omega) _) rfl
  · have hne : ¬ nI c = 4 := fun e => hc4 ((nI_eq (b := 4) (by omega) (by omega)).mp e)
    rw [if_neg hne]
    unfold f_X8_item_61
    rw [if_pos (show b2i false = 0 by decide)]
    rcases num0 h hk h1 h2 h3 (lo := 1) (hi := 20) (by omega) (by omega) with ⟨a, b⟩ | ⟨a, v, b⟩
    · left
      refine ⟨by omega, a, ?_⟩
      have b' : f_X8_number (stF o 25 (b2i false)) 1 20 = _ := b
      have h14 : (stF (stF (stF o 25 (nI 0)) 23 (nI (k + nf Te n k))) 25 (nI 0)).1 14 = nI c := hm
      rw [b', Option.bind_some]
      unfold f_X8_item_82 f_X8_item_102
      rw [if_pos (show (stF (stF (stF o 25 (nI 0)) 23 (nI (k + nf Te n k))) 25 (nI 0)).1 25 = 0 from rfl), h14, if_neg (nI_in (by omega) (by omega)), bnd_def, if_pos (show (stF (stF (stF o 25 (nI 0)) 23 (nI (k + nf Te n k))) 25 (nI 0)).1 25 = 0 from rfl), bnd_def, nI_1, nI_clamp (by omega)]
      rfl
    · right
      refine ⟨fun z => (by rw [a] at z; exact absurd z.2 (by decide)), ?_⟩
      have b' : f_X8_number (stF o 25 (b2i false)) 1 20 = _ := b
      rw [b', Option.bind_some]
      exact hbad _ _ rfl hm (FM.num o _ _ _) rfl
theorem X8_dampItem {o : Ob} (h : TX Te M0 n) (hk : k < 800) (h1 : o.1 21 = nI n) (h2 : o.1 23 = nI k) (h3 : o.2 22 = M0.2 22) {c : Nat} (hc : c ≤ 8) (hm : o.1 16 = nI c) : (c < 8 ∧ nok Te n k 0 3 = true ∧ (if o.1 16 = (8 : Int32) then f_X8_item_149 o true else f_X8_item_149 o false) = some (stR (stF (stF (stF (stF o 25 (nI 0)) 23 (nI (k + nf Te n k))) 25 (nI 0)) 16 (nI (c + 1))) 17 (upd (o.2 17) c (nI (vl Te n k))))) ∨ (¬ (c < 8 ∧ nok Te n k 0 3 = true) ∧ WRONG o (if o.1 16 = (8 : Int32) then f_X8_item_149 o true else f_X8_item_149 o false)) := by
  have hbad : ∀ v o', o'.1 25 = nI 1 → o'.1 16 = nI c → FM o o' → o'.1 24 = o.1 24 → WRONG o (f_X8_item_169 v o') := by
    intro v o' g1 g2 g3 g4
    unfold f_X8_item_169 f_X8_item_189
    rw [g1, if_neg (show ¬ nI 1 = 0 by decide), if_neg (show ¬ ((0 : Int32) < 0 ∨ 8 ≤ (0 : Int32).toNatClampNeg) by decide), bnd_def, if_neg (show ¬ nI 1 = 0 by decide), bnd_def]
    exact ⟨_, rfl, g1, (g3.trans (FM.f o' (by omega) _)).trans (FM.r _ (by omega) _), g4⟩
  rw [hm]
  by_cases hc4 : c = 8
  · right
    subst hc4
    refine ⟨fun z => by omega, ?_⟩
    rw [if_pos (show nI 8 = 8 from rfl)]
    unfold f_X8_item_149
    rw [if_neg (show ¬ b2i true = 0 by decide)]
    exact hbad _ _ rfl hm (FM.f o (by omega) _) rfl
  · have hne : ¬ nI c = 8 := fun e => hc4 ((nI_eq (b := 8) (by omega) (by omega)).mp e)
    rw [if_neg hne]
    unfold f_X8_item_149
    rw [if_pos (show b2i false = 0 by decide)]
    rcases num0 h hk h1 h2 h3 (lo := 0) (hi := 3) (by omega) (by omega) with ⟨a, b⟩ | ⟨a, v, b⟩
    · left
      refine ⟨by omega, a, ?_⟩
      have b' : f_X8_number (stF o 25 (b2i false)) 0 3 = _ := b
      have h14 : (stF (stF (stF o 25 (nI 0)) 23 (nI (k + nf Te n k))) 25 (nI 0)).1 16 = nI c := hm
      rw [b', Option.bind_some]
      unfold f_X8_item_169 f_X8_item_189
      rw [if_pos (show (stF (stF (stF o 25 (nI 0)) 23 (nI (k + nf Te n k))) 25 (nI 0)).1 25 = 0 from rfl), h14, if_neg (nI_in (by omega) (by omega)), bnd_def, if_pos (show (stF (stF (stF o 25 (nI 0)) 23 (nI (k + nf Te n k))) 25 (nI 0)).1 25 = 0 from rfl), bnd_def, nI_1, nI_clamp (by omega)]
      rfl
    · right
      refine ⟨fun z => (by rw [a] at z; exact absurd z.2 (by decide)), ?_⟩
      have b' : f_X8_number (stF o 25 (b2i false)) 0 3 = _ := b
      rw [b', Option.bind_some]
      exact hbad _ _ rfl hm (FM.num o _ _ _) rfl
theorem X8_more_bad {o : Ob} (h25 : o.1 25 = nI 1) (lo hi : Int32) : f_X8_more o lo hi = some (0, stF (stF o 23 (o.1 23 + 1)) 25 (nI 1)) := by
  unfold f_X8_more f_X8_more_17 f_X8_more_22
  rw [h25, if_neg (show ¬ nI 1 = 0 by decide), bnd_def, if_neg (show ¬ b2i true = 0 by decide)]
  rfl
theorem X8_more {o : Ob} (h : TX Te M0 n) (hk : k < 700) (h1 : o.1 21 = nI n) (h2 : o.1 23 = nI k) (h3 : o.2 22 = M0.2 22) (h25 : o.1 25 = nI 0) {lo hi : Nat} (hlo : lo ≤ hi) (hhi : hi < 2 ^ 31) : (lt Te n k = 44 ∧ nok Te n (k + 1) lo hi = true ∧ f_X8_more o (nI lo) (nI hi) = some (nI (vl Te n (k + 1)), stF (stF (stF (stF o 23 (nI (k + 1))) 25 (nI 0)) 23 (nI (k + 1 + nf Te n (k + 1)))) 25 (nI 0))) ∨ (¬ (lt Te n k = 44 ∧ nok Te n (k + 1) lo hi = true) ∧ ∃ v o', f_X8_more o (nI lo) (nI hi) = some (v, o') ∧ o'.1 25 = nI 1 ∧ FM o o' ∧ o'.1 24 = o.1 24) := by
  have hnx := X8_next h (show k < 1000 by omega) o h1 h2 h3
  have h44 := nx_is (c := 44) (k := k) h (by omega) (by omega)
  unfold f_X8_more f_X8_more_17 f_X8_more_22
  rw [h25, if_pos (show nI 0 = 0 from rfl), hnx, Option.bind_some]
  by_cases hl : lt Te n k = 44
  · rw [if_pos (show nx Te n k = 44 from h44.mpr hl), bnd_def, if_pos (show b2i false = 0 by decide), h2, nI_1]
    rcases num0 (o := stF o 23 (nI (k + 1))) h (show k + 1 < 800 by omega) h1 rfl h3 hlo hhi with ⟨a, b⟩ | ⟨a, v, b⟩
    · left
      refine ⟨hl, a, ?_⟩
      have b' : f_X8_number (stF (stF o 23 (nI (k + 1))) 25 (b2i false)) (nI lo) (nI hi) = _ := b
      rw [b']
      rfl
    · right
      refine ⟨fun z => (by rw [a] at z; exact absurd z.2 (by decide)), v, stF (stF (stF (stF o 23 (nI (k + 1))) 25 (nI 0)) 23 (nI (k + 1 + nf Te n (k + 1)))) 25 (nI 1), ?_, rfl, (FM.f23 o _).trans (FM.num _ _ _ _), rfl⟩
      have b' : f_X8_number (stF (stF o 23 (nI (k + 1))) 25 (b2i false)) (nI lo) (nI hi) = _ := b
      rw [b']
      rfl
  · right
    refine ⟨fun z => hl z.1, 0, stF (stF o 23 (o.1 23 + 1)) 25 (nI 1), ?_, rfl, (FM.f o (by omega) _).trans (FM.f _ (by omega) _), rfl⟩
    rw [if_neg (show ¬ nx Te n k = 44 from fun z => hl (h44.mp z)), bnd_def, if_neg (show ¬ b2i true = 0 by decide)]
    rfl
theorem X8_stripItem {o : Ob} (h : TX Te M0 n) (hk : k < 600) (h1 : o.1 21 = nI n) (h2 : o.1 23 = nI k) (h3 : o.2 22 = M0.2 22) {c : Nat} (hc : c ≤ 7) (hm : o.1 11 = nI c) : (∃ k2 k3, k2 = k + nf Te n k + 1 ∧ k3 = k2 + nf Te n k2 + 1 ∧ (c < 7 ∧ nok Te n k 0 3 = true ∧ lt Te n (k + nf Te n k) = 44 ∧ nok Te n k2 0 60 = true ∧ lt Te n (k2 + nf Te n k2) = 44 ∧ nok Te n k3 0 99 = true) ∧ ∃ o', o'.1 25 = nI 0 ∧ o'.1 23 = nI (k3 + nf Te n k3) ∧ o'.1 24 = o.1 24 ∧ o'.1 21 = o.1 21 ∧ FM o o' ∧ o'.1 11 = nI c ∧ o'.1 14 = o.1 14 ∧ o'.1 16 = o.1 16 ∧ o'.2 = o.2 ∧ f_X8_stripItem o = some (stR (stR (stR (stF o' 11 (nI (c + 1))) 12 (upd (o.2 12) c (nI (vl Te n k)))) 13 (upd (o.2 13) c (nI (vl Te n k2)))) 18 (upd (o.2 18) (290 + c) (nI (vl Te n k3))))) ∨ ((∀ k2 k3, k2 = k + nf Te n k + 1 → k3 = k2 + nf Te n k2 + 1 → ¬ (c < 7 ∧ nok Te n k 0 3 = true ∧ lt Te n (k + nf Te n k) = 44 ∧ nok Te n k2 0 60 = true ∧ lt Te n (k2 + nf Te n k2) = 44 ∧ nok Te n k3 0 99 = true)) ∧ WRONG o (f_X8_stripItem o)) := by
  have hbad2 : ∀ v1 v2 o', o'.1 25 = nI 1 → FM o o' → o'.1 24 = o.1 24 → WRONG o ((f_X8_more o' (0 : Int32) (99 : Int32)).bind fun q2 : Int32 × Ob => if (q2.2.1 25) = 0 then ((f_X8_lives q2.2 v1 v2 q2.1).bind fun q4 : Ob => some q4) else (some q2.2)) := by
    intro v1 v2 o' g1 g2 g3
    rw [X8_more_bad g1, Option.bind_some, if_neg (show ¬ (stF (stF o' 23 (o'.1 23 + 1)) 25 (nI 1)).1 25 = 0 from (show ¬ nI 1 = 0 by decide))]
    exact ⟨_, rfl, rfl, (g2.trans (FM.f o' (by omega) _)).trans (FM.f _ (by omega) _), g3⟩
  have hbad1 : ∀ v1 o', o'.1 25 = nI 1 → FM o o' → o'.1 24 = o.1 24 → WRONG o (f_X8_stripItem_35 v1 o') := by
    intro v1 o' g1 g2 g3
    unfold f_X8_stripItem_35
    rw [X8_more_bad g1, Option.bind_some]
    exact hbad2 v1 0 _ rfl ((g2.trans (FM.f o' (by omega) _)).trans (FM.f _ (by omega) _)) g3
  have f1 := nf_le Te n k
  unfold f_X8_stripItem
  rw [hm]
  by_cases hc7 : c = 7
  · right
    subst hc7
    refine ⟨fun k2 k3 _ _ z => by omega, ?_⟩
    rw [if_pos (show nI 7 = 7 from rfl)]
    unfold f_X8_stripItem_15
    rw [if_neg (show ¬ b2i true = 0 by decide)]
    exact hbad1 _ _ rfl (FM.f o (by omega) _) rfl
  · have hne : ¬ nI c = 7 := fun e => hc7 ((nI_eq (b := 7) (by omega) (by omega)).mp e)
    rw [if_neg hne]
    unfold f_X8_stripItem_15
    rw [if_pos (show b2i false = 0 by decide)]
    rcases num0 h (show k < 800 by omega) h1 h2 h3 (lo := 0) (hi := 3) (by omega) (by omega) with ⟨a, b⟩ | ⟨a, v, b⟩
    · have b' : f_X8_number (stF o 25 (b2i false)) 0 3 = _ := b
      rw [b', Option.bind_some]
      have f2 := nf_le Te n (k + nf Te n k + 1)
      unfold f_X8_stripItem_35
      rcases X8_more (o := stF (stF (stF o 25 (nI 0)) 23 (nI (k + nf Te n k))) 25 (nI 0)) (k := k + nf Te n k) h (by omega) h1 rfl h3 rfl (lo := 0) (hi := 60) (by omega) (by omega) with ⟨a2, a3, b2⟩ | ⟨a2, v, o', b2, b3, b4, b5⟩
      · have b2' : f_X8_more (stF (stF (stF o 25 (nI 0)) 23 (nI (k + nf Te n k))) 25 (nI 0)) (0 : Int32) (60 : Int32) = _ := b2
        rw [b2', Option.bind_some]
        rcases X8_more (o := stF (stF (stF (stF (stF (stF (stF o 25 (nI 0)) 23 (nI (k + nf Te n k))) 25 (nI 0)) 23 (nI (k + nf Te n k + 1))) 25 (nI 0)) 23 (nI (k + nf Te n k + 1 + nf Te n (k + nf Te n k + 1)))) 25 (nI 0)) (k := k + nf Te n k + 1 + nf Te n (k + nf Te n k + 1)) h (by omega) h1 rfl h3 rfl (lo := 0) (hi := 99) (by omega) (by omega) with ⟨a4, a5, b6⟩ | ⟨a4, v, o', b6, b7, b8, b9⟩
        · left
          have b6' : f_X8_more (stF (stF (stF (stF (stF (stF (stF o 25 (nI 0)) 23 (nI (k + nf Te n k))) 25 (nI 0)) 23 (nI (k + nf Te n k + 1))) 25 (nI 0)) 23 (nI (k + nf Te n k + 1 + nf Te n (k + nf Te n k + 1)))) 25 (nI 0)) (0 : Int32) (99 : Int32) = _ := b6
          refine ⟨k + nf Te n k + 1, k + nf Te n k + 1 + nf Te n (k + nf Te n k + 1) + 1, rfl, rfl, ⟨by omega, a, a2, a3, a4, a5⟩, stF (stF (stF (stF (stF (stF (stF (stF (stF (stF (stF o 25 (nI 0)) 23 (nI (k + nf Te n k))) 25 (nI 0)) 23 (nI (k + nf Te n k + 1))) 25 (nI 0)) 23 (nI (k + nf Te n k + 1 + nf Te n (k + nf Te n k + 1)))) 25 (nI 0)) 23 (nI (k + nf Te n k + 1 + nf Te n (k + nf Te n k + 1) + 1))) 25 (nI 0)) 23 (nI (k + nf Te n k + 1 + nf Te n (k + nf Te n k + 1) + 1 + nf Te n (k + nf Te n k + 1 + nf Te n (k + nf Te n k + 1) + 1)))) 25 (nI 0), rfl, rfl, rfl, rfl, ((FM.num o _ _ _).trans ((FM.f23 _ _).trans (FM.num _ _ _ _))).trans ((FM.f23 _ _).trans (FM.num _ _ _ _)), hm, rfl, rfl, rfl, ?_⟩
          rw [b6', Option.bind_some]
          generalize hO : stF (stF (stF (stF (stF (stF (stF (stF (stF (stF (stF o 25 (nI 0)) 23 (nI (k + nf Te n k))) 25 (nI 0)) 23 (nI (k + nf Te n k + 1))) 25 (nI 0)) 23 (nI (k + nf Te n k + 1 + nf Te n (k + nf Te n k + 1)))) 25 (nI 0)) 23 (nI (k + nf Te n k + 1 + nf Te n (k + nf Te n k + 1) + 1))) 25 (nI 0)) 23 (nI (k + nf Te n k + 1 + nf Te n (k + nf Te n k + 1) + 1 + nf Te n (k + nf Te n k + 1 + nf Te n (k + nf Te n k + 1) + 1)))) 25 (nI 0) = O
          have hO25 : O.1 25 = nI 0 := by rw [← hO]; rfl
          have hO11 : O.1 11 = nI c := by rw [← hO]; exact hm
          have hO2 : O.2 = o.2 := by rw [← hO]; rfl
          unfold f_X8_lives
          have h290 : (290 : Int32) + nI c = nI (290 + c) := nI_add 290 c
          rw [if_pos (show (nI (vl Te n (k + nf Te n k + 1 + nf Te n (k + nf Te n k + 1) + 1)), O).2.1 25 = 0 from hO25)]
          show (if O.1 11 < 0 ∨ 7 ≤ (O.1 11).toNatClampNeg then none else _).bind _ = _
          rw [hO11, if_neg (nI_in (by omega) (by omega)), bnd_def, if_neg (nI_in (by omega) (by omega)), bnd_def, h290, if_neg (nI_in (by omega) (by omega)), bnd_def, bnd_def, nI_1, nI_clamp (show c < 2 ^ 31 by omega), nI_clamp (show 290 + c < 2 ^ 31 by omega), hO2]
          rfl
        · right
          refine ⟨fun k2 k3 e2 e3 z => ?_, ?_⟩
          · subst e2; subst e3
            exact a4 ⟨z.2.2.2.2.1, z.2.2.2.2.2⟩
          · have b6' : f_X8_more (stF (stF (stF (stF (stF (stF (stF o 25 (nI 0)) 23 (nI (k + nf Te n k))) 25 (nI 0)) 23 (nI (k + nf Te n k + 1))) 25 (nI 0)) 23 (nI (k + nf Te n k + 1 + nf Te n (k + nf Te n k + 1)))) 25 (nI 0)) (0 : Int32) (99 : Int32) = _ := b6
            rw [b6', Option.bind_some, if_neg (show ¬ (v, o').2.1 25 = 0 from (by show ¬ o'.1 25 = 0; rw [b7]; decide))]
            exact ⟨o', rfl, b7, ((FM.num o _ _ _).trans ((FM.f23 _ _).trans (FM.num _ _ _ _))).trans b8, b9⟩
      · right
        refine ⟨fun k2 k3 e2 e3 z => ?_, ?_⟩
        · subst e2; subst e3
          exact a2 ⟨z.2.2.1, z.2.2.2.1⟩
        · have b2' : f_X8_more (stF (stF (stF o 25 (nI 0)) 23 (nI (k + nf Te n k))) 25 (nI 0)) (0 : Int32) (60 : Int32) = _ := b2
          rw [b2', Option.bind_some]
          exact hbad2 _ _ o' b3 ((FM.num o _ _ _).trans b4) b5
    · right
      refine ⟨fun k2 k3 _ _ z => (by rw [a] at z; exact absurd z.2.1 (by decide)), ?_⟩
      have b' : f_X8_number (stF o 25 (b2i false)) 0 3 = _ := b
      rw [b', Option.bind_some]
      exact hbad1 _ _ rfl (FM.num o _ _ _) rfl
end
