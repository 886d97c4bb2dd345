theorem bnd_id {α : Type} (x : Option α) : (x.bind fun q => some q) = x := by cases x <;> rfl
theorem X7_addOne {T : Ob} {l c v : Nat} (hl : l < 2) (hc : c ≤ 6) (hm : T.2 1 l = nI c) (hv : v < 10000) : (c < 6 ∧ v ≤ 60 → f_X6_addOne T (nI l) (nI v) = some (true, stR (stR T 0 (upd (T.2 0) (6 * l + c) (nI v))) 1 (upd (T.2 1) l (nI (c + 1))))) ∧ (¬ (c < 6 ∧ v ≤ 60) → f_X6_addOne T (nI l) (nI v) = some (false, T)) := by
  unfold f_X6_addOne
  rw [f_X7_cell_at (by decide) _ hl, Option.bind_some, hm]
  have hix : f_X7_oneOf (nI l) (nI c) = nI (6 * l + c) := by
    unfold f_X7_oneOf
    rw [show (6 : Int32) = nI 6 from rfl, pk_mul, nI_add, Nat.mul_comm]
  constructor
  · intro ⟨a, b⟩
    rw [if_neg (show ¬ (6 : Int32) ≤ nI c from nI_ge (b := 6) a (by omega)), if_pos (show nI v ≤ 60 from nI_le (b := 60) b (by omega)), hix, bnd_def, f_X7_setCell_at (by decide) _ (by omega), Option.bind_some, nI_1, f_X7_setCell_at (by decide) _ hl, Option.bind_some]
  · intro h
    by_cases h6 : c < 6
    · rw [if_neg (show ¬ (6 : Int32) ≤ nI c from nI_ge (b := 6) h6 (by omega)), if_neg (show ¬ nI v ≤ 60 from nI_ge (a := 60) (by omega) (by omega))]
    · rw [if_pos (show (6 : Int32) ≤ nI c from nI_le (a := 6) (by omega) (by omega))]
theorem X7_addItem {T : Ob} {v : Nat} (h0 : T.2 7 0 = nI v) : f_X6_addItem T (nI 117) = f_X6_addOne T (nI 0) (nI v) ∧ f_X6_addItem T (nI 108) = f_X6_addOne T (nI 1) (nI v) ∧ f_X6_addItem T (nI 112) = f_X6_addPush T (nI v) ∧ f_X6_addItem T (nI 100) = f_X6_addDamp T (nI v) ∧ (∀ c, c < 2 ^ 31 → c ≠ 117 → c ≠ 108 → c ≠ 112 → c ≠ 100 → c ≠ 115 → f_X6_addItem T (nI c) = some (false, T)) ∧ f_X6_addItem T (nI 115) = f_X6_addStrip T (nI v) (T.2 7 1) (T.2 7 2) := by
  have hc0 : f_X7_cell 3 (T.2 7) (0 : Int32) = some (nI v) := (f_X7_cell_at (n := 3) (by decide) (T.2 7) (j := 0) (by decide)).trans (by rw [h0])
  have hc1 : f_X7_cell 3 (T.2 7) (1 : Int32) = some (T.2 7 1) := f_X7_cell_at (n := 3) (by decide) (T.2 7) (j := 1) (by decide)
  have hc2 : f_X7_cell 3 (T.2 7) (2 : Int32) = some (T.2 7 2) := f_X7_cell_at (n := 3) (by decide) (T.2 7) (j := 2) (by decide)
  have hid : ∀ x : Option (Bool × Ob), (x.bind fun q7 : Bool × Ob => some (q7.1, q7.2)) = x := fun x => by cases x <;> rfl
  unfold f_X6_addItem
  rw [hc0, Option.bind_some, Option.bind_some, Option.bind_some, Option.bind_some, Option.bind_some, hc1, Option.bind_some, hc2, Option.bind_some]
  refine ⟨?_, ?_, ?_, ?_, fun c hc n1 n2 n3 n4 n5 => ?_, ?_⟩
  · rw [if_neg (show ¬ nI 117 = 100 by decide), if_neg (show ¬ nI 117 = 108 by decide), if_neg (show ¬ nI 117 = 112 by decide), if_neg (show ¬ nI 117 = 115 by decide), if_pos (show nI 117 = 117 from rfl), hid]; rfl
  · rw [if_neg (show ¬ nI 108 = 100 by decide), if_pos (show nI 108 = 108 from rfl), hid]; rfl
  · rw [if_neg (show ¬ nI 112 = 100 by decide), if_neg (show ¬ nI 112 = 108 by decide), if_pos (show nI 112 = 112 from rfl), hid]
  · rw [if_pos (show nI 100 = 100 from rfl), hid]
  · have ne : ∀ d, d < 2 ^ 31 → c ≠ d → ¬ nI c = nI d := fun d hd hcd e => hcd ((nI_eq hc hd).mp e)
    rw [Option.bind_some, if_neg (show ¬ nI c = 100 from ne 100 (by omega) n4), if_neg (show ¬ nI c = 108 from ne 108 (by omega) n2), if_neg (show ¬ nI c = 112 from ne 112 (by omega) n3), if_neg (show ¬ nI c = 115 from ne 115 (by omega) n5), if_neg (show ¬ nI c = 117 from ne 117 (by omega) n1)]
  · rw [if_neg (show ¬ nI 115 = 100 by decide), if_neg (show ¬ nI 115 = 108 by decide), if_neg (show ¬ nI 115 = 112 by decide), if_pos (show nI 115 = 115 from rfl), hid]
theorem X8_item_eq (o : Ob) : f_X8_item o (nI 117) = f_X8_landItem o (nI 0) ∧ f_X8_item o (nI 108) = f_X8_landItem o (nI 1) ∧ f_X8_item o (nI 115) = f_X8_stripItem o ∧ f_X8_item o (nI 112) = (if o.1 14 = (4 : Int32) then f_X8_item_61 o true else f_X8_item_61 o false) ∧ f_X8_item o (nI 100) = (if o.1 16 = (8 : Int32) then f_X8_item_149 o true else f_X8_item_149 o false) ∧ ∀ c, c < 2 ^ 31 → c ≠ 117 → c ≠ 108 → c ≠ 112 → c ≠ 100 → c ≠ 115 → f_X8_item o (nI c) = some (stF o 25 (nI 1)) := by
  unfold f_X8_item
  refine ⟨?_, ?_, ?_, ?_, ?_, fun c hc n1 n2 n3 n4 n5 => ?_⟩
  · rw [if_pos (show nI 117 = 117 from rfl), bnd_id]; rfl
  · rw [if_neg (show ¬ nI 108 = 117 by decide), if_pos (show nI 108 = 108 from rfl), bnd_id]; rfl
  · rw [if_neg (show ¬ nI 115 = 117 by decide), if_neg (show ¬ nI 115 = 108 by decide), if_pos (show nI 115 = 115 from rfl), bnd_id]
  · rw [if_neg (show ¬ nI 112 = 117 by decide), if_neg (show ¬ nI 112 = 108 by decide), if_neg (show ¬ nI 112 = 115 by decide), if_pos (show nI 112 = 112 from rfl)]
  · rw [if_neg (show ¬ nI 100 = 117 by decide), if_neg (show ¬ nI 100 = 108 by decide), if_neg (show ¬ nI 100 = 115 by decide), if_neg (show ¬ nI 100 = 112 by decide), if_pos (show nI 100 = 100 from rfl)]
  · have ne : ∀ d, d < 2 ^ 31 → c ≠ d → ¬ nI c = nI d := fun d hd hcd e => hcd ((nI_eq hc hd).mp e)
    rw [if_neg (show ¬ nI c = 117 from ne 117 (by omega) n1), if_neg (show ¬ nI c = 108 from ne 108 (by omega) n2), if_neg (show ¬ nI c = 115 from ne 115 (by omega) n5), if_neg (show ¬ nI c = 112 from ne 112 (by omega) n3), if_neg (show ¬ nI c = 100 from ne 100 (by omega) n4)]
    rfl
theorem item_both {T Te M : Ob} {n p S U L N D : Nat} (h : TX Te M n) (hp : p < n) (h2 : M.1 23 = nI p) (h25 : M.1 25 = nI 0) (hD : DR T M S U L N D) (kL : Ob → Option (Bool × Ob)) : BAD T Te M n p kL ∨ GOOD T Te M n p kL := by
  have hn := h.2.2.1
  have hl := lt_le h p
  have hv := vl_le h (p + 1)
  have hDD := hD
  obtain ⟨⟨hS, hN, hD', hU, hL, lS, lN, lD, lU, lL, tI, tX, tK, tO, tG, tP, tW⟩, h11, h14, h16, h90, h91, h10, h12, h15, h17, h18⟩ := hD
  obtain ⟨i1, i2, i3, i4, i5, i6⟩ := X8_item_eq (stF (stF M 23 (nI (p + 1))) 24 (nI p))
  have hadd := X7_addItem (T := stR T 7 (upd (T.2 7) 0 (nI (vl Te n (p + 1))))) (v := vl Te n (p + 1)) (by rw [st4s, pk_us])
  have hTT : ∀ g, DR (stR T 7 g) M S U L N D := fun g => hDD
  by_cases c117 : lt Te n p = 117
  · have H8 := X8_landItem (o := stF (stF M 23 (nI (p + 1))) 24 (nI p)) h (show p + 1 < 800 by omega) h.2.1 rfl rfl (l := 0) (by omega) lU h90
    rw [← i1, ← c117] at H8
    have hao := X7_addOne (T := stR T 7 (upd (T.2 7) 0 (nI (vl Te n (p + 1))))) (l := 0) (v := vl Te n (p + 1)) (by omega) lU hU hv
    rw [← hadd.1, ← c117] at hao
    refine item1 (S := S) (U := U + 1) (L := L) (N := N) (D := D) (lo := 0) (hi := 60) h hp h2 (by omega) kL (U < 6) rfl rfl rfl ((FM.num _ _ _ _).trans ((FM.r _ (by omega) _).trans (FM.r _ (by omega) _))) H8 (fun a b c => ⟨hao.1 ⟨a, c⟩, ?_⟩) (fun z => ⟨_, hao.2 (fun y => z ⟨y.1, by omega, y.2⟩)⟩)
    exact (hTT _).land (l := 0) (by omega) a c
  by_cases c108 : lt Te n p = 108
  · have H8 := X8_landItem (o := stF (stF M 23 (nI (p + 1))) 24 (nI p)) h (show p + 1 < 800 by omega) h.2.1 rfl rfl (l := 1) (by omega) lL h91
    rw [← i2, ← c108] at H8
    have hao := X7_addOne (T := stR T 7 (upd (T.2 7) 0 (nI (vl Te n (p + 1))))) (l := 1) (v := vl Te n (p + 1)) (by omega) lL hL hv
    rw [← hadd.2.1, ← c108] at hao
    refine item1 (S := S) (U := U) (L := L + 1) (N := N) (D := D) (lo := 0) (hi := 60) h hp h2 (by omega) kL (L < 6) rfl rfl rfl ((FM.num _ _ _ _).trans ((FM.r _ (by omega) _).trans (FM.r _ (by omega) _))) H8 (fun a b c => ⟨hao.1 ⟨a, c⟩, ?_⟩) (fun z => ⟨_, hao.2 (fun y => z ⟨y.1, by omega, y.2⟩)⟩)
    exact (hTT _).land (l := 1) (by omega) a c
  by_cases c112 : lt Te n p = 112
  · have H8 := X8_pushItem (o := stF (stF M 23 (nI (p + 1))) 24 (nI p)) h (show p + 1 < 800 by omega) h.2.1 rfl rfl lN h14
    rw [← i4, ← c112] at H8
    have hao : (N < 4 ∧ 1 ≤ vl Te n (p + 1) ∧ vl Te n (p + 1) ≤ 20 → f_X6_addItem (stR T 7 (upd (T.2 7) 0 (nI (vl Te n (p + 1))))) (nI (lt Te n p)) = some (true, stR (stF (stR T 7 (upd (T.2 7) 0 (nI (vl Te n (p + 1))))) 9 (nI (N + 1))) 5 (upd (T.2 5) N (nI (vl Te n (p + 1)))))) ∧ (¬ (N < 4 ∧ 1 ≤ vl Te n (p + 1) ∧ vl Te n (p + 1) ≤ 20) → f_X6_addItem (stR T 7 (upd (T.2 7) 0 (nI (vl Te n (p + 1))))) (nI (lt Te n p)) = some (false, stR T 7 (upd (T.2 7) 0 (nI (vl Te n (p + 1)))))) := by
      rw [c112, hadd.2.2.1]
      unfold f_X6_addPush
      have hN9 : (stR T 7 (upd (T.2 7) 0 (nI (vl Te n (p + 1))))).1 9 = nI N := hN
      have hwi : f_X7_within (nI (vl Te n (p + 1))) 1 20 = decide (1 ≤ vl Te n (p + 1) ∧ vl Te n (p + 1) ≤ 20) := by
        rw [Bool.eq_iff_iff, wi_iff, decide_eq_true_eq, nI_toInt (by omega), show (1 : Int32).toInt = 1 by decide +kernel, show (20 : Int32).toInt = 20 by decide +kernel]
        omega
      rw [hN9, hwi]
      constructor
      · intro ⟨a, b⟩
        rw [if_neg (show ¬ (4 : Int32) ≤ nI N from nI_ge (b := 4) a (by omega)), decide_eq_true b, bnd_def, if_neg (show ¬ b2i true = 0 by decide), f_X7_setCell_at (by decide) _ (by omega), Option.bind_some, bnd_def, nI_1]
        rfl
      · intro z
        by_cases hN4 : N < 4
        · rw [if_neg (show ¬ (4 : Int32) ≤ nI N from nI_ge (b := 4) hN4 (by omega)), decide_eq_false (fun y => z ⟨hN4, y⟩), bnd_def, if_pos (show b2i false = 0 by decide)]
        · rw [if_pos (show (4 : Int32) ≤ nI N from nI_le (a := 4) (by omega) (by omega))]
    refine item1 (S := S) (U := U) (L := L) (N := N + 1) (D := D) (lo := 1) (hi := 20) h hp h2 (by omega) kL (N < 4) rfl rfl rfl ((FM.num _ _ _ _).trans ((FM.f _ (k := 14) (by omega) _).trans (FM.r _ (by omega) _))) H8 (fun a b c => ⟨hao.1 ⟨a, b, c⟩, ?_⟩) (fun z => ⟨_, hao.2 z⟩)
    exact (hTT _).push a b c
  by_cases c100 : lt Te n p = 100
  · have H8 := X8_dampItem (o := stF (stF M 23 (nI (p + 1))) 24 (nI p)) h (show p + 1 < 800 by omega) h.2.1 rfl rfl lD h16
    rw [← i5, ← c100] at H8
    have hao : (D < 8 ∧ vl Te n (p + 1) ≤ 3 → f_X6_addItem (stR T 7 (upd (T.2 7) 0 (nI (vl Te n (p + 1))))) (nI (lt Te n p)) = some (true, stR (stF (stR T 7 (upd (T.2 7) 0 (nI (vl Te n (p + 1))))) 10 (nI (D + 1))) 6 (upd (T.2 6) D (nI (vl Te n (p + 1)))))) ∧ (¬ (D < 8 ∧ vl Te n (p + 1) ≤ 3) → f_X6_addItem (stR T 7 (upd (T.2 7) 0 (nI (vl Te n (p + 1))))) (nI (lt Te n p)) = some (false, stR T 7 (upd (T.2 7) 0 (nI (vl Te n (p + 1)))))) := by
      rw [c100, hadd.2.2.2.1]
      unfold f_X6_addDamp
      have hN9 : (stR T 7 (upd (T.2 7) 0 (nI (vl Te n (p + 1))))).1 10 = nI D := hD'
      rw [hN9]
      constructor
      · intro ⟨a, b⟩
        rw [if_neg (show ¬ (8 : Int32) ≤ nI D from nI_ge (b := 8) a (by omega)), if_pos (show nI (vl Te n (p + 1)) ≤ 3 from nI_le (b := 3) b (by omega)), f_X7_setCell_at (by decide) _ (by omega), Option.bind_some, bnd_def, nI_1]
        rfl
      · intro z
        by_cases hN4 : D < 8
        · rw [if_neg (show ¬ (8 : Int32) ≤ nI D from nI_ge (b := 8) hN4 (by omega)), if_neg (show ¬ nI (vl Te n (p + 1)) ≤ 3 from nI_ge (a := 3) (by omega) (by omega))]
        · rw [if_pos (show (8 : Int32) ≤ nI D from nI_le (a := 8) (by omega) (by omega))]
    refine item1 (S := S) (U := U) (L := L) (N := N) (D := D + 1) (lo := 0) (hi := 3) h hp h2 (by omega) kL (D < 8) rfl rfl rfl ((FM.num _ _ _ _).trans ((FM.f _ (k := 16) (by omega) _).trans (FM.r _ (by omega) _))) H8 (fun a b c => ⟨hao.1 ⟨a, c⟩, ?_⟩) (fun z => ⟨_, hao.2 (fun y => z ⟨y.1, by omega, y.2⟩)⟩)
    exact (hTT _).damp a c
  by_cases c115 : lt Te n p = 115
  · -- one of the strip
    have H8 := X8_stripItem (o := stF (stF M 23 (nI (p + 1))) 24 (nI p)) h (show p + 1 < 600 by omega) h.2.1 rfl rfl lS h11
    rw [← i3, ← c115] at H8
    have hFM : FM M (stF (stF M 23 (nI (p + 1))) 24 (nI p)) := (FM.f23 M _).trans (FM.f24 _ _)
    have f1 := nf_le Te n (p + 1)
    rcases X7_end3 h (show p < 700 by omega) c115 T with ⟨k2, k3, e2, e3, b1, b2, b3, b4⟩ | ⟨b1, f, b2⟩
    · have f2 := nf_le Te n k2
      have f3 := nf_le Te n k3
      have v2 := vl_le h k2
      have v3 := vl_le h k3
      obtain ⟨-, -, -, -, -, hst⟩ := X7_addItem (T := stR T 7 (upd (upd (upd (T.2 7) 0 (nI (vl Te n (p + 1)))) 1 (nI (vl Te n k2))) 2 (nI (vl Te n k3)))) (v := vl Te n (p + 1)) (by rw [st4s, pk_un (by omega), pk_un (by omega), pk_us])
      have r1 : (stR T 7 (upd (upd (upd (T.2 7) 0 (nI (vl Te n (p + 1)))) 1 (nI (vl Te n k2))) 2 (nI (vl Te n k3)))).2 7 1 = nI (vl Te n k2) := by rw [st4s, pk_un (by omega), pk_us]
      have r2 : (stR T 7 (upd (upd (upd (T.2 7) 0 (nI (vl Te n (p + 1)))) 1 (nI (vl Te n k2))) 2 (nI (vl Te n k3)))).2 7 2 = nI (vl Te n k3) := by rw [st4s, pk_us]
      rw [r1, r2, ← c115] at hst
      have hao : (S < 7 ∧ vl Te n (p + 1) ≤ 3 ∧ vl Te n k2 ≤ 60 ∧ vl Te n k3 ≤ 99 → f_X6_addItem (stR T 7 (upd (upd (upd (T.2 7) 0 (nI (vl Te n (p + 1)))) 1 (nI (vl Te n k2))) 2 (nI (vl Te n k3)))) (nI (lt Te n p)) = some (true, stR (stR (stR (stF (stR T 7 (upd (upd (upd (T.2 7) 0 (nI (vl Te n (p + 1)))) 1 (nI (vl Te n k2))) 2 (nI (vl Te n k3)))) 8 (nI (S + 1))) 2 (upd (T.2 2) S (nI (vl Te n (p + 1))))) 3 (upd (T.2 3) S (nI (vl Te n k2)))) 4 (upd (T.2 4) S (nI (vl Te n k3))))) ∧ (¬ (S < 7 ∧ vl Te n (p + 1) ≤ 3 ∧ vl Te n k2 ≤ 60 ∧ vl Te n k3 ≤ 99) → ∃ o'', f_X6_addItem (stR T 7 (upd (upd (upd (T.2 7) 0 (nI (vl Te n (p + 1)))) 1 (nI (vl Te n k2))) 2 (nI (vl Te n k3)))) (nI (lt Te n p)) = some (false, o'')) := by
        rw [hst]
        generalize hTg : stR T 7 (upd (upd (upd (T.2 7) 0 (nI (vl Te n (p + 1)))) 1 (nI (vl Te n k2))) 2 (nI (vl Te n k3))) = Tg
        have g8 : Tg.1 8 = nI S := by rw [← hTg]; exact hS
        have gr : Tg.2 2 = T.2 2 ∧ Tg.2 3 = T.2 3 ∧ Tg.2 4 = T.2 4 := by rw [← hTg]; exact ⟨rfl, rfl, rfl⟩
        unfold f_X6_addStrip
        rw [g8]
        constructor
        · intro ⟨a, b, c, d⟩
          rw [if_neg (show ¬ (7 : Int32) ≤ nI S from nI_ge (b := 7) a (by omega)), if_neg (show ¬ (3 : Int32) < nI (vl Te n (p + 1)) from nI_nlt (a := 3) b (by omega)), if_neg (show ¬ (60 : Int32) < nI (vl Te n k2) from nI_nlt (a := 60) c (by omega)), if_pos (show nI (vl Te n k3) ≤ 99 from nI_le (b := 99) d (by omega)), f_X7_setCell_at (by decide) _ a, Option.bind_some, f_X7_setCell_at (by decide) _ a, Option.bind_some, f_X7_setCell_at (by decide) _ a, Option.bind_some, bnd_def, nI_1, gr.1, gr.2.1, gr.2.2]
        · intro z
          by_cases z1 : S < 7
          · rw [if_neg (show ¬ (7 : Int32) ≤ nI S from nI_ge (b := 7) z1 (by omega))]
            by_cases z2 : vl Te n (p + 1) ≤ 3
            · rw [if_neg (show ¬ (3 : Int32) < nI (vl Te n (p + 1)) from nI_nlt (a := 3) z2 (by omega))]
              by_cases z3 : vl Te n k2 ≤ 60
              · rw [if_neg (show ¬ (60 : Int32) < nI (vl Te n k2) from nI_nlt (a := 60) z3 (by omega)), if_neg (show ¬ nI (vl Te n k3) ≤ 99 from nI_ge (a := 99) (by omega) (by omega))]
                exact ⟨_, rfl⟩
              · rw [if_pos (show (60 : Int32) < nI (vl Te n k2) from nI_lt (a := 60) (by omega) (by omega))]
                exact ⟨_, rfl⟩
            · rw [if_pos (show (3 : Int32) < nI (vl Te n (p + 1)) from nI_lt (a := 3) (by omega) (by omega))]
              exact ⟨_, rfl⟩
          · rw [if_pos (show (7 : Int32) ≤ nI S from nI_le (a := 7) (by omega) (by omega))]
            exact ⟨_, rfl⟩
      by_cases hc : S < 7 ∧ vl Te n (p + 1) ≤ 3 ∧ vl Te n k2 ≤ 60 ∧ vl Te n k3 ≤ 99
      · right
        have hk1 : nok Te n (p + 1) 0 3 = true := by unfold nok; rw [decide_eq_true_eq]; exact ⟨b1.1, by omega, hc.2.1⟩
        have hk2 : nok Te n k2 0 60 = true := by unfold nok; rw [decide_eq_true_eq]; exact ⟨b2.1, by omega, hc.2.2.1⟩
        have hk3 : nok Te n k3 0 99 = true := by unfold nok; rw [decide_eq_true_eq]; exact ⟨b3.1, by omega, hc.2.2.2⟩
        rcases H8 with ⟨k2', k3', e2', e3', hh, o', q1, q2, q3, q4, q5, q6, q7, q8, q9, hG⟩ | ⟨hh, -⟩
        · have ek2 : k2' = k2 := by omega
          subst ek2
          have ek3 : k3' = k3 := by omega
          subst ek3
          have hE := E8_at h hp (show k3' + nf Te n k3' < 1000 by omega) h2 kL hG q2 q1 (q5.trans (((FM.f _ (k := 11) (by omega) _).trans (FM.r _ (by omega) _)).trans ((FM.r _ (by omega) _).trans (FM.s _ (fun j hj => (pk_un (by omega)).trans (by rw [show (stR (stR (stF o' 11 (nI (S + 1))) 12 _) 13 _).2 18 = o'.2 18 from rfl, q9]))))))
          rw [if_pos b3.2] at hE
          have hkn : k3' + nf Te n k3' < n := by
            rcases Nat.lt_or_ge (k3' + nf Te n k3') n with z | z
            · exact z
            · have := b3.2; rw [lt_out (Nat.not_lt.mpr z)] at this; omega
          have hDo : DR T o' S U L N D := by
            have q9' : o'.2 = M.2 := q9
            refine ⟨⟨hS, hN, hD', hU, hL, lS, lN, lD, lU, lL, tI, tX, tK, tO, tG, tP, tW⟩, q6, q7.trans h14, q8.trans h16, ?_, ?_, ?_, ?_, ?_, ?_, ?_⟩
            · rw [q9']; exact h90
            · rw [q9']; exact h91
            · rw [q9']; exact h10
            · rw [q9']; exact h12
            · rw [q9']; exact h15
            · rw [q9']; exact h17
            · rw [q9']; exact h18
          have hDR := DR.strip (T := stR T 7 (upd (upd (upd (T.2 7) 0 (nI (vl Te n (p + 1)))) 1 (nI (vl Te n k2'))) 2 (nI (vl Te n k3')))) hDo hc.1 hc.2.1 hc.2.2.1 hc.2.2.2
          have q9' : o'.2 = M.2 := q9
          rw [q9'] at hDR
          refine ⟨_, _, _, _, S + 1, U, L, N, D, b4, hao.1 hc, hE, rfl, rfl, ?_, hDR, by omega, by omega⟩
          refine (hFM.trans (q5.trans (((FM.f _ (k := 11) (by omega) _).trans (FM.r _ (by omega) _)).trans ((FM.r _ (by omega) _).trans (FM.s _ (fun j hj => (pk_un (by omega)).trans (by rw [show (stR (stR (stF o' 11 (nI (S + 1))) 12 _) 13 _).2 18 = o'.2 18 from rfl, q9]))))))).trans ((FM.f23 _ _).trans (FM.f25 _ _))
        · exact absurd ⟨hc.1, hk1, b1.2, hk2, b2.2, hk3⟩ (hh k2 k3 e2 e3)
      · left
        obtain ⟨o'', t1⟩ := hao.2 hc
        refine ⟨Or.inr ⟨_, o'', _, by omega, b4, t1⟩, ?_⟩
        rcases H8 with ⟨k2', k3', e2', e3', hh, -⟩ | ⟨-, hw⟩
        · exfalso
          have ek2 : k2' = k2 := by omega
          subst ek2
          have ek3 : k3' = k3 := by omega
          subst ek3
          obtain ⟨g1, g2, g3, g4, g5, g6⟩ := hh
          unfold nok at g2 g4 g6
          rw [decide_eq_true_eq] at g2 g4 g6
          exact hc ⟨g1, g2.2.2, g4.2.2, g6.2.2⟩
        · exact E8_bad h hp h2 kL hw
    · left
      refine ⟨Or.inl ⟨f, b2⟩, ?_⟩
      rcases H8 with ⟨k2', k3', e2', e3', hh, o', q1, q2, q3, q4, q5, q6, q7, q8, q9, hG⟩ | ⟨-, hw⟩
      · have f2 := nf_le Te n k2'
        have f3 := nf_le Te n k3'
        have hGF : FM (stF (stF M 23 (nI (p + 1))) 24 (nI p)) (stR (stR (stR (stF o' 11 (nI (S + 1))) 12 (upd ((stF (stF M 23 (nI (p + 1))) 24 (nI p)).2 12) S (nI (vl Te n (p + 1))))) 13 (upd ((stF (stF M 23 (nI (p + 1))) 24 (nI p)).2 13) S (nI (vl Te n k2')))) 18 (upd ((stF (stF M 23 (nI (p + 1))) 24 (nI p)).2 18) (290 + S) (nI (vl Te n k3')))) := q5.trans (((FM.f _ (k := 11) (by omega) _).trans (FM.r _ (by omega) _)).trans ((FM.r _ (by omega) _).trans (FM.s _ (fun j hj => (pk_un (by have := hh.1; omega)).trans (by rw [show (stR (stR (stF o' 11 (nI (S + 1))) 12 _) 13 _).2 18 = o'.2 18 from rfl, q9])))))
        have hE := E8_at h hp (show k3' + nf Te n k3' < 1000 by omega) h2 kL hG q2 q1 hGF
        have hlt : ¬ lt Te n (k3' + nf Te n k3') = 59 := fun z => by
          obtain ⟨g1, g2, g3, g4, g5, g6⟩ := hh
          unfold nok at g2 g4 g6
          rw [decide_eq_true_eq] at g2 g4 g6
          exact b1 k2' k3' e2' e3' ⟨⟨g2.1, g3⟩, ⟨g4.1, g5⟩, ⟨g6.1, z⟩⟩
        rw [if_neg hlt] at hE
        exact ⟨_, hE, rfl, q3, (hFM.trans hGF).trans ((FM.f23 _ _).trans (FM.f25 _ _))⟩
      · exact E8_bad h hp h2 kL hw
  -- no such letter
  · left
    have hw : WRONG (stF (stF M 23 (nI (p + 1))) 24 (nI p)) (f_X8_item (stF (stF M 23 (nI (p + 1))) 24 (nI p)) (nI (lt Te n p))) := ⟨_, i6 _ (by omega) c117 c108 c112 c100 c115, rfl, FM.f25 _ _, rfl⟩
    refine ⟨?_, E8_bad h hp h2 kL hw⟩
    have f1 := nf_le Te n (p + 1)
    rcases X7_end1 h (show p < 700 by omega) c115 T with ⟨b1, b2⟩ | ⟨b1, f, b2⟩
    · exact Or.inr ⟨_, _, _, by omega, b2, hadd.2.2.2.2.1 _ (by omega) c117 c108 c112 c100 c115⟩
    · exact Or.inl ⟨f, b2⟩
