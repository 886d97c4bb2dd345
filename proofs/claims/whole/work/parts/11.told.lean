def f_X0_add (o0 : Ob) (v1 : Int32) (v2 : Int32) : Option (Bool × Ob) := if (o0.1 2) < (6 : Int32) then ((f_X7_setCell 6 (o0.2 0) (o0.1 2) v1).bind fun q2 : (Nat → Int32) => (f_X7_setCell 6 (o0.2 1) (o0.1 2) v2).bind fun q3 : (Nat → Int32) => bnd ((o0.1 2) + (1 : Int32)) fun x4 : Int32 => some (true, (stR (stR (stF o0 2 x4) 0 q2) 1 q3))) else (some (false, o0))
abbrev rmX0_add : Room := { frames := 1, cells := 0, slots := 0, locals := 22 }
theorem dsc_X0_add : yX0_add.cls ≠ "java/lang/invoke/MethodHandle" ∧ yX0_add.cls ≠ "java/lang/invoke/VarHandle" ∧ (parseMethodDescriptor yX0_add.desc).map (fun d => d.parameters.length) = some 2 := by decide +kernel
set_option maxHeartbeats 4000000 in
set_option maxRecDepth 100000 in
theorem c_X0_add (l : Launch) (dC : Nat → ClassId) (dI : Nat → Nat → Nat) (cB cI cZ cO : ClassId) (a0 : Nat) (g0 : Nat → Nat) (o0 : Ob) (v1 : Int32) (v2 : Int32) {r : Bool × Ob} (h : f_X0_add o0 v1 v2 = some r) : Ct dC dI cB cI cZ cO l yX0_add wsX0_add rmX0_add [.ref a0, .int v1, .int v2] ([cX0 a0 g0 o0, cX0_0 cI g0 o0, cX0_1 cI g0 o0]) (some (.int (b2i r.1))) ([cX0 a0 g0 r.2, cX0_0 cI g0 r.2, cX0_1 cI g0 r.2]) := by
  intro sz
  refine Met.ofW (cc := cX0_add) (maxL := 3) (ret := (some .boolean)) (by decide) rfl ?_
  intro p e s m args below meth c s₁ B hml hv
  obtain ⟨rfl, hsz, hP, hKK, hD0⟩ := hv
  have hx := B.exec
  have hb := B.bytes
  have hr := B.returns
  have hts := atoms_spec (ws := wsX0_add) B.pre
  have hown : s.vm.findClass RX0 = some m.cls := findClass_of_methodNamed B.named
  have hlocks := B.notSynchronized
  have hiX0 : ∀ w ∈ u_ws RX0 TX0 3, w ∈ wsX0_add := fun w h => List.mem_cons_of_mem _ (List.mem_append_right _ h)
  subst hsz
  have hD := hD0.self (sz := s.heap.size)
  generalize hAe : va_A ([cX0 a0 g0 o0, cX0_0 cI g0 o0, cX0_1 cI g0 o0]) s.heap.size = A at hD ⊢
  have hA : ∀ q : Nat, s.heap.size ≤ q → A q := fun q h => by rw [← hAe]; exact Or.inr h
  have hS : va_S A s.heap s.heap [] := va_S.rf
  have hP : va_P (dC, dI) vwCl ([cX0 a0 g0 o0, cX0_0 cI g0 o0, cX0_1 cI g0 o0]) s.heap := hP
  have hD : va_D A ([cX0 a0 g0 o0, cX0_0 cI g0 o0, cX0_1 cI g0 o0]) := hD
  have hl := lv_entry ([.ref a0, .int v1, .int v2]) (n := 3) (Nat.le_of_ble_eq_true rfl)
  rw [lg_entry_eq]
  generalize (lg_sl ([.ref a0, .int v1, .int v2]) ++ List.replicate (3 - (lg_sl ([.ref a0, .int v1, .int v2])).length) Slot.unset).toArray = ls at hl ⊢
  have hl : lv_has ls 3 [(0, .ref a0), (1, .int v1), (2, .int v2)] := hl
  obtain ⟨Q, hQ⟩ : ∃ Q, Q = MQ below (Qq dC dI (some (.int (b2i r.1))) ([cX0 a0 g0 r.2, cX0_0 cI g0 r.2, cX0_1 cI g0 r.2]) A) ([.ref a0, .int v1, .int v2] : List Value).toArray s 0 0 A := ⟨_, rfl⟩
  rw [← hQ]
  rw [f_X0_add] at h
  clear hAe hD0
  refine lv_aload_n hx hb dX0_add_0 rfl (lv_at hl 0 rfl) ?_
  refine va_get (D := (dC, dI)) (ci := 0) (v := .int (o0.1 2)) (C := RX0) (T := TX0) (N := 3) hx hb hts hiX0 hown hKK.1 hP 0 rfl rfl 2 (by decide) (hts (.fieldLink RX0 18 "SlideLand$Asked" "size" "I") (List.mem_of_getElem? (i := 1) rfl)) (fun _ h9 => h9) rfl dX0_add_1 ?_
  refine lv_bipush (v := (6 : Int32)) hx hb dX0_add_4 (by decide) ?_
  refine lv_icmp_lt (tgt := 11) hx hb dX0_add_6 (by decide) (fun k1 => ?_) (fun k1 => ?_)
  · have h := ite_t k1 h
    refine lv_aload_n hx hb dX0_add_11 rfl (lv_at hl 0 rfl) ?_
    refine va_get (D := (dC, dI)) (ci := 0) (v := .ref (g0 0)) (C := RX0) (T := TX0) (N := 3) hx hb hts hiX0 hown hKK.1 hP 0 rfl rfl 0 (by decide) (hts (.fieldLink RX0 9 "SlideLand$Asked" "strip" "[I") (List.mem_of_getElem? (i := 2) rfl)) (fun _ h9 => h9) rfl dX0_add_12 ?_
    refine lv_aload_n hx hb dX0_add_15 rfl (lv_at hl 0 rfl) ?_
    refine va_get (D := (dC, dI)) (ci := 0) (v := .int (o0.1 2)) (C := RX0) (T := TX0) (N := 3) hx hb hts hiX0 hown hKK.1 hP 0 rfl rfl 2 (by decide) (hts (.fieldLink RX0 18 "SlideLand$Asked" "size" "I") (List.mem_of_getElem? (i := 1) rfl)) (fun _ h9 => h9) rfl dX0_add_16 ?_
    refine lv_iload_n hx hb dX0_add_19 rfl (lv_at hl 1 rfl) ?_
    obtain ⟨q2, hq2, h⟩ := obd_e h
    refine kcN (rest := []) (w2 := ([cX0 a0 g0 (stR o0 0 q2), cX0_0 cI g0 (stR o0 0 q2), cX0_1 cI g0 (stR o0 0 q2)])) hx hb hml hown hts hKK hP hD hS hA (c_X7_setCell l dC dI cB cI cZ cO (g0 0) 6 (o0.2 0) (o0.1 2) v1 hq2) [1] (atAll_map ⟨rfl, trivial⟩) (by decide +kernel) (sameAd_map ⟨rfl, trivial⟩) (atAll_map ⟨rfl, trivial⟩) ⟨Or.inl rfl, Or.inr (by decide), Or.inl rfl, trivial⟩ ⟨va_cnB 3 hts gX0_add_X7_setCell_n22 rfl rfl rfl (hKK.2 _ (nws_in 13 rfl)) (hts (.initialized RX7) (List.mem_of_getElem? (i := 5) rfl)) dsc_X7_setCell ⟨Nat.le_of_ble_eq_true rfl, Nat.le_of_ble_eq_true rfl⟩, hts (.static yX7_setCell) (List.mem_of_getElem? (i := 4) rfl), trivial⟩ rfl hl.1 rfl (Nat.le_of_ble_eq_true rfl) dX0_add_20 ⟨Nat.zero_le _, Nat.zero_le _⟩ (fun H locs hP hD hS => ?_)
    refine lv_aload_n hx hb dX0_add_23 rfl (lv_at hl 0 rfl) ?_
    refine va_get (D := (dC, dI)) (ci := 0) (v := .ref (g0 1)) (C := RX0) (T := TX0) (N := 3) hx hb hts hiX0 hown hKK.1 hP 0 rfl rfl 1 (by decide) (hts (.fieldLink RX0 15 "SlideLand$Asked" "one" "[I") (List.mem_of_getElem? (i := 3) rfl)) (fun _ h9 => h9) rfl dX0_add_24 ?_
    refine lv_aload_n hx hb dX0_add_27 rfl (lv_at hl 0 rfl) ?_
    refine va_get (D := (dC, dI)) (ci := 0) (v := .int (o0.1 2)) (C := RX0) (T := TX0) (N := 3) hx hb hts hiX0 hown hKK.1 hP 0 rfl rfl 2 (by decide) (hts (.fieldLink RX0 18 "SlideLand$Asked" "size" "I") (List.mem_of_getElem? (i := 1) rfl)) (fun _ h9 => h9) rfl dX0_add_28 ?_
    refine lv_iload_n hx hb dX0_add_31 rfl (lv_at hl 2 rfl) ?_
    obtain ⟨q3, hq3, h⟩ := obd_e h
    refine kcN (rest := []) (w2 := ([cX0 a0 g0 (stR (stR o0 0 q2) 1 q3), cX0_0 cI g0 (stR (stR o0 0 q2) 1 q3), cX0_1 cI g0 (stR (stR o0 0 q2) 1 q3)])) hx hb hml hown hts hKK hP hD hS hA (c_X7_setCell l dC dI cB cI cZ cO (g0 1) 6 (o0.2 1) (o0.1 2) v2 hq3) [2] (atAll_map ⟨rfl, trivial⟩) (by decide +kernel) (sameAd_map ⟨rfl, trivial⟩) (atAll_map ⟨rfl, trivial⟩) ⟨Or.inl rfl, Or.inl rfl, Or.inr (by decide), trivial⟩ ⟨va_cnB 3 hts gX0_add_X7_setCell_n22 rfl rfl rfl (hKK.2 _ (nws_in 13 rfl)) (hts (.initialized RX7) (List.mem_of_getElem? (i := 5) rfl)) dsc_X7_setCell ⟨Nat.le_of_ble_eq_true rfl, Nat.le_of_ble_eq_true rfl⟩, hts (.static yX7_setCell) (List.mem_of_getElem? (i := 4) rfl), trivial⟩ rfl hl.1 rfl (Nat.le_of_ble_eq_true rfl) dX0_add_32 ⟨Nat.zero_le _, Nat.zero_le _⟩ (fun H locs hP hD hS => ?_)
    refine lv_aload_n hx hb dX0_add_35 rfl (lv_at hl 0 rfl) ?_
    refine lv_dup hx hb dX0_add_36 rfl ?_
    refine va_get (D := (dC, dI)) (ci := 0) (v := .int (o0.1 2)) (C := RX0) (T := TX0) (N := 3) hx hb hts hiX0 hown hKK.1 hP 0 rfl rfl 2 (by decide) (hts (.fieldLink RX0 18 "SlideLand$Asked" "size" "I") (List.mem_of_getElem? (i := 1) rfl)) (fun _ h9 => h9) rfl dX0_add_37 ?_
    refine lv_iconst (v := (1 : Int32)) hx hb dX0_add_40 (by decide) ?_
    refine lv_iadd hx hb dX0_add_41 ?_
    obtain ⟨x4, hx4, h⟩ := bnd_e h
    rw [hx4]
    refine va_put (D := (dC, dI)) (ci := 0) (v := .int x4) (ty := .int) (C := RX0) (T := TX0) (N := 3) hx hb hts hiX0 tyX0 tyX0_ok nmX0 hown hKK.1 hP hD hS 0 rfl rfl 2 (by decide) (hts (.fieldLink RX0 18 "SlideLand$Asked" "size" "I") (List.mem_of_getElem? (i := 1) rfl)) (fun _ h9 => h9) rfl (by decide +kernel) rfl rfl (Nat.le_of_ble_eq_true rfl) dX0_add_42 (fun H locs hP hD hS => ?_)
    have hP : va_P (dC, dI) vwCl ([cX0 a0 g0 (stR (stR (stF o0 2 x4) 0 q2) 1 q3), cX0_0 cI g0 (stR (stR (stF o0 2 x4) 0 q2) 1 q3), cX0_1 cI g0 (stR (stR (stF o0 2 x4) 0 q2) 1 q3)]) H := hP
    have hD : va_D A ([cX0 a0 g0 (stR (stR (stF o0 2 x4) 0 q2) 1 q3), cX0_0 cI g0 (stR (stR (stF o0 2 x4) 0 q2) 1 q3), cX0_1 cI g0 (stR (stR (stF o0 2 x4) 0 q2) 1 q3)]) := hD
    refine lv_iconst (v := (1 : Int32)) hx hb dX0_add_45 (by decide) ?_
    have h := Option.some.inj h
    subst h
    subst hQ
    exact W.zret (v := (1 : Int32)) hx hb hr rfl (fun t ht hW => ⟨⟨rfl, by rw [ht]; exact hP, hD⟩, hS.F ht⟩) hS.2.2 dX0_add_46
  · have h := ite_f k1 h
    refine lv_iconst (v := (0 : Int32)) hx hb dX0_add_9 (by decide) ?_
    have h := Option.some.inj h
    subst h
    subst hQ
    exact W.zret (v := (0 : Int32)) hx hb hr rfl (fun t ht hW => ⟨⟨rfl, by rw [ht]; exact hP, hD⟩, hS.F ht⟩) hS.2.2 dX0_add_10
def f_X0_holds_36 (x2_3 : Int32) (kL2 : (Int32 → Option (Bool))) : Option (Bool) := bnd (x2_3 + (1 : Int32)) fun x3 : Int32 => kL2 x3
def f_X0_holds_2 (o0 : Ob) (v1 : Int32) (v2 : Int32) : Nat → Int32 → Option (Bool)
  | 0, _ => none
  | nn2+1, x2_3 => if (o0.1 2) ≤ x2_3 then (some false) else ((f_X7_cell 6 (o0.2 0) x2_3).bind fun q2 : Int32 => if q2 = v1 then ((f_X7_cell 6 (o0.2 1) x2_3).bind fun q5 : Int32 => if q5 = v2 then (some true) else (f_X0_holds_36 x2_3 (f_X0_holds_2 o0 v1 v2 nn2))) else (f_X0_holds_36 x2_3 (f_X0_holds_2 o0 v1 v2 nn2)))
def f_X0_holds (o0 : Ob) (v1 : Int32) (v2 : Int32) : Option (Bool) := f_X0_holds_2 o0 v1 v2 FU (0 : Int32)
abbrev rmX0_holds : Room := { frames := 1, cells := 0, slots := 0, locals := 21 }
theorem dsc_X0_holds : yX0_holds.cls ≠ "java/lang/invoke/MethodHandle" ∧ yX0_holds.cls ≠ "java/lang/invoke/VarHandle" ∧ (parseMethodDescriptor yX0_holds.desc).map (fun d => d.parameters.length) = some 2 := by decide +kernel
set_option maxHeartbeats 4000000 in
set_option maxRecDepth 100000 in
theorem c_X0_holds (l : Launch) (dC : Nat → ClassId) (dI : Nat → Nat → Nat) (cB cI cZ cO : ClassId) (a0 : Nat) (g0 : Nat → Nat) (o0 : Ob) (v1 : Int32) (v2 : Int32) {r : Bool} (h : f_X0_holds o0 v1 v2 = some r) : Ct dC dI cB cI cZ cO l yX0_holds wsX0_holds rmX0_holds [.ref a0, .int v1, .int v2] ([cX0 a0 g0 o0, cX0_0 cI g0 o0, cX0_1 cI g0 o0]) (some (.int (b2i r))) ([cX0 a0 g0 o0, cX0_0 cI g0 o0, cX0_1 cI g0 o0]) := by
  intro sz
  refine Met.ofW (cc := cX0_holds) (maxL := 4) (ret := (some .boolean)) (by decide) rfl ?_
  intro p e s m args below meth c s₁ B hml hv
  obtain ⟨rfl, hsz, hP, hKK, hD0⟩ := hv
  have hx := B.exec
  have hb := B.bytes
  have hr := B.returns
  have hts := atoms_spec (ws := wsX0_holds) B.pre
  have hown : s.vm.findClass RX0 = some m.cls := findClass_of_methodNamed B.named
  have hlocks := B.notSynchronized
  have hiX0 : ∀ w ∈ u_ws RX0 TX0 3, w ∈ wsX0_holds := fun w h => List.mem_cons_of_mem _ (List.mem_append_right _ h)
  subst hsz
  have hD := hD0.self (sz := s.heap.size)
  generalize hAe : va_A ([cX0 a0 g0 o0, cX0_0 cI g0 o0, cX0_1 cI g0 o0]) s.heap.size = A at hD ⊢
  have hA : ∀ q : Nat, s.heap.size ≤ q → A q := fun q h => by rw [← hAe]; exact Or.inr h
  have hS : va_S A s.heap s.heap [] := va_S.rf
  have hP : va_P (dC, dI) vwCl ([cX0 a0 g0 o0, cX0_0 cI g0 o0, cX0_1 cI g0 o0]) s.heap := hP
  have hD : va_D A ([cX0 a0 g0 o0, cX0_0 cI g0 o0, cX0_1 cI g0 o0]) := hD
  have hl := lv_entry ([.ref a0, .int v1, .int v2]) (n := 4) (Nat.le_of_ble_eq_true rfl)
  rw [lg_entry_eq]
  generalize (lg_sl ([.ref a0, .int v1, .int v2]) ++ List.replicate (4 - (lg_sl ([.ref a0, .int v1, .int v2])).length) Slot.unset).toArray = ls at hl ⊢
  have hl : lv_has ls 4 [(0, .ref a0), (1, .int v1), (2, .int v2)] := hl
  obtain ⟨Q, hQ⟩ : ∃ Q, Q = MQ below (Qq dC dI (some (.int (b2i r))) ([cX0 a0 g0 o0, cX0_0 cI g0 o0, cX0_1 cI g0 o0]) A) ([.ref a0, .int v1, .int v2] : List Value).toArray s 0 0 A := ⟨_, rfl⟩
  rw [← hQ]
  rw [f_X0_holds] at h
  clear hAe hD0
  refine lv_iconst (v := (0 : Int32)) hx hb dX0_holds_0 (by decide) ?_
  refine lv_istore_n (lv' := [(3, .int (0 : Int32)), (0, .ref a0), (1, .int v1), (2, .int v2)]) hx hb dX0_holds_1 rfl hl (by decide) rfl (fun ls hl => ?_)
  have lp2 : ∀ (nn2 : Nat) (x2_3 : Int32), f_X0_holds_2 o0 v1 v2 nn2 x2_3 = some r → ∀ (H : Heap) (locs : List Loc) (ls : Array Slot), va_P (dC, dI) vwCl ([cX0 a0 g0 o0, cX0_0 cI g0 o0, cX0_1 cI g0 o0]) H → va_D A ([cX0 a0 g0 o0, cX0_0 cI g0 o0, cX0_1 cI g0 o0]) → va_S A s.heap H locs → lv_has ls 4 [(0, .ref a0), (1, .int v1), (2, .int v2), (3, .int x2_3)] → W p l e (headSpec wsX0_holds rmX0_holds).room s m ([.ref a0, .int v1, .int v2] : List Value).toArray below meth c H locs 0 0 Q (F0 m 2 ls []) := by
    intro nn2
    induction nn2 with
    | zero => intro x2_3 h; rw [f_X0_holds_2] at h; cases h
    | succ nn2 ih2 =>
      intro x2_3 h H locs ls hP hD hS hl
      rw [f_X0_holds_2] at h
      refine lv_iload_n hx hb dX0_holds_2 rfl (lv_at hl 3 rfl) ?_
      refine lv_aload_n hx hb dX0_holds_3 rfl (lv_at hl 0 rfl) ?_
      refine va_get (D := (dC, dI)) (ci := 0) (v := .int (o0.1 2)) (C := RX0) (T := TX0) (N := 3) hx hb hts hiX0 hown hKK.1 hP 0 rfl rfl 2 (by decide) (hts (.fieldLink RX0 18 "SlideLand$Asked" "size" "I") (List.mem_of_getElem? (i := 1) rfl)) (fun _ h9 => h9) rfl dX0_holds_4 ?_
      refine lv_icmp_ge (tgt := 42) hx hb dX0_holds_7 (by decide) (fun k1 => ?_) (fun k1 => ?_)
      · have h := ite_t k1 h
        refine lv_iconst (v := (0 : Int32)) hx hb dX0_holds_42 (by decide) ?_
        have h := Option.some.inj h
        subst h
        subst hQ
        exact W.zret (v := (0 : Int32)) hx hb hr rfl (fun t ht hW => ⟨⟨rfl, by rw [ht]; exact hP, hD⟩, hS.F ht⟩) hS.2.2 dX0_holds_43
      · have h := ite_f k1 h
        refine lv_aload_n hx hb dX0_holds_10 rfl (lv_at hl 0 rfl) ?_
        refine va_get (D := (dC, dI)) (ci := 0) (v := .ref (g0 0)) (C := RX0) (T := TX0) (N := 3) hx hb hts hiX0 hown hKK.1 hP 0 rfl rfl 0 (by decide) (hts (.fieldLink RX0 9 "SlideLand$Asked" "strip" "[I") (List.mem_of_getElem? (i := 2) rfl)) (fun _ h9 => h9) rfl dX0_holds_11 ?_
        refine lv_iload_n hx hb dX0_holds_14 rfl (lv_at hl 3 rfl) ?_
        obtain ⟨q2, hq2, h⟩ := obd_e h
        refine kcN (rest := []) (w2 := ([cX0 a0 g0 o0, cX0_0 cI g0 o0, cX0_1 cI g0 o0])) hx hb hml hown hts hKK hP hD hS hA (c_X7_cell l dC dI cB cI cZ cO (g0 0) 6 (o0.2 0) x2_3 hq2) [1] (atAll_map ⟨rfl, trivial⟩) (by decide +kernel) (sameAd_map ⟨rfl, trivial⟩) (atAll_map ⟨rfl, trivial⟩) (agr_refl _ _ _) ⟨va_cnB 2 hts gX0_holds_X7_cell_n26 rfl rfl rfl (hKK.2 _ (nws_in 14 rfl)) (hts (.initialized RX7) (List.mem_of_getElem? (i := 5) rfl)) dsc_X7_cell ⟨Nat.le_of_ble_eq_true rfl, Nat.le_of_ble_eq_true rfl⟩, hts (.static yX7_cell) (List.mem_of_getElem? (i := 4) rfl), trivial⟩ rfl hl.1 rfl (Nat.le_of_ble_eq_true rfl) dX0_holds_15 ⟨Nat.zero_le _, Nat.zero_le _⟩ (fun H locs hP hD hS => ?_)
        refine lv_iload_n hx hb dX0_holds_18 rfl (lv_at hl 1 rfl) ?_
        have jn36 : f_X0_holds_36 x2_3 (f_X0_holds_2 o0 v1 v2 nn2) = some r → ∀ (H : Heap) (locs : List Loc) (ls : Array Slot), va_P (dC, dI) vwCl ([cX0 a0 g0 o0, cX0_0 cI g0 o0, cX0_1 cI g0 o0]) H → va_D A ([cX0 a0 g0 o0, cX0_0 cI g0 o0, cX0_1 cI g0 o0]) → va_S A s.heap H locs → lv_has ls 4 [(0, .ref a0), (1, .int v1), (2, .int v2), (3, .int x2_3)] → W p l e (headSpec wsX0_holds rmX0_holds).room s m ([.ref a0, .int v1, .int v2] : List Value).toArray below meth c H locs 0 0 Q (F0 m 36 ls []) := by
          intro h H locs ls hP hD hS hl
          rw [f_X0_holds_36] at h
          obtain ⟨x3, hx3, h⟩ := bnd_e h
          refine lv_iinc (v := x3) (lv' := [(3, .int x3), (0, .ref a0), (1, .int v1), (2, .int v2)]) hx hb dX0_holds_36 hl (k := 3) rfl (by rw [← hx3]; rfl) (by decide) rfl (fun ls hl => ?_)
          refine lv_goto (tgt := 2) hx hb dX0_holds_39 (by decide) ?_
          exact ih2 x3 h _ _ _ hP hD hS (lv_sub hl [1, 2, 3, 0] rfl)
        refine lv_icmp_ne (tgt := 36) hx hb dX0_holds_19 (by decide) (fun k4 => ?_) (fun k4 => ?_)
        · have h := ite_f k4 h
          exact jn36 h _ _ _ hP hD hS (lv_sub hl [0, 1, 2, 3] rfl)
        · have h := ite_t k4 h
          refine lv_aload_n hx hb dX0_holds_22 rfl (lv_at hl 0 rfl) ?_
          refine va_get (D := (dC, dI)) (ci := 0) (v := .ref (g0 1)) (C := RX0) (T := TX0) (N := 3) hx hb hts hiX0 hown hKK.1 hP 0 rfl rfl 1 (by decide) (hts (.fieldLink RX0 15 "SlideLand$Asked" "one" "[I") (List.mem_of_getElem? (i := 3) rfl)) (fun _ h9 => h9) rfl dX0_holds_23 ?_
          refine lv_iload_n hx hb dX0_holds_26 rfl (lv_at hl 3 rfl) ?_
          obtain ⟨q5, hq5, h⟩ := obd_e h
          refine kcN (rest := []) (w2 := ([cX0 a0 g0 o0, cX0_0 cI g0 o0, cX0_1 cI g0 o0])) hx hb hml hown hts hKK hP hD hS hA (c_X7_cell l dC dI cB cI cZ cO (g0 1) 6 (o0.2 1) x2_3 hq5) [2] (atAll_map ⟨rfl, trivial⟩) (by decide +kernel) (sameAd_map ⟨rfl, trivial⟩) (atAll_map ⟨rfl, trivial⟩) (agr_refl _ _ _) ⟨va_cnB 2 hts gX0_holds_X7_cell_n26 rfl rfl rfl (hKK.2 _ (nws_in 14 rfl)) (hts (.initialized RX7) (List.mem_of_getElem? (i := 5) rfl)) dsc_X7_cell ⟨Nat.le_of_ble_eq_true rfl, Nat.le_of_ble_eq_true rfl⟩, hts (.static yX7_cell) (List.mem_of_getElem? (i := 4) rfl), trivial⟩ rfl hl.1 rfl (Nat.le_of_ble_eq_true rfl) dX0_holds_27 ⟨Nat.zero_le _, Nat.zero_le _⟩ (fun H locs hP hD hS => ?_)
          refine lv_iload_n hx hb dX0_holds_30 rfl (lv_at hl 2 rfl) ?_
          refine lv_icmp_ne (tgt := 36) hx hb dX0_holds_31 (by decide) (fun k6 => ?_) (fun k6 => ?_)
          · have h := ite_f k6 h
            exact jn36 h _ _ _ hP hD hS (lv_sub hl [0, 1, 2, 3] rfl)
          · have h := ite_t k6 h
            refine lv_iconst (v := (1 : Int32)) hx hb dX0_holds_34 (by decide) ?_
            have h := Option.some.inj h
            subst h
            subst hQ
            exact W.zret (v := (1 : Int32)) hx hb hr rfl (fun t ht hW => ⟨⟨rfl, by rw [ht]; exact hP, hD⟩, hS.F ht⟩) hS.2.2 dX0_holds_35
  exact lp2 FU (0 : Int32) h _ _ _ hP hD hS (lv_sub hl [1, 2, 3, 0] rfl)
def f_X6_dampOf (o0 : Ob) (v1 : Int32) : Option (Int32) := if 0 < (o0.1 10) then (if (o0.1 10) = 0 then none else bnd (v1 - v1 / (o0.1 10) * (o0.1 10)) fun x3 : Int32 => if x3 < 0 then (some (0 : Int32)) else (if (8 : Int32) ≤ x3 then (some (0 : Int32)) else (if x3 < 0 ∨ 8 ≤ x3.toNatClampNeg then none else some ((o0.2 6) x3.toNatClampNeg)))) else (some (0 : Int32))
abbrev rmX6_dampOf : Room := { frames := 0, cells := 0, slots := 0, locals := 0 }
theorem dsc_X6_dampOf : yX6_dampOf.cls ≠ "java/lang/invoke/MethodHandle" ∧ yX6_dampOf.cls ≠ "java/lang/invoke/VarHandle" ∧ (parseMethodDescriptor yX6_dampOf.desc).map (fun d => d.parameters.length) = some 1 := by decide +kernel
set_option maxHeartbeats 4000000 in
set_option maxRecDepth 100000 in
theorem c_X6_dampOf (l : Launch) (dC : Nat → ClassId) (dI : Nat → Nat → Nat) (cB cI cZ cO : ClassId) (a0 : Nat) (g0 : Nat → Nat) (o0 : Ob) (v1 : Int32) {r : Int32} (h : f_X6_dampOf o0 v1 = some r) : Ct dC dI cB cI cZ cO l yX6_dampOf wsX6_dampOf rmX6_dampOf [.ref a0, .int v1] ([cX6 a0 g0 o0, cX6_0 cI g0 o0, cX6_1 cI g0 o0, cX6_2 cI g0 o0, cX6_3 cI g0 o0, cX6_4 cI g0 o0, cX6_5 cI g0 o0, cX6_6 cI g0 o0, cX6_7 cI g0 o0]) (some (.int r)) ([cX6 a0 g0 o0, cX6_0 cI g0 o0, cX6_1 cI g0 o0, cX6_2 cI g0 o0, cX6_3 cI g0 o0, cX6_4 cI g0 o0, cX6_5 cI g0 o0, cX6_6 cI g0 o0, cX6_7 cI g0 o0]) := by
  intro sz
  refine Met.ofW (cc := cX6_dampOf) (maxL := 3) (ret := (some .int)) (by decide) rfl ?_
  intro p e s m args below meth c s₁ B hml hv
  obtain ⟨rfl, hsz, hP, hKK, hD0⟩ := hv
  have hx := B.exec
  have hb := B.bytes
  have hr := B.returns
  have hts := atoms_spec (ws := wsX6_dampOf) B.pre
  have hown : s.vm.findClass RX6 = some m.cls := findClass_of_methodNamed B.named
  have hlocks := B.notSynchronized
  have hiX6 : ∀ w ∈ u_ws RX6 TX6 11, w ∈ wsX6_dampOf := fun w h => List.mem_cons_of_mem _ (List.mem_append_right _ h)
  subst hsz
  have hD := hD0.self (sz := s.heap.size)
  generalize hAe : va_A ([cX6 a0 g0 o0, cX6_0 cI g0 o0, cX6_1 cI g0 o0, cX6_2 cI g0 o0, cX6_3 cI g0 o0, cX6_4 cI g0 o0, cX6_5 cI g0 o0, cX6_6 cI g0 o0, cX6_7 cI g0 o0]) s.heap.size = A at hD ⊢
  have hA : ∀ q : Nat, s.heap.size ≤ q → A q := fun q h => by rw [← hAe]; exact Or.inr h
  have hS : va_S A s.heap s.heap [] := va_S.rf
  have hP : va_P (dC, dI) vwCl ([cX6 a0 g0 o0, cX6_0 cI g0 o0, cX6_1 cI g0 o0, cX6_2 cI g0 o0, cX6_3 cI g0 o0, cX6_4 cI g0 o0, cX6_5 cI g0 o0, cX6_6 cI g0 o0, cX6_7 cI g0 o0]) s.heap := hP
  have hD : va_D A ([cX6 a0 g0 o0, cX6_0 cI g0 o0, cX6_1 cI g0 o0, cX6_2 cI g0 o0, cX6_3 cI g0 o0, cX6_4 cI g0 o0, cX6_5 cI g0 o0, cX6_6 cI g0 o0, cX6_7 cI g0 o0]) := hD
  have hl := lv_entry ([.ref a0, .int v1]) (n := 3) (Nat.le_of_ble_eq_true rfl)
  rw [lg_entry_eq]
  generalize (lg_sl ([.ref a0, .int v1]) ++ List.replicate (3 - (lg_sl ([.ref a0, .int v1])).length) Slot.unset).toArray = ls at hl ⊢
  have hl : lv_has ls 3 [(0, .ref a0), (1, .int v1)] := hl
  obtain ⟨Q, hQ⟩ : ∃ Q, Q = MQ below (Qq dC dI (some (.int r)) ([cX6 a0 g0 o0, cX6_0 cI g0 o0, cX6_1 cI g0 o0, cX6_2 cI g0 o0, cX6_3 cI g0 o0, cX6_4 cI g0 o0, cX6_5 cI g0 o0, cX6_6 cI g0 o0, cX6_7 cI g0 o0]) A) ([.ref a0, .int v1] : List Value).toArray s 0 0 A := ⟨_, rfl⟩
  rw [← hQ]
  rw [f_X6_dampOf] at h
  clear hAe hD0
  refine lv_aload_n hx hb dX6_dampOf_0 rfl (lv_at hl 0 rfl) ?_
  refine va_get (D := (dC, dI)) (ci := 6) (v := .int (o0.1 10)) (C := RX6) (T := TX6) (N := 11) hx hb hts hiX6 hown hKK.1 hP 0 rfl rfl 10 (by decide) (hts (.fieldLink RX6 67 "SlideLand$Told" "dampYears" "I") (List.mem_of_getElem? (i := 1) rfl)) (fun _ h9 => h9) rfl dX6_dampOf_1 ?_
  refine lv_if_gt (tgt := 9) hx hb dX6_dampOf_4 (by decide) (fun k1 => ?_) (fun k1 => ?_)
  · have h := ite_t k1 h
    refine lv_iload_n hx hb dX6_dampOf_9 rfl (lv_at hl 1 rfl) ?_
    refine lv_aload_n hx hb dX6_dampOf_10 rfl (lv_at hl 0 rfl) ?_
    refine va_get (D := (dC, dI)) (ci := 6) (v := .int (o0.1 10)) (C := RX6) (T := TX6) (N := 11) hx hb hts hiX6 hown hKK.1 hP 0 rfl rfl 10 (by decide) (hts (.fieldLink RX6 67 "SlideLand$Told" "dampYears" "I") (List.mem_of_getElem? (i := 1) rfl)) (fun _ h9 => h9) rfl dX6_dampOf_11 ?_
    obtain ⟨k2, h⟩ := ite_n h
    refine lv_irem hx hb dX6_dampOf_14 k2 ?_
    obtain ⟨x3, hx3, h⟩ := bnd_e h
    refine lv_topE hx3 ?_
    refine lv_istore_n (lv' := [(2, .int x3), (0, .ref a0), (1, .int v1)]) hx hb dX6_dampOf_15 rfl hl (by decide) rfl (fun ls hl => ?_)
    refine lv_iload_n hx hb dX6_dampOf_16 rfl (lv_at hl 0 rfl) ?_
    refine lv_if_lt (tgt := 38) hx hb dX6_dampOf_17 (by decide) (fun k4 => ?_) (fun k4 => ?_)
    · have h := ite_t k4 h
      refine lv_iconst (v := (0 : Int32)) hx hb dX6_dampOf_38 (by decide) ?_
      have h := Option.some.inj h
      subst h
      subst hQ
      exact W.iret (v := (0 : Int32)) hx hb hr (fun t ht hW => ⟨⟨rfl, by rw [ht]; exact hP, hD⟩, hS.F ht⟩) hS.2.2 dX6_dampOf_39
    · have h := ite_f k4 h
      refine lv_iload_n hx hb dX6_dampOf_20 rfl (lv_at hl 0 rfl) ?_
      refine lv_aload_n hx hb dX6_dampOf_21 rfl (lv_at hl 1 rfl) ?_
      refine va_get (D := (dC, dI)) (ci := 6) (v := .ref (g0 6)) (C := RX6) (T := TX6) (N := 11) hx hb hts hiX6 hown hKK.1 hP 0 rfl rfl 6 (by decide) (hts (.fieldLink RX6 30 "SlideLand$Told" "damps" "[I") (List.mem_of_getElem? (i := 2) rfl)) (fun _ h9 => h9) rfl dX6_dampOf_22 ?_
      refine va_alen (v := (8 : Int32)) hx hb hKK.1 hP 7 1 rfl (ty := .int) rfl (show Int32.ofNat 8 = (8 : Int32) from by decide) dX6_dampOf_25 ?_
      refine lv_icmp_ge (tgt := 38) hx hb dX6_dampOf_26 (by decide) (fun k5 => ?_) (fun k5 => ?_)
      · have h := ite_t k5 h
        refine lv_iconst (v := (0 : Int32)) hx hb dX6_dampOf_38 (by decide) ?_
        have h := Option.some.inj h
        subst h
        subst hQ
        exact W.iret (v := (0 : Int32)) hx hb hr (fun t ht hW => ⟨⟨rfl, by rw [ht]; exact hP, hD⟩, hS.F ht⟩) hS.2.2 dX6_dampOf_39
      · have h := ite_f k5 h
        refine lv_aload_n hx hb dX6_dampOf_29 rfl (lv_at hl 1 rfl) ?_
        refine va_get (D := (dC, dI)) (ci := 6) (v := .ref (g0 6)) (C := RX6) (T := TX6) (N := 11) hx hb hts hiX6 hown hKK.1 hP 0 rfl rfl 6 (by decide) (hts (.fieldLink RX6 30 "SlideLand$Told" "damps" "[I") (List.mem_of_getElem? (i := 2) rfl)) (fun _ h9 => h9) rfl dX6_dampOf_30 ?_
        refine lv_iload_n hx hb dX6_dampOf_33 rfl (lv_at hl 0 rfl) ?_
        obtain ⟨k6, h⟩ := ite_n h
        refine va_iald hx hb hKK.1 hP 7 1 rfl rfl k6 dX6_dampOf_34 ?_
        refine lv_goto (tgt := 39) hx hb dX6_dampOf_35 (by decide) ?_
        have h := Option.some.inj h
        subst h
        subst hQ
        exact W.iret (v := ((o0.2 6) x3.toNatClampNeg)) hx hb hr (fun t ht hW => ⟨⟨rfl, by rw [ht]; exact hP, hD⟩, hS.F ht⟩) hS.2.2 dX6_dampOf_39
  · have h := ite_f k1 h
    refine lv_iconst (v := (0 : Int32)) hx hb dX6_dampOf_7 (by decide) ?_
    have h := Option.some.inj h
    subst h
    subst hQ
    exact W.iret (v := (0 : Int32)) hx hb hr (fun t ht hW => ⟨⟨rfl, by rw [ht]; exact hP, hD⟩, hS.F ht⟩) hS.2.2 dX6_dampOf_8
def f_X6_dampInch (o0 : Ob) (v1 : Int32) (v2 : Int32) : Option (Int32) := (f_X6_dampOf o0 v2).bind fun q1 : Int32 => some (v1 + ((v1 * q1) / (10 : Int32)))
abbrev rmX6_dampInch : Room := { frames := 1, cells := 0, slots := 0, locals := 22 }
theorem dsc_X6_dampInch : yX6_dampInch.cls ≠ "java/lang/invoke/MethodHandle" ∧ yX6_dampInch.cls ≠ "java/lang/invoke/VarHandle" ∧ (parseMethodDescriptor yX6_dampInch.desc).map (fun d => d.parameters.length) = some 2 := by decide +kernel
set_option maxHeartbeats 4000000 in
set_option maxRecDepth 100000 in
theorem c_X6_dampInch (l : Launch) (dC : Nat → ClassId) (dI : Nat → Nat → Nat) (cB cI cZ cO : ClassId) (a0 : Nat) (g0 : Nat → Nat) (o0 : Ob) (v1 : Int32) (v2 : Int32) {r : Int32} (h : f_X6_dampInch o0 v1 v2 = some r) : Ct dC dI cB cI cZ cO l yX6_dampInch wsX6_dampInch rmX6_dampInch [.ref a0, .int v1, .int v2] ([cX6 a0 g0 o0, cX6_0 cI g0 o0, cX6_1 cI g0 o0, cX6_2 cI g0 o0, cX6_3 cI g0 o0, cX6_4 cI g0 o0, cX6_5 cI g0 o0, cX6_6 cI g0 o0, cX6_7 cI g0 o0]) (some (.int r)) ([cX6 a0 g0 o0, cX6_0 cI g0 o0, cX6_1 cI g0 o0, cX6_2 cI g0 o0, cX6_3 cI g0 o0, cX6_4 cI g0 o0, cX6_5 cI g0 o0, cX6_6 cI g0 o0, cX6_7 cI g0 o0]) := by
  intro sz
  refine Met.ofW (cc := cX6_dampInch) (maxL := 3) (ret := (some .int)) (by decide) rfl ?_
  intro p e s m args below meth c s₁ B hml hv
  obtain ⟨rfl, hsz, hP, hKK, hD0⟩ := hv
  have hx := B.exec
  have hb := B.bytes
  have hr := B.returns
  have hts := atoms_spec (ws := wsX6_dampInch) B.pre
  have hown : s.vm.findClass RX6 = some m.cls := findClass_of_methodNamed B.named
  have hlocks := B.notSynchronized
  subst hsz
  have hD := hD0.self (sz := s.heap.size)
  generalize hAe : va_A ([cX6 a0 g0 o0, cX6_0 cI g0 o0, cX6_1 cI g0 o0, cX6_2 cI g0 o0, cX6_3 cI g0 o0, cX6_4 cI g0 o0, cX6_5 cI g0 o0, cX6_6 cI g0 o0, cX6_7 cI g0 o0]) s.heap.size = A at hD ⊢
  have hA : ∀ q : Nat, s.heap.size ≤ q → A q := fun q h => by rw [← hAe]; exact Or.inr h
  have hS : va_S A s.heap s.heap [] := va_S.rf
  have hP : va_P (dC, dI) vwCl ([cX6 a0 g0 o0, cX6_0 cI g0 o0, cX6_1 cI g0 o0, cX6_2 cI g0 o0, cX6_3 cI g0 o0, cX6_4 cI g0 o0, cX6_5 cI g0 o0, cX6_6 cI g0 o0, cX6_7 cI g0 o0]) s.heap := hP
  have hD : va_D A ([cX6 a0 g0 o0, cX6_0 cI g0 o0, cX6_1 cI g0 o0, cX6_2 cI g0 o0, cX6_3 cI g0 o0, cX6_4 cI g0 o0, cX6_5 cI g0 o0, cX6_6 cI g0 o0, cX6_7 cI g0 o0]) := hD
  have hl := lv_entry ([.ref a0, .int v1, .int v2]) (n := 3) (Nat.le_of_ble_eq_true rfl)
  rw [lg_entry_eq]
  generalize (lg_sl ([.ref a0, .int v1, .int v2]) ++ List.replicate (3 - (lg_sl ([.ref a0, .int v1, .int v2])).length) Slot.unset).toArray = ls at hl ⊢
  have hl : lv_has ls 3 [(0, .ref a0), (1, .int v1), (2, .int v2)] := hl
  obtain ⟨Q, hQ⟩ : ∃ Q, Q = MQ below (Qq dC dI (some (.int r)) ([cX6 a0 g0 o0, cX6_0 cI g0 o0, cX6_1 cI g0 o0, cX6_2 cI g0 o0, cX6_3 cI g0 o0, cX6_4 cI g0 o0, cX6_5 cI g0 o0, cX6_6 cI g0 o0, cX6_7 cI g0 o0]) A) ([.ref a0, .int v1, .int v2] : List Value).toArray s 0 0 A := ⟨_, rfl⟩
  rw [← hQ]
  rw [f_X6_dampInch] at h
  clear hAe hD0
  refine lv_iload_n hx hb dX6_dampInch_0 rfl (lv_at hl 1 rfl) ?_
  refine lv_iload_n hx hb dX6_dampInch_1 rfl (lv_at hl 1 rfl) ?_
  refine lv_aload_n hx hb dX6_dampInch_2 rfl (lv_at hl 0 rfl) ?_
  refine lv_iload_n hx hb dX6_dampInch_3 rfl (lv_at hl 2 rfl) ?_
  obtain ⟨q1, hq1, h⟩ := obd_e h
  refine kcV (rest := [.int v1, .int v1]) (w2 := ([cX6 a0 g0 o0, cX6_0 cI g0 o0, cX6_1 cI g0 o0, cX6_2 cI g0 o0, cX6_3 cI g0 o0, cX6_4 cI g0 o0, cX6_5 cI g0 o0, cX6_6 cI g0 o0, cX6_7 cI g0 o0])) hx hb hml hown hts hKK hP hD hS hA (c_X6_dampOf l dC dI cB cI cZ cO a0 g0 o0 v2 hq1) [0, 1, 2, 3, 4, 5, 6, 7, 8] (atAll_map ⟨rfl, rfl, rfl, rfl, rfl, rfl, rfl, rfl, rfl, trivial⟩) (by decide +kernel) (sameAd_map ⟨rfl, rfl, rfl, rfl, rfl, rfl, rfl, rfl, rfl, trivial⟩) (atAll_map ⟨rfl, rfl, rfl, rfl, rfl, rfl, rfl, rfl, rfl, trivial⟩) (agr_refl _ _ _) (cwV 1 hts gX6_dampInch_X6_dampOf rfl rfl rfl ⟨rfl, dsc_X6_dampOf⟩ ⟨Nat.le_of_ble_eq_true rfl, Nat.le_of_ble_eq_true rfl⟩) (va_recv hKK.1 hP (ci := 6) (q0 := 0) rfl rfl) rfl hl.1 rfl (Nat.le_of_ble_eq_true rfl) dX6_dampInch_4 ⟨Nat.zero_le _, Nat.zero_le _⟩ (fun H locs hP hD hS => ?_)
  refine lv_imul hx hb dX6_dampInch_7 ?_
  refine lv_bipush (v := (10 : Int32)) hx hb dX6_dampInch_8 (by decide) ?_
  refine lv_idiv hx hb dX6_dampInch_10 (by decide) ?_
  refine lv_iadd hx hb dX6_dampInch_11 ?_
  have h := Option.some.inj h
  subst h
  subst hQ
  exact W.iret (v := (v1 + ((v1 * q1) / (10 : Int32)))) hx hb hr (fun t ht hW => ⟨⟨rfl, by rw [ht]; exact hP, hD⟩, hS.F ht⟩) hS.2.2 dX6_dampInch_12
def f_X6_isOfLand (o0 : Ob) (v1 : Int32) (v2 : Int32) : Option (Bool) := bnd (f_X7_within v1 (0 : Int32) (1 : Int32)) fun q1 : Bool => if (b2i q1) = 0 then (some false) else ((f_X7_cell 2 (o0.2 1) v1).bind fun q3 : Int32 => bnd (f_X7_within v2 (0 : Int32) (q3 - (1 : Int32))) fun q4 : Bool => if (b2i q4) = 0 then (some false) else (some true))
abbrev rmX6_isOfLand : Room := { frames := 1, cells := 0, slots := 0, locals := 22 }
theorem dsc_X6_isOfLand : yX6_isOfLand.cls ≠ "java/lang/invoke/MethodHandle" ∧ yX6_isOfLand.cls ≠ "java/lang/invoke/VarHandle" ∧ (parseMethodDescriptor yX6_isOfLand.desc).map (fun d => d.parameters.length) = some 2 := by decide +kernel
set_option maxHeartbeats 4000000 in
set_option maxRecDepth 100000 in
theorem c_X6_isOfLand (l : Launch) (dC : Nat → ClassId) (dI : Nat → Nat → Nat) (cB cI cZ cO : ClassId) (a0 : Nat) (g0 : Nat → Nat) (o0 : Ob) (v1 : Int32) (v2 : Int32) {r : Bool} (h : f_X6_isOfLand o0 v1 v2 = some r) : Ct dC dI cB cI cZ cO l yX6_isOfLand wsX6_isOfLand rmX6_isOfLand [.ref a0, .int v1, .int v2] ([cX6 a0 g0 o0, cX6_0 cI g0 o0, cX6_1 cI g0 o0, cX6_2 cI g0 o0, cX6_3 cI g0 o0, cX6_4 cI g0 o0, cX6_5 cI g0 o0, cX6_6 cI g0 o0, cX6_7 cI g0 o0]) (some (.int (b2i r))) ([cX6 a0 g0 o0, cX6_0 cI g0 o0, cX6_1 cI g0 o0, cX6_2 cI g0 o0, cX6_3 cI g0 o0, cX6_4 cI g0 o0, cX6_5 cI g0 o0, cX6_6 cI g0 o0, cX6_7 cI g0 o0]) := by
  intro sz
  refine Met.ofW (cc := cX6_isOfLand) (maxL := 3) (ret := (some .boolean)) (by decide) rfl ?_
  intro p e s m args below meth c s₁ B hml hv
  obtain ⟨rfl, hsz, hP, hKK, hD0⟩ := hv
  have hx := B.exec
  have hb := B.bytes
  have hr := B.returns
  have hts := atoms_spec (ws := wsX6_isOfLand) B.pre
  have hown : s.vm.findClass RX6 = some m.cls := findClass_of_methodNamed B.named
  have hlocks := B.notSynchronized
  have hiX6 : ∀ w ∈ u_ws RX6 TX6 11, w ∈ wsX6_isOfLand := fun w h => List.mem_cons_of_mem _ (List.mem_append_right _ h)
  subst hsz
  have hD := hD0.self (sz := s.heap.size)
  generalize hAe : va_A ([cX6 a0 g0 o0, cX6_0 cI g0 o0, cX6_1 cI g0 o0, cX6_2 cI g0 o0, cX6_3 cI g0 o0, cX6_4 cI g0 o0, cX6_5 cI g0 o0, cX6_6 cI g0 o0, cX6_7 cI g0 o0]) s.heap.size = A at hD ⊢
  have hA : ∀ q : Nat, s.heap.size ≤ q → A q := fun q h => by rw [← hAe]; exact Or.inr h
  have hS : va_S A s.heap s.heap [] := va_S.rf
  have hP : va_P (dC, dI) vwCl ([cX6 a0 g0 o0, cX6_0 cI g0 o0, cX6_1 cI g0 o0, cX6_2 cI g0 o0, cX6_3 cI g0 o0, cX6_4 cI g0 o0, cX6_5 cI g0 o0, cX6_6 cI g0 o0, cX6_7 cI g0 o0]) s.heap := hP
  have hD : va_D A ([cX6 a0 g0 o0, cX6_0 cI g0 o0, cX6_1 cI g0 o0, cX6_2 cI g0 o0, cX6_3 cI g0 o0, cX6_4 cI g0 o0, cX6_5 cI g0 o0, cX6_6 cI g0 o0, cX6_7 cI g0 o0]) := hD
  have hl := lv_entry ([.ref a0, .int v1, .int v2]) (n := 3) (Nat.le_of_ble_eq_true rfl)
  rw [lg_entry_eq]
  generalize (lg_sl ([.ref a0, .int v1, .int v2]) ++ List.replicate (3 - (lg_sl ([.ref a0, .int v1, .int v2])).length) Slot.unset).toArray = ls at hl ⊢
  have hl : lv_has ls 3 [(0, .ref a0), (1, .int v1), (2, .int v2)] := hl
  obtain ⟨Q, hQ⟩ : ∃ Q, Q = MQ below (Qq dC dI (some (.int (b2i r))) ([cX6 a0 g0 o0, cX6_0 cI g0 o0, cX6_1 cI g0 o0, cX6_2 cI g0 o0, cX6_3 cI g0 o0, cX6_4 cI g0 o0, cX6_5 cI g0 o0, cX6_6 cI g0 o0, cX6_7 cI g0 o0]) A) ([.ref a0, .int v1, .int v2] : List Value).toArray s 0 0 A := ⟨_, rfl⟩
  rw [← hQ]
  rw [f_X6_isOfLand] at h
  clear hAe hD0
  refine lv_iload_n hx hb dX6_isOfLand_0 rfl (lv_at hl 1 rfl) ?_
  refine lv_iconst (v := (0 : Int32)) hx hb dX6_isOfLand_1 (by decide) ?_
  refine lv_iconst (v := (1 : Int32)) hx hb dX6_isOfLand_2 (by decide) ?_
  obtain ⟨q1, hq1, h⟩ := bnd_e h
  refine kcN (rest := []) (w2 := ([cX6 a0 g0 o0, cX6_0 cI g0 o0, cX6_1 cI g0 o0, cX6_2 cI g0 o0, cX6_3 cI g0 o0, cX6_4 cI g0 o0, cX6_5 cI g0 o0, cX6_6 cI g0 o0, cX6_7 cI g0 o0])) hx hb hml hown hts hKK hP hD hS hA (c_X7_within l dC dI cB cI cZ cO v1 (0 : Int32) (1 : Int32) hq1) [] (atAll_map trivial) (by decide +kernel) (sameAd_map trivial) (atAll_map trivial) (agr_refl _ _ _) ⟨va_cnB 3 hts gX6_isOfLand_X7_within_n98 rfl rfl rfl (hKK.2 _ (nws_in 5 rfl)) (hts (.initialized RX7) (List.mem_of_getElem? (i := 3) rfl)) dsc_X7_within ⟨Nat.le_of_ble_eq_true rfl, Nat.le_of_ble_eq_true rfl⟩, hts (.static yX7_within) (List.mem_of_getElem? (i := 2) rfl), trivial⟩ rfl hl.1 rfl (Nat.le_of_ble_eq_true rfl) dX6_isOfLand_3 ⟨Nat.zero_le _, Nat.zero_le _⟩ (fun H locs hP hD hS => ?_)
  refine lv_if_eq (tgt := 31) hx hb dX6_isOfLand_6 (by decide) (fun k2 => ?_) (fun k2 => ?_)
  · have h := ite_t k2 h
    refine lv_iconst (v := (0 : Int32)) hx hb dX6_isOfLand_31 (by decide) ?_
    have h := Option.some.inj h
    subst h
    subst hQ
    exact W.zret (v := (0 : Int32)) hx hb hr rfl (fun t ht hW => ⟨⟨rfl, by rw [ht]; exact hP, hD⟩, hS.F ht⟩) hS.2.2 dX6_isOfLand_32
  · have h := ite_f k2 h
    refine lv_iload_n hx hb dX6_isOfLand_9 rfl (lv_at hl 2 rfl) ?_
    refine lv_iconst (v := (0 : Int32)) hx hb dX6_isOfLand_10 (by decide) ?_
    refine lv_aload_n hx hb dX6_isOfLand_11 rfl (lv_at hl 0 rfl) ?_
    refine va_get (D := (dC, dI)) (ci := 6) (v := .ref (g0 1)) (C := RX6) (T := TX6) (N := 11) hx hb hts hiX6 hown hKK.1 hP 0 rfl rfl 1 (by decide) (hts (.fieldLink RX6 15 "SlideLand$Told" "ofLand" "[I") (List.mem_of_getElem? (i := 1) rfl)) (fun _ h9 => h9) rfl dX6_isOfLand_12 ?_
    refine lv_iload_n hx hb dX6_isOfLand_15 rfl (lv_at hl 1 rfl) ?_
    obtain ⟨q3, hq3, h⟩ := obd_e h
    refine kcN (rest := [.int (0 : Int32), .int v2]) (w2 := ([cX6 a0 g0 o0, cX6_0 cI g0 o0, cX6_1 cI g0 o0, cX6_2 cI g0 o0, cX6_3 cI g0 o0, cX6_4 cI g0 o0, cX6_5 cI g0 o0, cX6_6 cI g0 o0, cX6_7 cI g0 o0])) hx hb hml hown hts hKK hP hD hS hA (c_X7_cell l dC dI cB cI cZ cO (g0 1) 2 (o0.2 1) v1 hq3) [2] (atAll_map ⟨rfl, trivial⟩) (by decide +kernel) (sameAd_map ⟨rfl, trivial⟩) (atAll_map ⟨rfl, trivial⟩) (agr_refl _ _ _) ⟨va_cnB 2 hts gX6_isOfLand_X7_cell_n77 rfl rfl rfl (hKK.2 _ (nws_in 3 rfl)) (hts (.initialized RX7) (List.mem_of_getElem? (i := 3) rfl)) dsc_X7_cell ⟨Nat.le_of_ble_eq_true rfl, Nat.le_of_ble_eq_true rfl⟩, hts (.static yX7_cell) (List.mem_of_getElem? (i := 5) rfl), trivial⟩ rfl hl.1 rfl (Nat.le_of_ble_eq_true rfl) dX6_isOfLand_16 ⟨Nat.zero_le _, Nat.zero_le _⟩ (fun H locs hP hD hS => ?_)
    refine lv_iconst (v := (1 : Int32)) hx hb dX6_isOfLand_19 (by decide) ?_
    refine lv_isub hx hb dX6_isOfLand_20 ?_
    obtain ⟨q4, hq4, h⟩ := bnd_e h
    refine kcN (rest := []) (w2 := ([cX6 a0 g0 o0, cX6_0 cI g0 o0, cX6_1 cI g0 o0, cX6_2 cI g0 o0, cX6_3 cI g0 o0, cX6_4 cI g0 o0, cX6_5 cI g0 o0, cX6_6 cI g0 o0, cX6_7 cI g0 o0])) hx hb hml hown hts hKK hP hD hS hA (c_X7_within l dC dI cB cI cZ cO v2 (0 : Int32) (q3 - (1 : Int32)) hq4) [] (atAll_map trivial) (by decide +kernel) (sameAd_map trivial) (atAll_map trivial) (agr_refl _ _ _) ⟨va_cnB 3 hts gX6_isOfLand_X7_within_n98 rfl rfl rfl (hKK.2 _ (nws_in 5 rfl)) (hts (.initialized RX7) (List.mem_of_getElem? (i := 3) rfl)) dsc_X7_within ⟨Nat.le_of_ble_eq_true rfl, Nat.le_of_ble_eq_true rfl⟩, hts (.static yX7_within) (List.mem_of_getElem? (i := 2) rfl), trivial⟩ rfl hl.1 rfl (Nat.le_of_ble_eq_true rfl) dX6_isOfLand_21 ⟨Nat.zero_le _, Nat.zero_le _⟩ (fun H locs hP hD hS => ?_)
    refine lv_if_eq (tgt := 31) hx hb dX6_isOfLand_24 (by decide) (fun k5 => ?_) (fun k5 => ?_)
    · have h := ite_t k5 h
      refine lv_iconst (v := (0 : Int32)) hx hb dX6_isOfLand_31 (by decide) ?_
      have h := Option.some.inj h
      subst h
      subst hQ
      exact W.zret (v := (0 : Int32)) hx hb hr rfl (fun t ht hW => ⟨⟨rfl, by rw [ht]; exact hP, hD⟩, hS.F ht⟩) hS.2.2 dX6_isOfLand_32
    · have h := ite_f k5 h
      refine lv_iconst (v := (1 : Int32)) hx hb dX6_isOfLand_27 (by decide) ?_
      refine lv_goto (tgt := 32) hx hb dX6_isOfLand_28 (by decide) ?_
      have h := Option.some.inj h
      subst h
      subst hQ
      exact W.zret (v := (1 : Int32)) hx hb hr rfl (fun t ht hW => ⟨⟨rfl, by rw [ht]; exact hP, hD⟩, hS.F ht⟩) hS.2.2 dX6_isOfLand_32
def f_X6_isTold (o0 : Ob) (v1 : Int32) : Option (Bool) := bnd (f_X7_landOf v1) fun q1 : Int32 => bnd (f_X7_kOf v1) fun q2 : Int32 => (f_X6_isOfLand o0 q1 q2).bind fun q3 : Bool => some q3
abbrev rmX6_isTold : Room := { frames := 2, cells := 0, slots := 0, locals := 44 }
theorem dsc_X6_isTold : yX6_isTold.cls ≠ "java/lang/invoke/MethodHandle" ∧ yX6_isTold.cls ≠ "java/lang/invoke/VarHandle" ∧ (parseMethodDescriptor yX6_isTold.desc).map (fun d => d.parameters.length) = some 1 := by decide +kernel
set_option maxHeartbeats 4000000 in
set_option maxRecDepth 100000 in
theorem c_X6_isTold (l : Launch) (dC : Nat → ClassId) (dI : Nat → Nat → Nat) (cB cI cZ cO : ClassId) (a0 : Nat) (g0 : Nat → Nat) (o0 : Ob) (v1 : Int32) {r : Bool} (h : f_X6_isTold o0 v1 = some r) : Ct dC dI cB cI cZ cO l yX6_isTold wsX6_isTold rmX6_isTold [.ref a0, .int v1] ([cX6 a0 g0 o0, cX6_0 cI g0 o0, cX6_1 cI g0 o0, cX6_2 cI g0 o0, cX6_3 cI g0 o0, cX6_4 cI g0 o0, cX6_5 cI g0 o0, cX6_6 cI g0 o0, cX6_7 cI g0 o0]) (some (.int (b2i r))) ([cX6 a0 g0 o0, cX6_0 cI g0 o0, cX6_1 cI g0 o0, cX6_2 cI g0 o0, cX6_3 cI g0 o0, cX6_4 cI g0 o0, cX6_5 cI g0 o0, cX6_6 cI g0 o0, cX6_7 cI g0 o0]) := by
  intro sz
  refine Met.ofW (cc := cX6_isTold) (maxL := 2) (ret := (some .boolean)) (by decide) rfl ?_
  intro p e s m args below meth c s₁ B hml hv
  obtain ⟨rfl, hsz, hP, hKK, hD0⟩ := hv
  have hx := B.exec
  have hb := B.bytes
  have hr := B.returns
  have hts := atoms_spec (ws := wsX6_isTold) B.pre
  have hown : s.vm.findClass RX6 = some m.cls := findClass_of_methodNamed B.named
  have hlocks := B.notSynchronized
  subst hsz
  have hD := hD0.self (sz := s.heap.size)
  generalize hAe : va_A ([cX6 a0 g0 o0, cX6_0 cI g0 o0, cX6_1 cI g0 o0, cX6_2 cI g0 o0, cX6_3 cI g0 o0, cX6_4 cI g0 o0, cX6_5 cI g0 o0, cX6_6 cI g0 o0, cX6_7 cI g0 o0]) s.heap.size = A at hD ⊢
  have hA : ∀ q : Nat, s.heap.size ≤ q → A q := fun q h => by rw [← hAe]; exact Or.inr h
  have hS : va_S A s.heap s.heap [] := va_S.rf
  have hP : va_P (dC, dI) vwCl ([cX6 a0 g0 o0, cX6_0 cI g0 o0, cX6_1 cI g0 o0, cX6_2 cI g0 o0, cX6_3 cI g0 o0, cX6_4 cI g0 o0, cX6_5 cI g0 o0, cX6_6 cI g0 o0, cX6_7 cI g0 o0]) s.heap := hP
  have hD : va_D A ([cX6 a0 g0 o0, cX6_0 cI g0 o0, cX6_1 cI g0 o0, cX6_2 cI g0 o0, cX6_3 cI g0 o0, cX6_4 cI g0 o0, cX6_5 cI g0 o0, cX6_6 cI g0 o0, cX6_7 cI g0 o0]) := hD
  have hl := lv_entry ([.ref a0, .int v1]) (n := 2) (Nat.le_of_ble_eq_true rfl)
  rw [lg_entry_eq]
  generalize (lg_sl ([.ref a0, .int v1]) ++ List.replicate (2 - (lg_sl ([.ref a0, .int v1])).length) Slot.unset).toArray = ls at hl ⊢
  have hl : lv_has ls 2 [(0, .ref a0), (1, .int v1)] := hl
  obtain ⟨Q, hQ⟩ : ∃ Q, Q = MQ below (Qq dC dI (some (.int (b2i r))) ([cX6 a0 g0 o0, cX6_0 cI g0 o0, cX6_1 cI g0 o0, cX6_2 cI g0 o0, cX6_3 cI g0 o0, cX6_4 cI g0 o0, cX6_5 cI g0 o0, cX6_6 cI g0 o0, cX6_7 cI g0 o0]) A) ([.ref a0, .int v1] : List Value).toArray s 0 0 A := ⟨_, rfl⟩
  rw [← hQ]
  rw [f_X6_isTold] at h
  clear hAe hD0
  refine lv_aload_n hx hb dX6_isTold_0 rfl (lv_at hl 0 rfl) ?_
  refine lv_iload_n hx hb dX6_isTold_1 rfl (lv_at hl 1 rfl) ?_
  obtain ⟨q1, hq1, h⟩ := bnd_e h
  refine kcN (rest := [.ref a0]) (w2 := ([cX6 a0 g0 o0, cX6_0 cI g0 o0, cX6_1 cI g0 o0, cX6_2 cI g0 o0, cX6_3 cI g0 o0, cX6_4 cI g0 o0, cX6_5 cI g0 o0, cX6_6 cI g0 o0, cX6_7 cI g0 o0])) hx hb hml hown hts hKK hP hD hS hA (c_X7_landOf l dC dI cB cI cZ cO v1 hq1) [] (atAll_map trivial) (by decide +kernel) (sameAd_map trivial) (atAll_map trivial) (agr_refl _ _ _) ⟨va_cnB 1 hts gX6_isTold_X7_landOf_n101 rfl rfl rfl (hKK.2 _ (nws_in 22 rfl)) (hts (.initialized RX7) (List.mem_of_getElem? (i := 2) rfl)) dsc_X7_landOf ⟨Nat.le_of_ble_eq_true rfl, Nat.le_of_ble_eq_true rfl⟩, hts (.static yX7_landOf) (List.mem_of_getElem? (i := 1) rfl), trivial⟩ rfl hl.1 rfl (Nat.le_of_ble_eq_true rfl) dX6_isTold_2 ⟨Nat.zero_le _, Nat.zero_le _⟩ (fun H locs hP hD hS => ?_)
  refine lv_iload_n hx hb dX6_isTold_5 rfl (lv_at hl 1 rfl) ?_
  obtain ⟨q2, hq2, h⟩ := bnd_e h
  refine kcN (rest := [.int q1, .ref a0]) (w2 := ([cX6 a0 g0 o0, cX6_0 cI g0 o0, cX6_1 cI g0 o0, cX6_2 cI g0 o0, cX6_3 cI g0 o0, cX6_4 cI g0 o0, cX6_5 cI g0 o0, cX6_6 cI g0 o0, cX6_7 cI g0 o0])) hx hb hml hown hts hKK hP hD hS hA (c_X7_kOf l dC dI cB cI cZ cO v1 hq2) [] (atAll_map trivial) (by decide +kernel) (sameAd_map trivial) (atAll_map trivial) (agr_refl _ _ _) ⟨va_cnB 1 hts gX6_isTold_X7_kOf_n104 rfl rfl rfl (hKK.2 _ (nws_in 23 rfl)) (hts (.initialized RX7) (List.mem_of_getElem? (i := 2) rfl)) dsc_X7_kOf ⟨Nat.le_of_ble_eq_true rfl, Nat.le_of_ble_eq_true rfl⟩, hts (.static yX7_kOf) (List.mem_of_getElem? (i := 4) rfl), trivial⟩ rfl hl.1 rfl (Nat.le_of_ble_eq_true rfl) dX6_isTold_6 ⟨Nat.zero_le _, Nat.zero_le _⟩ (fun H locs hP hD hS => ?_)
  obtain ⟨q3, hq3, h⟩ := obd_e h
  refine kcV (rest := []) (w2 := ([cX6 a0 g0 o0, cX6_0 cI g0 o0, cX6_1 cI g0 o0, cX6_2 cI g0 o0, cX6_3 cI g0 o0, cX6_4 cI g0 o0, cX6_5 cI g0 o0, cX6_6 cI g0 o0, cX6_7 cI g0 o0])) hx hb hml hown hts hKK hP hD hS hA (c_X6_isOfLand l dC dI cB cI cZ cO a0 g0 o0 q1 q2 hq3) [0, 1, 2, 3, 4, 5, 6, 7, 8] (atAll_map ⟨rfl, rfl, rfl, rfl, rfl, rfl, rfl, rfl, rfl, trivial⟩) (by decide +kernel) (sameAd_map ⟨rfl, rfl, rfl, rfl, rfl, rfl, rfl, rfl, rfl, trivial⟩) (atAll_map ⟨rfl, rfl, rfl, rfl, rfl, rfl, rfl, rfl, rfl, trivial⟩) (agr_refl _ _ _) (cwV 2 hts gX6_isTold_X6_isOfLand rfl rfl rfl ⟨rfl, dsc_X6_isOfLand⟩ ⟨Nat.le_of_ble_eq_true rfl, Nat.le_of_ble_eq_true rfl⟩) (va_recv hKK.1 hP (ci := 6) (q0 := 0) rfl rfl) rfl hl.1 rfl (Nat.le_of_ble_eq_true rfl) dX6_isTold_9 ⟨Nat.zero_le _, Nat.zero_le _⟩ (fun H locs hP hD hS => ?_)
  have h := Option.some.inj h
  subst h
  subst hQ
  exact W.zret (v := (b2i q3)) hx hb hr (b2i_nar _) (fun t ht hW => ⟨⟨rfl, by rw [ht]; exact hP, hD⟩, hS.F ht⟩) hS.2.2 dX6_isTold_12
def f_X6_gapUnshifted (o0 : Ob) (v1 : Int32) (v2 : Int32) (v3 : Int32) : Option (Int32) := (f_X7_cell 7 (o0.2 3) v1).bind fun q1 : Int32 => (f_X6_dampInch o0 q1 v3).bind fun q2 : Int32 => (f_X7_cell 12 (o0.2 0) v2).bind fun q3 : Int32 => some (q2 - q3)
abbrev rmX6_gapUnshifted : Room := { frames := 2, cells := 0, slots := 0, locals := 44 }
theorem dsc_X6_gapUnshifted : yX6_gapUnshifted.cls ≠ "java/lang/invoke/MethodHandle" ∧ yX6_gapUnshifted.cls ≠ "java/lang/invoke/VarHandle" ∧ (parseMethodDescriptor yX6_gapUnshifted.desc).map (fun d => d.parameters.length) = some 3 := by decide +kernel
set_option maxHeartbeats 4000000 in
set_option maxRecDepth 100000 in
theorem c_X6_gapUnshifted (l : Launch) (dC : Nat → ClassId) (dI : Nat → Nat → Nat) (cB cI cZ cO : ClassId) (a0 : Nat) (g0 : Nat → Nat) (o0 : Ob) (v1 : Int32) (v2 : Int32) (v3 : Int32) {r : Int32} (h : f_X6_gapUnshifted o0 v1 v2 v3 = some r) : Ct dC dI cB cI cZ cO l yX6_gapUnshifted wsX6_gapUnshifted rmX6_gapUnshifted [.ref a0, .int v1, .int v2, .int v3] ([cX6 a0 g0 o0, cX6_0 cI g0 o0, cX6_1 cI g0 o0, cX6_2 cI g0 o0, cX6_3 cI g0 o0, cX6_4 cI g0 o0, cX6_5 cI g0 o0, cX6_6 cI g0 o0, cX6_7 cI g0 o0]) (some (.int r)) ([cX6 a0 g0 o0, cX6_0 cI g0 o0, cX6_1 cI g0 o0, cX6_2 cI g0 o0, cX6_3 cI g0 o0, cX6_4 cI g0 o0, cX6_5 cI g0 o0, cX6_6 cI g0 o0, cX6_7 cI g0 o0]) := by
  intro sz
  refine Met.ofW (cc := cX6_gapUnshifted) (maxL := 4) (ret := (some .int)) (by decide) rfl ?_
  intro p e s m args below meth c s₁ B hml hv
  obtain ⟨rfl, hsz, hP, hKK, hD0⟩ := hv
  have hx := B.exec
  have hb := B.bytes
  have hr := B.returns
  have hts := atoms_spec (ws := wsX6_gapUnshifted) B.pre
  have hown : s.vm.findClass RX6 = some m.cls := findClass_of_methodNamed B.named
  have hlocks := B.notSynchronized
  have hiX6 : ∀ w ∈ u_ws RX6 TX6 11, w ∈ wsX6_gapUnshifted := fun w h => List.mem_cons_of_mem _ (List.mem_append_right _ h)
  subst hsz
  have hD := hD0.self (sz := s.heap.size)
  generalize hAe : va_A ([cX6 a0 g0 o0, cX6_0 cI g0 o0, cX6_1 cI g0 o0, cX6_2 cI g0 o0, cX6_3 cI g0 o0, cX6_4 cI g0 o0, cX6_5 cI g0 o0, cX6_6 cI g0 o0, cX6_7 cI g0 o0]) s.heap.size = A at hD ⊢
  have hA : ∀ q : Nat, s.heap.size ≤ q → A q := fun q h => by rw [← hAe]; exact Or.inr h
  have hS : va_S A s.heap s.heap [] := va_S.rf
  have hP : va_P (dC, dI) vwCl ([cX6 a0 g0 o0, cX6_0 cI g0 o0, cX6_1 cI g0 o0, cX6_2 cI g0 o0, cX6_3 cI g0 o0, cX6_4 cI g0 o0, cX6_5 cI g0 o0, cX6_6 cI g0 o0, cX6_7 cI g0 o0]) s.heap := hP
  have hD : va_D A ([cX6 a0 g0 o0, cX6_0 cI g0 o0, cX6_1 cI g0 o0, cX6_2 cI g0 o0, cX6_3 cI g0 o0, cX6_4 cI g0 o0, cX6_5 cI g0 o0, cX6_6 cI g0 o0, cX6_7 cI g0 o0]) := hD
  have hl := lv_entry ([.ref a0, .int v1, .int v2, .int v3]) (n := 4) (Nat.le_of_ble_eq_true rfl)
  rw [lg_entry_eq]
  generalize (lg_sl ([.ref a0, .int v1, .int v2, .int v3]) ++ List.replicate (4 - (lg_sl ([.ref a0, .int v1, .int v2, .int v3])).length) Slot.unset).toArray = ls at hl ⊢
  have hl : lv_has ls 4 [(0, .ref a0), (1, .int v1), (2, .int v2), (3, .int v3)] := hl
  obtain ⟨Q, hQ⟩ : ∃ Q, Q = MQ below (Qq dC dI (some (.int r)) ([cX6 a0 g0 o0, cX6_0 cI g0 o0, cX6_1 cI g0 o0, cX6_2 cI g0 o0, cX6_3 cI g0 o0, cX6_4 cI g0 o0, cX6_5 cI g0 o0, cX6_6 cI g0 o0, cX6_7 cI g0 o0]) A) ([.ref a0, .int v1, .int v2, .int v3] : List Value).toArray s 0 0 A := ⟨_, rfl⟩
  rw [← hQ]
  rw [f_X6_gapUnshifted] at h
  clear hAe hD0
  refine lv_aload_n hx hb dX6_gapUnshifted_0 rfl (lv_at hl 0 rfl) ?_
  refine lv_aload_n hx hb dX6_gapUnshifted_1 rfl (lv_at hl 0 rfl) ?_
  refine va_get (D := (dC, dI)) (ci := 6) (v := .ref (g0 3)) (C := RX6) (T := TX6) (N := 11) hx hb hts hiX6 hown hKK.1 hP 0 rfl rfl 3 (by decide) (hts (.fieldLink RX6 21 "SlideLand$Told" "stripInch" "[I") (List.mem_of_getElem? (i := 1) rfl)) (fun _ h9 => h9) rfl dX6_gapUnshifted_2 ?_
  refine lv_iload_n hx hb dX6_gapUnshifted_5 rfl (lv_at hl 1 rfl) ?_
  obtain ⟨q1, hq1, h⟩ := obd_e h
  refine kcN (rest := [.ref a0]) (w2 := ([cX6 a0 g0 o0, cX6_0 cI g0 o0, cX6_1 cI g0 o0, cX6_2 cI g0 o0, cX6_3 cI g0 o0, cX6_4 cI g0 o0, cX6_5 cI g0 o0, cX6_6 cI g0 o0, cX6_7 cI g0 o0])) hx hb hml hown hts hKK hP hD hS hA (c_X7_cell l dC dI cB cI cZ cO (g0 3) 7 (o0.2 3) v1 hq1) [4] (atAll_map ⟨rfl, trivial⟩) (by decide +kernel) (sameAd_map ⟨rfl, trivial⟩) (atAll_map ⟨rfl, trivial⟩) (agr_refl _ _ _) ⟨va_cnB 2 hts gX6_gapUnshifted_X7_cell_n77 rfl rfl rfl (hKK.2 _ (nws_in 3 rfl)) (hts (.initialized RX7) (List.mem_of_getElem? (i := 4) rfl)) dsc_X7_cell ⟨Nat.le_of_ble_eq_true rfl, Nat.le_of_ble_eq_true rfl⟩, hts (.static yX7_cell) (List.mem_of_getElem? (i := 3) rfl), trivial⟩ rfl hl.1 rfl (Nat.le_of_ble_eq_true rfl) dX6_gapUnshifted_6 ⟨Nat.zero_le _, Nat.zero_le _⟩ (fun H locs hP hD hS => ?_)
  refine lv_iload_n hx hb dX6_gapUnshifted_9 rfl (lv_at hl 3 rfl) ?_
  obtain ⟨q2, hq2, h⟩ := obd_e h
  refine kcV (rest := []) (w2 := ([cX6 a0 g0 o0, cX6_0 cI g0 o0, cX6_1 cI g0 o0, cX6_2 cI g0 o0, cX6_3 cI g0 o0, cX6_4 cI g0 o0, cX6_5 cI g0 o0, cX6_6 cI g0 o0, cX6_7 cI g0 o0])) hx hb hml hown hts hKK hP hD hS hA (c_X6_dampInch l dC dI cB cI cZ cO a0 g0 o0 q1 v3 hq2) [0, 1, 2, 3, 4, 5, 6, 7, 8] (atAll_map ⟨rfl, rfl, rfl, rfl, rfl, rfl, rfl, rfl, rfl, trivial⟩) (by decide +kernel) (sameAd_map ⟨rfl, rfl, rfl, rfl, rfl, rfl, rfl, rfl, rfl, trivial⟩) (atAll_map ⟨rfl, rfl, rfl, rfl, rfl, rfl, rfl, rfl, rfl, trivial⟩) (agr_refl _ _ _) (cwV 2 hts gX6_gapUnshifted_X6_dampInch rfl rfl rfl ⟨rfl, dsc_X6_dampInch⟩ ⟨Nat.le_of_ble_eq_true rfl, Nat.le_of_ble_eq_true rfl⟩) (va_recv hKK.1 hP (ci := 6) (q0 := 0) rfl rfl) rfl hl.1 rfl (Nat.le_of_ble_eq_true rfl) dX6_gapUnshifted_10 ⟨Nat.zero_le _, Nat.zero_le _⟩ (fun H locs hP hD hS => ?_)
  refine lv_aload_n hx hb dX6_gapUnshifted_13 rfl (lv_at hl 0 rfl) ?_
  refine va_get (D := (dC, dI)) (ci := 6) (v := .ref (g0 0)) (C := RX6) (T := TX6) (N := 11) hx hb hts hiX6 hown hKK.1 hP 0 rfl rfl 0 (by decide) (hts (.fieldLink RX6 9 "SlideLand$Told" "oneInch" "[I") (List.mem_of_getElem? (i := 2) rfl)) (fun _ h9 => h9) rfl dX6_gapUnshifted_14 ?_
  refine lv_iload_n hx hb dX6_gapUnshifted_17 rfl (lv_at hl 2 rfl) ?_
  obtain ⟨q3, hq3, h⟩ := obd_e h
  refine kcN (rest := [.int q2]) (w2 := ([cX6 a0 g0 o0, cX6_0 cI g0 o0, cX6_1 cI g0 o0, cX6_2 cI g0 o0, cX6_3 cI g0 o0, cX6_4 cI g0 o0, cX6_5 cI g0 o0, cX6_6 cI g0 o0, cX6_7 cI g0 o0])) hx hb hml hown hts hKK hP hD hS hA (c_X7_cell l dC dI cB cI cZ cO (g0 0) 12 (o0.2 0) v2 hq3) [1] (atAll_map ⟨rfl, trivial⟩) (by decide +kernel) (sameAd_map ⟨rfl, trivial⟩) (atAll_map ⟨rfl, trivial⟩) (agr_refl _ _ _) ⟨va_cnB 2 hts gX6_gapUnshifted_X7_cell_n77 rfl rfl rfl (hKK.2 _ (nws_in 3 rfl)) (hts (.initialized RX7) (List.mem_of_getElem? (i := 4) rfl)) dsc_X7_cell ⟨Nat.le_of_ble_eq_true rfl, Nat.le_of_ble_eq_true rfl⟩, hts (.static yX7_cell) (List.mem_of_getElem? (i := 3) rfl), trivial⟩ rfl hl.1 rfl (Nat.le_of_ble_eq_true rfl) dX6_gapUnshifted_18 ⟨Nat.zero_le _, Nat.zero_le _⟩ (fun H locs hP hD hS => ?_)
  refine lv_isub hx hb dX6_gapUnshifted_21 ?_
  have h := Option.some.inj h
  subst h
  subst hQ
  exact W.iret (v := (q2 - q3)) hx hb hr (fun t ht hW => ⟨⟨rfl, by rw [ht]; exact hP, hD⟩, hS.F ht⟩) hS.2.2 dX6_gapUnshifted_22
def f_X6_metFrom_53 (x13_5 : Int32) (kL13 : (Int32 → Int32 → Option (Int32))) (x53_4 : Int32) : Option (Int32) := bnd (x13_5 + (1 : Int32)) fun x4 : Int32 => kL13 x53_4 x4
def f_X6_metFrom_13 (o0 : Ob) (q1 : Int32) : Nat → Int32 → Int32 → Option (Int32)
  | 0, _, _ => none
  | nn13+1, x13_4, x13_5 => if (12 : Int32) ≤ x13_5 then (some x13_4) else ((f_X6_isTold o0 x13_5).bind fun q3 : Bool => if (b2i q3) = 0 then (f_X6_metFrom_53 x13_5 (f_X6_metFrom_13 o0 q1 nn13) x13_4) else ((f_X7_cell 12 (o0.2 0) x13_5).bind fun q6 : Int32 => bnd (f_X7_within (q1 - q6) (-40 : Int32) (40 : Int32)) fun q7 : Bool => if (b2i q7) = 0 then (f_X6_metFrom_53 x13_5 (f_X6_metFrom_13 o0 q1 nn13) x13_4) else (bnd (x13_4 + (1 : Int32)) fun x9 : Int32 => f_X6_metFrom_53 x13_5 (f_X6_metFrom_13 o0 q1 nn13) x9)))
def f_X6_metFrom (o0 : Ob) (v1 : Int32) (v2 : Int32) : Option (Int32) := (f_X6_dampInch o0 v1 v2).bind fun q1 : Int32 => f_X6_metFrom_13 o0 q1 FU (0 : Int32) (0 : Int32)
abbrev rmX6_metFrom : Room := { frames := 3, cells := 0, slots := 0, locals := 65 }
theorem dsc_X6_metFrom : yX6_metFrom.cls ≠ "java/lang/invoke/MethodHandle" ∧ yX6_metFrom.cls ≠ "java/lang/invoke/VarHandle" ∧ (parseMethodDescriptor yX6_metFrom.desc).map (fun d => d.parameters.length) = some 2 := by decide +kernel
set_option maxHeartbeats 4000000 in
set_option maxRecDepth 100000 in
theorem c_X6_metFrom (l : Launch) (dC : Nat → ClassId) (dI : Nat → Nat → Nat) (cB cI cZ cO : ClassId) (a0 : Nat) (g0 : Nat → Nat) (o0 : Ob) (v1 : Int32) (v2 : Int32) {r : Int32} (h : f_X6_metFrom o0 v1 v2 = some r) : Ct dC dI cB cI cZ cO l yX6_metFrom wsX6_metFrom rmX6_metFrom [.ref a0, .int v1, .int v2] ([cX6 a0 g0 o0, cX6_0 cI g0 o0, cX6_1 cI g0 o0, cX6_2 cI g0 o0, cX6_3 cI g0 o0, cX6_4 cI g0 o0, cX6_5 cI g0 o0, cX6_6 cI g0 o0, cX6_7 cI g0 o0]) (some (.int r)) ([cX6 a0 g0 o0, cX6_0 cI g0 o0, cX6_1 cI g0 o0, cX6_2 cI g0 o0, cX6_3 cI g0 o0, cX6_4 cI g0 o0, cX6_5 cI g0 o0, cX6_6 cI g0 o0, cX6_7 cI g0 o0]) := by
  intro sz
  refine Met.ofW (cc := cX6_metFrom) (maxL := 6) (ret := (some .int)) (by decide) rfl ?_
  intro p e s m args below meth c s₁ B hml hv
  obtain ⟨rfl, hsz, hP, hKK, hD0⟩ := hv
  have hx := B.exec
  have hb := B.bytes
  have hr := B.returns
  have hts := atoms_spec (ws := wsX6_metFrom) B.pre
  have hown : s.vm.findClass RX6 = some m.cls := findClass_of_methodNamed B.named
  have hlocks := B.notSynchronized
  have hiX6 : ∀ w ∈ u_ws RX6 TX6 11, w ∈ wsX6_metFrom := fun w h => List.mem_cons_of_mem _ (List.mem_append_right _ h)
  subst hsz
  have hD := hD0.self (sz := s.heap.size)
  generalize hAe : va_A ([cX6 a0 g0 o0, cX6_0 cI g0 o0, cX6_1 cI g0 o0, cX6_2 cI g0 o0, cX6_3 cI g0 o0, cX6_4 cI g0 o0, cX6_5 cI g0 o0, cX6_6 cI g0 o0, cX6_7 cI g0 o0]) s.heap.size = A at hD ⊢
  have hA : ∀ q : Nat, s.heap.size ≤ q → A q := fun q h => by rw [← hAe]; exact Or.inr h
  have hS : va_S A s.heap s.heap [] := va_S.rf
  have hP : va_P (dC, dI) vwCl ([cX6 a0 g0 o0, cX6_0 cI g0 o0, cX6_1 cI g0 o0, cX6_2 cI g0 o0, cX6_3 cI g0 o0, cX6_4 cI g0 o0, cX6_5 cI g0 o0, cX6_6 cI g0 o0, cX6_7 cI g0 o0]) s.heap := hP
  have hD : va_D A ([cX6 a0 g0 o0, cX6_0 cI g0 o0, cX6_1 cI g0 o0, cX6_2 cI g0 o0, cX6_3 cI g0 o0, cX6_4 cI g0 o0, cX6_5 cI g0 o0, cX6_6 cI g0 o0, cX6_7 cI g0 o0]) := hD
  have hl := lv_entry ([.ref a0, .int v1, .int v2]) (n := 6) (Nat.le_of_ble_eq_true rfl)
  rw [lg_entry_eq]
  generalize (lg_sl ([.ref a0, .int v1, .int v2]) ++ List.replicate (6 - (lg_sl ([.ref a0, .int v1, .int v2])).length) Slot.unset).toArray = ls at hl ⊢
  have hl : lv_has ls 6 [(0, .ref a0), (1, .int v1), (2, .int v2)] := hl
  obtain ⟨Q, hQ⟩ : ∃ Q, Q = MQ below (Qq dC dI (some (.int r)) ([cX6 a0 g0 o0, cX6_0 cI g0 o0, cX6_1 cI g0 o0, cX6_2 cI g0 o0, cX6_3 cI g0 o0, cX6_4 cI g0 o0, cX6_5 cI g0 o0, cX6_6 cI g0 o0, cX6_7 cI g0 o0]) A) ([.ref a0, .int v1, .int v2] : List Value).toArray s 0 0 A := ⟨_, rfl⟩
  rw [← hQ]
  rw [f_X6_metFrom] at h
  clear hAe hD0
  refine lv_aload_n hx hb dX6_metFrom_0 rfl (lv_at hl 0 rfl) ?_
  refine lv_iload_n hx hb dX6_metFrom_1 rfl (lv_at hl 1 rfl) ?_
  refine lv_iload_n hx hb dX6_metFrom_2 rfl (lv_at hl 2 rfl) ?_
  obtain ⟨q1, hq1, h⟩ := obd_e h
  refine kcV (rest := []) (w2 := ([cX6 a0 g0 o0, cX6_0 cI g0 o0, cX6_1 cI g0 o0, cX6_2 cI g0 o0, cX6_3 cI g0 o0, cX6_4 cI g0 o0, cX6_5 cI g0 o0, cX6_6 cI g0 o0, cX6_7 cI g0 o0])) hx hb hml hown hts hKK hP hD hS hA (c_X6_dampInch l dC dI cB cI cZ cO a0 g0 o0 v1 v2 hq1) [0, 1, 2, 3, 4, 5, 6, 7, 8] (atAll_map ⟨rfl, rfl, rfl, rfl, rfl, rfl, rfl, rfl, rfl, trivial⟩) (by decide +kernel) (sameAd_map ⟨rfl, rfl, rfl, rfl, rfl, rfl, rfl, rfl, rfl, trivial⟩) (atAll_map ⟨rfl, rfl, rfl, rfl, rfl, rfl, rfl, rfl, rfl, trivial⟩) (agr_refl _ _ _) (cwV 2 hts gX6_metFrom_X6_dampInch rfl rfl rfl ⟨rfl, dsc_X6_dampInch⟩ ⟨Nat.le_of_ble_eq_true rfl, Nat.le_of_ble_eq_true rfl⟩) (va_recv hKK.1 hP (ci := 6) (q0 := 0) rfl rfl) rfl hl.1 rfl (Nat.le_of_ble_eq_true rfl) dX6_metFrom_3 ⟨Nat.zero_le _, Nat.zero_le _⟩ (fun H locs hP hD hS => ?_)
  refine lv_istore_n (lv' := [(3, .int q1), (0, .ref a0), (1, .int v1), (2, .int v2)]) hx hb dX6_metFrom_6 rfl hl (by decide) rfl (fun ls hl => ?_)
  refine lv_iconst (v := (0 : Int32)) hx hb dX6_metFrom_7 (by decide) ?_
  refine lv_istore (lv' := [(4, .int (0 : Int32)), (3, .int q1), (0, .ref a0), (1, .int v1), (2, .int v2)]) hx hb dX6_metFrom_8 hl (by decide) rfl (fun ls hl => ?_)
  refine lv_iconst (v := (0 : Int32)) hx hb dX6_metFrom_10 (by decide) ?_
  refine lv_istore (lv' := [(5, .int (0 : Int32)), (4, .int (0 : Int32)), (3, .int q1), (0, .ref a0), (1, .int v1), (2, .int v2)]) hx hb dX6_metFrom_11 hl (by decide) rfl (fun ls hl => ?_)
  have lp13 : ∀ (nn13 : Nat) (x13_4 : Int32) (x13_5 : Int32), f_X6_metFrom_13 o0 q1 nn13 x13_4 x13_5 = some r → ∀ (H : Heap) (locs : List Loc) (ls : Array Slot), va_P (dC, dI) vwCl ([cX6 a0 g0 o0, cX6_0 cI g0 o0, cX6_1 cI g0 o0, cX6_2 cI g0 o0, cX6_3 cI g0 o0, cX6_4 cI g0 o0, cX6_5 cI g0 o0, cX6_6 cI g0 o0, cX6_7 cI g0 o0]) H → va_D A ([cX6 a0 g0 o0, cX6_0 cI g0 o0, cX6_1 cI g0 o0, cX6_2 cI g0 o0, cX6_3 cI g0 o0, cX6_4 cI g0 o0, cX6_5 cI g0 o0, cX6_6 cI g0 o0, cX6_7 cI g0 o0]) → va_S A s.heap H locs → lv_has ls 6 [(0, .ref a0), (3, .int q1), (4, .int x13_4), (5, .int x13_5)] → W p l e (headSpec wsX6_metFrom rmX6_metFrom).room s m ([.ref a0, .int v1, .int v2] : List Value).toArray below meth c H locs 0 0 Q (F0 m 13 ls []) := by
    intro nn13
    induction nn13 with
    | zero => intro x13_4 x13_5 h; rw [f_X6_metFrom_13] at h; cases h
    | succ nn13 ih13 =>
      intro x13_4 x13_5 h H locs ls hP hD hS hl
      rw [f_X6_metFrom_13] at h
      refine lv_iload hx hb dX6_metFrom_13 (lv_at hl 3 rfl) ?_
      refine lv_bipush (v := (12 : Int32)) hx hb dX6_metFrom_15 (by decide) ?_
      refine lv_icmp_ge (tgt := 59) hx hb dX6_metFrom_17 (by decide) (fun k2 => ?_) (fun k2 => ?_)
      · have h := ite_t k2 h
        refine lv_iload hx hb dX6_metFrom_59 (lv_at hl 2 rfl) ?_
        have h := Option.some.inj h
        subst h
        subst hQ
        exact W.iret (v := x13_4) hx hb hr (fun t ht hW => ⟨⟨rfl, by rw [ht]; exact hP, hD⟩, hS.F ht⟩) hS.2.2 dX6_metFrom_61
      · have h := ite_f k2 h
        refine lv_aload_n hx hb dX6_metFrom_20 rfl (lv_at hl 0 rfl) ?_
        refine lv_iload hx hb dX6_metFrom_21 (lv_at hl 3 rfl) ?_
        obtain ⟨q3, hq3, h⟩ := obd_e h
        refine kcV (rest := []) (w2 := ([cX6 a0 g0 o0, cX6_0 cI g0 o0, cX6_1 cI g0 o0, cX6_2 cI g0 o0, cX6_3 cI g0 o0, cX6_4 cI g0 o0, cX6_5 cI g0 o0, cX6_6 cI g0 o0, cX6_7 cI g0 o0])) hx hb hml hown hts hKK hP hD hS hA (c_X6_isTold l dC dI cB cI cZ cO a0 g0 o0 x13_5 hq3) [0, 1, 2, 3, 4, 5, 6, 7, 8] (atAll_map ⟨rfl, rfl, rfl, rfl, rfl, rfl, rfl, rfl, rfl, trivial⟩) (by decide +kernel) (sameAd_map ⟨rfl, rfl, rfl, rfl, rfl, rfl, rfl, rfl, rfl, trivial⟩) (atAll_map ⟨rfl, rfl, rfl, rfl, rfl, rfl, rfl, rfl, rfl, trivial⟩) (agr_refl _ _ _) (cwV 1 hts gX6_metFrom_X6_isTold rfl rfl rfl ⟨rfl, dsc_X6_isTold⟩ ⟨Nat.le_of_ble_eq_true rfl, Nat.le_of_ble_eq_true rfl⟩) (va_recv hKK.1 hP (ci := 6) (q0 := 0) rfl rfl) rfl hl.1 rfl (Nat.le_of_ble_eq_true rfl) dX6_metFrom_23 ⟨Nat.zero_le _, Nat.zero_le _⟩ (fun H locs hP hD hS => ?_)
        have jn53 : ∀ (x53_4 : Int32), f_X6_metFrom_53 x13_5 (f_X6_metFrom_13 o0 q1 nn13) x53_4 = some r → ∀ (H : Heap) (locs : List Loc) (ls : Array Slot), va_P (dC, dI) vwCl ([cX6 a0 g0 o0, cX6_0 cI g0 o0, cX6_1 cI g0 o0, cX6_2 cI g0 o0, cX6_3 cI g0 o0, cX6_4 cI g0 o0, cX6_5 cI g0 o0, cX6_6 cI g0 o0, cX6_7 cI g0 o0]) H → va_D A ([cX6 a0 g0 o0, cX6_0 cI g0 o0, cX6_1 cI g0 o0, cX6_2 cI g0 o0, cX6_3 cI g0 o0, cX6_4 cI g0 o0, cX6_5 cI g0 o0, cX6_6 cI g0 o0, cX6_7 cI g0 o0]) → va_S A s.heap H locs → lv_has ls 6 [(0, .ref a0), (3, .int q1), (4, .int x53_4), (5, .int x13_5)] → W p l e (headSpec wsX6_metFrom rmX6_metFrom).room s m ([.ref a0, .int v1, .int v2] : List Value).toArray below meth c H locs 0 0 Q (F0 m 53 ls []) := by
          intro x53_4 h H locs ls hP hD hS hl
          rw [f_X6_metFrom_53] at h
          obtain ⟨x4, hx4, h⟩ := bnd_e h
          refine lv_iinc (v := x4) (lv' := [(5, .int x4), (0, .ref a0), (3, .int q1), (4, .int x53_4)]) hx hb dX6_metFrom_53 hl (k := 3) rfl (by rw [← hx4]; rfl) (by decide) rfl (fun ls hl => ?_)
          refine lv_goto (tgt := 13) hx hb dX6_metFrom_56 (by decide) ?_
          exact ih13 x53_4 x4 h _ _ _ hP hD hS (lv_sub hl [1, 2, 3, 0] rfl)
        refine lv_if_eq (tgt := 53) hx hb dX6_metFrom_26 (by decide) (fun k5 => ?_) (fun k5 => ?_)
        · have h := ite_t k5 h
          exact jn53 x13_4 h _ _ _ hP hD hS (lv_sub hl [0, 1, 2, 3] rfl)
        · have h := ite_f k5 h
          refine lv_iload_n hx hb dX6_metFrom_29 rfl (lv_at hl 1 rfl) ?_
          refine lv_aload_n hx hb dX6_metFrom_30 rfl (lv_at hl 0 rfl) ?_
          refine va_get (D := (dC, dI)) (ci := 6) (v := .ref (g0 0)) (C := RX6) (T := TX6) (N := 11) hx hb hts hiX6 hown hKK.1 hP 0 rfl rfl 0 (by decide) (hts (.fieldLink RX6 9 "SlideLand$Told" "oneInch" "[I") (List.mem_of_getElem? (i := 1) rfl)) (fun _ h9 => h9) rfl dX6_metFrom_31 ?_
          refine lv_iload hx hb dX6_metFrom_34 (lv_at hl 3 rfl) ?_
          obtain ⟨q6, hq6, h⟩ := obd_e h
          refine kcN (rest := [.int q1]) (w2 := ([cX6 a0 g0 o0, cX6_0 cI g0 o0, cX6_1 cI g0 o0, cX6_2 cI g0 o0, cX6_3 cI g0 o0, cX6_4 cI g0 o0, cX6_5 cI g0 o0, cX6_6 cI g0 o0, cX6_7 cI g0 o0])) hx hb hml hown hts hKK hP hD hS hA (c_X7_cell l dC dI cB cI cZ cO (g0 0) 12 (o0.2 0) x13_5 hq6) [1] (atAll_map ⟨rfl, trivial⟩) (by decide +kernel) (sameAd_map ⟨rfl, trivial⟩) (atAll_map ⟨rfl, trivial⟩) (agr_refl _ _ _) ⟨va_cnB 2 hts gX6_metFrom_X7_cell_n77 rfl rfl rfl (hKK.2 _ (nws_in 3 rfl)) (hts (.initialized RX7) (List.mem_of_getElem? (i := 18) rfl)) dsc_X7_cell ⟨Nat.le_of_ble_eq_true rfl, Nat.le_of_ble_eq_true rfl⟩, hts (.static yX7_cell) (List.mem_of_getElem? (i := 29) rfl), trivial⟩ rfl hl.1 rfl (Nat.le_of_ble_eq_true rfl) dX6_metFrom_36 ⟨Nat.zero_le _, Nat.zero_le _⟩ (fun H locs hP hD hS => ?_)
          refine lv_isub hx hb dX6_metFrom_39 ?_
          refine lv_bipush (v := (-40 : Int32)) hx hb dX6_metFrom_40 (by decide) ?_
          refine lv_bipush (v := (40 : Int32)) hx hb dX6_metFrom_42 (by decide) ?_
          obtain ⟨q7, hq7, h⟩ := bnd_e h
          refine kcN (rest := []) (w2 := ([cX6 a0 g0 o0, cX6_0 cI g0 o0, cX6_1 cI g0 o0, cX6_2 cI g0 o0, cX6_3 cI g0 o0, cX6_4 cI g0 o0, cX6_5 cI g0 o0, cX6_6 cI g0 o0, cX6_7 cI g0 o0])) hx hb hml hown hts hKK hP hD hS hA (c_X7_within l dC dI cB cI cZ cO (q1 - q6) (-40 : Int32) (40 : Int32) hq7) [] (atAll_map trivial) (by decide +kernel) (sameAd_map trivial) (atAll_map trivial) (agr_refl _ _ _) ⟨va_cnB 3 hts gX6_metFrom_X7_within_n98 rfl rfl rfl (hKK.2 _ (nws_in 5 rfl)) (hts (.initialized RX7) (List.mem_of_getElem? (i := 18) rfl)) dsc_X7_within ⟨Nat.le_of_ble_eq_true rfl, Nat.le_of_ble_eq_true rfl⟩, hts (.static yX7_within) (List.mem_of_getElem? (i := 27) rfl), trivial⟩ rfl hl.1 rfl (Nat.le_of_ble_eq_true rfl) dX6_metFrom_44 ⟨Nat.zero_le _, Nat.zero_le _⟩ (fun H locs hP hD hS => ?_)
          refine lv_if_eq (tgt := 53) hx hb dX6_metFrom_47 (by decide) (fun k8 => ?_) (fun k8 => ?_)
          · have h := ite_t k8 h
            exact jn53 x13_4 h _ _ _ hP hD hS (lv_sub hl [0, 1, 2, 3] rfl)
          · have h := ite_f k8 h
            obtain ⟨x9, hx9, h⟩ := bnd_e h
            refine lv_iinc (v := x9) (lv' := [(4, .int x9), (0, .ref a0), (3, .int q1), (5, .int x13_5)]) hx hb dX6_metFrom_50 hl (k := 2) rfl (by rw [← hx9]; rfl) (by decide) rfl (fun ls hl => ?_)
            exact jn53 x9 h _ _ _ hP hD hS (lv_sub hl [1, 2, 0, 3] rfl)
  exact lp13 FU (0 : Int32) (0 : Int32) h _ _ _ hP hD hS (lv_sub hl [3, 2, 1, 0] rfl)
def f_X2_append (o0 : Ob) (v1 : Int32) : Option (Bool × Ob) := if (o0.1 1) < (200 : Int32) then ((f_X7_setCell 200 (o0.2 0) (o0.1 1) v1).bind fun q2 : (Nat → Int32) => bnd ((o0.1 1) + (1 : Int32)) fun x3 : Int32 => some (true, (stR (stF o0 1 x3) 0 q2))) else (some (false, o0))
abbrev rmX2_append : Room := { frames := 1, cells := 0, slots := 0, locals := 22 }
theorem dsc_X2_append : yX2_append.cls ≠ "java/lang/invoke/MethodHandle" ∧ yX2_append.cls ≠ "java/lang/invoke/VarHandle" ∧ (parseMethodDescriptor yX2_append.desc).map (fun d => d.parameters.length) = some 1 := by decide +kernel
set_option maxHeartbeats 4000000 in
set_option maxRecDepth 100000 in
theorem c_X2_append (l : Launch) (dC : Nat → ClassId) (dI : Nat → Nat → Nat) (cB cI cZ cO : ClassId) (a0 : Nat) (g0 : Nat → Nat) (o0 : Ob) (v1 : Int32) {r : Bool × Ob} (h : f_X2_append o0 v1 = some r) : Ct dC dI cB cI cZ cO l yX2_append wsX2_append rmX2_append [.ref a0, .int v1] ([cX2 a0 g0 o0, cX2_0 cI g0 o0]) (some (.int (b2i r.1))) ([cX2 a0 g0 r.2, cX2_0 cI g0 r.2]) := by
  intro sz
  refine Met.ofW (cc := cX2_append) (maxL := 2) (ret := (some .boolean)) (by decide) rfl ?_
  intro p e s m args below meth c s₁ B hml hv
  obtain ⟨rfl, hsz, hP, hKK, hD0⟩ := hv
  have hx := B.exec
  have hb := B.bytes
  have hr := B.returns
  have hts := atoms_spec (ws := wsX2_append) B.pre
  have hown : s.vm.findClass RX2 = some m.cls := findClass_of_methodNamed B.named
  have hlocks := B.notSynchronized
  have hiX2 : ∀ w ∈ u_ws RX2 TX2 2, w ∈ wsX2_append := fun w h => List.mem_cons_of_mem _ (List.mem_append_right _ h)
  subst hsz
  have hD := hD0.self (sz := s.heap.size)
  generalize hAe : va_A ([cX2 a0 g0 o0, cX2_0 cI g0 o0]) s.heap.size = A at hD ⊢
  have hA : ∀ q : Nat, s.heap.size ≤ q → A q := fun q h => by rw [← hAe]; exact Or.inr h
  have hS : va_S A s.heap s.heap [] := va_S.rf
  have hP : va_P (dC, dI) vwCl ([cX2 a0 g0 o0, cX2_0 cI g0 o0]) s.heap := hP
  have hD : va_D A ([cX2 a0 g0 o0, cX2_0 cI g0 o0]) := hD
  have hl := lv_entry ([.ref a0, .int v1]) (n := 2) (Nat.le_of_ble_eq_true rfl)
  rw [lg_entry_eq]
  generalize (lg_sl ([.ref a0, .int v1]) ++ List.replicate (2 - (lg_sl ([.ref a0, .int v1])).length) Slot.unset).toArray = ls at hl ⊢
  have hl : lv_has ls 2 [(0, .ref a0), (1, .int v1)] := hl
  obtain ⟨Q, hQ⟩ : ∃ Q, Q = MQ below (Qq dC dI (some (.int (b2i r.1))) ([cX2 a0 g0 r.2, cX2_0 cI g0 r.2]) A) ([.ref a0, .int v1] : List Value).toArray s 0 0 A := ⟨_, rfl⟩
  rw [← hQ]
  rw [f_X2_append] at h
  clear hAe hD0
  refine lv_aload_n hx hb dX2_append_0 rfl (lv_at hl 0 rfl) ?_
  refine va_get (D := (dC, dI)) (ci := 2) (v := .int (o0.1 1)) (C := RX2) (T := TX2) (N := 2) hx hb hts hiX2 hown hKK.1 hP 0 rfl rfl 1 (by decide) (hts (.fieldLink RX2 15 "SlideLand$Letters" "size" "I") (List.mem_of_getElem? (i := 1) rfl)) (fun _ h9 => h9) rfl dX2_append_1 ?_
  refine lv_sipush (v := (200 : Int32)) hx hb dX2_append_4 (by decide) ?_
  refine lv_icmp_lt (tgt := 12) hx hb dX2_append_7 (by decide) (fun k1 => ?_) (fun k1 => ?_)
  · have h := ite_t k1 h
    refine lv_aload_n hx hb dX2_append_12 rfl (lv_at hl 0 rfl) ?_
    refine va_get (D := (dC, dI)) (ci := 2) (v := .ref (g0 0)) (C := RX2) (T := TX2) (N := 2) hx hb hts hiX2 hown hKK.1 hP 0 rfl rfl 0 (by decide) (hts (.fieldLink RX2 9 "SlideLand$Letters" "letters" "[I") (List.mem_of_getElem? (i := 2) rfl)) (fun _ h9 => h9) rfl dX2_append_13 ?_
    refine lv_aload_n hx hb dX2_append_16 rfl (lv_at hl 0 rfl) ?_
    refine va_get (D := (dC, dI)) (ci := 2) (v := .int (o0.1 1)) (C := RX2) (T := TX2) (N := 2) hx hb hts hiX2 hown hKK.1 hP 0 rfl rfl 1 (by decide) (hts (.fieldLink RX2 15 "SlideLand$Letters" "size" "I") (List.mem_of_getElem? (i := 1) rfl)) (fun _ h9 => h9) rfl dX2_append_17 ?_
    refine lv_iload_n hx hb dX2_append_20 rfl (lv_at hl 1 rfl) ?_
    obtain ⟨q2, hq2, h⟩ := obd_e h
    refine kcN (rest := []) (w2 := ([cX2 a0 g0 (stR o0 0 q2), cX2_0 cI g0 (stR o0 0 q2)])) hx hb hml hown hts hKK hP hD hS hA (c_X7_setCell l dC dI cB cI cZ cO (g0 0) 200 (o0.2 0) (o0.1 1) v1 hq2) [1] (atAll_map ⟨rfl, trivial⟩) (by decide +kernel) (sameAd_map ⟨rfl, trivial⟩) (atAll_map ⟨rfl, trivial⟩) ⟨Or.inl rfl, Or.inr (by decide), trivial⟩ ⟨va_cnB 3 hts gX2_append_X7_setCell_n19 rfl rfl rfl (hKK.2 _ (nws_in 0 rfl)) (hts (.initialized RX7) (List.mem_of_getElem? (i := 4) rfl)) dsc_X7_setCell ⟨Nat.le_of_ble_eq_true rfl, Nat.le_of_ble_eq_true rfl⟩, hts (.static yX7_setCell) (List.mem_of_getElem? (i := 3) rfl), trivial⟩ rfl hl.1 rfl (Nat.le_of_ble_eq_true rfl) dX2_append_21 ⟨Nat.zero_le _, Nat.zero_le _⟩ (fun H locs hP hD hS => ?_)
    refine lv_aload_n hx hb dX2_append_24 rfl (lv_at hl 0 rfl) ?_
    refine lv_dup hx hb dX2_append_25 rfl ?_
    refine va_get (D := (dC, dI)) (ci := 2) (v := .int (o0.1 1)) (C := RX2) (T := TX2) (N := 2) hx hb hts hiX2 hown hKK.1 hP 0 rfl rfl 1 (by decide) (hts (.fieldLink RX2 15 "SlideLand$Letters" "size" "I") (List.mem_of_getElem? (i := 1) rfl)) (fun _ h9 => h9) rfl dX2_append_26 ?_
    refine lv_iconst (v := (1 : Int32)) hx hb dX2_append_29 (by decide) ?_
    refine lv_iadd hx hb dX2_append_30 ?_
    obtain ⟨x3, hx3, h⟩ := bnd_e h
    rw [hx3]
    refine va_put (D := (dC, dI)) (ci := 2) (v := .int x3) (ty := .int) (C := RX2) (T := TX2) (N := 2) hx hb hts hiX2 tyX2 tyX2_ok nmX2 hown hKK.1 hP hD hS 0 rfl rfl 1 (by decide) (hts (.fieldLink RX2 15 "SlideLand$Letters" "size" "I") (List.mem_of_getElem? (i := 1) rfl)) (fun _ h9 => h9) rfl (by decide +kernel) rfl rfl (Nat.le_of_ble_eq_true rfl) dX2_append_31 (fun H locs hP hD hS => ?_)
    have hP : va_P (dC, dI) vwCl ([cX2 a0 g0 (stR (stF o0 1 x3) 0 q2), cX2_0 cI g0 (stR (stF o0 1 x3) 0 q2)]) H := hP
    have hD : va_D A ([cX2 a0 g0 (stR (stF o0 1 x3) 0 q2), cX2_0 cI g0 (stR (stF o0 1 x3) 0 q2)]) := hD
    refine lv_iconst (v := (1 : Int32)) hx hb dX2_append_34 (by decide) ?_
    have h := Option.some.inj h
    subst h
    subst hQ
    exact W.zret (v := (1 : Int32)) hx hb hr rfl (fun t ht hW => ⟨⟨rfl, by rw [ht]; exact hP, hD⟩, hS.F ht⟩) hS.2.2 dX2_append_35
  · have h := ite_f k1 h
    refine lv_iconst (v := (0 : Int32)) hx hb dX2_append_10 (by decide) ?_
    have h := Option.some.inj h
    subst h
    subst hQ
    exact W.zret (v := (0 : Int32)) hx hb hr rfl (fun t ht hW => ⟨⟨rfl, by rw [ht]; exact hP, hD⟩, hS.F ht⟩) hS.2.2 dX2_append_11
def f_X2_letterAt (o0 : Ob) (v1 : Int32) : Option (Int32) := if (o0.1 1) ≤ v1 then (some (0 : Int32)) else ((f_X7_cell 200 (o0.2 0) v1).bind fun q2 : Int32 => some q2)
abbrev rmX2_letterAt : Room := { frames := 1, cells := 0, slots := 0, locals := 21 }
theorem dsc_X2_letterAt : yX2_letterAt.cls ≠ "java/lang/invoke/MethodHandle" ∧ yX2_letterAt.cls ≠ "java/lang/invoke/VarHandle" ∧ (parseMethodDescriptor yX2_letterAt.desc).map (fun d => d.parameters.length) = some 1 := by decide +kernel
set_option maxHeartbeats 4000000 in
set_option maxRecDepth 100000 in
theorem c_X2_letterAt (l : Launch) (dC : Nat → ClassId) (dI : Nat → Nat → Nat) (cB cI cZ cO : ClassId) (a0 : Nat) (g0 : Nat → Nat) (o0 : Ob) (v1 : Int32) {r : Int32} (h : f_X2_letterAt o0 v1 = some r) : Ct dC dI cB cI cZ cO l yX2_letterAt wsX2_letterAt rmX2_letterAt [.ref a0, .int v1] ([cX2 a0 g0 o0, cX2_0 cI g0 o0]) (some (.int r)) ([cX2 a0 g0 o0, cX2_0 cI g0 o0]) := by
  intro sz
  refine Met.ofW (cc := cX2_letterAt) (maxL := 2) (ret := (some .int)) (by decide) rfl ?_
  intro p e s m args below meth c s₁ B hml hv
  obtain ⟨rfl, hsz, hP, hKK, hD0⟩ := hv
  have hx := B.exec
  have hb := B.bytes
  have hr := B.returns
  have hts := atoms_spec (ws := wsX2_letterAt) B.pre
  have hown : s.vm.findClass RX2 = some m.cls := findClass_of_methodNamed B.named
  have hlocks := B.notSynchronized
  have hiX2 : ∀ w ∈ u_ws RX2 TX2 2, w ∈ wsX2_letterAt := fun w h => List.mem_cons_of_mem _ (List.mem_append_right _ h)
  subst hsz
  have hD := hD0.self (sz := s.heap.size)
  generalize hAe : va_A ([cX2 a0 g0 o0, cX2_0 cI g0 o0]) s.heap.size = A at hD ⊢
  have hA : ∀ q : Nat, s.heap.size ≤ q → A q := fun q h => by rw [← hAe]; exact Or.inr h
  have hS : va_S A s.heap s.heap [] := va_S.rf
  have hP : va_P (dC, dI) vwCl ([cX2 a0 g0 o0, cX2_0 cI g0 o0]) s.heap := hP
  have hD : va_D A ([cX2 a0 g0 o0, cX2_0 cI g0 o0]) := hD
  have hl := lv_entry ([.ref a0, .int v1]) (n := 2) (Nat.le_of_ble_eq_true rfl)
  rw [lg_entry_eq]
  generalize (lg_sl ([.ref a0, .int v1]) ++ List.replicate (2 - (lg_sl ([.ref a0, .int v1])).length) Slot.unset).toArray = ls at hl ⊢
  have hl : lv_has ls 2 [(0, .ref a0), (1, .int v1)] := hl
  obtain ⟨Q, hQ⟩ : ∃ Q, Q = MQ below (Qq dC dI (some (.int r)) ([cX2 a0 g0 o0, cX2_0 cI g0 o0]) A) ([.ref a0, .int v1] : List Value).toArray s 0 0 A := ⟨_, rfl⟩
  rw [← hQ]
  rw [f_X2_letterAt] at h
  clear hAe hD0
  refine lv_iload_n hx hb dX2_letterAt_0 rfl (lv_at hl 1 rfl) ?_
  refine lv_aload_n hx hb dX2_letterAt_1 rfl (lv_at hl 0 rfl) ?_
  refine va_get (D := (dC, dI)) (ci := 2) (v := .int (o0.1 1)) (C := RX2) (T := TX2) (N := 2) hx hb hts hiX2 hown hKK.1 hP 0 rfl rfl 1 (by decide) (hts (.fieldLink RX2 15 "SlideLand$Letters" "size" "I") (List.mem_of_getElem? (i := 1) rfl)) (fun _ h9 => h9) rfl dX2_letterAt_2 ?_
  refine lv_icmp_ge (tgt := 19) hx hb dX2_letterAt_5 (by decide) (fun k1 => ?_) (fun k1 => ?_)
  · have h := ite_t k1 h
    refine lv_iconst (v := (0 : Int32)) hx hb dX2_letterAt_19 (by decide) ?_
    have h := Option.some.inj h
    subst h
    subst hQ
    exact W.iret (v := (0 : Int32)) hx hb hr (fun t ht hW => ⟨⟨rfl, by rw [ht]; exact hP, hD⟩, hS.F ht⟩) hS.2.2 dX2_letterAt_20
  · have h := ite_f k1 h
    refine lv_aload_n hx hb dX2_letterAt_8 rfl (lv_at hl 0 rfl) ?_
    refine va_get (D := (dC, dI)) (ci := 2) (v := .ref (g0 0)) (C := RX2) (T := TX2) (N := 2) hx hb hts hiX2 hown hKK.1 hP 0 rfl rfl 0 (by decide) (hts (.fieldLink RX2 9 "SlideLand$Letters" "letters" "[I") (List.mem_of_getElem? (i := 2) rfl)) (fun _ h9 => h9) rfl dX2_letterAt_9 ?_
    refine lv_iload_n hx hb dX2_letterAt_12 rfl (lv_at hl 1 rfl) ?_
    obtain ⟨q2, hq2, h⟩ := obd_e h
    refine kcN (rest := []) (w2 := ([cX2 a0 g0 o0, cX2_0 cI g0 o0])) hx hb hml hown hts hKK hP hD hS hA (c_X7_cell l dC dI cB cI cZ cO (g0 0) 200 (o0.2 0) v1 hq2) [1] (atAll_map ⟨rfl, trivial⟩) (by decide +kernel) (sameAd_map ⟨rfl, trivial⟩) (atAll_map ⟨rfl, trivial⟩) (agr_refl _ _ _) ⟨va_cnB 2 hts gX2_letterAt_X7_cell_n23 rfl rfl rfl (hKK.2 _ (nws_in 2 rfl)) (hts (.initialized RX7) (List.mem_of_getElem? (i := 4) rfl)) dsc_X7_cell ⟨Nat.le_of_ble_eq_true rfl, Nat.le_of_ble_eq_true rfl⟩, hts (.static yX7_cell) (List.mem_of_getElem? (i := 3) rfl), trivial⟩ rfl hl.1 rfl (Nat.le_of_ble_eq_true rfl) dX2_letterAt_13 ⟨Nat.zero_le _, Nat.zero_le _⟩ (fun H locs hP hD hS => ?_)
    refine lv_goto (tgt := 20) hx hb dX2_letterAt_16 (by decide) ?_
    have h := Option.some.inj h
    subst h
    subst hQ
    exact W.iret (v := q2) hx hb hr (fun t ht hW => ⟨⟨rfl, by rw [ht]; exact hP, hD⟩, hS.F ht⟩) hS.2.2 dX2_letterAt_20
def f_X2_isFigureAt (o0 : Ob) (v1 : Int32) : Option (Bool) := (f_X2_letterAt o0 v1).bind fun q1 : Int32 => if q1 < (48 : Int32) then (some false) else (if (57 : Int32) < q1 then (some false) else (some true))
abbrev rmX2_isFigureAt : Room := { frames := 2, cells := 0, slots := 0, locals := 42 }
theorem dsc_X2_isFigureAt : yX2_isFigureAt.cls ≠ "java/lang/invoke/MethodHandle" ∧ yX2_isFigureAt.cls ≠ "java/lang/invoke/VarHandle" ∧ (parseMethodDescriptor yX2_isFigureAt.desc).map (fun d => d.parameters.length) = some 1 := by decide +kernel
set_option maxHeartbeats 4000000 in
set_option maxRecDepth 100000 in
theorem c_X2_isFigureAt (l : Launch) (dC : Nat → ClassId) (dI : Nat → Nat → Nat) (cB cI cZ cO : ClassId) (a0 : Nat) (g0 : Nat → Nat) (o0 : Ob) (v1 : Int32) {r : Bool} (h : f_X2_isFigureAt o0 v1 = some r) : Ct dC dI cB cI cZ cO l yX2_isFigureAt wsX2_isFigureAt rmX2_isFigureAt [.ref a0, .int v1] ([cX2 a0 g0 o0, cX2_0 cI g0 o0]) (some (.int (b2i r))) ([cX2 a0 g0 o0, cX2_0 cI g0 o0]) := by
  intro sz
  refine Met.ofW (cc := cX2_isFigureAt) (maxL := 3) (ret := (some .boolean)) (by decide) rfl ?_
  intro p e s m args below meth c s₁ B hml hv
  obtain ⟨rfl, hsz, hP, hKK, hD0⟩ := hv
  have hx := B.exec
  have hb := B.bytes
  have hr := B.returns
  have hts := atoms_spec (ws := wsX2_isFigureAt) B.pre
  have hown : s.vm.findClass RX2 = some m.cls := findClass_of_methodNamed B.named
  have hlocks := B.notSynchronized
  subst hsz
  have hD := hD0.self (sz := s.heap.size)
  generalize hAe : va_A ([cX2 a0 g0 o0, cX2_0 cI g0 o0]) s.heap.size = A at hD ⊢
  have hA : ∀ q : Nat, s.heap.size ≤ q → A q := fun q h => by rw [← hAe]; exact Or.inr h
  have hS : va_S A s.heap s.heap [] := va_S.rf
  have hP : va_P (dC, dI) vwCl ([cX2 a0 g0 o0, cX2_0 cI g0 o0]) s.heap := hP
  have hD : va_D A ([cX2 a0 g0 o0, cX2_0 cI g0 o0]) := hD
  have hl := lv_entry ([.ref a0, .int v1]) (n := 3) (Nat.le_of_ble_eq_true rfl)
  rw [lg_entry_eq]
  generalize (lg_sl ([.ref a0, .int v1]) ++ List.replicate (3 - (lg_sl ([.ref a0, .int v1])).length) Slot.unset).toArray = ls at hl ⊢
  have hl : lv_has ls 3 [(0, .ref a0), (1, .int v1)] := hl
  obtain ⟨Q, hQ⟩ : ∃ Q, Q = MQ below (Qq dC dI (some (.int (b2i r))) ([cX2 a0 g0 o0, cX2_0 cI g0 o0]) A) ([.ref a0, .int v1] : List Value).toArray s 0 0 A := ⟨_, rfl⟩
  rw [← hQ]
  rw [f_X2_isFigureAt] at h
  clear hAe hD0
  refine lv_aload_n hx hb dX2_isFigureAt_0 rfl (lv_at hl 0 rfl) ?_
  refine lv_iload_n hx hb dX2_isFigureAt_1 rfl (lv_at hl 1 rfl) ?_
  obtain ⟨q1, hq1, h⟩ := obd_e h
  refine kcV (rest := []) (w2 := ([cX2 a0 g0 o0, cX2_0 cI g0 o0])) hx hb hml hown hts hKK hP hD hS hA (c_X2_letterAt l dC dI cB cI cZ cO a0 g0 o0 v1 hq1) [0, 1] (atAll_map ⟨rfl, rfl, trivial⟩) (by decide +kernel) (sameAd_map ⟨rfl, rfl, trivial⟩) (atAll_map ⟨rfl, rfl, trivial⟩) (agr_refl _ _ _) (cwV 1 hts gX2_isFigureAt_X2_letterAt rfl rfl rfl ⟨rfl, dsc_X2_letterAt⟩ ⟨Nat.le_of_ble_eq_true rfl, Nat.le_of_ble_eq_true rfl⟩) (va_recv hKK.1 hP (ci := 2) (q0 := 0) rfl rfl) rfl hl.1 rfl (Nat.le_of_ble_eq_true rfl) dX2_isFigureAt_2 ⟨Nat.zero_le _, Nat.zero_le _⟩ (fun H locs hP hD hS => ?_)
  refine lv_istore_n (lv' := [(2, .int q1), (0, .ref a0), (1, .int v1)]) hx hb dX2_isFigureAt_5 rfl hl (by decide) rfl (fun ls hl => ?_)
  refine lv_iload_n hx hb dX2_isFigureAt_6 rfl (lv_at hl 0 rfl) ?_
  refine lv_bipush (v := (48 : Int32)) hx hb dX2_isFigureAt_7 (by decide) ?_
  refine lv_icmp_lt (tgt := 22) hx hb dX2_isFigureAt_9 (by decide) (fun k2 => ?_) (fun k2 => ?_)
  · have h := ite_t k2 h
    refine lv_iconst (v := (0 : Int32)) hx hb dX2_isFigureAt_22 (by decide) ?_
    have h := Option.some.inj h
    subst h
    subst hQ
    exact W.zret (v := (0 : Int32)) hx hb hr rfl (fun t ht hW => ⟨⟨rfl, by rw [ht]; exact hP, hD⟩, hS.F ht⟩) hS.2.2 dX2_isFigureAt_23
  · have h := ite_f k2 h
    refine lv_iload_n hx hb dX2_isFigureAt_12 rfl (lv_at hl 0 rfl) ?_
    refine lv_bipush (v := (57 : Int32)) hx hb dX2_isFigureAt_13 (by decide) ?_
    refine lv_icmp_gt (tgt := 22) hx hb dX2_isFigureAt_15 (by decide) (fun k3 => ?_) (fun k3 => ?_)
    · have h := ite_t k3 h
      refine lv_iconst (v := (0 : Int32)) hx hb dX2_isFigureAt_22 (by decide) ?_
      have h := Option.some.inj h
      subst h
      subst hQ
      exact W.zret (v := (0 : Int32)) hx hb hr rfl (fun t ht hW => ⟨⟨rfl, by rw [ht]; exact hP, hD⟩, hS.F ht⟩) hS.2.2 dX2_isFigureAt_23
    · have h := ite_f k3 h
      refine lv_iconst (v := (1 : Int32)) hx hb dX2_isFigureAt_18 (by decide) ?_
      refine lv_goto (tgt := 23) hx hb dX2_isFigureAt_19 (by decide) ?_
      have h := Option.some.inj h
      subst h
      subst hQ
      exact W.zret (v := (1 : Int32)) hx hb hr rfl (fun t ht hW => ⟨⟨rfl, by rw [ht]; exact hP, hD⟩, hS.F ht⟩) hS.2.2 dX2_isFigureAt_23
def f_X2_figuresAt (o0 : Ob) (v1 : Int32) : Option (Int32) := (f_X2_isFigureAt o0 v1).bind fun q1 : Bool => if (b2i q1) = 0 then (some (0 : Int32)) else ((f_X2_isFigureAt o0 (v1 + (1 : Int32))).bind fun q3 : Bool => if (b2i q3) = 0 then (some (1 : Int32)) else (some (2 : Int32)))
abbrev rmX2_figuresAt : Room := { frames := 3, cells := 0, slots := 0, locals := 64 }
theorem dsc_X2_figuresAt : yX2_figuresAt.cls ≠ "java/lang/invoke/MethodHandle" ∧ yX2_figuresAt.cls ≠ "java/lang/invoke/VarHandle" ∧ (parseMethodDescriptor yX2_figuresAt.desc).map (fun d => d.parameters.length) = some 1 := by decide +kernel
set_option maxHeartbeats 4000000 in
set_option maxRecDepth 100000 in
theorem c_X2_figuresAt (l : Launch) (dC : Nat → ClassId) (dI : Nat → Nat → Nat) (cB cI cZ cO : ClassId) (a0 : Nat) (g0 : Nat → Nat) (o0 : Ob) (v1 : Int32) {r : Int32} (h : f_X2_figuresAt o0 v1 = some r) : Ct dC dI cB cI cZ cO l yX2_figuresAt wsX2_figuresAt rmX2_figuresAt [.ref a0, .int v1] ([cX2 a0 g0 o0, cX2_0 cI g0 o0]) (some (.int r)) ([cX2 a0 g0 o0, cX2_0 cI g0 o0]) := by
  intro sz
  refine Met.ofW (cc := cX2_figuresAt) (maxL := 2) (ret := (some .int)) (by decide) rfl ?_
  intro p e s m args below meth c s₁ B hml hv
  obtain ⟨rfl, hsz, hP, hKK, hD0⟩ := hv
  have hx := B.exec
  have hb := B.bytes
  have hr := B.returns
  have hts := atoms_spec (ws := wsX2_figuresAt) B.pre
  have hown : s.vm.findClass RX2 = some m.cls := findClass_of_methodNamed B.named
  have hlocks := B.notSynchronized
  subst hsz
  have hD := hD0.self (sz := s.heap.size)
  generalize hAe : va_A ([cX2 a0 g0 o0, cX2_0 cI g0 o0]) s.heap.size = A at hD ⊢
  have hA : ∀ q : Nat, s.heap.size ≤ q → A q := fun q h => by rw [← hAe]; exact Or.inr h
  have hS : va_S A s.heap s.heap [] := va_S.rf
  have hP : va_P (dC, dI) vwCl ([cX2 a0 g0 o0, cX2_0 cI g0 o0]) s.heap := hP
  have hD : va_D A ([cX2 a0 g0 o0, cX2_0 cI g0 o0]) := hD
  have hl := lv_entry ([.ref a0, .int v1]) (n := 2) (Nat.le_of_ble_eq_true rfl)
  rw [lg_entry_eq]
  generalize (lg_sl ([.ref a0, .int v1]) ++ List.replicate (2 - (lg_sl ([.ref a0, .int v1])).length) Slot.unset).toArray = ls at hl ⊢
  have hl : lv_has ls 2 [(0, .ref a0), (1, .int v1)] := hl
  obtain ⟨Q, hQ⟩ : ∃ Q, Q = MQ below (Qq dC dI (some (.int r)) ([cX2 a0 g0 o0, cX2_0 cI g0 o0]) A) ([.ref a0, .int v1] : List Value).toArray s 0 0 A := ⟨_, rfl⟩
  rw [← hQ]
  rw [f_X2_figuresAt] at h
  clear hAe hD0
  refine lv_aload_n hx hb dX2_figuresAt_0 rfl (lv_at hl 0 rfl) ?_
  refine lv_iload_n hx hb dX2_figuresAt_1 rfl (lv_at hl 1 rfl) ?_
  obtain ⟨q1, hq1, h⟩ := obd_e h
  refine kcV (rest := []) (w2 := ([cX2 a0 g0 o0, cX2_0 cI g0 o0])) hx hb hml hown hts hKK hP hD hS hA (c_X2_isFigureAt l dC dI cB cI cZ cO a0 g0 o0 v1 hq1) [0, 1] (atAll_map ⟨rfl, rfl, trivial⟩) (by decide +kernel) (sameAd_map ⟨rfl, rfl, trivial⟩) (atAll_map ⟨rfl, rfl, trivial⟩) (agr_refl _ _ _) (cwV 1 hts gX2_figuresAt_X2_isFigureAt rfl rfl rfl ⟨rfl, dsc_X2_isFigureAt⟩ ⟨Nat.le_of_ble_eq_true rfl, Nat.le_of_ble_eq_true rfl⟩) (va_recv hKK.1 hP (ci := 2) (q0 := 0) rfl rfl) rfl hl.1 rfl (Nat.le_of_ble_eq_true rfl) dX2_figuresAt_2 ⟨Nat.zero_le _, Nat.zero_le _⟩ (fun H locs hP hD hS => ?_)
  refine lv_if_ne (tgt := 10) hx hb dX2_figuresAt_5 (by decide) (fun k2 => ?_) (fun k2 => ?_)
  · have h := ite_f k2 h
    refine lv_aload_n hx hb dX2_figuresAt_10 rfl (lv_at hl 0 rfl) ?_
    refine lv_iload_n hx hb dX2_figuresAt_11 rfl (lv_at hl 1 rfl) ?_
    refine lv_iconst (v := (1 : Int32)) hx hb dX2_figuresAt_12 (by decide) ?_
    refine lv_iadd hx hb dX2_figuresAt_13 ?_
    obtain ⟨q3, hq3, h⟩ := obd_e h
    refine kcV (rest := []) (w2 := ([cX2 a0 g0 o0, cX2_0 cI g0 o0])) hx hb hml hown hts hKK hP hD hS hA (c_X2_isFigureAt l dC dI cB cI cZ cO a0 g0 o0 (v1 + (1 : Int32)) hq3) [0, 1] (atAll_map ⟨rfl, rfl, trivial⟩) (by decide +kernel) (sameAd_map ⟨rfl, rfl, trivial⟩) (atAll_map ⟨rfl, rfl, trivial⟩) (agr_refl _ _ _) (cwV 1 hts gX2_figuresAt_X2_isFigureAt rfl rfl rfl ⟨rfl, dsc_X2_isFigureAt⟩ ⟨Nat.le_of_ble_eq_true rfl, Nat.le_of_ble_eq_true rfl⟩) (va_recv hKK.1 hP (ci := 2) (q0 := 0) rfl rfl) rfl hl.1 rfl (Nat.le_of_ble_eq_true rfl) dX2_figuresAt_14 ⟨Nat.zero_le _, Nat.zero_le _⟩ (fun H locs hP hD hS => ?_)
    refine lv_if_eq (tgt := 24) hx hb dX2_figuresAt_17 (by decide) (fun k4 => ?_) (fun k4 => ?_)
    · have h := ite_t k4 h
      refine lv_iconst (v := (1 : Int32)) hx hb dX2_figuresAt_24 (by decide) ?_
      have h := Option.some.inj h
      subst h
      subst hQ
      exact W.iret (v := (1 : Int32)) hx hb hr (fun t ht hW => ⟨⟨rfl, by rw [ht]; exact hP, hD⟩, hS.F ht⟩) hS.2.2 dX2_figuresAt_25
    · have h := ite_f k4 h
      refine lv_iconst (v := (2 : Int32)) hx hb dX2_figuresAt_20 (by decide) ?_
      refine lv_goto (tgt := 25) hx hb dX2_figuresAt_21 (by decide) ?_
      have h := Option.some.inj h
      subst h
      subst hQ
      exact W.iret (v := (2 : Int32)) hx hb hr (fun t ht hW => ⟨⟨rfl, by rw [ht]; exact hP, hD⟩, hS.F ht⟩) hS.2.2 dX2_figuresAt_25
  · have h := ite_t k2 h
    refine lv_iconst (v := (0 : Int32)) hx hb dX2_figuresAt_8 (by decide) ?_
    have h := Option.some.inj h
    subst h
    subst hQ
    exact W.iret (v := (0 : Int32)) hx hb hr (fun t ht hW => ⟨⟨rfl, by rw [ht]; exact hP, hD⟩, hS.F ht⟩) hS.2.2 dX2_figuresAt_9
def f_X2_numberAt (o0 : Ob) (v1 : Int32) (v2 : Int32) : Option (Int32) := (f_X2_letterAt o0 v1).bind fun q1 : Int32 => bnd (q1 - (48 : Int32)) fun x2 : Int32 => if v2 = (1 : Int32) then (some x2) else ((f_X2_letterAt o0 (v1 + (1 : Int32))).bind fun q4 : Int32 => some ((((10 : Int32) * x2) + q4) - (48 : Int32)))
abbrev rmX2_numberAt : Room := { frames := 2, cells := 0, slots := 0, locals := 42 }
theorem dsc_X2_numberAt : yX2_numberAt.cls ≠ "java/lang/invoke/MethodHandle" ∧ yX2_numberAt.cls ≠ "java/lang/invoke/VarHandle" ∧ (parseMethodDescriptor yX2_numberAt.desc).map (fun d => d.parameters.length) = some 2 := by decide +kernel
set_option maxHeartbeats 4000000 in
set_option maxRecDepth 100000 in
theorem c_X2_numberAt (l : Launch) (dC : Nat → ClassId) (dI : Nat → Nat → Nat) (cB cI cZ cO : ClassId) (a0 : Nat) (g0 : Nat → Nat) (o0 : Ob) (v1 : Int32) (v2 : Int32) {r : Int32} (h : f_X2_numberAt o0 v1 v2 = some r) : Ct dC dI cB cI cZ cO l yX2_numberAt wsX2_numberAt rmX2_numberAt [.ref a0, .int v1, .int v2] ([cX2 a0 g0 o0, cX2_0 cI g0 o0]) (some (.int r)) ([cX2 a0 g0 o0, cX2_0 cI g0 o0]) := by
  intro sz
  refine Met.ofW (cc := cX2_numberAt) (maxL := 4) (ret := (some .int)) (by decide) rfl ?_
  intro p e s m args below meth c s₁ B hml hv
  obtain ⟨rfl, hsz, hP, hKK, hD0⟩ := hv
  have hx := B.exec
  have hb := B.bytes
  have hr := B.returns
  have hts := atoms_spec (ws := wsX2_numberAt) B.pre
  have hown : s.vm.findClass RX2 = some m.cls := findClass_of_methodNamed B.named
  have hlocks := B.notSynchronized
  subst hsz
  have hD := hD0.self (sz := s.heap.size)
  generalize hAe : va_A ([cX2 a0 g0 o0, cX2_0 cI g0 o0]) s.heap.size = A at hD ⊢
  have hA : ∀ q : Nat, s.heap.size ≤ q → A q := fun q h => by rw [← hAe]; exact Or.inr h
  have hS : va_S A s.heap s.heap [] := va_S.rf
  have hP : va_P (dC, dI) vwCl ([cX2 a0 g0 o0, cX2_0 cI g0 o0]) s.heap := hP
  have hD : va_D A ([cX2 a0 g0 o0, cX2_0 cI g0 o0]) := hD
  have hl := lv_entry ([.ref a0, .int v1, .int v2]) (n := 4) (Nat.le_of_ble_eq_true rfl)
  rw [lg_entry_eq]
  generalize (lg_sl ([.ref a0, .int v1, .int v2]) ++ List.replicate (4 - (lg_sl ([.ref a0, .int v1, .int v2])).length) Slot.unset).toArray = ls at hl ⊢
  have hl : lv_has ls 4 [(0, .ref a0), (1, .int v1), (2, .int v2)] := hl
  obtain ⟨Q, hQ⟩ : ∃ Q, Q = MQ below (Qq dC dI (some (.int r)) ([cX2 a0 g0 o0, cX2_0 cI g0 o0]) A) ([.ref a0, .int v1, .int v2] : List Value).toArray s 0 0 A := ⟨_, rfl⟩
  rw [← hQ]
  rw [f_X2_numberAt] at h
  clear hAe hD0
  refine lv_aload_n hx hb dX2_numberAt_0 rfl (lv_at hl 0 rfl) ?_
  refine lv_iload_n hx hb dX2_numberAt_1 rfl (lv_at hl 1 rfl) ?_
  obtain ⟨q1, hq1, h⟩ := obd_e h
  refine kcV (rest := []) (w2 := ([cX2 a0 g0 o0, cX2_0 cI g0 o0])) hx hb hml hown hts hKK hP hD hS hA (c_X2_letterAt l dC dI cB cI cZ cO a0 g0 o0 v1 hq1) [0, 1] (atAll_map ⟨rfl, rfl, trivial⟩) (by decide +kernel) (sameAd_map ⟨rfl, rfl, trivial⟩) (atAll_map ⟨rfl, rfl, trivial⟩) (agr_refl _ _ _) (cwV 1 hts gX2_numberAt_X2_letterAt rfl rfl rfl ⟨rfl, dsc_X2_letterAt⟩ ⟨Nat.le_of_ble_eq_true rfl, Nat.le_of_ble_eq_true rfl⟩) (va_recv hKK.1 hP (ci := 2) (q0 := 0) rfl rfl) rfl hl.1 rfl (Nat.le_of_ble_eq_true rfl) dX2_numberAt_2 ⟨Nat.zero_le _, Nat.zero_le _⟩ (fun H locs hP hD hS => ?_)
  refine lv_bipush (v := (48 : Int32)) hx hb dX2_numberAt_5 (by decide) ?_
  refine lv_isub hx hb dX2_numberAt_7 ?_
  obtain ⟨x2, hx2, h⟩ := bnd_e h
  refine lv_topE hx2 ?_
  refine lv_istore_n (lv' := [(3, .int x2), (0, .ref a0), (1, .int v1), (2, .int v2)]) hx hb dX2_numberAt_8 rfl hl (by decide) rfl (fun ls hl => ?_)
  refine lv_iload_n hx hb dX2_numberAt_9 rfl (lv_at hl 3 rfl) ?_
  refine lv_iconst (v := (1 : Int32)) hx hb dX2_numberAt_10 (by decide) ?_
  refine lv_icmp_ne (tgt := 18) hx hb dX2_numberAt_11 (by decide) (fun k3 => ?_) (fun k3 => ?_)
  · have h := ite_f k3 h
    refine lv_bipush (v := (10 : Int32)) hx hb dX2_numberAt_18 (by decide) ?_
    refine lv_iload_n hx hb dX2_numberAt_20 rfl (lv_at hl 0 rfl) ?_
    refine lv_imul hx hb dX2_numberAt_21 ?_
    refine lv_aload_n hx hb dX2_numberAt_22 rfl (lv_at hl 1 rfl) ?_
    refine lv_iload_n hx hb dX2_numberAt_23 rfl (lv_at hl 2 rfl) ?_
    refine lv_iconst (v := (1 : Int32)) hx hb dX2_numberAt_24 (by decide) ?_
    refine lv_iadd hx hb dX2_numberAt_25 ?_
    obtain ⟨q4, hq4, h⟩ := obd_e h
    refine kcV (rest := [.int ((10 : Int32) * x2)]) (w2 := ([cX2 a0 g0 o0, cX2_0 cI g0 o0])) hx hb hml hown hts hKK hP hD hS hA (c_X2_letterAt l dC dI cB cI cZ cO a0 g0 o0 (v1 + (1 : Int32)) hq4) [0, 1] (atAll_map ⟨rfl, rfl, trivial⟩) (by decide +kernel) (sameAd_map ⟨rfl, rfl, trivial⟩) (atAll_map ⟨rfl, rfl, trivial⟩) (agr_refl _ _ _) (cwV 1 hts gX2_numberAt_X2_letterAt rfl rfl rfl ⟨rfl, dsc_X2_letterAt⟩ ⟨Nat.le_of_ble_eq_true rfl, Nat.le_of_ble_eq_true rfl⟩) (va_recv hKK.1 hP (ci := 2) (q0 := 0) rfl rfl) rfl hl.1 rfl (Nat.le_of_ble_eq_true rfl) dX2_numberAt_26 ⟨Nat.zero_le _, Nat.zero_le _⟩ (fun H locs hP hD hS => ?_)
    refine lv_iadd hx hb dX2_numberAt_29 ?_
    refine lv_bipush (v := (48 : Int32)) hx hb dX2_numberAt_30 (by decide) ?_
    refine lv_isub hx hb dX2_numberAt_32 ?_
    have h := Option.some.inj h
    subst h
    subst hQ
    exact W.iret (v := ((((10 : Int32) * x2) + q4) - (48 : Int32))) hx hb hr (fun t ht hW => ⟨⟨rfl, by rw [ht]; exact hP, hD⟩, hS.F ht⟩) hS.2.2 dX2_numberAt_33
  · have h := ite_t k3 h
    refine lv_iload_n hx hb dX2_numberAt_14 rfl (lv_at hl 0 rfl) ?_
    refine lv_goto (tgt := 33) hx hb dX2_numberAt_15 (by decide) ?_
    have h := Option.some.inj h
    subst h
    subst hQ
    exact W.iret (v := x2) hx hb hr (fun t ht hW => ⟨⟨rfl, by rw [ht]; exact hP, hD⟩, hS.F ht⟩) hS.2.2 dX2_numberAt_33
