def f_X8_dampOf (o0 : Ob) (v1 : Int32) : Option (Int32) := if (o0.1 7) = 0 then (some (0 : Int32)) else (if (o0.1 7) = 0 then none else if (v1 - v1 / (o0.1 7) * (o0.1 7)) < 0 ∨ 8 ≤ (v1 - v1 / (o0.1 7) * (o0.1 7)).toNatClampNeg then none else some ((o0.2 8) (v1 - v1 / (o0.1 7) * (o0.1 7)).toNatClampNeg))
abbrev rmX8_dampOf : Room := { frames := 0, cells := 0, slots := 0, locals := 0 }
theorem dsc_X8_dampOf : yX8_dampOf.cls ≠ "java/lang/invoke/MethodHandle" ∧ yX8_dampOf.cls ≠ "java/lang/invoke/VarHandle" ∧ (parseMethodDescriptor yX8_dampOf.desc).map (fun d => d.parameters.length) = some 1 := by decide +kernel
set_option maxHeartbeats 4000000 in
set_option maxRecDepth 100000 in
theorem c_X8_dampOf (l : Launch) (dC : Nat → ClassId) (dI : Nat → Nat → Nat) (cB cI cZ cO : ClassId) (a0 : Nat) (g0 : Nat → Nat) (o0 : Ob) (v1 : Int32) {r : Int32} (h : f_X8_dampOf o0 v1 = some r) : Ct dC dI cB cI cZ cO l yX8_dampOf wsX8_dampOf rmX8_dampOf [.ref a0, .int v1] ([cX8 a0 g0 o0, cX8_0 cI g0 o0, cX8_1 cI g0 o0, cX8_3 cI g0 o0, cX8_4 cI g0 o0, cX8_6 cI g0 o0, cX8_8 cI g0 o0, cX8_9 cI g0 o0, cX8_10 cI g0 o0, cX8_12 cI g0 o0, cX8_13 cI g0 o0, cX8_15 cI g0 o0, cX8_17 cI g0 o0, cX8_18 cI g0 o0, cX8_22 cB g0 o0, cX8_27 cI g0 o0, cX8_28 cI g0 o0, cX8_29 cI g0 o0, cX8_30 cI g0 o0, cX8_31 cI g0 o0, cX8_32 cI g0 o0, cX8_33 cI g0 o0]) (some (.int r)) ([cX8 a0 g0 o0, cX8_0 cI g0 o0, cX8_1 cI g0 o0, cX8_3 cI g0 o0, cX8_4 cI g0 o0, cX8_6 cI g0 o0, cX8_8 cI g0 o0, cX8_9 cI g0 o0, cX8_10 cI g0 o0, cX8_12 cI g0 o0, cX8_13 cI g0 o0, cX8_15 cI g0 o0, cX8_17 cI g0 o0, cX8_18 cI g0 o0, cX8_22 cB g0 o0, cX8_27 cI g0 o0, cX8_28 cI g0 o0, cX8_29 cI g0 o0, cX8_30 cI g0 o0, cX8_31 cI g0 o0, cX8_32 cI g0 o0, cX8_33 cI g0 o0]) := by
  intro sz
  refine Met.ofW (cc := cX8_dampOf) (maxL := 2) (ret := (some .int)) (by decide) rfl ?_
  intro p e s m args below meth c s₁ B hml hv
  obtain ⟨rfl, hsz, hP, hKK, hD0⟩ := hv
  have hx := B.exec
  have hb := B.bytes
  have hr := B.returns
  have hts := atoms_spec (ws := wsX8_dampOf) B.pre
  have hown : s.vm.findClass RX8 = some m.cls := findClass_of_methodNamed B.named
  have hlocks := B.notSynchronized
  have hiX8 : ∀ w ∈ u_ws RX8 TX8 36, w ∈ wsX8_dampOf := fun w h => List.mem_cons_of_mem _ (List.mem_append_right _ h)
  subst hsz
  have hD := hD0.self (sz := s.heap.size)
  generalize hAe : va_A ([cX8 a0 g0 o0, cX8_0 cI g0 o0, cX8_1 cI g0 o0, cX8_3 cI g0 o0, cX8_4 cI g0 o0, cX8_6 cI g0 o0, cX8_8 cI g0 o0, cX8_9 cI g0 o0, cX8_10 cI g0 o0, cX8_12 cI g0 o0, cX8_13 cI g0 o0, cX8_15 cI g0 o0, cX8_17 cI g0 o0, cX8_18 cI g0 o0, cX8_22 cB g0 o0, cX8_27 cI g0 o0, cX8_28 cI g0 o0, cX8_29 cI g0 o0, cX8_30 cI g0 o0, cX8_31 cI g0 o0, cX8_32 cI g0 o0, cX8_33 cI g0 o0]) s.heap.size = A at hD ⊢
  have hA : ∀ q : Nat, s.heap.size ≤ q → A q := fun q h => by rw [← hAe]; exact Or.inr h
  have hS : va_S A s.heap s.heap [] := va_S.rf
  have hP : va_P (dC, dI) vwCl ([cX8 a0 g0 o0, cX8_0 cI g0 o0, cX8_1 cI g0 o0, cX8_3 cI g0 o0, cX8_4 cI g0 o0, cX8_6 cI g0 o0, cX8_8 cI g0 o0, cX8_9 cI g0 o0, cX8_10 cI g0 o0, cX8_12 cI g0 o0, cX8_13 cI g0 o0, cX8_15 cI g0 o0, cX8_17 cI g0 o0, cX8_18 cI g0 o0, cX8_22 cB g0 o0, cX8_27 cI g0 o0, cX8_28 cI g0 o0, cX8_29 cI g0 o0, cX8_30 cI g0 o0, cX8_31 cI g0 o0, cX8_32 cI g0 o0, cX8_33 cI g0 o0]) s.heap := hP
  have hD : va_D A ([cX8 a0 g0 o0, cX8_0 cI g0 o0, cX8_1 cI g0 o0, cX8_3 cI g0 o0, cX8_4 cI g0 o0, cX8_6 cI g0 o0, cX8_8 cI g0 o0, cX8_9 cI g0 o0, cX8_10 cI g0 o0, cX8_12 cI g0 o0, cX8_13 cI g0 o0, cX8_15 cI g0 o0, cX8_17 cI g0 o0, cX8_18 cI g0 o0, cX8_22 cB g0 o0, cX8_27 cI g0 o0, cX8_28 cI g0 o0, cX8_29 cI g0 o0, cX8_30 cI g0 o0, cX8_31 cI g0 o0, cX8_32 cI g0 o0, cX8_33 cI g0 o0]) := hD
  have hl := lv_entry ([.ref a0, .int v1]) (n := 2) (Nat.le_of_ble_eq_true rfl)
  rw [lg_entry_eq]
  generalize (lg_sl ([.ref a0, .int v1]) ++ List.replicate (2 - (lg_sl ([.ref a0, .int v1])).length) Slot.unset).toArray = ls at hl ⊢
  have hl : lv_has ls 2 [(0, .ref a0), (1, .int v1)] := hl
  obtain ⟨Q, hQ⟩ : ∃ Q, Q = MQ below (Qq dC dI (some (.int r)) ([cX8 a0 g0 o0, cX8_0 cI g0 o0, cX8_1 cI g0 o0, cX8_3 cI g0 o0, cX8_4 cI g0 o0, cX8_6 cI g0 o0, cX8_8 cI g0 o0, cX8_9 cI g0 o0, cX8_10 cI g0 o0, cX8_12 cI g0 o0, cX8_13 cI g0 o0, cX8_15 cI g0 o0, cX8_17 cI g0 o0, cX8_18 cI g0 o0, cX8_22 cB g0 o0, cX8_27 cI g0 o0, cX8_28 cI g0 o0, cX8_29 cI g0 o0, cX8_30 cI g0 o0, cX8_31 cI g0 o0, cX8_32 cI g0 o0, cX8_33 cI g0 o0]) A) ([.ref a0, .int v1] : List Value).toArray s 0 0 A := ⟨_, rfl⟩
  rw [← hQ]
  rw [f_X8_dampOf] at h
  clear hAe hD0
  refine lv_aload_n hx hb dX8_dampOf_0 rfl (lv_at hl 0 rfl) ?_
  refine va_get (D := (dC, dI)) (ci := 8) (v := .int (o0.1 7)) (C := RX8) (T := TX8) (N := 36) hx hb hts hiX8 hown hKK.1 hP 0 rfl rfl 7 (by decide) (hts (.fieldLink RX8 104 "SlideLandModel" "damps" "I") (List.mem_of_getElem? (i := 1) rfl)) (fun _ h9 => h9) rfl dX8_dampOf_1 ?_
  refine lv_if_ne (tgt := 11) hx hb dX8_dampOf_4 (by decide) (fun k1 => ?_) (fun k1 => ?_)
  · have h := ite_f k1 h
    refine lv_aload_n hx hb dX8_dampOf_11 rfl (lv_at hl 0 rfl) ?_
    refine va_get (D := (dC, dI)) (ci := 8) (v := .ref (g0 8)) (C := RX8) (T := TX8) (N := 36) hx hb hts hiX8 hown hKK.1 hP 0 rfl rfl 8 (by decide) (hts (.fieldLink RX8 25 "SlideLandModel" "wet" "[I") (List.mem_of_getElem? (i := 2) rfl)) (fun _ h9 => h9) rfl dX8_dampOf_12 ?_
    refine lv_iload_n hx hb dX8_dampOf_15 rfl (lv_at hl 1 rfl) ?_
    refine lv_aload_n hx hb dX8_dampOf_16 rfl (lv_at hl 0 rfl) ?_
    refine va_get (D := (dC, dI)) (ci := 8) (v := .int (o0.1 7)) (C := RX8) (T := TX8) (N := 36) hx hb hts hiX8 hown hKK.1 hP 0 rfl rfl 7 (by decide) (hts (.fieldLink RX8 104 "SlideLandModel" "damps" "I") (List.mem_of_getElem? (i := 1) rfl)) (fun _ h9 => h9) rfl dX8_dampOf_17 ?_
    obtain ⟨k2, h⟩ := ite_n h
    refine lv_irem hx hb dX8_dampOf_20 k2 ?_
    obtain ⟨k3, h⟩ := ite_n h
    refine va_iald hx hb hKK.1 hP 6 1 rfl rfl k3 dX8_dampOf_21 ?_
    have h := Option.some.inj h
    subst h
    subst hQ
    exact W.iret (v := ((o0.2 8) (v1 - v1 / (o0.1 7) * (o0.1 7)).toNatClampNeg)) hx hb hr (fun t ht hW => ⟨⟨rfl, by rw [ht]; exact hP, hD⟩, hS.F ht⟩) hS.2.2 dX8_dampOf_22
  · have h := ite_t k1 h
    refine lv_iconst (v := (0 : Int32)) hx hb dX8_dampOf_7 (by decide) ?_
    refine lv_goto (tgt := 22) hx hb dX8_dampOf_8 (by decide) ?_
    have h := Option.some.inj h
    subst h
    subst hQ
    exact W.iret (v := (0 : Int32)) hx hb hr (fun t ht hW => ⟨⟨rfl, by rw [ht]; exact hP, hD⟩, hS.F ht⟩) hS.2.2 dX8_dampOf_22
def f_X8_placeBy (o0 : Ob) (v1 : Int32) (v2 : Int32) (v3 : Int32) (v4 : Int32) : Option (Int32) := if v1 < 0 ∨ 7 ≤ v1.toNatClampNeg then none else if v1 < 0 ∨ 7 ≤ v1.toNatClampNeg then none else if v1 < 0 ∨ 7 ≤ v1.toNatClampNeg then none else if ((o0.2 3) v1.toNatClampNeg) = (3 : Int32) then (some ((((o0.2 4) v1.toNatClampNeg) + ((((o0.2 4) v1.toNatClampNeg) * v4) / (10 : Int32))) + v3)) else (some ((((o0.2 4) v1.toNatClampNeg) + ((((o0.2 4) v1.toNatClampNeg) * v4) / (10 : Int32))) + v2))
abbrev rmX8_placeBy : Room := { frames := 0, cells := 0, slots := 0, locals := 0 }
theorem dsc_X8_placeBy : yX8_placeBy.cls ≠ "java/lang/invoke/MethodHandle" ∧ yX8_placeBy.cls ≠ "java/lang/invoke/VarHandle" ∧ (parseMethodDescriptor yX8_placeBy.desc).map (fun d => d.parameters.length) = some 4 := by decide +kernel
set_option maxHeartbeats 4000000 in
set_option maxRecDepth 100000 in
theorem c_X8_placeBy (l : Launch) (dC : Nat → ClassId) (dI : Nat → Nat → Nat) (cB cI cZ cO : ClassId) (a0 : Nat) (g0 : Nat → Nat) (o0 : Ob) (v1 : Int32) (v2 : Int32) (v3 : Int32) (v4 : Int32) {r : Int32} (h : f_X8_placeBy o0 v1 v2 v3 v4 = some r) : Ct dC dI cB cI cZ cO l yX8_placeBy wsX8_placeBy rmX8_placeBy [.ref a0, .int v1, .int v2, .int v3, .int v4] ([cX8 a0 g0 o0, cX8_0 cI g0 o0, cX8_1 cI g0 o0, cX8_3 cI g0 o0, cX8_4 cI g0 o0, cX8_6 cI g0 o0, cX8_8 cI g0 o0, cX8_9 cI g0 o0, cX8_10 cI g0 o0, cX8_12 cI g0 o0, cX8_13 cI g0 o0, cX8_15 cI g0 o0, cX8_17 cI g0 o0, cX8_18 cI g0 o0, cX8_22 cB g0 o0, cX8_27 cI g0 o0, cX8_28 cI g0 o0, cX8_29 cI g0 o0, cX8_30 cI g0 o0, cX8_31 cI g0 o0, cX8_32 cI g0 o0, cX8_33 cI g0 o0]) (some (.int r)) ([cX8 a0 g0 o0, cX8_0 cI g0 o0, cX8_1 cI g0 o0, cX8_3 cI g0 o0, cX8_4 cI g0 o0, cX8_6 cI g0 o0, cX8_8 cI g0 o0, cX8_9 cI g0 o0, cX8_10 cI g0 o0, cX8_12 cI g0 o0, cX8_13 cI g0 o0, cX8_15 cI g0 o0, cX8_17 cI g0 o0, cX8_18 cI g0 o0, cX8_22 cB g0 o0, cX8_27 cI g0 o0, cX8_28 cI g0 o0, cX8_29 cI g0 o0, cX8_30 cI g0 o0, cX8_31 cI g0 o0, cX8_32 cI g0 o0, cX8_33 cI g0 o0]) := by
  intro sz
  refine Met.ofW (cc := cX8_placeBy) (maxL := 5) (ret := (some .int)) (by decide) rfl ?_
  intro p e s m args below meth c s₁ B hml hv
  obtain ⟨rfl, hsz, hP, hKK, hD0⟩ := hv
  have hx := B.exec
  have hb := B.bytes
  have hr := B.returns
  have hts := atoms_spec (ws := wsX8_placeBy) B.pre
  have hown : s.vm.findClass RX8 = some m.cls := findClass_of_methodNamed B.named
  have hlocks := B.notSynchronized
  have hiX8 : ∀ w ∈ u_ws RX8 TX8 36, w ∈ wsX8_placeBy := fun w h => List.mem_cons_of_mem _ (List.mem_append_right _ h)
  subst hsz
  have hD := hD0.self (sz := s.heap.size)
  generalize hAe : va_A ([cX8 a0 g0 o0, cX8_0 cI g0 o0, cX8_1 cI g0 o0, cX8_3 cI g0 o0, cX8_4 cI g0 o0, cX8_6 cI g0 o0, cX8_8 cI g0 o0, cX8_9 cI g0 o0, cX8_10 cI g0 o0, cX8_12 cI g0 o0, cX8_13 cI g0 o0, cX8_15 cI g0 o0, cX8_17 cI g0 o0, cX8_18 cI g0 o0, cX8_22 cB g0 o0, cX8_27 cI g0 o0, cX8_28 cI g0 o0, cX8_29 cI g0 o0, cX8_30 cI g0 o0, cX8_31 cI g0 o0, cX8_32 cI g0 o0, cX8_33 cI g0 o0]) s.heap.size = A at hD ⊢
  have hA : ∀ q : Nat, s.heap.size ≤ q → A q := fun q h => by rw [← hAe]; exact Or.inr h
  have hS : va_S A s.heap s.heap [] := va_S.rf
  have hP : va_P (dC, dI) vwCl ([cX8 a0 g0 o0, cX8_0 cI g0 o0, cX8_1 cI g0 o0, cX8_3 cI g0 o0, cX8_4 cI g0 o0, cX8_6 cI g0 o0, cX8_8 cI g0 o0, cX8_9 cI g0 o0, cX8_10 cI g0 o0, cX8_12 cI g0 o0, cX8_13 cI g0 o0, cX8_15 cI g0 o0, cX8_17 cI g0 o0, cX8_18 cI g0 o0, cX8_22 cB g0 o0, cX8_27 cI g0 o0, cX8_28 cI g0 o0, cX8_29 cI g0 o0, cX8_30 cI g0 o0, cX8_31 cI g0 o0, cX8_32 cI g0 o0, cX8_33 cI g0 o0]) s.heap := hP
  have hD : va_D A ([cX8 a0 g0 o0, cX8_0 cI g0 o0, cX8_1 cI g0 o0, cX8_3 cI g0 o0, cX8_4 cI g0 o0, cX8_6 cI g0 o0, cX8_8 cI g0 o0, cX8_9 cI g0 o0, cX8_10 cI g0 o0, cX8_12 cI g0 o0, cX8_13 cI g0 o0, cX8_15 cI g0 o0, cX8_17 cI g0 o0, cX8_18 cI g0 o0, cX8_22 cB g0 o0, cX8_27 cI g0 o0, cX8_28 cI g0 o0, cX8_29 cI g0 o0, cX8_30 cI g0 o0, cX8_31 cI g0 o0, cX8_32 cI g0 o0, cX8_33 cI g0 o0]) := hD
  have hl := lv_entry ([.ref a0, .int v1, .int v2, .int v3, .int v4]) (n := 5) (Nat.le_of_ble_eq_true rfl)
  rw [lg_entry_eq]
  generalize (lg_sl ([.ref a0, .int v1, .int v2, .int v3, .int v4]) ++ List.replicate (5 - (lg_sl ([.ref a0, .int v1, .int v2, .int v3, .int v4])).length) Slot.unset).toArray = ls at hl ⊢
  have hl : lv_has ls 5 [(0, .ref a0), (1, .int v1), (2, .int v2), (3, .int v3), (4, .int v4)] := hl
  obtain ⟨Q, hQ⟩ : ∃ Q, Q = MQ below (Qq dC dI (some (.int r)) ([cX8 a0 g0 o0, cX8_0 cI g0 o0, cX8_1 cI g0 o0, cX8_3 cI g0 o0, cX8_4 cI g0 o0, cX8_6 cI g0 o0, cX8_8 cI g0 o0, cX8_9 cI g0 o0, cX8_10 cI g0 o0, cX8_12 cI g0 o0, cX8_13 cI g0 o0, cX8_15 cI g0 o0, cX8_17 cI g0 o0, cX8_18 cI g0 o0, cX8_22 cB g0 o0, cX8_27 cI g0 o0, cX8_28 cI g0 o0, cX8_29 cI g0 o0, cX8_30 cI g0 o0, cX8_31 cI g0 o0, cX8_32 cI g0 o0, cX8_33 cI g0 o0]) A) ([.ref a0, .int v1, .int v2, .int v3, .int v4] : List Value).toArray s 0 0 A := ⟨_, rfl⟩
  rw [← hQ]
  rw [f_X8_placeBy] at h
  clear hAe hD0
  refine lv_aload_n hx hb dX8_placeBy_0 rfl (lv_at hl 0 rfl) ?_
  refine va_get (D := (dC, dI)) (ci := 8) (v := .ref (g0 4)) (C := RX8) (T := TX8) (N := 36) hx hb hts hiX8 hown hKK.1 hP 0 rfl rfl 4 (by decide) (hts (.fieldLink RX8 19 "SlideLandModel" "own" "[I") (List.mem_of_getElem? (i := 1) rfl)) (fun _ h9 => h9) rfl dX8_placeBy_1 ?_
  refine lv_iload_n hx hb dX8_placeBy_4 rfl (lv_at hl 1 rfl) ?_
  obtain ⟨k1, h⟩ := ite_n h
  refine va_iald hx hb hKK.1 hP 4 1 rfl rfl k1 dX8_placeBy_5 ?_
  refine lv_aload_n hx hb dX8_placeBy_6 rfl (lv_at hl 0 rfl) ?_
  refine va_get (D := (dC, dI)) (ci := 8) (v := .ref (g0 4)) (C := RX8) (T := TX8) (N := 36) hx hb hts hiX8 hown hKK.1 hP 0 rfl rfl 4 (by decide) (hts (.fieldLink RX8 19 "SlideLandModel" "own" "[I") (List.mem_of_getElem? (i := 1) rfl)) (fun _ h9 => h9) rfl dX8_placeBy_7 ?_
  refine lv_iload_n hx hb dX8_placeBy_10 rfl (lv_at hl 1 rfl) ?_
  obtain ⟨k2, h⟩ := ite_n h
  refine va_iald hx hb hKK.1 hP 4 1 rfl rfl k2 dX8_placeBy_11 ?_
  refine lv_iload hx hb dX8_placeBy_12 (lv_at hl 4 rfl) ?_
  refine lv_imul hx hb dX8_placeBy_14 ?_
  refine lv_bipush (v := (10 : Int32)) hx hb dX8_placeBy_15 (by decide) ?_
  refine lv_idiv hx hb dX8_placeBy_17 (by decide) ?_
  refine lv_iadd hx hb dX8_placeBy_18 ?_
  refine lv_aload_n hx hb dX8_placeBy_19 rfl (lv_at hl 0 rfl) ?_
  refine va_get (D := (dC, dI)) (ci := 8) (v := .ref (g0 3)) (C := RX8) (T := TX8) (N := 36) hx hb hts hiX8 hown hKK.1 hP 0 rfl rfl 3 (by decide) (hts (.fieldLink RX8 16 "SlideLandModel" "sort" "[I") (List.mem_of_getElem? (i := 2) rfl)) (fun _ h9 => h9) rfl dX8_placeBy_20 ?_
  refine lv_iload_n hx hb dX8_placeBy_23 rfl (lv_at hl 1 rfl) ?_
  obtain ⟨k3, h⟩ := ite_n h
  refine va_iald hx hb hKK.1 hP 3 1 rfl rfl k3 dX8_placeBy_24 ?_
  refine lv_iconst (v := (3 : Int32)) hx hb dX8_placeBy_25 (by decide) ?_
  refine lv_icmp_ne (tgt := 33) hx hb dX8_placeBy_26 (by decide) (fun k4 => ?_) (fun k4 => ?_)
  · have h := ite_f k4 h
    refine lv_iload_n hx hb dX8_placeBy_33 rfl (lv_at hl 2 rfl) ?_
    refine lv_iadd hx hb dX8_placeBy_34 ?_
    have h := Option.some.inj h
    subst h
    subst hQ
    exact W.iret (v := ((((o0.2 4) v1.toNatClampNeg) + ((((o0.2 4) v1.toNatClampNeg) * v4) / (10 : Int32))) + v2)) hx hb hr (fun t ht hW => ⟨⟨rfl, by rw [ht]; exact hP, hD⟩, hS.F ht⟩) hS.2.2 dX8_placeBy_35
  · have h := ite_t k4 h
    refine lv_iload_n hx hb dX8_placeBy_29 rfl (lv_at hl 3 rfl) ?_
    refine lv_goto (tgt := 34) hx hb dX8_placeBy_30 (by decide) ?_
    refine lv_iadd hx hb dX8_placeBy_34 ?_
    have h := Option.some.inj h
    subst h
    subst hQ
    exact W.iret (v := ((((o0.2 4) v1.toNatClampNeg) + ((((o0.2 4) v1.toNatClampNeg) * v4) / (10 : Int32))) + v3)) hx hb hr (fun t ht hW => ⟨⟨rfl, by rw [ht]; exact hP, hD⟩, hS.F ht⟩) hS.2.2 dX8_placeBy_35
def f_X8_meets (o0 : Ob) (v1 : Int32) (v2 : Int32) (v3 : Int32) (v4 : Int32) (v5 : Int32) (v6 : Int32) : Option (Bool) := if v1 < 0 ∨ 7 ≤ v1.toNatClampNeg then none else (f_X8_placeBy o0 v1 v4 v5 v6).bind fun q2 : Int32 => if (((6 : Int32) * v2) + v3) < 0 ∨ 12 ≤ (((6 : Int32) * v2) + v3).toNatClampNeg then none else bnd (f_X8_isAgainst ((o0.2 3) v1.toNatClampNeg) (q2 - ((o0.2 1) (((6 : Int32) * v2) + v3).toNatClampNeg))) fun q4 : Bool => some q4
abbrev rmX8_meets : Room := { frames := 1, cells := 0, slots := 0, locals := 24 }
theorem dsc_X8_meets : yX8_meets.cls ≠ "java/lang/invoke/MethodHandle" ∧ yX8_meets.cls ≠ "java/lang/invoke/VarHandle" ∧ (parseMethodDescriptor yX8_meets.desc).map (fun d => d.parameters.length) = some 6 := by decide +kernel
set_option maxHeartbeats 4000000 in
set_option maxRecDepth 100000 in
theorem c_X8_meets (l : Launch) (dC : Nat → ClassId) (dI : Nat → Nat → Nat) (cB cI cZ cO : ClassId) (a0 : Nat) (g0 : Nat → Nat) (o0 : Ob) (v1 : Int32) (v2 : Int32) (v3 : Int32) (v4 : Int32) (v5 : Int32) (v6 : Int32) {r : Bool} (h : f_X8_meets o0 v1 v2 v3 v4 v5 v6 = some r) : Ct dC dI cB cI cZ cO l yX8_meets wsX8_meets rmX8_meets [.ref a0, .int v1, .int v2, .int v3, .int v4, .int v5, .int v6] ([cX8 a0 g0 o0, cX8_0 cI g0 o0, cX8_1 cI g0 o0, cX8_3 cI g0 o0, cX8_4 cI g0 o0, cX8_6 cI g0 o0, cX8_8 cI g0 o0, cX8_9 cI g0 o0, cX8_10 cI g0 o0, cX8_12 cI g0 o0, cX8_13 cI g0 o0, cX8_15 cI g0 o0, cX8_17 cI g0 o0, cX8_18 cI g0 o0, cX8_22 cB g0 o0, cX8_27 cI g0 o0, cX8_28 cI g0 o0, cX8_29 cI g0 o0, cX8_30 cI g0 o0, cX8_31 cI g0 o0, cX8_32 cI g0 o0, cX8_33 cI g0 o0]) (some (.int (b2i r))) ([cX8 a0 g0 o0, cX8_0 cI g0 o0, cX8_1 cI g0 o0, cX8_3 cI g0 o0, cX8_4 cI g0 o0, cX8_6 cI g0 o0, cX8_8 cI g0 o0, cX8_9 cI g0 o0, cX8_10 cI g0 o0, cX8_12 cI g0 o0, cX8_13 cI g0 o0, cX8_15 cI g0 o0, cX8_17 cI g0 o0, cX8_18 cI g0 o0, cX8_22 cB g0 o0, cX8_27 cI g0 o0, cX8_28 cI g0 o0, cX8_29 cI g0 o0, cX8_30 cI g0 o0, cX8_31 cI g0 o0, cX8_32 cI g0 o0, cX8_33 cI g0 o0]) := by
  intro sz
  refine Met.ofW (cc := cX8_meets) (maxL := 7) (ret := (some .boolean)) (by decide) rfl ?_
  intro p e s m args below meth c s₁ B hml hv
  obtain ⟨rfl, hsz, hP, hKK, hD0⟩ := hv
  have hx := B.exec
  have hb := B.bytes
  have hr := B.returns
  have hts := atoms_spec (ws := wsX8_meets) B.pre
  have hown : s.vm.findClass RX8 = some m.cls := findClass_of_methodNamed B.named
  have hlocks := B.notSynchronized
  have hiX8 : ∀ w ∈ u_ws RX8 TX8 36, w ∈ wsX8_meets := fun w h => List.mem_cons_of_mem _ (List.mem_append_right _ h)
  subst hsz
  have hD := hD0.self (sz := s.heap.size)
  generalize hAe : va_A ([cX8 a0 g0 o0, cX8_0 cI g0 o0, cX8_1 cI g0 o0, cX8_3 cI g0 o0, cX8_4 cI g0 o0, cX8_6 cI g0 o0, cX8_8 cI g0 o0, cX8_9 cI g0 o0, cX8_10 cI g0 o0, cX8_12 cI g0 o0, cX8_13 cI g0 o0, cX8_15 cI g0 o0, cX8_17 cI g0 o0, cX8_18 cI g0 o0, cX8_22 cB g0 o0, cX8_27 cI g0 o0, cX8_28 cI g0 o0, cX8_29 cI g0 o0, cX8_30 cI g0 o0, cX8_31 cI g0 o0, cX8_32 cI g0 o0, cX8_33 cI g0 o0]) s.heap.size = A at hD ⊢
  have hA : ∀ q : Nat, s.heap.size ≤ q → A q := fun q h => by rw [← hAe]; exact Or.inr h
  have hS : va_S A s.heap s.heap [] := va_S.rf
  have hP : va_P (dC, dI) vwCl ([cX8 a0 g0 o0, cX8_0 cI g0 o0, cX8_1 cI g0 o0, cX8_3 cI g0 o0, cX8_4 cI g0 o0, cX8_6 cI g0 o0, cX8_8 cI g0 o0, cX8_9 cI g0 o0, cX8_10 cI g0 o0, cX8_12 cI g0 o0, cX8_13 cI g0 o0, cX8_15 cI g0 o0, cX8_17 cI g0 o0, cX8_18 cI g0 o0, cX8_22 cB g0 o0, cX8_27 cI g0 o0, cX8_28 cI g0 o0, cX8_29 cI g0 o0, cX8_30 cI g0 o0, cX8_31 cI g0 o0, cX8_32 cI g0 o0, cX8_33 cI g0 o0]) s.heap := hP
  have hD : va_D A ([cX8 a0 g0 o0, cX8_0 cI g0 o0, cX8_1 cI g0 o0, cX8_3 cI g0 o0, cX8_4 cI g0 o0, cX8_6 cI g0 o0, cX8_8 cI g0 o0, cX8_9 cI g0 o0, cX8_10 cI g0 o0, cX8_12 cI g0 o0, cX8_13 cI g0 o0, cX8_15 cI g0 o0, cX8_17 cI g0 o0, cX8_18 cI g0 o0, cX8_22 cB g0 o0, cX8_27 cI g0 o0, cX8_28 cI g0 o0, cX8_29 cI g0 o0, cX8_30 cI g0 o0, cX8_31 cI g0 o0, cX8_32 cI g0 o0, cX8_33 cI g0 o0]) := hD
  have hl := lv_entry ([.ref a0, .int v1, .int v2, .int v3, .int v4, .int v5, .int v6]) (n := 7) (Nat.le_of_ble_eq_true rfl)
  rw [lg_entry_eq]
  generalize (lg_sl ([.ref a0, .int v1, .int v2, .int v3, .int v4, .int v5, .int v6]) ++ List.replicate (7 - (lg_sl ([.ref a0, .int v1, .int v2, .int v3, .int v4, .int v5, .int v6])).length) Slot.unset).toArray = ls at hl ⊢
  have hl : lv_has ls 7 [(0, .ref a0), (1, .int v1), (2, .int v2), (3, .int v3), (4, .int v4), (5, .int v5), (6, .int v6)] := hl
  obtain ⟨Q, hQ⟩ : ∃ Q, Q = MQ below (Qq dC dI (some (.int (b2i r))) ([cX8 a0 g0 o0, cX8_0 cI g0 o0, cX8_1 cI g0 o0, cX8_3 cI g0 o0, cX8_4 cI g0 o0, cX8_6 cI g0 o0, cX8_8 cI g0 o0, cX8_9 cI g0 o0, cX8_10 cI g0 o0, cX8_12 cI g0 o0, cX8_13 cI g0 o0, cX8_15 cI g0 o0, cX8_17 cI g0 o0, cX8_18 cI g0 o0, cX8_22 cB g0 o0, cX8_27 cI g0 o0, cX8_28 cI g0 o0, cX8_29 cI g0 o0, cX8_30 cI g0 o0, cX8_31 cI g0 o0, cX8_32 cI g0 o0, cX8_33 cI g0 o0]) A) ([.ref a0, .int v1, .int v2, .int v3, .int v4, .int v5, .int v6] : List Value).toArray s 0 0 A := ⟨_, rfl⟩
  rw [← hQ]
  rw [f_X8_meets] at h
  clear hAe hD0
  refine lv_aload_n hx hb dX8_meets_0 rfl (lv_at hl 0 rfl) ?_
  refine va_get (D := (dC, dI)) (ci := 8) (v := .ref (g0 3)) (C := RX8) (T := TX8) (N := 36) hx hb hts hiX8 hown hKK.1 hP 0 rfl rfl 3 (by decide) (hts (.fieldLink RX8 16 "SlideLandModel" "sort" "[I") (List.mem_of_getElem? (i := 1) rfl)) (fun _ h9 => h9) rfl dX8_meets_1 ?_
  refine lv_iload_n hx hb dX8_meets_4 rfl (lv_at hl 1 rfl) ?_
  obtain ⟨k1, h⟩ := ite_n h
  refine va_iald hx hb hKK.1 hP 3 1 rfl rfl k1 dX8_meets_5 ?_
  refine lv_aload_n hx hb dX8_meets_6 rfl (lv_at hl 0 rfl) ?_
  refine lv_iload_n hx hb dX8_meets_7 rfl (lv_at hl 1 rfl) ?_
  refine lv_iload hx hb dX8_meets_8 (lv_at hl 4 rfl) ?_
  refine lv_iload hx hb dX8_meets_10 (lv_at hl 5 rfl) ?_
  refine lv_iload hx hb dX8_meets_12 (lv_at hl 6 rfl) ?_
  obtain ⟨q2, hq2, h⟩ := obd_e h
  refine kcV (rest := [.int ((o0.2 3) v1.toNatClampNeg)]) (w2 := ([cX8 a0 g0 o0, cX8_0 cI g0 o0, cX8_1 cI g0 o0, cX8_3 cI g0 o0, cX8_4 cI g0 o0, cX8_6 cI g0 o0, cX8_8 cI g0 o0, cX8_9 cI g0 o0, cX8_10 cI g0 o0, cX8_12 cI g0 o0, cX8_13 cI g0 o0, cX8_15 cI g0 o0, cX8_17 cI g0 o0, cX8_18 cI g0 o0, cX8_22 cB g0 o0, cX8_27 cI g0 o0, cX8_28 cI g0 o0, cX8_29 cI g0 o0, cX8_30 cI g0 o0, cX8_31 cI g0 o0, cX8_32 cI g0 o0, cX8_33 cI g0 o0])) hx hb hml hown hts hKK hP hD hS hA (c_X8_placeBy l dC dI cB cI cZ cO a0 g0 o0 v1 v4 v5 v6 hq2) [0, 1, 2, 3, 4, 5, 6, 7, 8, 9, 10, 11, 12, 13, 14, 15, 16, 17, 18, 19, 20, 21] (atAll_map ⟨rfl, rfl, rfl, rfl, rfl, rfl, rfl, rfl, rfl, rfl, rfl, rfl, rfl, rfl, rfl, rfl, rfl, rfl, rfl, rfl, rfl, rfl, trivial⟩) (by decide +kernel) (sameAd_map ⟨rfl, rfl, rfl, rfl, rfl, rfl, rfl, rfl, rfl, rfl, rfl, rfl, rfl, rfl, rfl, rfl, rfl, rfl, rfl, rfl, rfl, rfl, trivial⟩) (atAll_map ⟨rfl, rfl, rfl, rfl, rfl, rfl, rfl, rfl, rfl, rfl, rfl, rfl, rfl, rfl, rfl, rfl, rfl, rfl, rfl, rfl, rfl, rfl, trivial⟩) (agr_refl _ _ _) (cwV 4 hts gX8_meets_X8_placeBy rfl rfl rfl ⟨rfl, dsc_X8_placeBy⟩ ⟨Nat.le_of_ble_eq_true rfl, Nat.le_of_ble_eq_true rfl⟩) (va_recv hKK.1 hP (ci := 8) (q0 := 0) rfl rfl) rfl hl.1 rfl (Nat.le_of_ble_eq_true rfl) dX8_meets_14 ⟨Nat.zero_le _, Nat.zero_le _⟩ (fun H locs hP hD hS => ?_)
  refine lv_aload_n hx hb dX8_meets_17 rfl (lv_at hl 0 rfl) ?_
  refine va_get (D := (dC, dI)) (ci := 8) (v := .ref (g0 1)) (C := RX8) (T := TX8) (N := 36) hx hb hts hiX8 hown hKK.1 hP 0 rfl rfl 1 (by decide) (hts (.fieldLink RX8 13 "SlideLandModel" "inch" "[I") (List.mem_of_getElem? (i := 2) rfl)) (fun _ h9 => h9) rfl dX8_meets_18 ?_
  refine lv_bipush (v := (6 : Int32)) hx hb dX8_meets_21 (by decide) ?_
  refine lv_iload_n hx hb dX8_meets_23 rfl (lv_at hl 2 rfl) ?_
  refine lv_imul hx hb dX8_meets_24 ?_
  refine lv_iload_n hx hb dX8_meets_25 rfl (lv_at hl 3 rfl) ?_
  refine lv_iadd hx hb dX8_meets_26 ?_
  obtain ⟨k3, h⟩ := ite_n h
  refine va_iald hx hb hKK.1 hP 2 1 rfl rfl k3 dX8_meets_27 ?_
  refine lv_isub hx hb dX8_meets_28 ?_
  obtain ⟨q4, hq4, h⟩ := bnd_e h
  refine kcS (rest := []) (w2 := ([cX8 a0 g0 o0, cX8_0 cI g0 o0, cX8_1 cI g0 o0, cX8_3 cI g0 o0, cX8_4 cI g0 o0, cX8_6 cI g0 o0, cX8_8 cI g0 o0, cX8_9 cI g0 o0, cX8_10 cI g0 o0, cX8_12 cI g0 o0, cX8_13 cI g0 o0, cX8_15 cI g0 o0, cX8_17 cI g0 o0, cX8_18 cI g0 o0, cX8_22 cB g0 o0, cX8_27 cI g0 o0, cX8_28 cI g0 o0, cX8_29 cI g0 o0, cX8_30 cI g0 o0, cX8_31 cI g0 o0, cX8_32 cI g0 o0, cX8_33 cI g0 o0])) hx hb hml hown hts hKK hP hD hS hA (c_X8_isAgainst l dC dI cB cI cZ cO ((o0.2 3) v1.toNatClampNeg) (q2 - ((o0.2 1) (((6 : Int32) * v2) + v3).toNatClampNeg)) hq4) [] (atAll_map trivial) (by decide +kernel) (sameAd_map trivial) (atAll_map trivial) (agr_refl _ _ _) (va_cwS 2 hts gX8_meets_X8_isAgainst rfl rfl rfl dsc_X8_isAgainst ⟨Nat.le_of_ble_eq_true rfl, Nat.le_of_ble_eq_true rfl⟩) rfl hl.1 rfl (Nat.le_of_ble_eq_true rfl) dX8_meets_29 ⟨Nat.zero_le _, Nat.zero_le _⟩ (fun H locs hP hD hS => ?_)
  have h := Option.some.inj h
  subst h
  subst hQ
  exact W.zret (v := (b2i q4)) hx hb hr (b2i_nar _) (fun t ht hW => ⟨⟨rfl, by rw [ht]; exact hP, hD⟩, hS.F ht⟩) hS.2.2 dX8_meets_32
def f_X8_againstBy_63 (x6_5 : Int32) (x6_6 : Int32) (kL6 : (Int32 → Int32 → Option (Int32))) (y63_1 : Int32) : Option (Int32) := bnd (x6_5 ||| y63_1) fun x3 : Int32 => bnd (x6_6 + (1 : Int32)) fun x4 : Int32 => kL6 x3 x4
def f_X8_againstBy_62 (x6_5 : Int32) (x6_6 : Int32) (kL6 : (Int32 → Int32 → Option (Int32))) : Option (Int32) := f_X8_againstBy_63 x6_5 x6_6 kL6 (0 : Int32)
def f_X8_againstBy_6 (o0 : Ob) (v1 : Int32) (v2 : Int32) (v3 : Int32) (v4 : Int32) : Nat → Int32 → Int32 → Option (Int32)
  | 0, _, _ => none
  | nn6+1, x6_5, x6_6 => if (12 : Int32) ≤ x6_6 then (some x6_5) else (if (x6_6 / (6 : Int32)) < 0 ∨ 2 ≤ (x6_6 / (6 : Int32)).toNatClampNeg then none else if ((o0.2 0) (x6_6 / (6 : Int32)).toNatClampNeg) ≤ (x6_6 - x6_6 / (6 : Int32) * (6 : Int32)) then (f_X8_againstBy_62 x6_5 x6_6 (f_X8_againstBy_6 o0 v1 v2 v3 v4 nn6)) else ((f_X8_meets o0 v1 (x6_6 / (6 : Int32)) (x6_6 - x6_6 / (6 : Int32) * (6 : Int32)) v2 v3 v4).bind fun q6 : Bool => if (b2i q6) = 0 then (f_X8_againstBy_62 x6_5 x6_6 (f_X8_againstBy_6 o0 v1 v2 v3 v4 nn6)) else (f_X8_againstBy_63 x6_5 x6_6 (f_X8_againstBy_6 o0 v1 v2 v3 v4 nn6) ((1 : Int32) <<< (x6_6 &&& 31)))))
def f_X8_againstBy (o0 : Ob) (v1 : Int32) (v2 : Int32) (v3 : Int32) (v4 : Int32) : Option (Int32) := f_X8_againstBy_6 o0 v1 v2 v3 v4 FU (0 : Int32) (0 : Int32)
abbrev rmX8_againstBy : Room := { frames := 2, cells := 0, slots := 0, locals := 50 }
theorem dsc_X8_againstBy : yX8_againstBy.cls ≠ "java/lang/invoke/MethodHandle" ∧ yX8_againstBy.cls ≠ "java/lang/invoke/VarHandle" ∧ (parseMethodDescriptor yX8_againstBy.desc).map (fun d => d.parameters.length) = some 4 := by decide +kernel
set_option maxHeartbeats 4000000 in
set_option maxRecDepth 100000 in
theorem c_X8_againstBy (l : Launch) (dC : Nat → ClassId) (dI : Nat → Nat → Nat) (cB cI cZ cO : ClassId) (a0 : Nat) (g0 : Nat → Nat) (o0 : Ob) (v1 : Int32) (v2 : Int32) (v3 : Int32) (v4 : Int32) {r : Int32} (h : f_X8_againstBy o0 v1 v2 v3 v4 = some r) : Ct dC dI cB cI cZ cO l yX8_againstBy wsX8_againstBy rmX8_againstBy [.ref a0, .int v1, .int v2, .int v3, .int v4] ([cX8 a0 g0 o0, cX8_0 cI g0 o0, cX8_1 cI g0 o0, cX8_3 cI g0 o0, cX8_4 cI g0 o0, cX8_6 cI g0 o0, cX8_8 cI g0 o0, cX8_9 cI g0 o0, cX8_10 cI g0 o0, cX8_12 cI g0 o0, cX8_13 cI g0 o0, cX8_15 cI g0 o0, cX8_17 cI g0 o0, cX8_18 cI g0 o0, cX8_22 cB g0 o0, cX8_27 cI g0 o0, cX8_28 cI g0 o0, cX8_29 cI g0 o0, cX8_30 cI g0 o0, cX8_31 cI g0 o0, cX8_32 cI g0 o0, cX8_33 cI g0 o0]) (some (.int r)) ([cX8 a0 g0 o0, cX8_0 cI g0 o0, cX8_1 cI g0 o0, cX8_3 cI g0 o0, cX8_4 cI g0 o0, cX8_6 cI g0 o0, cX8_8 cI g0 o0, cX8_9 cI g0 o0, cX8_10 cI g0 o0, cX8_12 cI g0 o0, cX8_13 cI g0 o0, cX8_15 cI g0 o0, cX8_17 cI g0 o0, cX8_18 cI g0 o0, cX8_22 cB g0 o0, cX8_27 cI g0 o0, cX8_28 cI g0 o0, cX8_29 cI g0 o0, cX8_30 cI g0 o0, cX8_31 cI g0 o0, cX8_32 cI g0 o0, cX8_33 cI g0 o0]) := by
  intro sz
  refine Met.ofW (cc := cX8_againstBy) (maxL := 7) (ret := (some .int)) (by decide) rfl ?_
  intro p e s m args below meth c s₁ B hml hv
  obtain ⟨rfl, hsz, hP, hKK, hD0⟩ := hv
  have hx := B.exec
  have hb := B.bytes
  have hr := B.returns
  have hts := atoms_spec (ws := wsX8_againstBy) B.pre
  have hown : s.vm.findClass RX8 = some m.cls := findClass_of_methodNamed B.named
  have hlocks := B.notSynchronized
  have hiX8 : ∀ w ∈ u_ws RX8 TX8 36, w ∈ wsX8_againstBy := fun w h => List.mem_cons_of_mem _ (List.mem_append_right _ h)
  subst hsz
  have hD := hD0.self (sz := s.heap.size)
  generalize hAe : va_A ([cX8 a0 g0 o0, cX8_0 cI g0 o0, cX8_1 cI g0 o0, cX8_3 cI g0 o0, cX8_4 cI g0 o0, cX8_6 cI g0 o0, cX8_8 cI g0 o0, cX8_9 cI g0 o0, cX8_10 cI g0 o0, cX8_12 cI g0 o0, cX8_13 cI g0 o0, cX8_15 cI g0 o0, cX8_17 cI g0 o0, cX8_18 cI g0 o0, cX8_22 cB g0 o0, cX8_27 cI g0 o0, cX8_28 cI g0 o0, cX8_29 cI g0 o0, cX8_30 cI g0 o0, cX8_31 cI g0 o0, cX8_32 cI g0 o0, cX8_33 cI g0 o0]) s.heap.size = A at hD ⊢
  have hA : ∀ q : Nat, s.heap.size ≤ q → A q := fun q h => by rw [← hAe]; exact Or.inr h
  have hS : va_S A s.heap s.heap [] := va_S.rf
  have hP : va_P (dC, dI) vwCl ([cX8 a0 g0 o0, cX8_0 cI g0 o0, cX8_1 cI g0 o0, cX8_3 cI g0 o0, cX8_4 cI g0 o0, cX8_6 cI g0 o0, cX8_8 cI g0 o0, cX8_9 cI g0 o0, cX8_10 cI g0 o0, cX8_12 cI g0 o0, cX8_13 cI g0 o0, cX8_15 cI g0 o0, cX8_17 cI g0 o0, cX8_18 cI g0 o0, cX8_22 cB g0 o0, cX8_27 cI g0 o0, cX8_28 cI g0 o0, cX8_29 cI g0 o0, cX8_30 cI g0 o0, cX8_31 cI g0 o0, cX8_32 cI g0 o0, cX8_33 cI g0 o0]) s.heap := hP
  have hD : va_D A ([cX8 a0 g0 o0, cX8_0 cI g0 o0, cX8_1 cI g0 o0, cX8_3 cI g0 o0, cX8_4 cI g0 o0, cX8_6 cI g0 o0, cX8_8 cI g0 o0, cX8_9 cI g0 o0, cX8_10 cI g0 o0, cX8_12 cI g0 o0, cX8_13 cI g0 o0, cX8_15 cI g0 o0, cX8_17 cI g0 o0, cX8_18 cI g0 o0, cX8_22 cB g0 o0, cX8_27 cI g0 o0, cX8_28 cI g0 o0, cX8_29 cI g0 o0, cX8_30 cI g0 o0, cX8_31 cI g0 o0, cX8_32 cI g0 o0, cX8_33 cI g0 o0]) := hD
  have hl := lv_entry ([.ref a0, .int v1, .int v2, .int v3, .int v4]) (n := 7) (Nat.le_of_ble_eq_true rfl)
  rw [lg_entry_eq]
  generalize (lg_sl ([.ref a0, .int v1, .int v2, .int v3, .int v4]) ++ List.replicate (7 - (lg_sl ([.ref a0, .int v1, .int v2, .int v3, .int v4])).length) Slot.unset).toArray = ls at hl ⊢
  have hl : lv_has ls 7 [(0, .ref a0), (1, .int v1), (2, .int v2), (3, .int v3), (4, .int v4)] := hl
  obtain ⟨Q, hQ⟩ : ∃ Q, Q = MQ below (Qq dC dI (some (.int r)) ([cX8 a0 g0 o0, cX8_0 cI g0 o0, cX8_1 cI g0 o0, cX8_3 cI g0 o0, cX8_4 cI g0 o0, cX8_6 cI g0 o0, cX8_8 cI g0 o0, cX8_9 cI g0 o0, cX8_10 cI g0 o0, cX8_12 cI g0 o0, cX8_13 cI g0 o0, cX8_15 cI g0 o0, cX8_17 cI g0 o0, cX8_18 cI g0 o0, cX8_22 cB g0 o0, cX8_27 cI g0 o0, cX8_28 cI g0 o0, cX8_29 cI g0 o0, cX8_30 cI g0 o0, cX8_31 cI g0 o0, cX8_32 cI g0 o0, cX8_33 cI g0 o0]) A) ([.ref a0, .int v1, .int v2, .int v3, .int v4] : List Value).toArray s 0 0 A := ⟨_, rfl⟩
  rw [← hQ]
  rw [f_X8_againstBy] at h
  clear hAe hD0
  refine lv_iconst (v := (0 : Int32)) hx hb dX8_againstBy_0 (by decide) ?_
  refine lv_istore (lv' := [(5, .int (0 : Int32)), (0, .ref a0), (1, .int v1), (2, .int v2), (3, .int v3), (4, .int v4)]) hx hb dX8_againstBy_1 hl (by decide) rfl (fun ls hl => ?_)
  refine lv_iconst (v := (0 : Int32)) hx hb dX8_againstBy_3 (by decide) ?_
  refine lv_istore (lv' := [(6, .int (0 : Int32)), (5, .int (0 : Int32)), (0, .ref a0), (1, .int v1), (2, .int v2), (3, .int v3), (4, .int v4)]) hx hb dX8_againstBy_4 hl (by decide) rfl (fun ls hl => ?_)
  have lp6 : ∀ (nn6 : Nat) (x6_5 : Int32) (x6_6 : Int32), f_X8_againstBy_6 o0 v1 v2 v3 v4 nn6 x6_5 x6_6 = some r → ∀ (H : Heap) (locs : List Loc) (ls : Array Slot), va_P (dC, dI) vwCl ([cX8 a0 g0 o0, cX8_0 cI g0 o0, cX8_1 cI g0 o0, cX8_3 cI g0 o0, cX8_4 cI g0 o0, cX8_6 cI g0 o0, cX8_8 cI g0 o0, cX8_9 cI g0 o0, cX8_10 cI g0 o0, cX8_12 cI g0 o0, cX8_13 cI g0 o0, cX8_15 cI g0 o0, cX8_17 cI g0 o0, cX8_18 cI g0 o0, cX8_22 cB g0 o0, cX8_27 cI g0 o0, cX8_28 cI g0 o0, cX8_29 cI g0 o0, cX8_30 cI g0 o0, cX8_31 cI g0 o0, cX8_32 cI g0 o0, cX8_33 cI g0 o0]) H → va_D A ([cX8 a0 g0 o0, cX8_0 cI g0 o0, cX8_1 cI g0 o0, cX8_3 cI g0 o0, cX8_4 cI g0 o0, cX8_6 cI g0 o0, cX8_8 cI g0 o0, cX8_9 cI g0 o0, cX8_10 cI g0 o0, cX8_12 cI g0 o0, cX8_13 cI g0 o0, cX8_15 cI g0 o0, cX8_17 cI g0 o0, cX8_18 cI g0 o0, cX8_22 cB g0 o0, cX8_27 cI g0 o0, cX8_28 cI g0 o0, cX8_29 cI g0 o0, cX8_30 cI g0 o0, cX8_31 cI g0 o0, cX8_32 cI g0 o0, cX8_33 cI g0 o0]) → va_S A s.heap H locs → lv_has ls 7 [(0, .ref a0), (1, .int v1), (2, .int v2), (3, .int v3), (4, .int v4), (5, .int x6_5), (6, .int x6_6)] → W p l e (headSpec wsX8_againstBy rmX8_againstBy).room s m ([.ref a0, .int v1, .int v2, .int v3, .int v4] : List Value).toArray below meth c H locs 0 0 Q (F0 m 6 ls []) := by
    intro nn6
    induction nn6 with
    | zero => intro x6_5 x6_6 h; rw [f_X8_againstBy_6] at h; cases h
    | succ nn6 ih6 =>
      intro x6_5 x6_6 h H locs ls hP hD hS hl
      rw [f_X8_againstBy_6] at h
      refine lv_iload hx hb dX8_againstBy_6 (lv_at hl 6 rfl) ?_
      refine lv_bipush (v := (12 : Int32)) hx hb dX8_againstBy_8 (by decide) ?_
      refine lv_icmp_ge (tgt := 72) hx hb dX8_againstBy_10 (by decide) (fun k1 => ?_) (fun k1 => ?_)
      · have h := ite_t k1 h
        refine lv_iload hx hb dX8_againstBy_72 (lv_at hl 5 rfl) ?_
        have h := Option.some.inj h
        subst h
        subst hQ
        exact W.iret (v := x6_5) hx hb hr (fun t ht hW => ⟨⟨rfl, by rw [ht]; exact hP, hD⟩, hS.F ht⟩) hS.2.2 dX8_againstBy_74
      · have h := ite_f k1 h
        refine lv_iload hx hb dX8_againstBy_13 (lv_at hl 5 rfl) ?_
        refine lv_iload hx hb dX8_againstBy_15 (lv_at hl 6 rfl) ?_
        refine lv_bipush (v := (6 : Int32)) hx hb dX8_againstBy_17 (by decide) ?_
        refine lv_irem hx hb dX8_againstBy_19 (by decide) ?_
        refine lv_aload_n hx hb dX8_againstBy_20 rfl (lv_at hl 0 rfl) ?_
        refine va_get (D := (dC, dI)) (ci := 8) (v := .ref (g0 0)) (C := RX8) (T := TX8) (N := 36) hx hb hts hiX8 hown hKK.1 hP 0 rfl rfl 0 (by decide) (hts (.fieldLink RX8 7 "SlideLandModel" "many" "[I") (List.mem_of_getElem? (i := 1) rfl)) (fun _ h9 => h9) rfl dX8_againstBy_21 ?_
        refine lv_iload hx hb dX8_againstBy_24 (lv_at hl 6 rfl) ?_
        refine lv_bipush (v := (6 : Int32)) hx hb dX8_againstBy_26 (by decide) ?_
        refine lv_idiv hx hb dX8_againstBy_28 (by decide) ?_
        obtain ⟨k2, h⟩ := ite_n h
        refine va_iald hx hb hKK.1 hP 1 1 rfl rfl k2 dX8_againstBy_29 ?_
        have jn63 : ∀ (y63_1 : Int32), f_X8_againstBy_63 x6_5 x6_6 (f_X8_againstBy_6 o0 v1 v2 v3 v4 nn6) y63_1 = some r → ∀ (H : Heap) (locs : List Loc) (ls : Array Slot), va_P (dC, dI) vwCl ([cX8 a0 g0 o0, cX8_0 cI g0 o0, cX8_1 cI g0 o0, cX8_3 cI g0 o0, cX8_4 cI g0 o0, cX8_6 cI g0 o0, cX8_8 cI g0 o0, cX8_9 cI g0 o0, cX8_10 cI g0 o0, cX8_12 cI g0 o0, cX8_13 cI g0 o0, cX8_15 cI g0 o0, cX8_17 cI g0 o0, cX8_18 cI g0 o0, cX8_22 cB g0 o0, cX8_27 cI g0 o0, cX8_28 cI g0 o0, cX8_29 cI g0 o0, cX8_30 cI g0 o0, cX8_31 cI g0 o0, cX8_32 cI g0 o0, cX8_33 cI g0 o0]) H → va_D A ([cX8 a0 g0 o0, cX8_0 cI g0 o0, cX8_1 cI g0 o0, cX8_3 cI g0 o0, cX8_4 cI g0 o0, cX8_6 cI g0 o0, cX8_8 cI g0 o0, cX8_9 cI g0 o0, cX8_10 cI g0 o0, cX8_12 cI g0 o0, cX8_13 cI g0 o0, cX8_15 cI g0 o0, cX8_17 cI g0 o0, cX8_18 cI g0 o0, cX8_22 cB g0 o0, cX8_27 cI g0 o0, cX8_28 cI g0 o0, cX8_29 cI g0 o0, cX8_30 cI g0 o0, cX8_31 cI g0 o0, cX8_32 cI g0 o0, cX8_33 cI g0 o0]) → va_S A s.heap H locs → lv_has ls 7 [(0, .ref a0), (1, .int v1), (2, .int v2), (3, .int v3), (4, .int v4), (6, .int x6_6)] → W p l e (headSpec wsX8_againstBy rmX8_againstBy).room s m ([.ref a0, .int v1, .int v2, .int v3, .int v4] : List Value).toArray below meth c H locs 0 0 Q (F0 m 63 ls [.int y63_1, .int x6_5]) := by
          intro y63_1 h H locs ls hP hD hS hl
          rw [f_X8_againstBy_63] at h
          refine lv_ior hx hb dX8_againstBy_63 ?_
          obtain ⟨x3, hx3, h⟩ := bnd_e h
          refine lv_topE hx3 ?_
          refine lv_istore (lv' := [(5, .int x3), (0, .ref a0), (1, .int v1), (2, .int v2), (3, .int v3), (4, .int v4), (6, .int x6_6)]) hx hb dX8_againstBy_64 hl (by decide) rfl (fun ls hl => ?_)
          obtain ⟨x4, hx4, h⟩ := bnd_e h
          refine lv_iinc (v := x4) (lv' := [(6, .int x4), (5, .int x3), (0, .ref a0), (1, .int v1), (2, .int v2), (3, .int v3), (4, .int v4)]) hx hb dX8_againstBy_66 hl (k := 6) rfl (by rw [← hx4]; rfl) (by decide) rfl (fun ls hl => ?_)
          refine lv_goto (tgt := 6) hx hb dX8_againstBy_69 (by decide) ?_
          exact ih6 x3 x4 h _ _ _ hP hD hS (lv_sub hl [2, 3, 4, 5, 6, 1, 0] rfl)
        have jn62 : f_X8_againstBy_62 x6_5 x6_6 (f_X8_againstBy_6 o0 v1 v2 v3 v4 nn6) = some r → ∀ (H : Heap) (locs : List Loc) (ls : Array Slot), va_P (dC, dI) vwCl ([cX8 a0 g0 o0, cX8_0 cI g0 o0, cX8_1 cI g0 o0, cX8_3 cI g0 o0, cX8_4 cI g0 o0, cX8_6 cI g0 o0, cX8_8 cI g0 o0, cX8_9 cI g0 o0, cX8_10 cI g0 o0, cX8_12 cI g0 o0, cX8_13 cI g0 o0, cX8_15 cI g0 o0, cX8_17 cI g0 o0, cX8_18 cI g0 o0, cX8_22 cB g0 o0, cX8_27 cI g0 o0, cX8_28 cI g0 o0, cX8_29 cI g0 o0, cX8_30 cI g0 o0, cX8_31 cI g0 o0, cX8_32 cI g0 o0, cX8_33 cI g0 o0]) H → va_D A ([cX8 a0 g0 o0, cX8_0 cI g0 o0, cX8_1 cI g0 o0, cX8_3 cI g0 o0, cX8_4 cI g0 o0, cX8_6 cI g0 o0, cX8_8 cI g0 o0, cX8_9 cI g0 o0, cX8_10 cI g0 o0, cX8_12 cI g0 o0, cX8_13 cI g0 o0, cX8_15 cI g0 o0, cX8_17 cI g0 o0, cX8_18 cI g0 o0, cX8_22 cB g0 o0, cX8_27 cI g0 o0, cX8_28 cI g0 o0, cX8_29 cI g0 o0, cX8_30 cI g0 o0, cX8_31 cI g0 o0, cX8_32 cI g0 o0, cX8_33 cI g0 o0]) → va_S A s.heap H locs → lv_has ls 7 [(0, .ref a0), (1, .int v1), (2, .int v2), (3, .int v3), (4, .int v4), (6, .int x6_6)] → W p l e (headSpec wsX8_againstBy rmX8_againstBy).room s m ([.ref a0, .int v1, .int v2, .int v3, .int v4] : List Value).toArray below meth c H locs 0 0 Q (F0 m 62 ls [.int x6_5]) := by
          intro h H locs ls hP hD hS hl
          rw [f_X8_againstBy_62] at h
          refine lv_iconst (v := (0 : Int32)) hx hb dX8_againstBy_62 (by decide) ?_
          exact jn63 (0 : Int32) h _ _ _ hP hD hS (lv_sub hl [0, 1, 2, 3, 4, 5] rfl)
        refine lv_icmp_ge (tgt := 62) hx hb dX8_againstBy_30 (by decide) (fun k5 => ?_) (fun k5 => ?_)
        · have h := ite_t k5 h
          exact jn62 h _ _ _ hP hD hS (lv_sub hl [0, 1, 2, 3, 4, 6] rfl)
        · have h := ite_f k5 h
          refine lv_aload_n hx hb dX8_againstBy_33 rfl (lv_at hl 0 rfl) ?_
          refine lv_iload_n hx hb dX8_againstBy_34 rfl (lv_at hl 1 rfl) ?_
          refine lv_iload hx hb dX8_againstBy_35 (lv_at hl 6 rfl) ?_
          refine lv_bipush (v := (6 : Int32)) hx hb dX8_againstBy_37 (by decide) ?_
          refine lv_idiv hx hb dX8_againstBy_39 (by decide) ?_
          refine lv_iload hx hb dX8_againstBy_40 (lv_at hl 6 rfl) ?_
          refine lv_bipush (v := (6 : Int32)) hx hb dX8_againstBy_42 (by decide) ?_
          refine lv_irem hx hb dX8_againstBy_44 (by decide) ?_
          refine lv_iload_n hx hb dX8_againstBy_45 rfl (lv_at hl 2 rfl) ?_
          refine lv_iload_n hx hb dX8_againstBy_46 rfl (lv_at hl 3 rfl) ?_
          refine lv_iload hx hb dX8_againstBy_47 (lv_at hl 4 rfl) ?_
          obtain ⟨q6, hq6, h⟩ := obd_e h
          refine kcV (rest := [.int x6_5]) (w2 := ([cX8 a0 g0 o0, cX8_0 cI g0 o0, cX8_1 cI g0 o0, cX8_3 cI g0 o0, cX8_4 cI g0 o0, cX8_6 cI g0 o0, cX8_8 cI g0 o0, cX8_9 cI g0 o0, cX8_10 cI g0 o0, cX8_12 cI g0 o0, cX8_13 cI g0 o0, cX8_15 cI g0 o0, cX8_17 cI g0 o0, cX8_18 cI g0 o0, cX8_22 cB g0 o0, cX8_27 cI g0 o0, cX8_28 cI g0 o0, cX8_29 cI g0 o0, cX8_30 cI g0 o0, cX8_31 cI g0 o0, cX8_32 cI g0 o0, cX8_33 cI g0 o0])) hx hb hml hown hts hKK hP hD hS hA (c_X8_meets l dC dI cB cI cZ cO a0 g0 o0 v1 (x6_6 / (6 : Int32)) (x6_6 - x6_6 / (6 : Int32) * (6 : Int32)) v2 v3 v4 hq6) [0, 1, 2, 3, 4, 5, 6, 7, 8, 9, 10, 11, 12, 13, 14, 15, 16, 17, 18, 19, 20, 21] (atAll_map ⟨rfl, rfl, rfl, rfl, rfl, rfl, rfl, rfl, rfl, rfl, rfl, rfl, rfl, rfl, rfl, rfl, rfl, rfl, rfl, rfl, rfl, rfl, trivial⟩) (by decide +kernel) (sameAd_map ⟨rfl, rfl, rfl, rfl, rfl, rfl, rfl, rfl, rfl, rfl, rfl, rfl, rfl, rfl, rfl, rfl, rfl, rfl, rfl, rfl, rfl, rfl, trivial⟩) (atAll_map ⟨rfl, rfl, rfl, rfl, rfl, rfl, rfl, rfl, rfl, rfl, rfl, rfl, rfl, rfl, rfl, rfl, rfl, rfl, rfl, rfl, rfl, rfl, trivial⟩) (agr_refl _ _ _) (cwV 6 hts gX8_againstBy_X8_meets rfl rfl rfl ⟨rfl, dsc_X8_meets⟩ ⟨Nat.le_of_ble_eq_true rfl, Nat.le_of_ble_eq_true rfl⟩) (va_recv hKK.1 hP (ci := 8) (q0 := 0) rfl rfl) rfl hl.1 rfl (Nat.le_of_ble_eq_true rfl) dX8_againstBy_49 ⟨Nat.zero_le _, Nat.zero_le _⟩ (fun H locs hP hD hS => ?_)
          refine lv_if_eq (tgt := 62) hx hb dX8_againstBy_52 (by decide) (fun k7 => ?_) (fun k7 => ?_)
          · have h := ite_t k7 h
            exact jn62 h _ _ _ hP hD hS (lv_sub hl [0, 1, 2, 3, 4, 6] rfl)
          · have h := ite_f k7 h
            refine lv_iconst (v := (1 : Int32)) hx hb dX8_againstBy_55 (by decide) ?_
            refine lv_iload hx hb dX8_againstBy_56 (lv_at hl 6 rfl) ?_
            refine lv_ishl hx hb dX8_againstBy_58 ?_
            refine lv_goto (tgt := 63) hx hb dX8_againstBy_59 (by decide) ?_
            exact jn63 ((1 : Int32) <<< (x6_6 &&& 31)) h _ _ _ hP hD hS (lv_sub hl [0, 1, 2, 3, 4, 6] rfl)
  exact lp6 FU (0 : Int32) (0 : Int32) h _ _ _ hP hD hS (lv_sub hl [2, 3, 4, 5, 6, 1, 0] rfl)
def f_X8_againstIn (o0 : Ob) (v1 : Int32) (v2 : Int32) : Option (Int32) := if v1 < 0 ∨ 312 ≤ v1.toNatClampNeg then none else if (v1 + (1 : Int32)) < 0 ∨ 312 ≤ (v1 + (1 : Int32)).toNatClampNeg then none else if (v1 + (3 : Int32)) < 0 ∨ 312 ≤ (v1 + (3 : Int32)).toNatClampNeg then none else (f_X8_dampOf o0 ((o0.2 18) (v1 + (3 : Int32)).toNatClampNeg)).bind fun q4 : Int32 => (f_X8_againstBy o0 v2 ((o0.2 18) v1.toNatClampNeg) ((o0.2 18) (v1 + (1 : Int32)).toNatClampNeg) q4).bind fun q5 : Int32 => some q5
abbrev rmX8_againstIn : Room := { frames := 3, cells := 0, slots := 0, locals := 76 }
theorem dsc_X8_againstIn : yX8_againstIn.cls ≠ "java/lang/invoke/MethodHandle" ∧ yX8_againstIn.cls ≠ "java/lang/invoke/VarHandle" ∧ (parseMethodDescriptor yX8_againstIn.desc).map (fun d => d.parameters.length) = some 2 := by decide +kernel
set_option maxHeartbeats 4000000 in
set_option maxRecDepth 100000 in
theorem c_X8_againstIn (l : Launch) (dC : Nat → ClassId) (dI : Nat → Nat → Nat) (cB cI cZ cO : ClassId) (a0 : Nat) (g0 : Nat → Nat) (o0 : Ob) (v1 : Int32) (v2 : Int32) {r : Int32} (h : f_X8_againstIn o0 v1 v2 = some r) : Ct dC dI cB cI cZ cO l yX8_againstIn wsX8_againstIn rmX8_againstIn [.ref a0, .int v1, .int v2] ([cX8 a0 g0 o0, cX8_0 cI g0 o0, cX8_1 cI g0 o0, cX8_3 cI g0 o0, cX8_4 cI g0 o0, cX8_6 cI g0 o0, cX8_8 cI g0 o0, cX8_9 cI g0 o0, cX8_10 cI g0 o0, cX8_12 cI g0 o0, cX8_13 cI g0 o0, cX8_15 cI g0 o0, cX8_17 cI g0 o0, cX8_18 cI g0 o0, cX8_22 cB g0 o0, cX8_27 cI g0 o0, cX8_28 cI g0 o0, cX8_29 cI g0 o0, cX8_30 cI g0 o0, cX8_31 cI g0 o0, cX8_32 cI g0 o0, cX8_33 cI g0 o0]) (some (.int r)) ([cX8 a0 g0 o0, cX8_0 cI g0 o0, cX8_1 cI g0 o0, cX8_3 cI g0 o0, cX8_4 cI g0 o0, cX8_6 cI g0 o0, cX8_8 cI g0 o0, cX8_9 cI g0 o0, cX8_10 cI g0 o0, cX8_12 cI g0 o0, cX8_13 cI g0 o0, cX8_15 cI g0 o0, cX8_17 cI g0 o0, cX8_18 cI g0 o0, cX8_22 cB g0 o0, cX8_27 cI g0 o0, cX8_28 cI g0 o0, cX8_29 cI g0 o0, cX8_30 cI g0 o0, cX8_31 cI g0 o0, cX8_32 cI g0 o0, cX8_33 cI g0 o0]) := by
  intro sz
  refine Met.ofW (cc := cX8_againstIn) (maxL := 3) (ret := (some .int)) (by decide) rfl ?_
  intro p e s m args below meth c s₁ B hml hv
  obtain ⟨rfl, hsz, hP, hKK, hD0⟩ := hv
  have hx := B.exec
  have hb := B.bytes
  have hr := B.returns
  have hts := atoms_spec (ws := wsX8_againstIn) B.pre
  have hown : s.vm.findClass RX8 = some m.cls := findClass_of_methodNamed B.named
  have hlocks := B.notSynchronized
  have hiX8 : ∀ w ∈ u_ws RX8 TX8 36, w ∈ wsX8_againstIn := fun w h => List.mem_cons_of_mem _ (List.mem_append_right _ h)
  subst hsz
  have hD := hD0.self (sz := s.heap.size)
  generalize hAe : va_A ([cX8 a0 g0 o0, cX8_0 cI g0 o0, cX8_1 cI g0 o0, cX8_3 cI g0 o0, cX8_4 cI g0 o0, cX8_6 cI g0 o0, cX8_8 cI g0 o0, cX8_9 cI g0 o0, cX8_10 cI g0 o0, cX8_12 cI g0 o0, cX8_13 cI g0 o0, cX8_15 cI g0 o0, cX8_17 cI g0 o0, cX8_18 cI g0 o0, cX8_22 cB g0 o0, cX8_27 cI g0 o0, cX8_28 cI g0 o0, cX8_29 cI g0 o0, cX8_30 cI g0 o0, cX8_31 cI g0 o0, cX8_32 cI g0 o0, cX8_33 cI g0 o0]) s.heap.size = A at hD ⊢
  have hA : ∀ q : Nat, s.heap.size ≤ q → A q := fun q h => by rw [← hAe]; exact Or.inr h
  have hS : va_S A s.heap s.heap [] := va_S.rf
  have hP : va_P (dC, dI) vwCl ([cX8 a0 g0 o0, cX8_0 cI g0 o0, cX8_1 cI g0 o0, cX8_3 cI g0 o0, cX8_4 cI g0 o0, cX8_6 cI g0 o0, cX8_8 cI g0 o0, cX8_9 cI g0 o0, cX8_10 cI g0 o0, cX8_12 cI g0 o0, cX8_13 cI g0 o0, cX8_15 cI g0 o0, cX8_17 cI g0 o0, cX8_18 cI g0 o0, cX8_22 cB g0 o0, cX8_27 cI g0 o0, cX8_28 cI g0 o0, cX8_29 cI g0 o0, cX8_30 cI g0 o0, cX8_31 cI g0 o0, cX8_32 cI g0 o0, cX8_33 cI g0 o0]) s.heap := hP
  have hD : va_D A ([cX8 a0 g0 o0, cX8_0 cI g0 o0, cX8_1 cI g0 o0, cX8_3 cI g0 o0, cX8_4 cI g0 o0, cX8_6 cI g0 o0, cX8_8 cI g0 o0, cX8_9 cI g0 o0, cX8_10 cI g0 o0, cX8_12 cI g0 o0, cX8_13 cI g0 o0, cX8_15 cI g0 o0, cX8_17 cI g0 o0, cX8_18 cI g0 o0, cX8_22 cB g0 o0, cX8_27 cI g0 o0, cX8_28 cI g0 o0, cX8_29 cI g0 o0, cX8_30 cI g0 o0, cX8_31 cI g0 o0, cX8_32 cI g0 o0, cX8_33 cI g0 o0]) := hD
  have hl := lv_entry ([.ref a0, .int v1, .int v2]) (n := 3) (Nat.le_of_ble_eq_true rfl)
  rw [lg_entry_eq]
  generalize (lg_sl ([.ref a0, .int v1, .int v2]) ++ List.replicate (3 - (lg_sl ([.ref a0, .int v1, .int v2])).length) Slot.unset).toArray = ls at hl ⊢
  have hl : lv_has ls 3 [(0, .ref a0), (1, .int v1), (2, .int v2)] := hl
  obtain ⟨Q, hQ⟩ : ∃ Q, Q = MQ below (Qq dC dI (some (.int r)) ([cX8 a0 g0 o0, cX8_0 cI g0 o0, cX8_1 cI g0 o0, cX8_3 cI g0 o0, cX8_4 cI g0 o0, cX8_6 cI g0 o0, cX8_8 cI g0 o0, cX8_9 cI g0 o0, cX8_10 cI g0 o0, cX8_12 cI g0 o0, cX8_13 cI g0 o0, cX8_15 cI g0 o0, cX8_17 cI g0 o0, cX8_18 cI g0 o0, cX8_22 cB g0 o0, cX8_27 cI g0 o0, cX8_28 cI g0 o0, cX8_29 cI g0 o0, cX8_30 cI g0 o0, cX8_31 cI g0 o0, cX8_32 cI g0 o0, cX8_33 cI g0 o0]) A) ([.ref a0, .int v1, .int v2] : List Value).toArray s 0 0 A := ⟨_, rfl⟩
  rw [← hQ]
  rw [f_X8_againstIn] at h
  clear hAe hD0
  refine lv_aload_n hx hb dX8_againstIn_0 rfl (lv_at hl 0 rfl) ?_
  refine lv_iload_n hx hb dX8_againstIn_1 rfl (lv_at hl 2 rfl) ?_
  refine lv_aload_n hx hb dX8_againstIn_2 rfl (lv_at hl 0 rfl) ?_
  refine va_get (D := (dC, dI)) (ci := 8) (v := .ref (g0 18)) (C := RX8) (T := TX8) (N := 36) hx hb hts hiX8 hown hKK.1 hP 0 rfl rfl 18 (by decide) (hts (.fieldLink RX8 46 "SlideLandModel" "slot" "[I") (List.mem_of_getElem? (i := 1) rfl)) (fun _ h9 => h9) rfl dX8_againstIn_3 ?_
  refine lv_iload_n hx hb dX8_againstIn_6 rfl (lv_at hl 1 rfl) ?_
  obtain ⟨k1, h⟩ := ite_n h
  refine va_iald hx hb hKK.1 hP 13 1 rfl rfl k1 dX8_againstIn_7 ?_
  refine lv_aload_n hx hb dX8_againstIn_8 rfl (lv_at hl 0 rfl) ?_
  refine va_get (D := (dC, dI)) (ci := 8) (v := .ref (g0 18)) (C := RX8) (T := TX8) (N := 36) hx hb hts hiX8 hown hKK.1 hP 0 rfl rfl 18 (by decide) (hts (.fieldLink RX8 46 "SlideLandModel" "slot" "[I") (List.mem_of_getElem? (i := 1) rfl)) (fun _ h9 => h9) rfl dX8_againstIn_9 ?_
  refine lv_iload_n hx hb dX8_againstIn_12 rfl (lv_at hl 1 rfl) ?_
  refine lv_iconst (v := (1 : Int32)) hx hb dX8_againstIn_13 (by decide) ?_
  refine lv_iadd hx hb dX8_againstIn_14 ?_
  obtain ⟨k2, h⟩ := ite_n h
  refine va_iald hx hb hKK.1 hP 13 1 rfl rfl k2 dX8_againstIn_15 ?_
  refine lv_aload_n hx hb dX8_againstIn_16 rfl (lv_at hl 0 rfl) ?_
  refine lv_aload_n hx hb dX8_againstIn_17 rfl (lv_at hl 0 rfl) ?_
  refine va_get (D := (dC, dI)) (ci := 8) (v := .ref (g0 18)) (C := RX8) (T := TX8) (N := 36) hx hb hts hiX8 hown hKK.1 hP 0 rfl rfl 18 (by decide) (hts (.fieldLink RX8 46 "SlideLandModel" "slot" "[I") (List.mem_of_getElem? (i := 1) rfl)) (fun _ h9 => h9) rfl dX8_againstIn_18 ?_
  refine lv_iload_n hx hb dX8_againstIn_21 rfl (lv_at hl 1 rfl) ?_
  refine lv_iconst (v := (3 : Int32)) hx hb dX8_againstIn_22 (by decide) ?_
  refine lv_iadd hx hb dX8_againstIn_23 ?_
  obtain ⟨k3, h⟩ := ite_n h
  refine va_iald hx hb hKK.1 hP 13 1 rfl rfl k3 dX8_againstIn_24 ?_
  obtain ⟨q4, hq4, h⟩ := obd_e h
  refine kcV (rest := [.int ((o0.2 18) (v1 + (1 : Int32)).toNatClampNeg), .int ((o0.2 18) v1.toNatClampNeg), .int v2, .ref a0]) (w2 := ([cX8 a0 g0 o0, cX8_0 cI g0 o0, cX8_1 cI g0 o0, cX8_3 cI g0 o0, cX8_4 cI g0 o0, cX8_6 cI g0 o0, cX8_8 cI g0 o0, cX8_9 cI g0 o0, cX8_10 cI g0 o0, cX8_12 cI g0 o0, cX8_13 cI g0 o0, cX8_15 cI g0 o0, cX8_17 cI g0 o0, cX8_18 cI g0 o0, cX8_22 cB g0 o0, cX8_27 cI g0 o0, cX8_28 cI g0 o0, cX8_29 cI g0 o0, cX8_30 cI g0 o0, cX8_31 cI g0 o0, cX8_32 cI g0 o0, cX8_33 cI g0 o0])) hx hb hml hown hts hKK hP hD hS hA (c_X8_dampOf l dC dI cB cI cZ cO a0 g0 o0 ((o0.2 18) (v1 + (3 : Int32)).toNatClampNeg) hq4) [0, 1, 2, 3, 4, 5, 6, 7, 8, 9, 10, 11, 12, 13, 14, 15, 16, 17, 18, 19, 20, 21] (atAll_map ⟨rfl, rfl, rfl, rfl, rfl, rfl, rfl, rfl, rfl, rfl, rfl, rfl, rfl, rfl, rfl, rfl, rfl, rfl, rfl, rfl, rfl, rfl, trivial⟩) (by decide +kernel) (sameAd_map ⟨rfl, rfl, rfl, rfl, rfl, rfl, rfl, rfl, rfl, rfl, rfl, rfl, rfl, rfl, rfl, rfl, rfl, rfl, rfl, rfl, rfl, rfl, trivial⟩) (atAll_map ⟨rfl, rfl, rfl, rfl, rfl, rfl, rfl, rfl, rfl, rfl, rfl, rfl, rfl, rfl, rfl, rfl, rfl, rfl, rfl, rfl, rfl, rfl, trivial⟩) (agr_refl _ _ _) (cwV 1 hts gX8_againstIn_X8_dampOf rfl rfl rfl ⟨rfl, dsc_X8_dampOf⟩ ⟨Nat.le_of_ble_eq_true rfl, Nat.le_of_ble_eq_true rfl⟩) (va_recv hKK.1 hP (ci := 8) (q0 := 0) rfl rfl) rfl hl.1 rfl (Nat.le_of_ble_eq_true rfl) dX8_againstIn_25 ⟨Nat.zero_le _, Nat.zero_le _⟩ (fun H locs hP hD hS => ?_)
  obtain ⟨q5, hq5, h⟩ := obd_e h
  refine kcV (rest := []) (w2 := ([cX8 a0 g0 o0, cX8_0 cI g0 o0, cX8_1 cI g0 o0, cX8_3 cI g0 o0, cX8_4 cI g0 o0, cX8_6 cI g0 o0, cX8_8 cI g0 o0, cX8_9 cI g0 o0, cX8_10 cI g0 o0, cX8_12 cI g0 o0, cX8_13 cI g0 o0, cX8_15 cI g0 o0, cX8_17 cI g0 o0, cX8_18 cI g0 o0, cX8_22 cB g0 o0, cX8_27 cI g0 o0, cX8_28 cI g0 o0, cX8_29 cI g0 o0, cX8_30 cI g0 o0, cX8_31 cI g0 o0, cX8_32 cI g0 o0, cX8_33 cI g0 o0])) hx hb hml hown hts hKK hP hD hS hA (c_X8_againstBy l dC dI cB cI cZ cO a0 g0 o0 v2 ((o0.2 18) v1.toNatClampNeg) ((o0.2 18) (v1 + (1 : Int32)).toNatClampNeg) q4 hq5) [0, 1, 2, 3, 4, 5, 6, 7, 8, 9, 10, 11, 12, 13, 14, 15, 16, 17, 18, 19, 20, 21] (atAll_map ⟨rfl, rfl, rfl, rfl, rfl, rfl, rfl, rfl, rfl, rfl, rfl, rfl, rfl, rfl, rfl, rfl, rfl, rfl, rfl, rfl, rfl, rfl, trivial⟩) (by decide +kernel) (sameAd_map ⟨rfl, rfl, rfl, rfl, rfl, rfl, rfl, rfl, rfl, rfl, rfl, rfl, rfl, rfl, rfl, rfl, rfl, rfl, rfl, rfl, rfl, rfl, trivial⟩) (atAll_map ⟨rfl, rfl, rfl, rfl, rfl, rfl, rfl, rfl, rfl, rfl, rfl, rfl, rfl, rfl, rfl, rfl, rfl, rfl, rfl, rfl, rfl, rfl, trivial⟩) (agr_refl _ _ _) (cwV 4 hts gX8_againstIn_X8_againstBy rfl rfl rfl ⟨rfl, dsc_X8_againstBy⟩ ⟨Nat.le_of_ble_eq_true rfl, Nat.le_of_ble_eq_true rfl⟩) (va_recv hKK.1 hP (ci := 8) (q0 := 0) rfl rfl) rfl hl.1 rfl (Nat.le_of_ble_eq_true rfl) dX8_againstIn_28 ⟨Nat.zero_le _, Nat.zero_le _⟩ (fun H locs hP hD hS => ?_)
  have h := Option.some.inj h
  subst h
  subst hQ
  exact W.iret (v := q5) hx hb hr (fun t ht hW => ⟨⟨rfl, by rw [ht]; exact hP, hD⟩, hS.F ht⟩) hS.2.2 dX8_againstIn_31
def f_X8_place (o0 : Ob) (v1 : Int32) (v2 : Int32) : Option (Int32) := if v1 < 0 ∨ 312 ≤ v1.toNatClampNeg then none else if (v1 + (1 : Int32)) < 0 ∨ 312 ≤ (v1 + (1 : Int32)).toNatClampNeg then none else if (v1 + (3 : Int32)) < 0 ∨ 312 ≤ (v1 + (3 : Int32)).toNatClampNeg then none else (f_X8_dampOf o0 ((o0.2 18) (v1 + (3 : Int32)).toNatClampNeg)).bind fun q4 : Int32 => (f_X8_placeBy o0 v2 ((o0.2 18) v1.toNatClampNeg) ((o0.2 18) (v1 + (1 : Int32)).toNatClampNeg) q4).bind fun q5 : Int32 => some q5
abbrev rmX8_place : Room := { frames := 1, cells := 0, slots := 0, locals := 24 }
theorem dsc_X8_place : yX8_place.cls ≠ "java/lang/invoke/MethodHandle" ∧ yX8_place.cls ≠ "java/lang/invoke/VarHandle" ∧ (parseMethodDescriptor yX8_place.desc).map (fun d => d.parameters.length) = some 2 := by decide +kernel
set_option maxHeartbeats 4000000 in
set_option maxRecDepth 100000 in
theorem c_X8_place (l : Launch) (dC : Nat → ClassId) (dI : Nat → Nat → Nat) (cB cI cZ cO : ClassId) (a0 : Nat) (g0 : Nat → Nat) (o0 : Ob) (v1 : Int32) (v2 : Int32) {r : Int32} (h : f_X8_place o0 v1 v2 = some r) : Ct dC dI cB cI cZ cO l yX8_place wsX8_place rmX8_place [.ref a0, .int v1, .int v2] ([cX8 a0 g0 o0, cX8_0 cI g0 o0, cX8_1 cI g0 o0, cX8_3 cI g0 o0, cX8_4 cI g0 o0, cX8_6 cI g0 o0, cX8_8 cI g0 o0, cX8_9 cI g0 o0, cX8_10 cI g0 o0, cX8_12 cI g0 o0, cX8_13 cI g0 o0, cX8_15 cI g0 o0, cX8_17 cI g0 o0, cX8_18 cI g0 o0, cX8_22 cB g0 o0, cX8_27 cI g0 o0, cX8_28 cI g0 o0, cX8_29 cI g0 o0, cX8_30 cI g0 o0, cX8_31 cI g0 o0, cX8_32 cI g0 o0, cX8_33 cI g0 o0]) (some (.int r)) ([cX8 a0 g0 o0, cX8_0 cI g0 o0, cX8_1 cI g0 o0, cX8_3 cI g0 o0, cX8_4 cI g0 o0, cX8_6 cI g0 o0, cX8_8 cI g0 o0, cX8_9 cI g0 o0, cX8_10 cI g0 o0, cX8_12 cI g0 o0, cX8_13 cI g0 o0, cX8_15 cI g0 o0, cX8_17 cI g0 o0, cX8_18 cI g0 o0, cX8_22 cB g0 o0, cX8_27 cI g0 o0, cX8_28 cI g0 o0, cX8_29 cI g0 o0, cX8_30 cI g0 o0, cX8_31 cI g0 o0, cX8_32 cI g0 o0, cX8_33 cI g0 o0]) := by
  intro sz
  refine Met.ofW (cc := cX8_place) (maxL := 3) (ret := (some .int)) (by decide) rfl ?_
  intro p e s m args below meth c s₁ B hml hv
  obtain ⟨rfl, hsz, hP, hKK, hD0⟩ := hv
  have hx := B.exec
  have hb := B.bytes
  have hr := B.returns
  have hts := atoms_spec (ws := wsX8_place) B.pre
  have hown : s.vm.findClass RX8 = some m.cls := findClass_of_methodNamed B.named
  have hlocks := B.notSynchronized
  have hiX8 : ∀ w ∈ u_ws RX8 TX8 36, w ∈ wsX8_place := fun w h => List.mem_cons_of_mem _ (List.mem_append_right _ h)
  subst hsz
  have hD := hD0.self (sz := s.heap.size)
  generalize hAe : va_A ([cX8 a0 g0 o0, cX8_0 cI g0 o0, cX8_1 cI g0 o0, cX8_3 cI g0 o0, cX8_4 cI g0 o0, cX8_6 cI g0 o0, cX8_8 cI g0 o0, cX8_9 cI g0 o0, cX8_10 cI g0 o0, cX8_12 cI g0 o0, cX8_13 cI g0 o0, cX8_15 cI g0 o0, cX8_17 cI g0 o0, cX8_18 cI g0 o0, cX8_22 cB g0 o0, cX8_27 cI g0 o0, cX8_28 cI g0 o0, cX8_29 cI g0 o0, cX8_30 cI g0 o0, cX8_31 cI g0 o0, cX8_32 cI g0 o0, cX8_33 cI g0 o0]) s.heap.size = A at hD ⊢
  have hA : ∀ q : Nat, s.heap.size ≤ q → A q := fun q h => by rw [← hAe]; exact Or.inr h
  have hS : va_S A s.heap s.heap [] := va_S.rf
  have hP : va_P (dC, dI) vwCl ([cX8 a0 g0 o0, cX8_0 cI g0 o0, cX8_1 cI g0 o0, cX8_3 cI g0 o0, cX8_4 cI g0 o0, cX8_6 cI g0 o0, cX8_8 cI g0 o0, cX8_9 cI g0 o0, cX8_10 cI g0 o0, cX8_12 cI g0 o0, cX8_13 cI g0 o0, cX8_15 cI g0 o0, cX8_17 cI g0 o0, cX8_18 cI g0 o0, cX8_22 cB g0 o0, cX8_27 cI g0 o0, cX8_28 cI g0 o0, cX8_29 cI g0 o0, cX8_30 cI g0 o0, cX8_31 cI g0 o0, cX8_32 cI g0 o0, cX8_33 cI g0 o0]) s.heap := hP
  have hD : va_D A ([cX8 a0 g0 o0, cX8_0 cI g0 o0, cX8_1 cI g0 o0, cX8_3 cI g0 o0, cX8_4 cI g0 o0, cX8_6 cI g0 o0, cX8_8 cI g0 o0, cX8_9 cI g0 o0, cX8_10 cI g0 o0, cX8_12 cI g0 o0, cX8_13 cI g0 o0, cX8_15 cI g0 o0, cX8_17 cI g0 o0, cX8_18 cI g0 o0, cX8_22 cB g0 o0, cX8_27 cI g0 o0, cX8_28 cI g0 o0, cX8_29 cI g0 o0, cX8_30 cI g0 o0, cX8_31 cI g0 o0, cX8_32 cI g0 o0, cX8_33 cI g0 o0]) := hD
  have hl := lv_entry ([.ref a0, .int v1, .int v2]) (n := 3) (Nat.le_of_ble_eq_true rfl)
  rw [lg_entry_eq]
  generalize (lg_sl ([.ref a0, .int v1, .int v2]) ++ List.replicate (3 - (lg_sl ([.ref a0, .int v1, .int v2])).length) Slot.unset).toArray = ls at hl ⊢
  have hl : lv_has ls 3 [(0, .ref a0), (1, .int v1), (2, .int v2)] := hl
  obtain ⟨Q, hQ⟩ : ∃ Q, Q = MQ below (Qq dC dI (some (.int r)) ([cX8 a0 g0 o0, cX8_0 cI g0 o0, cX8_1 cI g0 o0, cX8_3 cI g0 o0, cX8_4 cI g0 o0, cX8_6 cI g0 o0, cX8_8 cI g0 o0, cX8_9 cI g0 o0, cX8_10 cI g0 o0, cX8_12 cI g0 o0, cX8_13 cI g0 o0, cX8_15 cI g0 o0, cX8_17 cI g0 o0, cX8_18 cI g0 o0, cX8_22 cB g0 o0, cX8_27 cI g0 o0, cX8_28 cI g0 o0, cX8_29 cI g0 o0, cX8_30 cI g0 o0, cX8_31 cI g0 o0, cX8_32 cI g0 o0, cX8_33 cI g0 o0]) A) ([.ref a0, .int v1, .int v2] : List Value).toArray s 0 0 A := ⟨_, rfl⟩
  rw [← hQ]
  rw [f_X8_place] at h
  clear hAe hD0
  refine lv_aload_n hx hb dX8_place_0 rfl (lv_at hl 0 rfl) ?_
  refine lv_iload_n hx hb dX8_place_1 rfl (lv_at hl 2 rfl) ?_
  refine lv_aload_n hx hb dX8_place_2 rfl (lv_at hl 0 rfl) ?_
  refine va_get (D := (dC, dI)) (ci := 8) (v := .ref (g0 18)) (C := RX8) (T := TX8) (N := 36) hx hb hts hiX8 hown hKK.1 hP 0 rfl rfl 18 (by decide) (hts (.fieldLink RX8 46 "SlideLandModel" "slot" "[I") (List.mem_of_getElem? (i := 1) rfl)) (fun _ h9 => h9) rfl dX8_place_3 ?_
  refine lv_iload_n hx hb dX8_place_6 rfl (lv_at hl 1 rfl) ?_
  obtain ⟨k1, h⟩ := ite_n h
  refine va_iald hx hb hKK.1 hP 13 1 rfl rfl k1 dX8_place_7 ?_
  refine lv_aload_n hx hb dX8_place_8 rfl (lv_at hl 0 rfl) ?_
  refine va_get (D := (dC, dI)) (ci := 8) (v := .ref (g0 18)) (C := RX8) (T := TX8) (N := 36) hx hb hts hiX8 hown hKK.1 hP 0 rfl rfl 18 (by decide) (hts (.fieldLink RX8 46 "SlideLandModel" "slot" "[I") (List.mem_of_getElem? (i := 1) rfl)) (fun _ h9 => h9) rfl dX8_place_9 ?_
  refine lv_iload_n hx hb dX8_place_12 rfl (lv_at hl 1 rfl) ?_
  refine lv_iconst (v := (1 : Int32)) hx hb dX8_place_13 (by decide) ?_
  refine lv_iadd hx hb dX8_place_14 ?_
  obtain ⟨k2, h⟩ := ite_n h
  refine va_iald hx hb hKK.1 hP 13 1 rfl rfl k2 dX8_place_15 ?_
  refine lv_aload_n hx hb dX8_place_16 rfl (lv_at hl 0 rfl) ?_
  refine lv_aload_n hx hb dX8_place_17 rfl (lv_at hl 0 rfl) ?_
  refine va_get (D := (dC, dI)) (ci := 8) (v := .ref (g0 18)) (C := RX8) (T := TX8) (N := 36) hx hb hts hiX8 hown hKK.1 hP 0 rfl rfl 18 (by decide) (hts (.fieldLink RX8 46 "SlideLandModel" "slot" "[I") (List.mem_of_getElem? (i := 1) rfl)) (fun _ h9 => h9) rfl dX8_place_18 ?_
  refine lv_iload_n hx hb dX8_place_21 rfl (lv_at hl 1 rfl) ?_
  refine lv_iconst (v := (3 : Int32)) hx hb dX8_place_22 (by decide) ?_
  refine lv_iadd hx hb dX8_place_23 ?_
  obtain ⟨k3, h⟩ := ite_n h
  refine va_iald hx hb hKK.1 hP 13 1 rfl rfl k3 dX8_place_24 ?_
  obtain ⟨q4, hq4, h⟩ := obd_e h
  refine kcV (rest := [.int ((o0.2 18) (v1 + (1 : Int32)).toNatClampNeg), .int ((o0.2 18) v1.toNatClampNeg), .int v2, .ref a0]) (w2 := ([cX8 a0 g0 o0, cX8_0 cI g0 o0, cX8_1 cI g0 o0, cX8_3 cI g0 o0, cX8_4 cI g0 o0, cX8_6 cI g0 o0, cX8_8 cI g0 o0, cX8_9 cI g0 o0, cX8_10 cI g0 o0, cX8_12 cI g0 o0, cX8_13 cI g0 o0, cX8_15 cI g0 o0, cX8_17 cI g0 o0, cX8_18 cI g0 o0, cX8_22 cB g0 o0, cX8_27 cI g0 o0, cX8_28 cI g0 o0, cX8_29 cI g0 o0, cX8_30 cI g0 o0, cX8_31 cI g0 o0, cX8_32 cI g0 o0, cX8_33 cI g0 o0])) hx hb hml hown hts hKK hP hD hS hA (c_X8_dampOf l dC dI cB cI cZ cO a0 g0 o0 ((o0.2 18) (v1 + (3 : Int32)).toNatClampNeg) hq4) [0, 1, 2, 3, 4, 5, 6, 7, 8, 9, 10, 11, 12, 13, 14, 15, 16, 17, 18, 19, 20, 21] (atAll_map ⟨rfl, rfl, rfl, rfl, rfl, rfl, rfl, rfl, rfl, rfl, rfl, rfl, rfl, rfl, rfl, rfl, rfl, rfl, rfl, rfl, rfl, rfl, trivial⟩) (by decide +kernel) (sameAd_map ⟨rfl, rfl, rfl, rfl, rfl, rfl, rfl, rfl, rfl, rfl, rfl, rfl, rfl, rfl, rfl, rfl, rfl, rfl, rfl, rfl, rfl, rfl, trivial⟩) (atAll_map ⟨rfl, rfl, rfl, rfl, rfl, rfl, rfl, rfl, rfl, rfl, rfl, rfl, rfl, rfl, rfl, rfl, rfl, rfl, rfl, rfl, rfl, rfl, trivial⟩) (agr_refl _ _ _) (cwV 1 hts gX8_place_X8_dampOf rfl rfl rfl ⟨rfl, dsc_X8_dampOf⟩ ⟨Nat.le_of_ble_eq_true rfl, Nat.le_of_ble_eq_true rfl⟩) (va_recv hKK.1 hP (ci := 8) (q0 := 0) rfl rfl) rfl hl.1 rfl (Nat.le_of_ble_eq_true rfl) dX8_place_25 ⟨Nat.zero_le _, Nat.zero_le _⟩ (fun H locs hP hD hS => ?_)
  obtain ⟨q5, hq5, h⟩ := obd_e h
  refine kcV (rest := []) (w2 := ([cX8 a0 g0 o0, cX8_0 cI g0 o0, cX8_1 cI g0 o0, cX8_3 cI g0 o0, cX8_4 cI g0 o0, cX8_6 cI g0 o0, cX8_8 cI g0 o0, cX8_9 cI g0 o0, cX8_10 cI g0 o0, cX8_12 cI g0 o0, cX8_13 cI g0 o0, cX8_15 cI g0 o0, cX8_17 cI g0 o0, cX8_18 cI g0 o0, cX8_22 cB g0 o0, cX8_27 cI g0 o0, cX8_28 cI g0 o0, cX8_29 cI g0 o0, cX8_30 cI g0 o0, cX8_31 cI g0 o0, cX8_32 cI g0 o0, cX8_33 cI g0 o0])) hx hb hml hown hts hKK hP hD hS hA (c_X8_placeBy l dC dI cB cI cZ cO a0 g0 o0 v2 ((o0.2 18) v1.toNatClampNeg) ((o0.2 18) (v1 + (1 : Int32)).toNatClampNeg) q4 hq5) [0, 1, 2, 3, 4, 5, 6, 7, 8, 9, 10, 11, 12, 13, 14, 15, 16, 17, 18, 19, 20, 21] (atAll_map ⟨rfl, rfl, rfl, rfl, rfl, rfl, rfl, rfl, rfl, rfl, rfl, rfl, rfl, rfl, rfl, rfl, rfl, rfl, rfl, rfl, rfl, rfl, trivial⟩) (by decide +kernel) (sameAd_map ⟨rfl, rfl, rfl, rfl, rfl, rfl, rfl, rfl, rfl, rfl, rfl, rfl, rfl, rfl, rfl, rfl, rfl, rfl, rfl, rfl, rfl, rfl, trivial⟩) (atAll_map ⟨rfl, rfl, rfl, rfl, rfl, rfl, rfl, rfl, rfl, rfl, rfl, rfl, rfl, rfl, rfl, rfl, rfl, rfl, rfl, rfl, rfl, rfl, trivial⟩) (agr_refl _ _ _) (cwV 4 hts gX8_place_X8_placeBy rfl rfl rfl ⟨rfl, dsc_X8_placeBy⟩ ⟨Nat.le_of_ble_eq_true rfl, Nat.le_of_ble_eq_true rfl⟩) (va_recv hKK.1 hP (ci := 8) (q0 := 0) rfl rfl) rfl hl.1 rfl (Nat.le_of_ble_eq_true rfl) dX8_place_28 ⟨Nat.zero_le _, Nat.zero_le _⟩ (fun H locs hP hD hS => ?_)
  have h := Option.some.inj h
  subst h
  subst hQ
  exact W.iret (v := q5) hx hb hr (fun t ht hW => ⟨⟨rfl, by rw [ht]; exact hP, hD⟩, hS.F ht⟩) hS.2.2 dX8_place_31
def f_X8_land (o0 : Ob) (v1 : Int32) (v2 : Int32) (v3 : Int32) : Option (Int32) := (f_X8_isOne o0 v1 v2).bind fun q1 : Bool => if (b2i q1) = 0 then (some (-1 : Int32)) else (bnd (f_X8_in (v3.toInt64) (0 : Int64) (2 : Int64)) fun q3 : Bool => if (b2i q3) = 0 then (some (-1 : Int32)) else (if v3 = 0 then (if (((6 : Int32) * v1) + v2) < 0 ∨ 12 ≤ (((6 : Int32) * v1) + v2).toNatClampNeg then none else some ((o0.2 1) (((6 : Int32) * v1) + v2).toNatClampNeg)) else (if v3 = (1 : Int32) then (if (((11 : Int32) + ((6 : Int32) * v1)) + v2) < 0 ∨ 312 ≤ (((11 : Int32) + ((6 : Int32) * v1)) + v2).toNatClampNeg then none else some ((o0.2 18) (((11 : Int32) + ((6 : Int32) * v1)) + v2).toNatClampNeg)) else (if ((24 : Int32) + v1) < 0 ∨ 312 ≤ ((24 : Int32) + v1).toNatClampNeg then none else some ((((o0.2 18) ((24 : Int32) + v1).toNatClampNeg) >>> (v2 &&& 31)) &&& (1 : Int32))))))
abbrev rmX8_land : Room := { frames := 2, cells := 0, slots := 0, locals := 47 }
theorem dsc_X8_land : yX8_land.cls ≠ "java/lang/invoke/MethodHandle" ∧ yX8_land.cls ≠ "java/lang/invoke/VarHandle" ∧ (parseMethodDescriptor yX8_land.desc).map (fun d => d.parameters.length) = some 3 := by decide +kernel
set_option maxHeartbeats 4000000 in
set_option maxRecDepth 100000 in
theorem c_X8_land (l : Launch) (dC : Nat → ClassId) (dI : Nat → Nat → Nat) (cB cI cZ cO : ClassId) (a0 : Nat) (g0 : Nat → Nat) (o0 : Ob) (v1 : Int32) (v2 : Int32) (v3 : Int32) {r : Int32} (h : f_X8_land o0 v1 v2 v3 = some r) : Ct dC dI cB cI cZ cO l yX8_land wsX8_land rmX8_land [.ref a0, .int v1, .int v2, .int v3] ([cX8 a0 g0 o0, cX8_0 cI g0 o0, cX8_1 cI g0 o0, cX8_3 cI g0 o0, cX8_4 cI g0 o0, cX8_6 cI g0 o0, cX8_8 cI g0 o0, cX8_9 cI g0 o0, cX8_10 cI g0 o0, cX8_12 cI g0 o0, cX8_13 cI g0 o0, cX8_15 cI g0 o0, cX8_17 cI g0 o0, cX8_18 cI g0 o0, cX8_22 cB g0 o0, cX8_27 cI g0 o0, cX8_28 cI g0 o0, cX8_29 cI g0 o0, cX8_30 cI g0 o0, cX8_31 cI g0 o0, cX8_32 cI g0 o0, cX8_33 cI g0 o0]) (some (.int r)) ([cX8 a0 g0 o0, cX8_0 cI g0 o0, cX8_1 cI g0 o0, cX8_3 cI g0 o0, cX8_4 cI g0 o0, cX8_6 cI g0 o0, cX8_8 cI g0 o0, cX8_9 cI g0 o0, cX8_10 cI g0 o0, cX8_12 cI g0 o0, cX8_13 cI g0 o0, cX8_15 cI g0 o0, cX8_17 cI g0 o0, cX8_18 cI g0 o0, cX8_22 cB g0 o0, cX8_27 cI g0 o0, cX8_28 cI g0 o0, cX8_29 cI g0 o0, cX8_30 cI g0 o0, cX8_31 cI g0 o0, cX8_32 cI g0 o0, cX8_33 cI g0 o0]) := by
  intro sz
  refine Met.ofW (cc := cX8_land) (maxL := 4) (ret := (some .int)) (by decide) rfl ?_
  intro p e s m args below meth c s₁ B hml hv
  obtain ⟨rfl, hsz, hP, hKK, hD0⟩ := hv
  have hx := B.exec
  have hb := B.bytes
  have hr := B.returns
  have hts := atoms_spec (ws := wsX8_land) B.pre
  have hown : s.vm.findClass RX8 = some m.cls := findClass_of_methodNamed B.named
  have hlocks := B.notSynchronized
  have hiX8 : ∀ w ∈ u_ws RX8 TX8 36, w ∈ wsX8_land := fun w h => List.mem_cons_of_mem _ (List.mem_append_right _ h)
  subst hsz
  have hD := hD0.self (sz := s.heap.size)
  generalize hAe : va_A ([cX8 a0 g0 o0, cX8_0 cI g0 o0, cX8_1 cI g0 o0, cX8_3 cI g0 o0, cX8_4 cI g0 o0, cX8_6 cI g0 o0, cX8_8 cI g0 o0, cX8_9 cI g0 o0, cX8_10 cI g0 o0, cX8_12 cI g0 o0, cX8_13 cI g0 o0, cX8_15 cI g0 o0, cX8_17 cI g0 o0, cX8_18 cI g0 o0, cX8_22 cB g0 o0, cX8_27 cI g0 o0, cX8_28 cI g0 o0, cX8_29 cI g0 o0, cX8_30 cI g0 o0, cX8_31 cI g0 o0, cX8_32 cI g0 o0, cX8_33 cI g0 o0]) s.heap.size = A at hD ⊢
  have hA : ∀ q : Nat, s.heap.size ≤ q → A q := fun q h => by rw [← hAe]; exact Or.inr h
  have hS : va_S A s.heap s.heap [] := va_S.rf
  have hP : va_P (dC, dI) vwCl ([cX8 a0 g0 o0, cX8_0 cI g0 o0, cX8_1 cI g0 o0, cX8_3 cI g0 o0, cX8_4 cI g0 o0, cX8_6 cI g0 o0, cX8_8 cI g0 o0, cX8_9 cI g0 o0, cX8_10 cI g0 o0, cX8_12 cI g0 o0, cX8_13 cI g0 o0, cX8_15 cI g0 o0, cX8_17 cI g0 o0, cX8_18 cI g0 o0, cX8_22 cB g0 o0, cX8_27 cI g0 o0, cX8_28 cI g0 o0, cX8_29 cI g0 o0, cX8_30 cI g0 o0, cX8_31 cI g0 o0, cX8_32 cI g0 o0, cX8_33 cI g0 o0]) s.heap := hP
  have hD : va_D A ([cX8 a0 g0 o0, cX8_0 cI g0 o0, cX8_1 cI g0 o0, cX8_3 cI g0 o0, cX8_4 cI g0 o0, cX8_6 cI g0 o0, cX8_8 cI g0 o0, cX8_9 cI g0 o0, cX8_10 cI g0 o0, cX8_12 cI g0 o0, cX8_13 cI g0 o0, cX8_15 cI g0 o0, cX8_17 cI g0 o0, cX8_18 cI g0 o0, cX8_22 cB g0 o0, cX8_27 cI g0 o0, cX8_28 cI g0 o0, cX8_29 cI g0 o0, cX8_30 cI g0 o0, cX8_31 cI g0 o0, cX8_32 cI g0 o0, cX8_33 cI g0 o0]) := hD
  have hl := lv_entry ([.ref a0, .int v1, .int v2, .int v3]) (n := 4) (Nat.le_of_ble_eq_true rfl)
  rw [lg_entry_eq]
  generalize (lg_sl ([.ref a0, .int v1, .int v2, .int v3]) ++ List.replicate (4 - (lg_sl ([.ref a0, .int v1, .int v2, .int v3])).length) Slot.unset).toArray = ls at hl ⊢
  have hl : lv_has ls 4 [(0, .ref a0), (1, .int v1), (2, .int v2), (3, .int v3)] := hl
  obtain ⟨Q, hQ⟩ : ∃ Q, Q = MQ below (Qq dC dI (some (.int r)) ([cX8 a0 g0 o0, cX8_0 cI g0 o0, cX8_1 cI g0 o0, cX8_3 cI g0 o0, cX8_4 cI g0 o0, cX8_6 cI g0 o0, cX8_8 cI g0 o0, cX8_9 cI g0 o0, cX8_10 cI g0 o0, cX8_12 cI g0 o0, cX8_13 cI g0 o0, cX8_15 cI g0 o0, cX8_17 cI g0 o0, cX8_18 cI g0 o0, cX8_22 cB g0 o0, cX8_27 cI g0 o0, cX8_28 cI g0 o0, cX8_29 cI g0 o0, cX8_30 cI g0 o0, cX8_31 cI g0 o0, cX8_32 cI g0 o0, cX8_33 cI g0 o0]) A) ([.ref a0, .int v1, .int v2, .int v3] : List Value).toArray s 0 0 A := ⟨_, rfl⟩
  rw [← hQ]
  rw [f_X8_land] at h
  clear hAe hD0
  refine lv_aload_n hx hb dX8_land_0 rfl (lv_at hl 0 rfl) ?_
  refine lv_iload_n hx hb dX8_land_1 rfl (lv_at hl 1 rfl) ?_
  refine lv_iload_n hx hb dX8_land_2 rfl (lv_at hl 2 rfl) ?_
  obtain ⟨q1, hq1, h⟩ := obd_e h
  refine kcV (rest := []) (w2 := ([cX8 a0 g0 o0, cX8_0 cI g0 o0, cX8_1 cI g0 o0, cX8_3 cI g0 o0, cX8_4 cI g0 o0, cX8_6 cI g0 o0, cX8_8 cI g0 o0, cX8_9 cI g0 o0, cX8_10 cI g0 o0, cX8_12 cI g0 o0, cX8_13 cI g0 o0, cX8_15 cI g0 o0, cX8_17 cI g0 o0, cX8_18 cI g0 o0, cX8_22 cB g0 o0, cX8_27 cI g0 o0, cX8_28 cI g0 o0, cX8_29 cI g0 o0, cX8_30 cI g0 o0, cX8_31 cI g0 o0, cX8_32 cI g0 o0, cX8_33 cI g0 o0])) hx hb hml hown hts hKK hP hD hS hA (c_X8_isOne l dC dI cB cI cZ cO a0 g0 o0 v1 v2 hq1) [0, 1, 2, 3, 4, 5, 6, 7, 8, 9, 10, 11, 12, 13, 14, 15, 16, 17, 18, 19, 20, 21] (atAll_map ⟨rfl, rfl, rfl, rfl, rfl, rfl, rfl, rfl, rfl, rfl, rfl, rfl, rfl, rfl, rfl, rfl, rfl, rfl, rfl, rfl, rfl, rfl, trivial⟩) (by decide +kernel) (sameAd_map ⟨rfl, rfl, rfl, rfl, rfl, rfl, rfl, rfl, rfl, rfl, rfl, rfl, rfl, rfl, rfl, rfl, rfl, rfl, rfl, rfl, rfl, rfl, trivial⟩) (atAll_map ⟨rfl, rfl, rfl, rfl, rfl, rfl, rfl, rfl, rfl, rfl, rfl, rfl, rfl, rfl, rfl, rfl, rfl, rfl, rfl, rfl, rfl, rfl, trivial⟩) (agr_refl _ _ _) (cwV 2 hts gX8_land_X8_isOne rfl rfl rfl ⟨rfl, dsc_X8_isOne⟩ ⟨Nat.le_of_ble_eq_true rfl, Nat.le_of_ble_eq_true rfl⟩) (va_recv hKK.1 hP (ci := 8) (q0 := 0) rfl rfl) rfl hl.1 rfl (Nat.le_of_ble_eq_true rfl) dX8_land_3 ⟨Nat.zero_le _, Nat.zero_le _⟩ (fun H locs hP hD hS => ?_)
  refine lv_if_eq (tgt := 21) hx hb dX8_land_6 (by decide) (fun k2 => ?_) (fun k2 => ?_)
  · have h := ite_t k2 h
    refine lv_iconst (v := (-1 : Int32)) hx hb dX8_land_21 (by decide) ?_
    have h := Option.some.inj h
    subst h
    subst hQ
    exact W.iret (v := (-1 : Int32)) hx hb hr (fun t ht hW => ⟨⟨rfl, by rw [ht]; exact hP, hD⟩, hS.F ht⟩) hS.2.2 dX8_land_22
  · have h := ite_f k2 h
    refine lv_iload_n hx hb dX8_land_9 rfl (lv_at hl 3 rfl) ?_
    refine lv_i2l hx hb dX8_land_10 rfl ?_
    refine lv_lconst (v := 0) hx hb dX8_land_11 (by decide) ?_
    refine lv_ldc2 hx hb hown (hts (.constantLong RX8 191 (2)) (List.mem_of_getElem? (i := 1) rfl)) dX8_land_12 ?_
    obtain ⟨q3, hq3, h⟩ := bnd_e h
    refine kcS (rest := []) (w2 := ([cX8 a0 g0 o0, cX8_0 cI g0 o0, cX8_1 cI g0 o0, cX8_3 cI g0 o0, cX8_4 cI g0 o0, cX8_6 cI g0 o0, cX8_8 cI g0 o0, cX8_9 cI g0 o0, cX8_10 cI g0 o0, cX8_12 cI g0 o0, cX8_13 cI g0 o0, cX8_15 cI g0 o0, cX8_17 cI g0 o0, cX8_18 cI g0 o0, cX8_22 cB g0 o0, cX8_27 cI g0 o0, cX8_28 cI g0 o0, cX8_29 cI g0 o0, cX8_30 cI g0 o0, cX8_31 cI g0 o0, cX8_32 cI g0 o0, cX8_33 cI g0 o0])) hx hb hml hown hts hKK hP hD hS hA (c_X8_in l dC dI cB cI cZ cO (v3.toInt64) (0 : Int64) (2 : Int64) hq3) [] (atAll_map trivial) (by decide +kernel) (sameAd_map trivial) (atAll_map trivial) (agr_refl _ _ _) (va_cwS 3 hts gX8_land_X8_in rfl rfl rfl dsc_X8_in ⟨Nat.le_of_ble_eq_true rfl, Nat.le_of_ble_eq_true rfl⟩) rfl hl.1 rfl (Nat.le_of_ble_eq_true rfl) dX8_land_15 ⟨Nat.zero_le _, Nat.zero_le _⟩ (fun H locs hP hD hS => ?_)
    refine lv_if_ne (tgt := 23) hx hb dX8_land_18 (by decide) (fun k4 => ?_) (fun k4 => ?_)
    · have h := ite_f k4 h
      refine lv_iload_n hx hb dX8_land_23 rfl (lv_at hl 3 rfl) ?_
      refine lv_if_ne (tgt := 41) hx hb dX8_land_24 (by decide) (fun k5 => ?_) (fun k5 => ?_)
      · have h := ite_f k5 h
        refine lv_iload_n hx hb dX8_land_41 rfl (lv_at hl 3 rfl) ?_
        refine lv_iconst (v := (1 : Int32)) hx hb dX8_land_42 (by decide) ?_
        refine lv_icmp_ne (tgt := 63) hx hb dX8_land_43 (by decide) (fun k6 => ?_) (fun k6 => ?_)
        · have h := ite_f k6 h
          refine lv_aload_n hx hb dX8_land_63 rfl (lv_at hl 0 rfl) ?_
          refine va_get (D := (dC, dI)) (ci := 8) (v := .ref (g0 18)) (C := RX8) (T := TX8) (N := 36) hx hb hts hiX8 hown hKK.1 hP 0 rfl rfl 18 (by decide) (hts (.fieldLink RX8 46 "SlideLandModel" "slot" "[I") (List.mem_of_getElem? (i := 3) rfl)) (fun _ h9 => h9) rfl dX8_land_64 ?_
          refine lv_bipush (v := (24 : Int32)) hx hb dX8_land_67 (by decide) ?_
          refine lv_iload_n hx hb dX8_land_69 rfl (lv_at hl 1 rfl) ?_
          refine lv_iadd hx hb dX8_land_70 ?_
          obtain ⟨k7, h⟩ := ite_n h
          refine va_iald hx hb hKK.1 hP 13 1 rfl rfl k7 dX8_land_71 ?_
          refine lv_iload_n hx hb dX8_land_72 rfl (lv_at hl 2 rfl) ?_
          refine lv_ishr hx hb dX8_land_73 ?_
          refine lv_iconst (v := (1 : Int32)) hx hb dX8_land_74 (by decide) ?_
          refine lv_iand hx hb dX8_land_75 ?_
          have h := Option.some.inj h
          subst h
          subst hQ
          exact W.iret (v := ((((o0.2 18) ((24 : Int32) + v1).toNatClampNeg) >>> (v2 &&& 31)) &&& (1 : Int32))) hx hb hr (fun t ht hW => ⟨⟨rfl, by rw [ht]; exact hP, hD⟩, hS.F ht⟩) hS.2.2 dX8_land_76
        · have h := ite_t k6 h
          refine lv_aload_n hx hb dX8_land_46 rfl (lv_at hl 0 rfl) ?_
          refine va_get (D := (dC, dI)) (ci := 8) (v := .ref (g0 18)) (C := RX8) (T := TX8) (N := 36) hx hb hts hiX8 hown hKK.1 hP 0 rfl rfl 18 (by decide) (hts (.fieldLink RX8 46 "SlideLandModel" "slot" "[I") (List.mem_of_getElem? (i := 3) rfl)) (fun _ h9 => h9) rfl dX8_land_47 ?_
          refine lv_bipush (v := (11 : Int32)) hx hb dX8_land_50 (by decide) ?_
          refine lv_bipush (v := (6 : Int32)) hx hb dX8_land_52 (by decide) ?_
          refine lv_iload_n hx hb dX8_land_54 rfl (lv_at hl 1 rfl) ?_
          refine lv_imul hx hb dX8_land_55 ?_
          refine lv_iadd hx hb dX8_land_56 ?_
          refine lv_iload_n hx hb dX8_land_57 rfl (lv_at hl 2 rfl) ?_
          refine lv_iadd hx hb dX8_land_58 ?_
          obtain ⟨k8, h⟩ := ite_n h
          refine va_iald hx hb hKK.1 hP 13 1 rfl rfl k8 dX8_land_59 ?_
          refine lv_goto (tgt := 76) hx hb dX8_land_60 (by decide) ?_
          have h := Option.some.inj h
          subst h
          subst hQ
          exact W.iret (v := ((o0.2 18) (((11 : Int32) + ((6 : Int32) * v1)) + v2).toNatClampNeg)) hx hb hr (fun t ht hW => ⟨⟨rfl, by rw [ht]; exact hP, hD⟩, hS.F ht⟩) hS.2.2 dX8_land_76
      · have h := ite_t k5 h
        refine lv_aload_n hx hb dX8_land_27 rfl (lv_at hl 0 rfl) ?_
        refine va_get (D := (dC, dI)) (ci := 8) (v := .ref (g0 1)) (C := RX8) (T := TX8) (N := 36) hx hb hts hiX8 hown hKK.1 hP 0 rfl rfl 1 (by decide) (hts (.fieldLink RX8 13 "SlideLandModel" "inch" "[I") (List.mem_of_getElem? (i := 2) rfl)) (fun _ h9 => h9) rfl dX8_land_28 ?_
        refine lv_bipush (v := (6 : Int32)) hx hb dX8_land_31 (by decide) ?_
        refine lv_iload_n hx hb dX8_land_33 rfl (lv_at hl 1 rfl) ?_
        refine lv_imul hx hb dX8_land_34 ?_
        refine lv_iload_n hx hb dX8_land_35 rfl (lv_at hl 2 rfl) ?_
        refine lv_iadd hx hb dX8_land_36 ?_
        obtain ⟨k9, h⟩ := ite_n h
        refine va_iald hx hb hKK.1 hP 2 1 rfl rfl k9 dX8_land_37 ?_
        refine lv_goto (tgt := 76) hx hb dX8_land_38 (by decide) ?_
        have h := Option.some.inj h
        subst h
        subst hQ
        exact W.iret (v := ((o0.2 1) (((6 : Int32) * v1) + v2).toNatClampNeg)) hx hb hr (fun t ht hW => ⟨⟨rfl, by rw [ht]; exact hP, hD⟩, hS.F ht⟩) hS.2.2 dX8_land_76
    · have h := ite_t k4 h
      refine lv_iconst (v := (-1 : Int32)) hx hb dX8_land_21 (by decide) ?_
      have h := Option.some.inj h
      subst h
      subst hQ
      exact W.iret (v := (-1 : Int32)) hx hb hr (fun t ht hW => ⟨⟨rfl, by rw [ht]; exact hP, hD⟩, hS.F ht⟩) hS.2.2 dX8_land_22
def f_X8_strip (o0 : Ob) (v1 : Int32) (v2 : Int32) : Option (Int32) := bnd (f_X8_isStrip o0 v1) fun q1 : Bool => if (b2i q1) = 0 then (some (-1 : Int32)) else (bnd (f_X8_in (v2.toInt64) (0 : Int64) (4 : Int64)) fun q3 : Bool => if (b2i q3) = 0 then (some (-1 : Int32)) else (if v2 = 0 then (if v1 < 0 ∨ 7 ≤ v1.toNatClampNeg then none else some ((o0.2 3) v1.toNatClampNeg)) else (if v2 = (1 : Int32) then (if v1 < 0 ∨ 7 ≤ v1.toNatClampNeg then none else some ((o0.2 4) v1.toNatClampNeg)) else (if v2 = (2 : Int32) then (if ((4 : Int32) + v1) < 0 ∨ 312 ≤ ((4 : Int32) + v1).toNatClampNeg then none else some ((o0.2 18) ((4 : Int32) + v1).toNatClampNeg)) else (if v2 = (3 : Int32) then ((f_X8_place o0 (0 : Int32) v1).bind fun q9 : Int32 => some (q9 + (100 : Int32))) else (some ((((o0.2 18) (23 : Int32).toNatClampNeg) >>> (v1 &&& 31)) &&& (1 : Int32))))))))
abbrev rmX8_strip : Room := { frames := 2, cells := 0, slots := 0, locals := 46 }
theorem dsc_X8_strip : yX8_strip.cls ≠ "java/lang/invoke/MethodHandle" ∧ yX8_strip.cls ≠ "java/lang/invoke/VarHandle" ∧ (parseMethodDescriptor yX8_strip.desc).map (fun d => d.parameters.length) = some 2 := by decide +kernel
set_option maxHeartbeats 4000000 in
set_option maxRecDepth 100000 in
theorem c_X8_strip (l : Launch) (dC : Nat → ClassId) (dI : Nat → Nat → Nat) (cB cI cZ cO : ClassId) (a0 : Nat) (g0 : Nat → Nat) (o0 : Ob) (v1 : Int32) (v2 : Int32) {r : Int32} (h : f_X8_strip o0 v1 v2 = some r) : Ct dC dI cB cI cZ cO l yX8_strip wsX8_strip rmX8_strip [.ref a0, .int v1, .int v2] ([cX8 a0 g0 o0, cX8_0 cI g0 o0, cX8_1 cI g0 o0, cX8_3 cI g0 o0, cX8_4 cI g0 o0, cX8_6 cI g0 o0, cX8_8 cI g0 o0, cX8_9 cI g0 o0, cX8_10 cI g0 o0, cX8_12 cI g0 o0, cX8_13 cI g0 o0, cX8_15 cI g0 o0, cX8_17 cI g0 o0, cX8_18 cI g0 o0, cX8_22 cB g0 o0, cX8_27 cI g0 o0, cX8_28 cI g0 o0, cX8_29 cI g0 o0, cX8_30 cI g0 o0, cX8_31 cI g0 o0, cX8_32 cI g0 o0, cX8_33 cI g0 o0]) (some (.int r)) ([cX8 a0 g0 o0, cX8_0 cI g0 o0, cX8_1 cI g0 o0, cX8_3 cI g0 o0, cX8_4 cI g0 o0, cX8_6 cI g0 o0, cX8_8 cI g0 o0, cX8_9 cI g0 o0, cX8_10 cI g0 o0, cX8_12 cI g0 o0, cX8_13 cI g0 o0, cX8_15 cI g0 o0, cX8_17 cI g0 o0, cX8_18 cI g0 o0, cX8_22 cB g0 o0, cX8_27 cI g0 o0, cX8_28 cI g0 o0, cX8_29 cI g0 o0, cX8_30 cI g0 o0, cX8_31 cI g0 o0, cX8_32 cI g0 o0, cX8_33 cI g0 o0]) := by
  intro sz
  refine Met.ofW (cc := cX8_strip) (maxL := 3) (ret := (some .int)) (by decide) rfl ?_
  intro p e s m args below meth c s₁ B hml hv
  obtain ⟨rfl, hsz, hP, hKK, hD0⟩ := hv
  have hx := B.exec
  have hb := B.bytes
  have hr := B.returns
  have hts := atoms_spec (ws := wsX8_strip) B.pre
  have hown : s.vm.findClass RX8 = some m.cls := findClass_of_methodNamed B.named
  have hlocks := B.notSynchronized
  have hiX8 : ∀ w ∈ u_ws RX8 TX8 36, w ∈ wsX8_strip := fun w h => List.mem_cons_of_mem _ (List.mem_append_right _ h)
  subst hsz
  have hD := hD0.self (sz := s.heap.size)
  generalize hAe : va_A ([cX8 a0 g0 o0, cX8_0 cI g0 o0, cX8_1 cI g0 o0, cX8_3 cI g0 o0, cX8_4 cI g0 o0, cX8_6 cI g0 o0, cX8_8 cI g0 o0, cX8_9 cI g0 o0, cX8_10 cI g0 o0, cX8_12 cI g0 o0, cX8_13 cI g0 o0, cX8_15 cI g0 o0, cX8_17 cI g0 o0, cX8_18 cI g0 o0, cX8_22 cB g0 o0, cX8_27 cI g0 o0, cX8_28 cI g0 o0, cX8_29 cI g0 o0, cX8_30 cI g0 o0, cX8_31 cI g0 o0, cX8_32 cI g0 o0, cX8_33 cI g0 o0]) s.heap.size = A at hD ⊢
  have hA : ∀ q : Nat, s.heap.size ≤ q → A q := fun q h => by rw [← hAe]; exact Or.inr h
  have hS : va_S A s.heap s.heap [] := va_S.rf
  have hP : va_P (dC, dI) vwCl ([cX8 a0 g0 o0, cX8_0 cI g0 o0, cX8_1 cI g0 o0, cX8_3 cI g0 o0, cX8_4 cI g0 o0, cX8_6 cI g0 o0, cX8_8 cI g0 o0, cX8_9 cI g0 o0, cX8_10 cI g0 o0, cX8_12 cI g0 o0, cX8_13 cI g0 o0, cX8_15 cI g0 o0, cX8_17 cI g0 o0, cX8_18 cI g0 o0, cX8_22 cB g0 o0, cX8_27 cI g0 o0, cX8_28 cI g0 o0, cX8_29 cI g0 o0, cX8_30 cI g0 o0, cX8_31 cI g0 o0, cX8_32 cI g0 o0, cX8_33 cI g0 o0]) s.heap := hP
  have hD : va_D A ([cX8 a0 g0 o0, cX8_0 cI g0 o0, cX8_1 cI g0 o0, cX8_3 cI g0 o0, cX8_4 cI g0 o0, cX8_6 cI g0 o0, cX8_8 cI g0 o0, cX8_9 cI g0 o0, cX8_10 cI g0 o0, cX8_12 cI g0 o0, cX8_13 cI g0 o0, cX8_15 cI g0 o0, cX8_17 cI g0 o0, cX8_18 cI g0 o0, cX8_22 cB g0 o0, cX8_27 cI g0 o0, cX8_28 cI g0 o0, cX8_29 cI g0 o0, cX8_30 cI g0 o0, cX8_31 cI g0 o0, cX8_32 cI g0 o0, cX8_33 cI g0 o0]) := hD
  have hl := lv_entry ([.ref a0, .int v1, .int v2]) (n := 3) (Nat.le_of_ble_eq_true rfl)
  rw [lg_entry_eq]
  generalize (lg_sl ([.ref a0, .int v1, .int v2]) ++ List.replicate (3 - (lg_sl ([.ref a0, .int v1, .int v2])).length) Slot.unset).toArray = ls at hl ⊢
  have hl : lv_has ls 3 [(0, .ref a0), (1, .int v1), (2, .int v2)] := hl
  obtain ⟨Q, hQ⟩ : ∃ Q, Q = MQ below (Qq dC dI (some (.int r)) ([cX8 a0 g0 o0, cX8_0 cI g0 o0, cX8_1 cI g0 o0, cX8_3 cI g0 o0, cX8_4 cI g0 o0, cX8_6 cI g0 o0, cX8_8 cI g0 o0, cX8_9 cI g0 o0, cX8_10 cI g0 o0, cX8_12 cI g0 o0, cX8_13 cI g0 o0, cX8_15 cI g0 o0, cX8_17 cI g0 o0, cX8_18 cI g0 o0, cX8_22 cB g0 o0, cX8_27 cI g0 o0, cX8_28 cI g0 o0, cX8_29 cI g0 o0, cX8_30 cI g0 o0, cX8_31 cI g0 o0, cX8_32 cI g0 o0, cX8_33 cI g0 o0]) A) ([.ref a0, .int v1, .int v2] : List Value).toArray s 0 0 A := ⟨_, rfl⟩
  rw [← hQ]
  rw [f_X8_strip] at h
  clear hAe hD0
  refine lv_aload_n hx hb dX8_strip_0 rfl (lv_at hl 0 rfl) ?_
  refine lv_iload_n hx hb dX8_strip_1 rfl (lv_at hl 1 rfl) ?_
  obtain ⟨q1, hq1, h⟩ := bnd_e h
  refine kcV (rest := []) (w2 := ([cX8 a0 g0 o0, cX8_0 cI g0 o0, cX8_1 cI g0 o0, cX8_3 cI g0 o0, cX8_4 cI g0 o0, cX8_6 cI g0 o0, cX8_8 cI g0 o0, cX8_9 cI g0 o0, cX8_10 cI g0 o0, cX8_12 cI g0 o0, cX8_13 cI g0 o0, cX8_15 cI g0 o0, cX8_17 cI g0 o0, cX8_18 cI g0 o0, cX8_22 cB g0 o0, cX8_27 cI g0 o0, cX8_28 cI g0 o0, cX8_29 cI g0 o0, cX8_30 cI g0 o0, cX8_31 cI g0 o0, cX8_32 cI g0 o0, cX8_33 cI g0 o0])) hx hb hml hown hts hKK hP hD hS hA (c_X8_isStrip l dC dI cB cI cZ cO a0 g0 o0 v1 hq1) [0, 1, 2, 3, 4, 5, 6, 7, 8, 9, 10, 11, 12, 13, 14, 15, 16, 17, 18, 19, 20, 21] (atAll_map ⟨rfl, rfl, rfl, rfl, rfl, rfl, rfl, rfl, rfl, rfl, rfl, rfl, rfl, rfl, rfl, rfl, rfl, rfl, rfl, rfl, rfl, rfl, trivial⟩) (by decide +kernel) (sameAd_map ⟨rfl, rfl, rfl, rfl, rfl, rfl, rfl, rfl, rfl, rfl, rfl, rfl, rfl, rfl, rfl, rfl, rfl, rfl, rfl, rfl, rfl, rfl, trivial⟩) (atAll_map ⟨rfl, rfl, rfl, rfl, rfl, rfl, rfl, rfl, rfl, rfl, rfl, rfl, rfl, rfl, rfl, rfl, rfl, rfl, rfl, rfl, rfl, rfl, trivial⟩) (agr_refl _ _ _) (cwV 1 hts gX8_strip_X8_isStrip rfl rfl rfl ⟨rfl, dsc_X8_isStrip⟩ ⟨Nat.le_of_ble_eq_true rfl, Nat.le_of_ble_eq_true rfl⟩) (va_recv hKK.1 hP (ci := 8) (q0 := 0) rfl rfl) rfl hl.1 rfl (Nat.le_of_ble_eq_true rfl) dX8_strip_2 ⟨Nat.zero_le _, Nat.zero_le _⟩ (fun H locs hP hD hS => ?_)
  refine lv_if_eq (tgt := 20) hx hb dX8_strip_5 (by decide) (fun k2 => ?_) (fun k2 => ?_)
  · have h := ite_t k2 h
    refine lv_iconst (v := (-1 : Int32)) hx hb dX8_strip_20 (by decide) ?_
    have h := Option.some.inj h
    subst h
    subst hQ
    exact W.iret (v := (-1 : Int32)) hx hb hr (fun t ht hW => ⟨⟨rfl, by rw [ht]; exact hP, hD⟩, hS.F ht⟩) hS.2.2 dX8_strip_21
  · have h := ite_f k2 h
    refine lv_iload_n hx hb dX8_strip_8 rfl (lv_at hl 2 rfl) ?_
    refine lv_i2l hx hb dX8_strip_9 rfl ?_
    refine lv_lconst (v := 0) hx hb dX8_strip_10 (by decide) ?_
    refine lv_ldc2 hx hb hown (hts (.constantLong RX8 197 (4)) (List.mem_of_getElem? (i := 1) rfl)) dX8_strip_11 ?_
    obtain ⟨q3, hq3, h⟩ := bnd_e h
    refine kcS (rest := []) (w2 := ([cX8 a0 g0 o0, cX8_0 cI g0 o0, cX8_1 cI g0 o0, cX8_3 cI g0 o0, cX8_4 cI g0 o0, cX8_6 cI g0 o0, cX8_8 cI g0 o0, cX8_9 cI g0 o0, cX8_10 cI g0 o0, cX8_12 cI g0 o0, cX8_13 cI g0 o0, cX8_15 cI g0 o0, cX8_17 cI g0 o0, cX8_18 cI g0 o0, cX8_22 cB g0 o0, cX8_27 cI g0 o0, cX8_28 cI g0 o0, cX8_29 cI g0 o0, cX8_30 cI g0 o0, cX8_31 cI g0 o0, cX8_32 cI g0 o0, cX8_33 cI g0 o0])) hx hb hml hown hts hKK hP hD hS hA (c_X8_in l dC dI cB cI cZ cO (v2.toInt64) (0 : Int64) (4 : Int64) hq3) [] (atAll_map trivial) (by decide +kernel) (sameAd_map trivial) (atAll_map trivial) (agr_refl _ _ _) (va_cwS 3 hts gX8_strip_X8_in rfl rfl rfl dsc_X8_in ⟨Nat.le_of_ble_eq_true rfl, Nat.le_of_ble_eq_true rfl⟩) rfl hl.1 rfl (Nat.le_of_ble_eq_true rfl) dX8_strip_14 ⟨Nat.zero_le _, Nat.zero_le _⟩ (fun H locs hP hD hS => ?_)
    refine lv_if_ne (tgt := 22) hx hb dX8_strip_17 (by decide) (fun k4 => ?_) (fun k4 => ?_)
    · have h := ite_f k4 h
      refine lv_iload_n hx hb dX8_strip_22 rfl (lv_at hl 2 rfl) ?_
      refine lv_if_ne (tgt := 35) hx hb dX8_strip_23 (by decide) (fun k5 => ?_) (fun k5 => ?_)
      · have h := ite_f k5 h
        refine lv_iload_n hx hb dX8_strip_35 rfl (lv_at hl 2 rfl) ?_
        refine lv_iconst (v := (1 : Int32)) hx hb dX8_strip_36 (by decide) ?_
        refine lv_icmp_ne (tgt := 49) hx hb dX8_strip_37 (by decide) (fun k6 => ?_) (fun k6 => ?_)
        · have h := ite_f k6 h
          refine lv_iload_n hx hb dX8_strip_49 rfl (lv_at hl 2 rfl) ?_
          refine lv_iconst (v := (2 : Int32)) hx hb dX8_strip_50 (by decide) ?_
          refine lv_icmp_ne (tgt := 65) hx hb dX8_strip_51 (by decide) (fun k7 => ?_) (fun k7 => ?_)
          · have h := ite_f k7 h
            refine lv_iload_n hx hb dX8_strip_65 rfl (lv_at hl 2 rfl) ?_
            refine lv_iconst (v := (3 : Int32)) hx hb dX8_strip_66 (by decide) ?_
            refine lv_icmp_ne (tgt := 82) hx hb dX8_strip_67 (by decide) (fun k8 => ?_) (fun k8 => ?_)
            · have h := ite_f k8 h
              refine lv_aload_n hx hb dX8_strip_82 rfl (lv_at hl 0 rfl) ?_
              refine va_get (D := (dC, dI)) (ci := 8) (v := .ref (g0 18)) (C := RX8) (T := TX8) (N := 36) hx hb hts hiX8 hown hKK.1 hP 0 rfl rfl 18 (by decide) (hts (.fieldLink RX8 46 "SlideLandModel" "slot" "[I") (List.mem_of_getElem? (i := 4) rfl)) (fun _ h9 => h9) rfl dX8_strip_83 ?_
              refine lv_bipush (v := (23 : Int32)) hx hb dX8_strip_86 (by decide) ?_
              refine va_iald hx hb hKK.1 hP 13 1 rfl rfl (show ¬ ((23 : Int32) < 0 ∨ 312 ≤ (23 : Int32).toNatClampNeg) from by decide) dX8_strip_88 ?_
              refine lv_iload_n hx hb dX8_strip_89 rfl (lv_at hl 1 rfl) ?_
              refine lv_ishr hx hb dX8_strip_90 ?_
              refine lv_iconst (v := (1 : Int32)) hx hb dX8_strip_91 (by decide) ?_
              refine lv_iand hx hb dX8_strip_92 ?_
              have h := Option.some.inj h
              subst h
              subst hQ
              exact W.iret (v := ((((o0.2 18) (23 : Int32).toNatClampNeg) >>> (v1 &&& 31)) &&& (1 : Int32))) hx hb hr (fun t ht hW => ⟨⟨rfl, by rw [ht]; exact hP, hD⟩, hS.F ht⟩) hS.2.2 dX8_strip_93
            · have h := ite_t k8 h
              refine lv_aload_n hx hb dX8_strip_70 rfl (lv_at hl 0 rfl) ?_
              refine lv_iconst (v := (0 : Int32)) hx hb dX8_strip_71 (by decide) ?_
              refine lv_iload_n hx hb dX8_strip_72 rfl (lv_at hl 1 rfl) ?_
              obtain ⟨q9, hq9, h⟩ := obd_e h
              refine kcV (rest := []) (w2 := ([cX8 a0 g0 o0, cX8_0 cI g0 o0, cX8_1 cI g0 o0, cX8_3 cI g0 o0, cX8_4 cI g0 o0, cX8_6 cI g0 o0, cX8_8 cI g0 o0, cX8_9 cI g0 o0, cX8_10 cI g0 o0, cX8_12 cI g0 o0, cX8_13 cI g0 o0, cX8_15 cI g0 o0, cX8_17 cI g0 o0, cX8_18 cI g0 o0, cX8_22 cB g0 o0, cX8_27 cI g0 o0, cX8_28 cI g0 o0, cX8_29 cI g0 o0, cX8_30 cI g0 o0, cX8_31 cI g0 o0, cX8_32 cI g0 o0, cX8_33 cI g0 o0])) hx hb hml hown hts hKK hP hD hS hA (c_X8_place l dC dI cB cI cZ cO a0 g0 o0 (0 : Int32) v1 hq9) [0, 1, 2, 3, 4, 5, 6, 7, 8, 9, 10, 11, 12, 13, 14, 15, 16, 17, 18, 19, 20, 21] (atAll_map ⟨rfl, rfl, rfl, rfl, rfl, rfl, rfl, rfl, rfl, rfl, rfl, rfl, rfl, rfl, rfl, rfl, rfl, rfl, rfl, rfl, rfl, rfl, trivial⟩) (by decide +kernel) (sameAd_map ⟨rfl, rfl, rfl, rfl, rfl, rfl, rfl, rfl, rfl, rfl, rfl, rfl, rfl, rfl, rfl, rfl, rfl, rfl, rfl, rfl, rfl, rfl, trivial⟩) (atAll_map ⟨rfl, rfl, rfl, rfl, rfl, rfl, rfl, rfl, rfl, rfl, rfl, rfl, rfl, rfl, rfl, rfl, rfl, rfl, rfl, rfl, rfl, rfl, trivial⟩) (agr_refl _ _ _) (cwV 2 hts gX8_strip_X8_place rfl rfl rfl ⟨rfl, dsc_X8_place⟩ ⟨Nat.le_of_ble_eq_true rfl, Nat.le_of_ble_eq_true rfl⟩) (va_recv hKK.1 hP (ci := 8) (q0 := 0) rfl rfl) rfl hl.1 rfl (Nat.le_of_ble_eq_true rfl) dX8_strip_73 ⟨Nat.zero_le _, Nat.zero_le _⟩ (fun H locs hP hD hS => ?_)
              refine lv_bipush (v := (100 : Int32)) hx hb dX8_strip_76 (by decide) ?_
              refine lv_iadd hx hb dX8_strip_78 ?_
              refine lv_goto (tgt := 93) hx hb dX8_strip_79 (by decide) ?_
              have h := Option.some.inj h
              subst h
              subst hQ
              exact W.iret (v := (q9 + (100 : Int32))) hx hb hr (fun t ht hW => ⟨⟨rfl, by rw [ht]; exact hP, hD⟩, hS.F ht⟩) hS.2.2 dX8_strip_93
          · have h := ite_t k7 h
            refine lv_aload_n hx hb dX8_strip_54 rfl (lv_at hl 0 rfl) ?_
            refine va_get (D := (dC, dI)) (ci := 8) (v := .ref (g0 18)) (C := RX8) (T := TX8) (N := 36) hx hb hts hiX8 hown hKK.1 hP 0 rfl rfl 18 (by decide) (hts (.fieldLink RX8 46 "SlideLandModel" "slot" "[I") (List.mem_of_getElem? (i := 4) rfl)) (fun _ h9 => h9) rfl dX8_strip_55 ?_
            refine lv_iconst (v := (4 : Int32)) hx hb dX8_strip_58 (by decide) ?_
            refine lv_iload_n hx hb dX8_strip_59 rfl (lv_at hl 1 rfl) ?_
            refine lv_iadd hx hb dX8_strip_60 ?_
            obtain ⟨k10, h⟩ := ite_n h
            refine va_iald hx hb hKK.1 hP 13 1 rfl rfl k10 dX8_strip_61 ?_
            refine lv_goto (tgt := 93) hx hb dX8_strip_62 (by decide) ?_
            have h := Option.some.inj h
            subst h
            subst hQ
            exact W.iret (v := ((o0.2 18) ((4 : Int32) + v1).toNatClampNeg)) hx hb hr (fun t ht hW => ⟨⟨rfl, by rw [ht]; exact hP, hD⟩, hS.F ht⟩) hS.2.2 dX8_strip_93
        · have h := ite_t k6 h
          refine lv_aload_n hx hb dX8_strip_40 rfl (lv_at hl 0 rfl) ?_
          refine va_get (D := (dC, dI)) (ci := 8) (v := .ref (g0 4)) (C := RX8) (T := TX8) (N := 36) hx hb hts hiX8 hown hKK.1 hP 0 rfl rfl 4 (by decide) (hts (.fieldLink RX8 19 "SlideLandModel" "own" "[I") (List.mem_of_getElem? (i := 3) rfl)) (fun _ h9 => h9) rfl dX8_strip_41 ?_
          refine lv_iload_n hx hb dX8_strip_44 rfl (lv_at hl 1 rfl) ?_
          obtain ⟨k11, h⟩ := ite_n h
          refine va_iald hx hb hKK.1 hP 4 1 rfl rfl k11 dX8_strip_45 ?_
          refine lv_goto (tgt := 93) hx hb dX8_strip_46 (by decide) ?_
          have h := Option.some.inj h
          subst h
          subst hQ
          exact W.iret (v := ((o0.2 4) v1.toNatClampNeg)) hx hb hr (fun t ht hW => ⟨⟨rfl, by rw [ht]; exact hP, hD⟩, hS.F ht⟩) hS.2.2 dX8_strip_93
      · have h := ite_t k5 h
        refine lv_aload_n hx hb dX8_strip_26 rfl (lv_at hl 0 rfl) ?_
        refine va_get (D := (dC, dI)) (ci := 8) (v := .ref (g0 3)) (C := RX8) (T := TX8) (N := 36) hx hb hts hiX8 hown hKK.1 hP 0 rfl rfl 3 (by decide) (hts (.fieldLink RX8 16 "SlideLandModel" "sort" "[I") (List.mem_of_getElem? (i := 2) rfl)) (fun _ h9 => h9) rfl dX8_strip_27 ?_
        refine lv_iload_n hx hb dX8_strip_30 rfl (lv_at hl 1 rfl) ?_
        obtain ⟨k12, h⟩ := ite_n h
        refine va_iald hx hb hKK.1 hP 3 1 rfl rfl k12 dX8_strip_31 ?_
        refine lv_goto (tgt := 93) hx hb dX8_strip_32 (by decide) ?_
        have h := Option.some.inj h
        subst h
        subst hQ
        exact W.iret (v := ((o0.2 3) v1.toNatClampNeg)) hx hb hr (fun t ht hW => ⟨⟨rfl, by rw [ht]; exact hP, hD⟩, hS.F ht⟩) hS.2.2 dX8_strip_93
    · have h := ite_t k4 h
      refine lv_iconst (v := (-1 : Int32)) hx hb dX8_strip_20 (by decide) ?_
      have h := Option.some.inj h
      subst h
      subst hQ
      exact W.iret (v := (-1 : Int32)) hx hb hr (fun t ht hW => ⟨⟨rfl, by rw [ht]; exact hP, hD⟩, hS.F ht⟩) hS.2.2 dX8_strip_21
def f_X8_inches (o0 : Ob) (v1 : Int32) : Option (Int32) := bnd (f_X8_in (v1.toInt64) (0 : Int64) ((((o0.1 5) - (1 : Int32))).toInt64)) fun q1 : Bool => if (b2i q1) = 0 then (some (-1 : Int32)) else (if v1 < 0 ∨ 4 ≤ v1.toNatClampNeg then none else some ((o0.2 6) v1.toNatClampNeg))
abbrev rmX8_inches : Room := { frames := 1, cells := 0, slots := 0, locals := 25 }
theorem dsc_X8_inches : yX8_inches.cls ≠ "java/lang/invoke/MethodHandle" ∧ yX8_inches.cls ≠ "java/lang/invoke/VarHandle" ∧ (parseMethodDescriptor yX8_inches.desc).map (fun d => d.parameters.length) = some 1 := by decide +kernel
set_option maxHeartbeats 4000000 in
set_option maxRecDepth 100000 in
theorem c_X8_inches (l : Launch) (dC : Nat → ClassId) (dI : Nat → Nat → Nat) (cB cI cZ cO : ClassId) (a0 : Nat) (g0 : Nat → Nat) (o0 : Ob) (v1 : Int32) {r : Int32} (h : f_X8_inches o0 v1 = some r) : Ct dC dI cB cI cZ cO l yX8_inches wsX8_inches rmX8_inches [.ref a0, .int v1] ([cX8 a0 g0 o0, cX8_0 cI g0 o0, cX8_1 cI g0 o0, cX8_3 cI g0 o0, cX8_4 cI g0 o0, cX8_6 cI g0 o0, cX8_8 cI g0 o0, cX8_9 cI g0 o0, cX8_10 cI g0 o0, cX8_12 cI g0 o0, cX8_13 cI g0 o0, cX8_15 cI g0 o0, cX8_17 cI g0 o0, cX8_18 cI g0 o0, cX8_22 cB g0 o0, cX8_27 cI g0 o0, cX8_28 cI g0 o0, cX8_29 cI g0 o0, cX8_30 cI g0 o0, cX8_31 cI g0 o0, cX8_32 cI g0 o0, cX8_33 cI g0 o0]) (some (.int r)) ([cX8 a0 g0 o0, cX8_0 cI g0 o0, cX8_1 cI g0 o0, cX8_3 cI g0 o0, cX8_4 cI g0 o0, cX8_6 cI g0 o0, cX8_8 cI g0 o0, cX8_9 cI g0 o0, cX8_10 cI g0 o0, cX8_12 cI g0 o0, cX8_13 cI g0 o0, cX8_15 cI g0 o0, cX8_17 cI g0 o0, cX8_18 cI g0 o0, cX8_22 cB g0 o0, cX8_27 cI g0 o0, cX8_28 cI g0 o0, cX8_29 cI g0 o0, cX8_30 cI g0 o0, cX8_31 cI g0 o0, cX8_32 cI g0 o0, cX8_33 cI g0 o0]) := by
  intro sz
  refine Met.ofW (cc := cX8_inches) (maxL := 2) (ret := (some .int)) (by decide) rfl ?_
  intro p e s m args below meth c s₁ B hml hv
  obtain ⟨rfl, hsz, hP, hKK, hD0⟩ := hv
  have hx := B.exec
  have hb := B.bytes
  have hr := B.returns
  have hts := atoms_spec (ws := wsX8_inches) B.pre
  have hown : s.vm.findClass RX8 = some m.cls := findClass_of_methodNamed B.named
  have hlocks := B.notSynchronized
  have hiX8 : ∀ w ∈ u_ws RX8 TX8 36, w ∈ wsX8_inches := fun w h => List.mem_cons_of_mem _ (List.mem_append_right _ h)
  subst hsz
  have hD := hD0.self (sz := s.heap.size)
  generalize hAe : va_A ([cX8 a0 g0 o0, cX8_0 cI g0 o0, cX8_1 cI g0 o0, cX8_3 cI g0 o0, cX8_4 cI g0 o0, cX8_6 cI g0 o0, cX8_8 cI g0 o0, cX8_9 cI g0 o0, cX8_10 cI g0 o0, cX8_12 cI g0 o0, cX8_13 cI g0 o0, cX8_15 cI g0 o0, cX8_17 cI g0 o0, cX8_18 cI g0 o0, cX8_22 cB g0 o0, cX8_27 cI g0 o0, cX8_28 cI g0 o0, cX8_29 cI g0 o0, cX8_30 cI g0 o0, cX8_31 cI g0 o0, cX8_32 cI g0 o0, cX8_33 cI g0 o0]) s.heap.size = A at hD ⊢
  have hA : ∀ q : Nat, s.heap.size ≤ q → A q := fun q h => by rw [← hAe]; exact Or.inr h
  have hS : va_S A s.heap s.heap [] := va_S.rf
  have hP : va_P (dC, dI) vwCl ([cX8 a0 g0 o0, cX8_0 cI g0 o0, cX8_1 cI g0 o0, cX8_3 cI g0 o0, cX8_4 cI g0 o0, cX8_6 cI g0 o0, cX8_8 cI g0 o0, cX8_9 cI g0 o0, cX8_10 cI g0 o0, cX8_12 cI g0 o0, cX8_13 cI g0 o0, cX8_15 cI g0 o0, cX8_17 cI g0 o0, cX8_18 cI g0 o0, cX8_22 cB g0 o0, cX8_27 cI g0 o0, cX8_28 cI g0 o0, cX8_29 cI g0 o0, cX8_30 cI g0 o0, cX8_31 cI g0 o0, cX8_32 cI g0 o0, cX8_33 cI g0 o0]) s.heap := hP
  have hD : va_D A ([cX8 a0 g0 o0, cX8_0 cI g0 o0, cX8_1 cI g0 o0, cX8_3 cI g0 o0, cX8_4 cI g0 o0, cX8_6 cI g0 o0, cX8_8 cI g0 o0, cX8_9 cI g0 o0, cX8_10 cI g0 o0, cX8_12 cI g0 o0, cX8_13 cI g0 o0, cX8_15 cI g0 o0, cX8_17 cI g0 o0, cX8_18 cI g0 o0, cX8_22 cB g0 o0, cX8_27 cI g0 o0, cX8_28 cI g0 o0, cX8_29 cI g0 o0, cX8_30 cI g0 o0, cX8_31 cI g0 o0, cX8_32 cI g0 o0, cX8_33 cI g0 o0]) := hD
  have hl := lv_entry ([.ref a0, .int v1]) (n := 2) (Nat.le_of_ble_eq_true rfl)
  rw [lg_entry_eq]
  generalize (lg_sl ([.ref a0, .int v1]) ++ List.replicate (2 - (lg_sl ([.ref a0, .int v1])).length) Slot.unset).toArray = ls at hl ⊢
  have hl : lv_has ls 2 [(0, .ref a0), (1, .int v1)] := hl
  obtain ⟨Q, hQ⟩ : ∃ Q, Q = MQ below (Qq dC dI (some (.int r)) ([cX8 a0 g0 o0, cX8_0 cI g0 o0, cX8_1 cI g0 o0, cX8_3 cI g0 o0, cX8_4 cI g0 o0, cX8_6 cI g0 o0, cX8_8 cI g0 o0, cX8_9 cI g0 o0, cX8_10 cI g0 o0, cX8_12 cI g0 o0, cX8_13 cI g0 o0, cX8_15 cI g0 o0, cX8_17 cI g0 o0, cX8_18 cI g0 o0, cX8_22 cB g0 o0, cX8_27 cI g0 o0, cX8_28 cI g0 o0, cX8_29 cI g0 o0, cX8_30 cI g0 o0, cX8_31 cI g0 o0, cX8_32 cI g0 o0, cX8_33 cI g0 o0]) A) ([.ref a0, .int v1] : List Value).toArray s 0 0 A := ⟨_, rfl⟩
  rw [← hQ]
  rw [f_X8_inches] at h
  clear hAe hD0
  refine lv_iload_n hx hb dX8_inches_0 rfl (lv_at hl 1 rfl) ?_
  refine lv_i2l hx hb dX8_inches_1 rfl ?_
  refine lv_lconst (v := 0) hx hb dX8_inches_2 (by decide) ?_
  refine lv_aload_n hx hb dX8_inches_3 rfl (lv_at hl 0 rfl) ?_
  refine va_get (D := (dC, dI)) (ci := 8) (v := .int (o0.1 5)) (C := RX8) (T := TX8) (N := 36) hx hb hts hiX8 hown hKK.1 hP 0 rfl rfl 5 (by decide) (hts (.fieldLink RX8 101 "SlideLandModel" "pushes" "I") (List.mem_of_getElem? (i := 1) rfl)) (fun _ h9 => h9) rfl dX8_inches_4 ?_
  refine lv_iconst (v := (1 : Int32)) hx hb dX8_inches_7 (by decide) ?_
  refine lv_isub hx hb dX8_inches_8 ?_
  refine lv_i2l hx hb dX8_inches_9 rfl ?_
  obtain ⟨q1, hq1, h⟩ := bnd_e h
  refine kcS (rest := []) (w2 := ([cX8 a0 g0 o0, cX8_0 cI g0 o0, cX8_1 cI g0 o0, cX8_3 cI g0 o0, cX8_4 cI g0 o0, cX8_6 cI g0 o0, cX8_8 cI g0 o0, cX8_9 cI g0 o0, cX8_10 cI g0 o0, cX8_12 cI g0 o0, cX8_13 cI g0 o0, cX8_15 cI g0 o0, cX8_17 cI g0 o0, cX8_18 cI g0 o0, cX8_22 cB g0 o0, cX8_27 cI g0 o0, cX8_28 cI g0 o0, cX8_29 cI g0 o0, cX8_30 cI g0 o0, cX8_31 cI g0 o0, cX8_32 cI g0 o0, cX8_33 cI g0 o0])) hx hb hml hown hts hKK hP hD hS hA (c_X8_in l dC dI cB cI cZ cO (v1.toInt64) (0 : Int64) ((((o0.1 5) - (1 : Int32))).toInt64) hq1) [] (atAll_map trivial) (by decide +kernel) (sameAd_map trivial) (atAll_map trivial) (agr_refl _ _ _) (va_cwS 3 hts gX8_inches_X8_in rfl rfl rfl dsc_X8_in ⟨Nat.le_of_ble_eq_true rfl, Nat.le_of_ble_eq_true rfl⟩) rfl hl.1 rfl (Nat.le_of_ble_eq_true rfl) dX8_inches_10 ⟨Nat.zero_le _, Nat.zero_le _⟩ (fun H locs hP hD hS => ?_)
  refine lv_if_eq (tgt := 25) hx hb dX8_inches_13 (by decide) (fun k2 => ?_) (fun k2 => ?_)
  · have h := ite_t k2 h
    refine lv_iconst (v := (-1 : Int32)) hx hb dX8_inches_25 (by decide) ?_
    have h := Option.some.inj h
    subst h
    subst hQ
    exact W.iret (v := (-1 : Int32)) hx hb hr (fun t ht hW => ⟨⟨rfl, by rw [ht]; exact hP, hD⟩, hS.F ht⟩) hS.2.2 dX8_inches_26
  · have h := ite_f k2 h
    refine lv_aload_n hx hb dX8_inches_16 rfl (lv_at hl 0 rfl) ?_
    refine va_get (D := (dC, dI)) (ci := 8) (v := .ref (g0 6)) (C := RX8) (T := TX8) (N := 36) hx hb hts hiX8 hown hKK.1 hP 0 rfl rfl 6 (by decide) (hts (.fieldLink RX8 22 "SlideLandModel" "by" "[I") (List.mem_of_getElem? (i := 2) rfl)) (fun _ h9 => h9) rfl dX8_inches_17 ?_
    refine lv_iload_n hx hb dX8_inches_20 rfl (lv_at hl 1 rfl) ?_
    obtain ⟨k3, h⟩ := ite_n h
    refine va_iald hx hb hKK.1 hP 5 1 rfl rfl k3 dX8_inches_21 ?_
    refine lv_goto (tgt := 26) hx hb dX8_inches_22 (by decide) ?_
    have h := Option.some.inj h
    subst h
    subst hQ
    exact W.iret (v := ((o0.2 6) v1.toNatClampNeg)) hx hb hr (fun t ht hW => ⟨⟨rfl, by rw [ht]; exact hP, hD⟩, hS.F ht⟩) hS.2.2 dX8_inches_26
def f_X8_damp (o0 : Ob) (v1 : Int32) : Option (Int32) := bnd (f_X8_in (v1.toInt64) (0 : Int64) (99 : Int64)) fun q1 : Bool => if (b2i q1) = 0 then (some (-1 : Int32)) else ((f_X8_dampOf o0 (((o0.2 18) (3 : Int32).toNatClampNeg) + v1)).bind fun q3 : Int32 => some q3)
abbrev rmX8_damp : Room := { frames := 1, cells := 0, slots := 0, locals := 25 }
theorem dsc_X8_damp : yX8_damp.cls ≠ "java/lang/invoke/MethodHandle" ∧ yX8_damp.cls ≠ "java/lang/invoke/VarHandle" ∧ (parseMethodDescriptor yX8_damp.desc).map (fun d => d.parameters.length) = some 1 := by decide +kernel
set_option maxHeartbeats 4000000 in
set_option maxRecDepth 100000 in
theorem c_X8_damp (l : Launch) (dC : Nat → ClassId) (dI : Nat → Nat → Nat) (cB cI cZ cO : ClassId) (a0 : Nat) (g0 : Nat → Nat) (o0 : Ob) (v1 : Int32) {r : Int32} (h : f_X8_damp o0 v1 = some r) : Ct dC dI cB cI cZ cO l yX8_damp wsX8_damp rmX8_damp [.ref a0, .int v1] ([cX8 a0 g0 o0, cX8_0 cI g0 o0, cX8_1 cI g0 o0, cX8_3 cI g0 o0, cX8_4 cI g0 o0, cX8_6 cI g0 o0, cX8_8 cI g0 o0, cX8_9 cI g0 o0, cX8_10 cI g0 o0, cX8_12 cI g0 o0, cX8_13 cI g0 o0, cX8_15 cI g0 o0, cX8_17 cI g0 o0, cX8_18 cI g0 o0, cX8_22 cB g0 o0, cX8_27 cI g0 o0, cX8_28 cI g0 o0, cX8_29 cI g0 o0, cX8_30 cI g0 o0, cX8_31 cI g0 o0, cX8_32 cI g0 o0, cX8_33 cI g0 o0]) (some (.int r)) ([cX8 a0 g0 o0, cX8_0 cI g0 o0, cX8_1 cI g0 o0, cX8_3 cI g0 o0, cX8_4 cI g0 o0, cX8_6 cI g0 o0, cX8_8 cI g0 o0, cX8_9 cI g0 o0, cX8_10 cI g0 o0, cX8_12 cI g0 o0, cX8_13 cI g0 o0, cX8_15 cI g0 o0, cX8_17 cI g0 o0, cX8_18 cI g0 o0, cX8_22 cB g0 o0, cX8_27 cI g0 o0, cX8_28 cI g0 o0, cX8_29 cI g0 o0, cX8_30 cI g0 o0, cX8_31 cI g0 o0, cX8_32 cI g0 o0, cX8_33 cI g0 o0]) := by
  intro sz
  refine Met.ofW (cc := cX8_damp) (maxL := 2) (ret := (some .int)) (by decide) rfl ?_
  intro p e s m args below meth c s₁ B hml hv
  obtain ⟨rfl, hsz, hP, hKK, hD0⟩ := hv
  have hx := B.exec
  have hb := B.bytes
  have hr := B.returns
  have hts := atoms_spec (ws := wsX8_damp) B.pre
  have hown : s.vm.findClass RX8 = some m.cls := findClass_of_methodNamed B.named
  have hlocks := B.notSynchronized
  have hiX8 : ∀ w ∈ u_ws RX8 TX8 36, w ∈ wsX8_damp := fun w h => List.mem_cons_of_mem _ (List.mem_append_right _ h)
  subst hsz
  have hD := hD0.self (sz := s.heap.size)
  generalize hAe : va_A ([cX8 a0 g0 o0, cX8_0 cI g0 o0, cX8_1 cI g0 o0, cX8_3 cI g0 o0, cX8_4 cI g0 o0, cX8_6 cI g0 o0, cX8_8 cI g0 o0, cX8_9 cI g0 o0, cX8_10 cI g0 o0, cX8_12 cI g0 o0, cX8_13 cI g0 o0, cX8_15 cI g0 o0, cX8_17 cI g0 o0, cX8_18 cI g0 o0, cX8_22 cB g0 o0, cX8_27 cI g0 o0, cX8_28 cI g0 o0, cX8_29 cI g0 o0, cX8_30 cI g0 o0, cX8_31 cI g0 o0, cX8_32 cI g0 o0, cX8_33 cI g0 o0]) s.heap.size = A at hD ⊢
  have hA : ∀ q : Nat, s.heap.size ≤ q → A q := fun q h => by rw [← hAe]; exact Or.inr h
  have hS : va_S A s.heap s.heap [] := va_S.rf
  have hP : va_P (dC, dI) vwCl ([cX8 a0 g0 o0, cX8_0 cI g0 o0, cX8_1 cI g0 o0, cX8_3 cI g0 o0, cX8_4 cI g0 o0, cX8_6 cI g0 o0, cX8_8 cI g0 o0, cX8_9 cI g0 o0, cX8_10 cI g0 o0, cX8_12 cI g0 o0, cX8_13 cI g0 o0, cX8_15 cI g0 o0, cX8_17 cI g0 o0, cX8_18 cI g0 o0, cX8_22 cB g0 o0, cX8_27 cI g0 o0, cX8_28 cI g0 o0, cX8_29 cI g0 o0, cX8_30 cI g0 o0, cX8_31 cI g0 o0, cX8_32 cI g0 o0, cX8_33 cI g0 o0]) s.heap := hP
  have hD : va_D A ([cX8 a0 g0 o0, cX8_0 cI g0 o0, cX8_1 cI g0 o0, cX8_3 cI g0 o0, cX8_4 cI g0 o0, cX8_6 cI g0 o0, cX8_8 cI g0 o0, cX8_9 cI g0 o0, cX8_10 cI g0 o0, cX8_12 cI g0 o0, cX8_13 cI g0 o0, cX8_15 cI g0 o0, cX8_17 cI g0 o0, cX8_18 cI g0 o0, cX8_22 cB g0 o0, cX8_27 cI g0 o0, cX8_28 cI g0 o0, cX8_29 cI g0 o0, cX8_30 cI g0 o0, cX8_31 cI g0 o0, cX8_32 cI g0 o0, cX8_33 cI g0 o0]) := hD
  have hl := lv_entry ([.ref a0, .int v1]) (n := 2) (Nat.le_of_ble_eq_true rfl)
  rw [lg_entry_eq]
  generalize (lg_sl ([.ref a0, .int v1]) ++ List.replicate (2 - (lg_sl ([.ref a0, .int v1])).length) Slot.unset).toArray = ls at hl ⊢
  have hl : lv_has ls 2 [(0, .ref a0), (1, .int v1)] := hl
  obtain ⟨Q, hQ⟩ : ∃ Q, Q = MQ below (Qq dC dI (some (.int r)) ([cX8 a0 g0 o0, cX8_0 cI g0 o0, cX8_1 cI g0 o0, cX8_3 cI g0 o0, cX8_4 cI g0 o0, cX8_6 cI g0 o0, cX8_8 cI g0 o0, cX8_9 cI g0 o0, cX8_10 cI g0 o0, cX8_12 cI g0 o0, cX8_13 cI g0 o0, cX8_15 cI g0 o0, cX8_17 cI g0 o0, cX8_18 cI g0 o0, cX8_22 cB g0 o0, cX8_27 cI g0 o0, cX8_28 cI g0 o0, cX8_29 cI g0 o0, cX8_30 cI g0 o0, cX8_31 cI g0 o0, cX8_32 cI g0 o0, cX8_33 cI g0 o0]) A) ([.ref a0, .int v1] : List Value).toArray s 0 0 A := ⟨_, rfl⟩
  rw [← hQ]
  rw [f_X8_damp] at h
  clear hAe hD0
  refine lv_iload_n hx hb dX8_damp_0 rfl (lv_at hl 1 rfl) ?_
  refine lv_i2l hx hb dX8_damp_1 rfl ?_
  refine lv_lconst (v := 0) hx hb dX8_damp_2 (by decide) ?_
  refine lv_ldc2 hx hb hown (hts (.constantLong RX8 202 (99)) (List.mem_of_getElem? (i := 1) rfl)) dX8_damp_3 ?_
  obtain ⟨q1, hq1, h⟩ := bnd_e h
  refine kcS (rest := []) (w2 := ([cX8 a0 g0 o0, cX8_0 cI g0 o0, cX8_1 cI g0 o0, cX8_3 cI g0 o0, cX8_4 cI g0 o0, cX8_6 cI g0 o0, cX8_8 cI g0 o0, cX8_9 cI g0 o0, cX8_10 cI g0 o0, cX8_12 cI g0 o0, cX8_13 cI g0 o0, cX8_15 cI g0 o0, cX8_17 cI g0 o0, cX8_18 cI g0 o0, cX8_22 cB g0 o0, cX8_27 cI g0 o0, cX8_28 cI g0 o0, cX8_29 cI g0 o0, cX8_30 cI g0 o0, cX8_31 cI g0 o0, cX8_32 cI g0 o0, cX8_33 cI g0 o0])) hx hb hml hown hts hKK hP hD hS hA (c_X8_in l dC dI cB cI cZ cO (v1.toInt64) (0 : Int64) (99 : Int64) hq1) [] (atAll_map trivial) (by decide +kernel) (sameAd_map trivial) (atAll_map trivial) (agr_refl _ _ _) (va_cwS 3 hts gX8_damp_X8_in rfl rfl rfl dsc_X8_in ⟨Nat.le_of_ble_eq_true rfl, Nat.le_of_ble_eq_true rfl⟩) rfl hl.1 rfl (Nat.le_of_ble_eq_true rfl) dX8_damp_6 ⟨Nat.zero_le _, Nat.zero_le _⟩ (fun H locs hP hD hS => ?_)
  refine lv_if_eq (tgt := 27) hx hb dX8_damp_9 (by decide) (fun k2 => ?_) (fun k2 => ?_)
  · have h := ite_t k2 h
    refine lv_iconst (v := (-1 : Int32)) hx hb dX8_damp_27 (by decide) ?_
    have h := Option.some.inj h
    subst h
    subst hQ
    exact W.iret (v := (-1 : Int32)) hx hb hr (fun t ht hW => ⟨⟨rfl, by rw [ht]; exact hP, hD⟩, hS.F ht⟩) hS.2.2 dX8_damp_28
  · have h := ite_f k2 h
    refine lv_aload_n hx hb dX8_damp_12 rfl (lv_at hl 0 rfl) ?_
    refine lv_aload_n hx hb dX8_damp_13 rfl (lv_at hl 0 rfl) ?_
    refine va_get (D := (dC, dI)) (ci := 8) (v := .ref (g0 18)) (C := RX8) (T := TX8) (N := 36) hx hb hts hiX8 hown hKK.1 hP 0 rfl rfl 18 (by decide) (hts (.fieldLink RX8 46 "SlideLandModel" "slot" "[I") (List.mem_of_getElem? (i := 2) rfl)) (fun _ h9 => h9) rfl dX8_damp_14 ?_
    refine lv_iconst (v := (3 : Int32)) hx hb dX8_damp_17 (by decide) ?_
    refine va_iald hx hb hKK.1 hP 13 1 rfl rfl (show ¬ ((3 : Int32) < 0 ∨ 312 ≤ (3 : Int32).toNatClampNeg) from by decide) dX8_damp_18 ?_
    refine lv_iload_n hx hb dX8_damp_19 rfl (lv_at hl 1 rfl) ?_
    refine lv_iadd hx hb dX8_damp_20 ?_
    obtain ⟨q3, hq3, h⟩ := obd_e h
    refine kcV (rest := []) (w2 := ([cX8 a0 g0 o0, cX8_0 cI g0 o0, cX8_1 cI g0 o0, cX8_3 cI g0 o0, cX8_4 cI g0 o0, cX8_6 cI g0 o0, cX8_8 cI g0 o0, cX8_9 cI g0 o0, cX8_10 cI g0 o0, cX8_12 cI g0 o0, cX8_13 cI g0 o0, cX8_15 cI g0 o0, cX8_17 cI g0 o0, cX8_18 cI g0 o0, cX8_22 cB g0 o0, cX8_27 cI g0 o0, cX8_28 cI g0 o0, cX8_29 cI g0 o0, cX8_30 cI g0 o0, cX8_31 cI g0 o0, cX8_32 cI g0 o0, cX8_33 cI g0 o0])) hx hb hml hown hts hKK hP hD hS hA (c_X8_dampOf l dC dI cB cI cZ cO a0 g0 o0 (((o0.2 18) (3 : Int32).toNatClampNeg) + v1) hq3) [0, 1, 2, 3, 4, 5, 6, 7, 8, 9, 10, 11, 12, 13, 14, 15, 16, 17, 18, 19, 20, 21] (atAll_map ⟨rfl, rfl, rfl, rfl, rfl, rfl, rfl, rfl, rfl, rfl, rfl, rfl, rfl, rfl, rfl, rfl, rfl, rfl, rfl, rfl, rfl, rfl, trivial⟩) (by decide +kernel) (sameAd_map ⟨rfl, rfl, rfl, rfl, rfl, rfl, rfl, rfl, rfl, rfl, rfl, rfl, rfl, rfl, rfl, rfl, rfl, rfl, rfl, rfl, rfl, rfl, trivial⟩) (atAll_map ⟨rfl, rfl, rfl, rfl, rfl, rfl, rfl, rfl, rfl, rfl, rfl, rfl, rfl, rfl, rfl, rfl, rfl, rfl, rfl, rfl, rfl, rfl, trivial⟩) (agr_refl _ _ _) (cwV 1 hts gX8_damp_X8_dampOf rfl rfl rfl ⟨rfl, dsc_X8_dampOf⟩ ⟨Nat.le_of_ble_eq_true rfl, Nat.le_of_ble_eq_true rfl⟩) (va_recv hKK.1 hP (ci := 8) (q0 := 0) rfl rfl) rfl hl.1 rfl (Nat.le_of_ble_eq_true rfl) dX8_damp_21 ⟨Nat.zero_le _, Nat.zero_le _⟩ (fun H locs hP hD hS => ?_)
    refine lv_goto (tgt := 28) hx hb dX8_damp_24 (by decide) ?_
    have h := Option.some.inj h
    subst h
    subst hQ
    exact W.iret (v := q3) hx hb hr (fun t ht hW => ⟨⟨rfl, by rw [ht]; exact hP, hD⟩, hS.F ht⟩) hS.2.2 dX8_damp_28
def f_X8_against (o0 : Ob) (v1 : Int32) : Option (Int32) := bnd (f_X8_isStrip o0 v1) fun q1 : Bool => if (b2i q1) = 0 then (some (-1 : Int32)) else ((f_X8_againstIn o0 (0 : Int32) v1).bind fun q3 : Int32 => some q3)
abbrev rmX8_against : Room := { frames := 4, cells := 0, slots := 0, locals := 98 }
theorem dsc_X8_against : yX8_against.cls ≠ "java/lang/invoke/MethodHandle" ∧ yX8_against.cls ≠ "java/lang/invoke/VarHandle" ∧ (parseMethodDescriptor yX8_against.desc).map (fun d => d.parameters.length) = some 1 := by decide +kernel
set_option maxHeartbeats 4000000 in
set_option maxRecDepth 100000 in
theorem c_X8_against (l : Launch) (dC : Nat → ClassId) (dI : Nat → Nat → Nat) (cB cI cZ cO : ClassId) (a0 : Nat) (g0 : Nat → Nat) (o0 : Ob) (v1 : Int32) {r : Int32} (h : f_X8_against o0 v1 = some r) : Ct dC dI cB cI cZ cO l yX8_against wsX8_against rmX8_against [.ref a0, .int v1] ([cX8 a0 g0 o0, cX8_0 cI g0 o0, cX8_1 cI g0 o0, cX8_3 cI g0 o0, cX8_4 cI g0 o0, cX8_6 cI g0 o0, cX8_8 cI g0 o0, cX8_9 cI g0 o0, cX8_10 cI g0 o0, cX8_12 cI g0 o0, cX8_13 cI g0 o0, cX8_15 cI g0 o0, cX8_17 cI g0 o0, cX8_18 cI g0 o0, cX8_22 cB g0 o0, cX8_27 cI g0 o0, cX8_28 cI g0 o0, cX8_29 cI g0 o0, cX8_30 cI g0 o0, cX8_31 cI g0 o0, cX8_32 cI g0 o0, cX8_33 cI g0 o0]) (some (.int r)) ([cX8 a0 g0 o0, cX8_0 cI g0 o0, cX8_1 cI g0 o0, cX8_3 cI g0 o0, cX8_4 cI g0 o0, cX8_6 cI g0 o0, cX8_8 cI g0 o0, cX8_9 cI g0 o0, cX8_10 cI g0 o0, cX8_12 cI g0 o0, cX8_13 cI g0 o0, cX8_15 cI g0 o0, cX8_17 cI g0 o0, cX8_18 cI g0 o0, cX8_22 cB g0 o0, cX8_27 cI g0 o0, cX8_28 cI g0 o0, cX8_29 cI g0 o0, cX8_30 cI g0 o0, cX8_31 cI g0 o0, cX8_32 cI g0 o0, cX8_33 cI g0 o0]) := by
  intro sz
  refine Met.ofW (cc := cX8_against) (maxL := 2) (ret := (some .int)) (by decide) rfl ?_
  intro p e s m args below meth c s₁ B hml hv
  obtain ⟨rfl, hsz, hP, hKK, hD0⟩ := hv
  have hx := B.exec
  have hb := B.bytes
  have hr := B.returns
  have hts := atoms_spec (ws := wsX8_against) B.pre
  have hown : s.vm.findClass RX8 = some m.cls := findClass_of_methodNamed B.named
  have hlocks := B.notSynchronized
  subst hsz
  have hD := hD0.self (sz := s.heap.size)
  generalize hAe : va_A ([cX8 a0 g0 o0, cX8_0 cI g0 o0, cX8_1 cI g0 o0, cX8_3 cI g0 o0, cX8_4 cI g0 o0, cX8_6 cI g0 o0, cX8_8 cI g0 o0, cX8_9 cI g0 o0, cX8_10 cI g0 o0, cX8_12 cI g0 o0, cX8_13 cI g0 o0, cX8_15 cI g0 o0, cX8_17 cI g0 o0, cX8_18 cI g0 o0, cX8_22 cB g0 o0, cX8_27 cI g0 o0, cX8_28 cI g0 o0, cX8_29 cI g0 o0, cX8_30 cI g0 o0, cX8_31 cI g0 o0, cX8_32 cI g0 o0, cX8_33 cI g0 o0]) s.heap.size = A at hD ⊢
  have hA : ∀ q : Nat, s.heap.size ≤ q → A q := fun q h => by rw [← hAe]; exact Or.inr h
  have hS : va_S A s.heap s.heap [] := va_S.rf
  have hP : va_P (dC, dI) vwCl ([cX8 a0 g0 o0, cX8_0 cI g0 o0, cX8_1 cI g0 o0, cX8_3 cI g0 o0, cX8_4 cI g0 o0, cX8_6 cI g0 o0, cX8_8 cI g0 o0, cX8_9 cI g0 o0, cX8_10 cI g0 o0, cX8_12 cI g0 o0, cX8_13 cI g0 o0, cX8_15 cI g0 o0, cX8_17 cI g0 o0, cX8_18 cI g0 o0, cX8_22 cB g0 o0, cX8_27 cI g0 o0, cX8_28 cI g0 o0, cX8_29 cI g0 o0, cX8_30 cI g0 o0, cX8_31 cI g0 o0, cX8_32 cI g0 o0, cX8_33 cI g0 o0]) s.heap := hP
  have hD : va_D A ([cX8 a0 g0 o0, cX8_0 cI g0 o0, cX8_1 cI g0 o0, cX8_3 cI g0 o0, cX8_4 cI g0 o0, cX8_6 cI g0 o0, cX8_8 cI g0 o0, cX8_9 cI g0 o0, cX8_10 cI g0 o0, cX8_12 cI g0 o0, cX8_13 cI g0 o0, cX8_15 cI g0 o0, cX8_17 cI g0 o0, cX8_18 cI g0 o0, cX8_22 cB g0 o0, cX8_27 cI g0 o0, cX8_28 cI g0 o0, cX8_29 cI g0 o0, cX8_30 cI g0 o0, cX8_31 cI g0 o0, cX8_32 cI g0 o0, cX8_33 cI g0 o0]) := hD
  have hl := lv_entry ([.ref a0, .int v1]) (n := 2) (Nat.le_of_ble_eq_true rfl)
  rw [lg_entry_eq]
  generalize (lg_sl ([.ref a0, .int v1]) ++ List.replicate (2 - (lg_sl ([.ref a0, .int v1])).length) Slot.unset).toArray = ls at hl ⊢
  have hl : lv_has ls 2 [(0, .ref a0), (1, .int v1)] := hl
  obtain ⟨Q, hQ⟩ : ∃ Q, Q = MQ below (Qq dC dI (some (.int r)) ([cX8 a0 g0 o0, cX8_0 cI g0 o0, cX8_1 cI g0 o0, cX8_3 cI g0 o0, cX8_4 cI g0 o0, cX8_6 cI g0 o0, cX8_8 cI g0 o0, cX8_9 cI g0 o0, cX8_10 cI g0 o0, cX8_12 cI g0 o0, cX8_13 cI g0 o0, cX8_15 cI g0 o0, cX8_17 cI g0 o0, cX8_18 cI g0 o0, cX8_22 cB g0 o0, cX8_27 cI g0 o0, cX8_28 cI g0 o0, cX8_29 cI g0 o0, cX8_30 cI g0 o0, cX8_31 cI g0 o0, cX8_32 cI g0 o0, cX8_33 cI g0 o0]) A) ([.ref a0, .int v1] : List Value).toArray s 0 0 A := ⟨_, rfl⟩
  rw [← hQ]
  rw [f_X8_against] at h
  clear hAe hD0
  refine lv_aload_n hx hb dX8_against_0 rfl (lv_at hl 0 rfl) ?_
  refine lv_iload_n hx hb dX8_against_1 rfl (lv_at hl 1 rfl) ?_
  obtain ⟨q1, hq1, h⟩ := bnd_e h
  refine kcV (rest := []) (w2 := ([cX8 a0 g0 o0, cX8_0 cI g0 o0, cX8_1 cI g0 o0, cX8_3 cI g0 o0, cX8_4 cI g0 o0, cX8_6 cI g0 o0, cX8_8 cI g0 o0, cX8_9 cI g0 o0, cX8_10 cI g0 o0, cX8_12 cI g0 o0, cX8_13 cI g0 o0, cX8_15 cI g0 o0, cX8_17 cI g0 o0, cX8_18 cI g0 o0, cX8_22 cB g0 o0, cX8_27 cI g0 o0, cX8_28 cI g0 o0, cX8_29 cI g0 o0, cX8_30 cI g0 o0, cX8_31 cI g0 o0, cX8_32 cI g0 o0, cX8_33 cI g0 o0])) hx hb hml hown hts hKK hP hD hS hA (c_X8_isStrip l dC dI cB cI cZ cO a0 g0 o0 v1 hq1) [0, 1, 2, 3, 4, 5, 6, 7, 8, 9, 10, 11, 12, 13, 14, 15, 16, 17, 18, 19, 20, 21] (atAll_map ⟨rfl, rfl, rfl, rfl, rfl, rfl, rfl, rfl, rfl, rfl, rfl, rfl, rfl, rfl, rfl, rfl, rfl, rfl, rfl, rfl, rfl, rfl, trivial⟩) (by decide +kernel) (sameAd_map ⟨rfl, rfl, rfl, rfl, rfl, rfl, rfl, rfl, rfl, rfl, rfl, rfl, rfl, rfl, rfl, rfl, rfl, rfl, rfl, rfl, rfl, rfl, trivial⟩) (atAll_map ⟨rfl, rfl, rfl, rfl, rfl, rfl, rfl, rfl, rfl, rfl, rfl, rfl, rfl, rfl, rfl, rfl, rfl, rfl, rfl, rfl, rfl, rfl, trivial⟩) (agr_refl _ _ _) (cwV 1 hts gX8_against_X8_isStrip rfl rfl rfl ⟨rfl, dsc_X8_isStrip⟩ ⟨Nat.le_of_ble_eq_true rfl, Nat.le_of_ble_eq_true rfl⟩) (va_recv hKK.1 hP (ci := 8) (q0 := 0) rfl rfl) rfl hl.1 rfl (Nat.le_of_ble_eq_true rfl) dX8_against_2 ⟨Nat.zero_le _, Nat.zero_le _⟩ (fun H locs hP hD hS => ?_)
  refine lv_if_eq (tgt := 17) hx hb dX8_against_5 (by decide) (fun k2 => ?_) (fun k2 => ?_)
  · have h := ite_t k2 h
    refine lv_iconst (v := (-1 : Int32)) hx hb dX8_against_17 (by decide) ?_
    have h := Option.some.inj h
    subst h
    subst hQ
    exact W.iret (v := (-1 : Int32)) hx hb hr (fun t ht hW => ⟨⟨rfl, by rw [ht]; exact hP, hD⟩, hS.F ht⟩) hS.2.2 dX8_against_18
  · have h := ite_f k2 h
    refine lv_aload_n hx hb dX8_against_8 rfl (lv_at hl 0 rfl) ?_
    refine lv_iconst (v := (0 : Int32)) hx hb dX8_against_9 (by decide) ?_
    refine lv_iload_n hx hb dX8_against_10 rfl (lv_at hl 1 rfl) ?_
    obtain ⟨q3, hq3, h⟩ := obd_e h
    refine kcV (rest := []) (w2 := ([cX8 a0 g0 o0, cX8_0 cI g0 o0, cX8_1 cI g0 o0, cX8_3 cI g0 o0, cX8_4 cI g0 o0, cX8_6 cI g0 o0, cX8_8 cI g0 o0, cX8_9 cI g0 o0, cX8_10 cI g0 o0, cX8_12 cI g0 o0, cX8_13 cI g0 o0, cX8_15 cI g0 o0, cX8_17 cI g0 o0, cX8_18 cI g0 o0, cX8_22 cB g0 o0, cX8_27 cI g0 o0, cX8_28 cI g0 o0, cX8_29 cI g0 o0, cX8_30 cI g0 o0, cX8_31 cI g0 o0, cX8_32 cI g0 o0, cX8_33 cI g0 o0])) hx hb hml hown hts hKK hP hD hS hA (c_X8_againstIn l dC dI cB cI cZ cO a0 g0 o0 (0 : Int32) v1 hq3) [0, 1, 2, 3, 4, 5, 6, 7, 8, 9, 10, 11, 12, 13, 14, 15, 16, 17, 18, 19, 20, 21] (atAll_map ⟨rfl, rfl, rfl, rfl, rfl, rfl, rfl, rfl, rfl, rfl, rfl, rfl, rfl, rfl, rfl, rfl, rfl, rfl, rfl, rfl, rfl, rfl, trivial⟩) (by decide +kernel) (sameAd_map ⟨rfl, rfl, rfl, rfl, rfl, rfl, rfl, rfl, rfl, rfl, rfl, rfl, rfl, rfl, rfl, rfl, rfl, rfl, rfl, rfl, rfl, rfl, trivial⟩) (atAll_map ⟨rfl, rfl, rfl, rfl, rfl, rfl, rfl, rfl, rfl, rfl, rfl, rfl, rfl, rfl, rfl, rfl, rfl, rfl, rfl, rfl, rfl, rfl, trivial⟩) (agr_refl _ _ _) (cwV 2 hts gX8_against_X8_againstIn rfl rfl rfl ⟨rfl, dsc_X8_againstIn⟩ ⟨Nat.le_of_ble_eq_true rfl, Nat.le_of_ble_eq_true rfl⟩) (va_recv hKK.1 hP (ci := 8) (q0 := 0) rfl rfl) rfl hl.1 rfl (Nat.le_of_ble_eq_true rfl) dX8_against_11 ⟨Nat.zero_le _, Nat.zero_le _⟩ (fun H locs hP hD hS => ?_)
    refine lv_goto (tgt := 18) hx hb dX8_against_14 (by decide) ?_
    have h := Option.some.inj h
    subst h
    subst hQ
    exact W.iret (v := q3) hx hb hr (fun t ht hW => ⟨⟨rfl, by rw [ht]; exact hP, hD⟩, hS.F ht⟩) hS.2.2 dX8_against_18
