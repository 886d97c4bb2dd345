def f_X8_clears_52 : Nat → Int32 → Ob → Option (Ob)
  | 0, _, _ => none
  | nn52+1, x52_1, o52_0 => if (26 : Int32) ≤ x52_1 then (some o52_0) else (if ((286 : Int32) + x52_1) < 0 ∨ 312 ≤ ((286 : Int32) + x52_1).toNatClampNeg then none else bnd (upd (o52_0.2 18) ((286 : Int32) + x52_1).toNatClampNeg (0 : Int32)) fun u6 : Nat → Int32 => bnd (x52_1 + (1 : Int32)) fun x7 : Int32 => (f_X8_clears_52 nn52) x7 (stR o52_0 18 u6))
def f_X8_clears_31 : Nat → Int32 → Ob → Option (Ob)
  | 0, _, _ => none
  | nn31+1, x31_1, o31_0 => if (8 : Int32) ≤ x31_1 then (f_X8_clears_52 FU (0 : Int32) o31_0) else (if x31_1 < 0 ∨ 8 ≤ x31_1.toNatClampNeg then none else bnd (upd (o31_0.2 17) x31_1.toNatClampNeg (0 : Int32)) fun u9 : Nat → Int32 => bnd (x31_1 + (1 : Int32)) fun x10 : Int32 => (f_X8_clears_31 nn31) x10 (stR o31_0 17 u9))
def f_X8_clears (o0 : Ob) : Option (Ob) := bnd (upd (o0.2 9) (0 : Int32).toNatClampNeg (0 : Int32)) fun u1 : Nat → Int32 => bnd (upd u1 (1 : Int32).toNatClampNeg (0 : Int32)) fun u2 : Nat → Int32 => f_X8_clears_31 FU (0 : Int32) (stR (stF (stF (stF o0 11 (0 : Int32)) 14 (0 : Int32)) 16 (0 : Int32)) 9 u2)
abbrev rmX8_clears : Room := { frames := 0, cells := 0, slots := 0, locals := 0 }
theorem dsc_X8_clears : yX8_clears.cls ≠ "java/lang/invoke/MethodHandle" ∧ yX8_clears.cls ≠ "java/lang/invoke/VarHandle" ∧ (parseMethodDescriptor yX8_clears.desc).map (fun d => d.parameters.length) = some 0 := by decide +kernel
set_option maxHeartbeats 4000000 in
set_option maxRecDepth 100000 in
theorem c_X8_clears (l : Launch) (dC : Nat → ClassId) (dI : Nat → Nat → Nat) (cB cI cZ cO : ClassId) (a0 : Nat) (g0 : Nat → Nat) (o0 : Ob) {r : Ob} (h : f_X8_clears o0 = some r) : Ct dC dI cB cI cZ cO l yX8_clears wsX8_clears rmX8_clears [.ref a0] ([cX8 a0 g0 o0, cX8_0 cI g0 o0, cX8_1 cI g0 o0, cX8_3 cI g0 o0, cX8_4 cI g0 o0, cX8_6 cI g0 o0, cX8_8 cI g0 o0, cX8_9 cI g0 o0, cX8_10 cI g0 o0, cX8_12 cI g0 o0, cX8_13 cI g0 o0, cX8_15 cI g0 o0, cX8_17 cI g0 o0, cX8_18 cI g0 o0, cX8_22 cB g0 o0, cX8_27 cI g0 o0, cX8_28 cI g0 o0, cX8_29 cI g0 o0, cX8_30 cI g0 o0, cX8_31 cI g0 o0, cX8_32 cI g0 o0, cX8_33 cI g0 o0]) none ([cX8 a0 g0 r, cX8_0 cI g0 r, cX8_1 cI g0 r, cX8_3 cI g0 r, cX8_4 cI g0 r, cX8_6 cI g0 r, cX8_8 cI g0 r, cX8_9 cI g0 r, cX8_10 cI g0 r, cX8_12 cI g0 r, cX8_13 cI g0 r, cX8_15 cI g0 r, cX8_17 cI g0 r, cX8_18 cI g0 r, cX8_22 cB g0 r, cX8_27 cI g0 r, cX8_28 cI g0 r, cX8_29 cI g0 r, cX8_30 cI g0 r, cX8_31 cI g0 r, cX8_32 cI g0 r, cX8_33 cI g0 r]) := by
  intro sz
  refine Met.ofW (cc := cX8_clears) (maxL := 2) (ret := none) (by decide) rfl ?_
  intro p e s m args below meth c s₁ B hml hv
  obtain ⟨rfl, hsz, hP, hKK, hD0⟩ := hv
  have hx := B.exec
  have hb := B.bytes
  have hr := B.returns
  have hts := atoms_spec (ws := wsX8_clears) B.pre
  have hown : s.vm.findClass RX8 = some m.cls := findClass_of_methodNamed B.named
  have hlocks := B.notSynchronized
  have hiX8 : ∀ w ∈ u_ws RX8 TX8 36, w ∈ wsX8_clears := fun w h => List.mem_cons_of_mem _ (List.mem_append_right _ h)
  subst hsz
  have hD := hD0.self (sz := s.heap.size)
  generalize hAe : va_A ([cX8 a0 g0 o0, cX8_0 cI g0 o0, cX8_1 cI g0 o0, cX8_3 cI g0 o0, cX8_4 cI g0 o0, cX8_6 cI g0 o0, cX8_8 cI g0 o0, cX8_9 cI g0 o0, cX8_10 cI g0 o0, cX8_12 cI g0 o0, cX8_13 cI g0 o0, cX8_15 cI g0 o0, cX8_17 cI g0 o0, cX8_18 cI g0 o0, cX8_22 cB g0 o0, cX8_27 cI g0 o0, cX8_28 cI g0 o0, cX8_29 cI g0 o0, cX8_30 cI g0 o0, cX8_31 cI g0 o0, cX8_32 cI g0 o0, cX8_33 cI g0 o0]) s.heap.size = A at hD ⊢
  have hA : ∀ q : Nat, s.heap.size ≤ q → A q := fun q h => by rw [← hAe]; exact Or.inr h
  have hS : va_S A s.heap s.heap [] := va_S.rf
  have hP : va_P (dC, dI) vwCl ([cX8 a0 g0 o0, cX8_0 cI g0 o0, cX8_1 cI g0 o0, cX8_3 cI g0 o0, cX8_4 cI g0 o0, cX8_6 cI g0 o0, cX8_8 cI g0 o0, cX8_9 cI g0 o0, cX8_10 cI g0 o0, cX8_12 cI g0 o0, cX8_13 cI g0 o0, cX8_15 cI g0 o0, cX8_17 cI g0 o0, cX8_18 cI g0 o0, cX8_22 cB g0 o0, cX8_27 cI g0 o0, cX8_28 cI g0 o0, cX8_29 cI g0 o0, cX8_30 cI g0 o0, cX8_31 cI g0 o0, cX8_32 cI g0 o0, cX8_33 cI g0 o0]) s.heap := hP
  have hD : va_D A ([cX8 a0 g0 o0, cX8_0 cI g0 o0, cX8_1 cI g0 o0, cX8_3 cI g0 o0, cX8_4 cI g0 o0, cX8_6 cI g0 o0, cX8_8 cI g0 o0, cX8_9 cI g0 o0, cX8_10 cI g0 o0, cX8_12 cI g0 o0, cX8_13 cI g0 o0, cX8_15 cI g0 o0, cX8_17 cI g0 o0, cX8_18 cI g0 o0, cX8_22 cB g0 o0, cX8_27 cI g0 o0, cX8_28 cI g0 o0, cX8_29 cI g0 o0, cX8_30 cI g0 o0, cX8_31 cI g0 o0, cX8_32 cI g0 o0, cX8_33 cI g0 o0]) := hD
  have hl := lv_entry ([.ref a0]) (n := 2) (Nat.le_of_ble_eq_true rfl)
  rw [lg_entry_eq]
  generalize (lg_sl ([.ref a0]) ++ List.replicate (2 - (lg_sl ([.ref a0])).length) Slot.unset).toArray = ls at hl ⊢
  have hl : lv_has ls 2 [(0, .ref a0)] := hl
  obtain ⟨Q, hQ⟩ : ∃ Q, Q = MQ below (Qq dC dI none ([cX8 a0 g0 r, cX8_0 cI g0 r, cX8_1 cI g0 r, cX8_3 cI g0 r, cX8_4 cI g0 r, cX8_6 cI g0 r, cX8_8 cI g0 r, cX8_9 cI g0 r, cX8_10 cI g0 r, cX8_12 cI g0 r, cX8_13 cI g0 r, cX8_15 cI g0 r, cX8_17 cI g0 r, cX8_18 cI g0 r, cX8_22 cB g0 r, cX8_27 cI g0 r, cX8_28 cI g0 r, cX8_29 cI g0 r, cX8_30 cI g0 r, cX8_31 cI g0 r, cX8_32 cI g0 r, cX8_33 cI g0 r]) A) ([.ref a0] : List Value).toArray s 0 0 A := ⟨_, rfl⟩
  rw [← hQ]
  rw [f_X8_clears] at h
  clear hAe hD0
  refine lv_aload_n hx hb dX8_clears_0 rfl (lv_at hl 0 rfl) ?_
  refine va_get (D := (dC, dI)) (ci := 8) (v := .ref (g0 9)) (C := RX8) (T := TX8) (N := 36) hx hb hts hiX8 hown hKK.1 hP 0 rfl rfl 9 (by decide) (hts (.fieldLink RX8 28 "SlideLandModel" "newMany" "[I") (List.mem_of_getElem? (i := 1) rfl)) (fun _ h9 => h9) rfl dX8_clears_1 ?_
  refine lv_iconst (v := (0 : Int32)) hx hb dX8_clears_4 (by decide) ?_
  refine lv_iconst (v := (0 : Int32)) hx hb dX8_clears_5 (by decide) ?_
  obtain ⟨u1, hu1, h⟩ := bnd_e h
  refine k_iast (f := (o0.2 9)) hx hb hKK.1 hP hD hS 7 1 hu1 rfl rfl (show ¬ ((0 : Int32) < 0 ∨ 2 ≤ (0 : Int32).toNatClampNeg) from by decide) dX8_clears_6 (fun H locs hP hD hS => ?_)
  have hP : va_P (dC, dI) vwCl ([cX8 a0 g0 (stR o0 9 u1), cX8_0 cI g0 (stR o0 9 u1), cX8_1 cI g0 (stR o0 9 u1), cX8_3 cI g0 (stR o0 9 u1), cX8_4 cI g0 (stR o0 9 u1), cX8_6 cI g0 (stR o0 9 u1), cX8_8 cI g0 (stR o0 9 u1), cX8_9 cI g0 (stR o0 9 u1), cX8_10 cI g0 (stR o0 9 u1), cX8_12 cI g0 (stR o0 9 u1), cX8_13 cI g0 (stR o0 9 u1), cX8_15 cI g0 (stR o0 9 u1), cX8_17 cI g0 (stR o0 9 u1), cX8_18 cI g0 (stR o0 9 u1), cX8_22 cB g0 (stR o0 9 u1), cX8_27 cI g0 (stR o0 9 u1), cX8_28 cI g0 (stR o0 9 u1), cX8_29 cI g0 (stR o0 9 u1), cX8_30 cI g0 (stR o0 9 u1), cX8_31 cI g0 (stR o0 9 u1), cX8_32 cI g0 (stR o0 9 u1), cX8_33 cI g0 (stR o0 9 u1)]) H := hP
  have hD : va_D A ([cX8 a0 g0 (stR o0 9 u1), cX8_0 cI g0 (stR o0 9 u1), cX8_1 cI g0 (stR o0 9 u1), cX8_3 cI g0 (stR o0 9 u1), cX8_4 cI g0 (stR o0 9 u1), cX8_6 cI g0 (stR o0 9 u1), cX8_8 cI g0 (stR o0 9 u1), cX8_9 cI g0 (stR o0 9 u1), cX8_10 cI g0 (stR o0 9 u1), cX8_12 cI g0 (stR o0 9 u1), cX8_13 cI g0 (stR o0 9 u1), cX8_15 cI g0 (stR o0 9 u1), cX8_17 cI g0 (stR o0 9 u1), cX8_18 cI g0 (stR o0 9 u1), cX8_22 cB g0 (stR o0 9 u1), cX8_27 cI g0 (stR o0 9 u1), cX8_28 cI g0 (stR o0 9 u1), cX8_29 cI g0 (stR o0 9 u1), cX8_30 cI g0 (stR o0 9 u1), cX8_31 cI g0 (stR o0 9 u1), cX8_32 cI g0 (stR o0 9 u1), cX8_33 cI g0 (stR o0 9 u1)]) := hD
  refine lv_aload_n hx hb dX8_clears_7 rfl (lv_at hl 0 rfl) ?_
  refine va_get (D := (dC, dI)) (ci := 8) (v := .ref (g0 9)) (C := RX8) (T := TX8) (N := 36) hx hb hts hiX8 hown hKK.1 hP 0 rfl rfl 9 (by decide) (hts (.fieldLink RX8 28 "SlideLandModel" "newMany" "[I") (List.mem_of_getElem? (i := 1) rfl)) (fun _ h9 => h9) rfl dX8_clears_8 ?_
  refine lv_iconst (v := (1 : Int32)) hx hb dX8_clears_11 (by decide) ?_
  refine lv_iconst (v := (0 : Int32)) hx hb dX8_clears_12 (by decide) ?_
  obtain ⟨u2, hu2, h⟩ := bnd_e h
  refine k_iast (f := u1) hx hb hKK.1 hP hD hS 7 1 hu2 rfl rfl (show ¬ ((1 : Int32) < 0 ∨ 2 ≤ (1 : Int32).toNatClampNeg) from by decide) dX8_clears_13 (fun H locs hP hD hS => ?_)
  have hP : va_P (dC, dI) vwCl ([cX8 a0 g0 (stR o0 9 u2), cX8_0 cI g0 (stR o0 9 u2), cX8_1 cI g0 (stR o0 9 u2), cX8_3 cI g0 (stR o0 9 u2), cX8_4 cI g0 (stR o0 9 u2), cX8_6 cI g0 (stR o0 9 u2), cX8_8 cI g0 (stR o0 9 u2), cX8_9 cI g0 (stR o0 9 u2), cX8_10 cI g0 (stR o0 9 u2), cX8_12 cI g0 (stR o0 9 u2), cX8_13 cI g0 (stR o0 9 u2), cX8_15 cI g0 (stR o0 9 u2), cX8_17 cI g0 (stR o0 9 u2), cX8_18 cI g0 (stR o0 9 u2), cX8_22 cB g0 (stR o0 9 u2), cX8_27 cI g0 (stR o0 9 u2), cX8_28 cI g0 (stR o0 9 u2), cX8_29 cI g0 (stR o0 9 u2), cX8_30 cI g0 (stR o0 9 u2), cX8_31 cI g0 (stR o0 9 u2), cX8_32 cI g0 (stR o0 9 u2), cX8_33 cI g0 (stR o0 9 u2)]) H := hP
  have hD : va_D A ([cX8 a0 g0 (stR o0 9 u2), cX8_0 cI g0 (stR o0 9 u2), cX8_1 cI g0 (stR o0 9 u2), cX8_3 cI g0 (stR o0 9 u2), cX8_4 cI g0 (stR o0 9 u2), cX8_6 cI g0 (stR o0 9 u2), cX8_8 cI g0 (stR o0 9 u2), cX8_9 cI g0 (stR o0 9 u2), cX8_10 cI g0 (stR o0 9 u2), cX8_12 cI g0 (stR o0 9 u2), cX8_13 cI g0 (stR o0 9 u2), cX8_15 cI g0 (stR o0 9 u2), cX8_17 cI g0 (stR o0 9 u2), cX8_18 cI g0 (stR o0 9 u2), cX8_22 cB g0 (stR o0 9 u2), cX8_27 cI g0 (stR o0 9 u2), cX8_28 cI g0 (stR o0 9 u2), cX8_29 cI g0 (stR o0 9 u2), cX8_30 cI g0 (stR o0 9 u2), cX8_31 cI g0 (stR o0 9 u2), cX8_32 cI g0 (stR o0 9 u2), cX8_33 cI g0 (stR o0 9 u2)]) := hD
  refine lv_aload_n hx hb dX8_clears_14 rfl (lv_at hl 0 rfl) ?_
  refine lv_iconst (v := (0 : Int32)) hx hb dX8_clears_15 (by decide) ?_
  refine va_put (D := (dC, dI)) (ci := 8) (v := .int (0 : Int32)) (ty := .int) (C := RX8) (T := TX8) (N := 36) hx hb hts hiX8 tyX8 tyX8_ok nmX8 hown hKK.1 hP hD hS 0 rfl rfl 11 (by decide) (hts (.fieldLink RX8 95 "SlideLandModel" "newStrips" "I") (List.mem_of_getElem? (i := 2) rfl)) (fun _ h9 => h9) rfl (by decide +kernel) rfl rfl (Nat.le_of_ble_eq_true rfl) dX8_clears_16 (fun H locs hP hD hS => ?_)
  have hP : va_P (dC, dI) vwCl ([cX8 a0 g0 (stR (stF o0 11 (0 : Int32)) 9 u2), cX8_0 cI g0 (stR (stF o0 11 (0 : Int32)) 9 u2), cX8_1 cI g0 (stR (stF o0 11 (0 : Int32)) 9 u2), cX8_3 cI g0 (stR (stF o0 11 (0 : Int32)) 9 u2), cX8_4 cI g0 (stR (stF o0 11 (0 : Int32)) 9 u2), cX8_6 cI g0 (stR (stF o0 11 (0 : Int32)) 9 u2), cX8_8 cI g0 (stR (stF o0 11 (0 : Int32)) 9 u2), cX8_9 cI g0 (stR (stF o0 11 (0 : Int32)) 9 u2), cX8_10 cI g0 (stR (stF o0 11 (0 : Int32)) 9 u2), cX8_12 cI g0 (stR (stF o0 11 (0 : Int32)) 9 u2), cX8_13 cI g0 (stR (stF o0 11 (0 : Int32)) 9 u2), cX8_15 cI g0 (stR (stF o0 11 (0 : Int32)) 9 u2), cX8_17 cI g0 (stR (stF o0 11 (0 : Int32)) 9 u2), cX8_18 cI g0 (stR (stF o0 11 (0 : Int32)) 9 u2), cX8_22 cB g0 (stR (stF o0 11 (0 : Int32)) 9 u2), cX8_27 cI g0 (stR (stF o0 11 (0 : Int32)) 9 u2), cX8_28 cI g0 (stR (stF o0 11 (0 : Int32)) 9 u2), cX8_29 cI g0 (stR (stF o0 11 (0 : Int32)) 9 u2), cX8_30 cI g0 (stR (stF o0 11 (0 : Int32)) 9 u2), cX8_31 cI g0 (stR (stF o0 11 (0 : Int32)) 9 u2), cX8_32 cI g0 (stR (stF o0 11 (0 : Int32)) 9 u2), cX8_33 cI g0 (stR (stF o0 11 (0 : Int32)) 9 u2)]) H := hP
  have hD : va_D A ([cX8 a0 g0 (stR (stF o0 11 (0 : Int32)) 9 u2), cX8_0 cI g0 (stR (stF o0 11 (0 : Int32)) 9 u2), cX8_1 cI g0 (stR (stF o0 11 (0 : Int32)) 9 u2), cX8_3 cI g0 (stR (stF o0 11 (0 : Int32)) 9 u2), cX8_4 cI g0 (stR (stF o0 11 (0 : Int32)) 9 u2), cX8_6 cI g0 (stR (stF o0 11 (0 : Int32)) 9 u2), cX8_8 cI g0 (stR (stF o0 11 (0 : Int32)) 9 u2), cX8_9 cI g0 (stR (stF o0 11 (0 : Int32)) 9 u2), cX8_10 cI g0 (stR (stF o0 11 (0 : Int32)) 9 u2), cX8_12 cI g0 (stR (stF o0 11 (0 : Int32)) 9 u2), cX8_13 cI g0 (stR (stF o0 11 (0 : Int32)) 9 u2), cX8_15 cI g0 (stR (stF o0 11 (0 : Int32)) 9 u2), cX8_17 cI g0 (stR (stF o0 11 (0 : Int32)) 9 u2), cX8_18 cI g0 (stR (stF o0 11 (0 : Int32)) 9 u2), cX8_22 cB g0 (stR (stF o0 11 (0 : Int32)) 9 u2), cX8_27 cI g0 (stR (stF o0 11 (0 : Int32)) 9 u2), cX8_28 cI g0 (stR (stF o0 11 (0 : Int32)) 9 u2), cX8_29 cI g0 (stR (stF o0 11 (0 : Int32)) 9 u2), cX8_30 cI g0 (stR (stF o0 11 (0 : Int32)) 9 u2), cX8_31 cI g0 (stR (stF o0 11 (0 : Int32)) 9 u2), cX8_32 cI g0 (stR (stF o0 11 (0 : Int32)) 9 u2), cX8_33 cI g0 (stR (stF o0 11 (0 : Int32)) 9 u2)]) := hD
  refine lv_aload_n hx hb dX8_clears_19 rfl (lv_at hl 0 rfl) ?_
  refine lv_iconst (v := (0 : Int32)) hx hb dX8_clears_20 (by decide) ?_
  refine va_put (D := (dC, dI)) (ci := 8) (v := .int (0 : Int32)) (ty := .int) (C := RX8) (T := TX8) (N := 36) hx hb hts hiX8 tyX8 tyX8_ok nmX8 hown hKK.1 hP hD hS 0 rfl rfl 14 (by decide) (hts (.fieldLink RX8 85 "SlideLandModel" "newPushes" "I") (List.mem_of_getElem? (i := 3) rfl)) (fun _ h9 => h9) rfl (by decide +kernel) rfl rfl (Nat.le_of_ble_eq_true rfl) dX8_clears_21 (fun H locs hP hD hS => ?_)
  have hP : va_P (dC, dI) vwCl ([cX8 a0 g0 (stR (stF (stF o0 11 (0 : Int32)) 14 (0 : Int32)) 9 u2), cX8_0 cI g0 (stR (stF (stF o0 11 (0 : Int32)) 14 (0 : Int32)) 9 u2), cX8_1 cI g0 (stR (stF (stF o0 11 (0 : Int32)) 14 (0 : Int32)) 9 u2), cX8_3 cI g0 (stR (stF (stF o0 11 (0 : Int32)) 14 (0 : Int32)) 9 u2), cX8_4 cI g0 (stR (stF (stF o0 11 (0 : Int32)) 14 (0 : Int32)) 9 u2), cX8_6 cI g0 (stR (stF (stF o0 11 (0 : Int32)) 14 (0 : Int32)) 9 u2), cX8_8 cI g0 (stR (stF (stF o0 11 (0 : Int32)) 14 (0 : Int32)) 9 u2), cX8_9 cI g0 (stR (stF (stF o0 11 (0 : Int32)) 14 (0 : Int32)) 9 u2), cX8_10 cI g0 (stR (stF (stF o0 11 (0 : Int32)) 14 (0 : Int32)) 9 u2), cX8_12 cI g0 (stR (stF (stF o0 11 (0 : Int32)) 14 (0 : Int32)) 9 u2), cX8_13 cI g0 (stR (stF (stF o0 11 (0 : Int32)) 14 (0 : Int32)) 9 u2), cX8_15 cI g0 (stR (stF (stF o0 11 (0 : Int32)) 14 (0 : Int32)) 9 u2), cX8_17 cI g0 (stR (stF (stF o0 11 (0 : Int32)) 14 (0 : Int32)) 9 u2), cX8_18 cI g0 (stR (stF (stF o0 11 (0 : Int32)) 14 (0 : Int32)) 9 u2), cX8_22 cB g0 (stR (stF (stF o0 11 (0 : Int32)) 14 (0 : Int32)) 9 u2), cX8_27 cI g0 (stR (stF (stF o0 11 (0 : Int32)) 14 (0 : Int32)) 9 u2), cX8_28 cI g0 (stR (stF (stF o0 11 (0 : Int32)) 14 (0 : Int32)) 9 u2), cX8_29 cI g0 (stR (stF (stF o0 11 (0 : Int32)) 14 (0 : Int32)) 9 u2), cX8_30 cI g0 (stR (stF (stF o0 11 (0 : Int32)) 14 (0 : Int32)) 9 u2), cX8_31 cI g0 (stR (stF (stF o0 11 (0 : Int32)) 14 (0 : Int32)) 9 u2), cX8_32 cI g0 (stR (stF (stF o0 11 (0 : Int32)) 14 (0 : Int32)) 9 u2), cX8_33 cI g0 (stR (stF (stF o0 11 (0 : Int32)) 14 (0 : Int32)) 9 u2)]) H := hP
  have hD : va_D A ([cX8 a0 g0 (stR (stF (stF o0 11 (0 : Int32)) 14 (0 : Int32)) 9 u2), cX8_0 cI g0 (stR (stF (stF o0 11 (0 : Int32)) 14 (0 : Int32)) 9 u2), cX8_1 cI g0 (stR (stF (stF o0 11 (0 : Int32)) 14 (0 : Int32)) 9 u2), cX8_3 cI g0 (stR (stF (stF o0 11 (0 : Int32)) 14 (0 : Int32)) 9 u2), cX8_4 cI g0 (stR (stF (stF o0 11 (0 : Int32)) 14 (0 : Int32)) 9 u2), cX8_6 cI g0 (stR (stF (stF o0 11 (0 : Int32)) 14 (0 : Int32)) 9 u2), cX8_8 cI g0 (stR (stF (stF o0 11 (0 : Int32)) 14 (0 : Int32)) 9 u2), cX8_9 cI g0 (stR (stF (stF o0 11 (0 : Int32)) 14 (0 : Int32)) 9 u2), cX8_10 cI g0 (stR (stF (stF o0 11 (0 : Int32)) 14 (0 : Int32)) 9 u2), cX8_12 cI g0 (stR (stF (stF o0 11 (0 : Int32)) 14 (0 : Int32)) 9 u2), cX8_13 cI g0 (stR (stF (stF o0 11 (0 : Int32)) 14 (0 : Int32)) 9 u2), cX8_15 cI g0 (stR (stF (stF o0 11 (0 : Int32)) 14 (0 : Int32)) 9 u2), cX8_17 cI g0 (stR (stF (stF o0 11 (0 : Int32)) 14 (0 : Int32)) 9 u2), cX8_18 cI g0 (stR (stF (stF o0 11 (0 : Int32)) 14 (0 : Int32)) 9 u2), cX8_22 cB g0 (stR (stF (stF o0 11 (0 : Int32)) 14 (0 : Int32)) 9 u2), cX8_27 cI g0 (stR (stF (stF o0 11 (0 : Int32)) 14 (0 : Int32)) 9 u2), cX8_28 cI g0 (stR (stF (stF o0 11 (0 : Int32)) 14 (0 : Int32)) 9 u2), cX8_29 cI g0 (stR (stF (stF o0 11 (0 : Int32)) 14 (0 : Int32)) 9 u2), cX8_30 cI g0 (stR (stF (stF o0 11 (0 : Int32)) 14 (0 : Int32)) 9 u2), cX8_31 cI g0 (stR (stF (stF o0 11 (0 : Int32)) 14 (0 : Int32)) 9 u2), cX8_32 cI g0 (stR (stF (stF o0 11 (0 : Int32)) 14 (0 : Int32)) 9 u2), cX8_33 cI g0 (stR (stF (stF o0 11 (0 : Int32)) 14 (0 : Int32)) 9 u2)]) := hD
  refine lv_aload_n hx hb dX8_clears_24 rfl (lv_at hl 0 rfl) ?_
  refine lv_iconst (v := (0 : Int32)) hx hb dX8_clears_25 (by decide) ?_
  refine va_put (D := (dC, dI)) (ci := 8) (v := .int (0 : Int32)) (ty := .int) (C := RX8) (T := TX8) (N := 36) hx hb hts hiX8 tyX8 tyX8_ok nmX8 hown hKK.1 hP hD hS 0 rfl rfl 16 (by decide) (hts (.fieldLink RX8 89 "SlideLandModel" "newDamps" "I") (List.mem_of_getElem? (i := 4) rfl)) (fun _ h9 => h9) rfl (by decide +kernel) rfl rfl (Nat.le_of_ble_eq_true rfl) dX8_clears_26 (fun H locs hP hD hS => ?_)
  have hP : va_P (dC, dI) vwCl ([cX8 a0 g0 (stR (stF (stF (stF o0 11 (0 : Int32)) 14 (0 : Int32)) 16 (0 : Int32)) 9 u2), cX8_0 cI g0 (stR (stF (stF (stF o0 11 (0 : Int32)) 14 (0 : Int32)) 16 (0 : Int32)) 9 u2), cX8_1 cI g0 (stR (stF (stF (stF o0 11 (0 : Int32)) 14 (0 : Int32)) 16 (0 : Int32)) 9 u2), cX8_3 cI g0 (stR (stF (stF (stF o0 11 (0 : Int32)) 14 (0 : Int32)) 16 (0 : Int32)) 9 u2), cX8_4 cI g0 (stR (stF (stF (stF o0 11 (0 : Int32)) 14 (0 : Int32)) 16 (0 : Int32)) 9 u2), cX8_6 cI g0 (stR (stF (stF (stF o0 11 (0 : Int32)) 14 (0 : Int32)) 16 (0 : Int32)) 9 u2), cX8_8 cI g0 (stR (stF (stF (stF o0 11 (0 : Int32)) 14 (0 : Int32)) 16 (0 : Int32)) 9 u2), cX8_9 cI g0 (stR (stF (stF (stF o0 11 (0 : Int32)) 14 (0 : Int32)) 16 (0 : Int32)) 9 u2), cX8_10 cI g0 (stR (stF (stF (stF o0 11 (0 : Int32)) 14 (0 : Int32)) 16 (0 : Int32)) 9 u2), cX8_12 cI g0 (stR (stF (stF (stF o0 11 (0 : Int32)) 14 (0 : Int32)) 16 (0 : Int32)) 9 u2), cX8_13 cI g0 (stR (stF (stF (stF o0 11 (0 : Int32)) 14 (0 : Int32)) 16 (0 : Int32)) 9 u2), cX8_15 cI g0 (stR (stF (stF (stF o0 11 (0 : Int32)) 14 (0 : Int32)) 16 (0 : Int32)) 9 u2), cX8_17 cI g0 (stR (stF (stF (stF o0 11 (0 : Int32)) 14 (0 : Int32)) 16 (0 : Int32)) 9 u2), cX8_18 cI g0 (stR (stF (stF (stF o0 11 (0 : Int32)) 14 (0 : Int32)) 16 (0 : Int32)) 9 u2), cX8_22 cB g0 (stR (stF (stF (stF o0 11 (0 : Int32)) 14 (0 : Int32)) 16 (0 : Int32)) 9 u2), cX8_27 cI g0 (stR (stF (stF (stF o0 11 (0 : Int32)) 14 (0 : Int32)) 16 (0 : Int32)) 9 u2), cX8_28 cI g0 (stR (stF (stF (stF o0 11 (0 : Int32)) 14 (0 : Int32)) 16 (0 : Int32)) 9 u2), cX8_29 cI g0 (stR (stF (stF (stF o0 11 (0 : Int32)) 14 (0 : Int32)) 16 (0 : Int32)) 9 u2), cX8_30 cI g0 (stR (stF (stF (stF o0 11 (0 : Int32)) 14 (0 : Int32)) 16 (0 : Int32)) 9 u2), cX8_31 cI g0 (stR (stF (stF (stF o0 11 (0 : Int32)) 14 (0 : Int32)) 16 (0 : Int32)) 9 u2), cX8_32 cI g0 (stR (stF (stF (stF o0 11 (0 : Int32)) 14 (0 : Int32)) 16 (0 : Int32)) 9 u2), cX8_33 cI g0 (stR (stF (stF (stF o0 11 (0 : Int32)) 14 (0 : Int32)) 16 (0 : Int32)) 9 u2)]) H := hP
  have hD : va_D A ([cX8 a0 g0 (stR (stF (stF (stF o0 11 (0 : Int32)) 14 (0 : Int32)) 16 (0 : Int32)) 9 u2), cX8_0 cI g0 (stR (stF (stF (stF o0 11 (0 : Int32)) 14 (0 : Int32)) 16 (0 : Int32)) 9 u2), cX8_1 cI g0 (stR (stF (stF (stF o0 11 (0 : Int32)) 14 (0 : Int32)) 16 (0 : Int32)) 9 u2), cX8_3 cI g0 (stR (stF (stF (stF o0 11 (0 : Int32)) 14 (0 : Int32)) 16 (0 : Int32)) 9 u2), cX8_4 cI g0 (stR (stF (stF (stF o0 11 (0 : Int32)) 14 (0 : Int32)) 16 (0 : Int32)) 9 u2), cX8_6 cI g0 (stR (stF (stF (stF o0 11 (0 : Int32)) 14 (0 : Int32)) 16 (0 : Int32)) 9 u2), cX8_8 cI g0 (stR (stF (stF (stF o0 11 (0 : Int32)) 14 (0 : Int32)) 16 (0 : Int32)) 9 u2), cX8_9 cI g0 (stR (stF (stF (stF o0 11 (0 : Int32)) 14 (0 : Int32)) 16 (0 : Int32)) 9 u2), cX8_10 cI g0 (stR (stF (stF (stF o0 11 (0 : Int32)) 14 (0 : Int32)) 16 (0 : Int32)) 9 u2), cX8_12 cI g0 (stR (stF (stF (stF o0 11 (0 : Int32)) 14 (0 : Int32)) 16 (0 : Int32)) 9 u2), cX8_13 cI g0 (stR (stF (stF (stF o0 11 (0 : Int32)) 14 (0 : Int32)) 16 (0 : Int32)) 9 u2), cX8_15 cI g0 (stR (stF (stF (stF o0 11 (0 : Int32)) 14 (0 : Int32)) 16 (0 : Int32)) 9 u2), cX8_17 cI g0 (stR (stF (stF (stF o0 11 (0 : Int32)) 14 (0 : Int32)) 16 (0 : Int32)) 9 u2), cX8_18 cI g0 (stR (stF (stF (stF o0 11 (0 : Int32)) 14 (0 : Int32)) 16 (0 : Int32)) 9 u2), cX8_22 cB g0 (stR (stF (stF (stF o0 11 (0 : Int32)) 14 (0 : Int32)) 16 (0 : Int32)) 9 u2), cX8_27 cI g0 (stR (stF (stF (stF o0 11 (0 : Int32)) 14 (0 : Int32)) 16 (0 : Int32)) 9 u2), cX8_28 cI g0 (stR (stF (stF (stF o0 11 (0 : Int32)) 14 (0 : Int32)) 16 (0 : Int32)) 9 u2), cX8_29 cI g0 (stR (stF (stF (stF o0 11 (0 : Int32)) 14 (0 : Int32)) 16 (0 : Int32)) 9 u2), cX8_30 cI g0 (stR (stF (stF (stF o0 11 (0 : Int32)) 14 (0 : Int32)) 16 (0 : Int32)) 9 u2), cX8_31 cI g0 (stR (stF (stF (stF o0 11 (0 : Int32)) 14 (0 : Int32)) 16 (0 : Int32)) 9 u2), cX8_32 cI g0 (stR (stF (stF (stF o0 11 (0 : Int32)) 14 (0 : Int32)) 16 (0 : Int32)) 9 u2), cX8_33 cI g0 (stR (stF (stF (stF o0 11 (0 : Int32)) 14 (0 : Int32)) 16 (0 : Int32)) 9 u2)]) := hD
  refine lv_iconst (v := (0 : Int32)) hx hb dX8_clears_29 (by decide) ?_
  refine lv_istore_n (lv' := [(1, .int (0 : Int32)), (0, .ref a0)]) hx hb dX8_clears_30 rfl hl (by decide) rfl (fun ls hl => ?_)
  have lp31 : ∀ (nn31 : Nat) (x31_1 : Int32) (o31_0 : Ob), f_X8_clears_31 nn31 x31_1 o31_0 = some r → ∀ (H : Heap) (locs : List Loc) (ls : Array Slot), va_P (dC, dI) vwCl ([cX8 a0 g0 o31_0, cX8_0 cI g0 o31_0, cX8_1 cI g0 o31_0, cX8_3 cI g0 o31_0, cX8_4 cI g0 o31_0, cX8_6 cI g0 o31_0, cX8_8 cI g0 o31_0, cX8_9 cI g0 o31_0, cX8_10 cI g0 o31_0, cX8_12 cI g0 o31_0, cX8_13 cI g0 o31_0, cX8_15 cI g0 o31_0, cX8_17 cI g0 o31_0, cX8_18 cI g0 o31_0, cX8_22 cB g0 o31_0, cX8_27 cI g0 o31_0, cX8_28 cI g0 o31_0, cX8_29 cI g0 o31_0, cX8_30 cI g0 o31_0, cX8_31 cI g0 o31_0, cX8_32 cI g0 o31_0, cX8_33 cI g0 o31_0]) H → va_D A ([cX8 a0 g0 o31_0, cX8_0 cI g0 o31_0, cX8_1 cI g0 o31_0, cX8_3 cI g0 o31_0, cX8_4 cI g0 o31_0, cX8_6 cI g0 o31_0, cX8_8 cI g0 o31_0, cX8_9 cI g0 o31_0, cX8_10 cI g0 o31_0, cX8_12 cI g0 o31_0, cX8_13 cI g0 o31_0, cX8_15 cI g0 o31_0, cX8_17 cI g0 o31_0, cX8_18 cI g0 o31_0, cX8_22 cB g0 o31_0, cX8_27 cI g0 o31_0, cX8_28 cI g0 o31_0, cX8_29 cI g0 o31_0, cX8_30 cI g0 o31_0, cX8_31 cI g0 o31_0, cX8_32 cI g0 o31_0, cX8_33 cI g0 o31_0]) → va_S A s.heap H locs → lv_has ls 2 [(0, .ref a0), (1, .int x31_1)] → W p l e (headSpec wsX8_clears rmX8_clears).room s m ([.ref a0] : List Value).toArray below meth c H locs 0 0 Q (F0 m 31 ls []) := by
    intro nn31
    induction nn31 with
    | zero => intro x31_1 o31_0 h; rw [f_X8_clears_31] at h; cases h
    | succ nn31 ih31 =>
      intro x31_1 o31_0 h H locs ls hP hD hS hl
      rw [f_X8_clears_31] at h
      refine lv_iload_n hx hb dX8_clears_31 rfl (lv_at hl 1 rfl) ?_
      refine lv_bipush (v := (8 : Int32)) hx hb dX8_clears_32 (by decide) ?_
      refine lv_icmp_ge (tgt := 50) hx hb dX8_clears_34 (by decide) (fun k3 => ?_) (fun k3 => ?_)
      · have h := ite_t k3 h
        refine lv_iconst (v := (0 : Int32)) hx hb dX8_clears_50 (by decide) ?_
        refine lv_istore_n (lv' := [(1, .int (0 : Int32)), (0, .ref a0)]) hx hb dX8_clears_51 rfl hl (by decide) rfl (fun ls hl => ?_)
        have lp52 : ∀ (nn52 : Nat) (x52_1 : Int32) (o52_0 : Ob), f_X8_clears_52 nn52 x52_1 o52_0 = some r → ∀ (H : Heap) (locs : List Loc) (ls : Array Slot), va_P (dC, dI) vwCl ([cX8 a0 g0 o52_0, cX8_0 cI g0 o52_0, cX8_1 cI g0 o52_0, cX8_3 cI g0 o52_0, cX8_4 cI g0 o52_0, cX8_6 cI g0 o52_0, cX8_8 cI g0 o52_0, cX8_9 cI g0 o52_0, cX8_10 cI g0 o52_0, cX8_12 cI g0 o52_0, cX8_13 cI g0 o52_0, cX8_15 cI g0 o52_0, cX8_17 cI g0 o52_0, cX8_18 cI g0 o52_0, cX8_22 cB g0 o52_0, cX8_27 cI g0 o52_0, cX8_28 cI g0 o52_0, cX8_29 cI g0 o52_0, cX8_30 cI g0 o52_0, cX8_31 cI g0 o52_0, cX8_32 cI g0 o52_0, cX8_33 cI g0 o52_0]) H → va_D A ([cX8 a0 g0 o52_0, cX8_0 cI g0 o52_0, cX8_1 cI g0 o52_0, cX8_3 cI g0 o52_0, cX8_4 cI g0 o52_0, cX8_6 cI g0 o52_0, cX8_8 cI g0 o52_0, cX8_9 cI g0 o52_0, cX8_10 cI g0 o52_0, cX8_12 cI g0 o52_0, cX8_13 cI g0 o52_0, cX8_15 cI g0 o52_0, cX8_17 cI g0 o52_0, cX8_18 cI g0 o52_0, cX8_22 cB g0 o52_0, cX8_27 cI g0 o52_0, cX8_28 cI g0 o52_0, cX8_29 cI g0 o52_0, cX8_30 cI g0 o52_0, cX8_31 cI g0 o52_0, cX8_32 cI g0 o52_0, cX8_33 cI g0 o52_0]) → va_S A s.heap H locs → lv_has ls 2 [(0, .ref a0), (1, .int x52_1)] → W p l e (headSpec wsX8_clears rmX8_clears).room s m ([.ref a0] : List Value).toArray below meth c H locs 0 0 Q (F0 m 52 ls []) := by
          intro nn52
          induction nn52 with
          | zero => intro x52_1 o52_0 h; rw [f_X8_clears_52] at h; cases h
          | succ nn52 ih52 =>
            intro x52_1 o52_0 h H locs ls hP hD hS hl
            rw [f_X8_clears_52] at h
            refine lv_iload_n hx hb dX8_clears_52 rfl (lv_at hl 1 rfl) ?_
            refine lv_bipush (v := (26 : Int32)) hx hb dX8_clears_53 (by decide) ?_
            refine lv_icmp_ge (tgt := 75) hx hb dX8_clears_55 (by decide) (fun k4 => ?_) (fun k4 => ?_)
            · have h := ite_t k4 h
              have h := Option.some.inj h
              subst h
              subst hQ
              exact W.vret hx hb hr (fun t ht hW => ⟨⟨rfl, by rw [ht]; exact hP, hD⟩, hS.F ht⟩) hS.2.2 dX8_clears_75
            · have h := ite_f k4 h
              refine lv_aload_n hx hb dX8_clears_58 rfl (lv_at hl 0 rfl) ?_
              refine va_get (D := (dC, dI)) (ci := 8) (v := .ref (g0 18)) (C := RX8) (T := TX8) (N := 36) hx hb hts hiX8 hown hKK.1 hP 0 rfl rfl 18 (by decide) (hts (.fieldLink RX8 46 "SlideLandModel" "slot" "[I") (List.mem_of_getElem? (i := 6) rfl)) (fun _ h9 => h9) rfl dX8_clears_59 ?_
              refine lv_sipush (v := (286 : Int32)) hx hb dX8_clears_62 (by decide) ?_
              refine lv_iload_n hx hb dX8_clears_65 rfl (lv_at hl 1 rfl) ?_
              refine lv_iadd hx hb dX8_clears_66 ?_
              refine lv_iconst (v := (0 : Int32)) hx hb dX8_clears_67 (by decide) ?_
              obtain ⟨k5, h⟩ := ite_n h
              obtain ⟨u6, hu6, h⟩ := bnd_e h
              refine k_iast (f := (o52_0.2 18)) hx hb hKK.1 hP hD hS 13 1 hu6 rfl rfl k5 dX8_clears_68 (fun H locs hP hD hS => ?_)
              have hP : va_P (dC, dI) vwCl ([cX8 a0 g0 (stR o52_0 18 u6), cX8_0 cI g0 (stR o52_0 18 u6), cX8_1 cI g0 (stR o52_0 18 u6), cX8_3 cI g0 (stR o52_0 18 u6), cX8_4 cI g0 (stR o52_0 18 u6), cX8_6 cI g0 (stR o52_0 18 u6), cX8_8 cI g0 (stR o52_0 18 u6), cX8_9 cI g0 (stR o52_0 18 u6), cX8_10 cI g0 (stR o52_0 18 u6), cX8_12 cI g0 (stR o52_0 18 u6), cX8_13 cI g0 (stR o52_0 18 u6), cX8_15 cI g0 (stR o52_0 18 u6), cX8_17 cI g0 (stR o52_0 18 u6), cX8_18 cI g0 (stR o52_0 18 u6), cX8_22 cB g0 (stR o52_0 18 u6), cX8_27 cI g0 (stR o52_0 18 u6), cX8_28 cI g0 (stR o52_0 18 u6), cX8_29 cI g0 (stR o52_0 18 u6), cX8_30 cI g0 (stR o52_0 18 u6), cX8_31 cI g0 (stR o52_0 18 u6), cX8_32 cI g0 (stR o52_0 18 u6), cX8_33 cI g0 (stR o52_0 18 u6)]) H := hP
              have hD : va_D A ([cX8 a0 g0 (stR o52_0 18 u6), cX8_0 cI g0 (stR o52_0 18 u6), cX8_1 cI g0 (stR o52_0 18 u6), cX8_3 cI g0 (stR o52_0 18 u6), cX8_4 cI g0 (stR o52_0 18 u6), cX8_6 cI g0 (stR o52_0 18 u6), cX8_8 cI g0 (stR o52_0 18 u6), cX8_9 cI g0 (stR o52_0 18 u6), cX8_10 cI g0 (stR o52_0 18 u6), cX8_12 cI g0 (stR o52_0 18 u6), cX8_13 cI g0 (stR o52_0 18 u6), cX8_15 cI g0 (stR o52_0 18 u6), cX8_17 cI g0 (stR o52_0 18 u6), cX8_18 cI g0 (stR o52_0 18 u6), cX8_22 cB g0 (stR o52_0 18 u6), cX8_27 cI g0 (stR o52_0 18 u6), cX8_28 cI g0 (stR o52_0 18 u6), cX8_29 cI g0 (stR o52_0 18 u6), cX8_30 cI g0 (stR o52_0 18 u6), cX8_31 cI g0 (stR o52_0 18 u6), cX8_32 cI g0 (stR o52_0 18 u6), cX8_33 cI g0 (stR o52_0 18 u6)]) := hD
              obtain ⟨x7, hx7, h⟩ := bnd_e h
              refine lv_iinc (v := x7) (lv' := [(1, .int x7), (0, .ref a0)]) hx hb dX8_clears_69 hl (k := 1) rfl (by rw [← hx7]; rfl) (by decide) rfl (fun ls hl => ?_)
              refine lv_goto (tgt := 52) hx hb dX8_clears_72 (by decide) ?_
              exact ih52 x7 (stR o52_0 18 u6) h _ _ _ hP hD hS (lv_sub hl [1, 0] rfl)
        exact lp52 FU (0 : Int32) o31_0 h _ _ _ hP hD hS (lv_sub hl [1, 0] rfl)
      · have h := ite_f k3 h
        refine lv_aload_n hx hb dX8_clears_37 rfl (lv_at hl 0 rfl) ?_
        refine va_get (D := (dC, dI)) (ci := 8) (v := .ref (g0 17)) (C := RX8) (T := TX8) (N := 36) hx hb hts hiX8 hown hKK.1 hP 0 rfl rfl 17 (by decide) (hts (.fieldLink RX8 43 "SlideLandModel" "newWet" "[I") (List.mem_of_getElem? (i := 5) rfl)) (fun _ h9 => h9) rfl dX8_clears_38 ?_
        refine lv_iload_n hx hb dX8_clears_41 rfl (lv_at hl 1 rfl) ?_
        refine lv_iconst (v := (0 : Int32)) hx hb dX8_clears_42 (by decide) ?_
        obtain ⟨k8, h⟩ := ite_n h
        obtain ⟨u9, hu9, h⟩ := bnd_e h
        refine k_iast (f := (o31_0.2 17)) hx hb hKK.1 hP hD hS 12 1 hu9 rfl rfl k8 dX8_clears_43 (fun H locs hP hD hS => ?_)
        have hP : va_P (dC, dI) vwCl ([cX8 a0 g0 (stR o31_0 17 u9), cX8_0 cI g0 (stR o31_0 17 u9), cX8_1 cI g0 (stR o31_0 17 u9), cX8_3 cI g0 (stR o31_0 17 u9), cX8_4 cI g0 (stR o31_0 17 u9), cX8_6 cI g0 (stR o31_0 17 u9), cX8_8 cI g0 (stR o31_0 17 u9), cX8_9 cI g0 (stR o31_0 17 u9), cX8_10 cI g0 (stR o31_0 17 u9), cX8_12 cI g0 (stR o31_0 17 u9), cX8_13 cI g0 (stR o31_0 17 u9), cX8_15 cI g0 (stR o31_0 17 u9), cX8_17 cI g0 (stR o31_0 17 u9), cX8_18 cI g0 (stR o31_0 17 u9), cX8_22 cB g0 (stR o31_0 17 u9), cX8_27 cI g0 (stR o31_0 17 u9), cX8_28 cI g0 (stR o31_0 17 u9), cX8_29 cI g0 (stR o31_0 17 u9), cX8_30 cI g0 (stR o31_0 17 u9), cX8_31 cI g0 (stR o31_0 17 u9), cX8_32 cI g0 (stR o31_0 17 u9), cX8_33 cI g0 (stR o31_0 17 u9)]) H := hP
        have hD : va_D A ([cX8 a0 g0 (stR o31_0 17 u9), cX8_0 cI g0 (stR o31_0 17 u9), cX8_1 cI g0 (stR o31_0 17 u9), cX8_3 cI g0 (stR o31_0 17 u9), cX8_4 cI g0 (stR o31_0 17 u9), cX8_6 cI g0 (stR o31_0 17 u9), cX8_8 cI g0 (stR o31_0 17 u9), cX8_9 cI g0 (stR o31_0 17 u9), cX8_10 cI g0 (stR o31_0 17 u9), cX8_12 cI g0 (stR o31_0 17 u9), cX8_13 cI g0 (stR o31_0 17 u9), cX8_15 cI g0 (stR o31_0 17 u9), cX8_17 cI g0 (stR o31_0 17 u9), cX8_18 cI g0 (stR o31_0 17 u9), cX8_22 cB g0 (stR o31_0 17 u9), cX8_27 cI g0 (stR o31_0 17 u9), cX8_28 cI g0 (stR o31_0 17 u9), cX8_29 cI g0 (stR o31_0 17 u9), cX8_30 cI g0 (stR o31_0 17 u9), cX8_31 cI g0 (stR o31_0 17 u9), cX8_32 cI g0 (stR o31_0 17 u9), cX8_33 cI g0 (stR o31_0 17 u9)]) := hD
        obtain ⟨x10, hx10, h⟩ := bnd_e h
        refine lv_iinc (v := x10) (lv' := [(1, .int x10), (0, .ref a0)]) hx hb dX8_clears_44 hl (k := 1) rfl (by rw [← hx10]; rfl) (by decide) rfl (fun ls hl => ?_)
        refine lv_goto (tgt := 31) hx hb dX8_clears_47 (by decide) ?_
        exact ih31 x10 (stR o31_0 17 u9) h _ _ _ hP hD hS (lv_sub hl [1, 0] rfl)
  exact lp31 FU (0 : Int32) (stR (stF (stF (stF o0 11 (0 : Int32)) 14 (0 : Int32)) 16 (0 : Int32)) 9 u2) h _ _ _ hP hD hS (lv_sub hl [1, 0] rfl)
def f_X8_sits (o0 : Ob) (v1 : Int32) (v2 : Int32) : Option (Ob) := if v1 < 0 ∨ 2 ≤ v1.toNatClampNeg then none else if (((6 : Int32) * v1) + ((o0.2 9) v1.toNatClampNeg)) < 0 ∨ 12 ≤ (((6 : Int32) * v1) + ((o0.2 9) v1.toNatClampNeg)).toNatClampNeg then none else bnd (upd (o0.2 10) (((6 : Int32) * v1) + ((o0.2 9) v1.toNatClampNeg)).toNatClampNeg v2) fun u3 : Nat → Int32 => if v1 < 0 ∨ 2 ≤ v1.toNatClampNeg then none else if v1 < 0 ∨ 2 ≤ v1.toNatClampNeg then none else bnd (upd (o0.2 9) v1.toNatClampNeg (((o0.2 9) v1.toNatClampNeg) + (1 : Int32))) fun u6 : Nat → Int32 => some (stR (stR o0 9 u6) 10 u3)
abbrev rmX8_sits : Room := { frames := 0, cells := 0, slots := 0, locals := 0 }
theorem dsc_X8_sits : yX8_sits.cls ≠ "java/lang/invoke/MethodHandle" ∧ yX8_sits.cls ≠ "java/lang/invoke/VarHandle" ∧ (parseMethodDescriptor yX8_sits.desc).map (fun d => d.parameters.length) = some 2 := by decide +kernel
set_option maxHeartbeats 4000000 in
set_option maxRecDepth 100000 in
theorem c_X8_sits (l : Launch) (dC : Nat → ClassId) (dI : Nat → Nat → Nat) (cB cI cZ cO : ClassId) (a0 : Nat) (g0 : Nat → Nat) (o0 : Ob) (v1 : Int32) (v2 : Int32) {r : Ob} (h : f_X8_sits o0 v1 v2 = some r) : Ct dC dI cB cI cZ cO l yX8_sits wsX8_sits rmX8_sits [.ref a0, .int v1, .int v2] ([cX8 a0 g0 o0, cX8_0 cI g0 o0, cX8_1 cI g0 o0, cX8_3 cI g0 o0, cX8_4 cI g0 o0, cX8_6 cI g0 o0, cX8_8 cI g0 o0, cX8_9 cI g0 o0, cX8_10 cI g0 o0, cX8_12 cI g0 o0, cX8_13 cI g0 o0, cX8_15 cI g0 o0, cX8_17 cI g0 o0, cX8_18 cI g0 o0, cX8_22 cB g0 o0, cX8_27 cI g0 o0, cX8_28 cI g0 o0, cX8_29 cI g0 o0, cX8_30 cI g0 o0, cX8_31 cI g0 o0, cX8_32 cI g0 o0, cX8_33 cI g0 o0]) none ([cX8 a0 g0 r, cX8_0 cI g0 r, cX8_1 cI g0 r, cX8_3 cI g0 r, cX8_4 cI g0 r, cX8_6 cI g0 r, cX8_8 cI g0 r, cX8_9 cI g0 r, cX8_10 cI g0 r, cX8_12 cI g0 r, cX8_13 cI g0 r, cX8_15 cI g0 r, cX8_17 cI g0 r, cX8_18 cI g0 r, cX8_22 cB g0 r, cX8_27 cI g0 r, cX8_28 cI g0 r, cX8_29 cI g0 r, cX8_30 cI g0 r, cX8_31 cI g0 r, cX8_32 cI g0 r, cX8_33 cI g0 r]) := by
  intro sz
  refine Met.ofW (cc := cX8_sits) (maxL := 3) (ret := none) (by decide) rfl ?_
  intro p e s m args below meth c s₁ B hml hv
  obtain ⟨rfl, hsz, hP, hKK, hD0⟩ := hv
  have hx := B.exec
  have hb := B.bytes
  have hr := B.returns
  have hts := atoms_spec (ws := wsX8_sits) B.pre
  have hown : s.vm.findClass RX8 = some m.cls := findClass_of_methodNamed B.named
  have hlocks := B.notSynchronized
  have hiX8 : ∀ w ∈ u_ws RX8 TX8 36, w ∈ wsX8_sits := fun w h => List.mem_cons_of_mem _ (List.mem_append_right _ h)
  subst hsz
  have hD := hD0.self (sz := s.heap.size)
  generalize hAe : va_A ([cX8 a0 g0 o0, cX8_0 cI g0 o0, cX8_1 cI g0 o0, cX8_3 cI g0 o0, cX8_4 cI g0 o0, cX8_6 cI g0 o0, cX8_8 cI g0 o0, cX8_9 cI g0 o0, cX8_10 cI g0 o0, cX8_12 cI g0 o0, cX8_13 cI g0 o0, cX8_15 cI g0 o0, cX8_17 cI g0 o0, cX8_18 cI g0 o0, cX8_22 cB g0 o0, cX8_27 cI g0 o0, cX8_28 cI g0 o0, cX8_29 cI g0 o0, cX8_30 cI g0 o0, cX8_31 cI g0 o0, cX8_32 cI g0 o0, cX8_33 cI g0 o0]) s.heap.size = A at hD ⊢
  have hA : ∀ q : Nat, s.heap.size ≤ q → A q := fun q h => by rw [← hAe]; exact Or.inr h
  have hS : va_S A s.heap s.heap [] := va_S.rf
  have hP : va_P (dC, dI) vwCl ([cX8 a0 g0 o0, cX8_0 cI g0 o0, cX8_1 cI g0 o0, cX8_3 cI g0 o0, cX8_4 cI g0 o0, cX8_6 cI g0 o0, cX8_8 cI g0 o0, cX8_9 cI g0 o0, cX8_10 cI g0 o0, cX8_12 cI g0 o0, cX8_13 cI g0 o0, cX8_15 cI g0 o0, cX8_17 cI g0 o0, cX8_18 cI g0 o0, cX8_22 cB g0 o0, cX8_27 cI g0 o0, cX8_28 cI g0 o0, cX8_29 cI g0 o0, cX8_30 cI g0 o0, cX8_31 cI g0 o0, cX8_32 cI g0 o0, cX8_33 cI g0 o0]) s.heap := hP
  have hD : va_D A ([cX8 a0 g0 o0, cX8_0 cI g0 o0, cX8_1 cI g0 o0, cX8_3 cI g0 o0, cX8_4 cI g0 o0, cX8_6 cI g0 o0, cX8_8 cI g0 o0, cX8_9 cI g0 o0, cX8_10 cI g0 o0, cX8_12 cI g0 o0, cX8_13 cI g0 o0, cX8_15 cI g0 o0, cX8_17 cI g0 o0, cX8_18 cI g0 o0, cX8_22 cB g0 o0, cX8_27 cI g0 o0, cX8_28 cI g0 o0, cX8_29 cI g0 o0, cX8_30 cI g0 o0, cX8_31 cI g0 o0, cX8_32 cI g0 o0, cX8_33 cI g0 o0]) := hD
  have hl := lv_entry ([.ref a0, .int v1, .int v2]) (n := 3) (Nat.le_of_ble_eq_true rfl)
  rw [lg_entry_eq]
  generalize (lg_sl ([.ref a0, .int v1, .int v2]) ++ List.replicate (3 - (lg_sl ([.ref a0, .int v1, .int v2])).length) Slot.unset).toArray = ls at hl ⊢
  have hl : lv_has ls 3 [(0, .ref a0), (1, .int v1), (2, .int v2)] := hl
  obtain ⟨Q, hQ⟩ : ∃ Q, Q = MQ below (Qq dC dI none ([cX8 a0 g0 r, cX8_0 cI g0 r, cX8_1 cI g0 r, cX8_3 cI g0 r, cX8_4 cI g0 r, cX8_6 cI g0 r, cX8_8 cI g0 r, cX8_9 cI g0 r, cX8_10 cI g0 r, cX8_12 cI g0 r, cX8_13 cI g0 r, cX8_15 cI g0 r, cX8_17 cI g0 r, cX8_18 cI g0 r, cX8_22 cB g0 r, cX8_27 cI g0 r, cX8_28 cI g0 r, cX8_29 cI g0 r, cX8_30 cI g0 r, cX8_31 cI g0 r, cX8_32 cI g0 r, cX8_33 cI g0 r]) A) ([.ref a0, .int v1, .int v2] : List Value).toArray s 0 0 A := ⟨_, rfl⟩
  rw [← hQ]
  rw [f_X8_sits] at h
  clear hAe hD0
  refine lv_aload_n hx hb dX8_sits_0 rfl (lv_at hl 0 rfl) ?_
  refine va_get (D := (dC, dI)) (ci := 8) (v := .ref (g0 10)) (C := RX8) (T := TX8) (N := 36) hx hb hts hiX8 hown hKK.1 hP 0 rfl rfl 10 (by decide) (hts (.fieldLink RX8 31 "SlideLandModel" "newInch" "[I") (List.mem_of_getElem? (i := 1) rfl)) (fun _ h9 => h9) rfl dX8_sits_1 ?_
  refine lv_bipush (v := (6 : Int32)) hx hb dX8_sits_4 (by decide) ?_
  refine lv_iload_n hx hb dX8_sits_6 rfl (lv_at hl 1 rfl) ?_
  refine lv_imul hx hb dX8_sits_7 ?_
  refine lv_aload_n hx hb dX8_sits_8 rfl (lv_at hl 0 rfl) ?_
  refine va_get (D := (dC, dI)) (ci := 8) (v := .ref (g0 9)) (C := RX8) (T := TX8) (N := 36) hx hb hts hiX8 hown hKK.1 hP 0 rfl rfl 9 (by decide) (hts (.fieldLink RX8 28 "SlideLandModel" "newMany" "[I") (List.mem_of_getElem? (i := 2) rfl)) (fun _ h9 => h9) rfl dX8_sits_9 ?_
  refine lv_iload_n hx hb dX8_sits_12 rfl (lv_at hl 1 rfl) ?_
  obtain ⟨k1, h⟩ := ite_n h
  refine va_iald hx hb hKK.1 hP 7 1 rfl rfl k1 dX8_sits_13 ?_
  refine lv_iadd hx hb dX8_sits_14 ?_
  refine lv_iload_n hx hb dX8_sits_15 rfl (lv_at hl 2 rfl) ?_
  obtain ⟨k2, h⟩ := ite_n h
  obtain ⟨u3, hu3, h⟩ := bnd_e h
  refine k_iast (f := (o0.2 10)) hx hb hKK.1 hP hD hS 8 1 hu3 rfl rfl k2 dX8_sits_16 (fun H locs hP hD hS => ?_)
  have hP : va_P (dC, dI) vwCl ([cX8 a0 g0 (stR o0 10 u3), cX8_0 cI g0 (stR o0 10 u3), cX8_1 cI g0 (stR o0 10 u3), cX8_3 cI g0 (stR o0 10 u3), cX8_4 cI g0 (stR o0 10 u3), cX8_6 cI g0 (stR o0 10 u3), cX8_8 cI g0 (stR o0 10 u3), cX8_9 cI g0 (stR o0 10 u3), cX8_10 cI g0 (stR o0 10 u3), cX8_12 cI g0 (stR o0 10 u3), cX8_13 cI g0 (stR o0 10 u3), cX8_15 cI g0 (stR o0 10 u3), cX8_17 cI g0 (stR o0 10 u3), cX8_18 cI g0 (stR o0 10 u3), cX8_22 cB g0 (stR o0 10 u3), cX8_27 cI g0 (stR o0 10 u3), cX8_28 cI g0 (stR o0 10 u3), cX8_29 cI g0 (stR o0 10 u3), cX8_30 cI g0 (stR o0 10 u3), cX8_31 cI g0 (stR o0 10 u3), cX8_32 cI g0 (stR o0 10 u3), cX8_33 cI g0 (stR o0 10 u3)]) H := hP
  have hD : va_D A ([cX8 a0 g0 (stR o0 10 u3), cX8_0 cI g0 (stR o0 10 u3), cX8_1 cI g0 (stR o0 10 u3), cX8_3 cI g0 (stR o0 10 u3), cX8_4 cI g0 (stR o0 10 u3), cX8_6 cI g0 (stR o0 10 u3), cX8_8 cI g0 (stR o0 10 u3), cX8_9 cI g0 (stR o0 10 u3), cX8_10 cI g0 (stR o0 10 u3), cX8_12 cI g0 (stR o0 10 u3), cX8_13 cI g0 (stR o0 10 u3), cX8_15 cI g0 (stR o0 10 u3), cX8_17 cI g0 (stR o0 10 u3), cX8_18 cI g0 (stR o0 10 u3), cX8_22 cB g0 (stR o0 10 u3), cX8_27 cI g0 (stR o0 10 u3), cX8_28 cI g0 (stR o0 10 u3), cX8_29 cI g0 (stR o0 10 u3), cX8_30 cI g0 (stR o0 10 u3), cX8_31 cI g0 (stR o0 10 u3), cX8_32 cI g0 (stR o0 10 u3), cX8_33 cI g0 (stR o0 10 u3)]) := hD
  refine lv_aload_n hx hb dX8_sits_17 rfl (lv_at hl 0 rfl) ?_
  refine va_get (D := (dC, dI)) (ci := 8) (v := .ref (g0 9)) (C := RX8) (T := TX8) (N := 36) hx hb hts hiX8 hown hKK.1 hP 0 rfl rfl 9 (by decide) (hts (.fieldLink RX8 28 "SlideLandModel" "newMany" "[I") (List.mem_of_getElem? (i := 2) rfl)) (fun _ h9 => h9) rfl dX8_sits_18 ?_
  refine lv_iload_n hx hb dX8_sits_21 rfl (lv_at hl 1 rfl) ?_
  refine lv_dup2_11 hx hb dX8_sits_22 rfl rfl ?_
  obtain ⟨k4, h⟩ := ite_n h
  refine va_iald hx hb hKK.1 hP 7 1 rfl rfl k4 dX8_sits_23 ?_
  refine lv_iconst (v := (1 : Int32)) hx hb dX8_sits_24 (by decide) ?_
  refine lv_iadd hx hb dX8_sits_25 ?_
  obtain ⟨k5, h⟩ := ite_n h
  obtain ⟨u6, hu6, h⟩ := bnd_e h
  refine k_iast (f := (o0.2 9)) hx hb hKK.1 hP hD hS 7 1 hu6 rfl rfl k5 dX8_sits_26 (fun H locs hP hD hS => ?_)
  have hP : va_P (dC, dI) vwCl ([cX8 a0 g0 (stR (stR o0 9 u6) 10 u3), cX8_0 cI g0 (stR (stR o0 9 u6) 10 u3), cX8_1 cI g0 (stR (stR o0 9 u6) 10 u3), cX8_3 cI g0 (stR (stR o0 9 u6) 10 u3), cX8_4 cI g0 (stR (stR o0 9 u6) 10 u3), cX8_6 cI g0 (stR (stR o0 9 u6) 10 u3), cX8_8 cI g0 (stR (stR o0 9 u6) 10 u3), cX8_9 cI g0 (stR (stR o0 9 u6) 10 u3), cX8_10 cI g0 (stR (stR o0 9 u6) 10 u3), cX8_12 cI g0 (stR (stR o0 9 u6) 10 u3), cX8_13 cI g0 (stR (stR o0 9 u6) 10 u3), cX8_15 cI g0 (stR (stR o0 9 u6) 10 u3), cX8_17 cI g0 (stR (stR o0 9 u6) 10 u3), cX8_18 cI g0 (stR (stR o0 9 u6) 10 u3), cX8_22 cB g0 (stR (stR o0 9 u6) 10 u3), cX8_27 cI g0 (stR (stR o0 9 u6) 10 u3), cX8_28 cI g0 (stR (stR o0 9 u6) 10 u3), cX8_29 cI g0 (stR (stR o0 9 u6) 10 u3), cX8_30 cI g0 (stR (stR o0 9 u6) 10 u3), cX8_31 cI g0 (stR (stR o0 9 u6) 10 u3), cX8_32 cI g0 (stR (stR o0 9 u6) 10 u3), cX8_33 cI g0 (stR (stR o0 9 u6) 10 u3)]) H := hP
  have hD : va_D A ([cX8 a0 g0 (stR (stR o0 9 u6) 10 u3), cX8_0 cI g0 (stR (stR o0 9 u6) 10 u3), cX8_1 cI g0 (stR (stR o0 9 u6) 10 u3), cX8_3 cI g0 (stR (stR o0 9 u6) 10 u3), cX8_4 cI g0 (stR (stR o0 9 u6) 10 u3), cX8_6 cI g0 (stR (stR o0 9 u6) 10 u3), cX8_8 cI g0 (stR (stR o0 9 u6) 10 u3), cX8_9 cI g0 (stR (stR o0 9 u6) 10 u3), cX8_10 cI g0 (stR (stR o0 9 u6) 10 u3), cX8_12 cI g0 (stR (stR o0 9 u6) 10 u3), cX8_13 cI g0 (stR (stR o0 9 u6) 10 u3), cX8_15 cI g0 (stR (stR o0 9 u6) 10 u3), cX8_17 cI g0 (stR (stR o0 9 u6) 10 u3), cX8_18 cI g0 (stR (stR o0 9 u6) 10 u3), cX8_22 cB g0 (stR (stR o0 9 u6) 10 u3), cX8_27 cI g0 (stR (stR o0 9 u6) 10 u3), cX8_28 cI g0 (stR (stR o0 9 u6) 10 u3), cX8_29 cI g0 (stR (stR o0 9 u6) 10 u3), cX8_30 cI g0 (stR (stR o0 9 u6) 10 u3), cX8_31 cI g0 (stR (stR o0 9 u6) 10 u3), cX8_32 cI g0 (stR (stR o0 9 u6) 10 u3), cX8_33 cI g0 (stR (stR o0 9 u6) 10 u3)]) := hD
  have h := Option.some.inj h
  subst h
  subst hQ
  exact W.vret hx hb hr (fun t ht hW => ⟨⟨rfl, by rw [ht]; exact hP, hD⟩, hS.F ht⟩) hS.2.2 dX8_sits_27
def f_X8_lives (o0 : Ob) (v1 : Int32) (v2 : Int32) (v3 : Int32) : Option (Ob) := if (o0.1 11) < 0 ∨ 7 ≤ (o0.1 11).toNatClampNeg then none else bnd (upd (o0.2 12) (o0.1 11).toNatClampNeg v1) fun u2 : Nat → Int32 => if (o0.1 11) < 0 ∨ 7 ≤ (o0.1 11).toNatClampNeg then none else bnd (upd (o0.2 13) (o0.1 11).toNatClampNeg v2) fun u4 : Nat → Int32 => if ((290 : Int32) + (o0.1 11)) < 0 ∨ 312 ≤ ((290 : Int32) + (o0.1 11)).toNatClampNeg then none else bnd (upd (o0.2 18) ((290 : Int32) + (o0.1 11)).toNatClampNeg v3) fun u6 : Nat → Int32 => bnd ((o0.1 11) + (1 : Int32)) fun x7 : Int32 => some (stR (stR (stR (stF o0 11 x7) 12 u2) 13 u4) 18 u6)
abbrev rmX8_lives : Room := { frames := 0, cells := 0, slots := 0, locals := 0 }
theorem dsc_X8_lives : yX8_lives.cls ≠ "java/lang/invoke/MethodHandle" ∧ yX8_lives.cls ≠ "java/lang/invoke/VarHandle" ∧ (parseMethodDescriptor yX8_lives.desc).map (fun d => d.parameters.length) = some 3 := by decide +kernel
set_option maxHeartbeats 4000000 in
set_option maxRecDepth 100000 in
theorem c_X8_lives (l : Launch) (dC : Nat → ClassId) (dI : Nat → Nat → Nat) (cB cI cZ cO : ClassId) (a0 : Nat) (g0 : Nat → Nat) (o0 : Ob) (v1 : Int32) (v2 : Int32) (v3 : Int32) {r : Ob} (h : f_X8_lives o0 v1 v2 v3 = some r) : Ct dC dI cB cI cZ cO l yX8_lives wsX8_lives rmX8_lives [.ref a0, .int v1, .int v2, .int v3] ([cX8 a0 g0 o0, cX8_0 cI g0 o0, cX8_1 cI g0 o0, cX8_3 cI g0 o0, cX8_4 cI g0 o0, cX8_6 cI g0 o0, cX8_8 cI g0 o0, cX8_9 cI g0 o0, cX8_10 cI g0 o0, cX8_12 cI g0 o0, cX8_13 cI g0 o0, cX8_15 cI g0 o0, cX8_17 cI g0 o0, cX8_18 cI g0 o0, cX8_22 cB g0 o0, cX8_27 cI g0 o0, cX8_28 cI g0 o0, cX8_29 cI g0 o0, cX8_30 cI g0 o0, cX8_31 cI g0 o0, cX8_32 cI g0 o0, cX8_33 cI g0 o0]) none ([cX8 a0 g0 r, cX8_0 cI g0 r, cX8_1 cI g0 r, cX8_3 cI g0 r, cX8_4 cI g0 r, cX8_6 cI g0 r, cX8_8 cI g0 r, cX8_9 cI g0 r, cX8_10 cI g0 r, cX8_12 cI g0 r, cX8_13 cI g0 r, cX8_15 cI g0 r, cX8_17 cI g0 r, cX8_18 cI g0 r, cX8_22 cB g0 r, cX8_27 cI g0 r, cX8_28 cI g0 r, cX8_29 cI g0 r, cX8_30 cI g0 r, cX8_31 cI g0 r, cX8_32 cI g0 r, cX8_33 cI g0 r]) := by
  intro sz
  refine Met.ofW (cc := cX8_lives) (maxL := 4) (ret := none) (by decide) rfl ?_
  intro p e s m args below meth c s₁ B hml hv
  obtain ⟨rfl, hsz, hP, hKK, hD0⟩ := hv
  have hx := B.exec
  have hb := B.bytes
  have hr := B.returns
  have hts := atoms_spec (ws := wsX8_lives) B.pre
  have hown : s.vm.findClass RX8 = some m.cls := findClass_of_methodNamed B.named
  have hlocks := B.notSynchronized
  have hiX8 : ∀ w ∈ u_ws RX8 TX8 36, w ∈ wsX8_lives := fun w h => List.mem_cons_of_mem _ (List.mem_append_right _ h)
  subst hsz
  have hD := hD0.self (sz := s.heap.size)
  generalize hAe : va_A ([cX8 a0 g0 o0, cX8_0 cI g0 o0, cX8_1 cI g0 o0, cX8_3 cI g0 o0, cX8_4 cI g0 o0, cX8_6 cI g0 o0, cX8_8 cI g0 o0, cX8_9 cI g0 o0, cX8_10 cI g0 o0, cX8_12 cI g0 o0, cX8_13 cI g0 o0, cX8_15 cI g0 o0, cX8_17 cI g0 o0, cX8_18 cI g0 o0, cX8_22 cB g0 o0, cX8_27 cI g0 o0, cX8_28 cI g0 o0, cX8_29 cI g0 o0, cX8_30 cI g0 o0, cX8_31 cI g0 o0, cX8_32 cI g0 o0, cX8_33 cI g0 o0]) s.heap.size = A at hD ⊢
  have hA : ∀ q : Nat, s.heap.size ≤ q → A q := fun q h => by rw [← hAe]; exact Or.inr h
  have hS : va_S A s.heap s.heap [] := va_S.rf
  have hP : va_P (dC, dI) vwCl ([cX8 a0 g0 o0, cX8_0 cI g0 o0, cX8_1 cI g0 o0, cX8_3 cI g0 o0, cX8_4 cI g0 o0, cX8_6 cI g0 o0, cX8_8 cI g0 o0, cX8_9 cI g0 o0, cX8_10 cI g0 o0, cX8_12 cI g0 o0, cX8_13 cI g0 o0, cX8_15 cI g0 o0, cX8_17 cI g0 o0, cX8_18 cI g0 o0, cX8_22 cB g0 o0, cX8_27 cI g0 o0, cX8_28 cI g0 o0, cX8_29 cI g0 o0, cX8_30 cI g0 o0, cX8_31 cI g0 o0, cX8_32 cI g0 o0, cX8_33 cI g0 o0]) s.heap := hP
  have hD : va_D A ([cX8 a0 g0 o0, cX8_0 cI g0 o0, cX8_1 cI g0 o0, cX8_3 cI g0 o0, cX8_4 cI g0 o0, cX8_6 cI g0 o0, cX8_8 cI g0 o0, cX8_9 cI g0 o0, cX8_10 cI g0 o0, cX8_12 cI g0 o0, cX8_13 cI g0 o0, cX8_15 cI g0 o0, cX8_17 cI g0 o0, cX8_18 cI g0 o0, cX8_22 cB g0 o0, cX8_27 cI g0 o0, cX8_28 cI g0 o0, cX8_29 cI g0 o0, cX8_30 cI g0 o0, cX8_31 cI g0 o0, cX8_32 cI g0 o0, cX8_33 cI g0 o0]) := hD
  have hl := lv_entry ([.ref a0, .int v1, .int v2, .int v3]) (n := 4) (Nat.le_of_ble_eq_true rfl)
  rw [lg_entry_eq]
  generalize (lg_sl ([.ref a0, .int v1, .int v2, .int v3]) ++ List.replicate (4 - (lg_sl ([.ref a0, .int v1, .int v2, .int v3])).length) Slot.unset).toArray = ls at hl ⊢
  have hl : lv_has ls 4 [(0, .ref a0), (1, .int v1), (2, .int v2), (3, .int v3)] := hl
  obtain ⟨Q, hQ⟩ : ∃ Q, Q = MQ below (Qq dC dI none ([cX8 a0 g0 r, cX8_0 cI g0 r, cX8_1 cI g0 r, cX8_3 cI g0 r, cX8_4 cI g0 r, cX8_6 cI g0 r, cX8_8 cI g0 r, cX8_9 cI g0 r, cX8_10 cI g0 r, cX8_12 cI g0 r, cX8_13 cI g0 r, cX8_15 cI g0 r, cX8_17 cI g0 r, cX8_18 cI g0 r, cX8_22 cB g0 r, cX8_27 cI g0 r, cX8_28 cI g0 r, cX8_29 cI g0 r, cX8_30 cI g0 r, cX8_31 cI g0 r, cX8_32 cI g0 r, cX8_33 cI g0 r]) A) ([.ref a0, .int v1, .int v2, .int v3] : List Value).toArray s 0 0 A := ⟨_, rfl⟩
  rw [← hQ]
  rw [f_X8_lives] at h
  clear hAe hD0
  refine lv_aload_n hx hb dX8_lives_0 rfl (lv_at hl 0 rfl) ?_
  refine va_get (D := (dC, dI)) (ci := 8) (v := .ref (g0 12)) (C := RX8) (T := TX8) (N := 36) hx hb hts hiX8 hown hKK.1 hP 0 rfl rfl 12 (by decide) (hts (.fieldLink RX8 34 "SlideLandModel" "newSort" "[I") (List.mem_of_getElem? (i := 1) rfl)) (fun _ h9 => h9) rfl dX8_lives_1 ?_
  refine lv_aload_n hx hb dX8_lives_4 rfl (lv_at hl 0 rfl) ?_
  refine va_get (D := (dC, dI)) (ci := 8) (v := .int (o0.1 11)) (C := RX8) (T := TX8) (N := 36) hx hb hts hiX8 hown hKK.1 hP 0 rfl rfl 11 (by decide) (hts (.fieldLink RX8 95 "SlideLandModel" "newStrips" "I") (List.mem_of_getElem? (i := 2) rfl)) (fun _ h9 => h9) rfl dX8_lives_5 ?_
  refine lv_iload_n hx hb dX8_lives_8 rfl (lv_at hl 1 rfl) ?_
  obtain ⟨k1, h⟩ := ite_n h
  obtain ⟨u2, hu2, h⟩ := bnd_e h
  refine k_iast (f := (o0.2 12)) hx hb hKK.1 hP hD hS 9 1 hu2 rfl rfl k1 dX8_lives_9 (fun H locs hP hD hS => ?_)
  have hP : va_P (dC, dI) vwCl ([cX8 a0 g0 (stR o0 12 u2), cX8_0 cI g0 (stR o0 12 u2), cX8_1 cI g0 (stR o0 12 u2), cX8_3 cI g0 (stR o0 12 u2), cX8_4 cI g0 (stR o0 12 u2), cX8_6 cI g0 (stR o0 12 u2), cX8_8 cI g0 (stR o0 12 u2), cX8_9 cI g0 (stR o0 12 u2), cX8_10 cI g0 (stR o0 12 u2), cX8_12 cI g0 (stR o0 12 u2), cX8_13 cI g0 (stR o0 12 u2), cX8_15 cI g0 (stR o0 12 u2), cX8_17 cI g0 (stR o0 12 u2), cX8_18 cI g0 (stR o0 12 u2), cX8_22 cB g0 (stR o0 12 u2), cX8_27 cI g0 (stR o0 12 u2), cX8_28 cI g0 (stR o0 12 u2), cX8_29 cI g0 (stR o0 12 u2), cX8_30 cI g0 (stR o0 12 u2), cX8_31 cI g0 (stR o0 12 u2), cX8_32 cI g0 (stR o0 12 u2), cX8_33 cI g0 (stR o0 12 u2)]) H := hP
  have hD : va_D A ([cX8 a0 g0 (stR o0 12 u2), cX8_0 cI g0 (stR o0 12 u2), cX8_1 cI g0 (stR o0 12 u2), cX8_3 cI g0 (stR o0 12 u2), cX8_4 cI g0 (stR o0 12 u2), cX8_6 cI g0 (stR o0 12 u2), cX8_8 cI g0 (stR o0 12 u2), cX8_9 cI g0 (stR o0 12 u2), cX8_10 cI g0 (stR o0 12 u2), cX8_12 cI g0 (stR o0 12 u2), cX8_13 cI g0 (stR o0 12 u2), cX8_15 cI g0 (stR o0 12 u2), cX8_17 cI g0 (stR o0 12 u2), cX8_18 cI g0 (stR o0 12 u2), cX8_22 cB g0 (stR o0 12 u2), cX8_27 cI g0 (stR o0 12 u2), cX8_28 cI g0 (stR o0 12 u2), cX8_29 cI g0 (stR o0 12 u2), cX8_30 cI g0 (stR o0 12 u2), cX8_31 cI g0 (stR o0 12 u2), cX8_32 cI g0 (stR o0 12 u2), cX8_33 cI g0 (stR o0 12 u2)]) := hD
  refine lv_aload_n hx hb dX8_lives_10 rfl (lv_at hl 0 rfl) ?_
  refine va_get (D := (dC, dI)) (ci := 8) (v := .ref (g0 13)) (C := RX8) (T := TX8) (N := 36) hx hb hts hiX8 hown hKK.1 hP 0 rfl rfl 13 (by decide) (hts (.fieldLink RX8 37 "SlideLandModel" "newOwn" "[I") (List.mem_of_getElem? (i := 3) rfl)) (fun _ h9 => h9) rfl dX8_lives_11 ?_
  refine lv_aload_n hx hb dX8_lives_14 rfl (lv_at hl 0 rfl) ?_
  refine va_get (D := (dC, dI)) (ci := 8) (v := .int (o0.1 11)) (C := RX8) (T := TX8) (N := 36) hx hb hts hiX8 hown hKK.1 hP 0 rfl rfl 11 (by decide) (hts (.fieldLink RX8 95 "SlideLandModel" "newStrips" "I") (List.mem_of_getElem? (i := 2) rfl)) (fun _ h9 => h9) rfl dX8_lives_15 ?_
  refine lv_iload_n hx hb dX8_lives_18 rfl (lv_at hl 2 rfl) ?_
  obtain ⟨k3, h⟩ := ite_n h
  obtain ⟨u4, hu4, h⟩ := bnd_e h
  refine k_iast (f := (o0.2 13)) hx hb hKK.1 hP hD hS 10 1 hu4 rfl rfl k3 dX8_lives_19 (fun H locs hP hD hS => ?_)
  have hP : va_P (dC, dI) vwCl ([cX8 a0 g0 (stR (stR o0 12 u2) 13 u4), cX8_0 cI g0 (stR (stR o0 12 u2) 13 u4), cX8_1 cI g0 (stR (stR o0 12 u2) 13 u4), cX8_3 cI g0 (stR (stR o0 12 u2) 13 u4), cX8_4 cI g0 (stR (stR o0 12 u2) 13 u4), cX8_6 cI g0 (stR (stR o0 12 u2) 13 u4), cX8_8 cI g0 (stR (stR o0 12 u2) 13 u4), cX8_9 cI g0 (stR (stR o0 12 u2) 13 u4), cX8_10 cI g0 (stR (stR o0 12 u2) 13 u4), cX8_12 cI g0 (stR (stR o0 12 u2) 13 u4), cX8_13 cI g0 (stR (stR o0 12 u2) 13 u4), cX8_15 cI g0 (stR (stR o0 12 u2) 13 u4), cX8_17 cI g0 (stR (stR o0 12 u2) 13 u4), cX8_18 cI g0 (stR (stR o0 12 u2) 13 u4), cX8_22 cB g0 (stR (stR o0 12 u2) 13 u4), cX8_27 cI g0 (stR (stR o0 12 u2) 13 u4), cX8_28 cI g0 (stR (stR o0 12 u2) 13 u4), cX8_29 cI g0 (stR (stR o0 12 u2) 13 u4), cX8_30 cI g0 (stR (stR o0 12 u2) 13 u4), cX8_31 cI g0 (stR (stR o0 12 u2) 13 u4), cX8_32 cI g0 (stR (stR o0 12 u2) 13 u4), cX8_33 cI g0 (stR (stR o0 12 u2) 13 u4)]) H := hP
  have hD : va_D A ([cX8 a0 g0 (stR (stR o0 12 u2) 13 u4), cX8_0 cI g0 (stR (stR o0 12 u2) 13 u4), cX8_1 cI g0 (stR (stR o0 12 u2) 13 u4), cX8_3 cI g0 (stR (stR o0 12 u2) 13 u4), cX8_4 cI g0 (stR (stR o0 12 u2) 13 u4), cX8_6 cI g0 (stR (stR o0 12 u2) 13 u4), cX8_8 cI g0 (stR (stR o0 12 u2) 13 u4), cX8_9 cI g0 (stR (stR o0 12 u2) 13 u4), cX8_10 cI g0 (stR (stR o0 12 u2) 13 u4), cX8_12 cI g0 (stR (stR o0 12 u2) 13 u4), cX8_13 cI g0 (stR (stR o0 12 u2) 13 u4), cX8_15 cI g0 (stR (stR o0 12 u2) 13 u4), cX8_17 cI g0 (stR (stR o0 12 u2) 13 u4), cX8_18 cI g0 (stR (stR o0 12 u2) 13 u4), cX8_22 cB g0 (stR (stR o0 12 u2) 13 u4), cX8_27 cI g0 (stR (stR o0 12 u2) 13 u4), cX8_28 cI g0 (stR (stR o0 12 u2) 13 u4), cX8_29 cI g0 (stR (stR o0 12 u2) 13 u4), cX8_30 cI g0 (stR (stR o0 12 u2) 13 u4), cX8_31 cI g0 (stR (stR o0 12 u2) 13 u4), cX8_32 cI g0 (stR (stR o0 12 u2) 13 u4), cX8_33 cI g0 (stR (stR o0 12 u2) 13 u4)]) := hD
  refine lv_aload_n hx hb dX8_lives_20 rfl (lv_at hl 0 rfl) ?_
  refine va_get (D := (dC, dI)) (ci := 8) (v := .ref (g0 18)) (C := RX8) (T := TX8) (N := 36) hx hb hts hiX8 hown hKK.1 hP 0 rfl rfl 18 (by decide) (hts (.fieldLink RX8 46 "SlideLandModel" "slot" "[I") (List.mem_of_getElem? (i := 4) rfl)) (fun _ h9 => h9) rfl dX8_lives_21 ?_
  refine lv_sipush (v := (290 : Int32)) hx hb dX8_lives_24 (by decide) ?_
  refine lv_aload_n hx hb dX8_lives_27 rfl (lv_at hl 0 rfl) ?_
  refine va_get (D := (dC, dI)) (ci := 8) (v := .int (o0.1 11)) (C := RX8) (T := TX8) (N := 36) hx hb hts hiX8 hown hKK.1 hP 0 rfl rfl 11 (by decide) (hts (.fieldLink RX8 95 "SlideLandModel" "newStrips" "I") (List.mem_of_getElem? (i := 2) rfl)) (fun _ h9 => h9) rfl dX8_lives_28 ?_
  refine lv_iadd hx hb dX8_lives_31 ?_
  refine lv_iload_n hx hb dX8_lives_32 rfl (lv_at hl 3 rfl) ?_
  obtain ⟨k5, h⟩ := ite_n h
  obtain ⟨u6, hu6, h⟩ := bnd_e h
  refine k_iast (f := (o0.2 18)) hx hb hKK.1 hP hD hS 13 1 hu6 rfl rfl k5 dX8_lives_33 (fun H locs hP hD hS => ?_)
  have hP : va_P (dC, dI) vwCl ([cX8 a0 g0 (stR (stR (stR o0 12 u2) 13 u4) 18 u6), cX8_0 cI g0 (stR (stR (stR o0 12 u2) 13 u4) 18 u6), cX8_1 cI g0 (stR (stR (stR o0 12 u2) 13 u4) 18 u6), cX8_3 cI g0 (stR (stR (stR o0 12 u2) 13 u4) 18 u6), cX8_4 cI g0 (stR (stR (stR o0 12 u2) 13 u4) 18 u6), cX8_6 cI g0 (stR (stR (stR o0 12 u2) 13 u4) 18 u6), cX8_8 cI g0 (stR (stR (stR o0 12 u2) 13 u4) 18 u6), cX8_9 cI g0 (stR (stR (stR o0 12 u2) 13 u4) 18 u6), cX8_10 cI g0 (stR (stR (stR o0 12 u2) 13 u4) 18 u6), cX8_12 cI g0 (stR (stR (stR o0 12 u2) 13 u4) 18 u6), cX8_13 cI g0 (stR (stR (stR o0 12 u2) 13 u4) 18 u6), cX8_15 cI g0 (stR (stR (stR o0 12 u2) 13 u4) 18 u6), cX8_17 cI g0 (stR (stR (stR o0 12 u2) 13 u4) 18 u6), cX8_18 cI g0 (stR (stR (stR o0 12 u2) 13 u4) 18 u6), cX8_22 cB g0 (stR (stR (stR o0 12 u2) 13 u4) 18 u6), cX8_27 cI g0 (stR (stR (stR o0 12 u2) 13 u4) 18 u6), cX8_28 cI g0 (stR (stR (stR o0 12 u2) 13 u4) 18 u6), cX8_29 cI g0 (stR (stR (stR o0 12 u2) 13 u4) 18 u6), cX8_30 cI g0 (stR (stR (stR o0 12 u2) 13 u4) 18 u6), cX8_31 cI g0 (stR (stR (stR o0 12 u2) 13 u4) 18 u6), cX8_32 cI g0 (stR (stR (stR o0 12 u2) 13 u4) 18 u6), cX8_33 cI g0 (stR (stR (stR o0 12 u2) 13 u4) 18 u6)]) H := hP
  have hD : va_D A ([cX8 a0 g0 (stR (stR (stR o0 12 u2) 13 u4) 18 u6), cX8_0 cI g0 (stR (stR (stR o0 12 u2) 13 u4) 18 u6), cX8_1 cI g0 (stR (stR (stR o0 12 u2) 13 u4) 18 u6), cX8_3 cI g0 (stR (stR (stR o0 12 u2) 13 u4) 18 u6), cX8_4 cI g0 (stR (stR (stR o0 12 u2) 13 u4) 18 u6), cX8_6 cI g0 (stR (stR (stR o0 12 u2) 13 u4) 18 u6), cX8_8 cI g0 (stR (stR (stR o0 12 u2) 13 u4) 18 u6), cX8_9 cI g0 (stR (stR (stR o0 12 u2) 13 u4) 18 u6), cX8_10 cI g0 (stR (stR (stR o0 12 u2) 13 u4) 18 u6), cX8_12 cI g0 (stR (stR (stR o0 12 u2) 13 u4) 18 u6), cX8_13 cI g0 (stR (stR (stR o0 12 u2) 13 u4) 18 u6), cX8_15 cI g0 (stR (stR (stR o0 12 u2) 13 u4) 18 u6), cX8_17 cI g0 (stR (stR (stR o0 12 u2) 13 u4) 18 u6), cX8_18 cI g0 (stR (stR (stR o0 12 u2) 13 u4) 18 u6), cX8_22 cB g0 (stR (stR (stR o0 12 u2) 13 u4) 18 u6), cX8_27 cI g0 (stR (stR (stR o0 12 u2) 13 u4) 18 u6), cX8_28 cI g0 (stR (stR (stR o0 12 u2) 13 u4) 18 u6), cX8_29 cI g0 (stR (stR (stR o0 12 u2) 13 u4) 18 u6), cX8_30 cI g0 (stR (stR (stR o0 12 u2) 13 u4) 18 u6), cX8_31 cI g0 (stR (stR (stR o0 12 u2) 13 u4) 18 u6), cX8_32 cI g0 (stR (stR (stR o0 12 u2) 13 u4) 18 u6), cX8_33 cI g0 (stR (stR (stR o0 12 u2) 13 u4) 18 u6)]) := hD
  refine lv_aload_n hx hb dX8_lives_34 rfl (lv_at hl 0 rfl) ?_
  refine lv_dup hx hb dX8_lives_35 rfl ?_
  refine va_get (D := (dC, dI)) (ci := 8) (v := .int (o0.1 11)) (C := RX8) (T := TX8) (N := 36) hx hb hts hiX8 hown hKK.1 hP 0 rfl rfl 11 (by decide) (hts (.fieldLink RX8 95 "SlideLandModel" "newStrips" "I") (List.mem_of_getElem? (i := 2) rfl)) (fun _ h9 => h9) rfl dX8_lives_36 ?_
  refine lv_iconst (v := (1 : Int32)) hx hb dX8_lives_39 (by decide) ?_
  refine lv_iadd hx hb dX8_lives_40 ?_
  obtain ⟨x7, hx7, h⟩ := bnd_e h
  rw [hx7]
  refine va_put (D := (dC, dI)) (ci := 8) (v := .int x7) (ty := .int) (C := RX8) (T := TX8) (N := 36) hx hb hts hiX8 tyX8 tyX8_ok nmX8 hown hKK.1 hP hD hS 0 rfl rfl 11 (by decide) (hts (.fieldLink RX8 95 "SlideLandModel" "newStrips" "I") (List.mem_of_getElem? (i := 2) rfl)) (fun _ h9 => h9) rfl (by decide +kernel) rfl rfl (Nat.le_of_ble_eq_true rfl) dX8_lives_41 (fun H locs hP hD hS => ?_)
  have hP : va_P (dC, dI) vwCl ([cX8 a0 g0 (stR (stR (stR (stF o0 11 x7) 12 u2) 13 u4) 18 u6), cX8_0 cI g0 (stR (stR (stR (stF o0 11 x7) 12 u2) 13 u4) 18 u6), cX8_1 cI g0 (stR (stR (stR (stF o0 11 x7) 12 u2) 13 u4) 18 u6), cX8_3 cI g0 (stR (stR (stR (stF o0 11 x7) 12 u2) 13 u4) 18 u6), cX8_4 cI g0 (stR (stR (stR (stF o0 11 x7) 12 u2) 13 u4) 18 u6), cX8_6 cI g0 (stR (stR (stR (stF o0 11 x7) 12 u2) 13 u4) 18 u6), cX8_8 cI g0 (stR (stR (stR (stF o0 11 x7) 12 u2) 13 u4) 18 u6), cX8_9 cI g0 (stR (stR (stR (stF o0 11 x7) 12 u2) 13 u4) 18 u6), cX8_10 cI g0 (stR (stR (stR (stF o0 11 x7) 12 u2) 13 u4) 18 u6), cX8_12 cI g0 (stR (stR (stR (stF o0 11 x7) 12 u2) 13 u4) 18 u6), cX8_13 cI g0 (stR (stR (stR (stF o0 11 x7) 12 u2) 13 u4) 18 u6), cX8_15 cI g0 (stR (stR (stR (stF o0 11 x7) 12 u2) 13 u4) 18 u6), cX8_17 cI g0 (stR (stR (stR (stF o0 11 x7) 12 u2) 13 u4) 18 u6), cX8_18 cI g0 (stR (stR (stR (stF o0 11 x7) 12 u2) 13 u4) 18 u6), cX8_22 cB g0 (stR (stR (stR (stF o0 11 x7) 12 u2) 13 u4) 18 u6), cX8_27 cI g0 (stR (stR (stR (stF o0 11 x7) 12 u2) 13 u4) 18 u6), cX8_28 cI g0 (stR (stR (stR (stF o0 11 x7) 12 u2) 13 u4) 18 u6), cX8_29 cI g0 (stR (stR (stR (stF o0 11 x7) 12 u2) 13 u4) 18 u6), cX8_30 cI g0 (stR (stR (stR (stF o0 11 x7) 12 u2) 13 u4) 18 u6), cX8_31 cI g0 (stR (stR (stR (stF o0 11 x7) 12 u2) 13 u4) 18 u6), cX8_32 cI g0 (stR (stR (stR (stF o0 11 x7) 12 u2) 13 u4) 18 u6), cX8_33 cI g0 (stR (stR (stR (stF o0 11 x7) 12 u2) 13 u4) 18 u6)]) H := hP
  have hD : va_D A ([cX8 a0 g0 (stR (stR (stR (stF o0 11 x7) 12 u2) 13 u4) 18 u6), cX8_0 cI g0 (stR (stR (stR (stF o0 11 x7) 12 u2) 13 u4) 18 u6), cX8_1 cI g0 (stR (stR (stR (stF o0 11 x7) 12 u2) 13 u4) 18 u6), cX8_3 cI g0 (stR (stR (stR (stF o0 11 x7) 12 u2) 13 u4) 18 u6), cX8_4 cI g0 (stR (stR (stR (stF o0 11 x7) 12 u2) 13 u4) 18 u6), cX8_6 cI g0 (stR (stR (stR (stF o0 11 x7) 12 u2) 13 u4) 18 u6), cX8_8 cI g0 (stR (stR (stR (stF o0 11 x7) 12 u2) 13 u4) 18 u6), cX8_9 cI g0 (stR (stR (stR (stF o0 11 x7) 12 u2) 13 u4) 18 u6), cX8_10 cI g0 (stR (stR (stR (stF o0 11 x7) 12 u2) 13 u4) 18 u6), cX8_12 cI g0 (stR (stR (stR (stF o0 11 x7) 12 u2) 13 u4) 18 u6), cX8_13 cI g0 (stR (stR (stR (stF o0 11 x7) 12 u2) 13 u4) 18 u6), cX8_15 cI g0 (stR (stR (stR (stF o0 11 x7) 12 u2) 13 u4) 18 u6), cX8_17 cI g0 (stR (stR (stR (stF o0 11 x7) 12 u2) 13 u4) 18 u6), cX8_18 cI g0 (stR (stR (stR (stF o0 11 x7) 12 u2) 13 u4) 18 u6), cX8_22 cB g0 (stR (stR (stR (stF o0 11 x7) 12 u2) 13 u4) 18 u6), cX8_27 cI g0 (stR (stR (stR (stF o0 11 x7) 12 u2) 13 u4) 18 u6), cX8_28 cI g0 (stR (stR (stR (stF o0 11 x7) 12 u2) 13 u4) 18 u6), cX8_29 cI g0 (stR (stR (stR (stF o0 11 x7) 12 u2) 13 u4) 18 u6), cX8_30 cI g0 (stR (stR (stR (stF o0 11 x7) 12 u2) 13 u4) 18 u6), cX8_31 cI g0 (stR (stR (stR (stF o0 11 x7) 12 u2) 13 u4) 18 u6), cX8_32 cI g0 (stR (stR (stR (stF o0 11 x7) 12 u2) 13 u4) 18 u6), cX8_33 cI g0 (stR (stR (stR (stF o0 11 x7) 12 u2) 13 u4) 18 u6)]) := hD
  have h := Option.some.inj h
  subst h
  subst hQ
  exact W.vret hx hb hr (fun t ht hW => ⟨⟨rfl, by rw [ht]; exact hP, hD⟩, hS.F ht⟩) hS.2.2 dX8_lives_44
def f_X8_copies_2 (v1 : Int32) (v2 : Int32) : Nat → Int32 → Ob → Option (Ob)
  | 0, _, _ => none
  | nn2+1, x2_3, o2_0 => if (26 : Int32) ≤ x2_3 then (some o2_0) else (if (v1 + x2_3) < 0 ∨ 312 ≤ (v1 + x2_3).toNatClampNeg then none else if (v2 + x2_3) < 0 ∨ 312 ≤ (v2 + x2_3).toNatClampNeg then none else bnd (upd (o2_0.2 18) (v2 + x2_3).toNatClampNeg ((o2_0.2 18) (v1 + x2_3).toNatClampNeg)) fun u4 : Nat → Int32 => bnd (x2_3 + (1 : Int32)) fun x5 : Int32 => (f_X8_copies_2 v1 v2 nn2) x5 (stR o2_0 18 u4))
def f_X8_copies (o0 : Ob) (v1 : Int32) (v2 : Int32) : Option (Ob) := f_X8_copies_2 v1 v2 FU (0 : Int32) o0
abbrev rmX8_copies : Room := { frames := 0, cells := 0, slots := 0, locals := 0 }
theorem dsc_X8_copies : yX8_copies.cls ≠ "java/lang/invoke/MethodHandle" ∧ yX8_copies.cls ≠ "java/lang/invoke/VarHandle" ∧ (parseMethodDescriptor yX8_copies.desc).map (fun d => d.parameters.length) = some 2 := by decide +kernel
set_option maxHeartbeats 4000000 in
set_option maxRecDepth 100000 in
theorem c_X8_copies (l : Launch) (dC : Nat → ClassId) (dI : Nat → Nat → Nat) (cB cI cZ cO : ClassId) (a0 : Nat) (g0 : Nat → Nat) (o0 : Ob) (v1 : Int32) (v2 : Int32) {r : Ob} (h : f_X8_copies o0 v1 v2 = some r) : Ct dC dI cB cI cZ cO l yX8_copies wsX8_copies rmX8_copies [.ref a0, .int v1, .int v2] ([cX8 a0 g0 o0, cX8_0 cI g0 o0, cX8_1 cI g0 o0, cX8_3 cI g0 o0, cX8_4 cI g0 o0, cX8_6 cI g0 o0, cX8_8 cI g0 o0, cX8_9 cI g0 o0, cX8_10 cI g0 o0, cX8_12 cI g0 o0, cX8_13 cI g0 o0, cX8_15 cI g0 o0, cX8_17 cI g0 o0, cX8_18 cI g0 o0, cX8_22 cB g0 o0, cX8_27 cI g0 o0, cX8_28 cI g0 o0, cX8_29 cI g0 o0, cX8_30 cI g0 o0, cX8_31 cI g0 o0, cX8_32 cI g0 o0, cX8_33 cI g0 o0]) none ([cX8 a0 g0 r, cX8_0 cI g0 r, cX8_1 cI g0 r, cX8_3 cI g0 r, cX8_4 cI g0 r, cX8_6 cI g0 r, cX8_8 cI g0 r, cX8_9 cI g0 r, cX8_10 cI g0 r, cX8_12 cI g0 r, cX8_13 cI g0 r, cX8_15 cI g0 r, cX8_17 cI g0 r, cX8_18 cI g0 r, cX8_22 cB g0 r, cX8_27 cI g0 r, cX8_28 cI g0 r, cX8_29 cI g0 r, cX8_30 cI g0 r, cX8_31 cI g0 r, cX8_32 cI g0 r, cX8_33 cI g0 r]) := by
  intro sz
  refine Met.ofW (cc := cX8_copies) (maxL := 4) (ret := none) (by decide) rfl ?_
  intro p e s m args below meth c s₁ B hml hv
  obtain ⟨rfl, hsz, hP, hKK, hD0⟩ := hv
  have hx := B.exec
  have hb := B.bytes
  have hr := B.returns
  have hts := atoms_spec (ws := wsX8_copies) B.pre
  have hown : s.vm.findClass RX8 = some m.cls := findClass_of_methodNamed B.named
  have hlocks := B.notSynchronized
  have hiX8 : ∀ w ∈ u_ws RX8 TX8 36, w ∈ wsX8_copies := fun w h => List.mem_cons_of_mem _ (List.mem_append_right _ h)
  subst hsz
  have hD := hD0.self (sz := s.heap.size)
  generalize hAe : va_A ([cX8 a0 g0 o0, cX8_0 cI g0 o0, cX8_1 cI g0 o0, cX8_3 cI g0 o0, cX8_4 cI g0 o0, cX8_6 cI g0 o0, cX8_8 cI g0 o0, cX8_9 cI g0 o0, cX8_10 cI g0 o0, cX8_12 cI g0 o0, cX8_13 cI g0 o0, cX8_15 cI g0 o0, cX8_17 cI g0 o0, cX8_18 cI g0 o0, cX8_22 cB g0 o0, cX8_27 cI g0 o0, cX8_28 cI g0 o0, cX8_29 cI g0 o0, cX8_30 cI g0 o0, cX8_31 cI g0 o0, cX8_32 cI g0 o0, cX8_33 cI g0 o0]) s.heap.size = A at hD ⊢
  have hA : ∀ q : Nat, s.heap.size ≤ q → A q := fun q h => by rw [← hAe]; exact Or.inr h
  have hS : va_S A s.heap s.heap [] := va_S.rf
  have hP : va_P (dC, dI) vwCl ([cX8 a0 g0 o0, cX8_0 cI g0 o0, cX8_1 cI g0 o0, cX8_3 cI g0 o0, cX8_4 cI g0 o0, cX8_6 cI g0 o0, cX8_8 cI g0 o0, cX8_9 cI g0 o0, cX8_10 cI g0 o0, cX8_12 cI g0 o0, cX8_13 cI g0 o0, cX8_15 cI g0 o0, cX8_17 cI g0 o0, cX8_18 cI g0 o0, cX8_22 cB g0 o0, cX8_27 cI g0 o0, cX8_28 cI g0 o0, cX8_29 cI g0 o0, cX8_30 cI g0 o0, cX8_31 cI g0 o0, cX8_32 cI g0 o0, cX8_33 cI g0 o0]) s.heap := hP
  have hD : va_D A ([cX8 a0 g0 o0, cX8_0 cI g0 o0, cX8_1 cI g0 o0, cX8_3 cI g0 o0, cX8_4 cI g0 o0, cX8_6 cI g0 o0, cX8_8 cI g0 o0, cX8_9 cI g0 o0, cX8_10 cI g0 o0, cX8_12 cI g0 o0, cX8_13 cI g0 o0, cX8_15 cI g0 o0, cX8_17 cI g0 o0, cX8_18 cI g0 o0, cX8_22 cB g0 o0, cX8_27 cI g0 o0, cX8_28 cI g0 o0, cX8_29 cI g0 o0, cX8_30 cI g0 o0, cX8_31 cI g0 o0, cX8_32 cI g0 o0, cX8_33 cI g0 o0]) := hD
  have hl := lv_entry ([.ref a0, .int v1, .int v2]) (n := 4) (Nat.le_of_ble_eq_true rfl)
  rw [lg_entry_eq]
  generalize (lg_sl ([.ref a0, .int v1, .int v2]) ++ List.replicate (4 - (lg_sl ([.ref a0, .int v1, .int v2])).length) Slot.unset).toArray = ls at hl ⊢
  have hl : lv_has ls 4 [(0, .ref a0), (1, .int v1), (2, .int v2)] := hl
  obtain ⟨Q, hQ⟩ : ∃ Q, Q = MQ below (Qq dC dI none ([cX8 a0 g0 r, cX8_0 cI g0 r, cX8_1 cI g0 r, cX8_3 cI g0 r, cX8_4 cI g0 r, cX8_6 cI g0 r, cX8_8 cI g0 r, cX8_9 cI g0 r, cX8_10 cI g0 r, cX8_12 cI g0 r, cX8_13 cI g0 r, cX8_15 cI g0 r, cX8_17 cI g0 r, cX8_18 cI g0 r, cX8_22 cB g0 r, cX8_27 cI g0 r, cX8_28 cI g0 r, cX8_29 cI g0 r, cX8_30 cI g0 r, cX8_31 cI g0 r, cX8_32 cI g0 r, cX8_33 cI g0 r]) A) ([.ref a0, .int v1, .int v2] : List Value).toArray s 0 0 A := ⟨_, rfl⟩
  rw [← hQ]
  rw [f_X8_copies] at h
  clear hAe hD0
  refine lv_iconst (v := (0 : Int32)) hx hb dX8_copies_0 (by decide) ?_
  refine lv_istore_n (lv' := [(3, .int (0 : Int32)), (0, .ref a0), (1, .int v1), (2, .int v2)]) hx hb dX8_copies_1 rfl hl (by decide) rfl (fun ls hl => ?_)
  have lp2 : ∀ (nn2 : Nat) (x2_3 : Int32) (o2_0 : Ob), f_X8_copies_2 v1 v2 nn2 x2_3 o2_0 = some r → ∀ (H : Heap) (locs : List Loc) (ls : Array Slot), va_P (dC, dI) vwCl ([cX8 a0 g0 o2_0, cX8_0 cI g0 o2_0, cX8_1 cI g0 o2_0, cX8_3 cI g0 o2_0, cX8_4 cI g0 o2_0, cX8_6 cI g0 o2_0, cX8_8 cI g0 o2_0, cX8_9 cI g0 o2_0, cX8_10 cI g0 o2_0, cX8_12 cI g0 o2_0, cX8_13 cI g0 o2_0, cX8_15 cI g0 o2_0, cX8_17 cI g0 o2_0, cX8_18 cI g0 o2_0, cX8_22 cB g0 o2_0, cX8_27 cI g0 o2_0, cX8_28 cI g0 o2_0, cX8_29 cI g0 o2_0, cX8_30 cI g0 o2_0, cX8_31 cI g0 o2_0, cX8_32 cI g0 o2_0, cX8_33 cI g0 o2_0]) H → va_D A ([cX8 a0 g0 o2_0, cX8_0 cI g0 o2_0, cX8_1 cI g0 o2_0, cX8_3 cI g0 o2_0, cX8_4 cI g0 o2_0, cX8_6 cI g0 o2_0, cX8_8 cI g0 o2_0, cX8_9 cI g0 o2_0, cX8_10 cI g0 o2_0, cX8_12 cI g0 o2_0, cX8_13 cI g0 o2_0, cX8_15 cI g0 o2_0, cX8_17 cI g0 o2_0, cX8_18 cI g0 o2_0, cX8_22 cB g0 o2_0, cX8_27 cI g0 o2_0, cX8_28 cI g0 o2_0, cX8_29 cI g0 o2_0, cX8_30 cI g0 o2_0, cX8_31 cI g0 o2_0, cX8_32 cI g0 o2_0, cX8_33 cI g0 o2_0]) → va_S A s.heap H locs → lv_has ls 4 [(0, .ref a0), (1, .int v1), (2, .int v2), (3, .int x2_3)] → W p l e (headSpec wsX8_copies rmX8_copies).room s m ([.ref a0, .int v1, .int v2] : List Value).toArray below meth c H locs 0 0 Q (F0 m 2 ls []) := by
    intro nn2
    induction nn2 with
    | zero => intro x2_3 o2_0 h; rw [f_X8_copies_2] at h; cases h
    | succ nn2 ih2 =>
      intro x2_3 o2_0 h H locs ls hP hD hS hl
      rw [f_X8_copies_2] at h
      refine lv_iload_n hx hb dX8_copies_2 rfl (lv_at hl 3 rfl) ?_
      refine lv_bipush (v := (26 : Int32)) hx hb dX8_copies_3 (by decide) ?_
      refine lv_icmp_ge (tgt := 30) hx hb dX8_copies_5 (by decide) (fun k1 => ?_) (fun k1 => ?_)
      · have h := ite_t k1 h
        have h := Option.some.inj h
        subst h
        subst hQ
        exact W.vret hx hb hr (fun t ht hW => ⟨⟨rfl, by rw [ht]; exact hP, hD⟩, hS.F ht⟩) hS.2.2 dX8_copies_30
      · have h := ite_f k1 h
        refine lv_aload_n hx hb dX8_copies_8 rfl (lv_at hl 0 rfl) ?_
        refine va_get (D := (dC, dI)) (ci := 8) (v := .ref (g0 18)) (C := RX8) (T := TX8) (N := 36) hx hb hts hiX8 hown hKK.1 hP 0 rfl rfl 18 (by decide) (hts (.fieldLink RX8 46 "SlideLandModel" "slot" "[I") (List.mem_of_getElem? (i := 1) rfl)) (fun _ h9 => h9) rfl dX8_copies_9 ?_
        refine lv_iload_n hx hb dX8_copies_12 rfl (lv_at hl 2 rfl) ?_
        refine lv_iload_n hx hb dX8_copies_13 rfl (lv_at hl 3 rfl) ?_
        refine lv_iadd hx hb dX8_copies_14 ?_
        refine lv_aload_n hx hb dX8_copies_15 rfl (lv_at hl 0 rfl) ?_
        refine va_get (D := (dC, dI)) (ci := 8) (v := .ref (g0 18)) (C := RX8) (T := TX8) (N := 36) hx hb hts hiX8 hown hKK.1 hP 0 rfl rfl 18 (by decide) (hts (.fieldLink RX8 46 "SlideLandModel" "slot" "[I") (List.mem_of_getElem? (i := 1) rfl)) (fun _ h9 => h9) rfl dX8_copies_16 ?_
        refine lv_iload_n hx hb dX8_copies_19 rfl (lv_at hl 1 rfl) ?_
        refine lv_iload_n hx hb dX8_copies_20 rfl (lv_at hl 3 rfl) ?_
        refine lv_iadd hx hb dX8_copies_21 ?_
        obtain ⟨k2, h⟩ := ite_n h
        refine va_iald hx hb hKK.1 hP 13 1 rfl rfl k2 dX8_copies_22 ?_
        obtain ⟨k3, h⟩ := ite_n h
        obtain ⟨u4, hu4, h⟩ := bnd_e h
        refine k_iast (f := (o2_0.2 18)) hx hb hKK.1 hP hD hS 13 1 hu4 rfl rfl k3 dX8_copies_23 (fun H locs hP hD hS => ?_)
        have hP : va_P (dC, dI) vwCl ([cX8 a0 g0 (stR o2_0 18 u4), cX8_0 cI g0 (stR o2_0 18 u4), cX8_1 cI g0 (stR o2_0 18 u4), cX8_3 cI g0 (stR o2_0 18 u4), cX8_4 cI g0 (stR o2_0 18 u4), cX8_6 cI g0 (stR o2_0 18 u4), cX8_8 cI g0 (stR o2_0 18 u4), cX8_9 cI g0 (stR o2_0 18 u4), cX8_10 cI g0 (stR o2_0 18 u4), cX8_12 cI g0 (stR o2_0 18 u4), cX8_13 cI g0 (stR o2_0 18 u4), cX8_15 cI g0 (stR o2_0 18 u4), cX8_17 cI g0 (stR o2_0 18 u4), cX8_18 cI g0 (stR o2_0 18 u4), cX8_22 cB g0 (stR o2_0 18 u4), cX8_27 cI g0 (stR o2_0 18 u4), cX8_28 cI g0 (stR o2_0 18 u4), cX8_29 cI g0 (stR o2_0 18 u4), cX8_30 cI g0 (stR o2_0 18 u4), cX8_31 cI g0 (stR o2_0 18 u4), cX8_32 cI g0 (stR o2_0 18 u4), cX8_33 cI g0 (stR o2_0 18 u4)]) H := hP
        have hD : va_D A ([cX8 a0 g0 (stR o2_0 18 u4), cX8_0 cI g0 (stR o2_0 18 u4), cX8_1 cI g0 (stR o2_0 18 u4), cX8_3 cI g0 (stR o2_0 18 u4), cX8_4 cI g0 (stR o2_0 18 u4), cX8_6 cI g0 (stR o2_0 18 u4), cX8_8 cI g0 (stR o2_0 18 u4), cX8_9 cI g0 (stR o2_0 18 u4), cX8_10 cI g0 (stR o2_0 18 u4), cX8_12 cI g0 (stR o2_0 18 u4), cX8_13 cI g0 (stR o2_0 18 u4), cX8_15 cI g0 (stR o2_0 18 u4), cX8_17 cI g0 (stR o2_0 18 u4), cX8_18 cI g0 (stR o2_0 18 u4), cX8_22 cB g0 (stR o2_0 18 u4), cX8_27 cI g0 (stR o2_0 18 u4), cX8_28 cI g0 (stR o2_0 18 u4), cX8_29 cI g0 (stR o2_0 18 u4), cX8_30 cI g0 (stR o2_0 18 u4), cX8_31 cI g0 (stR o2_0 18 u4), cX8_32 cI g0 (stR o2_0 18 u4), cX8_33 cI g0 (stR o2_0 18 u4)]) := hD
        obtain ⟨x5, hx5, h⟩ := bnd_e h
        refine lv_iinc (v := x5) (lv' := [(3, .int x5), (0, .ref a0), (1, .int v1), (2, .int v2)]) hx hb dX8_copies_24 hl (k := 3) rfl (by rw [← hx5]; rfl) (by decide) rfl (fun ls hl => ?_)
        refine lv_goto (tgt := 2) hx hb dX8_copies_27 (by decide) ?_
        exact ih2 x5 (stR o2_0 18 u4) h _ _ _ hP hD hS (lv_sub hl [1, 2, 3, 0] rfl)
  exact lp2 FU (0 : Int32) o0 h _ _ _ hP hD hS (lv_sub hl [1, 2, 3, 0] rfl)
def f_X8_settles_139 : Nat → Int32 → Ob → Option (Ob)
  | 0, _, _ => none
  | nn139+1, x139_1, o139_0 => if (8 : Int32) ≤ x139_1 then ((f_X8_copies o139_0 (286 : Int32) (0 : Int32)).bind fun q10 : Ob => some q10) else (if x139_1 < 0 ∨ 8 ≤ x139_1.toNatClampNeg then none else if x139_1 < 0 ∨ 8 ≤ x139_1.toNatClampNeg then none else bnd (upd (o139_0.2 8) x139_1.toNatClampNeg ((o139_0.2 17) x139_1.toNatClampNeg)) fun u13 : Nat → Int32 => bnd (x139_1 + (1 : Int32)) fun x14 : Int32 => (f_X8_settles_139 nn139) x14 (stR o139_0 8 u13))
def f_X8_settles_114 : Nat → Int32 → Ob → Option (Ob)
  | 0, _, _ => none
  | nn114+1, x114_1, o114_0 => if (4 : Int32) ≤ x114_1 then (f_X8_settles_139 FU (0 : Int32) o114_0) else (if x114_1 < 0 ∨ 4 ≤ x114_1.toNatClampNeg then none else if x114_1 < 0 ∨ 4 ≤ x114_1.toNatClampNeg then none else bnd (upd (o114_0.2 6) x114_1.toNatClampNeg ((o114_0.2 15) x114_1.toNatClampNeg)) fun u17 : Nat → Int32 => bnd (x114_1 + (1 : Int32)) fun x18 : Int32 => (f_X8_settles_114 nn114) x18 (stR o114_0 6 u17))
def f_X8_settles_76 : Nat → Int32 → Ob → Option (Ob)
  | 0, _, _ => none
  | nn76+1, x76_1, o76_0 => if (7 : Int32) ≤ x76_1 then (f_X8_settles_114 FU (0 : Int32) o76_0) else (if x76_1 < 0 ∨ 7 ≤ x76_1.toNatClampNeg then none else if x76_1 < 0 ∨ 7 ≤ x76_1.toNatClampNeg then none else bnd (upd (o76_0.2 3) x76_1.toNatClampNeg ((o76_0.2 12) x76_1.toNatClampNeg)) fun u21 : Nat → Int32 => if x76_1 < 0 ∨ 7 ≤ x76_1.toNatClampNeg then none else if x76_1 < 0 ∨ 7 ≤ x76_1.toNatClampNeg then none else bnd (upd (o76_0.2 4) x76_1.toNatClampNeg ((o76_0.2 13) x76_1.toNatClampNeg)) fun u24 : Nat → Int32 => bnd (x76_1 + (1 : Int32)) fun x25 : Int32 => (f_X8_settles_76 nn76) x25 (stR (stR o76_0 3 u21) 4 u24))
def f_X8_settles_50 : Nat → Int32 → Ob → Option (Ob)
  | 0, _, _ => none
  | nn50+1, x50_1, o50_0 => if (12 : Int32) ≤ x50_1 then (f_X8_settles_76 FU (0 : Int32) o50_0) else (if x50_1 < 0 ∨ 12 ≤ x50_1.toNatClampNeg then none else if x50_1 < 0 ∨ 12 ≤ x50_1.toNatClampNeg then none else bnd (upd (o50_0.2 1) x50_1.toNatClampNeg ((o50_0.2 10) x50_1.toNatClampNeg)) fun u28 : Nat → Int32 => bnd (x50_1 + (1 : Int32)) fun x29 : Int32 => (f_X8_settles_50 nn50) x29 (stR o50_0 1 u28))
def f_X8_settles (o0 : Ob) : Option (Ob) := bnd (upd (o0.2 0) (0 : Int32).toNatClampNeg ((o0.2 9) (0 : Int32).toNatClampNeg)) fun u1 : Nat → Int32 => bnd (upd u1 (1 : Int32).toNatClampNeg ((o0.2 9) (1 : Int32).toNatClampNeg)) fun u2 : Nat → Int32 => bnd (o0.1 11) fun x3 : Int32 => bnd (o0.1 14) fun x4 : Int32 => bnd (o0.1 16) fun x5 : Int32 => f_X8_settles_50 FU (0 : Int32) (stR (stF (stF (stF o0 2 x3) 5 x4) 7 x5) 0 u2)
abbrev rmX8_settles : Room := { frames := 1, cells := 0, slots := 0, locals := 23 }
theorem dsc_X8_settles : yX8_settles.cls ≠ "java/lang/invoke/MethodHandle" ∧ yX8_settles.cls ≠ "java/lang/invoke/VarHandle" ∧ (parseMethodDescriptor yX8_settles.desc).map (fun d => d.parameters.length) = some 0 := by decide +kernel
set_option maxHeartbeats 4000000 in
set_option maxRecDepth 100000 in
theorem c_X8_settles (l : Launch) (dC : Nat → ClassId) (dI : Nat → Nat → Nat) (cB cI cZ cO : ClassId) (a0 : Nat) (g0 : Nat → Nat) (o0 : Ob) {r : Ob} (h : f_X8_settles o0 = some r) : Ct dC dI cB cI cZ cO l yX8_settles wsX8_settles rmX8_settles [.ref a0] ([cX8 a0 g0 o0, cX8_0 cI g0 o0, cX8_1 cI g0 o0, cX8_3 cI g0 o0, cX8_4 cI g0 o0, cX8_6 cI g0 o0, cX8_8 cI g0 o0, cX8_9 cI g0 o0, cX8_10 cI g0 o0, cX8_12 cI g0 o0, cX8_13 cI g0 o0, cX8_15 cI g0 o0, cX8_17 cI g0 o0, cX8_18 cI g0 o0, cX8_22 cB g0 o0, cX8_27 cI g0 o0, cX8_28 cI g0 o0, cX8_29 cI g0 o0, cX8_30 cI g0 o0, cX8_31 cI g0 o0, cX8_32 cI g0 o0, cX8_33 cI g0 o0]) none ([cX8 a0 g0 r, cX8_0 cI g0 r, cX8_1 cI g0 r, cX8_3 cI g0 r, cX8_4 cI g0 r, cX8_6 cI g0 r, cX8_8 cI g0 r, cX8_9 cI g0 r, cX8_10 cI g0 r, cX8_12 cI g0 r, cX8_13 cI g0 r, cX8_15 cI g0 r, cX8_17 cI g0 r, cX8_18 cI g0 r, cX8_22 cB g0 r, cX8_27 cI g0 r, cX8_28 cI g0 r, cX8_29 cI g0 r, cX8_30 cI g0 r, cX8_31 cI g0 r, cX8_32 cI g0 r, cX8_33 cI g0 r]) := by
  intro sz
  refine Met.ofW (cc := cX8_settles) (maxL := 2) (ret := none) (by decide) rfl ?_
  intro p e s m args below meth c s₁ B hml hv
  obtain ⟨rfl, hsz, hP, hKK, hD0⟩ := hv
  have hx := B.exec
  have hb := B.bytes
  have hr := B.returns
  have hts := atoms_spec (ws := wsX8_settles) B.pre
  have hown : s.vm.findClass RX8 = some m.cls := findClass_of_methodNamed B.named
  have hlocks := B.notSynchronized
  have hiX8 : ∀ w ∈ u_ws RX8 TX8 36, w ∈ wsX8_settles := fun w h => List.mem_cons_of_mem _ (List.mem_append_right _ h)
  subst hsz
  have hD := hD0.self (sz := s.heap.size)
  generalize hAe : va_A ([cX8 a0 g0 o0, cX8_0 cI g0 o0, cX8_1 cI g0 o0, cX8_3 cI g0 o0, cX8_4 cI g0 o0, cX8_6 cI g0 o0, cX8_8 cI g0 o0, cX8_9 cI g0 o0, cX8_10 cI g0 o0, cX8_12 cI g0 o0, cX8_13 cI g0 o0, cX8_15 cI g0 o0, cX8_17 cI g0 o0, cX8_18 cI g0 o0, cX8_22 cB g0 o0, cX8_27 cI g0 o0, cX8_28 cI g0 o0, cX8_29 cI g0 o0, cX8_30 cI g0 o0, cX8_31 cI g0 o0, cX8_32 cI g0 o0, cX8_33 cI g0 o0]) s.heap.size = A at hD ⊢
  have hA : ∀ q : Nat, s.heap.size ≤ q → A q := fun q h => by rw [← hAe]; exact Or.inr h
  have hS : va_S A s.heap s.heap [] := va_S.rf
  have hP : va_P (dC, dI) vwCl ([cX8 a0 g0 o0, cX8_0 cI g0 o0, cX8_1 cI g0 o0, cX8_3 cI g0 o0, cX8_4 cI g0 o0, cX8_6 cI g0 o0, cX8_8 cI g0 o0, cX8_9 cI g0 o0, cX8_10 cI g0 o0, cX8_12 cI g0 o0, cX8_13 cI g0 o0, cX8_15 cI g0 o0, cX8_17 cI g0 o0, cX8_18 cI g0 o0, cX8_22 cB g0 o0, cX8_27 cI g0 o0, cX8_28 cI g0 o0, cX8_29 cI g0 o0, cX8_30 cI g0 o0, cX8_31 cI g0 o0, cX8_32 cI g0 o0, cX8_33 cI g0 o0]) s.heap := hP
  have hD : va_D A ([cX8 a0 g0 o0, cX8_0 cI g0 o0, cX8_1 cI g0 o0, cX8_3 cI g0 o0, cX8_4 cI g0 o0, cX8_6 cI g0 o0, cX8_8 cI g0 o0, cX8_9 cI g0 o0, cX8_10 cI g0 o0, cX8_12 cI g0 o0, cX8_13 cI g0 o0, cX8_15 cI g0 o0, cX8_17 cI g0 o0, cX8_18 cI g0 o0, cX8_22 cB g0 o0, cX8_27 cI g0 o0, cX8_28 cI g0 o0, cX8_29 cI g0 o0, cX8_30 cI g0 o0, cX8_31 cI g0 o0, cX8_32 cI g0 o0, cX8_33 cI g0 o0]) := hD
  have hl := lv_entry ([.ref a0]) (n := 2) (Nat.le_of_ble_eq_true rfl)
  rw [lg_entry_eq]
  generalize (lg_sl ([.ref a0]) ++ List.replicate (2 - (lg_sl ([.ref a0])).length) Slot.unset).toArray = ls at hl ⊢
  have hl : lv_has ls 2 [(0, .ref a0)] := hl
  obtain ⟨Q, hQ⟩ : ∃ Q, Q = MQ below (Qq dC dI none ([cX8 a0 g0 r, cX8_0 cI g0 r, cX8_1 cI g0 r, cX8_3 cI g0 r, cX8_4 cI g0 r, cX8_6 cI g0 r, cX8_8 cI g0 r, cX8_9 cI g0 r, cX8_10 cI g0 r, cX8_12 cI g0 r, cX8_13 cI g0 r, cX8_15 cI g0 r, cX8_17 cI g0 r, cX8_18 cI g0 r, cX8_22 cB g0 r, cX8_27 cI g0 r, cX8_28 cI g0 r, cX8_29 cI g0 r, cX8_30 cI g0 r, cX8_31 cI g0 r, cX8_32 cI g0 r, cX8_33 cI g0 r]) A) ([.ref a0] : List Value).toArray s 0 0 A := ⟨_, rfl⟩
  rw [← hQ]
  rw [f_X8_settles] at h
  clear hAe hD0
  refine lv_aload_n hx hb dX8_settles_0 rfl (lv_at hl 0 rfl) ?_
  refine va_get (D := (dC, dI)) (ci := 8) (v := .ref (g0 0)) (C := RX8) (T := TX8) (N := 36) hx hb hts hiX8 hown hKK.1 hP 0 rfl rfl 0 (by decide) (hts (.fieldLink RX8 7 "SlideLandModel" "many" "[I") (List.mem_of_getElem? (i := 1) rfl)) (fun _ h9 => h9) rfl dX8_settles_1 ?_
  refine lv_iconst (v := (0 : Int32)) hx hb dX8_settles_4 (by decide) ?_
  refine lv_aload_n hx hb dX8_settles_5 rfl (lv_at hl 0 rfl) ?_
  refine va_get (D := (dC, dI)) (ci := 8) (v := .ref (g0 9)) (C := RX8) (T := TX8) (N := 36) hx hb hts hiX8 hown hKK.1 hP 0 rfl rfl 9 (by decide) (hts (.fieldLink RX8 28 "SlideLandModel" "newMany" "[I") (List.mem_of_getElem? (i := 2) rfl)) (fun _ h9 => h9) rfl dX8_settles_6 ?_
  refine lv_iconst (v := (0 : Int32)) hx hb dX8_settles_9 (by decide) ?_
  refine va_iald hx hb hKK.1 hP 7 1 rfl rfl (show ¬ ((0 : Int32) < 0 ∨ 2 ≤ (0 : Int32).toNatClampNeg) from by decide) dX8_settles_10 ?_
  obtain ⟨u1, hu1, h⟩ := bnd_e h
  refine k_iast (f := (o0.2 0)) hx hb hKK.1 hP hD hS 1 1 hu1 rfl rfl (show ¬ ((0 : Int32) < 0 ∨ 2 ≤ (0 : Int32).toNatClampNeg) from by decide) dX8_settles_11 (fun H locs hP hD hS => ?_)
  have hP : va_P (dC, dI) vwCl ([cX8 a0 g0 (stR o0 0 u1), cX8_0 cI g0 (stR o0 0 u1), cX8_1 cI g0 (stR o0 0 u1), cX8_3 cI g0 (stR o0 0 u1), cX8_4 cI g0 (stR o0 0 u1), cX8_6 cI g0 (stR o0 0 u1), cX8_8 cI g0 (stR o0 0 u1), cX8_9 cI g0 (stR o0 0 u1), cX8_10 cI g0 (stR o0 0 u1), cX8_12 cI g0 (stR o0 0 u1), cX8_13 cI g0 (stR o0 0 u1), cX8_15 cI g0 (stR o0 0 u1), cX8_17 cI g0 (stR o0 0 u1), cX8_18 cI g0 (stR o0 0 u1), cX8_22 cB g0 (stR o0 0 u1), cX8_27 cI g0 (stR o0 0 u1), cX8_28 cI g0 (stR o0 0 u1), cX8_29 cI g0 (stR o0 0 u1), cX8_30 cI g0 (stR o0 0 u1), cX8_31 cI g0 (stR o0 0 u1), cX8_32 cI g0 (stR o0 0 u1), cX8_33 cI g0 (stR o0 0 u1)]) H := hP
  have hD : va_D A ([cX8 a0 g0 (stR o0 0 u1), cX8_0 cI g0 (stR o0 0 u1), cX8_1 cI g0 (stR o0 0 u1), cX8_3 cI g0 (stR o0 0 u1), cX8_4 cI g0 (stR o0 0 u1), cX8_6 cI g0 (stR o0 0 u1), cX8_8 cI g0 (stR o0 0 u1), cX8_9 cI g0 (stR o0 0 u1), cX8_10 cI g0 (stR o0 0 u1), cX8_12 cI g0 (stR o0 0 u1), cX8_13 cI g0 (stR o0 0 u1), cX8_15 cI g0 (stR o0 0 u1), cX8_17 cI g0 (stR o0 0 u1), cX8_18 cI g0 (stR o0 0 u1), cX8_22 cB g0 (stR o0 0 u1), cX8_27 cI g0 (stR o0 0 u1), cX8_28 cI g0 (stR o0 0 u1), cX8_29 cI g0 (stR o0 0 u1), cX8_30 cI g0 (stR o0 0 u1), cX8_31 cI g0 (stR o0 0 u1), cX8_32 cI g0 (stR o0 0 u1), cX8_33 cI g0 (stR o0 0 u1)]) := hD
  refine lv_aload_n hx hb dX8_settles_12 rfl (lv_at hl 0 rfl) ?_
  refine va_get (D := (dC, dI)) (ci := 8) (v := .ref (g0 0)) (C := RX8) (T := TX8) (N := 36) hx hb hts hiX8 hown hKK.1 hP 0 rfl rfl 0 (by decide) (hts (.fieldLink RX8 7 "SlideLandModel" "many" "[I") (List.mem_of_getElem? (i := 1) rfl)) (fun _ h9 => h9) rfl dX8_settles_13 ?_
  refine lv_iconst (v := (1 : Int32)) hx hb dX8_settles_16 (by decide) ?_
  refine lv_aload_n hx hb dX8_settles_17 rfl (lv_at hl 0 rfl) ?_
  refine va_get (D := (dC, dI)) (ci := 8) (v := .ref (g0 9)) (C := RX8) (T := TX8) (N := 36) hx hb hts hiX8 hown hKK.1 hP 0 rfl rfl 9 (by decide) (hts (.fieldLink RX8 28 "SlideLandModel" "newMany" "[I") (List.mem_of_getElem? (i := 2) rfl)) (fun _ h9 => h9) rfl dX8_settles_18 ?_
  refine lv_iconst (v := (1 : Int32)) hx hb dX8_settles_21 (by decide) ?_
  refine va_iald hx hb hKK.1 hP 7 1 rfl rfl (show ¬ ((1 : Int32) < 0 ∨ 2 ≤ (1 : Int32).toNatClampNeg) from by decide) dX8_settles_22 ?_
  obtain ⟨u2, hu2, h⟩ := bnd_e h
  refine k_iast (f := u1) hx hb hKK.1 hP hD hS 1 1 hu2 rfl rfl (show ¬ ((1 : Int32) < 0 ∨ 2 ≤ (1 : Int32).toNatClampNeg) from by decide) dX8_settles_23 (fun H locs hP hD hS => ?_)
  have hP : va_P (dC, dI) vwCl ([cX8 a0 g0 (stR o0 0 u2), cX8_0 cI g0 (stR o0 0 u2), cX8_1 cI g0 (stR o0 0 u2), cX8_3 cI g0 (stR o0 0 u2), cX8_4 cI g0 (stR o0 0 u2), cX8_6 cI g0 (stR o0 0 u2), cX8_8 cI g0 (stR o0 0 u2), cX8_9 cI g0 (stR o0 0 u2), cX8_10 cI g0 (stR o0 0 u2), cX8_12 cI g0 (stR o0 0 u2), cX8_13 cI g0 (stR o0 0 u2), cX8_15 cI g0 (stR o0 0 u2), cX8_17 cI g0 (stR o0 0 u2), cX8_18 cI g0 (stR o0 0 u2), cX8_22 cB g0 (stR o0 0 u2), cX8_27 cI g0 (stR o0 0 u2), cX8_28 cI g0 (stR o0 0 u2), cX8_29 cI g0 (stR o0 0 u2), cX8_30 cI g0 (stR o0 0 u2), cX8_31 cI g0 (stR o0 0 u2), cX8_32 cI g0 (stR o0 0 u2), cX8_33 cI g0 (stR o0 0 u2)]) H := hP
  have hD : va_D A ([cX8 a0 g0 (stR o0 0 u2), cX8_0 cI g0 (stR o0 0 u2), cX8_1 cI g0 (stR o0 0 u2), cX8_3 cI g0 (stR o0 0 u2), cX8_4 cI g0 (stR o0 0 u2), cX8_6 cI g0 (stR o0 0 u2), cX8_8 cI g0 (stR o0 0 u2), cX8_9 cI g0 (stR o0 0 u2), cX8_10 cI g0 (stR o0 0 u2), cX8_12 cI g0 (stR o0 0 u2), cX8_13 cI g0 (stR o0 0 u2), cX8_15 cI g0 (stR o0 0 u2), cX8_17 cI g0 (stR o0 0 u2), cX8_18 cI g0 (stR o0 0 u2), cX8_22 cB g0 (stR o0 0 u2), cX8_27 cI g0 (stR o0 0 u2), cX8_28 cI g0 (stR o0 0 u2), cX8_29 cI g0 (stR o0 0 u2), cX8_30 cI g0 (stR o0 0 u2), cX8_31 cI g0 (stR o0 0 u2), cX8_32 cI g0 (stR o0 0 u2), cX8_33 cI g0 (stR o0 0 u2)]) := hD
  refine lv_aload_n hx hb dX8_settles_24 rfl (lv_at hl 0 rfl) ?_
  refine lv_aload_n hx hb dX8_settles_25 rfl (lv_at hl 0 rfl) ?_
  refine va_get (D := (dC, dI)) (ci := 8) (v := .int (o0.1 11)) (C := RX8) (T := TX8) (N := 36) hx hb hts hiX8 hown hKK.1 hP 0 rfl rfl 11 (by decide) (hts (.fieldLink RX8 95 "SlideLandModel" "newStrips" "I") (List.mem_of_getElem? (i := 3) rfl)) (fun _ h9 => h9) rfl dX8_settles_26 ?_
  obtain ⟨x3, hx3, h⟩ := bnd_e h
  rw [hx3]
  refine va_put (D := (dC, dI)) (ci := 8) (v := .int x3) (ty := .int) (C := RX8) (T := TX8) (N := 36) hx hb hts hiX8 tyX8 tyX8_ok nmX8 hown hKK.1 hP hD hS 0 rfl rfl 2 (by decide) (hts (.fieldLink RX8 98 "SlideLandModel" "strips" "I") (List.mem_of_getElem? (i := 4) rfl)) (fun _ h9 => h9) rfl (by decide +kernel) rfl rfl (Nat.le_of_ble_eq_true rfl) dX8_settles_29 (fun H locs hP hD hS => ?_)
  have hP : va_P (dC, dI) vwCl ([cX8 a0 g0 (stR (stF o0 2 x3) 0 u2), cX8_0 cI g0 (stR (stF o0 2 x3) 0 u2), cX8_1 cI g0 (stR (stF o0 2 x3) 0 u2), cX8_3 cI g0 (stR (stF o0 2 x3) 0 u2), cX8_4 cI g0 (stR (stF o0 2 x3) 0 u2), cX8_6 cI g0 (stR (stF o0 2 x3) 0 u2), cX8_8 cI g0 (stR (stF o0 2 x3) 0 u2), cX8_9 cI g0 (stR (stF o0 2 x3) 0 u2), cX8_10 cI g0 (stR (stF o0 2 x3) 0 u2), cX8_12 cI g0 (stR (stF o0 2 x3) 0 u2), cX8_13 cI g0 (stR (stF o0 2 x3) 0 u2), cX8_15 cI g0 (stR (stF o0 2 x3) 0 u2), cX8_17 cI g0 (stR (stF o0 2 x3) 0 u2), cX8_18 cI g0 (stR (stF o0 2 x3) 0 u2), cX8_22 cB g0 (stR (stF o0 2 x3) 0 u2), cX8_27 cI g0 (stR (stF o0 2 x3) 0 u2), cX8_28 cI g0 (stR (stF o0 2 x3) 0 u2), cX8_29 cI g0 (stR (stF o0 2 x3) 0 u2), cX8_30 cI g0 (stR (stF o0 2 x3) 0 u2), cX8_31 cI g0 (stR (stF o0 2 x3) 0 u2), cX8_32 cI g0 (stR (stF o0 2 x3) 0 u2), cX8_33 cI g0 (stR (stF o0 2 x3) 0 u2)]) H := hP
  have hD : va_D A ([cX8 a0 g0 (stR (stF o0 2 x3) 0 u2), cX8_0 cI g0 (stR (stF o0 2 x3) 0 u2), cX8_1 cI g0 (stR (stF o0 2 x3) 0 u2), cX8_3 cI g0 (stR (stF o0 2 x3) 0 u2), cX8_4 cI g0 (stR (stF o0 2 x3) 0 u2), cX8_6 cI g0 (stR (stF o0 2 x3) 0 u2), cX8_8 cI g0 (stR (stF o0 2 x3) 0 u2), cX8_9 cI g0 (stR (stF o0 2 x3) 0 u2), cX8_10 cI g0 (stR (stF o0 2 x3) 0 u2), cX8_12 cI g0 (stR (stF o0 2 x3) 0 u2), cX8_13 cI g0 (stR (stF o0 2 x3) 0 u2), cX8_15 cI g0 (stR (stF o0 2 x3) 0 u2), cX8_17 cI g0 (stR (stF o0 2 x3) 0 u2), cX8_18 cI g0 (stR (stF o0 2 x3) 0 u2), cX8_22 cB g0 (stR (stF o0 2 x3) 0 u2), cX8_27 cI g0 (stR (stF o0 2 x3) 0 u2), cX8_28 cI g0 (stR (stF o0 2 x3) 0 u2), cX8_29 cI g0 (stR (stF o0 2 x3) 0 u2), cX8_30 cI g0 (stR (stF o0 2 x3) 0 u2), cX8_31 cI g0 (stR (stF o0 2 x3) 0 u2), cX8_32 cI g0 (stR (stF o0 2 x3) 0 u2), cX8_33 cI g0 (stR (stF o0 2 x3) 0 u2)]) := hD
  refine lv_aload_n hx hb dX8_settles_32 rfl (lv_at hl 0 rfl) ?_
  refine lv_aload_n hx hb dX8_settles_33 rfl (lv_at hl 0 rfl) ?_
  refine va_get (D := (dC, dI)) (ci := 8) (v := .int (o0.1 14)) (C := RX8) (T := TX8) (N := 36) hx hb hts hiX8 hown hKK.1 hP 0 rfl rfl 14 (by decide) (hts (.fieldLink RX8 85 "SlideLandModel" "newPushes" "I") (List.mem_of_getElem? (i := 5) rfl)) (fun _ h9 => h9) rfl dX8_settles_34 ?_
  obtain ⟨x4, hx4, h⟩ := bnd_e h
  rw [hx4]
  refine va_put (D := (dC, dI)) (ci := 8) (v := .int x4) (ty := .int) (C := RX8) (T := TX8) (N := 36) hx hb hts hiX8 tyX8 tyX8_ok nmX8 hown hKK.1 hP hD hS 0 rfl rfl 5 (by decide) (hts (.fieldLink RX8 101 "SlideLandModel" "pushes" "I") (List.mem_of_getElem? (i := 6) rfl)) (fun _ h9 => h9) rfl (by decide +kernel) rfl rfl (Nat.le_of_ble_eq_true rfl) dX8_settles_37 (fun H locs hP hD hS => ?_)
  have hP : va_P (dC, dI) vwCl ([cX8 a0 g0 (stR (stF (stF o0 2 x3) 5 x4) 0 u2), cX8_0 cI g0 (stR (stF (stF o0 2 x3) 5 x4) 0 u2), cX8_1 cI g0 (stR (stF (stF o0 2 x3) 5 x4) 0 u2), cX8_3 cI g0 (stR (stF (stF o0 2 x3) 5 x4) 0 u2), cX8_4 cI g0 (stR (stF (stF o0 2 x3) 5 x4) 0 u2), cX8_6 cI g0 (stR (stF (stF o0 2 x3) 5 x4) 0 u2), cX8_8 cI g0 (stR (stF (stF o0 2 x3) 5 x4) 0 u2), cX8_9 cI g0 (stR (stF (stF o0 2 x3) 5 x4) 0 u2), cX8_10 cI g0 (stR (stF (stF o0 2 x3) 5 x4) 0 u2), cX8_12 cI g0 (stR (stF (stF o0 2 x3) 5 x4) 0 u2), cX8_13 cI g0 (stR (stF (stF o0 2 x3) 5 x4) 0 u2), cX8_15 cI g0 (stR (stF (stF o0 2 x3) 5 x4) 0 u2), cX8_17 cI g0 (stR (stF (stF o0 2 x3) 5 x4) 0 u2), cX8_18 cI g0 (stR (stF (stF o0 2 x3) 5 x4) 0 u2), cX8_22 cB g0 (stR (stF (stF o0 2 x3) 5 x4) 0 u2), cX8_27 cI g0 (stR (stF (stF o0 2 x3) 5 x4) 0 u2), cX8_28 cI g0 (stR (stF (stF o0 2 x3) 5 x4) 0 u2), cX8_29 cI g0 (stR (stF (stF o0 2 x3) 5 x4) 0 u2), cX8_30 cI g0 (stR (stF (stF o0 2 x3) 5 x4) 0 u2), cX8_31 cI g0 (stR (stF (stF o0 2 x3) 5 x4) 0 u2), cX8_32 cI g0 (stR (stF (stF o0 2 x3) 5 x4) 0 u2), cX8_33 cI g0 (stR (stF (stF o0 2 x3) 5 x4) 0 u2)]) H := hP
  have hD : va_D A ([cX8 a0 g0 (stR (stF (stF o0 2 x3) 5 x4) 0 u2), cX8_0 cI g0 (stR (stF (stF o0 2 x3) 5 x4) 0 u2), cX8_1 cI g0 (stR (stF (stF o0 2 x3) 5 x4) 0 u2), cX8_3 cI g0 (stR (stF (stF o0 2 x3) 5 x4) 0 u2), cX8_4 cI g0 (stR (stF (stF o0 2 x3) 5 x4) 0 u2), cX8_6 cI g0 (stR (stF (stF o0 2 x3) 5 x4) 0 u2), cX8_8 cI g0 (stR (stF (stF o0 2 x3) 5 x4) 0 u2), cX8_9 cI g0 (stR (stF (stF o0 2 x3) 5 x4) 0 u2), cX8_10 cI g0 (stR (stF (stF o0 2 x3) 5 x4) 0 u2), cX8_12 cI g0 (stR (stF (stF o0 2 x3) 5 x4) 0 u2), cX8_13 cI g0 (stR (stF (stF o0 2 x3) 5 x4) 0 u2), cX8_15 cI g0 (stR (stF (stF o0 2 x3) 5 x4) 0 u2), cX8_17 cI g0 (stR (stF (stF o0 2 x3) 5 x4) 0 u2), cX8_18 cI g0 (stR (stF (stF o0 2 x3) 5 x4) 0 u2), cX8_22 cB g0 (stR (stF (stF o0 2 x3) 5 x4) 0 u2), cX8_27 cI g0 (stR (stF (stF o0 2 x3) 5 x4) 0 u2), cX8_28 cI g0 (stR (stF (stF o0 2 x3) 5 x4) 0 u2), cX8_29 cI g0 (stR (stF (stF o0 2 x3) 5 x4) 0 u2), cX8_30 cI g0 (stR (stF (stF o0 2 x3) 5 x4) 0 u2), cX8_31 cI g0 (stR (stF (stF o0 2 x3) 5 x4) 0 u2), cX8_32 cI g0 (stR (stF (stF o0 2 x3) 5 x4) 0 u2), cX8_33 cI g0 (stR (stF (stF o0 2 x3) 5 x4) 0 u2)]) := hD
  refine lv_aload_n hx hb dX8_settles_40 rfl (lv_at hl 0 rfl) ?_
  refine lv_aload_n hx hb dX8_settles_41 rfl (lv_at hl 0 rfl) ?_
  refine va_get (D := (dC, dI)) (ci := 8) (v := .int (o0.1 16)) (C := RX8) (T := TX8) (N := 36) hx hb hts hiX8 hown hKK.1 hP 0 rfl rfl 16 (by decide) (hts (.fieldLink RX8 89 "SlideLandModel" "newDamps" "I") (List.mem_of_getElem? (i := 7) rfl)) (fun _ h9 => h9) rfl dX8_settles_42 ?_
  obtain ⟨x5, hx5, h⟩ := bnd_e h
  rw [hx5]
  refine va_put (D := (dC, dI)) (ci := 8) (v := .int x5) (ty := .int) (C := RX8) (T := TX8) (N := 36) hx hb hts hiX8 tyX8 tyX8_ok nmX8 hown hKK.1 hP hD hS 0 rfl rfl 7 (by decide) (hts (.fieldLink RX8 104 "SlideLandModel" "damps" "I") (List.mem_of_getElem? (i := 8) rfl)) (fun _ h9 => h9) rfl (by decide +kernel) rfl rfl (Nat.le_of_ble_eq_true rfl) dX8_settles_45 (fun H locs hP hD hS => ?_)
  have hP : va_P (dC, dI) vwCl ([cX8 a0 g0 (stR (stF (stF (stF o0 2 x3) 5 x4) 7 x5) 0 u2), cX8_0 cI g0 (stR (stF (stF (stF o0 2 x3) 5 x4) 7 x5) 0 u2), cX8_1 cI g0 (stR (stF (stF (stF o0 2 x3) 5 x4) 7 x5) 0 u2), cX8_3 cI g0 (stR (stF (stF (stF o0 2 x3) 5 x4) 7 x5) 0 u2), cX8_4 cI g0 (stR (stF (stF (stF o0 2 x3) 5 x4) 7 x5) 0 u2), cX8_6 cI g0 (stR (stF (stF (stF o0 2 x3) 5 x4) 7 x5) 0 u2), cX8_8 cI g0 (stR (stF (stF (stF o0 2 x3) 5 x4) 7 x5) 0 u2), cX8_9 cI g0 (stR (stF (stF (stF o0 2 x3) 5 x4) 7 x5) 0 u2), cX8_10 cI g0 (stR (stF (stF (stF o0 2 x3) 5 x4) 7 x5) 0 u2), cX8_12 cI g0 (stR (stF (stF (stF o0 2 x3) 5 x4) 7 x5) 0 u2), cX8_13 cI g0 (stR (stF (stF (stF o0 2 x3) 5 x4) 7 x5) 0 u2), cX8_15 cI g0 (stR (stF (stF (stF o0 2 x3) 5 x4) 7 x5) 0 u2), cX8_17 cI g0 (stR (stF (stF (stF o0 2 x3) 5 x4) 7 x5) 0 u2), cX8_18 cI g0 (stR (stF (stF (stF o0 2 x3) 5 x4) 7 x5) 0 u2), cX8_22 cB g0 (stR (stF (stF (stF o0 2 x3) 5 x4) 7 x5) 0 u2), cX8_27 cI g0 (stR (stF (stF (stF o0 2 x3) 5 x4) 7 x5) 0 u2), cX8_28 cI g0 (stR (stF (stF (stF o0 2 x3) 5 x4) 7 x5) 0 u2), cX8_29 cI g0 (stR (stF (stF (stF o0 2 x3) 5 x4) 7 x5) 0 u2), cX8_30 cI g0 (stR (stF (stF (stF o0 2 x3) 5 x4) 7 x5) 0 u2), cX8_31 cI g0 (stR (stF (stF (stF o0 2 x3) 5 x4) 7 x5) 0 u2), cX8_32 cI g0 (stR (stF (stF (stF o0 2 x3) 5 x4) 7 x5) 0 u2), cX8_33 cI g0 (stR (stF (stF (stF o0 2 x3) 5 x4) 7 x5) 0 u2)]) H := hP
  have hD : va_D A ([cX8 a0 g0 (stR (stF (stF (stF o0 2 x3) 5 x4) 7 x5) 0 u2), cX8_0 cI g0 (stR (stF (stF (stF o0 2 x3) 5 x4) 7 x5) 0 u2), cX8_1 cI g0 (stR (stF (stF (stF o0 2 x3) 5 x4) 7 x5) 0 u2), cX8_3 cI g0 (stR (stF (stF (stF o0 2 x3) 5 x4) 7 x5) 0 u2), cX8_4 cI g0 (stR (stF (stF (stF o0 2 x3) 5 x4) 7 x5) 0 u2), cX8_6 cI g0 (stR (stF (stF (stF o0 2 x3) 5 x4) 7 x5) 0 u2), cX8_8 cI g0 (stR (stF (stF (stF o0 2 x3) 5 x4) 7 x5) 0 u2), cX8_9 cI g0 (stR (stF (stF (stF o0 2 x3) 5 x4) 7 x5) 0 u2), cX8_10 cI g0 (stR (stF (stF (stF o0 2 x3) 5 x4) 7 x5) 0 u2), cX8_12 cI g0 (stR (stF (stF (stF o0 2 x3) 5 x4) 7 x5) 0 u2), cX8_13 cI g0 (stR (stF (stF (stF o0 2 x3) 5 x4) 7 x5) 0 u2), cX8_15 cI g0 (stR (stF (stF (stF o0 2 x3) 5 x4) 7 x5) 0 u2), cX8_17 cI g0 (stR (stF (stF (stF o0 2 x3) 5 x4) 7 x5) 0 u2), cX8_18 cI g0 (stR (stF (stF (stF o0 2 x3) 5 x4) 7 x5) 0 u2), cX8_22 cB g0 (stR (stF (stF (stF o0 2 x3) 5 x4) 7 x5) 0 u2), cX8_27 cI g0 (stR (stF (stF (stF o0 2 x3) 5 x4) 7 x5) 0 u2), cX8_28 cI g0 (stR (stF (stF (stF o0 2 x3) 5 x4) 7 x5) 0 u2), cX8_29 cI g0 (stR (stF (stF (stF o0 2 x3) 5 x4) 7 x5) 0 u2), cX8_30 cI g0 (stR (stF (stF (stF o0 2 x3) 5 x4) 7 x5) 0 u2), cX8_31 cI g0 (stR (stF (stF (stF o0 2 x3) 5 x4) 7 x5) 0 u2), cX8_32 cI g0 (stR (stF (stF (stF o0 2 x3) 5 x4) 7 x5) 0 u2), cX8_33 cI g0 (stR (stF (stF (stF o0 2 x3) 5 x4) 7 x5) 0 u2)]) := hD
  refine lv_iconst (v := (0 : Int32)) hx hb dX8_settles_48 (by decide) ?_
  refine lv_istore_n (lv' := [(1, .int (0 : Int32)), (0, .ref a0)]) hx hb dX8_settles_49 rfl hl (by decide) rfl (fun ls hl => ?_)
  have lp50 : ∀ (nn50 : Nat) (x50_1 : Int32) (o50_0 : Ob), f_X8_settles_50 nn50 x50_1 o50_0 = some r → ∀ (H : Heap) (locs : List Loc) (ls : Array Slot), va_P (dC, dI) vwCl ([cX8 a0 g0 o50_0, cX8_0 cI g0 o50_0, cX8_1 cI g0 o50_0, cX8_3 cI g0 o50_0, cX8_4 cI g0 o50_0, cX8_6 cI g0 o50_0, cX8_8 cI g0 o50_0, cX8_9 cI g0 o50_0, cX8_10 cI g0 o50_0, cX8_12 cI g0 o50_0, cX8_13 cI g0 o50_0, cX8_15 cI g0 o50_0, cX8_17 cI g0 o50_0, cX8_18 cI g0 o50_0, cX8_22 cB g0 o50_0, cX8_27 cI g0 o50_0, cX8_28 cI g0 o50_0, cX8_29 cI g0 o50_0, cX8_30 cI g0 o50_0, cX8_31 cI g0 o50_0, cX8_32 cI g0 o50_0, cX8_33 cI g0 o50_0]) H → va_D A ([cX8 a0 g0 o50_0, cX8_0 cI g0 o50_0, cX8_1 cI g0 o50_0, cX8_3 cI g0 o50_0, cX8_4 cI g0 o50_0, cX8_6 cI g0 o50_0, cX8_8 cI g0 o50_0, cX8_9 cI g0 o50_0, cX8_10 cI g0 o50_0, cX8_12 cI g0 o50_0, cX8_13 cI g0 o50_0, cX8_15 cI g0 o50_0, cX8_17 cI g0 o50_0, cX8_18 cI g0 o50_0, cX8_22 cB g0 o50_0, cX8_27 cI g0 o50_0, cX8_28 cI g0 o50_0, cX8_29 cI g0 o50_0, cX8_30 cI g0 o50_0, cX8_31 cI g0 o50_0, cX8_32 cI g0 o50_0, cX8_33 cI g0 o50_0]) → va_S A s.heap H locs → lv_has ls 2 [(0, .ref a0), (1, .int x50_1)] → W p l e (headSpec wsX8_settles rmX8_settles).room s m ([.ref a0] : List Value).toArray below meth c H locs 0 0 Q (F0 m 50 ls []) := by
    intro nn50
    induction nn50 with
    | zero => intro x50_1 o50_0 h; rw [f_X8_settles_50] at h; cases h
    | succ nn50 ih50 =>
      intro x50_1 o50_0 h H locs ls hP hD hS hl
      rw [f_X8_settles_50] at h
      refine lv_iload_n hx hb dX8_settles_50 rfl (lv_at hl 1 rfl) ?_
      refine lv_bipush (v := (12 : Int32)) hx hb dX8_settles_51 (by decide) ?_
      refine lv_icmp_ge (tgt := 74) hx hb dX8_settles_53 (by decide) (fun k6 => ?_) (fun k6 => ?_)
      · have h := ite_t k6 h
        refine lv_iconst (v := (0 : Int32)) hx hb dX8_settles_74 (by decide) ?_
        refine lv_istore_n (lv' := [(1, .int (0 : Int32)), (0, .ref a0)]) hx hb dX8_settles_75 rfl hl (by decide) rfl (fun ls hl => ?_)
        have lp76 : ∀ (nn76 : Nat) (x76_1 : Int32) (o76_0 : Ob), f_X8_settles_76 nn76 x76_1 o76_0 = some r → ∀ (H : Heap) (locs : List Loc) (ls : Array Slot), va_P (dC, dI) vwCl ([cX8 a0 g0 o76_0, cX8_0 cI g0 o76_0, cX8_1 cI g0 o76_0, cX8_3 cI g0 o76_0, cX8_4 cI g0 o76_0, cX8_6 cI g0 o76_0, cX8_8 cI g0 o76_0, cX8_9 cI g0 o76_0, cX8_10 cI g0 o76_0, cX8_12 cI g0 o76_0, cX8_13 cI g0 o76_0, cX8_15 cI g0 o76_0, cX8_17 cI g0 o76_0, cX8_18 cI g0 o76_0, cX8_22 cB g0 o76_0, cX8_27 cI g0 o76_0, cX8_28 cI g0 o76_0, cX8_29 cI g0 o76_0, cX8_30 cI g0 o76_0, cX8_31 cI g0 o76_0, cX8_32 cI g0 o76_0, cX8_33 cI g0 o76_0]) H → va_D A ([cX8 a0 g0 o76_0, cX8_0 cI g0 o76_0, cX8_1 cI g0 o76_0, cX8_3 cI g0 o76_0, cX8_4 cI g0 o76_0, cX8_6 cI g0 o76_0, cX8_8 cI g0 o76_0, cX8_9 cI g0 o76_0, cX8_10 cI g0 o76_0, cX8_12 cI g0 o76_0, cX8_13 cI g0 o76_0, cX8_15 cI g0 o76_0, cX8_17 cI g0 o76_0, cX8_18 cI g0 o76_0, cX8_22 cB g0 o76_0, cX8_27 cI g0 o76_0, cX8_28 cI g0 o76_0, cX8_29 cI g0 o76_0, cX8_30 cI g0 o76_0, cX8_31 cI g0 o76_0, cX8_32 cI g0 o76_0, cX8_33 cI g0 o76_0]) → va_S A s.heap H locs → lv_has ls 2 [(0, .ref a0), (1, .int x76_1)] → W p l e (headSpec wsX8_settles rmX8_settles).room s m ([.ref a0] : List Value).toArray below meth c H locs 0 0 Q (F0 m 76 ls []) := by
          intro nn76
          induction nn76 with
          | zero => intro x76_1 o76_0 h; rw [f_X8_settles_76] at h; cases h
          | succ nn76 ih76 =>
            intro x76_1 o76_0 h H locs ls hP hD hS hl
            rw [f_X8_settles_76] at h
            refine lv_iload_n hx hb dX8_settles_76 rfl (lv_at hl 1 rfl) ?_
            refine lv_bipush (v := (7 : Int32)) hx hb dX8_settles_77 (by decide) ?_
            refine lv_icmp_ge (tgt := 112) hx hb dX8_settles_79 (by decide) (fun k7 => ?_) (fun k7 => ?_)
            · have h := ite_t k7 h
              refine lv_iconst (v := (0 : Int32)) hx hb dX8_settles_112 (by decide) ?_
              refine lv_istore_n (lv' := [(1, .int (0 : Int32)), (0, .ref a0)]) hx hb dX8_settles_113 rfl hl (by decide) rfl (fun ls hl => ?_)
              have lp114 : ∀ (nn114 : Nat) (x114_1 : Int32) (o114_0 : Ob), f_X8_settles_114 nn114 x114_1 o114_0 = some r → ∀ (H : Heap) (locs : List Loc) (ls : Array Slot), va_P (dC, dI) vwCl ([cX8 a0 g0 o114_0, cX8_0 cI g0 o114_0, cX8_1 cI g0 o114_0, cX8_3 cI g0 o114_0, cX8_4 cI g0 o114_0, cX8_6 cI g0 o114_0, cX8_8 cI g0 o114_0, cX8_9 cI g0 o114_0, cX8_10 cI g0 o114_0, cX8_12 cI g0 o114_0, cX8_13 cI g0 o114_0, cX8_15 cI g0 o114_0, cX8_17 cI g0 o114_0, cX8_18 cI g0 o114_0, cX8_22 cB g0 o114_0, cX8_27 cI g0 o114_0, cX8_28 cI g0 o114_0, cX8_29 cI g0 o114_0, cX8_30 cI g0 o114_0, cX8_31 cI g0 o114_0, cX8_32 cI g0 o114_0, cX8_33 cI g0 o114_0]) H → va_D A ([cX8 a0 g0 o114_0, cX8_0 cI g0 o114_0, cX8_1 cI g0 o114_0, cX8_3 cI g0 o114_0, cX8_4 cI g0 o114_0, cX8_6 cI g0 o114_0, cX8_8 cI g0 o114_0, cX8_9 cI g0 o114_0, cX8_10 cI g0 o114_0, cX8_12 cI g0 o114_0, cX8_13 cI g0 o114_0, cX8_15 cI g0 o114_0, cX8_17 cI g0 o114_0, cX8_18 cI g0 o114_0, cX8_22 cB g0 o114_0, cX8_27 cI g0 o114_0, cX8_28 cI g0 o114_0, cX8_29 cI g0 o114_0, cX8_30 cI g0 o114_0, cX8_31 cI g0 o114_0, cX8_32 cI g0 o114_0, cX8_33 cI g0 o114_0]) → va_S A s.heap H locs → lv_has ls 2 [(0, .ref a0), (1, .int x114_1)] → W p l e (headSpec wsX8_settles rmX8_settles).room s m ([.ref a0] : List Value).toArray below meth c H locs 0 0 Q (F0 m 114 ls []) := by
                intro nn114
                induction nn114 with
                | zero => intro x114_1 o114_0 h; rw [f_X8_settles_114] at h; cases h
                | succ nn114 ih114 =>
                  intro x114_1 o114_0 h H locs ls hP hD hS hl
                  rw [f_X8_settles_114] at h
                  refine lv_iload_n hx hb dX8_settles_114 rfl (lv_at hl 1 rfl) ?_
                  refine lv_iconst (v := (4 : Int32)) hx hb dX8_settles_115 (by decide) ?_
                  refine lv_icmp_ge (tgt := 137) hx hb dX8_settles_116 (by decide) (fun k8 => ?_) (fun k8 => ?_)
                  · have h := ite_t k8 h
                    refine lv_iconst (v := (0 : Int32)) hx hb dX8_settles_137 (by decide) ?_
                    refine lv_istore_n (lv' := [(1, .int (0 : Int32)), (0, .ref a0)]) hx hb dX8_settles_138 rfl hl (by decide) rfl (fun ls hl => ?_)
                    have lp139 : ∀ (nn139 : Nat) (x139_1 : Int32) (o139_0 : Ob), f_X8_settles_139 nn139 x139_1 o139_0 = some r → ∀ (H : Heap) (locs : List Loc) (ls : Array Slot), va_P (dC, dI) vwCl ([cX8 a0 g0 o139_0, cX8_0 cI g0 o139_0, cX8_1 cI g0 o139_0, cX8_3 cI g0 o139_0, cX8_4 cI g0 o139_0, cX8_6 cI g0 o139_0, cX8_8 cI g0 o139_0, cX8_9 cI g0 o139_0, cX8_10 cI g0 o139_0, cX8_12 cI g0 o139_0, cX8_13 cI g0 o139_0, cX8_15 cI g0 o139_0, cX8_17 cI g0 o139_0, cX8_18 cI g0 o139_0, cX8_22 cB g0 o139_0, cX8_27 cI g0 o139_0, cX8_28 cI g0 o139_0, cX8_29 cI g0 o139_0, cX8_30 cI g0 o139_0, cX8_31 cI g0 o139_0, cX8_32 cI g0 o139_0, cX8_33 cI g0 o139_0]) H → va_D A ([cX8 a0 g0 o139_0, cX8_0 cI g0 o139_0, cX8_1 cI g0 o139_0, cX8_3 cI g0 o139_0, cX8_4 cI g0 o139_0, cX8_6 cI g0 o139_0, cX8_8 cI g0 o139_0, cX8_9 cI g0 o139_0, cX8_10 cI g0 o139_0, cX8_12 cI g0 o139_0, cX8_13 cI g0 o139_0, cX8_15 cI g0 o139_0, cX8_17 cI g0 o139_0, cX8_18 cI g0 o139_0, cX8_22 cB g0 o139_0, cX8_27 cI g0 o139_0, cX8_28 cI g0 o139_0, cX8_29 cI g0 o139_0, cX8_30 cI g0 o139_0, cX8_31 cI g0 o139_0, cX8_32 cI g0 o139_0, cX8_33 cI g0 o139_0]) → va_S A s.heap H locs → lv_has ls 2 [(0, .ref a0), (1, .int x139_1)] → W p l e (headSpec wsX8_settles rmX8_settles).room s m ([.ref a0] : List Value).toArray below meth c H locs 0 0 Q (F0 m 139 ls []) := by
                      intro nn139
                      induction nn139 with
                      | zero => intro x139_1 o139_0 h; rw [f_X8_settles_139] at h; cases h
                      | succ nn139 ih139 =>
                        intro x139_1 o139_0 h H locs ls hP hD hS hl
                        rw [f_X8_settles_139] at h
                        refine lv_iload_n hx hb dX8_settles_139 rfl (lv_at hl 1 rfl) ?_
                        refine lv_bipush (v := (8 : Int32)) hx hb dX8_settles_140 (by decide) ?_
                        refine lv_icmp_ge (tgt := 163) hx hb dX8_settles_142 (by decide) (fun k9 => ?_) (fun k9 => ?_)
                        · have h := ite_t k9 h
                          refine lv_aload_n hx hb dX8_settles_163 rfl (lv_at hl 0 rfl) ?_
                          refine lv_sipush (v := (286 : Int32)) hx hb dX8_settles_164 (by decide) ?_
                          refine lv_iconst (v := (0 : Int32)) hx hb dX8_settles_167 (by decide) ?_
                          obtain ⟨q10, hq10, h⟩ := obd_e h
                          refine kcV (rest := []) (w2 := ([cX8 a0 g0 q10, cX8_0 cI g0 q10, cX8_1 cI g0 q10, cX8_3 cI g0 q10, cX8_4 cI g0 q10, cX8_6 cI g0 q10, cX8_8 cI g0 q10, cX8_9 cI g0 q10, cX8_10 cI g0 q10, cX8_12 cI g0 q10, cX8_13 cI g0 q10, cX8_15 cI g0 q10, cX8_17 cI g0 q10, cX8_18 cI g0 q10, cX8_22 cB g0 q10, cX8_27 cI g0 q10, cX8_28 cI g0 q10, cX8_29 cI g0 q10, cX8_30 cI g0 q10, cX8_31 cI g0 q10, cX8_32 cI g0 q10, cX8_33 cI g0 q10])) hx hb hml hown hts hKK hP hD hS hA (c_X8_copies l dC dI cB cI cZ cO a0 g0 o139_0 (286 : Int32) (0 : Int32) hq10) [0, 1, 2, 3, 4, 5, 6, 7, 8, 9, 10, 11, 12, 13, 14, 15, 16, 17, 18, 19, 20, 21] (atAll_map ⟨rfl, rfl, rfl, rfl, rfl, rfl, rfl, rfl, rfl, rfl, rfl, rfl, rfl, rfl, rfl, rfl, rfl, rfl, rfl, rfl, rfl, rfl, trivial⟩) (by decide +kernel) (sameAd_map ⟨rfl, rfl, rfl, rfl, rfl, rfl, rfl, rfl, rfl, rfl, rfl, rfl, rfl, rfl, rfl, rfl, rfl, rfl, rfl, rfl, rfl, rfl, trivial⟩) (atAll_map ⟨rfl, rfl, rfl, rfl, rfl, rfl, rfl, rfl, rfl, rfl, rfl, rfl, rfl, rfl, rfl, rfl, rfl, rfl, rfl, rfl, rfl, rfl, trivial⟩) ⟨Or.inr (by decide), Or.inr (by decide), Or.inr (by decide), Or.inr (by decide), Or.inr (by decide), Or.inr (by decide), Or.inr (by decide), Or.inr (by decide), Or.inr (by decide), Or.inr (by decide), Or.inr (by decide), Or.inr (by decide), Or.inr (by decide), Or.inr (by decide), Or.inr (by decide), Or.inr (by decide), Or.inr (by decide), Or.inr (by decide), Or.inr (by decide), Or.inr (by decide), Or.inr (by decide), Or.inr (by decide), trivial⟩ (cwV 2 hts gX8_settles_X8_copies rfl rfl rfl ⟨rfl, dsc_X8_copies⟩ ⟨Nat.le_of_ble_eq_true rfl, Nat.le_of_ble_eq_true rfl⟩) (va_recv hKK.1 hP (ci := 8) (q0 := 0) rfl rfl) rfl hl.1 rfl (Nat.le_of_ble_eq_true rfl) dX8_settles_168 ⟨Nat.zero_le _, Nat.zero_le _⟩ (fun H locs hP hD hS => ?_)
                          have h := Option.some.inj h
                          subst h
                          subst hQ
                          exact W.vret hx hb hr (fun t ht hW => ⟨⟨rfl, by rw [ht]; exact hP, hD⟩, hS.F ht⟩) hS.2.2 dX8_settles_171
                        · have h := ite_f k9 h
                          refine lv_aload_n hx hb dX8_settles_145 rfl (lv_at hl 0 rfl) ?_
                          refine va_get (D := (dC, dI)) (ci := 8) (v := .ref (g0 8)) (C := RX8) (T := TX8) (N := 36) hx hb hts hiX8 hown hKK.1 hP 0 rfl rfl 8 (by decide) (hts (.fieldLink RX8 25 "SlideLandModel" "wet" "[I") (List.mem_of_getElem? (i := 17) rfl)) (fun _ h9 => h9) rfl dX8_settles_146 ?_
                          refine lv_iload_n hx hb dX8_settles_149 rfl (lv_at hl 1 rfl) ?_
                          refine lv_aload_n hx hb dX8_settles_150 rfl (lv_at hl 0 rfl) ?_
                          refine va_get (D := (dC, dI)) (ci := 8) (v := .ref (g0 17)) (C := RX8) (T := TX8) (N := 36) hx hb hts hiX8 hown hKK.1 hP 0 rfl rfl 17 (by decide) (hts (.fieldLink RX8 43 "SlideLandModel" "newWet" "[I") (List.mem_of_getElem? (i := 18) rfl)) (fun _ h9 => h9) rfl dX8_settles_151 ?_
                          refine lv_iload_n hx hb dX8_settles_154 rfl (lv_at hl 1 rfl) ?_
                          obtain ⟨k11, h⟩ := ite_n h
                          refine va_iald hx hb hKK.1 hP 12 1 rfl rfl k11 dX8_settles_155 ?_
                          obtain ⟨k12, h⟩ := ite_n h
                          obtain ⟨u13, hu13, h⟩ := bnd_e h
                          refine k_iast (f := (o139_0.2 8)) hx hb hKK.1 hP hD hS 6 1 hu13 rfl rfl k12 dX8_settles_156 (fun H locs hP hD hS => ?_)
                          have hP : va_P (dC, dI) vwCl ([cX8 a0 g0 (stR o139_0 8 u13), cX8_0 cI g0 (stR o139_0 8 u13), cX8_1 cI g0 (stR o139_0 8 u13), cX8_3 cI g0 (stR o139_0 8 u13), cX8_4 cI g0 (stR o139_0 8 u13), cX8_6 cI g0 (stR o139_0 8 u13), cX8_8 cI g0 (stR o139_0 8 u13), cX8_9 cI g0 (stR o139_0 8 u13), cX8_10 cI g0 (stR o139_0 8 u13), cX8_12 cI g0 (stR o139_0 8 u13), cX8_13 cI g0 (stR o139_0 8 u13), cX8_15 cI g0 (stR o139_0 8 u13), cX8_17 cI g0 (stR o139_0 8 u13), cX8_18 cI g0 (stR o139_0 8 u13), cX8_22 cB g0 (stR o139_0 8 u13), cX8_27 cI g0 (stR o139_0 8 u13), cX8_28 cI g0 (stR o139_0 8 u13), cX8_29 cI g0 (stR o139_0 8 u13), cX8_30 cI g0 (stR o139_0 8 u13), cX8_31 cI g0 (stR o139_0 8 u13), cX8_32 cI g0 (stR o139_0 8 u13), cX8_33 cI g0 (stR o139_0 8 u13)]) H := hP
                          have hD : va_D A ([cX8 a0 g0 (stR o139_0 8 u13), cX8_0 cI g0 (stR o139_0 8 u13), cX8_1 cI g0 (stR o139_0 8 u13), cX8_3 cI g0 (stR o139_0 8 u13), cX8_4 cI g0 (stR o139_0 8 u13), cX8_6 cI g0 (stR o139_0 8 u13), cX8_8 cI g0 (stR o139_0 8 u13), cX8_9 cI g0 (stR o139_0 8 u13), cX8_10 cI g0 (stR o139_0 8 u13), cX8_12 cI g0 (stR o139_0 8 u13), cX8_13 cI g0 (stR o139_0 8 u13), cX8_15 cI g0 (stR o139_0 8 u13), cX8_17 cI g0 (stR o139_0 8 u13), cX8_18 cI g0 (stR o139_0 8 u13), cX8_22 cB g0 (stR o139_0 8 u13), cX8_27 cI g0 (stR o139_0 8 u13), cX8_28 cI g0 (stR o139_0 8 u13), cX8_29 cI g0 (stR o139_0 8 u13), cX8_30 cI g0 (stR o139_0 8 u13), cX8_31 cI g0 (stR o139_0 8 u13), cX8_32 cI g0 (stR o139_0 8 u13), cX8_33 cI g0 (stR o139_0 8 u13)]) := hD
                          obtain ⟨x14, hx14, h⟩ := bnd_e h
                          refine lv_iinc (v := x14) (lv' := [(1, .int x14), (0, .ref a0)]) hx hb dX8_settles_157 hl (k := 1) rfl (by rw [← hx14]; rfl) (by decide) rfl (fun ls hl => ?_)
                          refine lv_goto (tgt := 139) hx hb dX8_settles_160 (by decide) ?_
                          exact ih139 x14 (stR o139_0 8 u13) h _ _ _ hP hD hS (lv_sub hl [1, 0] rfl)
                    exact lp139 FU (0 : Int32) o114_0 h _ _ _ hP hD hS (lv_sub hl [1, 0] rfl)
                  · have h := ite_f k8 h
                    refine lv_aload_n hx hb dX8_settles_119 rfl (lv_at hl 0 rfl) ?_
                    refine va_get (D := (dC, dI)) (ci := 8) (v := .ref (g0 6)) (C := RX8) (T := TX8) (N := 36) hx hb hts hiX8 hown hKK.1 hP 0 rfl rfl 6 (by decide) (hts (.fieldLink RX8 22 "SlideLandModel" "by" "[I") (List.mem_of_getElem? (i := 15) rfl)) (fun _ h9 => h9) rfl dX8_settles_120 ?_
                    refine lv_iload_n hx hb dX8_settles_123 rfl (lv_at hl 1 rfl) ?_
                    refine lv_aload_n hx hb dX8_settles_124 rfl (lv_at hl 0 rfl) ?_
                    refine va_get (D := (dC, dI)) (ci := 8) (v := .ref (g0 15)) (C := RX8) (T := TX8) (N := 36) hx hb hts hiX8 hown hKK.1 hP 0 rfl rfl 15 (by decide) (hts (.fieldLink RX8 40 "SlideLandModel" "newBy" "[I") (List.mem_of_getElem? (i := 16) rfl)) (fun _ h9 => h9) rfl dX8_settles_125 ?_
                    refine lv_iload_n hx hb dX8_settles_128 rfl (lv_at hl 1 rfl) ?_
                    obtain ⟨k15, h⟩ := ite_n h
                    refine va_iald hx hb hKK.1 hP 11 1 rfl rfl k15 dX8_settles_129 ?_
                    obtain ⟨k16, h⟩ := ite_n h
                    obtain ⟨u17, hu17, h⟩ := bnd_e h
                    refine k_iast (f := (o114_0.2 6)) hx hb hKK.1 hP hD hS 5 1 hu17 rfl rfl k16 dX8_settles_130 (fun H locs hP hD hS => ?_)
                    have hP : va_P (dC, dI) vwCl ([cX8 a0 g0 (stR o114_0 6 u17), cX8_0 cI g0 (stR o114_0 6 u17), cX8_1 cI g0 (stR o114_0 6 u17), cX8_3 cI g0 (stR o114_0 6 u17), cX8_4 cI g0 (stR o114_0 6 u17), cX8_6 cI g0 (stR o114_0 6 u17), cX8_8 cI g0 (stR o114_0 6 u17), cX8_9 cI g0 (stR o114_0 6 u17), cX8_10 cI g0 (stR o114_0 6 u17), cX8_12 cI g0 (stR o114_0 6 u17), cX8_13 cI g0 (stR o114_0 6 u17), cX8_15 cI g0 (stR o114_0 6 u17), cX8_17 cI g0 (stR o114_0 6 u17), cX8_18 cI g0 (stR o114_0 6 u17), cX8_22 cB g0 (stR o114_0 6 u17), cX8_27 cI g0 (stR o114_0 6 u17), cX8_28 cI g0 (stR o114_0 6 u17), cX8_29 cI g0 (stR o114_0 6 u17), cX8_30 cI g0 (stR o114_0 6 u17), cX8_31 cI g0 (stR o114_0 6 u17), cX8_32 cI g0 (stR o114_0 6 u17), cX8_33 cI g0 (stR o114_0 6 u17)]) H := hP
                    have hD : va_D A ([cX8 a0 g0 (stR o114_0 6 u17), cX8_0 cI g0 (stR o114_0 6 u17), cX8_1 cI g0 (stR o114_0 6 u17), cX8_3 cI g0 (stR o114_0 6 u17), cX8_4 cI g0 (stR o114_0 6 u17), cX8_6 cI g0 (stR o114_0 6 u17), cX8_8 cI g0 (stR o114_0 6 u17), cX8_9 cI g0 (stR o114_0 6 u17), cX8_10 cI g0 (stR o114_0 6 u17), cX8_12 cI g0 (stR o114_0 6 u17), cX8_13 cI g0 (stR o114_0 6 u17), cX8_15 cI g0 (stR o114_0 6 u17), cX8_17 cI g0 (stR o114_0 6 u17), cX8_18 cI g0 (stR o114_0 6 u17), cX8_22 cB g0 (stR o114_0 6 u17), cX8_27 cI g0 (stR o114_0 6 u17), cX8_28 cI g0 (stR o114_0 6 u17), cX8_29 cI g0 (stR o114_0 6 u17), cX8_30 cI g0 (stR o114_0 6 u17), cX8_31 cI g0 (stR o114_0 6 u17), cX8_32 cI g0 (stR o114_0 6 u17), cX8_33 cI g0 (stR o114_0 6 u17)]) := hD
                    obtain ⟨x18, hx18, h⟩ := bnd_e h
                    refine lv_iinc (v := x18) (lv' := [(1, .int x18), (0, .ref a0)]) hx hb dX8_settles_131 hl (k := 1) rfl (by rw [← hx18]; rfl) (by decide) rfl (fun ls hl => ?_)
                    refine lv_goto (tgt := 114) hx hb dX8_settles_134 (by decide) ?_
                    exact ih114 x18 (stR o114_0 6 u17) h _ _ _ hP hD hS (lv_sub hl [1, 0] rfl)
              exact lp114 FU (0 : Int32) o76_0 h _ _ _ hP hD hS (lv_sub hl [1, 0] rfl)
            · have h := ite_f k7 h
              refine lv_aload_n hx hb dX8_settles_82 rfl (lv_at hl 0 rfl) ?_
              refine va_get (D := (dC, dI)) (ci := 8) (v := .ref (g0 3)) (C := RX8) (T := TX8) (N := 36) hx hb hts hiX8 hown hKK.1 hP 0 rfl rfl 3 (by decide) (hts (.fieldLink RX8 16 "SlideLandModel" "sort" "[I") (List.mem_of_getElem? (i := 11) rfl)) (fun _ h9 => h9) rfl dX8_settles_83 ?_
              refine lv_iload_n hx hb dX8_settles_86 rfl (lv_at hl 1 rfl) ?_
              refine lv_aload_n hx hb dX8_settles_87 rfl (lv_at hl 0 rfl) ?_
              refine va_get (D := (dC, dI)) (ci := 8) (v := .ref (g0 12)) (C := RX8) (T := TX8) (N := 36) hx hb hts hiX8 hown hKK.1 hP 0 rfl rfl 12 (by decide) (hts (.fieldLink RX8 34 "SlideLandModel" "newSort" "[I") (List.mem_of_getElem? (i := 12) rfl)) (fun _ h9 => h9) rfl dX8_settles_88 ?_
              refine lv_iload_n hx hb dX8_settles_91 rfl (lv_at hl 1 rfl) ?_
              obtain ⟨k19, h⟩ := ite_n h
              refine va_iald hx hb hKK.1 hP 9 1 rfl rfl k19 dX8_settles_92 ?_
              obtain ⟨k20, h⟩ := ite_n h
              obtain ⟨u21, hu21, h⟩ := bnd_e h
              refine k_iast (f := (o76_0.2 3)) hx hb hKK.1 hP hD hS 3 1 hu21 rfl rfl k20 dX8_settles_93 (fun H locs hP hD hS => ?_)
              have hP : va_P (dC, dI) vwCl ([cX8 a0 g0 (stR o76_0 3 u21), cX8_0 cI g0 (stR o76_0 3 u21), cX8_1 cI g0 (stR o76_0 3 u21), cX8_3 cI g0 (stR o76_0 3 u21), cX8_4 cI g0 (stR o76_0 3 u21), cX8_6 cI g0 (stR o76_0 3 u21), cX8_8 cI g0 (stR o76_0 3 u21), cX8_9 cI g0 (stR o76_0 3 u21), cX8_10 cI g0 (stR o76_0 3 u21), cX8_12 cI g0 (stR o76_0 3 u21), cX8_13 cI g0 (stR o76_0 3 u21), cX8_15 cI g0 (stR o76_0 3 u21), cX8_17 cI g0 (stR o76_0 3 u21), cX8_18 cI g0 (stR o76_0 3 u21), cX8_22 cB g0 (stR o76_0 3 u21), cX8_27 cI g0 (stR o76_0 3 u21), cX8_28 cI g0 (stR o76_0 3 u21), cX8_29 cI g0 (stR o76_0 3 u21), cX8_30 cI g0 (stR o76_0 3 u21), cX8_31 cI g0 (stR o76_0 3 u21), cX8_32 cI g0 (stR o76_0 3 u21), cX8_33 cI g0 (stR o76_0 3 u21)]) H := hP
              have hD : va_D A ([cX8 a0 g0 (stR o76_0 3 u21), cX8_0 cI g0 (stR o76_0 3 u21), cX8_1 cI g0 (stR o76_0 3 u21), cX8_3 cI g0 (stR o76_0 3 u21), cX8_4 cI g0 (stR o76_0 3 u21), cX8_6 cI g0 (stR o76_0 3 u21), cX8_8 cI g0 (stR o76_0 3 u21), cX8_9 cI g0 (stR o76_0 3 u21), cX8_10 cI g0 (stR o76_0 3 u21), cX8_12 cI g0 (stR o76_0 3 u21), cX8_13 cI g0 (stR o76_0 3 u21), cX8_15 cI g0 (stR o76_0 3 u21), cX8_17 cI g0 (stR o76_0 3 u21), cX8_18 cI g0 (stR o76_0 3 u21), cX8_22 cB g0 (stR o76_0 3 u21), cX8_27 cI g0 (stR o76_0 3 u21), cX8_28 cI g0 (stR o76_0 3 u21), cX8_29 cI g0 (stR o76_0 3 u21), cX8_30 cI g0 (stR o76_0 3 u21), cX8_31 cI g0 (stR o76_0 3 u21), cX8_32 cI g0 (stR o76_0 3 u21), cX8_33 cI g0 (stR o76_0 3 u21)]) := hD
              refine lv_aload_n hx hb dX8_settles_94 rfl (lv_at hl 0 rfl) ?_
              refine va_get (D := (dC, dI)) (ci := 8) (v := .ref (g0 4)) (C := RX8) (T := TX8) (N := 36) hx hb hts hiX8 hown hKK.1 hP 0 rfl rfl 4 (by decide) (hts (.fieldLink RX8 19 "SlideLandModel" "own" "[I") (List.mem_of_getElem? (i := 13) rfl)) (fun _ h9 => h9) rfl dX8_settles_95 ?_
              refine lv_iload_n hx hb dX8_settles_98 rfl (lv_at hl 1 rfl) ?_
              refine lv_aload_n hx hb dX8_settles_99 rfl (lv_at hl 0 rfl) ?_
              refine va_get (D := (dC, dI)) (ci := 8) (v := .ref (g0 13)) (C := RX8) (T := TX8) (N := 36) hx hb hts hiX8 hown hKK.1 hP 0 rfl rfl 13 (by decide) (hts (.fieldLink RX8 37 "SlideLandModel" "newOwn" "[I") (List.mem_of_getElem? (i := 14) rfl)) (fun _ h9 => h9) rfl dX8_settles_100 ?_
              refine lv_iload_n hx hb dX8_settles_103 rfl (lv_at hl 1 rfl) ?_
              obtain ⟨k22, h⟩ := ite_n h
              refine va_iald hx hb hKK.1 hP 10 1 rfl rfl k22 dX8_settles_104 ?_
              obtain ⟨k23, h⟩ := ite_n h
              obtain ⟨u24, hu24, h⟩ := bnd_e h
              refine k_iast (f := (o76_0.2 4)) hx hb hKK.1 hP hD hS 4 1 hu24 rfl rfl k23 dX8_settles_105 (fun H locs hP hD hS => ?_)
              have hP : va_P (dC, dI) vwCl ([cX8 a0 g0 (stR (stR o76_0 3 u21) 4 u24), cX8_0 cI g0 (stR (stR o76_0 3 u21) 4 u24), cX8_1 cI g0 (stR (stR o76_0 3 u21) 4 u24), cX8_3 cI g0 (stR (stR o76_0 3 u21) 4 u24), cX8_4 cI g0 (stR (stR o76_0 3 u21) 4 u24), cX8_6 cI g0 (stR (stR o76_0 3 u21) 4 u24), cX8_8 cI g0 (stR (stR o76_0 3 u21) 4 u24), cX8_9 cI g0 (stR (stR o76_0 3 u21) 4 u24), cX8_10 cI g0 (stR (stR o76_0 3 u21) 4 u24), cX8_12 cI g0 (stR (stR o76_0 3 u21) 4 u24), cX8_13 cI g0 (stR (stR o76_0 3 u21) 4 u24), cX8_15 cI g0 (stR (stR o76_0 3 u21) 4 u24), cX8_17 cI g0 (stR (stR o76_0 3 u21) 4 u24), cX8_18 cI g0 (stR (stR o76_0 3 u21) 4 u24), cX8_22 cB g0 (stR (stR o76_0 3 u21) 4 u24), cX8_27 cI g0 (stR (stR o76_0 3 u21) 4 u24), cX8_28 cI g0 (stR (stR o76_0 3 u21) 4 u24), cX8_29 cI g0 (stR (stR o76_0 3 u21) 4 u24), cX8_30 cI g0 (stR (stR o76_0 3 u21) 4 u24), cX8_31 cI g0 (stR (stR o76_0 3 u21) 4 u24), cX8_32 cI g0 (stR (stR o76_0 3 u21) 4 u24), cX8_33 cI g0 (stR (stR o76_0 3 u21) 4 u24)]) H := hP
              have hD : va_D A ([cX8 a0 g0 (stR (stR o76_0 3 u21) 4 u24), cX8_0 cI g0 (stR (stR o76_0 3 u21) 4 u24), cX8_1 cI g0 (stR (stR o76_0 3 u21) 4 u24), cX8_3 cI g0 (stR (stR o76_0 3 u21) 4 u24), cX8_4 cI g0 (stR (stR o76_0 3 u21) 4 u24), cX8_6 cI g0 (stR (stR o76_0 3 u21) 4 u24), cX8_8 cI g0 (stR (stR o76_0 3 u21) 4 u24), cX8_9 cI g0 (stR (stR o76_0 3 u21) 4 u24), cX8_10 cI g0 (stR (stR o76_0 3 u21) 4 u24), cX8_12 cI g0 (stR (stR o76_0 3 u21) 4 u24), cX8_13 cI g0 (stR (stR o76_0 3 u21) 4 u24), cX8_15 cI g0 (stR (stR o76_0 3 u21) 4 u24), cX8_17 cI g0 (stR (stR o76_0 3 u21) 4 u24), cX8_18 cI g0 (stR (stR o76_0 3 u21) 4 u24), cX8_22 cB g0 (stR (stR o76_0 3 u21) 4 u24), cX8_27 cI g0 (stR (stR o76_0 3 u21) 4 u24), cX8_28 cI g0 (stR (stR o76_0 3 u21) 4 u24), cX8_29 cI g0 (stR (stR o76_0 3 u21) 4 u24), cX8_30 cI g0 (stR (stR o76_0 3 u21) 4 u24), cX8_31 cI g0 (stR (stR o76_0 3 u21) 4 u24), cX8_32 cI g0 (stR (stR o76_0 3 u21) 4 u24), cX8_33 cI g0 (stR (stR o76_0 3 u21) 4 u24)]) := hD
              obtain ⟨x25, hx25, h⟩ := bnd_e h
              refine lv_iinc (v := x25) (lv' := [(1, .int x25), (0, .ref a0)]) hx hb dX8_settles_106 hl (k := 1) rfl (by rw [← hx25]; rfl) (by decide) rfl (fun ls hl => ?_)
              refine lv_goto (tgt := 76) hx hb dX8_settles_109 (by decide) ?_
              exact ih76 x25 (stR (stR o76_0 3 u21) 4 u24) h _ _ _ hP hD hS (lv_sub hl [1, 0] rfl)
        exact lp76 FU (0 : Int32) o50_0 h _ _ _ hP hD hS (lv_sub hl [1, 0] rfl)
      · have h := ite_f k6 h
        refine lv_aload_n hx hb dX8_settles_56 rfl (lv_at hl 0 rfl) ?_
        refine va_get (D := (dC, dI)) (ci := 8) (v := .ref (g0 1)) (C := RX8) (T := TX8) (N := 36) hx hb hts hiX8 hown hKK.1 hP 0 rfl rfl 1 (by decide) (hts (.fieldLink RX8 13 "SlideLandModel" "inch" "[I") (List.mem_of_getElem? (i := 9) rfl)) (fun _ h9 => h9) rfl dX8_settles_57 ?_
        refine lv_iload_n hx hb dX8_settles_60 rfl (lv_at hl 1 rfl) ?_
        refine lv_aload_n hx hb dX8_settles_61 rfl (lv_at hl 0 rfl) ?_
        refine va_get (D := (dC, dI)) (ci := 8) (v := .ref (g0 10)) (C := RX8) (T := TX8) (N := 36) hx hb hts hiX8 hown hKK.1 hP 0 rfl rfl 10 (by decide) (hts (.fieldLink RX8 31 "SlideLandModel" "newInch" "[I") (List.mem_of_getElem? (i := 10) rfl)) (fun _ h9 => h9) rfl dX8_settles_62 ?_
        refine lv_iload_n hx hb dX8_settles_65 rfl (lv_at hl 1 rfl) ?_
        obtain ⟨k26, h⟩ := ite_n h
        refine va_iald hx hb hKK.1 hP 8 1 rfl rfl k26 dX8_settles_66 ?_
        obtain ⟨k27, h⟩ := ite_n h
        obtain ⟨u28, hu28, h⟩ := bnd_e h
        refine k_iast (f := (o50_0.2 1)) hx hb hKK.1 hP hD hS 2 1 hu28 rfl rfl k27 dX8_settles_67 (fun H locs hP hD hS => ?_)
        have hP : va_P (dC, dI) vwCl ([cX8 a0 g0 (stR o50_0 1 u28), cX8_0 cI g0 (stR o50_0 1 u28), cX8_1 cI g0 (stR o50_0 1 u28), cX8_3 cI g0 (stR o50_0 1 u28), cX8_4 cI g0 (stR o50_0 1 u28), cX8_6 cI g0 (stR o50_0 1 u28), cX8_8 cI g0 (stR o50_0 1 u28), cX8_9 cI g0 (stR o50_0 1 u28), cX8_10 cI g0 (stR o50_0 1 u28), cX8_12 cI g0 (stR o50_0 1 u28), cX8_13 cI g0 (stR o50_0 1 u28), cX8_15 cI g0 (stR o50_0 1 u28), cX8_17 cI g0 (stR o50_0 1 u28), cX8_18 cI g0 (stR o50_0 1 u28), cX8_22 cB g0 (stR o50_0 1 u28), cX8_27 cI g0 (stR o50_0 1 u28), cX8_28 cI g0 (stR o50_0 1 u28), cX8_29 cI g0 (stR o50_0 1 u28), cX8_30 cI g0 (stR o50_0 1 u28), cX8_31 cI g0 (stR o50_0 1 u28), cX8_32 cI g0 (stR o50_0 1 u28), cX8_33 cI g0 (stR o50_0 1 u28)]) H := hP
        have hD : va_D A ([cX8 a0 g0 (stR o50_0 1 u28), cX8_0 cI g0 (stR o50_0 1 u28), cX8_1 cI g0 (stR o50_0 1 u28), cX8_3 cI g0 (stR o50_0 1 u28), cX8_4 cI g0 (stR o50_0 1 u28), cX8_6 cI g0 (stR o50_0 1 u28), cX8_8 cI g0 (stR o50_0 1 u28), cX8_9 cI g0 (stR o50_0 1 u28), cX8_10 cI g0 (stR o50_0 1 u28), cX8_12 cI g0 (stR o50_0 1 u28), cX8_13 cI g0 (stR o50_0 1 u28), cX8_15 cI g0 (stR o50_0 1 u28), cX8_17 cI g0 (stR o50_0 1 u28), cX8_18 cI g0 (stR o50_0 1 u28), cX8_22 cB g0 (stR o50_0 1 u28), cX8_27 cI g0 (stR o50_0 1 u28), cX8_28 cI g0 (stR o50_0 1 u28), cX8_29 cI g0 (stR o50_0 1 u28), cX8_30 cI g0 (stR o50_0 1 u28), cX8_31 cI g0 (stR o50_0 1 u28), cX8_32 cI g0 (stR o50_0 1 u28), cX8_33 cI g0 (stR o50_0 1 u28)]) := hD
        obtain ⟨x29, hx29, h⟩ := bnd_e h
        refine lv_iinc (v := x29) (lv' := [(1, .int x29), (0, .ref a0)]) hx hb dX8_settles_68 hl (k := 1) rfl (by rw [← hx29]; rfl) (by decide) rfl (fun ls hl => ?_)
        refine lv_goto (tgt := 50) hx hb dX8_settles_71 (by decide) ?_
        exact ih50 x29 (stR o50_0 1 u28) h _ _ _ hP hD hS (lv_sub hl [1, 0] rfl)
  exact lp50 FU (0 : Int32) (stR (stF (stF (stF o0 2 x3) 5 x4) 7 x5) 0 u2) h _ _ _ hP hD hS (lv_sub hl [1, 0] rfl)
def f_X8_isOne (o0 : Ob) (v1 : Int32) (v2 : Int32) : Option (Bool) := bnd (f_X8_in (v1.toInt64) (0 : Int64) (1 : Int64)) fun q1 : Bool => if (b2i q1) = 0 then (some false) else (if v1 < 0 ∨ 2 ≤ v1.toNatClampNeg then none else bnd (f_X8_in (v2.toInt64) (0 : Int64) (((((o0.2 0) v1.toNatClampNeg) - (1 : Int32))).toInt64)) fun q4 : Bool => if (b2i q4) = 0 then (some false) else (some true))
abbrev rmX8_isOne : Room := { frames := 1, cells := 0, slots := 0, locals := 25 }
theorem dsc_X8_isOne : yX8_isOne.cls ≠ "java/lang/invoke/MethodHandle" ∧ yX8_isOne.cls ≠ "java/lang/invoke/VarHandle" ∧ (parseMethodDescriptor yX8_isOne.desc).map (fun d => d.parameters.length) = some 2 := by decide +kernel
set_option maxHeartbeats 4000000 in
set_option maxRecDepth 100000 in
theorem c_X8_isOne (l : Launch) (dC : Nat → ClassId) (dI : Nat → Nat → Nat) (cB cI cZ cO : ClassId) (a0 : Nat) (g0 : Nat → Nat) (o0 : Ob) (v1 : Int32) (v2 : Int32) {r : Bool} (h : f_X8_isOne o0 v1 v2 = some r) : Ct dC dI cB cI cZ cO l yX8_isOne wsX8_isOne rmX8_isOne [.ref a0, .int v1, .int v2] ([cX8 a0 g0 o0, cX8_0 cI g0 o0, cX8_1 cI g0 o0, cX8_3 cI g0 o0, cX8_4 cI g0 o0, cX8_6 cI g0 o0, cX8_8 cI g0 o0, cX8_9 cI g0 o0, cX8_10 cI g0 o0, cX8_12 cI g0 o0, cX8_13 cI g0 o0, cX8_15 cI g0 o0, cX8_17 cI g0 o0, cX8_18 cI g0 o0, cX8_22 cB g0 o0, cX8_27 cI g0 o0, cX8_28 cI g0 o0, cX8_29 cI g0 o0, cX8_30 cI g0 o0, cX8_31 cI g0 o0, cX8_32 cI g0 o0, cX8_33 cI g0 o0]) (some (.int (b2i r))) ([cX8 a0 g0 o0, cX8_0 cI g0 o0, cX8_1 cI g0 o0, cX8_3 cI g0 o0, cX8_4 cI g0 o0, cX8_6 cI g0 o0, cX8_8 cI g0 o0, cX8_9 cI g0 o0, cX8_10 cI g0 o0, cX8_12 cI g0 o0, cX8_13 cI g0 o0, cX8_15 cI g0 o0, cX8_17 cI g0 o0, cX8_18 cI g0 o0, cX8_22 cB g0 o0, cX8_27 cI g0 o0, cX8_28 cI g0 o0, cX8_29 cI g0 o0, cX8_30 cI g0 o0, cX8_31 cI g0 o0, cX8_32 cI g0 o0, cX8_33 cI g0 o0]) := by
  intro sz
  refine Met.ofW (cc := cX8_isOne) (maxL := 3) (ret := (some .boolean)) (by decide) rfl ?_
  intro p e s m args below meth c s₁ B hml hv
  obtain ⟨rfl, hsz, hP, hKK, hD0⟩ := hv
  have hx := B.exec
  have hb := B.bytes
  have hr := B.returns
  have hts := atoms_spec (ws := wsX8_isOne) B.pre
  have hown : s.vm.findClass RX8 = some m.cls := findClass_of_methodNamed B.named
  have hlocks := B.notSynchronized
  have hiX8 : ∀ w ∈ u_ws RX8 TX8 36, w ∈ wsX8_isOne := fun w h => List.mem_cons_of_mem _ (List.mem_append_right _ h)
  subst hsz
  have hD := hD0.self (sz := s.heap.size)
  generalize hAe : va_A ([cX8 a0 g0 o0, cX8_0 cI g0 o0, cX8_1 cI g0 o0, cX8_3 cI g0 o0, cX8_4 cI g0 o0, cX8_6 cI g0 o0, cX8_8 cI g0 o0, cX8_9 cI g0 o0, cX8_10 cI g0 o0, cX8_12 cI g0 o0, cX8_13 cI g0 o0, cX8_15 cI g0 o0, cX8_17 cI g0 o0, cX8_18 cI g0 o0, cX8_22 cB g0 o0, cX8_27 cI g0 o0, cX8_28 cI g0 o0, cX8_29 cI g0 o0, cX8_30 cI g0 o0, cX8_31 cI g0 o0, cX8_32 cI g0 o0, cX8_33 cI g0 o0]) s.heap.size = A at hD ⊢
  have hA : ∀ q : Nat, s.heap.size ≤ q → A q := fun q h => by rw [← hAe]; exact Or.inr h
  have hS : va_S A s.heap s.heap [] := va_S.rf
  have hP : va_P (dC, dI) vwCl ([cX8 a0 g0 o0, cX8_0 cI g0 o0, cX8_1 cI g0 o0, cX8_3 cI g0 o0, cX8_4 cI g0 o0, cX8_6 cI g0 o0, cX8_8 cI g0 o0, cX8_9 cI g0 o0, cX8_10 cI g0 o0, cX8_12 cI g0 o0, cX8_13 cI g0 o0, cX8_15 cI g0 o0, cX8_17 cI g0 o0, cX8_18 cI g0 o0, cX8_22 cB g0 o0, cX8_27 cI g0 o0, cX8_28 cI g0 o0, cX8_29 cI g0 o0, cX8_30 cI g0 o0, cX8_31 cI g0 o0, cX8_32 cI g0 o0, cX8_33 cI g0 o0]) s.heap := hP
  have hD : va_D A ([cX8 a0 g0 o0, cX8_0 cI g0 o0, cX8_1 cI g0 o0, cX8_3 cI g0 o0, cX8_4 cI g0 o0, cX8_6 cI g0 o0, cX8_8 cI g0 o0, cX8_9 cI g0 o0, cX8_10 cI g0 o0, cX8_12 cI g0 o0, cX8_13 cI g0 o0, cX8_15 cI g0 o0, cX8_17 cI g0 o0, cX8_18 cI g0 o0, cX8_22 cB g0 o0, cX8_27 cI g0 o0, cX8_28 cI g0 o0, cX8_29 cI g0 o0, cX8_30 cI g0 o0, cX8_31 cI g0 o0, cX8_32 cI g0 o0, cX8_33 cI g0 o0]) := hD
  have hl := lv_entry ([.ref a0, .int v1, .int v2]) (n := 3) (Nat.le_of_ble_eq_true rfl)
  rw [lg_entry_eq]
  generalize (lg_sl ([.ref a0, .int v1, .int v2]) ++ List.replicate (3 - (lg_sl ([.ref a0, .int v1, .int v2])).length) Slot.unset).toArray = ls at hl ⊢
  have hl : lv_has ls 3 [(0, .ref a0), (1, .int v1), (2, .int v2)] := hl
  obtain ⟨Q, hQ⟩ : ∃ Q, Q = MQ below (Qq dC dI (some (.int (b2i r))) ([cX8 a0 g0 o0, cX8_0 cI g0 o0, cX8_1 cI g0 o0, cX8_3 cI g0 o0, cX8_4 cI g0 o0, cX8_6 cI g0 o0, cX8_8 cI g0 o0, cX8_9 cI g0 o0, cX8_10 cI g0 o0, cX8_12 cI g0 o0, cX8_13 cI g0 o0, cX8_15 cI g0 o0, cX8_17 cI g0 o0, cX8_18 cI g0 o0, cX8_22 cB g0 o0, cX8_27 cI g0 o0, cX8_28 cI g0 o0, cX8_29 cI g0 o0, cX8_30 cI g0 o0, cX8_31 cI g0 o0, cX8_32 cI g0 o0, cX8_33 cI g0 o0]) A) ([.ref a0, .int v1, .int v2] : List Value).toArray s 0 0 A := ⟨_, rfl⟩
  rw [← hQ]
  rw [f_X8_isOne] at h
  clear hAe hD0
  refine lv_iload_n hx hb dX8_isOne_0 rfl (lv_at hl 1 rfl) ?_
  refine lv_i2l hx hb dX8_isOne_1 rfl ?_
  refine lv_lconst (v := 0) hx hb dX8_isOne_2 (by decide) ?_
  refine lv_lconst (v := 1) hx hb dX8_isOne_3 (by decide) ?_
  obtain ⟨q1, hq1, h⟩ := bnd_e h
  refine kcS (rest := []) (w2 := ([cX8 a0 g0 o0, cX8_0 cI g0 o0, cX8_1 cI g0 o0, cX8_3 cI g0 o0, cX8_4 cI g0 o0, cX8_6 cI g0 o0, cX8_8 cI g0 o0, cX8_9 cI g0 o0, cX8_10 cI g0 o0, cX8_12 cI g0 o0, cX8_13 cI g0 o0, cX8_15 cI g0 o0, cX8_17 cI g0 o0, cX8_18 cI g0 o0, cX8_22 cB g0 o0, cX8_27 cI g0 o0, cX8_28 cI g0 o0, cX8_29 cI g0 o0, cX8_30 cI g0 o0, cX8_31 cI g0 o0, cX8_32 cI g0 o0, cX8_33 cI g0 o0])) hx hb hml hown hts hKK hP hD hS hA (c_X8_in l dC dI cB cI cZ cO (v1.toInt64) (0 : Int64) (1 : Int64) hq1) [] (atAll_map trivial) (by decide +kernel) (sameAd_map trivial) (atAll_map trivial) (agr_refl _ _ _) (va_cwS 3 hts gX8_isOne_X8_in rfl rfl rfl dsc_X8_in ⟨Nat.le_of_ble_eq_true rfl, Nat.le_of_ble_eq_true rfl⟩) rfl hl.1 rfl (Nat.le_of_ble_eq_true rfl) dX8_isOne_4 ⟨Nat.zero_le _, Nat.zero_le _⟩ (fun H locs hP hD hS => ?_)
  refine lv_if_eq (tgt := 32) hx hb dX8_isOne_7 (by decide) (fun k2 => ?_) (fun k2 => ?_)
  · have h := ite_t k2 h
    refine lv_iconst (v := (0 : Int32)) hx hb dX8_isOne_32 (by decide) ?_
    have h := Option.some.inj h
    subst h
    subst hQ
    exact W.zret (v := (0 : Int32)) hx hb hr rfl (fun t ht hW => ⟨⟨rfl, by rw [ht]; exact hP, hD⟩, hS.F ht⟩) hS.2.2 dX8_isOne_33
  · have h := ite_f k2 h
    refine lv_iload_n hx hb dX8_isOne_10 rfl (lv_at hl 2 rfl) ?_
    refine lv_i2l hx hb dX8_isOne_11 rfl ?_
    refine lv_lconst (v := 0) hx hb dX8_isOne_12 (by decide) ?_
    refine lv_aload_n hx hb dX8_isOne_13 rfl (lv_at hl 0 rfl) ?_
    refine va_get (D := (dC, dI)) (ci := 8) (v := .ref (g0 0)) (C := RX8) (T := TX8) (N := 36) hx hb hts hiX8 hown hKK.1 hP 0 rfl rfl 0 (by decide) (hts (.fieldLink RX8 7 "SlideLandModel" "many" "[I") (List.mem_of_getElem? (i := 1) rfl)) (fun _ h9 => h9) rfl dX8_isOne_14 ?_
    refine lv_iload_n hx hb dX8_isOne_17 rfl (lv_at hl 1 rfl) ?_
    obtain ⟨k3, h⟩ := ite_n h
    refine va_iald hx hb hKK.1 hP 1 1 rfl rfl k3 dX8_isOne_18 ?_
    refine lv_iconst (v := (1 : Int32)) hx hb dX8_isOne_19 (by decide) ?_
    refine lv_isub hx hb dX8_isOne_20 ?_
    refine lv_i2l hx hb dX8_isOne_21 rfl ?_
    obtain ⟨q4, hq4, h⟩ := bnd_e h
    refine kcS (rest := []) (w2 := ([cX8 a0 g0 o0, cX8_0 cI g0 o0, cX8_1 cI g0 o0, cX8_3 cI g0 o0, cX8_4 cI g0 o0, cX8_6 cI g0 o0, cX8_8 cI g0 o0, cX8_9 cI g0 o0, cX8_10 cI g0 o0, cX8_12 cI g0 o0, cX8_13 cI g0 o0, cX8_15 cI g0 o0, cX8_17 cI g0 o0, cX8_18 cI g0 o0, cX8_22 cB g0 o0, cX8_27 cI g0 o0, cX8_28 cI g0 o0, cX8_29 cI g0 o0, cX8_30 cI g0 o0, cX8_31 cI g0 o0, cX8_32 cI g0 o0, cX8_33 cI g0 o0])) hx hb hml hown hts hKK hP hD hS hA (c_X8_in l dC dI cB cI cZ cO (v2.toInt64) (0 : Int64) (((((o0.2 0) v1.toNatClampNeg) - (1 : Int32))).toInt64) hq4) [] (atAll_map trivial) (by decide +kernel) (sameAd_map trivial) (atAll_map trivial) (agr_refl _ _ _) (va_cwS 3 hts gX8_isOne_X8_in rfl rfl rfl dsc_X8_in ⟨Nat.le_of_ble_eq_true rfl, Nat.le_of_ble_eq_true rfl⟩) rfl hl.1 rfl (Nat.le_of_ble_eq_true rfl) dX8_isOne_22 ⟨Nat.zero_le _, Nat.zero_le _⟩ (fun H locs hP hD hS => ?_)
    refine lv_if_eq (tgt := 32) hx hb dX8_isOne_25 (by decide) (fun k5 => ?_) (fun k5 => ?_)
    · have h := ite_t k5 h
      refine lv_iconst (v := (0 : Int32)) hx hb dX8_isOne_32 (by decide) ?_
      have h := Option.some.inj h
      subst h
      subst hQ
      exact W.zret (v := (0 : Int32)) hx hb hr rfl (fun t ht hW => ⟨⟨rfl, by rw [ht]; exact hP, hD⟩, hS.F ht⟩) hS.2.2 dX8_isOne_33
    · have h := ite_f k5 h
      refine lv_iconst (v := (1 : Int32)) hx hb dX8_isOne_28 (by decide) ?_
      refine lv_goto (tgt := 33) hx hb dX8_isOne_29 (by decide) ?_
      have h := Option.some.inj h
      subst h
      subst hQ
      exact W.zret (v := (1 : Int32)) hx hb hr rfl (fun t ht hW => ⟨⟨rfl, by rw [ht]; exact hP, hD⟩, hS.F ht⟩) hS.2.2 dX8_isOne_33
def f_X8_isStrip (o0 : Ob) (v1 : Int32) : Bool := bnd (f_X8_in (v1.toInt64) (0 : Int64) ((((o0.1 2) - (1 : Int32))).toInt64)) fun q1 : Bool => q1
abbrev rmX8_isStrip : Room := { frames := 1, cells := 0, slots := 0, locals := 25 }
theorem dsc_X8_isStrip : yX8_isStrip.cls ≠ "java/lang/invoke/MethodHandle" ∧ yX8_isStrip.cls ≠ "java/lang/invoke/VarHandle" ∧ (parseMethodDescriptor yX8_isStrip.desc).map (fun d => d.parameters.length) = some 1 := by decide +kernel
set_option maxHeartbeats 4000000 in
set_option maxRecDepth 100000 in
theorem c_X8_isStrip (l : Launch) (dC : Nat → ClassId) (dI : Nat → Nat → Nat) (cB cI cZ cO : ClassId) (a0 : Nat) (g0 : Nat → Nat) (o0 : Ob) (v1 : Int32) {r : Bool} (h : f_X8_isStrip o0 v1 = r) : Ct dC dI cB cI cZ cO l yX8_isStrip wsX8_isStrip rmX8_isStrip [.ref a0, .int v1] ([cX8 a0 g0 o0, cX8_0 cI g0 o0, cX8_1 cI g0 o0, cX8_3 cI g0 o0, cX8_4 cI g0 o0, cX8_6 cI g0 o0, cX8_8 cI g0 o0, cX8_9 cI g0 o0, cX8_10 cI g0 o0, cX8_12 cI g0 o0, cX8_13 cI g0 o0, cX8_15 cI g0 o0, cX8_17 cI g0 o0, cX8_18 cI g0 o0, cX8_22 cB g0 o0, cX8_27 cI g0 o0, cX8_28 cI g0 o0, cX8_29 cI g0 o0, cX8_30 cI g0 o0, cX8_31 cI g0 o0, cX8_32 cI g0 o0, cX8_33 cI g0 o0]) (some (.int (b2i r))) ([cX8 a0 g0 o0, cX8_0 cI g0 o0, cX8_1 cI g0 o0, cX8_3 cI g0 o0, cX8_4 cI g0 o0, cX8_6 cI g0 o0, cX8_8 cI g0 o0, cX8_9 cI g0 o0, cX8_10 cI g0 o0, cX8_12 cI g0 o0, cX8_13 cI g0 o0, cX8_15 cI g0 o0, cX8_17 cI g0 o0, cX8_18 cI g0 o0, cX8_22 cB g0 o0, cX8_27 cI g0 o0, cX8_28 cI g0 o0, cX8_29 cI g0 o0, cX8_30 cI g0 o0, cX8_31 cI g0 o0, cX8_32 cI g0 o0, cX8_33 cI g0 o0]) := by
  intro sz
  refine Met.ofW (cc := cX8_isStrip) (maxL := 2) (ret := (some .boolean)) (by decide) rfl ?_
  intro p e s m args below meth c s₁ B hml hv
  obtain ⟨rfl, hsz, hP, hKK, hD0⟩ := hv
  have hx := B.exec
  have hb := B.bytes
  have hr := B.returns
  have hts := atoms_spec (ws := wsX8_isStrip) B.pre
  have hown : s.vm.findClass RX8 = some m.cls := findClass_of_methodNamed B.named
  have hlocks := B.notSynchronized
  have hiX8 : ∀ w ∈ u_ws RX8 TX8 36, w ∈ wsX8_isStrip := fun w h => List.mem_cons_of_mem _ (List.mem_append_right _ h)
  subst hsz
  have hD := hD0.self (sz := s.heap.size)
  generalize hAe : va_A ([cX8 a0 g0 o0, cX8_0 cI g0 o0, cX8_1 cI g0 o0, cX8_3 cI g0 o0, cX8_4 cI g0 o0, cX8_6 cI g0 o0, cX8_8 cI g0 o0, cX8_9 cI g0 o0, cX8_10 cI g0 o0, cX8_12 cI g0 o0, cX8_13 cI g0 o0, cX8_15 cI g0 o0, cX8_17 cI g0 o0, cX8_18 cI g0 o0, cX8_22 cB g0 o0, cX8_27 cI g0 o0, cX8_28 cI g0 o0, cX8_29 cI g0 o0, cX8_30 cI g0 o0, cX8_31 cI g0 o0, cX8_32 cI g0 o0, cX8_33 cI g0 o0]) s.heap.size = A at hD ⊢
  have hA : ∀ q : Nat, s.heap.size ≤ q → A q := fun q h => by rw [← hAe]; exact Or.inr h
  have hS : va_S A s.heap s.heap [] := va_S.rf
  have hP : va_P (dC, dI) vwCl ([cX8 a0 g0 o0, cX8_0 cI g0 o0, cX8_1 cI g0 o0, cX8_3 cI g0 o0, cX8_4 cI g0 o0, cX8_6 cI g0 o0, cX8_8 cI g0 o0, cX8_9 cI g0 o0, cX8_10 cI g0 o0, cX8_12 cI g0 o0, cX8_13 cI g0 o0, cX8_15 cI g0 o0, cX8_17 cI g0 o0, cX8_18 cI g0 o0, cX8_22 cB g0 o0, cX8_27 cI g0 o0, cX8_28 cI g0 o0, cX8_29 cI g0 o0, cX8_30 cI g0 o0, cX8_31 cI g0 o0, cX8_32 cI g0 o0, cX8_33 cI g0 o0]) s.heap := hP
  have hD : va_D A ([cX8 a0 g0 o0, cX8_0 cI g0 o0, cX8_1 cI g0 o0, cX8_3 cI g0 o0, cX8_4 cI g0 o0, cX8_6 cI g0 o0, cX8_8 cI g0 o0, cX8_9 cI g0 o0, cX8_10 cI g0 o0, cX8_12 cI g0 o0, cX8_13 cI g0 o0, cX8_15 cI g0 o0, cX8_17 cI g0 o0, cX8_18 cI g0 o0, cX8_22 cB g0 o0, cX8_27 cI g0 o0, cX8_28 cI g0 o0, cX8_29 cI g0 o0, cX8_30 cI g0 o0, cX8_31 cI g0 o0, cX8_32 cI g0 o0, cX8_33 cI g0 o0]) := hD
  have hl := lv_entry ([.ref a0, .int v1]) (n := 2) (Nat.le_of_ble_eq_true rfl)
  rw [lg_entry_eq]
  generalize (lg_sl ([.ref a0, .int v1]) ++ List.replicate (2 - (lg_sl ([.ref a0, .int v1])).length) Slot.unset).toArray = ls at hl ⊢
  have hl : lv_has ls 2 [(0, .ref a0), (1, .int v1)] := hl
  obtain ⟨Q, hQ⟩ : ∃ Q, Q = MQ below (Qq dC dI (some (.int (b2i r))) ([cX8 a0 g0 o0, cX8_0 cI g0 o0, cX8_1 cI g0 o0, cX8_3 cI g0 o0, cX8_4 cI g0 o0, cX8_6 cI g0 o0, cX8_8 cI g0 o0, cX8_9 cI g0 o0, cX8_10 cI g0 o0, cX8_12 cI g0 o0, cX8_13 cI g0 o0, cX8_15 cI g0 o0, cX8_17 cI g0 o0, cX8_18 cI g0 o0, cX8_22 cB g0 o0, cX8_27 cI g0 o0, cX8_28 cI g0 o0, cX8_29 cI g0 o0, cX8_30 cI g0 o0, cX8_31 cI g0 o0, cX8_32 cI g0 o0, cX8_33 cI g0 o0]) A) ([.ref a0, .int v1] : List Value).toArray s 0 0 A := ⟨_, rfl⟩
  rw [← hQ]
  rw [f_X8_isStrip] at h
  clear hAe hD0
  refine lv_iload_n hx hb dX8_isStrip_0 rfl (lv_at hl 1 rfl) ?_
  refine lv_i2l hx hb dX8_isStrip_1 rfl ?_
  refine lv_lconst (v := 0) hx hb dX8_isStrip_2 (by decide) ?_
  refine lv_aload_n hx hb dX8_isStrip_3 rfl (lv_at hl 0 rfl) ?_
  refine va_get (D := (dC, dI)) (ci := 8) (v := .int (o0.1 2)) (C := RX8) (T := TX8) (N := 36) hx hb hts hiX8 hown hKK.1 hP 0 rfl rfl 2 (by decide) (hts (.fieldLink RX8 98 "SlideLandModel" "strips" "I") (List.mem_of_getElem? (i := 1) rfl)) (fun _ h9 => h9) rfl dX8_isStrip_4 ?_
  refine lv_iconst (v := (1 : Int32)) hx hb dX8_isStrip_7 (by decide) ?_
  refine lv_isub hx hb dX8_isStrip_8 ?_
  refine lv_i2l hx hb dX8_isStrip_9 rfl ?_
  obtain ⟨q1, hq1, h⟩ := bnd_e h
  refine kcS (rest := []) (w2 := ([cX8 a0 g0 o0, cX8_0 cI g0 o0, cX8_1 cI g0 o0, cX8_3 cI g0 o0, cX8_4 cI g0 o0, cX8_6 cI g0 o0, cX8_8 cI g0 o0, cX8_9 cI g0 o0, cX8_10 cI g0 o0, cX8_12 cI g0 o0, cX8_13 cI g0 o0, cX8_15 cI g0 o0, cX8_17 cI g0 o0, cX8_18 cI g0 o0, cX8_22 cB g0 o0, cX8_27 cI g0 o0, cX8_28 cI g0 o0, cX8_29 cI g0 o0, cX8_30 cI g0 o0, cX8_31 cI g0 o0, cX8_32 cI g0 o0, cX8_33 cI g0 o0])) hx hb hml hown hts hKK hP hD hS hA (c_X8_in l dC dI cB cI cZ cO (v1.toInt64) (0 : Int64) ((((o0.1 2) - (1 : Int32))).toInt64) hq1) [] (atAll_map trivial) (by decide +kernel) (sameAd_map trivial) (atAll_map trivial) (agr_refl _ _ _) (va_cwS 3 hts gX8_isStrip_X8_in rfl rfl rfl dsc_X8_in ⟨Nat.le_of_ble_eq_true rfl, Nat.le_of_ble_eq_true rfl⟩) rfl hl.1 rfl (Nat.le_of_ble_eq_true rfl) dX8_isStrip_10 ⟨Nat.zero_le _, Nat.zero_le _⟩ (fun H locs hP hD hS => ?_)
  subst h
  subst hQ
  exact W.zret (v := (b2i q1)) hx hb hr (b2i_nar _) (fun t ht hW => ⟨⟨rfl, by rw [ht]; exact hP, hD⟩, hS.F ht⟩) hS.2.2 dX8_isStrip_13
def f_X8_isPush (o0 : Ob) (v1 : Int32) (v2 : Int32) : Bool := bnd (f_X8_in (v1.toInt64) (0 : Int64) ((((o0.1 5) - (1 : Int32))).toInt64)) fun q1 : Bool => if (b2i q1) = 0 then false else (bnd (f_X8_in (v2.toInt64) (0 : Int64) (1 : Int64)) fun q3 : Bool => if (b2i q3) = 0 then false else true)
abbrev rmX8_isPush : Room := { frames := 1, cells := 0, slots := 0, locals := 25 }
theorem dsc_X8_isPush : yX8_isPush.cls ≠ "java/lang/invoke/MethodHandle" ∧ yX8_isPush.cls ≠ "java/lang/invoke/VarHandle" ∧ (parseMethodDescriptor yX8_isPush.desc).map (fun d => d.parameters.length) = some 2 := by decide +kernel
set_option maxHeartbeats 4000000 in
set_option maxRecDepth 100000 in
theorem c_X8_isPush (l : Launch) (dC : Nat → ClassId) (dI : Nat → Nat → Nat) (cB cI cZ cO : ClassId) (a0 : Nat) (g0 : Nat → Nat) (o0 : Ob) (v1 : Int32) (v2 : Int32) {r : Bool} (h : f_X8_isPush o0 v1 v2 = r) : Ct dC dI cB cI cZ cO l yX8_isPush wsX8_isPush rmX8_isPush [.ref a0, .int v1, .int v2] ([cX8 a0 g0 o0, cX8_0 cI g0 o0, cX8_1 cI g0 o0, cX8_3 cI g0 o0, cX8_4 cI g0 o0, cX8_6 cI g0 o0, cX8_8 cI g0 o0, cX8_9 cI g0 o0, cX8_10 cI g0 o0, cX8_12 cI g0 o0, cX8_13 cI g0 o0, cX8_15 cI g0 o0, cX8_17 cI g0 o0, cX8_18 cI g0 o0, cX8_22 cB g0 o0, cX8_27 cI g0 o0, cX8_28 cI g0 o0, cX8_29 cI g0 o0, cX8_30 cI g0 o0, cX8_31 cI g0 o0, cX8_32 cI g0 o0, cX8_33 cI g0 o0]) (some (.int (b2i r))) ([cX8 a0 g0 o0, cX8_0 cI g0 o0, cX8_1 cI g0 o0, cX8_3 cI g0 o0, cX8_4 cI g0 o0, cX8_6 cI g0 o0, cX8_8 cI g0 o0, cX8_9 cI g0 o0, cX8_10 cI g0 o0, cX8_12 cI g0 o0, cX8_13 cI g0 o0, cX8_15 cI g0 o0, cX8_17 cI g0 o0, cX8_18 cI g0 o0, cX8_22 cB g0 o0, cX8_27 cI g0 o0, cX8_28 cI g0 o0, cX8_29 cI g0 o0, cX8_30 cI g0 o0, cX8_31 cI g0 o0, cX8_32 cI g0 o0, cX8_33 cI g0 o0]) := by
  intro sz
  refine Met.ofW (cc := cX8_isPush) (maxL := 3) (ret := (some .boolean)) (by decide) rfl ?_
  intro p e s m args below meth c s₁ B hml hv
  obtain ⟨rfl, hsz, hP, hKK, hD0⟩ := hv
  have hx := B.exec
  have hb := B.bytes
  have hr := B.returns
  have hts := atoms_spec (ws := wsX8_isPush) B.pre
  have hown : s.vm.findClass RX8 = some m.cls := findClass_of_methodNamed B.named
  have hlocks := B.notSynchronized
  have hiX8 : ∀ w ∈ u_ws RX8 TX8 36, w ∈ wsX8_isPush := fun w h => List.mem_cons_of_mem _ (List.mem_append_right _ h)
  subst hsz
  have hD := hD0.self (sz := s.heap.size)
  generalize hAe : va_A ([cX8 a0 g0 o0, cX8_0 cI g0 o0, cX8_1 cI g0 o0, cX8_3 cI g0 o0, cX8_4 cI g0 o0, cX8_6 cI g0 o0, cX8_8 cI g0 o0, cX8_9 cI g0 o0, cX8_10 cI g0 o0, cX8_12 cI g0 o0, cX8_13 cI g0 o0, cX8_15 cI g0 o0, cX8_17 cI g0 o0, cX8_18 cI g0 o0, cX8_22 cB g0 o0, cX8_27 cI g0 o0, cX8_28 cI g0 o0, cX8_29 cI g0 o0, cX8_30 cI g0 o0, cX8_31 cI g0 o0, cX8_32 cI g0 o0, cX8_33 cI g0 o0]) s.heap.size = A at hD ⊢
  have hA : ∀ q : Nat, s.heap.size ≤ q → A q := fun q h => by rw [← hAe]; exact Or.inr h
  have hS : va_S A s.heap s.heap [] := va_S.rf
  have hP : va_P (dC, dI) vwCl ([cX8 a0 g0 o0, cX8_0 cI g0 o0, cX8_1 cI g0 o0, cX8_3 cI g0 o0, cX8_4 cI g0 o0, cX8_6 cI g0 o0, cX8_8 cI g0 o0, cX8_9 cI g0 o0, cX8_10 cI g0 o0, cX8_12 cI g0 o0, cX8_13 cI g0 o0, cX8_15 cI g0 o0, cX8_17 cI g0 o0, cX8_18 cI g0 o0, cX8_22 cB g0 o0, cX8_27 cI g0 o0, cX8_28 cI g0 o0, cX8_29 cI g0 o0, cX8_30 cI g0 o0, cX8_31 cI g0 o0, cX8_32 cI g0 o0, cX8_33 cI g0 o0]) s.heap := hP
  have hD : va_D A ([cX8 a0 g0 o0, cX8_0 cI g0 o0, cX8_1 cI g0 o0, cX8_3 cI g0 o0, cX8_4 cI g0 o0, cX8_6 cI g0 o0, cX8_8 cI g0 o0, cX8_9 cI g0 o0, cX8_10 cI g0 o0, cX8_12 cI g0 o0, cX8_13 cI g0 o0, cX8_15 cI g0 o0, cX8_17 cI g0 o0, cX8_18 cI g0 o0, cX8_22 cB g0 o0, cX8_27 cI g0 o0, cX8_28 cI g0 o0, cX8_29 cI g0 o0, cX8_30 cI g0 o0, cX8_31 cI g0 o0, cX8_32 cI g0 o0, cX8_33 cI g0 o0]) := hD
  have hl := lv_entry ([.ref a0, .int v1, .int v2]) (n := 3) (Nat.le_of_ble_eq_true rfl)
  rw [lg_entry_eq]
  generalize (lg_sl ([.ref a0, .int v1, .int v2]) ++ List.replicate (3 - (lg_sl ([.ref a0, .int v1, .int v2])).length) Slot.unset).toArray = ls at hl ⊢
  have hl : lv_has ls 3 [(0, .ref a0), (1, .int v1), (2, .int v2)] := hl
  obtain ⟨Q, hQ⟩ : ∃ Q, Q = MQ below (Qq dC dI (some (.int (b2i r))) ([cX8 a0 g0 o0, cX8_0 cI g0 o0, cX8_1 cI g0 o0, cX8_3 cI g0 o0, cX8_4 cI g0 o0, cX8_6 cI g0 o0, cX8_8 cI g0 o0, cX8_9 cI g0 o0, cX8_10 cI g0 o0, cX8_12 cI g0 o0, cX8_13 cI g0 o0, cX8_15 cI g0 o0, cX8_17 cI g0 o0, cX8_18 cI g0 o0, cX8_22 cB g0 o0, cX8_27 cI g0 o0, cX8_28 cI g0 o0, cX8_29 cI g0 o0, cX8_30 cI g0 o0, cX8_31 cI g0 o0, cX8_32 cI g0 o0, cX8_33 cI g0 o0]) A) ([.ref a0, .int v1, .int v2] : List Value).toArray s 0 0 A := ⟨_, rfl⟩
  rw [← hQ]
  rw [f_X8_isPush] at h
  clear hAe hD0
  refine lv_iload_n hx hb dX8_isPush_0 rfl (lv_at hl 1 rfl) ?_
  refine lv_i2l hx hb dX8_isPush_1 rfl ?_
  refine lv_lconst (v := 0) hx hb dX8_isPush_2 (by decide) ?_
  refine lv_aload_n hx hb dX8_isPush_3 rfl (lv_at hl 0 rfl) ?_
  refine va_get (D := (dC, dI)) (ci := 8) (v := .int (o0.1 5)) (C := RX8) (T := TX8) (N := 36) hx hb hts hiX8 hown hKK.1 hP 0 rfl rfl 5 (by decide) (hts (.fieldLink RX8 101 "SlideLandModel" "pushes" "I") (List.mem_of_getElem? (i := 1) rfl)) (fun _ h9 => h9) rfl dX8_isPush_4 ?_
  refine lv_iconst (v := (1 : Int32)) hx hb dX8_isPush_7 (by decide) ?_
  refine lv_isub hx hb dX8_isPush_8 ?_
  refine lv_i2l hx hb dX8_isPush_9 rfl ?_
  obtain ⟨q1, hq1, h⟩ := bnd_e h
  refine kcS (rest := []) (w2 := ([cX8 a0 g0 o0, cX8_0 cI g0 o0, cX8_1 cI g0 o0, cX8_3 cI g0 o0, cX8_4 cI g0 o0, cX8_6 cI g0 o0, cX8_8 cI g0 o0, cX8_9 cI g0 o0, cX8_10 cI g0 o0, cX8_12 cI g0 o0, cX8_13 cI g0 o0, cX8_15 cI g0 o0, cX8_17 cI g0 o0, cX8_18 cI g0 o0, cX8_22 cB g0 o0, cX8_27 cI g0 o0, cX8_28 cI g0 o0, cX8_29 cI g0 o0, cX8_30 cI g0 o0, cX8_31 cI g0 o0, cX8_32 cI g0 o0, cX8_33 cI g0 o0])) hx hb hml hown hts hKK hP hD hS hA (c_X8_in l dC dI cB cI cZ cO (v1.toInt64) (0 : Int64) ((((o0.1 5) - (1 : Int32))).toInt64) hq1) [] (atAll_map trivial) (by decide +kernel) (sameAd_map trivial) (atAll_map trivial) (agr_refl _ _ _) (va_cwS 3 hts gX8_isPush_X8_in rfl rfl rfl dsc_X8_in ⟨Nat.le_of_ble_eq_true rfl, Nat.le_of_ble_eq_true rfl⟩) rfl hl.1 rfl (Nat.le_of_ble_eq_true rfl) dX8_isPush_10 ⟨Nat.zero_le _, Nat.zero_le _⟩ (fun H locs hP hD hS => ?_)
  refine lv_if_eq (tgt := 30) hx hb dX8_isPush_13 (by decide) (fun k2 => ?_) (fun k2 => ?_)
  · have h := ite_t k2 h
    refine lv_iconst (v := (0 : Int32)) hx hb dX8_isPush_30 (by decide) ?_
    subst h
    subst hQ
    exact W.zret (v := (0 : Int32)) hx hb hr rfl (fun t ht hW => ⟨⟨rfl, by rw [ht]; exact hP, hD⟩, hS.F ht⟩) hS.2.2 dX8_isPush_31
  · have h := ite_f k2 h
    refine lv_iload_n hx hb dX8_isPush_16 rfl (lv_at hl 2 rfl) ?_
    refine lv_i2l hx hb dX8_isPush_17 rfl ?_
    refine lv_lconst (v := 0) hx hb dX8_isPush_18 (by decide) ?_
    refine lv_lconst (v := 1) hx hb dX8_isPush_19 (by decide) ?_
    obtain ⟨q3, hq3, h⟩ := bnd_e h
    refine kcS (rest := []) (w2 := ([cX8 a0 g0 o0, cX8_0 cI g0 o0, cX8_1 cI g0 o0, cX8_3 cI g0 o0, cX8_4 cI g0 o0, cX8_6 cI g0 o0, cX8_8 cI g0 o0, cX8_9 cI g0 o0, cX8_10 cI g0 o0, cX8_12 cI g0 o0, cX8_13 cI g0 o0, cX8_15 cI g0 o0, cX8_17 cI g0 o0, cX8_18 cI g0 o0, cX8_22 cB g0 o0, cX8_27 cI g0 o0, cX8_28 cI g0 o0, cX8_29 cI g0 o0, cX8_30 cI g0 o0, cX8_31 cI g0 o0, cX8_32 cI g0 o0, cX8_33 cI g0 o0])) hx hb hml hown hts hKK hP hD hS hA (c_X8_in l dC dI cB cI cZ cO (v2.toInt64) (0 : Int64) (1 : Int64) hq3) [] (atAll_map trivial) (by decide +kernel) (sameAd_map trivial) (atAll_map trivial) (agr_refl _ _ _) (va_cwS 3 hts gX8_isPush_X8_in rfl rfl rfl dsc_X8_in ⟨Nat.le_of_ble_eq_true rfl, Nat.le_of_ble_eq_true rfl⟩) rfl hl.1 rfl (Nat.le_of_ble_eq_true rfl) dX8_isPush_20 ⟨Nat.zero_le _, Nat.zero_le _⟩ (fun H locs hP hD hS => ?_)
    refine lv_if_eq (tgt := 30) hx hb dX8_isPush_23 (by decide) (fun k4 => ?_) (fun k4 => ?_)
    · have h := ite_t k4 h
      refine lv_iconst (v := (0 : Int32)) hx hb dX8_isPush_30 (by decide) ?_
      subst h
      subst hQ
      exact W.zret (v := (0 : Int32)) hx hb hr rfl (fun t ht hW => ⟨⟨rfl, by rw [ht]; exact hP, hD⟩, hS.F ht⟩) hS.2.2 dX8_isPush_31
    · have h := ite_f k4 h
      refine lv_iconst (v := (1 : Int32)) hx hb dX8_isPush_26 (by decide) ?_
      refine lv_goto (tgt := 31) hx hb dX8_isPush_27 (by decide) ?_
      subst h
      subst hQ
      exact W.zret (v := (1 : Int32)) hx hb hr rfl (fun t ht hW => ⟨⟨rfl, by rw [ht]; exact hP, hD⟩, hS.F ht⟩) hS.2.2 dX8_isPush_31
def f_X8_write (o0 : Ob) (v1 : Int32) : Option (Int32 × Ob) := bnd (f_X8_in (v1.toInt64) (32 : Int64) (126 : Int64)) fun q1 : Bool => if (b2i q1) = 0 then (some ((-1 : Int32), o0)) else (if (o0.1 21) = (200 : Int32) then (some ((-3 : Int32), o0)) else (if (o0.1 21) < 0 ∨ 200 ≤ (o0.1 21).toNatClampNeg then none else bnd (upd (o0.2 22) (o0.1 21).toNatClampNeg (vp_nar .byte (v1.toInt8.toInt32))) fun u5 : Nat → Int32 => bnd ((o0.1 21) + (1 : Int32)) fun x6 : Int32 => some (x6, (stR (stF o0 21 x6) 22 u5))))
abbrev rmX8_write : Room := { frames := 1, cells := 0, slots := 0, locals := 25 }
theorem dsc_X8_write : yX8_write.cls ≠ "java/lang/invoke/MethodHandle" ∧ yX8_write.cls ≠ "java/lang/invoke/VarHandle" ∧ (parseMethodDescriptor yX8_write.desc).map (fun d => d.parameters.length) = some 1 := by decide +kernel
set_option maxHeartbeats 4000000 in
set_option maxRecDepth 100000 in
theorem c_X8_write (l : Launch) (dC : Nat → ClassId) (dI : Nat → Nat → Nat) (cB cI cZ cO : ClassId) (a0 : Nat) (g0 : Nat → Nat) (o0 : Ob) (v1 : Int32) {r : Int32 × Ob} (h : f_X8_write o0 v1 = some r) : Ct dC dI cB cI cZ cO l yX8_write wsX8_write rmX8_write [.ref a0, .int v1] ([cX8 a0 g0 o0, cX8_0 cI g0 o0, cX8_1 cI g0 o0, cX8_3 cI g0 o0, cX8_4 cI g0 o0, cX8_6 cI g0 o0, cX8_8 cI g0 o0, cX8_9 cI g0 o0, cX8_10 cI g0 o0, cX8_12 cI g0 o0, cX8_13 cI g0 o0, cX8_15 cI g0 o0, cX8_17 cI g0 o0, cX8_18 cI g0 o0, cX8_22 cB g0 o0, cX8_27 cI g0 o0, cX8_28 cI g0 o0, cX8_29 cI g0 o0, cX8_30 cI g0 o0, cX8_31 cI g0 o0, cX8_32 cI g0 o0, cX8_33 cI g0 o0]) (some (.int r.1)) ([cX8 a0 g0 r.2, cX8_0 cI g0 r.2, cX8_1 cI g0 r.2, cX8_3 cI g0 r.2, cX8_4 cI g0 r.2, cX8_6 cI g0 r.2, cX8_8 cI g0 r.2, cX8_9 cI g0 r.2, cX8_10 cI g0 r.2, cX8_12 cI g0 r.2, cX8_13 cI g0 r.2, cX8_15 cI g0 r.2, cX8_17 cI g0 r.2, cX8_18 cI g0 r.2, cX8_22 cB g0 r.2, cX8_27 cI g0 r.2, cX8_28 cI g0 r.2, cX8_29 cI g0 r.2, cX8_30 cI g0 r.2, cX8_31 cI g0 r.2, cX8_32 cI g0 r.2, cX8_33 cI g0 r.2]) := by
  intro sz
  refine Met.ofW (cc := cX8_write) (maxL := 2) (ret := (some .int)) (by decide) rfl ?_
  intro p e s m args below meth c s₁ B hml hv
  obtain ⟨rfl, hsz, hP, hKK, hD0⟩ := hv
  have hx := B.exec
  have hb := B.bytes
  have hr := B.returns
  have hts := atoms_spec (ws := wsX8_write) B.pre
  have hown : s.vm.findClass RX8 = some m.cls := findClass_of_methodNamed B.named
  have hlocks := B.notSynchronized
  have hiX8 : ∀ w ∈ u_ws RX8 TX8 36, w ∈ wsX8_write := fun w h => List.mem_cons_of_mem _ (List.mem_append_right _ h)
  subst hsz
  have hD := hD0.self (sz := s.heap.size)
  generalize hAe : va_A ([cX8 a0 g0 o0, cX8_0 cI g0 o0, cX8_1 cI g0 o0, cX8_3 cI g0 o0, cX8_4 cI g0 o0, cX8_6 cI g0 o0, cX8_8 cI g0 o0, cX8_9 cI g0 o0, cX8_10 cI g0 o0, cX8_12 cI g0 o0, cX8_13 cI g0 o0, cX8_15 cI g0 o0, cX8_17 cI g0 o0, cX8_18 cI g0 o0, cX8_22 cB g0 o0, cX8_27 cI g0 o0, cX8_28 cI g0 o0, cX8_29 cI g0 o0, cX8_30 cI g0 o0, cX8_31 cI g0 o0, cX8_32 cI g0 o0, cX8_33 cI g0 o0]) s.heap.size = A at hD ⊢
  have hA : ∀ q : Nat, s.heap.size ≤ q → A q := fun q h => by rw [← hAe]; exact Or.inr h
  have hS : va_S A s.heap s.heap [] := va_S.rf
  have hP : va_P (dC, dI) vwCl ([cX8 a0 g0 o0, cX8_0 cI g0 o0, cX8_1 cI g0 o0, cX8_3 cI g0 o0, cX8_4 cI g0 o0, cX8_6 cI g0 o0, cX8_8 cI g0 o0, cX8_9 cI g0 o0, cX8_10 cI g0 o0, cX8_12 cI g0 o0, cX8_13 cI g0 o0, cX8_15 cI g0 o0, cX8_17 cI g0 o0, cX8_18 cI g0 o0, cX8_22 cB g0 o0, cX8_27 cI g0 o0, cX8_28 cI g0 o0, cX8_29 cI g0 o0, cX8_30 cI g0 o0, cX8_31 cI g0 o0, cX8_32 cI g0 o0, cX8_33 cI g0 o0]) s.heap := hP
  have hD : va_D A ([cX8 a0 g0 o0, cX8_0 cI g0 o0, cX8_1 cI g0 o0, cX8_3 cI g0 o0, cX8_4 cI g0 o0, cX8_6 cI g0 o0, cX8_8 cI g0 o0, cX8_9 cI g0 o0, cX8_10 cI g0 o0, cX8_12 cI g0 o0, cX8_13 cI g0 o0, cX8_15 cI g0 o0, cX8_17 cI g0 o0, cX8_18 cI g0 o0, cX8_22 cB g0 o0, cX8_27 cI g0 o0, cX8_28 cI g0 o0, cX8_29 cI g0 o0, cX8_30 cI g0 o0, cX8_31 cI g0 o0, cX8_32 cI g0 o0, cX8_33 cI g0 o0]) := hD
  have hl := lv_entry ([.ref a0, .int v1]) (n := 2) (Nat.le_of_ble_eq_true rfl)
  rw [lg_entry_eq]
  generalize (lg_sl ([.ref a0, .int v1]) ++ List.replicate (2 - (lg_sl ([.ref a0, .int v1])).length) Slot.unset).toArray = ls at hl ⊢
  have hl : lv_has ls 2 [(0, .ref a0), (1, .int v1)] := hl
  obtain ⟨Q, hQ⟩ : ∃ Q, Q = MQ below (Qq dC dI (some (.int r.1)) ([cX8 a0 g0 r.2, cX8_0 cI g0 r.2, cX8_1 cI g0 r.2, cX8_3 cI g0 r.2, cX8_4 cI g0 r.2, cX8_6 cI g0 r.2, cX8_8 cI g0 r.2, cX8_9 cI g0 r.2, cX8_10 cI g0 r.2, cX8_12 cI g0 r.2, cX8_13 cI g0 r.2, cX8_15 cI g0 r.2, cX8_17 cI g0 r.2, cX8_18 cI g0 r.2, cX8_22 cB g0 r.2, cX8_27 cI g0 r.2, cX8_28 cI g0 r.2, cX8_29 cI g0 r.2, cX8_30 cI g0 r.2, cX8_31 cI g0 r.2, cX8_32 cI g0 r.2, cX8_33 cI g0 r.2]) A) ([.ref a0, .int v1] : List Value).toArray s 0 0 A := ⟨_, rfl⟩
  rw [← hQ]
  rw [f_X8_write] at h
  clear hAe hD0
  refine lv_iload_n hx hb dX8_write_0 rfl (lv_at hl 1 rfl) ?_
  refine lv_i2l hx hb dX8_write_1 rfl ?_
  refine lv_ldc2 hx hb hown (hts (.constantLong RX8 114 (32)) (List.mem_of_getElem? (i := 1) rfl)) dX8_write_2 ?_
  refine lv_ldc2 hx hb hown (hts (.constantLong RX8 116 (126)) (List.mem_of_getElem? (i := 2) rfl)) dX8_write_5 ?_
  obtain ⟨q1, hq1, h⟩ := bnd_e h
  refine kcS (rest := []) (w2 := ([cX8 a0 g0 o0, cX8_0 cI g0 o0, cX8_1 cI g0 o0, cX8_3 cI g0 o0, cX8_4 cI g0 o0, cX8_6 cI g0 o0, cX8_8 cI g0 o0, cX8_9 cI g0 o0, cX8_10 cI g0 o0, cX8_12 cI g0 o0, cX8_13 cI g0 o0, cX8_15 cI g0 o0, cX8_17 cI g0 o0, cX8_18 cI g0 o0, cX8_22 cB g0 o0, cX8_27 cI g0 o0, cX8_28 cI g0 o0, cX8_29 cI g0 o0, cX8_30 cI g0 o0, cX8_31 cI g0 o0, cX8_32 cI g0 o0, cX8_33 cI g0 o0])) hx hb hml hown hts hKK hP hD hS hA (c_X8_in l dC dI cB cI cZ cO (v1.toInt64) (32 : Int64) (126 : Int64) hq1) [] (atAll_map trivial) (by decide +kernel) (sameAd_map trivial) (atAll_map trivial) (agr_refl _ _ _) (va_cwS 3 hts gX8_write_X8_in rfl rfl rfl dsc_X8_in ⟨Nat.le_of_ble_eq_true rfl, Nat.le_of_ble_eq_true rfl⟩) rfl hl.1 rfl (Nat.le_of_ble_eq_true rfl) dX8_write_8 ⟨Nat.zero_le _, Nat.zero_le _⟩ (fun H locs hP hD hS => ?_)
  refine lv_if_ne (tgt := 16) hx hb dX8_write_11 (by decide) (fun k2 => ?_) (fun k2 => ?_)
  · have h := ite_f k2 h
    refine lv_aload_n hx hb dX8_write_16 rfl (lv_at hl 0 rfl) ?_
    refine va_get (D := (dC, dI)) (ci := 8) (v := .int (o0.1 21)) (C := RX8) (T := TX8) (N := 36) hx hb hts hiX8 hown hKK.1 hP 0 rfl rfl 21 (by decide) (hts (.fieldLink RX8 118 "SlideLandModel" "length" "I") (List.mem_of_getElem? (i := 3) rfl)) (fun _ h9 => h9) rfl dX8_write_17 ?_
    refine lv_sipush (v := (200 : Int32)) hx hb dX8_write_20 (by decide) ?_
    refine lv_icmp_ne (tgt := 29) hx hb dX8_write_23 (by decide) (fun k3 => ?_) (fun k3 => ?_)
    · have h := ite_f k3 h
      refine lv_aload_n hx hb dX8_write_29 rfl (lv_at hl 0 rfl) ?_
      refine va_get (D := (dC, dI)) (ci := 8) (v := .ref (g0 22)) (C := RX8) (T := TX8) (N := 36) hx hb hts hiX8 hown hKK.1 hP 0 rfl rfl 22 (by decide) (hts (.fieldLink RX8 49 "SlideLandModel" "text" "[B") (List.mem_of_getElem? (i := 4) rfl)) (fun _ h9 => h9) rfl dX8_write_30 ?_
      refine lv_aload_n hx hb dX8_write_33 rfl (lv_at hl 0 rfl) ?_
      refine va_get (D := (dC, dI)) (ci := 8) (v := .int (o0.1 21)) (C := RX8) (T := TX8) (N := 36) hx hb hts hiX8 hown hKK.1 hP 0 rfl rfl 21 (by decide) (hts (.fieldLink RX8 118 "SlideLandModel" "length" "I") (List.mem_of_getElem? (i := 3) rfl)) (fun _ h9 => h9) rfl dX8_write_34 ?_
      refine lv_iload_n hx hb dX8_write_37 rfl (lv_at hl 1 rfl) ?_
      refine lv_i2b hx hb dX8_write_38 rfl ?_
      obtain ⟨k4, h⟩ := ite_n h
      obtain ⟨u5, hu5, h⟩ := bnd_e h
      refine k_bast (f := (o0.2 22)) hx hb hKK.1 hP hD hS 14 0 hu5 rfl rfl k4 dX8_write_39 (fun H locs hP hD hS => ?_)
      have hP : va_P (dC, dI) vwCl ([cX8 a0 g0 (stR o0 22 u5), cX8_0 cI g0 (stR o0 22 u5), cX8_1 cI g0 (stR o0 22 u5), cX8_3 cI g0 (stR o0 22 u5), cX8_4 cI g0 (stR o0 22 u5), cX8_6 cI g0 (stR o0 22 u5), cX8_8 cI g0 (stR o0 22 u5), cX8_9 cI g0 (stR o0 22 u5), cX8_10 cI g0 (stR o0 22 u5), cX8_12 cI g0 (stR o0 22 u5), cX8_13 cI g0 (stR o0 22 u5), cX8_15 cI g0 (stR o0 22 u5), cX8_17 cI g0 (stR o0 22 u5), cX8_18 cI g0 (stR o0 22 u5), cX8_22 cB g0 (stR o0 22 u5), cX8_27 cI g0 (stR o0 22 u5), cX8_28 cI g0 (stR o0 22 u5), cX8_29 cI g0 (stR o0 22 u5), cX8_30 cI g0 (stR o0 22 u5), cX8_31 cI g0 (stR o0 22 u5), cX8_32 cI g0 (stR o0 22 u5), cX8_33 cI g0 (stR o0 22 u5)]) H := hP
      have hD : va_D A ([cX8 a0 g0 (stR o0 22 u5), cX8_0 cI g0 (stR o0 22 u5), cX8_1 cI g0 (stR o0 22 u5), cX8_3 cI g0 (stR o0 22 u5), cX8_4 cI g0 (stR o0 22 u5), cX8_6 cI g0 (stR o0 22 u5), cX8_8 cI g0 (stR o0 22 u5), cX8_9 cI g0 (stR o0 22 u5), cX8_10 cI g0 (stR o0 22 u5), cX8_12 cI g0 (stR o0 22 u5), cX8_13 cI g0 (stR o0 22 u5), cX8_15 cI g0 (stR o0 22 u5), cX8_17 cI g0 (stR o0 22 u5), cX8_18 cI g0 (stR o0 22 u5), cX8_22 cB g0 (stR o0 22 u5), cX8_27 cI g0 (stR o0 22 u5), cX8_28 cI g0 (stR o0 22 u5), cX8_29 cI g0 (stR o0 22 u5), cX8_30 cI g0 (stR o0 22 u5), cX8_31 cI g0 (stR o0 22 u5), cX8_32 cI g0 (stR o0 22 u5), cX8_33 cI g0 (stR o0 22 u5)]) := hD
      refine lv_aload_n hx hb dX8_write_40 rfl (lv_at hl 0 rfl) ?_
      refine lv_dup hx hb dX8_write_41 rfl ?_
      refine va_get (D := (dC, dI)) (ci := 8) (v := .int (o0.1 21)) (C := RX8) (T := TX8) (N := 36) hx hb hts hiX8 hown hKK.1 hP 0 rfl rfl 21 (by decide) (hts (.fieldLink RX8 118 "SlideLandModel" "length" "I") (List.mem_of_getElem? (i := 3) rfl)) (fun _ h9 => h9) rfl dX8_write_42 ?_
      refine lv_iconst (v := (1 : Int32)) hx hb dX8_write_45 (by decide) ?_
      refine lv_iadd hx hb dX8_write_46 ?_
      obtain ⟨x6, hx6, h⟩ := bnd_e h
      rw [hx6]
      refine va_put (D := (dC, dI)) (ci := 8) (v := .int x6) (ty := .int) (C := RX8) (T := TX8) (N := 36) hx hb hts hiX8 tyX8 tyX8_ok nmX8 hown hKK.1 hP hD hS 0 rfl rfl 21 (by decide) (hts (.fieldLink RX8 118 "SlideLandModel" "length" "I") (List.mem_of_getElem? (i := 3) rfl)) (fun _ h9 => h9) rfl (by decide +kernel) rfl rfl (Nat.le_of_ble_eq_true rfl) dX8_write_47 (fun H locs hP hD hS => ?_)
      have hP : va_P (dC, dI) vwCl ([cX8 a0 g0 (stR (stF o0 21 x6) 22 u5), cX8_0 cI g0 (stR (stF o0 21 x6) 22 u5), cX8_1 cI g0 (stR (stF o0 21 x6) 22 u5), cX8_3 cI g0 (stR (stF o0 21 x6) 22 u5), cX8_4 cI g0 (stR (stF o0 21 x6) 22 u5), cX8_6 cI g0 (stR (stF o0 21 x6) 22 u5), cX8_8 cI g0 (stR (stF o0 21 x6) 22 u5), cX8_9 cI g0 (stR (stF o0 21 x6) 22 u5), cX8_10 cI g0 (stR (stF o0 21 x6) 22 u5), cX8_12 cI g0 (stR (stF o0 21 x6) 22 u5), cX8_13 cI g0 (stR (stF o0 21 x6) 22 u5), cX8_15 cI g0 (stR (stF o0 21 x6) 22 u5), cX8_17 cI g0 (stR (stF o0 21 x6) 22 u5), cX8_18 cI g0 (stR (stF o0 21 x6) 22 u5), cX8_22 cB g0 (stR (stF o0 21 x6) 22 u5), cX8_27 cI g0 (stR (stF o0 21 x6) 22 u5), cX8_28 cI g0 (stR (stF o0 21 x6) 22 u5), cX8_29 cI g0 (stR (stF o0 21 x6) 22 u5), cX8_30 cI g0 (stR (stF o0 21 x6) 22 u5), cX8_31 cI g0 (stR (stF o0 21 x6) 22 u5), cX8_32 cI g0 (stR (stF o0 21 x6) 22 u5), cX8_33 cI g0 (stR (stF o0 21 x6) 22 u5)]) H := hP
      have hD : va_D A ([cX8 a0 g0 (stR (stF o0 21 x6) 22 u5), cX8_0 cI g0 (stR (stF o0 21 x6) 22 u5), cX8_1 cI g0 (stR (stF o0 21 x6) 22 u5), cX8_3 cI g0 (stR (stF o0 21 x6) 22 u5), cX8_4 cI g0 (stR (stF o0 21 x6) 22 u5), cX8_6 cI g0 (stR (stF o0 21 x6) 22 u5), cX8_8 cI g0 (stR (stF o0 21 x6) 22 u5), cX8_9 cI g0 (stR (stF o0 21 x6) 22 u5), cX8_10 cI g0 (stR (stF o0 21 x6) 22 u5), cX8_12 cI g0 (stR (stF o0 21 x6) 22 u5), cX8_13 cI g0 (stR (stF o0 21 x6) 22 u5), cX8_15 cI g0 (stR (stF o0 21 x6) 22 u5), cX8_17 cI g0 (stR (stF o0 21 x6) 22 u5), cX8_18 cI g0 (stR (stF o0 21 x6) 22 u5), cX8_22 cB g0 (stR (stF o0 21 x6) 22 u5), cX8_27 cI g0 (stR (stF o0 21 x6) 22 u5), cX8_28 cI g0 (stR (stF o0 21 x6) 22 u5), cX8_29 cI g0 (stR (stF o0 21 x6) 22 u5), cX8_30 cI g0 (stR (stF o0 21 x6) 22 u5), cX8_31 cI g0 (stR (stF o0 21 x6) 22 u5), cX8_32 cI g0 (stR (stF o0 21 x6) 22 u5), cX8_33 cI g0 (stR (stF o0 21 x6) 22 u5)]) := hD
      refine lv_aload_n hx hb dX8_write_50 rfl (lv_at hl 0 rfl) ?_
      refine va_get (D := (dC, dI)) (ci := 8) (v := .int x6) (C := RX8) (T := TX8) (N := 36) hx hb hts hiX8 hown hKK.1 hP 0 rfl rfl 21 (by decide) (hts (.fieldLink RX8 118 "SlideLandModel" "length" "I") (List.mem_of_getElem? (i := 3) rfl)) (fun _ h9 => h9) rfl dX8_write_51 ?_
      have h := Option.some.inj h
      subst h
      subst hQ
      exact W.iret (v := x6) hx hb hr (fun t ht hW => ⟨⟨rfl, by rw [ht]; exact hP, hD⟩, hS.F ht⟩) hS.2.2 dX8_write_54
    · have h := ite_t k3 h
      refine lv_bipush (v := (-3 : Int32)) hx hb dX8_write_26 (by decide) ?_
      have h := Option.some.inj h
      subst h
      subst hQ
      exact W.iret (v := (-3 : Int32)) hx hb hr (fun t ht hW => ⟨⟨rfl, by rw [ht]; exact hP, hD⟩, hS.F ht⟩) hS.2.2 dX8_write_28
  · have h := ite_t k2 h
    refine lv_iconst (v := (-1 : Int32)) hx hb dX8_write_14 (by decide) ?_
    have h := Option.some.inj h
    subst h
    subst hQ
    exact W.iret (v := (-1 : Int32)) hx hb hr (fun t ht hW => ⟨⟨rfl, by rw [ht]; exact hP, hD⟩, hS.F ht⟩) hS.2.2 dX8_write_15
def f_X8_wipe (o0 : Ob) : Int32 × Ob := bnd (o0.1 21) fun x1 : Int32 => (x1, (stF o0 21 (0 : Int32)))
abbrev rmX8_wipe : Room := { frames := 0, cells := 0, slots := 0, locals := 0 }
theorem dsc_X8_wipe : yX8_wipe.cls ≠ "java/lang/invoke/MethodHandle" ∧ yX8_wipe.cls ≠ "java/lang/invoke/VarHandle" ∧ (parseMethodDescriptor yX8_wipe.desc).map (fun d => d.parameters.length) = some 0 := by decide +kernel
set_option maxHeartbeats 4000000 in
set_option maxRecDepth 100000 in
theorem c_X8_wipe (l : Launch) (dC : Nat → ClassId) (dI : Nat → Nat → Nat) (cB cI cZ cO : ClassId) (a0 : Nat) (g0 : Nat → Nat) (o0 : Ob) {r : Int32 × Ob} (h : f_X8_wipe o0 = r) : Ct dC dI cB cI cZ cO l yX8_wipe wsX8_wipe rmX8_wipe [.ref a0] ([cX8 a0 g0 o0, cX8_0 cI g0 o0, cX8_1 cI g0 o0, cX8_3 cI g0 o0, cX8_4 cI g0 o0, cX8_6 cI g0 o0, cX8_8 cI g0 o0, cX8_9 cI g0 o0, cX8_10 cI g0 o0, cX8_12 cI g0 o0, cX8_13 cI g0 o0, cX8_15 cI g0 o0, cX8_17 cI g0 o0, cX8_18 cI g0 o0, cX8_22 cB g0 o0, cX8_27 cI g0 o0, cX8_28 cI g0 o0, cX8_29 cI g0 o0, cX8_30 cI g0 o0, cX8_31 cI g0 o0, cX8_32 cI g0 o0, cX8_33 cI g0 o0]) (some (.int r.1)) ([cX8 a0 g0 r.2, cX8_0 cI g0 r.2, cX8_1 cI g0 r.2, cX8_3 cI g0 r.2, cX8_4 cI g0 r.2, cX8_6 cI g0 r.2, cX8_8 cI g0 r.2, cX8_9 cI g0 r.2, cX8_10 cI g0 r.2, cX8_12 cI g0 r.2, cX8_13 cI g0 r.2, cX8_15 cI g0 r.2, cX8_17 cI g0 r.2, cX8_18 cI g0 r.2, cX8_22 cB g0 r.2, cX8_27 cI g0 r.2, cX8_28 cI g0 r.2, cX8_29 cI g0 r.2, cX8_30 cI g0 r.2, cX8_31 cI g0 r.2, cX8_32 cI g0 r.2, cX8_33 cI g0 r.2]) := by
  intro sz
  refine Met.ofW (cc := cX8_wipe) (maxL := 2) (ret := (some .int)) (by decide) rfl ?_
  intro p e s m args below meth c s₁ B hml hv
  obtain ⟨rfl, hsz, hP, hKK, hD0⟩ := hv
  have hx := B.exec
  have hb := B.bytes
  have hr := B.returns
  have hts := atoms_spec (ws := wsX8_wipe) B.pre
  have hown : s.vm.findClass RX8 = some m.cls := findClass_of_methodNamed B.named
  have hlocks := B.notSynchronized
  have hiX8 : ∀ w ∈ u_ws RX8 TX8 36, w ∈ wsX8_wipe := fun w h => List.mem_cons_of_mem _ (List.mem_append_right _ h)
  subst hsz
  have hD := hD0.self (sz := s.heap.size)
  generalize hAe : va_A ([cX8 a0 g0 o0, cX8_0 cI g0 o0, cX8_1 cI g0 o0, cX8_3 cI g0 o0, cX8_4 cI g0 o0, cX8_6 cI g0 o0, cX8_8 cI g0 o0, cX8_9 cI g0 o0, cX8_10 cI g0 o0, cX8_12 cI g0 o0, cX8_13 cI g0 o0, cX8_15 cI g0 o0, cX8_17 cI g0 o0, cX8_18 cI g0 o0, cX8_22 cB g0 o0, cX8_27 cI g0 o0, cX8_28 cI g0 o0, cX8_29 cI g0 o0, cX8_30 cI g0 o0, cX8_31 cI g0 o0, cX8_32 cI g0 o0, cX8_33 cI g0 o0]) s.heap.size = A at hD ⊢
  have hA : ∀ q : Nat, s.heap.size ≤ q → A q := fun q h => by rw [← hAe]; exact Or.inr h
  have hS : va_S A s.heap s.heap [] := va_S.rf
  have hP : va_P (dC, dI) vwCl ([cX8 a0 g0 o0, cX8_0 cI g0 o0, cX8_1 cI g0 o0, cX8_3 cI g0 o0, cX8_4 cI g0 o0, cX8_6 cI g0 o0, cX8_8 cI g0 o0, cX8_9 cI g0 o0, cX8_10 cI g0 o0, cX8_12 cI g0 o0, cX8_13 cI g0 o0, cX8_15 cI g0 o0, cX8_17 cI g0 o0, cX8_18 cI g0 o0, cX8_22 cB g0 o0, cX8_27 cI g0 o0, cX8_28 cI g0 o0, cX8_29 cI g0 o0, cX8_30 cI g0 o0, cX8_31 cI g0 o0, cX8_32 cI g0 o0, cX8_33 cI g0 o0]) s.heap := hP
  have hD : va_D A ([cX8 a0 g0 o0, cX8_0 cI g0 o0, cX8_1 cI g0 o0, cX8_3 cI g0 o0, cX8_4 cI g0 o0, cX8_6 cI g0 o0, cX8_8 cI g0 o0, cX8_9 cI g0 o0, cX8_10 cI g0 o0, cX8_12 cI g0 o0, cX8_13 cI g0 o0, cX8_15 cI g0 o0, cX8_17 cI g0 o0, cX8_18 cI g0 o0, cX8_22 cB g0 o0, cX8_27 cI g0 o0, cX8_28 cI g0 o0, cX8_29 cI g0 o0, cX8_30 cI g0 o0, cX8_31 cI g0 o0, cX8_32 cI g0 o0, cX8_33 cI g0 o0]) := hD
  have hl := lv_entry ([.ref a0]) (n := 2) (Nat.le_of_ble_eq_true rfl)
  rw [lg_entry_eq]
  generalize (lg_sl ([.ref a0]) ++ List.replicate (2 - (lg_sl ([.ref a0])).length) Slot.unset).toArray = ls at hl ⊢
  have hl : lv_has ls 2 [(0, .ref a0)] := hl
  obtain ⟨Q, hQ⟩ : ∃ Q, Q = MQ below (Qq dC dI (some (.int r.1)) ([cX8 a0 g0 r.2, cX8_0 cI g0 r.2, cX8_1 cI g0 r.2, cX8_3 cI g0 r.2, cX8_4 cI g0 r.2, cX8_6 cI g0 r.2, cX8_8 cI g0 r.2, cX8_9 cI g0 r.2, cX8_10 cI g0 r.2, cX8_12 cI g0 r.2, cX8_13 cI g0 r.2, cX8_15 cI g0 r.2, cX8_17 cI g0 r.2, cX8_18 cI g0 r.2, cX8_22 cB g0 r.2, cX8_27 cI g0 r.2, cX8_28 cI g0 r.2, cX8_29 cI g0 r.2, cX8_30 cI g0 r.2, cX8_31 cI g0 r.2, cX8_32 cI g0 r.2, cX8_33 cI g0 r.2]) A) ([.ref a0] : List Value).toArray s 0 0 A := ⟨_, rfl⟩
  rw [← hQ]
  rw [f_X8_wipe] at h
  clear hAe hD0
  refine lv_aload_n hx hb dX8_wipe_0 rfl (lv_at hl 0 rfl) ?_
  refine va_get (D := (dC, dI)) (ci := 8) (v := .int (o0.1 21)) (C := RX8) (T := TX8) (N := 36) hx hb hts hiX8 hown hKK.1 hP 0 rfl rfl 21 (by decide) (hts (.fieldLink RX8 118 "SlideLandModel" "length" "I") (List.mem_of_getElem? (i := 1) rfl)) (fun _ h9 => h9) rfl dX8_wipe_1 ?_
  obtain ⟨x1, hx1, h⟩ := bnd_e h
  refine lv_topE hx1 ?_
  refine lv_istore_n (lv' := [(1, .int x1), (0, .ref a0)]) hx hb dX8_wipe_4 rfl hl (by decide) rfl (fun ls hl => ?_)
  refine lv_aload_n hx hb dX8_wipe_5 rfl (lv_at hl 1 rfl) ?_
  refine lv_iconst (v := (0 : Int32)) hx hb dX8_wipe_6 (by decide) ?_
  refine va_put (D := (dC, dI)) (ci := 8) (v := .int (0 : Int32)) (ty := .int) (C := RX8) (T := TX8) (N := 36) hx hb hts hiX8 tyX8 tyX8_ok nmX8 hown hKK.1 hP hD hS 0 rfl rfl 21 (by decide) (hts (.fieldLink RX8 118 "SlideLandModel" "length" "I") (List.mem_of_getElem? (i := 1) rfl)) (fun _ h9 => h9) rfl (by decide +kernel) rfl rfl (Nat.le_of_ble_eq_true rfl) dX8_wipe_7 (fun H locs hP hD hS => ?_)
  have hP : va_P (dC, dI) vwCl ([cX8 a0 g0 (stF o0 21 (0 : Int32)), cX8_0 cI g0 (stF o0 21 (0 : Int32)), cX8_1 cI g0 (stF o0 21 (0 : Int32)), cX8_3 cI g0 (stF o0 21 (0 : Int32)), cX8_4 cI g0 (stF o0 21 (0 : Int32)), cX8_6 cI g0 (stF o0 21 (0 : Int32)), cX8_8 cI g0 (stF o0 21 (0 : Int32)), cX8_9 cI g0 (stF o0 21 (0 : Int32)), cX8_10 cI g0 (stF o0 21 (0 : Int32)), cX8_12 cI g0 (stF o0 21 (0 : Int32)), cX8_13 cI g0 (stF o0 21 (0 : Int32)), cX8_15 cI g0 (stF o0 21 (0 : Int32)), cX8_17 cI g0 (stF o0 21 (0 : Int32)), cX8_18 cI g0 (stF o0 21 (0 : Int32)), cX8_22 cB g0 (stF o0 21 (0 : Int32)), cX8_27 cI g0 (stF o0 21 (0 : Int32)), cX8_28 cI g0 (stF o0 21 (0 : Int32)), cX8_29 cI g0 (stF o0 21 (0 : Int32)), cX8_30 cI g0 (stF o0 21 (0 : Int32)), cX8_31 cI g0 (stF o0 21 (0 : Int32)), cX8_32 cI g0 (stF o0 21 (0 : Int32)), cX8_33 cI g0 (stF o0 21 (0 : Int32))]) H := hP
  have hD : va_D A ([cX8 a0 g0 (stF o0 21 (0 : Int32)), cX8_0 cI g0 (stF o0 21 (0 : Int32)), cX8_1 cI g0 (stF o0 21 (0 : Int32)), cX8_3 cI g0 (stF o0 21 (0 : Int32)), cX8_4 cI g0 (stF o0 21 (0 : Int32)), cX8_6 cI g0 (stF o0 21 (0 : Int32)), cX8_8 cI g0 (stF o0 21 (0 : Int32)), cX8_9 cI g0 (stF o0 21 (0 : Int32)), cX8_10 cI g0 (stF o0 21 (0 : Int32)), cX8_12 cI g0 (stF o0 21 (0 : Int32)), cX8_13 cI g0 (stF o0 21 (0 : Int32)), cX8_15 cI g0 (stF o0 21 (0 : Int32)), cX8_17 cI g0 (stF o0 21 (0 : Int32)), cX8_18 cI g0 (stF o0 21 (0 : Int32)), cX8_22 cB g0 (stF o0 21 (0 : Int32)), cX8_27 cI g0 (stF o0 21 (0 : Int32)), cX8_28 cI g0 (stF o0 21 (0 : Int32)), cX8_29 cI g0 (stF o0 21 (0 : Int32)), cX8_30 cI g0 (stF o0 21 (0 : Int32)), cX8_31 cI g0 (stF o0 21 (0 : Int32)), cX8_32 cI g0 (stF o0 21 (0 : Int32)), cX8_33 cI g0 (stF o0 21 (0 : Int32))]) := hD
  refine lv_iload_n hx hb dX8_wipe_10 rfl (lv_at hl 0 rfl) ?_
  subst h
  subst hQ
  exact W.iret (v := x1) hx hb hr (fun t ht hW => ⟨⟨rfl, by rw [ht]; exact hP, hD⟩, hS.F ht⟩) hS.2.2 dX8_wipe_11
def f_X8_next (o0 : Ob) : Option (Int32) := if (o0.1 21) ≤ (o0.1 23) then (some (-1 : Int32)) else (if (o0.1 23) < 0 ∨ 200 ≤ (o0.1 23).toNatClampNeg then none else some ((o0.2 22) (o0.1 23).toNatClampNeg))
abbrev rmX8_next : Room := { frames := 0, cells := 0, slots := 0, locals := 0 }
theorem dsc_X8_next : yX8_next.cls ≠ "java/lang/invoke/MethodHandle" ∧ yX8_next.cls ≠ "java/lang/invoke/VarHandle" ∧ (parseMethodDescriptor yX8_next.desc).map (fun d => d.parameters.length) = some 0 := by decide +kernel
set_option maxHeartbeats 4000000 in
set_option maxRecDepth 100000 in
theorem c_X8_next (l : Launch) (dC : Nat → ClassId) (dI : Nat → Nat → Nat) (cB cI cZ cO : ClassId) (a0 : Nat) (g0 : Nat → Nat) (o0 : Ob) {r : Int32} (h : f_X8_next o0 = some r) : Ct dC dI cB cI cZ cO l yX8_next wsX8_next rmX8_next [.ref a0] ([cX8 a0 g0 o0, cX8_0 cI g0 o0, cX8_1 cI g0 o0, cX8_3 cI g0 o0, cX8_4 cI g0 o0, cX8_6 cI g0 o0, cX8_8 cI g0 o0, cX8_9 cI g0 o0, cX8_10 cI g0 o0, cX8_12 cI g0 o0, cX8_13 cI g0 o0, cX8_15 cI g0 o0, cX8_17 cI g0 o0, cX8_18 cI g0 o0, cX8_22 cB g0 o0, cX8_27 cI g0 o0, cX8_28 cI g0 o0, cX8_29 cI g0 o0, cX8_30 cI g0 o0, cX8_31 cI g0 o0, cX8_32 cI g0 o0, cX8_33 cI g0 o0]) (some (.int r)) ([cX8 a0 g0 o0, cX8_0 cI g0 o0, cX8_1 cI g0 o0, cX8_3 cI g0 o0, cX8_4 cI g0 o0, cX8_6 cI g0 o0, cX8_8 cI g0 o0, cX8_9 cI g0 o0, cX8_10 cI g0 o0, cX8_12 cI g0 o0, cX8_13 cI g0 o0, cX8_15 cI g0 o0, cX8_17 cI g0 o0, cX8_18 cI g0 o0, cX8_22 cB g0 o0, cX8_27 cI g0 o0, cX8_28 cI g0 o0, cX8_29 cI g0 o0, cX8_30 cI g0 o0, cX8_31 cI g0 o0, cX8_32 cI g0 o0, cX8_33 cI g0 o0]) := by
  intro sz
  refine Met.ofW (cc := cX8_next) (maxL := 1) (ret := (some .int)) (by decide) rfl ?_
  intro p e s m args below meth c s₁ B hml hv
  obtain ⟨rfl, hsz, hP, hKK, hD0⟩ := hv
  have hx := B.exec
  have hb := B.bytes
  have hr := B.returns
  have hts := atoms_spec (ws := wsX8_next) B.pre
  have hown : s.vm.findClass RX8 = some m.cls := findClass_of_methodNamed B.named
  have hlocks := B.notSynchronized
  have hiX8 : ∀ w ∈ u_ws RX8 TX8 36, w ∈ wsX8_next := fun w h => List.mem_cons_of_mem _ (List.mem_append_right _ h)
  subst hsz
  have hD := hD0.self (sz := s.heap.size)
  generalize hAe : va_A ([cX8 a0 g0 o0, cX8_0 cI g0 o0, cX8_1 cI g0 o0, cX8_3 cI g0 o0, cX8_4 cI g0 o0, cX8_6 cI g0 o0, cX8_8 cI g0 o0, cX8_9 cI g0 o0, cX8_10 cI g0 o0, cX8_12 cI g0 o0, cX8_13 cI g0 o0, cX8_15 cI g0 o0, cX8_17 cI g0 o0, cX8_18 cI g0 o0, cX8_22 cB g0 o0, cX8_27 cI g0 o0, cX8_28 cI g0 o0, cX8_29 cI g0 o0, cX8_30 cI g0 o0, cX8_31 cI g0 o0, cX8_32 cI g0 o0, cX8_33 cI g0 o0]) s.heap.size = A at hD ⊢
  have hA : ∀ q : Nat, s.heap.size ≤ q → A q := fun q h => by rw [← hAe]; exact Or.inr h
  have hS : va_S A s.heap s.heap [] := va_S.rf
  have hP : va_P (dC, dI) vwCl ([cX8 a0 g0 o0, cX8_0 cI g0 o0, cX8_1 cI g0 o0, cX8_3 cI g0 o0, cX8_4 cI g0 o0, cX8_6 cI g0 o0, cX8_8 cI g0 o0, cX8_9 cI g0 o0, cX8_10 cI g0 o0, cX8_12 cI g0 o0, cX8_13 cI g0 o0, cX8_15 cI g0 o0, cX8_17 cI g0 o0, cX8_18 cI g0 o0, cX8_22 cB g0 o0, cX8_27 cI g0 o0, cX8_28 cI g0 o0, cX8_29 cI g0 o0, cX8_30 cI g0 o0, cX8_31 cI g0 o0, cX8_32 cI g0 o0, cX8_33 cI g0 o0]) s.heap := hP
  have hD : va_D A ([cX8 a0 g0 o0, cX8_0 cI g0 o0, cX8_1 cI g0 o0, cX8_3 cI g0 o0, cX8_4 cI g0 o0, cX8_6 cI g0 o0, cX8_8 cI g0 o0, cX8_9 cI g0 o0, cX8_10 cI g0 o0, cX8_12 cI g0 o0, cX8_13 cI g0 o0, cX8_15 cI g0 o0, cX8_17 cI g0 o0, cX8_18 cI g0 o0, cX8_22 cB g0 o0, cX8_27 cI g0 o0, cX8_28 cI g0 o0, cX8_29 cI g0 o0, cX8_30 cI g0 o0, cX8_31 cI g0 o0, cX8_32 cI g0 o0, cX8_33 cI g0 o0]) := hD
  have hl := lv_entry ([.ref a0]) (n := 1) (Nat.le_of_ble_eq_true rfl)
  rw [lg_entry_eq]
  generalize (lg_sl ([.ref a0]) ++ List.replicate (1 - (lg_sl ([.ref a0])).length) Slot.unset).toArray = ls at hl ⊢
  have hl : lv_has ls 1 [(0, .ref a0)] := hl
  obtain ⟨Q, hQ⟩ : ∃ Q, Q = MQ below (Qq dC dI (some (.int r)) ([cX8 a0 g0 o0, cX8_0 cI g0 o0, cX8_1 cI g0 o0, cX8_3 cI g0 o0, cX8_4 cI g0 o0, cX8_6 cI g0 o0, cX8_8 cI g0 o0, cX8_9 cI g0 o0, cX8_10 cI g0 o0, cX8_12 cI g0 o0, cX8_13 cI g0 o0, cX8_15 cI g0 o0, cX8_17 cI g0 o0, cX8_18 cI g0 o0, cX8_22 cB g0 o0, cX8_27 cI g0 o0, cX8_28 cI g0 o0, cX8_29 cI g0 o0, cX8_30 cI g0 o0, cX8_31 cI g0 o0, cX8_32 cI g0 o0, cX8_33 cI g0 o0]) A) ([.ref a0] : List Value).toArray s 0 0 A := ⟨_, rfl⟩
  rw [← hQ]
  rw [f_X8_next] at h
  clear hAe hD0
  refine lv_aload_n hx hb dX8_next_0 rfl (lv_at hl 0 rfl) ?_
  refine va_get (D := (dC, dI)) (ci := 8) (v := .int (o0.1 23)) (C := RX8) (T := TX8) (N := 36) hx hb hts hiX8 hown hKK.1 hP 0 rfl rfl 23 (by decide) (hts (.fieldLink RX8 121 "SlideLandModel" "at" "I") (List.mem_of_getElem? (i := 1) rfl)) (fun _ h9 => h9) rfl dX8_next_1 ?_
  refine lv_aload_n hx hb dX8_next_4 rfl (lv_at hl 0 rfl) ?_
  refine va_get (D := (dC, dI)) (ci := 8) (v := .int (o0.1 21)) (C := RX8) (T := TX8) (N := 36) hx hb hts hiX8 hown hKK.1 hP 0 rfl rfl 21 (by decide) (hts (.fieldLink RX8 118 "SlideLandModel" "length" "I") (List.mem_of_getElem? (i := 2) rfl)) (fun _ h9 => h9) rfl dX8_next_5 ?_
  refine lv_icmp_ge (tgt := 23) hx hb dX8_next_8 (by decide) (fun k1 => ?_) (fun k1 => ?_)
  · have h := ite_t k1 h
    refine lv_iconst (v := (-1 : Int32)) hx hb dX8_next_23 (by decide) ?_
    have h := Option.some.inj h
    subst h
    subst hQ
    exact W.iret (v := (-1 : Int32)) hx hb hr (fun t ht hW => ⟨⟨rfl, by rw [ht]; exact hP, hD⟩, hS.F ht⟩) hS.2.2 dX8_next_24
  · have h := ite_f k1 h
    refine lv_aload_n hx hb dX8_next_11 rfl (lv_at hl 0 rfl) ?_
    refine va_get (D := (dC, dI)) (ci := 8) (v := .ref (g0 22)) (C := RX8) (T := TX8) (N := 36) hx hb hts hiX8 hown hKK.1 hP 0 rfl rfl 22 (by decide) (hts (.fieldLink RX8 49 "SlideLandModel" "text" "[B") (List.mem_of_getElem? (i := 3) rfl)) (fun _ h9 => h9) rfl dX8_next_12 ?_
    refine lv_aload_n hx hb dX8_next_15 rfl (lv_at hl 0 rfl) ?_
    refine va_get (D := (dC, dI)) (ci := 8) (v := .int (o0.1 23)) (C := RX8) (T := TX8) (N := 36) hx hb hts hiX8 hown hKK.1 hP 0 rfl rfl 23 (by decide) (hts (.fieldLink RX8 121 "SlideLandModel" "at" "I") (List.mem_of_getElem? (i := 1) rfl)) (fun _ h9 => h9) rfl dX8_next_16 ?_
    obtain ⟨k2, h⟩ := ite_n h
    refine va_bald hx hb hKK.1 hP 14 0 rfl rfl k2 dX8_next_19 ?_
    refine lv_goto (tgt := 24) hx hb dX8_next_20 (by decide) ?_
    have h := Option.some.inj h
    subst h
    subst hQ
    exact W.iret (v := ((o0.2 22) (o0.1 23).toNatClampNeg)) hx hb hr (fun t ht hW => ⟨⟨rfl, by rw [ht]; exact hP, hD⟩, hS.F ht⟩) hS.2.2 dX8_next_24
